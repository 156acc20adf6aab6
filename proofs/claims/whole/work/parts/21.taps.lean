def zFr (I I2 : Nat → Nat → Int32) : Prop := ∀ a, a < 74 ∨ 78 < a → I2 a = I a
theorem zFr.trans {I I2 I3 : Nat → Nat → Int32} (h : zFr I I2) (h2 : zFr I2 I3) : zFr I I3 := fun a ha => (h2 a ha).trans (h a ha)
theorem zFr.rfl {I : Nat → Nat → Int32} : zFr I I := fun _ _ => Eq.refl _
/-- the class's town: how many drinkers and ties, who tells whom -/
def zTown (I : Nat → Nat → Int32) (n T : Nat) (A B : Nat → Nat) : Prop := n ≤ 6 ∧ I 15 3 = nI n ∧ T ≤ 10 ∧ I 15 7 = nI T ∧ (∀ k, k < T → I 19 k = nI (A k) ∧ A k < n) ∧ (∀ k, k < T → I 20 k = nI (B k) ∧ B k < n) ∧ ∀ d, d < n → ∃ k, 1 ≤ k ∧ k ≤ 5 ∧ I 16 d = nI k
theorem zTown.keep {I I2 : Nat → Nat → Int32} {n T : Nat} {A B : Nat → Nat} (h : zTown I n T A B) (hf : zFr I I2) : zTown I2 n T A B := by
  unfold zTown at h ⊢
  rw [hf 15 (by omega), hf 16 (by omega), hf 19 (by omega), hf 20 (by omega)]
  exact h
def zTe (I : Nat → Nat → Int32) (kd : Nat → Int32) (n T : Nat) (A B : Nat → Nat) (w : Nat → Bool) (wh : Int32) : zTn := (n, kd, I 17, I 18, wh, fun d e => if kd d = 5 then decide (e < n) && !(e == d) else ztl A B w T d e)
theorem ztl_dom {A B : Nat → Nat} {w : Nat → Bool} {n d e : Nat} : ∀ T, (∀ k, k < T → B k < n) → ztl A B w T d e = true → e < n
  | 0, _, h => by cases h
  | T + 1, hB, h => by
    rw [ztl] at h
    cases hz : ztl A B w T d e
    · rw [hz] at h
      simp only [Bool.false_or, Bool.and_eq_true, beq_iff_eq] at h
      rw [h.2.2]; exact hB T (by omega)
    · exact ztl_dom T (fun k hk => hB k (by omega)) hz
theorem zSet_told {I I2 : Nat → Nat → Int32} {kd : Nat → Int32} {n T : Nat} {A B : Nat → Nat} {w : Nat → Bool} {wh : Int32} (h : zTown I n T A B) (hf : zFr I I2) (hk : ∀ d, d < n → I2 75 d = kd d ∧ ∃ k, 1 ≤ k ∧ k ≤ 5 ∧ kd d = nI k) (ht : ∀ d, d < 6 → I2 76 d = nI (bs (ztl A B w T d))) : zSet I2 (zTe I kd n T A B w wh) := by
  obtain ⟨h1, h2, h3, h4, h5, h6, h7⟩ := h
  refine ⟨h1, by rw [hf 15 (by omega)]; exact h2, fun d hd => ⟨(hk d hd).1, by rw [hf 17 (by omega)]; rfl, by rw [hf 18 (by omega)]; rfl, (hk d hd).2, fun h e => ?_, fun h => ?_, fun e he => ?_⟩⟩
  · show (if kd d = 5 then _ else _) = _
    rw [if_pos (show kd d = 5 from h)]; rfl
  · rw [ht d (by have : n ≤ 6 := h1; have : d < n := hd; omega)]
    refine congrArg nI (bs_congr (fun e _ => ?_))
    show _ = (if kd d = 5 then _ else _)
    rw [if_neg (show ¬ kd d = 5 from h)]
  · have he2 : (if kd d = 5 then decide (e < n) && !(e == d) else ztl A B w T d e) = true := he
    by_cases h5 : kd d = 5
    · rw [if_pos h5] at he2
      simp only [Bool.and_eq_true, decide_eq_true_eq] at he2
      exact he2.1
    · rw [if_neg h5] at he2
      exact ztl_dom T (fun k hk => (h6 k hk).2) he2
abbrev zno0 : Nat → Int32 := fun _ => -1
/-- the whole of a telling -/
def zgo (t : zTn) (sm : Nat → Bool) (s : Int32) : (Nat → Int32) × (Nat → Bool) := zit t 7 0 (zc0 sm s) (fun _ => -1) (fun _ => false)
theorem zSpQ_fr {I : Nat → Nat → Int32} {J : Nat → Nat → Int64} {t : zTn} {z : (Nat → Int32) × (Nat → Bool)} {r : Option Value} {h1 : zH} (h : zSpQ I J t z r h1) : ∃ I2 nw2, r = none ∧ h1 = (I2, J, RF nw2, SH) ∧ zFr I I2 ∧ (∀ b, I2 75 b = I 75 b) ∧ (∀ b, I2 76 b = I 76 b) ∧ I2 74 6 = t.2.2.2.2.1 ∧ I2 74 7 = nI (bs z.2) ∧ I2 74 8 = nI (bs (zrc z.1)) ∧ ∃ st, I2 74 9 = nI st ∧ zst7 z.1 st ∧ st < 8 := by
  obtain ⟨a, I2, nw2, b, c, d, e, f, g, st, h1, h2, h3⟩ := h
  exact ⟨I2, nw2, a, b, fun q hq => c q (by omega) (by omega) (by omega), fun b => by rw [c 75 (by omega) (by omega) (by omega)], fun b => by rw [c 76 (by omega) (by omega) (by omega)], d, e, f, st, h1, h2, h3⟩
set_option maxRecDepth 100000 in
set_option maxHeartbeats 4000000 in
theorem qX6_spreadCask {l : zL} {I : Nat → Nat → Int32} {J : Nat → Nat → Int64} {nw : Bool} (t : zTn) (ht : zSet I t) {x m : Int32} (i : Nat) (hx : x = nI i) (hi : i < 4) (hw : t.2.2.2.2.1 = I 22 (1 + i) - 1) (sm : Nat → Bool) (hm : m = nI (bs sm)) (hsm : ∀ d, sm d = true → d < t.1) : zP l mX6_spreadCask [.ref 74, .int x, .int m] (hh I J nw) (zSpQ I J t (zgo t sm (zst (I 15 0) (I 15 1) (I 22 (5 + i)) (I 22 (9 + i))))) := by
  refine z_start [.ref 74, .int x, .int m] (by decide +kernel) (Nat.le_of_ble_eq_true rfl) rfl ?_
  refine z_aload_0 (pc := 0) dX6_spreadCask_0 ?_
  refine z_aload_0 (pc := 1) dX6_spreadCask_1 ?_
  refine y_getR (pc := 2) dX6_spreadCask_2 flX6_40 rfl (by first | rfl | assumption) (by first | rfl | assumption) ?_
  refine y_getR (pc := 5) dX6_spreadCask_5 flX6_107 rfl (by first | rfl | assumption) (by first | rfl | assumption) ?_
  refine z_iload_1 (pc := 8) dX6_spreadCask_8 ?_
  refine z_V1 (pc := 9) dX6_spreadCask_9 mlX6_81 kX2_whomOf vX2_whomOf (by decide) (by decide) (by first | rfl | assumption) (Nat.le_of_ble_eq_true rfl) (qX2_whomOf rfl rfl rfl i hx hi) ⟨Nat.le_refl _, Nat.le_refl _⟩ (fun r h1 hq => ?_)
  obtain ⟨rfl, rfl⟩ := hq
  rw [← hw]
  refine z_aload_0 (pc := 12) dX6_spreadCask_12 ?_
  refine y_getR (pc := 13) dX6_spreadCask_13 flX6_40 rfl (by first | rfl | assumption) (by first | rfl | assumption) ?_
  refine z_iload_1 (pc := 16) dX6_spreadCask_16 ?_
  refine z_V1 (pc := 17) dX6_spreadCask_17 mlX6_111 kX7_strongOf vX7_strongOf (by decide) (by decide) (by first | rfl | assumption) (Nat.le_of_ble_eq_true rfl) (qX7_strongOf i hx hi) ⟨Nat.le_refl _, Nat.le_refl _⟩ (fun r h1 hq => ?_)
  obtain ⟨rfl, rfl⟩ := hq
  refine z_iload_2 (pc := 20) dX6_spreadCask_20 ?_
  refine z_V3 (pc := 21) dX6_spreadCask_21 mlX6_91 kX6_spread vX6_spread (by decide) (by decide) (by first | rfl | assumption) (Nat.le_of_ble_eq_true rfl) (qX6_spread t ht sm hm hsm) ⟨Nat.le_refl _, Nat.le_refl _⟩ (fun r h1 hq => ?_)
  obtain ⟨rfl, I2, nw2, rfl, hq⟩ := hq
  refine z_ret (pc := 24) (r := none) rfl dX6_spreadCask_24 trivial rfl rfl ?_
  exact ⟨rfl, I2, nw2, rfl, hq⟩
set_option maxRecDepth 100000 in
set_option maxHeartbeats 4000000 in
theorem qX6_tapIn_21 {l : zL} {I : Nat → Nat → Int32} {J : Nat → Nat → Int64} {nw : Bool} (n T : Nat) (A B : Nat → Nat) (ht : zTown I n T A B) {x y : Int32} (i : Nat) (hx : x = nI i) (hi : i < 4) (d : Nat) (hy : y = nI d) (hd : d < n) (w : Nat) (hw : w < 6) (ew : I 22 (1 + i) - 1 = nI w) : zP l mX6_tapIn [.ref 74, .ref 21, .int x, .int y] (hh I J nw) (fun r h1 => ∃ b I2 nw2, b = nI (bs (zgo (zTe I (I 16) n T A B (fun _ => false) (nI w)) (fun e => e == d) (zst (I 15 0) (I 15 1) (I 22 (5 + i)) (I 22 (9 + i)))).2) ∧ r = some (.int b) ∧ zFr I I2 ∧ h1 = (zup (zup I2 22 (13 + w) (I 22 (13 + w) ||| b)) 22 (5 + i) (if 0 < I 22 (5 + i) - 1 then I 22 (5 + i) - 1 else 0), J, RF nw2, SH)) := by
  have hed : ∀ e, (e == d) = true → e < n := fun e he => by rw [beq_iff_eq.mp he]; exact hd
  refine z_start [.ref 74, .ref 21, .int x, .int y, zno] (by decide +kernel) (Nat.le_of_ble_eq_true rfl) rfl ?_
  refine z_aload_1 (pc := 0) dX6_tapIn_0 ?_
  refine z_iload_2 (pc := 1) dX6_tapIn_1 ?_
  refine z_V1 (pc := 2) dX6_tapIn_2 mlX6_72 kX2_maltOf vX2_maltOf (by decide) (by decide) (by first | rfl | assumption) (Nat.le_of_ble_eq_true rfl) (qX2_maltOf rfl rfl rfl i hx hi) ⟨Nat.le_refl _, Nat.le_refl _⟩ (fun r h1 hq => ?_)
  obtain ⟨rfl, rfl⟩ := hq
  refine z_istore_4 (pc := 5) dX6_tapIn_5 (by decide) rfl ?_
  refine z_aload_0 (pc := 7) dX6_tapIn_7 ?_
  refine z_V0 (pc := 8) dX6_tapIn_8 mlX6_78 kX6_beAsTold vX6_beAsTold (by decide) (by decide) (by first | rfl | assumption) (Nat.le_of_ble_eq_true rfl) (qX6_beAsTold T ht.2.2.1 ht.2.2.2.1 A B (fun k hk => ⟨(ht.2.2.2.2.1 k hk).1, by have := (ht.2.2.2.2.1 k hk).2; have := ht.1; omega⟩) (fun k hk => ⟨(ht.2.2.2.2.2.1 k hk).1, by have := (ht.2.2.2.2.2.1 k hk).2; have := ht.1; omega⟩)) ⟨Nat.le_refl _, Nat.le_refl _⟩ (fun r h1 hq => ?_)
  obtain ⟨rfl, g2, rfl, hg2⟩ := hq
  have hfr : zFr I (zrow (zcpy I 16 75 0 0 6) 76 g2) := (by intro a ha; funext b; rw [zrow_ne _ _ _ (by omega)]; unfold zcpy; rw [if_neg (by omega)])
  have hset : zSet (zrow (zcpy I 16 75 0 0 6) 76 g2) (zTe I (I 16) n T A B (fun _ => false) (nI w)) := zSet_told ht hfr (fun d hd => ⟨by rw [zrow_ne _ _ _ (by decide)]; unfold zcpy; rw [if_pos rfl]; unfold va_cpy; have := ht.1; rw [if_pos (by omega)]; simp, ht.2.2.2.2.2.2 d hd⟩) (fun d hd => by rw [zrow_at]; exact hg2 d hd)
  refine z_aload_0 (pc := 11) dX6_tapIn_11 ?_
  refine z_aload_1 (pc := 12) dX6_tapIn_12 ?_
  refine z_iload_2 (pc := 13) dX6_tapIn_13 ?_
  refine z_V1 (pc := 14) dX6_tapIn_14 mlX6_81 kX2_whomOf vX2_whomOf (by decide) (by decide) (by first | rfl | assumption) (Nat.le_of_ble_eq_true rfl) (qX2_whomOf rfl rfl rfl i hx hi) ⟨Nat.le_refl _, Nat.le_refl _⟩ (fun r h1 hq => ?_)
  obtain ⟨rfl, rfl⟩ := hq
  rw [hfr 22 (by omega), ew]
  refine z_aload_0 (pc := 17) dX6_tapIn_17 ?_
  refine y_getR (pc := 18) dX6_tapIn_18 flX6_40 rfl (by first | rfl | assumption) (by first | rfl | assumption) ?_
  refine z_iload_4 (pc := 21) dX6_tapIn_21 ?_
  refine z_aload_1 (pc := 23) dX6_tapIn_23 ?_
  refine z_iload_2 (pc := 24) dX6_tapIn_24 ?_
  refine z_V1 (pc := 25) dX6_tapIn_25 mlX6_84 kX2_ageOf vX2_ageOf (by decide) (by decide) (by first | rfl | assumption) (Nat.le_of_ble_eq_true rfl) (qX2_ageOf rfl rfl rfl i hx hi) ⟨Nat.le_refl _, Nat.le_refl _⟩ (fun r h1 hq => ?_)
  obtain ⟨rfl, rfl⟩ := hq
  refine z_V2 (pc := 28) dX6_tapIn_28 mlX6_87 kX7_strong vX7_strong (by decide) (by decide) (by first | rfl | assumption) (Nat.le_of_ble_eq_true rfl) (qX7_strong) ⟨Nat.le_refl _, Nat.le_refl _⟩ (fun r h1 hq => ?_)
  obtain ⟨rfl, rfl⟩ := hq
  simp only [hfr 22 (by omega), hfr 15 (by omega)]
  refine z_iconst (pc := 31) (1) dX6_tapIn_31 rfl ?_
  refine z_iload_3 (pc := 32) dX6_tapIn_32 ?_
  refine z_ishl (pc := 33) dX6_tapIn_33 ?_
  refine z_V3 (pc := 34) dX6_tapIn_34 mlX6_91 kX6_spread vX6_spread (by decide) (by decide) (by first | rfl | assumption) (Nat.le_of_ble_eq_true rfl) (qX6_spread (zTe I (I 16) n T A B (fun _ => false) (nI w)) hset (fun e => e == d) (by rw [hy]; exact bs_one d (by have := ht.1; omega)) hed) ⟨Nat.le_refl _, Nat.le_refl _⟩ (fun r h1 hq => ?_)
  obtain ⟨I2, nw2, rfl, rfl, z1, z2, z3, z5, z6, z7, st, z8, z9, z10⟩ := zSpQ_fr hq
  have hfr2 := hfr.trans z1
  refine z_aload_1 (pc := 37) dX6_tapIn_37 ?_
  refine z_aload_0 (pc := 38) dX6_tapIn_38 ?_
  refine y_getI (pc := 39) dX6_tapIn_39 flX6_28 rfl (by first | rfl | assumption) ?_
  refine z_aload_0 (pc := 42) dX6_tapIn_42 ?_
  refine y_getI (pc := 43) dX6_tapIn_43 flX6_31 rfl (by first | rfl | assumption) ?_
  refine z_V2 (pc := 46) dX6_tapIn_46 mlX6_95 kX2_note vX2_note (by decide) (by decide) (by first | rfl | assumption) (Nat.le_of_ble_eq_true rfl) (qX2_note rfl rfl rfl w z5 hw) ⟨Nat.le_refl _, Nat.le_refl _⟩ (fun r h1 hq => ?_)
  obtain ⟨rfl, rfl⟩ := hq
  refine z_aload_1 (pc := 49) dX6_tapIn_49 ?_
  refine z_iload_2 (pc := 50) dX6_tapIn_50 ?_
  refine z_iconst (pc := 51) (0) dX6_tapIn_51 rfl ?_
  refine z_iload_4 (pc := 52) dX6_tapIn_52 ?_
  refine z_iconst (pc := 54) (1) dX6_tapIn_54 rfl ?_
  refine z_isub (pc := 55) dX6_tapIn_55 ?_
  refine z_mmax (pc := 56) dX6_tapIn_56 mmX6_99 (by decide) (Nat.le_of_ble_eq_true rfl) ?_
  refine z_V2 (pc := 59) dX6_tapIn_59 mlX6_104 kX2_setMalt vX2_setMalt (by decide) (by decide) (by first | rfl | assumption) (Nat.le_of_ble_eq_true rfl) (qX2_setMalt rfl rfl rfl i hx hi) ⟨Nat.le_refl _, Nat.le_refl _⟩ (fun r h1 hq => ?_)
  obtain ⟨rfl, rfl⟩ := hq
  refine z_aload_0 (pc := 62) dX6_tapIn_62 ?_
  refine y_getI (pc := 63) dX6_tapIn_63 flX6_31 rfl (by first | rfl | assumption) ?_
  refine z_ret (pc := 66) (r := some (.int _)) rfl dX6_tapIn_66 trivial rfl rfl ?_
  refine ⟨_, I2, nw2, z6, rfl, hfr2, ?_⟩
  simp only [hfr2 22 (by omega), zup_nj, zup_nk, ne_eq]
set_option maxRecDepth 100000 in
set_option maxHeartbeats 4000000 in
theorem qX6_tapIn_80 {l : zL} {I : Nat → Nat → Int32} {J : Nat → Nat → Int64} {nw : Bool} (n T : Nat) (A B : Nat → Nat) (ht : zTown I n T A B) {x y : Int32} (i : Nat) (hx : x = nI i) (hi : i < 4) (d : Nat) (hy : y = nI d) (hd : d < n) (w : Nat) (hw : w < 6) (ew : I 81 (1 + i) - 1 = nI w) : zP l mX6_tapIn [.ref 74, .ref 80, .int x, .int y] (hh I J nw) (fun r h1 => ∃ b I2 nw2, b = nI (bs (zgo (zTe I (I 16) n T A B (fun _ => false) (nI w)) (fun e => e == d) (zst (I 15 0) (I 15 1) (I 81 (5 + i)) (I 81 (9 + i)))).2) ∧ r = some (.int b) ∧ zFr I I2 ∧ h1 = (zup (zup I2 81 (13 + w) (I 81 (13 + w) ||| b)) 81 (5 + i) (if 0 < I 81 (5 + i) - 1 then I 81 (5 + i) - 1 else 0), J, RF nw2, SH)) := by
  have hed : ∀ e, (e == d) = true → e < n := fun e he => by rw [beq_iff_eq.mp he]; exact hd
  refine z_start [.ref 74, .ref 80, .int x, .int y, zno] (by decide +kernel) (Nat.le_of_ble_eq_true rfl) rfl ?_
  refine z_aload_1 (pc := 0) dX6_tapIn_0 ?_
  refine z_iload_2 (pc := 1) dX6_tapIn_1 ?_
  refine z_V1 (pc := 2) dX6_tapIn_2 mlX6_72 kX2_maltOf vX2_maltOf (by decide) (by decide) (by first | rfl | assumption) (Nat.le_of_ble_eq_true rfl) (qX2_maltOf rfl rfl rfl i hx hi) ⟨Nat.le_refl _, Nat.le_refl _⟩ (fun r h1 hq => ?_)
  obtain ⟨rfl, rfl⟩ := hq
  refine z_istore_4 (pc := 5) dX6_tapIn_5 (by decide) rfl ?_
  refine z_aload_0 (pc := 7) dX6_tapIn_7 ?_
  refine z_V0 (pc := 8) dX6_tapIn_8 mlX6_78 kX6_beAsTold vX6_beAsTold (by decide) (by decide) (by first | rfl | assumption) (Nat.le_of_ble_eq_true rfl) (qX6_beAsTold T ht.2.2.1 ht.2.2.2.1 A B (fun k hk => ⟨(ht.2.2.2.2.1 k hk).1, by have := (ht.2.2.2.2.1 k hk).2; have := ht.1; omega⟩) (fun k hk => ⟨(ht.2.2.2.2.2.1 k hk).1, by have := (ht.2.2.2.2.2.1 k hk).2; have := ht.1; omega⟩)) ⟨Nat.le_refl _, Nat.le_refl _⟩ (fun r h1 hq => ?_)
  obtain ⟨rfl, g2, rfl, hg2⟩ := hq
  have hfr : zFr I (zrow (zcpy I 16 75 0 0 6) 76 g2) := (by intro a ha; funext b; rw [zrow_ne _ _ _ (by omega)]; unfold zcpy; rw [if_neg (by omega)])
  have hset : zSet (zrow (zcpy I 16 75 0 0 6) 76 g2) (zTe I (I 16) n T A B (fun _ => false) (nI w)) := zSet_told ht hfr (fun d hd => ⟨by rw [zrow_ne _ _ _ (by decide)]; unfold zcpy; rw [if_pos rfl]; unfold va_cpy; have := ht.1; rw [if_pos (by omega)]; simp, ht.2.2.2.2.2.2 d hd⟩) (fun d hd => by rw [zrow_at]; exact hg2 d hd)
  refine z_aload_0 (pc := 11) dX6_tapIn_11 ?_
  refine z_aload_1 (pc := 12) dX6_tapIn_12 ?_
  refine z_iload_2 (pc := 13) dX6_tapIn_13 ?_
  refine z_V1 (pc := 14) dX6_tapIn_14 mlX6_81 kX2_whomOf vX2_whomOf (by decide) (by decide) (by first | rfl | assumption) (Nat.le_of_ble_eq_true rfl) (qX2_whomOf rfl rfl rfl i hx hi) ⟨Nat.le_refl _, Nat.le_refl _⟩ (fun r h1 hq => ?_)
  obtain ⟨rfl, rfl⟩ := hq
  rw [hfr 81 (by omega), ew]
  refine z_aload_0 (pc := 17) dX6_tapIn_17 ?_
  refine y_getR (pc := 18) dX6_tapIn_18 flX6_40 rfl (by first | rfl | assumption) (by first | rfl | assumption) ?_
  refine z_iload_4 (pc := 21) dX6_tapIn_21 ?_
  refine z_aload_1 (pc := 23) dX6_tapIn_23 ?_
  refine z_iload_2 (pc := 24) dX6_tapIn_24 ?_
  refine z_V1 (pc := 25) dX6_tapIn_25 mlX6_84 kX2_ageOf vX2_ageOf (by decide) (by decide) (by first | rfl | assumption) (Nat.le_of_ble_eq_true rfl) (qX2_ageOf rfl rfl rfl i hx hi) ⟨Nat.le_refl _, Nat.le_refl _⟩ (fun r h1 hq => ?_)
  obtain ⟨rfl, rfl⟩ := hq
  refine z_V2 (pc := 28) dX6_tapIn_28 mlX6_87 kX7_strong vX7_strong (by decide) (by decide) (by first | rfl | assumption) (Nat.le_of_ble_eq_true rfl) (qX7_strong) ⟨Nat.le_refl _, Nat.le_refl _⟩ (fun r h1 hq => ?_)
  obtain ⟨rfl, rfl⟩ := hq
  simp only [hfr 81 (by omega), hfr 15 (by omega)]
  refine z_iconst (pc := 31) (1) dX6_tapIn_31 rfl ?_
  refine z_iload_3 (pc := 32) dX6_tapIn_32 ?_
  refine z_ishl (pc := 33) dX6_tapIn_33 ?_
  refine z_V3 (pc := 34) dX6_tapIn_34 mlX6_91 kX6_spread vX6_spread (by decide) (by decide) (by first | rfl | assumption) (Nat.le_of_ble_eq_true rfl) (qX6_spread (zTe I (I 16) n T A B (fun _ => false) (nI w)) hset (fun e => e == d) (by rw [hy]; exact bs_one d (by have := ht.1; omega)) hed) ⟨Nat.le_refl _, Nat.le_refl _⟩ (fun r h1 hq => ?_)
  obtain ⟨I2, nw2, rfl, rfl, z1, z2, z3, z5, z6, z7, st, z8, z9, z10⟩ := zSpQ_fr hq
  have hfr2 := hfr.trans z1
  refine z_aload_1 (pc := 37) dX6_tapIn_37 ?_
  refine z_aload_0 (pc := 38) dX6_tapIn_38 ?_
  refine y_getI (pc := 39) dX6_tapIn_39 flX6_28 rfl (by first | rfl | assumption) ?_
  refine z_aload_0 (pc := 42) dX6_tapIn_42 ?_
  refine y_getI (pc := 43) dX6_tapIn_43 flX6_31 rfl (by first | rfl | assumption) ?_
  refine z_V2 (pc := 46) dX6_tapIn_46 mlX6_95 kX2_note vX2_note (by decide) (by decide) (by first | rfl | assumption) (Nat.le_of_ble_eq_true rfl) (qX2_note rfl rfl rfl w z5 hw) ⟨Nat.le_refl _, Nat.le_refl _⟩ (fun r h1 hq => ?_)
  obtain ⟨rfl, rfl⟩ := hq
  refine z_aload_1 (pc := 49) dX6_tapIn_49 ?_
  refine z_iload_2 (pc := 50) dX6_tapIn_50 ?_
  refine z_iconst (pc := 51) (0) dX6_tapIn_51 rfl ?_
  refine z_iload_4 (pc := 52) dX6_tapIn_52 ?_
  refine z_iconst (pc := 54) (1) dX6_tapIn_54 rfl ?_
  refine z_isub (pc := 55) dX6_tapIn_55 ?_
  refine z_mmax (pc := 56) dX6_tapIn_56 mmX6_99 (by decide) (Nat.le_of_ble_eq_true rfl) ?_
  refine z_V2 (pc := 59) dX6_tapIn_59 mlX6_104 kX2_setMalt vX2_setMalt (by decide) (by decide) (by first | rfl | assumption) (Nat.le_of_ble_eq_true rfl) (qX2_setMalt rfl rfl rfl i hx hi) ⟨Nat.le_refl _, Nat.le_refl _⟩ (fun r h1 hq => ?_)
  obtain ⟨rfl, rfl⟩ := hq
  refine z_aload_0 (pc := 62) dX6_tapIn_62 ?_
  refine y_getI (pc := 63) dX6_tapIn_63 flX6_31 rfl (by first | rfl | assumption) ?_
  refine z_ret (pc := 66) (r := some (.int _)) rfl dX6_tapIn_66 trivial rfl rfl ?_
  refine ⟨_, I2, nw2, z6, rfl, hfr2, ?_⟩
  simp only [hfr2 81 (by omega), zup_nj, zup_nk, ne_eq]
