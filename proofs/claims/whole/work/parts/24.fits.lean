def zfits (ok : Nat → Bool) : Nat → Bool
  | 0 => true
  | k + 1 => zfits ok k && ok k
theorem zfits_no {ok : Nat → Bool} {k : Nat} : ∀ m, k < m → ok k = false → zfits ok m = false
  | 0, h, _ => by omega
  | m + 1, h, hk => by
    rw [zfits]
    rcases Nat.lt_or_ge k m with q | q
    · rw [zfits_no m q hk]; rfl
    · have : k = m := by omega
      subst this; rw [hk]; simp
def zset (ok : Nat → Bool) : Nat → Int32
  | 0 => 0
  | m + 1 => if ok m = true then zset ok m ||| ((1 : Int32) <<< (nI m &&& 31)) else zset ok m
def zFitQ (I0 : Nat → Nat → Int32) (J : Nat → Nat → Int64) (n T : Nat) (A B : Nat → Nat) (kd : Nat → Int32) (b : Bool) : Option Value → zH → Prop := fun r h1 => r = some (.int (if b = true then 1 else 0)) ∧ ∃ I2 nw2, h1 = (I2, J, RF nw2, SH) ∧ zTold I0 I2 n T A B kd (fun _ => false)
set_option maxRecDepth 100000 in
set_option maxHeartbeats 4000000 in
theorem fits_loop {l : zL} {J : Nat → Nat → Int64} {I0 : Nat → Nat → Int32} (n T : Nat) (A B : Nat → Nat) (ht : zTown I0 n T A B) {x : Int32} (i : Nat) (hx : x = nI i) (hi : i < 4) (w : Nat) (ew : I0 22 (1 + i) - 1 = nI w) {ml : Int32} (R : Nat) (hR : SH[R]? = some (10, 40)) (hR2 : R < 74) {xa xm : Int32} (a m : Nat) (hxa : xa = nI a) (hxm : xm = nI m) (ham : a + 2 * m ≤ 40) (D : Nat → Nat) (hD : ∀ k, k < m → I0 R (a + 2 * k) = nI (D k) ∧ D k < n) (kd : Nat → Int32) : ∀ (f k : Nat) (I1 : Nat → Nat → Int32) (nw : Bool), k ≤ m → m - k < f → zTold I0 I1 n T A B kd (fun _ => false) → zfits (fun k => decide (nI (bs (zgo (zTe I0 kd n T A B (fun _ => false) (nI w)) (fun e => e == D k) (zst (I0 15 0) (I0 15 1) ml (I0 22 (9 + i)))).2) = I0 R (a + 2 * k + 1))) k = true →
    zW l mX3_fits SH.length (zsl SH) 37 [.ref 79, .int x, .int ml, .ref R, .int (nI a), .int (nI m), .int (nI w), .int (zst (I0 15 0) (I0 15 1) ml (I0 22 (9 + i))), .int (nI k)] [] (I1, J, RF nw, SH) (zFitQ I0 J n T A B kd (zfits (fun k => decide (nI (bs (zgo (zTe I0 kd n T A B (fun _ => false) (nI w)) (fun e => e == D k) (zst (I0 15 0) (I0 15 1) ml (I0 22 (9 + i)))).2) = I0 R (a + 2 * k + 1))) m))
  | 0, k, I1, nw, _, hf, _, _ => by omega
  | f + 1, k, I1, nw, hk, hf, hT, hz => by
    refine z_iload_8 (pc := 37) dX3_fits_37 ?_
    refine z_iload_5 (pc := 39) dX3_fits_39 ?_
    refine z_icmp_ge (pc := 41) (tgt := 95) dX3_fits_41 (by decide) (fun c41 => ?_) (fun c41 => ?_)
    · skip
      refine z_iconst (pc := 95) (1) dX3_fits_95 rfl ?_
      refine z_ret (pc := 96) (r := some (.int _)) rfl dX3_fits_96 (by first | exact Or.inl rfl | exact Or.inr rfl | assumption) rfl rfl ?_
      have : k = m := by
        rcases Nat.lt_or_ge k m with q | q
        · exact absurd c41 (nI_ge q (by omega))
        · omega
      subst this
      refine ⟨?_, I1, nw, rfl, hT⟩
      rw [hz]; rfl
    · skip
      have hlt : k < m := by
        rcases Nat.lt_or_ge k m with q | q
        · exact q
        · exact absurd (nI_le q (by omega)) c41
      obtain ⟨d1, d2⟩ := hD k hlt
      have hed : ∀ e, (e == D k) = true → e < n := fun e he => by rw [beq_iff_eq.mp he]; exact d2
      refine z_aload_0 (pc := 44) dX3_fits_44 ?_
      refine y_getR (pc := 45) dX3_fits_45 flX3_26 rfl (by first | rfl | assumption) (by first | rfl | assumption) ?_
      refine z_iload_6 (pc := 48) dX3_fits_48 ?_
      refine z_iload_7 (pc := 50) dX3_fits_50 ?_
      refine z_iconst (pc := 52) (1) dX3_fits_52 rfl ?_
      refine z_aload_3 (pc := 53) dX3_fits_53 ?_
      refine z_iload_4 (pc := 54) dX3_fits_54 ?_
      refine z_iconst (pc := 56) (2) dX3_fits_56 rfl ?_
      refine z_iload_8 (pc := 57) dX3_fits_57 ?_
      refine z_imul (pc := 59) dX3_fits_59 ?_
      refine z_iadd (pc := 60) dX3_fits_60 ?_
      refine y_ialdN (pc := 61) (a + 2 * k) dX3_fits_61 (by first | rfl | assumption) (by show nI a + nI 2 * nI k = nI (a + 2 * k); rw [pk_mul, nI_add]) (by omega) (by first | decide | omega) ?_
      refine z_ishl (pc := 62) dX3_fits_62 ?_
      refine z_V3 (pc := 63) dX3_fits_63 mlX3_89 kX6_spread vX6_spread (by decide) (by decide) (by first | rfl | assumption) (Nat.le_of_ble_eq_true rfl) (qX6_spread (zTe I0 kd n T A B (fun _ => false) (nI w)) (hT.set ht) (fun e => e == D k) (by rw [hT.1 R (by omega), d1]; exact bs_one _ (by have := ht.1; omega)) hed) ⟨Nat.le_refl _, Nat.le_refl _⟩ (fun r h1 hq => ?_)
      obtain ⟨I2, nw2, rfl, rfl, z1, z2, z3, z5, z6, z7, st, z8, z9, z10⟩ := zSpQ_fr hq
      have hF2 := hT.1.trans z1
      change I2 74 7 = nI (bs (zgo _ _ _).2) at z6
      refine z_aload_0 (pc := 66) dX3_fits_66 ?_
      refine y_getR (pc := 67) dX3_fits_67 flX3_26 rfl (by first | rfl | assumption) (by first | rfl | assumption) ?_
      refine y_getI (pc := 70) dX3_fits_70 flX3_52 rfl (by first | rfl | assumption) ?_
      refine z_aload_3 (pc := 73) dX3_fits_73 ?_
      refine z_iload_4 (pc := 74) dX3_fits_74 ?_
      refine z_iconst (pc := 76) (2) dX3_fits_76 rfl ?_
      refine z_iload_8 (pc := 77) dX3_fits_77 ?_
      refine z_imul (pc := 79) dX3_fits_79 ?_
      refine z_iadd (pc := 80) dX3_fits_80 ?_
      refine z_iconst (pc := 81) (1) dX3_fits_81 rfl ?_
      refine z_iadd (pc := 82) dX3_fits_82 ?_
      refine y_ialdN (pc := 83) (a + 2 * k + 1) dX3_fits_83 (by first | rfl | assumption) (by rw [show nI a + 2 * nI k = nI (a + 2 * k) from by show nI a + nI 2 * nI k = nI (a + 2 * k); rw [pk_mul, nI_add]]; exact (nI_succ _).symm) (by omega) (by first | decide | omega) ?_
      refine z_icmp_eq (pc := 84) (tgt := 89) dX3_fits_84 (by decide) (fun c84 => ?_) (fun c84 => ?_)
      · skip
        refine z_iinc_8 (pc := 89) (1) dX3_fits_89 rfl (by decide) rfl ?_
        refine z_goto (pc := 92) (tgt := 37) dX3_fits_92 (by decide) ?_
        rw [← nI_succ]
        exact fits_loop n T A B ht i hx hi w ew R hR hR2 a m hxa hxm ham D hD kd f (k + 1) I2 nw2 (by omega) (by omega) (hT.keep z1 z2 z3) (by rw [zfits, hz, Bool.true_and]; exact decide_eq_true (by rw [← z6, c84, hF2 R (by omega)]))
      · skip
        refine z_iconst (pc := 87) (0) dX3_fits_87 rfl ?_
        refine z_ret (pc := 88) (r := some (.int _)) rfl dX3_fits_88 (by first | exact Or.inl rfl | exact Or.inr rfl | assumption) rfl rfl ?_
        rw [z6, hF2 R (by omega)] at c84
        refine ⟨?_, I2, nw2, rfl, hT.keep z1 z2 z3⟩
        rw [zfits_no m hlt (decide_eq_false c84)]; rfl
set_option maxRecDepth 100000 in
set_option maxHeartbeats 4000000 in
theorem qX3_fits {l : zL} {I : Nat → Nat → Int32} {J : Nat → Nat → Int64} {nw : Bool} {I0 : Nat → Nat → Int32} (n T : Nat) (A B : Nat → Nat) (ht : zTown I0 n T A B) {x : Int32} (i : Nat) (hx : x = nI i) (hi : i < 4) (w : Nat) (ew : I0 22 (1 + i) - 1 = nI w) {ml : Int32} (R : Nat) (hR : SH[R]? = some (10, 40)) (hR2 : R < 74) {xa xm : Int32} (a m : Nat) (hxa : xa = nI a) (hxm : xm = nI m) (ham : a + 2 * m ≤ 40) (D : Nat → Nat) (hD : ∀ k, k < m → I0 R (a + 2 * k) = nI (D k) ∧ D k < n) (kd : Nat → Int32) (hT : zTold I0 I n T A B kd (fun _ => false)) : zP l mX3_fits [.ref 79, .int x, .int ml, .ref R, .int xa, .int xm] (hh I J nw) (zFitQ I0 J n T A B kd (zfits (fun k => decide (nI (bs (zgo (zTe I0 kd n T A B (fun _ => false) (nI w)) (fun e => e == D k) (zst (I0 15 0) (I0 15 1) ml (I0 22 (9 + i)))).2) = I0 R (a + 2 * k + 1))) m)) := by
  refine z_start [.ref 79, .int x, .int ml, .ref R, .int xa, .int xm, zno, zno, zno] (by decide +kernel) (Nat.le_of_ble_eq_true rfl) rfl ?_
  refine z_aload_0 (pc := 0) dX3_fits_0 ?_
  refine y_getR (pc := 1) dX3_fits_1 flX3_22 rfl (by first | rfl | assumption) (by first | rfl | assumption) ?_
  refine y_getR (pc := 4) dX3_fits_4 flX3_73 rfl (by first | rfl | assumption) (by first | rfl | assumption) ?_
  refine z_iload_1 (pc := 7) dX3_fits_7 ?_
  refine z_V1 (pc := 8) dX3_fits_8 mlX3_79 kX2_whomOf vX2_whomOf (by decide) (by decide) (by first | rfl | assumption) (Nat.le_of_ble_eq_true rfl) (qX2_whomOf rfl rfl rfl i hx hi) ⟨Nat.le_refl _, Nat.le_refl _⟩ (fun r h1 hq => ?_)
  obtain ⟨rfl, rfl⟩ := hq
  refine z_istore_6 (pc := 11) dX3_fits_11 (by decide) rfl ?_
  refine z_aload_0 (pc := 13) dX3_fits_13 ?_
  refine y_getR (pc := 14) dX3_fits_14 flX3_22 rfl (by first | rfl | assumption) (by first | rfl | assumption) ?_
  refine z_iload_2 (pc := 17) dX3_fits_17 ?_
  refine z_aload_0 (pc := 18) dX3_fits_18 ?_
  refine y_getR (pc := 19) dX3_fits_19 flX3_22 rfl (by first | rfl | assumption) (by first | rfl | assumption) ?_
  refine y_getR (pc := 22) dX3_fits_22 flX3_73 rfl (by first | rfl | assumption) (by first | rfl | assumption) ?_
  refine z_iload_1 (pc := 25) dX3_fits_25 ?_
  refine z_V1 (pc := 26) dX3_fits_26 mlX3_82 kX2_ageOf vX2_ageOf (by decide) (by decide) (by first | rfl | assumption) (Nat.le_of_ble_eq_true rfl) (qX2_ageOf rfl rfl rfl i hx hi) ⟨Nat.le_refl _, Nat.le_refl _⟩ (fun r h1 hq => ?_)
  obtain ⟨rfl, rfl⟩ := hq
  refine z_V2 (pc := 29) dX3_fits_29 mlX3_85 kX7_strong vX7_strong (by decide) (by decide) (by first | rfl | assumption) (Nat.le_of_ble_eq_true rfl) (qX7_strong) ⟨Nat.le_refl _, Nat.le_refl _⟩ (fun r h1 hq => ?_)
  obtain ⟨rfl, rfl⟩ := hq
  refine z_istore_7 (pc := 32) dX3_fits_32 (by decide) rfl ?_
  refine z_iconst (pc := 34) (0) dX3_fits_34 rfl ?_
  refine z_istore_8 (pc := 35) dX3_fits_35 (by decide) rfl ?_
  rw [hT.1 22 (by omega), hT.1 15 (by omega), ew, hxa, hxm]
  exact fits_loop n T A B ht i hx hi w ew R hR hR2 a m hxa hxm ham D hD kd (m + 1) 0 I nw (by omega) (by omega) hT rfl
set_option maxRecDepth 100000 in
set_option maxHeartbeats 4000000 in
theorem malts_loop {l : zL} {I : Nat → Nat → Int32} {J : Nat → Nat → Int64} (n T : Nat) (A B : Nat → Nat) (ht : zTown I n T A B) {x : Int32} (i : Nat) (hx : x = nI i) (hi : i < 4) (w : Nat) (ew : I 22 (1 + i) - 1 = nI w) (R : Nat) (hR : SH[R]? = some (10, 40)) (hR2 : R < 74) {xa xm : Int32} (a m : Nat) (hxa : xa = nI a) (hxm : xm = nI m) (ham : a + 2 * m ≤ 40) (D : Nat → Nat) (hD : ∀ k, k < m → I R (a + 2 * k) = nI (D k) ∧ D k < n) : ∀ (f q : Nat) (I1 : Nat → Nat → Int32) (nw : Bool), q ≤ 21 → 21 - q < f → zTold I I1 n T A B (I 16) (fun _ => false) →
    zW l mX3_fittingMalts SH.length (zsl SH) 13 [.ref 79, .int x, .ref R, .int xa, .int xm, .int (zset (fun q => zfits (fun k => decide (nI (bs (zgo (zTe I (I 16) n T A B (fun _ => false) (nI w)) (fun e => e == D k) (zst (I 15 0) (I 15 1) (nI q) (I 22 (9 + i)))).2) = I R (a + 2 * k + 1))) m) q), .int (nI q)] [] (I1, J, RF nw, SH) (zKeep I J (.int (zset (fun q => zfits (fun k => decide (nI (bs (zgo (zTe I (I 16) n T A B (fun _ => false) (nI w)) (fun e => e == D k) (zst (I 15 0) (I 15 1) (nI q) (I 22 (9 + i)))).2) = I R (a + 2 * k + 1))) m) 21)))
  | 0, q, I1, nw, _, hf, _ => by omega
  | f + 1, q, I1, nw, hq, hf, hT => by
    refine z_iload_6 (pc := 13) dX3_fittingMalts_13 ?_
    refine z_bipush (pc := 15) (20) dX3_fittingMalts_15 rfl ?_
    refine z_icmp_gt (pc := 17) (tgt := 49) dX3_fittingMalts_17 (by decide) (fun c17 => ?_) (fun c17 => ?_)
    · skip
      refine z_iload_5 (pc := 49) dX3_fittingMalts_49 ?_
      refine z_ret (pc := 51) (r := some (.int _)) rfl dX3_fittingMalts_51 trivial rfl rfl ?_
      have : q = 21 := by
        rcases Nat.lt_or_ge q 21 with z | z
        · exact absurd c17 (nI_nlt (a := 20) (by omega) (by omega))
        · omega
      subst this
      exact ⟨rfl, I1, nw, rfl, hT.1⟩
    · skip
      have hlt : q < 21 := by
        rcases Nat.lt_or_ge q 21 with z | z
        · exact z
        · exact absurd (nI_lt (a := 20) (by omega) (by omega)) c17
      refine z_aload_0 (pc := 20) dX3_fittingMalts_20 ?_
      refine z_iload_1 (pc := 21) dX3_fittingMalts_21 ?_
      refine z_iload_6 (pc := 22) dX3_fittingMalts_22 ?_
      refine z_aload_2 (pc := 24) dX3_fittingMalts_24 ?_
      refine z_iload_3 (pc := 25) dX3_fittingMalts_25 ?_
      refine z_iload_4 (pc := 26) dX3_fittingMalts_26 ?_
      refine z_V5 (pc := 28) dX3_fittingMalts_28 mlX3_66 kX3_fits vX3_fits (by decide) (by decide) (by first | rfl | assumption) (Nat.le_of_ble_eq_true rfl) (qX3_fits n T A B ht i hx hi w ew R hR hR2 a m hxa hxm ham D hD (I 16) hT) ⟨Nat.le_refl _, Nat.le_refl _⟩ (fun r h1 hq => ?_)
      obtain ⟨rfl, I2, nw2, rfl, hT2⟩ := hq
      refine z_if_eq (pc := 31) (tgt := 43) dX3_fittingMalts_31 (by decide) (fun c31 => ?_) (fun c31 => ?_)
      · skip
        refine z_iinc_6 (pc := 43) (1) dX3_fittingMalts_43 rfl (by decide) rfl ?_
        refine z_goto (pc := 46) (tgt := 13) dX3_fittingMalts_46 (by decide) ?_
        have hb : zfits (fun k => decide (nI (bs (zgo (zTe I (I 16) n T A B (fun _ => false) (nI w)) (fun e => e == D k) (zst (I 15 0) (I 15 1) (nI q) (I 22 (9 + i)))).2) = I R (a + 2 * k + 1))) m = false := by
          cases hz : zfits (fun k => decide (nI (bs (zgo (zTe I (I 16) n T A B (fun _ => false) (nI w)) (fun e => e == D k) (zst (I 15 0) (I 15 1) (nI q) (I 22 (9 + i)))).2) = I R (a + 2 * k + 1))) m
          · rfl
          · rw [hz] at c31; exact absurd c31 (by decide)
        have k := malts_loop (l := l) (J := J) n T A B ht i hx hi w ew R hR hR2 a m hxa hxm ham D hD f (q + 1) I2 nw2 (by omega) (by omega) hT2
        rw [show zset (fun q => zfits (fun k => decide (nI (bs (zgo (zTe I (I 16) n T A B (fun _ => false) (nI w)) (fun e => e == D k) (zst (I 15 0) (I 15 1) (nI q) (I 22 (9 + i)))).2) = I R (a + 2 * k + 1))) m) (q + 1) = zset (fun q => zfits (fun k => decide (nI (bs (zgo (zTe I (I 16) n T A B (fun _ => false) (nI w)) (fun e => e == D k) (zst (I 15 0) (I 15 1) (nI q) (I 22 (9 + i)))).2) = I R (a + 2 * k + 1))) m) q from if_neg (fun z => Bool.noConfusion (hb.symm.trans z)), nI_succ] at k
        exact k
      · skip
        refine z_iload_5 (pc := 34) dX3_fittingMalts_34 ?_
        refine z_iconst (pc := 36) (1) dX3_fittingMalts_36 rfl ?_
        refine z_iload_6 (pc := 37) dX3_fittingMalts_37 ?_
        refine z_ishl (pc := 39) dX3_fittingMalts_39 ?_
        refine z_ior (pc := 40) dX3_fittingMalts_40 ?_
        refine z_istore_5 (pc := 41) dX3_fittingMalts_41 (by decide) rfl ?_
        refine z_iinc_6 (pc := 43) (1) dX3_fittingMalts_43 rfl (by decide) rfl ?_
        refine z_goto (pc := 46) (tgt := 13) dX3_fittingMalts_46 (by decide) ?_
        have hb : zfits (fun k => decide (nI (bs (zgo (zTe I (I 16) n T A B (fun _ => false) (nI w)) (fun e => e == D k) (zst (I 15 0) (I 15 1) (nI q) (I 22 (9 + i)))).2) = I R (a + 2 * k + 1))) m = true := by
          cases hz : zfits (fun k => decide (nI (bs (zgo (zTe I (I 16) n T A B (fun _ => false) (nI w)) (fun e => e == D k) (zst (I 15 0) (I 15 1) (nI q) (I 22 (9 + i)))).2) = I R (a + 2 * k + 1))) m
          · rw [hz] at c31; exact absurd rfl c31
          · rfl
        have k := malts_loop (l := l) (J := J) n T A B ht i hx hi w ew R hR hR2 a m hxa hxm ham D hD f (q + 1) I2 nw2 (by omega) (by omega) hT2
        rw [show zset (fun q => zfits (fun k => decide (nI (bs (zgo (zTe I (I 16) n T A B (fun _ => false) (nI w)) (fun e => e == D k) (zst (I 15 0) (I 15 1) (nI q) (I 22 (9 + i)))).2) = I R (a + 2 * k + 1))) m) (q + 1) = zset (fun q => zfits (fun k => decide (nI (bs (zgo (zTe I (I 16) n T A B (fun _ => false) (nI w)) (fun e => e == D k) (zst (I 15 0) (I 15 1) (nI q) (I 22 (9 + i)))).2) = I R (a + 2 * k + 1))) m) q ||| ((1 : Int32) <<< (nI q &&& 31)) from if_pos hb, nI_succ] at k
        exact k
set_option maxRecDepth 100000 in
set_option maxHeartbeats 4000000 in
theorem qX3_fittingMalts {l : zL} {I : Nat → Nat → Int32} {J : Nat → Nat → Int64} {nw : Bool} (n T : Nat) (A B : Nat → Nat) (ht : zTown I n T A B) {x : Int32} (i : Nat) (hx : x = nI i) (hi : i < 4) (w : Nat) (ew : I 22 (1 + i) - 1 = nI w) (R : Nat) (hR : SH[R]? = some (10, 40)) (hR2 : R < 74) {xa xm : Int32} (a m : Nat) (hxa : xa = nI a) (hxm : xm = nI m) (ham : a + 2 * m ≤ 40) (D : Nat → Nat) (hD : ∀ k, k < m → I R (a + 2 * k) = nI (D k) ∧ D k < n) : zP l mX3_fittingMalts [.ref 79, .int x, .ref R, .int xa, .int xm] (hh I J nw) (zKeep I J (.int (zset (fun q => zfits (fun k => decide (nI (bs (zgo (zTe I (I 16) n T A B (fun _ => false) (nI w)) (fun e => e == D k) (zst (I 15 0) (I 15 1) (nI q) (I 22 (9 + i)))).2) = I R (a + 2 * k + 1))) m) 21))) := by
  refine z_start [.ref 79, .int x, .ref R, .int xa, .int xm, zno, zno] (by decide +kernel) (Nat.le_of_ble_eq_true rfl) rfl ?_
  refine z_iconst (pc := 0) (0) dX3_fittingMalts_0 rfl ?_
  refine z_istore_5 (pc := 1) dX3_fittingMalts_1 (by decide) rfl ?_
  refine z_aload_0 (pc := 3) dX3_fittingMalts_3 ?_
  refine y_getR (pc := 4) dX3_fittingMalts_4 flX3_26 rfl (by first | rfl | assumption) (by first | rfl | assumption) ?_
  refine z_V0 (pc := 7) dX3_fittingMalts_7 mlX3_31 kX6_beAsTold vX6_beAsTold (by decide) (by decide) (by first | rfl | assumption) (Nat.le_of_ble_eq_true rfl) (qX6_beAsTold T ht.2.2.1 ht.2.2.2.1 A B (fun k hk => ⟨(ht.2.2.2.2.1 k hk).1, by have := (ht.2.2.2.2.1 k hk).2; have := ht.1; omega⟩) (fun k hk => ⟨(ht.2.2.2.2.2.1 k hk).1, by have := (ht.2.2.2.2.2.1 k hk).2; have := ht.1; omega⟩)) ⟨Nat.le_refl _, Nat.le_refl _⟩ (fun r h1 hq => ?_)
  obtain ⟨rfl, g2, rfl, hg2⟩ := hq
  have hT := zTold.first ht hg2
  refine z_iconst (pc := 10) (0) dX3_fittingMalts_10 rfl ?_
  refine z_istore_6 (pc := 11) dX3_fittingMalts_11 (by decide) rfl ?_
  have k := malts_loop (l := l) (J := J) n T A B ht i hx hi w ew R hR hR2 a m hxa hxm ham D hD 22 0 _ nw (by omega) (by omega) hT
  exact k
set_option maxRecDepth 100000 in
set_option maxHeartbeats 4000000 in
theorem kinds_loop {l : zL} {I : Nat → Nat → Int32} {J : Nat → Nat → Int64} (n T : Nat) (A B : Nat → Nat) (ht : zTown I n T A B) {x : Int32} (i : Nat) (hx : x = nI i) (hi : i < 4) (w : Nat) (ew : I 22 (1 + i) - 1 = nI w) (R : Nat) (hR : SH[R]? = some (10, 40)) (hR2 : R < 74) {xa xm : Int32} (a m : Nat) (hxa : xa = nI a) (hxm : xm = nI m) (ham : a + 2 * m ≤ 40) (D : Nat → Nat) (hD : ∀ k, k < m → I R (a + 2 * k) = nI (D k) ∧ D k < n) {xd : Int32} (d : Nat) (hxd : xd = nI d) (hd : d < n) : ∀ (f q : Nat) (I1 : Nat → Nat → Int32) (nw : Bool) (k0 : Int32), 1 ≤ q → q ≤ 6 → 6 - q < f → zFr I I1 → (∀ e, e < n → e ≠ d → I1 75 e = I 16 e) → (∀ e, e < 6 → I1 76 e = nI (bs (ztl A B (fun _ => false) T e))) →
    zW l mX3_fittingKinds SH.length (zsl SH) 13 [.ref 79, .int xd, .int x, .ref R, .int xa, .int xm, .int (zset (fun q => !(q == 0) && zfits (fun k => decide (nI (bs (zgo (zTe I (fun e => if e = d then nI q else I 16 e) n T A B (fun _ => false) (nI w)) (fun e => e == D k) (zst (I 15 0) (I 15 1) (I 22 (5 + i)) (I 22 (9 + i)))).2) = I R (a + 2 * k + 1))) m) q), .int (nI q)] [] (I1, J, RF nw, SH) (zKeep I J (.int (zset (fun q => !(q == 0) && zfits (fun k => decide (nI (bs (zgo (zTe I (fun e => if e = d then nI q else I 16 e) n T A B (fun _ => false) (nI w)) (fun e => e == D k) (zst (I 15 0) (I 15 1) (I 22 (5 + i)) (I 22 (9 + i)))).2) = I R (a + 2 * k + 1))) m) 6)))
  | 0, q, I1, nw, k0, _, _, hf, _, _, _ => by omega
  | f + 1, q, I1, nw, k0, hq1, hq, hf, hF, hK, hTl => by
    have hn6 := ht.1
    refine z_iload_7 (pc := 13) dX3_fittingKinds_13 ?_
    refine z_iconst (pc := 15) (5) dX3_fittingKinds_15 rfl ?_
    refine z_icmp_gt (pc := 16) (tgt := 68) dX3_fittingKinds_16 (by decide) (fun c16 => ?_) (fun c16 => ?_)
    · skip
      refine z_iload_6 (pc := 68) dX3_fittingKinds_68 ?_
      refine z_ret (pc := 70) (r := some (.int _)) rfl dX3_fittingKinds_70 trivial rfl rfl ?_
      have : q = 6 := by
        rcases Nat.lt_or_ge q 6 with z | z
        · exact absurd c16 (nI_nlt (a := 5) (by omega) (by omega))
        · omega
      subst this
      exact ⟨rfl, I1, nw, rfl, hF⟩
    · skip
      have hlt : q < 6 := by
        rcases Nat.lt_or_ge q 6 with z | z
        · exact z
        · exact absurd (nI_lt (a := 5) (by omega) (by omega)) c16
      refine z_aload_0 (pc := 19) dX3_fittingKinds_19 ?_
      refine y_getR (pc := 20) dX3_fittingKinds_20 flX3_26 rfl (by first | rfl | assumption) (by first | rfl | assumption) ?_
      refine z_iload_1 (pc := 23) dX3_fittingKinds_23 ?_
      refine z_iload_7 (pc := 24) dX3_fittingKinds_24 ?_
      refine z_V2 (pc := 26) dX3_fittingKinds_26 mlX3_70 kX6_takeAs vX6_takeAs (by decide) (by decide) (by first | rfl | assumption) (Nat.le_of_ble_eq_true rfl) (qX6_takeAs d hxd (by omega)) ⟨Nat.le_refl _, Nat.le_refl _⟩ (fun r h1 hq => ?_)
      obtain ⟨rfl, rfl⟩ := hq
      have hT3 : zTold I (zup I1 75 d (nI q)) n T A B (fun e => if e = d then nI q else I 16 e) (fun _ => false) := by
        refine ⟨fun b hb => by funext c; rw [zup_nk _ _ (by omega), hF b hb], fun e he => ?_, fun e he => by rw [zup_nk _ _ (by decide)]; exact hTl e he⟩
        dsimp only
        by_cases h : e = d
        · subst h; rw [zup_same, if_pos rfl]; exact ⟨rfl, q, hq1, by omega, rfl⟩
        · rw [zup_nj _ _ h, if_neg h]; exact ⟨hK e he h, ht.2.2.2.2.2.2 e he⟩
      refine z_aload_0 (pc := 29) dX3_fittingKinds_29 ?_
      refine z_iload_2 (pc := 30) dX3_fittingKinds_30 ?_
      refine z_aload_0 (pc := 31) dX3_fittingKinds_31 ?_
      refine y_getR (pc := 32) dX3_fittingKinds_32 flX3_22 rfl (by first | rfl | assumption) (by first | rfl | assumption) ?_
      refine y_getR (pc := 35) dX3_fittingKinds_35 flX3_73 rfl (by first | rfl | assumption) (by first | rfl | assumption) ?_
      refine z_iload_2 (pc := 38) dX3_fittingKinds_38 ?_
      refine z_V1 (pc := 39) dX3_fittingKinds_39 mlX3_76 kX2_maltOf vX2_maltOf (by decide) (by decide) (by first | rfl | assumption) (Nat.le_of_ble_eq_true rfl) (qX2_maltOf rfl rfl rfl i hx hi) ⟨Nat.le_refl _, Nat.le_refl _⟩ (fun r h1 hq => ?_)
      obtain ⟨rfl, rfl⟩ := hq
      rw [hT3.1 22 (by omega)]
      refine z_aload_3 (pc := 42) dX3_fittingKinds_42 ?_
      refine z_iload_4 (pc := 43) dX3_fittingKinds_43 ?_
      refine z_iload_5 (pc := 45) dX3_fittingKinds_45 ?_
      refine z_V5 (pc := 47) dX3_fittingKinds_47 mlX3_66 kX3_fits vX3_fits (by decide) (by decide) (by first | rfl | assumption) (Nat.le_of_ble_eq_true rfl) (qX3_fits n T A B ht i hx hi w ew R hR hR2 a m hxa hxm ham D hD (fun e => if e = d then nI q else I 16 e) hT3) ⟨Nat.le_refl _, Nat.le_refl _⟩ (fun r h1 hq => ?_)
      obtain ⟨rfl, I2, nw2, rfl, hT2⟩ := hq
      refine z_if_eq (pc := 50) (tgt := 62) dX3_fittingKinds_50 (by decide) (fun c50 => ?_) (fun c50 => ?_)
      · skip
        refine z_iinc_7 (pc := 62) (1) dX3_fittingKinds_62 rfl (by decide) rfl ?_
        refine z_goto (pc := 65) (tgt := 13) dX3_fittingKinds_65 (by decide) ?_
        have hb : zfits (fun k => decide (nI (bs (zgo (zTe I (fun e => if e = d then nI q else I 16 e) n T A B (fun _ => false) (nI w)) (fun e => e == D k) (zst (I 15 0) (I 15 1) (I 22 (5 + i)) (I 22 (9 + i)))).2) = I R (a + 2 * k + 1))) m = false := by
          cases hz : zfits (fun k => decide (nI (bs (zgo (zTe I (fun e => if e = d then nI q else I 16 e) n T A B (fun _ => false) (nI w)) (fun e => e == D k) (zst (I 15 0) (I 15 1) (I 22 (5 + i)) (I 22 (9 + i)))).2) = I R (a + 2 * k + 1))) m
          · rfl
          · rw [hz] at c50; exact absurd c50 (by decide)
        have k := kinds_loop (l := l) (J := J) n T A B ht i hx hi w ew R hR hR2 a m hxa hxm ham D hD d hxd hd f (q + 1) I2 nw2 0 (by omega) (by omega) (by omega) hT2.1 (fun e h1 h2 => by rw [(hT2.2.1 e h1).1]; exact if_neg h2) hT2.2.2
        rw [show zset (fun q => !(q == 0) && zfits (fun k => decide (nI (bs (zgo (zTe I (fun e => if e = d then nI q else I 16 e) n T A B (fun _ => false) (nI w)) (fun e => e == D k) (zst (I 15 0) (I 15 1) (I 22 (5 + i)) (I 22 (9 + i)))).2) = I R (a + 2 * k + 1))) m) (q + 1) = zset (fun q => !(q == 0) && zfits (fun k => decide (nI (bs (zgo (zTe I (fun e => if e = d then nI q else I 16 e) n T A B (fun _ => false) (nI w)) (fun e => e == D k) (zst (I 15 0) (I 15 1) (I 22 (5 + i)) (I 22 (9 + i)))).2) = I R (a + 2 * k + 1))) m) q from if_neg (by show ¬ (!(q == 0) && _) = true; rw [hb]; simp), nI_succ] at k
        exact k
      · skip
        refine z_iload_6 (pc := 53) dX3_fittingKinds_53 ?_
        refine z_iconst (pc := 55) (1) dX3_fittingKinds_55 rfl ?_
        refine z_iload_7 (pc := 56) dX3_fittingKinds_56 ?_
        refine z_ishl (pc := 58) dX3_fittingKinds_58 ?_
        refine z_ior (pc := 59) dX3_fittingKinds_59 ?_
        refine z_istore_6 (pc := 60) dX3_fittingKinds_60 (by decide) rfl ?_
        refine z_iinc_7 (pc := 62) (1) dX3_fittingKinds_62 rfl (by decide) rfl ?_
        refine z_goto (pc := 65) (tgt := 13) dX3_fittingKinds_65 (by decide) ?_
        have hb : zfits (fun k => decide (nI (bs (zgo (zTe I (fun e => if e = d then nI q else I 16 e) n T A B (fun _ => false) (nI w)) (fun e => e == D k) (zst (I 15 0) (I 15 1) (I 22 (5 + i)) (I 22 (9 + i)))).2) = I R (a + 2 * k + 1))) m = true := by
          cases hz : zfits (fun k => decide (nI (bs (zgo (zTe I (fun e => if e = d then nI q else I 16 e) n T A B (fun _ => false) (nI w)) (fun e => e == D k) (zst (I 15 0) (I 15 1) (I 22 (5 + i)) (I 22 (9 + i)))).2) = I R (a + 2 * k + 1))) m
          · rw [hz] at c50; exact absurd rfl c50
          · rfl
        have k := kinds_loop (l := l) (J := J) n T A B ht i hx hi w ew R hR hR2 a m hxa hxm ham D hD d hxd hd f (q + 1) I2 nw2 0 (by omega) (by omega) (by omega) hT2.1 (fun e h1 h2 => by rw [(hT2.2.1 e h1).1]; exact if_neg h2) hT2.2.2
        rw [show zset (fun q => !(q == 0) && zfits (fun k => decide (nI (bs (zgo (zTe I (fun e => if e = d then nI q else I 16 e) n T A B (fun _ => false) (nI w)) (fun e => e == D k) (zst (I 15 0) (I 15 1) (I 22 (5 + i)) (I 22 (9 + i)))).2) = I R (a + 2 * k + 1))) m) (q + 1) = zset (fun q => !(q == 0) && zfits (fun k => decide (nI (bs (zgo (zTe I (fun e => if e = d then nI q else I 16 e) n T A B (fun _ => false) (nI w)) (fun e => e == D k) (zst (I 15 0) (I 15 1) (I 22 (5 + i)) (I 22 (9 + i)))).2) = I R (a + 2 * k + 1))) m) q ||| ((1 : Int32) <<< (nI q &&& 31)) from if_pos (by show (!(q == 0) && _) = true; rw [hb]; simp; omega), nI_succ] at k
        exact k
set_option maxRecDepth 100000 in
set_option maxHeartbeats 4000000 in
theorem qX3_fittingKinds {l : zL} {I : Nat → Nat → Int32} {J : Nat → Nat → Int64} {nw : Bool} (n T : Nat) (A B : Nat → Nat) (ht : zTown I n T A B) {x : Int32} (i : Nat) (hx : x = nI i) (hi : i < 4) (w : Nat) (ew : I 22 (1 + i) - 1 = nI w) (R : Nat) (hR : SH[R]? = some (10, 40)) (hR2 : R < 74) {xa xm : Int32} (a m : Nat) (hxa : xa = nI a) (hxm : xm = nI m) (ham : a + 2 * m ≤ 40) (D : Nat → Nat) (hD : ∀ k, k < m → I R (a + 2 * k) = nI (D k) ∧ D k < n) {xd : Int32} (d : Nat) (hxd : xd = nI d) (hd : d < n) : zP l mX3_fittingKinds [.ref 79, .int xd, .int x, .ref R, .int xa, .int xm] (hh I J nw) (zKeep I J (.int (zset (fun q => !(q == 0) && zfits (fun k => decide (nI (bs (zgo (zTe I (fun e => if e = d then nI q else I 16 e) n T A B (fun _ => false) (nI w)) (fun e => e == D k) (zst (I 15 0) (I 15 1) (I 22 (5 + i)) (I 22 (9 + i)))).2) = I R (a + 2 * k + 1))) m) 6))) := by
  refine z_start [.ref 79, .int xd, .int x, .ref R, .int xa, .int xm, zno, zno] (by decide +kernel) (Nat.le_of_ble_eq_true rfl) rfl ?_
  refine z_iconst (pc := 0) (0) dX3_fittingKinds_0 rfl ?_
  refine z_istore_6 (pc := 1) dX3_fittingKinds_1 (by decide) rfl ?_
  refine z_aload_0 (pc := 3) dX3_fittingKinds_3 ?_
  refine y_getR (pc := 4) dX3_fittingKinds_4 flX3_26 rfl (by first | rfl | assumption) (by first | rfl | assumption) ?_
  refine z_V0 (pc := 7) dX3_fittingKinds_7 mlX3_31 kX6_beAsTold vX6_beAsTold (by decide) (by decide) (by first | rfl | assumption) (Nat.le_of_ble_eq_true rfl) (qX6_beAsTold T ht.2.2.1 ht.2.2.2.1 A B (fun k hk => ⟨(ht.2.2.2.2.1 k hk).1, by have := (ht.2.2.2.2.1 k hk).2; have := ht.1; omega⟩) (fun k hk => ⟨(ht.2.2.2.2.2.1 k hk).1, by have := (ht.2.2.2.2.2.1 k hk).2; have := ht.1; omega⟩)) ⟨Nat.le_refl _, Nat.le_refl _⟩ (fun r h1 hq => ?_)
  obtain ⟨rfl, g2, rfl, hg2⟩ := hq
  have hT := zTold.first ht hg2
  refine z_iconst (pc := 10) (1) dX3_fittingKinds_10 rfl ?_
  refine z_istore_7 (pc := 11) dX3_fittingKinds_11 (by decide) rfl ?_
  have k := kinds_loop (l := l) (J := J) n T A B ht i hx hi w ew R hR hR2 a m hxa hxm ham D hD d hxd hd 6 1 _ nw 0 (by omega) (by omega) (by omega) hT.1 (fun e h1 h2 => (hT.2.1 e h1).1) hT.2.2
  exact k
