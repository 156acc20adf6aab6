def zmTk (I : Nat → Nat → Int32) (kd : Nat → Int32) (n T : Nat) (A B : Nat → Nat) (wh : Int32) : zTn := (n, kd, fun d => I 90 (12 + d), fun d => I 90 (18 + d), wh, fun d e => if kd d = 5 then decide (e < n) && !(e == d) else ztl A B (fun _ => false) T d e)
def zcm (I : Nat → Nat → Int32) (kd : Nat → Int32) (n T : Nat) (A B : Nat → Nat) (i b : Nat) (mt : Int32) (j : Nat) : Bool := decide (nI (bs (zgo (zmTk I kd n T A B (I 90 (48 + i))) (fun e => e == (I 88 (b + 2 * j)).toNatClampNeg) (zst (I 90 0) (I 90 1) mt (I 90 (56 + i)))).2) = I 88 (b + 2 * j + 1))
def mMal (I : Nat → Nat → Int32) (n T : Nat) (A B : Nat → Nat) (x y v z : Int32) : Int32 × (Nat → Nat → Int32) := if (mTw I n x y v z).1 = 0 then (zset (fun q => zall (zcm I (fun d => I 90 (6 + d)) n T A B x.toNatClampNeg (40 * y.toNatClampNeg + v.toNatClampNeg) (nI q)) z.toNatClampNeg) 21, zup I 85 3 0) else mTw I n x y v z
def mWho (I : Nat → Nat → Int32) (n T : Nat) (A B : Nat → Nat) (d x y v z : Int32) : Int32 × (Nat → Nat → Int32) := if zlt d n = true then (if (mTw I n x y v z).1 = 0 then (zset (fun q => !(q == 0) && zall (zcm I (fun e => if e = d.toNatClampNeg then nI q else I 90 (6 + e)) n T A B x.toNatClampNeg (40 * y.toNatClampNeg + v.toNatClampNeg) (I 90 (52 + x.toNatClampNeg))) z.toNatClampNeg) 6, zup I 85 3 0) else mTw I n x y v z) else (-1000001, I)
theorem mTw_ok {I : Nat → Nat → Int32} {n : Nat} {x r y z : Int32} (hR : ∀ r, r < 8 → I 87 r = -1 ∨ ∃ q, q ≤ 40 ∧ I 87 r = nI q) (h : (mTw I n x r y z).1 = 0) : mTw I n x r y z = (0, I) ∧ ∃ i rr aa m, x = nI i ∧ r = nI rr ∧ y = nI aa ∧ z = nI m ∧ i < 4 ∧ rr < 8 ∧ (1 ≤ m ∧ m ≤ 6) ∧ aa + 2 * m ≤ 40 ∧ ¬ I 90 (44 + i) = 0 ∧ zall (fun k => zlt (I 88 (40 * rr + aa + 2 * k)) n) m = true := by
  by_cases hg : zlt x 4 = true ∧ zlt r 8 = true ∧ ¬ z < 1 ∧ z ≤ 6
  · obtain ⟨i, hi, rfl⟩ := zlt_nI (by decide) hg.1
    obtain ⟨rr, hr, rfl⟩ := zlt_nI (by decide) hg.2.1
    obtain ⟨m, hm, rfl⟩ : ∃ m, (1 ≤ m ∧ m ≤ 6) ∧ z = nI m := by
      obtain ⟨m, hm, e⟩ := nI_of2 (x := z) (M := 6) (n := 6) (by decide) (fun q => hg.2.2.1 (Int32.lt_trans q (by decide))) hg.2.2.2
      refine ⟨m, ⟨?_, hm⟩, e⟩
      rcases Nat.lt_or_ge m 1 with q | q
      · exact absurd (by rw [e, show m = 0 by omega]; decide) hg.2.2.1
      · exact q
    have hcl : (nI i).toNatClampNeg = i := nI_clamp (by omega)
    have hclr : (nI rr).toNatClampNeg = rr := nI_clamp (by omega)
    have hclm : (nI m).toNatClampNeg = m := nI_clamp (by omega)
    unfold mTw at h ⊢
    rw [if_pos hg, hcl, hclr, hclm] at h ⊢
    by_cases c1 : I 90 (44 + i) = 0
    · rw [if_pos c1] at h; dsimp only at h; exact absurd h (by decide)
    · rw [if_neg c1] at h ⊢
      by_cases c2 : I 87 rr < 0
      · rw [if_pos c2] at h; dsimp only at h; exact absurd h (by decide)
      · rw [if_neg c2] at h ⊢
        obtain ⟨q, hq, eq⟩ : ∃ q, q ≤ 40 ∧ I 87 rr = nI q := by
          rcases hR rr hr with z | z
          · rw [z] at c2; exact absurd (by decide) c2
          · exact z
        rw [eq, nI_clamp (by omega)] at h ⊢
        by_cases c3 : zhold y (2 * nI m) q = true
        · rw [if_pos c3] at h ⊢
          obtain ⟨aa, nn, rfl, hn2, han⟩ := zhold_nI hq c3
          rw [dbl] at hn2
          have hnn : 2 * m = nn := (nI_eq (by omega) (by omega)).mp hn2
          have hca : (nI aa).toNatClampNeg = aa := nI_clamp (by omega)
          rw [hca] at h ⊢
          by_cases c4 : zall (fun k => zlt (I 88 (40 * rr + aa + 2 * k)) n) m = true
          · rw [if_pos c4]
            exact ⟨rfl, i, rr, aa, m, rfl, rfl, rfl, rfl, hi, hr, hm, by omega, c1, c4⟩
          · rw [if_neg c4] at h; dsimp only at h; exact absurd h (by decide)
        · rw [if_neg c3] at h; dsimp only at h; exact absurd h (by decide)
  · unfold mTw at h
    rw [if_neg hg] at h; dsimp only at h; exact absurd h (by decide)
/-- aside is the town but for one place -/
def zAs (I I1 : Nat → Nat → Int32) (p : Nat) : Prop := zEm I I1 ∧ ∀ b, b < 66 → b ≠ p → I1 99 b = I 90 b
theorem zEm_at {I I2 : Nat → Nat → Int32} (h : zEm I I2) {a : Nat} (ha : a ≠ 85 ∧ a ≠ 96 ∧ a ≠ 97 ∧ a ≠ 98 ∧ a ≠ 99) : I2 a = I a := by
  funext b; exact h a b (by omega)
theorem zEm_99 {I I2 : Nat → Nat → Int32} {j : Nat} {v : Int32} (h : zEm I I2) : zEm I (zup I2 99 j v) := by
  intro x y hn
  rw [zup_no (Or.inl (fun q => hn (by simp [q])))]; exact h x y hn
theorem zEm_TF {I I1 I2 : Nat → Nat → Int32} (h : zEm I I1) (hF : zTF I1 I2) : zEm I I2 := fun x y hn => by rw [zTF_em hF x y hn, h x y hn]
theorem zAs_next {I I1 I2 : Nat → Nat → Int32} {p : Nat} {v : Int32} (h : zAs I I1 p) (hF : zTF (zup I1 99 p v) I2) : zAs I I2 p := by
  refine ⟨zEm_TF (zEm_99 h.1) hF, fun b hb hp => ?_⟩
  rw [hF.1 99 (by decide) (by decide) (by decide) (by decide), zup_no (Or.inr hp)]; exact h.2 b hb hp
theorem zAs_first (I : Nat → Nat → Int32) (p : Nat) : zAs I (zcpy I 90 99 0 0 66) p := by
  refine ⟨fun x y hn => ?_, fun b hb _ => ?_⟩
  · unfold zcpy; rw [if_neg (fun q => hn (by simp [q]))]
  · unfold zcpy va_cpy; rw [if_pos rfl, if_pos (by omega)]; congr 1; omega
theorem zcpy99 (I : Nat → Nat → Int32) {b : Nat} (hb : b < 66) : zcpy I 90 99 0 0 66 99 b = I 90 b := (zAs_first I 1000).2 b hb (by omega)
theorem zAs_val {I I1 : Nat → Nat → Int32} {p : Nat} (v : Int32) (h : zAs I I1 p) {b : Nat} (hb : b < 66) : zup I1 99 p v 99 b = if b = p then v else I 90 b := by
  by_cases q : b = p
  · subst q; rw [zup_on, if_pos rfl]
  · rw [zup_no (Or.inr q), if_neg q]; exact h.2 b hb q
/-- what comesSo finds of a town whose one drinker is of another kind, or one cask of another malt -/
theorem zcome_cm {I I1 : Nat → Nat → Int32} {n T : Nat} {A B : Nat → Nat} {i b m : Nat} {kd : Nat → Int32} {mt : Int32} (hn : n ≤ 6) (hi : i < 4) (e88 : I1 88 = I 88) (h0 : I1 99 0 = I 90 0) (h1 : I1 99 1 = I 90 1) (hk : ∀ d, d < n → I1 99 (6 + d) = kd d) (hd : ∀ d, d < n → I1 99 (12 + d) = I 90 (12 + d) ∧ I1 99 (18 + d) = I 90 (18 + d)) (hw : I1 99 (48 + i) = I 90 (48 + i)) (hm : I1 99 (52 + i) = mt) (ha : I1 99 (56 + i) = I 90 (56 + i)) : zall (zcome I1 n T A B i b (fun k => (I 88 (b + 2 * k)).toNatClampNeg)) m = zall (zcm I kd n T A B i b mt) m := by
  refine zall_congr m (fun j hj => ?_)
  unfold zcome zcm
  rw [h0, h1, hw, hm, ha, e88]
  rw [zgo_congr (t := zmT I1 99 n T A B (fun _ => false) (I 90 (48 + i))) (u := zmTk I kd n T A B (I 90 (48 + i)))]
  refine ⟨rfl, rfl, fun d hd2 => ⟨hk d hd2, (hd d hd2).1, (hd d hd2).2, fun e => ?_⟩⟩
  show (if I1 99 (6 + d) = 5 then _ else _) = (if kd d = 5 then _ else _)
  rw [hk d hd2]
set_option maxRecDepth 100000 in
set_option maxHeartbeats 4000000 in
theorem mmal_loop {l : zL} {I : Nat → Nat → Int32} {J : Nat → Nat → Int64} {nw : Bool} (n T : Nat) (A B : Nat → Nat) (ht : zRT I 90 n T A B) (i r aa m : Nat) (hi : i < 4) (hr : r < 8) (ham : aa + 2 * m ≤ 40) (hD : ∀ k, k < m → I 88 (40 * r + aa + 2 * k) = nI (I 88 (40 * r + aa + 2 * k)).toNatClampNeg ∧ (I 88 (40 * r + aa + 2 * k)).toNatClampNeg < 6) {v5 : Int32} {Q : Option Value → zH → Prop} (hQ : ∀ (I2 : Nat → Nat → Int32) (v7 : Value), zEm I I2 → zW l mX9_malts SH.length (zsl SH) 91 [.ref 85, .int (nI i), .int (nI r), .int (nI aa), .int (nI m), .int v5, .int (zset (fun q => zall (zcm I (fun d => I 90 (6 + d)) n T A B i (40 * r + aa) (nI q)) m) 21), v7] [] (I2, J, RF nw, SH) Q) : ∀ (f k : Nat) (I1 : Nat → Nat → Int32), zAs I I1 (52 + i) → k ≤ 21 → 21 - k < f →
    zW l mX9_malts SH.length (zsl SH) 38 [.ref 85, .int (nI i), .int (nI r), .int (nI aa), .int (nI m), .int v5, .int (zset (fun q => zall (zcm I (fun d => I 90 (6 + d)) n T A B i (40 * r + aa) (nI q)) m) k), .int (nI k)] [] (I1, J, RF nw, SH) Q
  | 0, k, _, _, _, hf => by omega
  | f + 1, k, I1, hA, hk, hf => by
    have hn6 := ht.1
    refine z_iload_7 (pc := 38) dX9_malts_38 ?_
    refine z_bipush (pc := 40) (20) dX9_malts_40 rfl ?_
    refine z_icmp_gt (pc := 42) (tgt := 91) dX9_malts_42 (by decide) (fun c42 => ?_) (fun c42 => ?_)
    · skip
      have hkn : k = 21 := by
        rcases Nat.lt_or_ge 20 k with q | q
        · omega
        · exact absurd c42 (nI_nlt (a := 20) (b := k) q (by omega))
      rw [hkn]
      exact hQ _ _ hA.1
    · skip
      have hlt : k ≤ 20 := by
        rcases Nat.lt_or_ge 20 k with q | q
        · exact absurd (nI_lt q (by omega)) c42
        · exact q
      have hv := fun {b : Nat} (hb : b < 66) => zAs_val (nI k) hA hb
      have hlow : ∀ b, b < 44 → zup I1 99 (52 + i) (nI k) 99 b = I 90 b := fun b hb => by rw [hv (by omega), if_neg (by omega)]
      have e88 : zup I1 99 (52 + i) (nI k) 88 = I 88 := by rw [show zup I1 99 (52 + i) (nI k) 88 = I1 88 from zup_other _ _ _ (by decide)]; exact zEm_at hA.1 (by decide)
      have hm52 : zup I1 99 (52 + i) (nI k) 99 (52 + i) = nI k := zup_on
      refine z_aload_0 (pc := 45) dX9_malts_45 ?_
      refine y_getR (pc := 46) dX9_malts_46 flX9_50 rfl (by first | rfl | assumption) (by first | rfl | assumption) ?_
      refine z_bipush (pc := 49) (52) dX9_malts_49 rfl ?_
      refine z_iload_1 (pc := 51) dX9_malts_51 ?_
      refine z_iadd (pc := 52) dX9_malts_52 ?_
      refine z_iload_7 (pc := 53) dX9_malts_53 ?_
      refine y_iastN (pc := 55) (52 + i) dX9_malts_55 (by first | rfl | assumption) (nI_add 52 i) (by omega) (by first | decide | omega) ?_
      refine z_iload_6 (pc := 56) dX9_malts_56 ?_
      refine z_aload_0 (pc := 58) dX9_malts_58 ?_
      refine z_iload_1 (pc := 59) dX9_malts_59 ?_
      refine z_bipush (pc := 60) (40) dX9_malts_60 rfl ?_
      refine z_iload_2 (pc := 62) dX9_malts_62 ?_
      refine z_imul (pc := 63) dX9_malts_63 ?_
      refine z_iload_3 (pc := 64) dX9_malts_64 ?_
      refine z_iadd (pc := 65) dX9_malts_65 ?_
      refine z_iload_4 (pc := 66) dX9_malts_66 ?_
      refine z_V3 (pc := 68) dX9_malts_68 mlX9_251 kX9_comesSo vX9_comesSo (by decide) (by decide) (by first | rfl | assumption) (Nat.le_of_ble_eq_true rfl) (qX9_comesSo n T A B (zRT_map ht hlow) i rfl hi (by rw [hm52]; exact zst_malt hlt _ _ _) (40 * r + aa) m (by omega) (fun k => (I 88 (40 * r + aa + 2 * k)).toNatClampNeg) (by rw [e88]; exact hD) (nI_40 r aa) rfl) ⟨Nat.le_refl _, Nat.le_refl _⟩ (fun r h1 hq => ?_)
      obtain ⟨rfl, I2, rfl, hF⟩ := hq
      rw [zcome_cm (I := I) (kd := fun d => I 90 (6 + d)) (mt := nI k) hn6 hi e88 (hlow 0 (by omega)) (hlow 1 (by omega)) (fun d hd => hlow _ (by omega)) (fun d hd => ⟨hlow _ (by omega), hlow _ (by omega)⟩) (by rw [hv (by omega), if_neg (by omega)]) hm52 (by rw [hv (by omega), if_neg (by omega)])]
      refine z_if_eq (pc := 71) (tgt := 81) dX9_malts_71 (by decide) (fun c71 => ?_) (fun c71 => ?_)
      · skip
        refine z_iconst (pc := 81) (0) dX9_malts_81 rfl ?_
        refine z_ior (pc := 82) dX9_malts_82 ?_
        refine z_istore_6 (pc := 83) dX9_malts_83 (by decide) rfl ?_
        refine z_iinc_7 (pc := 85) (1) dX9_malts_85 rfl (by decide) rfl ?_
        refine z_goto (pc := 88) (tgt := 38) dX9_malts_88 (by decide) ?_
        rw [← nI_succ]
        have kk := mmal_loop n T A B ht i r aa m hi hr ham hD hQ f (k + 1) I2 (zAs_next hA hF) (by omega) (by omega)
        rw [zset, if_neg (by rw [(zbb0 _).mp c71]; decide)] at kk
        rw [Int32.or_zero]
        exact kk
      · skip
        refine z_iconst (pc := 74) (1) dX9_malts_74 rfl ?_
        refine z_iload_7 (pc := 75) dX9_malts_75 ?_
        refine z_ishl (pc := 77) dX9_malts_77 ?_
        refine z_goto (pc := 78) (tgt := 82) dX9_malts_78 (by decide) ?_
        refine z_ior (pc := 82) dX9_malts_82 ?_
        refine z_istore_6 (pc := 83) dX9_malts_83 (by decide) rfl ?_
        refine z_iinc_7 (pc := 85) (1) dX9_malts_85 rfl (by decide) rfl ?_
        refine z_goto (pc := 88) (tgt := 38) dX9_malts_88 (by decide) ?_
        rw [← nI_succ]
        have kk := mmal_loop n T A B ht i r aa m hi hr ham hD hQ f (k + 1) I2 (zAs_next hA hF) (by omega) (by omega)
        rw [zset, if_pos ((zbb1 _).mp c71)] at kk
        exact kk
set_option maxRecDepth 100000 in
set_option maxHeartbeats 4000000 in
theorem qX9_malts {l : zL} {I : Nat → Nat → Int32} {J : Nat → Nat → Int64} {nw : Bool} (n T : Nat) (A B : Nat → Nat) (ht : zRT I 90 n T A B) (hR : ∀ r, r < 8 → I 87 r = -1 ∨ ∃ q, q ≤ 40 ∧ I 87 r = nI q) {x y v z : Int32} : zP l mX9_malts [.ref 85, .int x, .int y, .int v, .int z] (hh I J nw) (zPMe (mMal I n T A B x y v z) J nw) := by
  have hn6 := ht.1
  refine z_start [.ref 85, .int x, .int y, .int v, .int z, zno, zno, zno] (by decide +kernel) (Nat.le_of_ble_eq_true rfl) rfl ?_
  refine z_aload_0 (pc := 0) dX9_malts_0 ?_
  refine z_iload_1 (pc := 1) dX9_malts_1 ?_
  refine z_iload_2 (pc := 2) dX9_malts_2 ?_
  refine z_iload_3 (pc := 3) dX9_malts_3 ?_
  refine z_iload_4 (pc := 4) dX9_malts_4 ?_
  refine z_V4 (pc := 6) dX9_malts_6 mlX9_247 kX9_twos vX9_twos (by decide) (by decide) (by first | rfl | assumption) (Nat.le_of_ble_eq_true rfl) (qX9_twos n hn6 ht.2.1 hR) ⟨Nat.le_refl _, Nat.le_refl _⟩ (fun r h1 hq => ?_)
  obtain ⟨rfl, rfl⟩ := hq
  refine z_istore_5 (pc := 9) dX9_malts_9 (by decide) rfl ?_
  refine z_iload_5 (pc := 11) dX9_malts_11 ?_
  refine z_if_eq (pc := 13) (tgt := 19) dX9_malts_13 (by decide) (fun c13 => ?_) (fun c13 => ?_)
  · skip
    have cZERO := c13
    obtain ⟨e0, i, rr, aa, m, rfl, rfl, rfl, rfl, hi, hr, hm, ham, c44, hall⟩ := mTw_ok hR cZERO
    rw [e0]
    have hcl : (nI i).toNatClampNeg = i := nI_clamp (by omega)
    have hclr : (nI rr).toNatClampNeg = rr := nI_clamp (by omega)
    have hca : (nI aa).toNatClampNeg = aa := nI_clamp (by omega)
    have hclm : (nI m).toNatClampNeg = m := nI_clamp (by omega)
    have hD : ∀ k, k < m → I 88 (40 * rr + aa + 2 * k) = nI (I 88 (40 * rr + aa + 2 * k)).toNatClampNeg ∧ (I 88 (40 * rr + aa + 2 * k)).toNatClampNeg < 6 := by
      intro k hk
      obtain ⟨q, hq, e⟩ := zlt_nI (by omega) (zall_all m hall k hk)
      have e : I 88 (40 * rr + aa + 2 * k) = nI q := e
      rw [e, nI_clamp (by omega)]
      exact ⟨rfl, by omega⟩
    refine z_aload_0 (pc := 19) dX9_malts_19 ?_
    refine y_getR (pc := 20) dX9_malts_20 flX9_22 rfl (by first | rfl | assumption) (by first | rfl | assumption) ?_
    refine z_iconst (pc := 23) (0) dX9_malts_23 rfl ?_
    refine z_aload_0 (pc := 24) dX9_malts_24 ?_
    refine y_getR (pc := 25) dX9_malts_25 flX9_50 rfl (by first | rfl | assumption) (by first | rfl | assumption) ?_
    refine z_iconst (pc := 28) (0) dX9_malts_28 rfl ?_
    refine z_S4 (pc := 29) dX9_malts_29 mlX9_150 kX9_copies vX9_copies (by decide) (by decide) (Nat.le_of_ble_eq_true rfl) (qX9_copies 90 99 66 66 0 0 rfl rfl (by decide) (by omega) (by omega) (by decide) rfl rfl) ⟨Nat.le_refl _, Nat.le_refl _⟩ (fun r h1 hq => ?_)
    obtain ⟨rfl, rfl⟩ := hq
    refine z_iconst (pc := 32) (0) dX9_malts_32 rfl ?_
    refine z_istore_6 (pc := 33) dX9_malts_33 (by decide) rfl ?_
    refine z_iconst (pc := 35) (0) dX9_malts_35 rfl ?_
    refine z_istore_7 (pc := 36) dX9_malts_36 (by decide) rfl ?_
    have k91 : ∀ (I2 : Nat → Nat → Int32) (v7 : Value), zEm I I2 → zW l mX9_malts SH.length (zsl SH) 91 [.ref 85, .int (nI i), .int (nI rr), .int (nI aa), .int (nI m), .int 0, .int (zset (fun q => zall (zcm I (fun d => I 90 (6 + d)) n T A B i (40 * rr + aa) (nI q)) m) 21), v7] [] (I2, J, RF nw, SH) (zPMe (mMal I n T A B (nI i) (nI rr) (nI aa) (nI m)) J nw) := by
      intro I2 v7 hE
      refine z_aload_0 (pc := 91) dX9_malts_91 ?_
      refine z_iload_6 (pc := 92) dX9_malts_92 ?_
      refine z_V1 (pc := 94) dX9_malts_94 mlX9_75 kX9_well vX9_well (by decide) (by decide) (by first | rfl | assumption) (Nat.le_of_ble_eq_true rfl) (qX9_well) ⟨Nat.le_refl _, Nat.le_refl _⟩ (fun r h1 hq => ?_)
      obtain ⟨rfl, rfl⟩ := hq
      refine z_ret (pc := 97) (r := some (.int _)) rfl dX9_malts_97 trivial rfl rfl ?_
      refine ⟨?_, zup I2 85 3 0, rfl, ?_⟩
      · show some (Value.int _) = some (Value.int (mMal _ _ _ _ _ _ _ _ _).1)
        unfold mMal
        rw [if_pos cZERO, hcl, hclr, hca, hclm]
      · show zEm (mMal _ _ _ _ _ _ _ _ _).2 _
        unfold mMal
        rw [if_pos cZERO]
        exact zEm_up hE
    exact mmal_loop n T A B ht i rr aa m hi hr ham hD k91 22 0 _ (zAs_first I (52 + i)) (by omega) (by omega)
  · skip
    refine z_iload_5 (pc := 16) dX9_malts_16 ?_
    refine z_ret (pc := 18) (r := some (.int _)) rfl dX9_malts_18 trivial rfl rfl ?_
    refine zPMe_of ?_
    unfold mMal
    rw [if_neg c13]
set_option maxRecDepth 100000 in
set_option maxHeartbeats 4000000 in
theorem mwho_loop {l : zL} {I : Nat → Nat → Int32} {J : Nat → Nat → Int64} {nw : Bool} (n T : Nat) (A B : Nat → Nat) (ht : zRT I 90 n T A B) (d i r aa m : Nat) (hd : d < n) (hi : i < 4) (hs : -1000 < zst (I 90 0) (I 90 1) (I 90 (52 + i)) (I 90 (56 + i))) (hr : r < 8) (ham : aa + 2 * m ≤ 40) (hD : ∀ k, k < m → I 88 (40 * r + aa + 2 * k) = nI (I 88 (40 * r + aa + 2 * k)).toNatClampNeg ∧ (I 88 (40 * r + aa + 2 * k)).toNatClampNeg < 6) {v6 : Int32} {Q : Option Value → zH → Prop} (hQ : ∀ (I2 : Nat → Nat → Int32) (v7 : Value), zEm I I2 → zW l mX9_who SH.length (zsl SH) 105 [.ref 85, .int (nI d), .int (nI i), .int (nI r), .int (nI aa), .int (nI m), .int v6, .int (zset (fun q => !(q == 0) && zall (zcm I (fun e => if e = d then nI q else I 90 (6 + e)) n T A B i (40 * r + aa) (I 90 (52 + i))) m) 6), v7] [] (I2, J, RF nw, SH) Q) : ∀ (f k : Nat) (I1 : Nat → Nat → Int32), zAs I I1 (6 + d) → 1 ≤ k → k ≤ 6 → 6 - k < f →
    zW l mX9_who SH.length (zsl SH) 52 [.ref 85, .int (nI d), .int (nI i), .int (nI r), .int (nI aa), .int (nI m), .int v6, .int (zset (fun q => !(q == 0) && zall (zcm I (fun e => if e = d then nI q else I 90 (6 + e)) n T A B i (40 * r + aa) (I 90 (52 + i))) m) k), .int (nI k)] [] (I1, J, RF nw, SH) Q
  | 0, k, _, _, _, _, hf => by omega
  | f + 1, k, I1, hA, h1k, hk, hf => by
    have hn6 := ht.1
    refine z_iload_8 (pc := 52) dX9_who_52 ?_
    refine z_iconst (pc := 54) (5) dX9_who_54 rfl ?_
    refine z_icmp_gt (pc := 55) (tgt := 105) dX9_who_55 (by decide) (fun c55 => ?_) (fun c55 => ?_)
    · skip
      have hkn : k = 6 := by
        rcases Nat.lt_or_ge 5 k with q | q
        · omega
        · exact absurd c55 (nI_nlt (a := 5) (b := k) q (by omega))
      rw [hkn]
      exact hQ _ _ hA.1
    · skip
      have hlt : k ≤ 5 := by
        rcases Nat.lt_or_ge 5 k with q | q
        · exact absurd (nI_lt q (by omega)) c55
        · exact q
      have hv := fun {b : Nat} (hb : b < 66) => zAs_val (nI k) hA hb
      have hup : ∀ b, b < 66 → ¬ (6 ≤ b ∧ b < 12) → zup I1 99 (6 + d) (nI k) 99 b = I 90 b := fun b hb hn => by rw [hv hb, if_neg (by omega)]
      have hkd : ∀ e, e < n → zup I1 99 (6 + d) (nI k) 99 (6 + e) = if e = d then nI k else I 90 (6 + e) := by
        intro e he
        rw [hv (by omega)]
        by_cases q : e = d
        · rw [if_pos q, if_pos (by omega)]
        · rw [if_neg q, if_neg (by omega)]
      have e88 : zup I1 99 (6 + d) (nI k) 88 = I 88 := by rw [show zup I1 99 (6 + d) (nI k) 88 = I1 88 from zup_other _ _ _ (by decide)]; exact zEm_at hA.1 (by decide)
      have hRT : zRT (zup I1 99 (6 + d) (nI k)) 99 n T A B := by
        obtain ⟨h1, h2, h3, h4, h5, h6, h7⟩ := ht
        refine ⟨h1, by rw [hup 3 (by omega) (by omega)]; exact h2, h3, by rw [hup 4 (by omega) (by omega)]; exact h4, fun k q => ?_, fun k q => ?_, fun e q => ?_⟩
        · rw [hup (24 + k) (by omega) (by omega)]; exact h5 k q
        · rw [hup (34 + k) (by omega) (by omega)]; exact h6 k q
        · rw [hkd e q]
          by_cases z : e = d
          · rw [if_pos z]; exact ⟨k, h1k, hlt, rfl⟩
          · rw [if_neg z]; exact h7 e q
      refine z_aload_0 (pc := 58) dX9_who_58 ?_
      refine y_getR (pc := 59) dX9_who_59 flX9_50 rfl (by first | rfl | assumption) (by first | rfl | assumption) ?_
      refine z_bipush (pc := 62) (6) dX9_who_62 rfl ?_
      refine z_iload_1 (pc := 64) dX9_who_64 ?_
      refine z_iadd (pc := 65) dX9_who_65 ?_
      refine z_iload_8 (pc := 66) dX9_who_66 ?_
      refine y_iastN (pc := 68) (6 + d) dX9_who_68 (by first | rfl | assumption) (nI_add 6 d) (by omega) (by first | decide | omega) ?_
      refine z_iload_7 (pc := 69) dX9_who_69 ?_
      refine z_aload_0 (pc := 71) dX9_who_71 ?_
      refine z_iload_2 (pc := 72) dX9_who_72 ?_
      refine z_bipush (pc := 73) (40) dX9_who_73 rfl ?_
      refine z_iload_3 (pc := 75) dX9_who_75 ?_
      refine z_imul (pc := 76) dX9_who_76 ?_
      refine z_iload_4 (pc := 77) dX9_who_77 ?_
      refine z_iadd (pc := 79) dX9_who_79 ?_
      refine z_iload_5 (pc := 80) dX9_who_80 ?_
      refine z_V3 (pc := 82) dX9_who_82 mlX9_251 kX9_comesSo vX9_comesSo (by decide) (by decide) (by first | rfl | assumption) (Nat.le_of_ble_eq_true rfl) (qX9_comesSo n T A B hRT i rfl hi (by rw [hup 0 (by omega) (by omega), hup 1 (by omega) (by omega), hup (52 + i) (by omega) (by omega), hup (56 + i) (by omega) (by omega)]; exact hs) (40 * r + aa) m (by omega) (fun k => (I 88 (40 * r + aa + 2 * k)).toNatClampNeg) (by rw [e88]; exact hD) (nI_40 r aa) rfl) ⟨Nat.le_refl _, Nat.le_refl _⟩ (fun r h1 hq => ?_)
      obtain ⟨rfl, I2, rfl, hF⟩ := hq
      rw [zcome_cm (I := I) (kd := fun e => if e = d then nI k else I 90 (6 + e)) (mt := I 90 (52 + i)) hn6 hi e88 (hup 0 (by omega) (by omega)) (hup 1 (by omega) (by omega)) hkd (fun d hd => ⟨hup _ (by omega) (by omega), hup _ (by omega) (by omega)⟩) (hup _ (by omega) (by omega)) (hup _ (by omega) (by omega)) (hup _ (by omega) (by omega))]
      refine z_if_eq (pc := 85) (tgt := 95) dX9_who_85 (by decide) (fun c85 => ?_) (fun c85 => ?_)
      · skip
        refine z_iconst (pc := 95) (0) dX9_who_95 rfl ?_
        refine z_ior (pc := 96) dX9_who_96 ?_
        refine z_istore_7 (pc := 97) dX9_who_97 (by decide) rfl ?_
        refine z_iinc_8 (pc := 99) (1) dX9_who_99 rfl (by decide) rfl ?_
        refine z_goto (pc := 102) (tgt := 52) dX9_who_102 (by decide) ?_
        rw [← nI_succ]
        have kk := mwho_loop n T A B ht d i r aa m hd hi hs hr ham hD hQ f (k + 1) I2 (zAs_next hA hF) (by omega) (by omega) (by omega)
        rw [zset, show (!(k == 0)) = true from by rw [show (k == 0) = false from beq_eq_false_iff_ne.mpr (by omega)]; rfl, Bool.true_and, if_neg (by rw [(zbb0 _).mp c85]; decide)] at kk
        rw [Int32.or_zero]
        exact kk
      · skip
        refine z_iconst (pc := 88) (1) dX9_who_88 rfl ?_
        refine z_iload_8 (pc := 89) dX9_who_89 ?_
        refine z_ishl (pc := 91) dX9_who_91 ?_
        refine z_goto (pc := 92) (tgt := 96) dX9_who_92 (by decide) ?_
        refine z_ior (pc := 96) dX9_who_96 ?_
        refine z_istore_7 (pc := 97) dX9_who_97 (by decide) rfl ?_
        refine z_iinc_8 (pc := 99) (1) dX9_who_99 rfl (by decide) rfl ?_
        refine z_goto (pc := 102) (tgt := 52) dX9_who_102 (by decide) ?_
        rw [← nI_succ]
        have kk := mwho_loop n T A B ht d i r aa m hd hi hs hr ham hD hQ f (k + 1) I2 (zAs_next hA hF) (by omega) (by omega) (by omega)
        rw [zset, show (!(k == 0)) = true from by rw [show (k == 0) = false from beq_eq_false_iff_ne.mpr (by omega)]; rfl, Bool.true_and, if_pos ((zbb1 _).mp c85)] at kk
        exact kk
set_option maxRecDepth 100000 in
set_option maxHeartbeats 4000000 in
theorem qX9_who {l : zL} {I : Nat → Nat → Int32} {J : Nat → Nat → Int64} {nw : Bool} (n T : Nat) (A B : Nat → Nat) (ht : zRT I 90 n T A B) (hR : ∀ r, r < 8 → I 87 r = -1 ∨ ∃ q, q ≤ 40 ∧ I 87 r = nI q) (hs : ∀ i, i < 4 → -1000 < zst (I 90 0) (I 90 1) (I 90 (52 + i)) (I 90 (56 + i))) {d x y v z : Int32} : zP l mX9_who [.ref 85, .int d, .int x, .int y, .int v, .int z] (hh I J nw) (zPMe (mWho I n T A B d x y v z) J nw) := by
  have hn6 := ht.1
  refine z_start [.ref 85, .int d, .int x, .int y, .int v, .int z, zno, zno, zno] (by decide +kernel) (Nat.le_of_ble_eq_true rfl) rfl ?_
  refine z_aload_0 (pc := 0) dX9_who_0 ?_
  refine z_iload_1 (pc := 1) dX9_who_1 ?_
  refine z_V1 (pc := 2) dX9_who_2 mlX9_199 kX9_isDrinker vX9_isDrinker (by decide) (by decide) (by first | rfl | assumption) (Nat.le_of_ble_eq_true rfl) (qX9_isDrinker n hn6 ht.2.1) ⟨Nat.le_refl _, Nat.le_refl _⟩ (fun r h1 hq => ?_)
  obtain ⟨rfl, rfl⟩ := hq
  refine z_if_eq (pc := 5) (tgt := 21) dX9_who_5 (by decide) (fun c5 => ?_) (fun c5 => ?_)
  · skip
    refine z_ldc (pc := 21) dX9_who_21 kcX9_70 ?_
    refine z_istore_6 (pc := 23) dX9_who_23 (by decide) rfl ?_
    refine z_iload_6 (pc := 25) dX9_who_25 ?_
    refine z_if_eq (pc := 27) (tgt := 33) dX9_who_27 (by decide) (fun c27 => ?_) (fun c27 => ?_)
    · exact absurd c27 (by decide)
    · skip
      refine z_iload_6 (pc := 30) dX9_who_30 ?_
      refine z_ret (pc := 32) (r := some (.int _)) rfl dX9_who_32 trivial rfl rfl ?_
      refine zPMe_of ?_
      unfold mWho
      rw [if_neg (by rw [(zbb0 _).mp c5]; decide)]
  · skip
    refine z_aload_0 (pc := 8) dX9_who_8 ?_
    refine z_iload_2 (pc := 9) dX9_who_9 ?_
    refine z_iload_3 (pc := 10) dX9_who_10 ?_
    refine z_iload_4 (pc := 11) dX9_who_11 ?_
    refine z_iload_5 (pc := 13) dX9_who_13 ?_
    refine z_V4 (pc := 15) dX9_who_15 mlX9_247 kX9_twos vX9_twos (by decide) (by decide) (by first | rfl | assumption) (Nat.le_of_ble_eq_true rfl) (qX9_twos n hn6 ht.2.1 hR) ⟨Nat.le_refl _, Nat.le_refl _⟩ (fun r h1 hq => ?_)
    obtain ⟨rfl, rfl⟩ := hq
    refine z_goto (pc := 18) (tgt := 23) dX9_who_18 (by decide) ?_
    refine z_istore_6 (pc := 23) dX9_who_23 (by decide) rfl ?_
    refine z_iload_6 (pc := 25) dX9_who_25 ?_
    refine z_if_eq (pc := 27) (tgt := 33) dX9_who_27 (by decide) (fun c27 => ?_) (fun c27 => ?_)
    · skip
      have cZERO := c27
      have hdd := (zbb1 _).mp c5
      obtain ⟨d, hd, rfl⟩ := zlt_nI (by omega) ((zbb1 _).mp c5)
      have hcd : (nI d).toNatClampNeg = d := nI_clamp (by omega)
      obtain ⟨e0, i, rr, aa, m, rfl, rfl, rfl, rfl, hi, hr, hm, ham, c44, hall⟩ := mTw_ok hR cZERO
      rw [e0]
      have hcl : (nI i).toNatClampNeg = i := nI_clamp (by omega)
      have hclr : (nI rr).toNatClampNeg = rr := nI_clamp (by omega)
      have hca : (nI aa).toNatClampNeg = aa := nI_clamp (by omega)
      have hclm : (nI m).toNatClampNeg = m := nI_clamp (by omega)
      have hD : ∀ k, k < m → I 88 (40 * rr + aa + 2 * k) = nI (I 88 (40 * rr + aa + 2 * k)).toNatClampNeg ∧ (I 88 (40 * rr + aa + 2 * k)).toNatClampNeg < 6 := by
        intro k hk
        obtain ⟨q, hq, e⟩ := zlt_nI (by omega) (zall_all m hall k hk)
        have e : I 88 (40 * rr + aa + 2 * k) = nI q := e
        rw [e, nI_clamp (by omega)]
        exact ⟨rfl, by omega⟩
      refine z_aload_0 (pc := 33) dX9_who_33 ?_
      refine y_getR (pc := 34) dX9_who_34 flX9_22 rfl (by first | rfl | assumption) (by first | rfl | assumption) ?_
      refine z_iconst (pc := 37) (0) dX9_who_37 rfl ?_
      refine z_aload_0 (pc := 38) dX9_who_38 ?_
      refine y_getR (pc := 39) dX9_who_39 flX9_50 rfl (by first | rfl | assumption) (by first | rfl | assumption) ?_
      refine z_iconst (pc := 42) (0) dX9_who_42 rfl ?_
      refine z_S4 (pc := 43) dX9_who_43 mlX9_150 kX9_copies vX9_copies (by decide) (by decide) (Nat.le_of_ble_eq_true rfl) (qX9_copies 90 99 66 66 0 0 rfl rfl (by decide) (by omega) (by omega) (by decide) rfl rfl) ⟨Nat.le_refl _, Nat.le_refl _⟩ (fun r h1 hq => ?_)
      obtain ⟨rfl, rfl⟩ := hq
      refine z_iconst (pc := 46) (0) dX9_who_46 rfl ?_
      refine z_istore_7 (pc := 47) dX9_who_47 (by decide) rfl ?_
      refine z_iconst (pc := 49) (1) dX9_who_49 rfl ?_
      refine z_istore_8 (pc := 50) dX9_who_50 (by decide) rfl ?_
      have k105 : ∀ (I2 : Nat → Nat → Int32) (v7 : Value), zEm I I2 → zW l mX9_who SH.length (zsl SH) 105 [.ref 85, .int (nI d), .int (nI i), .int (nI rr), .int (nI aa), .int (nI m), .int 0, .int (zset (fun q => !(q == 0) && zall (zcm I (fun e => if e = d then nI q else I 90 (6 + e)) n T A B i (40 * rr + aa) (I 90 (52 + i))) m) 6), v7] [] (I2, J, RF nw, SH) (zPMe (mWho I n T A B (nI d) (nI i) (nI rr) (nI aa) (nI m)) J nw) := by
        intro I2 v7 hE
        refine z_aload_0 (pc := 105) dX9_who_105 ?_
        refine z_iload_7 (pc := 106) dX9_who_106 ?_
        refine z_V1 (pc := 108) dX9_who_108 mlX9_75 kX9_well vX9_well (by decide) (by decide) (by first | rfl | assumption) (Nat.le_of_ble_eq_true rfl) (qX9_well) ⟨Nat.le_refl _, Nat.le_refl _⟩ (fun r h1 hq => ?_)
        obtain ⟨rfl, rfl⟩ := hq
        refine z_ret (pc := 111) (r := some (.int _)) rfl dX9_who_111 trivial rfl rfl ?_
        refine ⟨?_, zup I2 85 3 0, rfl, ?_⟩
        · show some (Value.int _) = some (Value.int (mWho _ _ _ _ _ _ _ _ _ _).1)
          unfold mWho
          rw [if_pos hdd, hcd, if_pos cZERO, hcl, hclr, hca, hclm]
        · show zEm (mWho _ _ _ _ _ _ _ _ _ _).2 _
          unfold mWho
          rw [if_pos hdd, if_pos cZERO]
          exact zEm_up hE
      exact mwho_loop n T A B ht d i rr aa m hd hi (hs i hi) hr ham hD k105 6 1 _ (zAs_first I (6 + d)) (by omega) (by omega) (by omega)
    · skip
      refine z_iload_6 (pc := 30) dX9_who_30 ?_
      refine z_ret (pc := 32) (r := some (.int _)) rfl dX9_who_32 trivial rfl rfl ?_
      refine zPMe_of ?_
      unfold mWho
      rw [if_pos ((zbb1 _).mp c5), if_neg c27]
