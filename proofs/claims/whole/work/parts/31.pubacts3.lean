def pKeep (I : Nat → Nat → Int32) (nx kp : Nat) : Nat → Nat → Int32 := zup (zup (zcpy I 22 (50 + nx) 0 0 19) 48 1 (nI ((nx + 1) % 24))) 48 2 (nI (min 24 (kp + 1)))
theorem pKeep_ne (I : Nat → Nat → Int32) {nx kp a : Nat} (hn : nx < 24) (h1 : a ≠ 48) (h2 : a < 50 ∨ 74 ≤ a) : pKeep I nx kp a = I a := by
  funext b
  unfold pKeep
  rw [zup_nk _ _ h1, zup_nk _ _ h1]
  unfold zcpy
  rw [if_neg (by omega)]
theorem pKeep_nx (I : Nat → Nat → Int32) (nx kp : Nat) : pKeep I nx kp 48 1 = nI ((nx + 1) % 24) ∧ pKeep I nx kp 48 2 = nI (min 24 (kp + 1)) := by
  unfold pKeep
  exact ⟨by rw [zup_nj _ _ (by decide), zup_same], by rw [zup_same]⟩
def pUndo (I : Nat → Nat → Int32) (nx kp : Nat) : Int32 × (Nat → Nat → Int32) := if kp = 0 then (-1000002, I) else (nI (kp - 1), zcpy (zup (zup I 48 1 (nI ((nx + 23) % 24))) 48 2 (nI (kp - 1))) (50 + (nx + 23) % 24) 22 0 0 19)
def pBrew (I : Nat → Nat → Int32) (n nx kp : Nat) (x m : Int32) : Int32 × (Nat → Nat → Int32) := if zlt x n = true ∧ zlt m 21 = true then (if zleast I 22 = -1000000 then (-1000003, I) else (zleast I 22, zup (zup (zup (pKeep I nx kp) 22 (1 + (zleast I 22).toNatClampNeg) (x + 1)) 22 (5 + (zleast I 22).toNatClampNeg) m) 22 (9 + (zleast I 22).toNatClampNeg) 0)) else (-1000001, I)
def pWater (I : Nat → Nat → Int32) (nx kp : Nat) (x : Int32) : Int32 × (Nat → Nat → Int32) := if zlt x 4 = true then (if I 22 (1 + x.toNatClampNeg) = 0 then (-1000002, I) else (I 22 (5 + x.toNatClampNeg) / 2, zup (pKeep I nx kp) 22 (5 + x.toNatClampNeg) (I 22 (5 + x.toNatClampNeg) / 2))) else (-1000001, I)
def zblm (I : Nat → Nat → Int32) (i j : Nat) : Int32 := if I 22 (5 + i) + I 22 (5 + j) < 20 then I 22 (5 + i) + I 22 (5 + j) else 20
def pBlend (I : Nat → Nat → Int32) (nx kp : Nat) (x y : Int32) : Int32 × (Nat → Nat → Int32) := if zlt x 4 = true ∧ zlt y 4 = true ∧ ¬ x = y then (if I 22 (1 + x.toNatClampNeg) = 0 ∨ I 22 (1 + y.toNatClampNeg) = 0 then (-1000002, I) else (zblm I x.toNatClampNeg y.toNatClampNeg, zup (zup (pKeep I nx kp) 22 (5 + y.toNatClampNeg) (zblm I x.toNatClampNeg y.toNatClampNeg)) 22 (1 + x.toNatClampNeg) 0)) else (-1000001, I)
theorem zleast_in {I : Nat → Nat → Int32} {k : Nat} (h : ¬ zleast I k = -1000000) : ∃ c, c < 4 ∧ zleast I k = nI c ∧ I k (1 + c) = 0 := by
  unfold zleast at h ⊢
  by_cases h1 : I k 1 = 0
  · exact ⟨0, by decide, by rw [if_pos h1]; rfl, h1⟩
  · by_cases h2 : I k 2 = 0
    · exact ⟨1, by decide, by rw [if_neg h1, if_pos h2]; rfl, h2⟩
    · by_cases h3 : I k 3 = 0
      · exact ⟨2, by decide, by rw [if_neg h1, if_neg h2, if_pos h3]; rfl, h3⟩
      · by_cases h4 : I k 4 = 0
        · exact ⟨3, by decide, by rw [if_neg h1, if_neg h2, if_neg h3, if_pos h4]; rfl, h4⟩
        · rw [if_neg h1, if_neg h2, if_neg h3, if_neg h4] at h; exact absurd rfl h
set_option maxRecDepth 100000 in
set_option maxHeartbeats 4000000 in
theorem qX8_undo {l : zL} {I : Nat → Nat → Int32} {J : Nat → Nat → Int64} {nw : Bool} (nx kp : Nat) (hnx : nx < 24) (hkp : kp ≤ 24) (e1 : I 48 1 = nI nx) (e2 : I 48 2 = nI kp) : zP l mX8_undo [.ref 0] (hh I J nw) (zPub (pUndo I nx kp)) := by
  refine z_start [.ref 0] (by decide +kernel) (Nat.le_of_ble_eq_true rfl) rfl ?_
  refine z_aload_0 (pc := 0) dX8_undo_0 ?_
  refine y_getR (pc := 1) dX8_undo_1 flX8_40 rfl (by first | rfl | assumption) (by first | rfl | assumption) ?_
  refine y_getI (pc := 4) dX8_undo_4 flX8_144 rfl (by first | rfl | assumption) ?_
  refine z_if_ne (pc := 7) (tgt := 13) dX8_undo_7 (by decide) (fun c7 => ?_) (fun c7 => ?_)
  · skip
    have hpos : 0 < kp := by
      rcases Nat.eq_zero_or_pos kp with q | q
      · subst q; exact absurd (e2.trans nI_0) c7
      · exact q
    refine z_aload_0 (pc := 13) dX8_undo_13 ?_
    refine y_getR (pc := 14) dX8_undo_14 flX8_40 rfl (by first | rfl | assumption) (by first | rfl | assumption) ?_
    refine z_aload_0 (pc := 17) dX8_undo_17 ?_
    refine y_getR (pc := 18) dX8_undo_18 flX8_26 rfl (by first | rfl | assumption) (by first | rfl | assumption) ?_
    refine y_getR (pc := 21) dX8_undo_21 flX8_148 rfl (by first | rfl | assumption) (by first | rfl | assumption) ?_
    refine z_V1 (pc := 24) dX8_undo_24 mlX8_152 kX0_takeBack vX0_takeBack (by decide) (by decide) (by first | rfl | assumption) (Nat.le_of_ble_eq_true rfl) (qX0_takeBack nx kp hnx ⟨hpos, hkp⟩ e1 e2) ⟨Nat.le_refl _, Nat.le_refl _⟩ (fun r h1 hq => ?_)
    obtain ⟨rfl, rfl⟩ := hq
    refine z_aload_0 (pc := 27) dX8_undo_27 ?_
    refine y_getR (pc := 28) dX8_undo_28 flX8_40 rfl (by first | rfl | assumption) (by first | rfl | assumption) ?_
    refine y_getI (pc := 31) dX8_undo_31 flX8_144 rfl (by first | rfl | assumption) ?_
    refine z_ret (pc := 34) (r := some (.int _)) rfl dX8_undo_34 trivial rfl rfl ?_
    refine zPub_of ?_
    unfold pUndo
    rw [if_neg (by omega)]
    refine congrArg (fun v => (v, _)) ?_
    unfold zcpy
    rw [if_neg (by decide), zup_same]
  · skip
    refine z_ldc (pc := 10) dX8_undo_10 kcX8_147 ?_
    refine z_ret (pc := 12) (r := some (.int _)) rfl dX8_undo_12 trivial rfl rfl ?_
    refine zPub_of ?_
    unfold pUndo
    rw [if_pos]
    exact (nI_eq (a := kp) (b := 0) (by omega) (by decide)).mp (e2.symm.trans c7)
set_option maxRecDepth 100000 in
set_option maxHeartbeats 4000000 in
theorem qX8_brew {l : zL} {I : Nat → Nat → Int32} {J : Nat → Nat → Int64} {nw : Bool} (n T : Nat) (A B : Nat → Nat) (ht : zTown I n T A B) (nx kp : Nat) (hnx : nx < 24) (hkp : kp ≤ 24) (e1 : I 48 1 = nI nx) (e2 : I 48 2 = nI kp) {x m : Int32} : zP l mX8_brew [.ref 0, .int x, .int m] (hh I J nw) (zPub (pBrew I n nx kp x m)) := by
  refine z_start [.ref 0, .int x, .int m, zno] (by decide +kernel) (Nat.le_of_ble_eq_true rfl) rfl ?_
  refine z_aload_0 (pc := 0) dX8_brew_0 ?_
  refine z_iload_1 (pc := 1) dX8_brew_1 ?_
  refine z_V1 (pc := 2) dX8_brew_2 mlX8_156 kX8_isDrinker vX8_isDrinker (by decide) (by decide) (by first | rfl | assumption) (Nat.le_of_ble_eq_true rfl) (qX8_isDrinker n ht.1 ht.2.1) ⟨Nat.le_refl _, Nat.le_refl _⟩ (fun r h1 hq => ?_)
  obtain ⟨rfl, rfl⟩ := hq
  refine z_if_eq (pc := 5) (tgt := 18) dX8_brew_5 (by decide) (fun c5 => ?_) (fun c5 => ?_)
  · skip
    refine z_ldc (pc := 18) dX8_brew_18 kcX8_77 ?_
    refine z_ret (pc := 20) (r := some (.int _)) rfl dX8_brew_20 trivial rfl rfl ?_
    refine zPub_of ?_
    simp only [zbb0, zbb1, zb_eq0, zb_ne0, Classical.not_not, Bool.not_eq_false] at *
    simp [pBrew, c5]
  · skip
    refine z_iload_2 (pc := 8) dX8_brew_8 ?_
    refine z_if_lt (pc := 9) (tgt := 18) dX8_brew_9 (by decide) (fun c9 => ?_) (fun c9 => ?_)
    · skip
      refine z_ldc (pc := 18) dX8_brew_18 kcX8_77 ?_
      refine z_ret (pc := 20) (r := some (.int _)) rfl dX8_brew_20 trivial rfl rfl ?_
      refine zPub_of ?_
      simp only [zbb0, zbb1, zb_eq0, zb_ne0, Classical.not_not, Bool.not_eq_false] at *
      simp [pBrew, zle_no (x := m) (c := 20) (m := 20) (by decide) (Or.inl c9)]
    · skip
      refine z_iload_2 (pc := 12) dX8_brew_12 ?_
      refine z_bipush (pc := 13) (20) dX8_brew_13 rfl ?_
      refine z_icmp_le (pc := 15) (tgt := 21) dX8_brew_15 (by decide) (fun c15 => ?_) (fun c15 => ?_)
      · skip
        obtain ⟨i, hi, rfl⟩ := zlt_nI (by have := ht.1; omega) ((zbb1 _).mp c5)
        have hn6 := ht.1
        have hcl : (nI i).toNatClampNeg = i := nI_clamp (by omega)
        have hm21 : zlt m 21 = true := (zle_yes (m := 20) (by decide) c9 c15)
        refine z_aload_0 (pc := 21) dX8_brew_21 ?_
        refine y_getR (pc := 22) dX8_brew_22 flX8_26 rfl (by first | rfl | assumption) (by first | rfl | assumption) ?_
        refine y_getR (pc := 25) dX8_brew_25 flX8_148 rfl (by first | rfl | assumption) (by first | rfl | assumption) ?_
        refine z_V0 (pc := 28) dX8_brew_28 mlX8_159 kX2_leastMissing vX2_leastMissing (by decide) (by decide) (by first | rfl | assumption) (Nat.le_of_ble_eq_true rfl) (qX2_leastMissing rfl rfl rfl) ⟨Nat.le_refl _, Nat.le_refl _⟩ (fun r h1 hq => ?_)
        obtain ⟨rfl, rfl⟩ := hq
        refine z_istore_3 (pc := 31) dX8_brew_31 (by decide) rfl ?_
        refine z_iload_3 (pc := 32) dX8_brew_32 ?_
        refine z_ldc (pc := 33) dX8_brew_33 kcX8_165 ?_
        refine z_icmp_ne (pc := 35) (tgt := 41) dX8_brew_35 (by decide) (fun c35 => ?_) (fun c35 => ?_)
        · skip
          obtain ⟨c, hc, ec, -⟩ := zleast_in c35
          refine z_aload_0 (pc := 41) dX8_brew_41 ?_
          refine y_getR (pc := 42) dX8_brew_42 flX8_40 rfl (by first | rfl | assumption) (by first | rfl | assumption) ?_
          refine z_aload_0 (pc := 45) dX8_brew_45 ?_
          refine y_getR (pc := 46) dX8_brew_46 flX8_26 rfl (by first | rfl | assumption) (by first | rfl | assumption) ?_
          refine y_getR (pc := 49) dX8_brew_49 flX8_148 rfl (by first | rfl | assumption) (by first | rfl | assumption) ?_
          refine z_V1 (pc := 52) dX8_brew_52 mlX8_166 kX0_keep vX0_keep (by decide) (by decide) (by first | rfl | assumption) (Nat.le_of_ble_eq_true rfl) (qX0_keep nx kp hnx hkp e1 e2) ⟨Nat.le_refl _, Nat.le_refl _⟩ (fun r h1 hq => ?_)
          obtain ⟨rfl, rfl⟩ := hq
          change zW l _ _ _ _ _ _ (pKeep I nx kp, J, RF nw, SH) _
          refine z_aload_0 (pc := 55) dX8_brew_55 ?_
          refine y_getR (pc := 56) dX8_brew_56 flX8_26 rfl (by first | rfl | assumption) (by first | rfl | assumption) ?_
          refine y_getR (pc := 59) dX8_brew_59 flX8_148 rfl (by first | rfl | assumption) (by first | rfl | assumption) ?_
          refine z_iload_3 (pc := 62) dX8_brew_62 ?_
          refine z_iload_1 (pc := 63) dX8_brew_63 ?_
          refine z_iload_2 (pc := 64) dX8_brew_64 ?_
          refine z_V3 (pc := 65) dX8_brew_65 mlX8_169 kX2_fill vX2_fill (by decide) (by decide) (by first | rfl | assumption) (Nat.le_of_ble_eq_true rfl) (qX2_fill rfl rfl rfl c ec hc) ⟨Nat.le_refl _, Nat.le_refl _⟩ (fun r h1 hq => ?_)
          obtain ⟨rfl, rfl⟩ := hq
          refine z_iload_3 (pc := 68) dX8_brew_68 ?_
          refine z_ret (pc := 69) (r := some (.int _)) rfl dX8_brew_69 trivial rfl rfl ?_
          refine zPub_of ?_
          unfold pBrew
          rw [if_pos ⟨zlt_of hi (by omega), hm21⟩, if_neg c35, ec, nI_clamp (by omega)]
        · skip
          refine z_ldc (pc := 38) dX8_brew_38 kcX8_120 ?_
          refine z_ret (pc := 40) (r := some (.int _)) rfl dX8_brew_40 trivial rfl rfl ?_
          refine zPub_of ?_
          unfold pBrew
          rw [if_pos ⟨zlt_of hi (by omega), hm21⟩, if_pos c35]
      · skip
        refine z_ldc (pc := 18) dX8_brew_18 kcX8_77 ?_
        refine z_ret (pc := 20) (r := some (.int _)) rfl dX8_brew_20 trivial rfl rfl ?_
        refine zPub_of ?_
        simp only [zbb0, zbb1, zb_eq0, zb_ne0, Classical.not_not, Bool.not_eq_false] at *
        simp [pBrew, zle_no (x := m) (c := 20) (m := 20) (by decide) (Or.inr c15)]
set_option maxRecDepth 100000 in
set_option maxHeartbeats 4000000 in
theorem qX8_water {l : zL} {I : Nat → Nat → Int32} {J : Nat → Nat → Int64} {nw : Bool} (nx kp : Nat) (hnx : nx < 24) (hkp : kp ≤ 24) (e1 : I 48 1 = nI nx) (e2 : I 48 2 = nI kp) {x : Int32} : zP l mX8_water [.ref 0, .int x] (hh I J nw) (zPub (pWater I nx kp x)) := by
  refine z_start [.ref 0, .int x, zno] (by decide +kernel) (Nat.le_of_ble_eq_true rfl) rfl ?_
  refine z_iload_1 (pc := 0) dX8_water_0 ?_
  refine z_S1 (pc := 1) dX8_water_1 mlX8_185 kX8_isCask vX8_isCask (by decide) (by decide) (Nat.le_of_ble_eq_true rfl) (qX8_isCask) ⟨Nat.le_refl _, Nat.le_refl _⟩ (fun r h1 hq => ?_)
  obtain ⟨rfl, rfl⟩ := hq
  refine z_if_ne (pc := 4) (tgt := 10) dX8_water_4 (by decide) (fun c4 => ?_) (fun c4 => ?_)
  · skip
    obtain ⟨i, hi, rfl⟩ := zlt_nI (by decide) ((zbb1 _).mp c4)
    have hcl : (nI i).toNatClampNeg = i := nI_clamp (by omega)
    refine z_aload_0 (pc := 10) dX8_water_10 ?_
    refine y_getR (pc := 11) dX8_water_11 flX8_26 rfl (by first | rfl | assumption) (by first | rfl | assumption) ?_
    refine y_getR (pc := 14) dX8_water_14 flX8_148 rfl (by first | rfl | assumption) (by first | rfl | assumption) ?_
    refine z_iload_1 (pc := 17) dX8_water_17 ?_
    refine z_V1 (pc := 18) dX8_water_18 mlX8_188 kX2_isMissing vX2_isMissing (by decide) (by decide) (by first | rfl | assumption) (Nat.le_of_ble_eq_true rfl) (qX2_isMissing rfl rfl rfl i rfl hi) ⟨Nat.le_refl _, Nat.le_refl _⟩ (fun r h1 hq => ?_)
    obtain ⟨rfl, rfl⟩ := hq
    refine z_if_eq (pc := 21) (tgt := 27) dX8_water_21 (by decide) (fun c21 => ?_) (fun c21 => ?_)
    · skip
      refine z_aload_0 (pc := 27) dX8_water_27 ?_
      refine y_getR (pc := 28) dX8_water_28 flX8_40 rfl (by first | rfl | assumption) (by first | rfl | assumption) ?_
      refine z_aload_0 (pc := 31) dX8_water_31 ?_
      refine y_getR (pc := 32) dX8_water_32 flX8_26 rfl (by first | rfl | assumption) (by first | rfl | assumption) ?_
      refine y_getR (pc := 35) dX8_water_35 flX8_148 rfl (by first | rfl | assumption) (by first | rfl | assumption) ?_
      refine z_V1 (pc := 38) dX8_water_38 mlX8_166 kX0_keep vX0_keep (by decide) (by decide) (by first | rfl | assumption) (Nat.le_of_ble_eq_true rfl) (qX0_keep nx kp hnx hkp e1 e2) ⟨Nat.le_refl _, Nat.le_refl _⟩ (fun r h1 hq => ?_)
      obtain ⟨rfl, rfl⟩ := hq
      change zW l _ _ _ _ _ _ (pKeep I nx kp, J, RF nw, SH) _
      refine z_aload_0 (pc := 41) dX8_water_41 ?_
      refine y_getR (pc := 42) dX8_water_42 flX8_26 rfl (by first | rfl | assumption) (by first | rfl | assumption) ?_
      refine y_getR (pc := 45) dX8_water_45 flX8_148 rfl (by first | rfl | assumption) (by first | rfl | assumption) ?_
      refine z_iload_1 (pc := 48) dX8_water_48 ?_
      refine z_V1 (pc := 49) dX8_water_49 mlX8_193 kX2_maltOf vX2_maltOf (by decide) (by decide) (by first | rfl | assumption) (Nat.le_of_ble_eq_true rfl) (qX2_maltOf rfl rfl rfl i rfl hi) ⟨Nat.le_refl _, Nat.le_refl _⟩ (fun r h1 hq => ?_)
      obtain ⟨rfl, rfl⟩ := hq
      refine z_iconst (pc := 52) (2) dX8_water_52 rfl ?_
      refine z_idiv (pc := 53) (by decide) dX8_water_53 ?_
      refine z_istore_2 (pc := 54) dX8_water_54 (by decide) rfl ?_
      refine z_aload_0 (pc := 55) dX8_water_55 ?_
      refine y_getR (pc := 56) dX8_water_56 flX8_26 rfl (by first | rfl | assumption) (by first | rfl | assumption) ?_
      refine y_getR (pc := 59) dX8_water_59 flX8_148 rfl (by first | rfl | assumption) (by first | rfl | assumption) ?_
      refine z_iload_1 (pc := 62) dX8_water_62 ?_
      refine z_iload_2 (pc := 63) dX8_water_63 ?_
      refine z_V2 (pc := 64) dX8_water_64 mlX8_196 kX2_setMalt vX2_setMalt (by decide) (by decide) (by first | rfl | assumption) (Nat.le_of_ble_eq_true rfl) (qX2_setMalt rfl rfl rfl i rfl hi) ⟨Nat.le_refl _, Nat.le_refl _⟩ (fun r h1 hq => ?_)
      obtain ⟨rfl, rfl⟩ := hq
      refine z_iload_2 (pc := 67) dX8_water_67 ?_
      refine z_ret (pc := 68) (r := some (.int _)) rfl dX8_water_68 trivial rfl rfl ?_
      refine zPub_of ?_
      simp only [zbb0, zbb1, zb_eq0, zb_ne0, Classical.not_not, Bool.not_eq_false] at *
      unfold pWater
      rw [if_pos (zlt_of hi (by decide)), hcl, if_neg c21, pKeep_ne I hnx (by decide) (by omega)]
    · skip
      refine z_ldc (pc := 24) dX8_water_24 kcX8_147 ?_
      refine z_ret (pc := 26) (r := some (.int _)) rfl dX8_water_26 trivial rfl rfl ?_
      refine zPub_of ?_
      simp only [zbb0, zbb1, zb_eq0, zb_ne0, Classical.not_not, Bool.not_eq_false] at *
      unfold pWater
      rw [if_pos (zlt_of hi (by decide)), hcl, if_pos c21]
  · skip
    refine z_ldc (pc := 7) dX8_water_7 kcX8_77 ?_
    refine z_ret (pc := 9) (r := some (.int _)) rfl dX8_water_9 trivial rfl rfl ?_
    refine zPub_of ?_
    simp only [zbb0, zbb1, zb_eq0, zb_ne0, Classical.not_not, Bool.not_eq_false] at *
    simp [pWater, c4]
set_option maxRecDepth 100000 in
set_option maxHeartbeats 4000000 in
theorem qX8_blend {l : zL} {I : Nat → Nat → Int32} {J : Nat → Nat → Int64} {nw : Bool} (nx kp : Nat) (hnx : nx < 24) (hkp : kp ≤ 24) (e1 : I 48 1 = nI nx) (e2 : I 48 2 = nI kp) {x y : Int32} : zP l mX8_blend [.ref 0, .int x, .int y] (hh I J nw) (zPub (pBlend I nx kp x y)) := by
  refine z_start [.ref 0, .int x, .int y, zno] (by decide +kernel) (Nat.le_of_ble_eq_true rfl) rfl ?_
  refine z_iload_1 (pc := 0) dX8_blend_0 ?_
  refine z_S1 (pc := 1) dX8_blend_1 mlX8_185 kX8_isCask vX8_isCask (by decide) (by decide) (Nat.le_of_ble_eq_true rfl) (qX8_isCask) ⟨Nat.le_refl _, Nat.le_refl _⟩ (fun r h1 hq => ?_)
  obtain ⟨rfl, rfl⟩ := hq
  refine z_if_eq (pc := 4) (tgt := 19) dX8_blend_4 (by decide) (fun c4 => ?_) (fun c4 => ?_)
  · skip
    refine z_ldc (pc := 19) dX8_blend_19 kcX8_77 ?_
    refine z_ret (pc := 21) (r := some (.int _)) rfl dX8_blend_21 trivial rfl rfl ?_
    refine zPub_of ?_
    simp only [zbb0, zbb1, zb_eq0, zb_ne0, Classical.not_not, Bool.not_eq_false] at *
    simp [pBlend, c4]
  · skip
    refine z_iload_2 (pc := 7) dX8_blend_7 ?_
    refine z_S1 (pc := 8) dX8_blend_8 mlX8_185 kX8_isCask vX8_isCask (by decide) (by decide) (Nat.le_of_ble_eq_true rfl) (qX8_isCask) ⟨Nat.le_refl _, Nat.le_refl _⟩ (fun r h1 hq => ?_)
    obtain ⟨rfl, rfl⟩ := hq
    refine z_if_eq (pc := 11) (tgt := 19) dX8_blend_11 (by decide) (fun c11 => ?_) (fun c11 => ?_)
    · skip
      refine z_ldc (pc := 19) dX8_blend_19 kcX8_77 ?_
      refine z_ret (pc := 21) (r := some (.int _)) rfl dX8_blend_21 trivial rfl rfl ?_
      refine zPub_of ?_
      simp only [zbb0, zbb1, zb_eq0, zb_ne0, Classical.not_not, Bool.not_eq_false] at *
      simp [pBlend, c11]
    · skip
      refine z_iload_1 (pc := 14) dX8_blend_14 ?_
      refine z_iload_2 (pc := 15) dX8_blend_15 ?_
      refine z_icmp_ne (pc := 16) (tgt := 22) dX8_blend_16 (by decide) (fun c16 => ?_) (fun c16 => ?_)
      · skip
        obtain ⟨i, hi, rfl⟩ := zlt_nI (by decide) ((zbb1 _).mp c4)
        have hcl : (nI i).toNatClampNeg = i := nI_clamp (by omega)
        obtain ⟨j, hj, rfl⟩ := zlt_nI (by decide) ((zbb1 _).mp c11)
        have hcl2 : (nI j).toNatClampNeg = j := nI_clamp (by omega)
        refine z_aload_0 (pc := 22) dX8_blend_22 ?_
        refine y_getR (pc := 23) dX8_blend_23 flX8_26 rfl (by first | rfl | assumption) (by first | rfl | assumption) ?_
        refine y_getR (pc := 26) dX8_blend_26 flX8_148 rfl (by first | rfl | assumption) (by first | rfl | assumption) ?_
        refine z_iload_1 (pc := 29) dX8_blend_29 ?_
        refine z_V1 (pc := 30) dX8_blend_30 mlX8_188 kX2_isMissing vX2_isMissing (by decide) (by decide) (by first | rfl | assumption) (Nat.le_of_ble_eq_true rfl) (qX2_isMissing rfl rfl rfl i rfl hi) ⟨Nat.le_refl _, Nat.le_refl _⟩ (fun r h1 hq => ?_)
        obtain ⟨rfl, rfl⟩ := hq
        refine z_if_ne (pc := 33) (tgt := 50) dX8_blend_33 (by decide) (fun c33 => ?_) (fun c33 => ?_)
        · skip
          refine z_ldc (pc := 50) dX8_blend_50 kcX8_147 ?_
          refine z_ret (pc := 52) (r := some (.int _)) rfl dX8_blend_52 trivial rfl rfl ?_
          refine zPub_of ?_
          simp only [zbb0, zbb1, zb_eq0, zb_ne0, Classical.not_not, Bool.not_eq_false] at *
          unfold pBlend
          rw [if_pos ⟨zlt_of hi (by decide), zlt_of hj (by decide), c16⟩, hcl, hcl2, if_pos (Or.inl c33)]
        · skip
          refine z_aload_0 (pc := 36) dX8_blend_36 ?_
          refine y_getR (pc := 37) dX8_blend_37 flX8_26 rfl (by first | rfl | assumption) (by first | rfl | assumption) ?_
          refine y_getR (pc := 40) dX8_blend_40 flX8_148 rfl (by first | rfl | assumption) (by first | rfl | assumption) ?_
          refine z_iload_2 (pc := 43) dX8_blend_43 ?_
          refine z_V1 (pc := 44) dX8_blend_44 mlX8_188 kX2_isMissing vX2_isMissing (by decide) (by decide) (by first | rfl | assumption) (Nat.le_of_ble_eq_true rfl) (qX2_isMissing rfl rfl rfl j rfl hj) ⟨Nat.le_refl _, Nat.le_refl _⟩ (fun r h1 hq => ?_)
          obtain ⟨rfl, rfl⟩ := hq
          refine z_if_eq (pc := 47) (tgt := 53) dX8_blend_47 (by decide) (fun c47 => ?_) (fun c47 => ?_)
          · skip
            refine z_aload_0 (pc := 53) dX8_blend_53 ?_
            refine y_getR (pc := 54) dX8_blend_54 flX8_40 rfl (by first | rfl | assumption) (by first | rfl | assumption) ?_
            refine z_aload_0 (pc := 57) dX8_blend_57 ?_
            refine y_getR (pc := 58) dX8_blend_58 flX8_26 rfl (by first | rfl | assumption) (by first | rfl | assumption) ?_
            refine y_getR (pc := 61) dX8_blend_61 flX8_148 rfl (by first | rfl | assumption) (by first | rfl | assumption) ?_
            refine z_V1 (pc := 64) dX8_blend_64 mlX8_166 kX0_keep vX0_keep (by decide) (by decide) (by first | rfl | assumption) (Nat.le_of_ble_eq_true rfl) (qX0_keep nx kp hnx hkp e1 e2) ⟨Nat.le_refl _, Nat.le_refl _⟩ (fun r h1 hq => ?_)
            obtain ⟨rfl, rfl⟩ := hq
            change zW l _ _ _ _ _ _ (pKeep I nx kp, J, RF nw, SH) _
            refine z_aload_0 (pc := 67) dX8_blend_67 ?_
            refine y_getR (pc := 68) dX8_blend_68 flX8_26 rfl (by first | rfl | assumption) (by first | rfl | assumption) ?_
            refine y_getR (pc := 71) dX8_blend_71 flX8_148 rfl (by first | rfl | assumption) (by first | rfl | assumption) ?_
            refine z_iload_1 (pc := 74) dX8_blend_74 ?_
            refine z_iload_2 (pc := 75) dX8_blend_75 ?_
            refine z_V2 (pc := 76) dX8_blend_76 mlX8_200 kX2_maltOfBoth vX2_maltOfBoth (by decide) (by decide) (by first | rfl | assumption) (Nat.le_of_ble_eq_true rfl) (qX2_maltOfBoth rfl rfl rfl i rfl hi j rfl hj) ⟨Nat.le_refl _, Nat.le_refl _⟩ (fun r h1 hq => ?_)
            obtain ⟨rfl, rfl⟩ := hq
            refine z_istore_3 (pc := 79) dX8_blend_79 (by decide) rfl ?_
            refine z_aload_0 (pc := 80) dX8_blend_80 ?_
            refine y_getR (pc := 81) dX8_blend_81 flX8_26 rfl (by first | rfl | assumption) (by first | rfl | assumption) ?_
            refine y_getR (pc := 84) dX8_blend_84 flX8_148 rfl (by first | rfl | assumption) (by first | rfl | assumption) ?_
            refine z_iload_2 (pc := 87) dX8_blend_87 ?_
            refine z_iload_3 (pc := 88) dX8_blend_88 ?_
            refine z_V2 (pc := 89) dX8_blend_89 mlX8_196 kX2_setMalt vX2_setMalt (by decide) (by decide) (by first | rfl | assumption) (Nat.le_of_ble_eq_true rfl) (qX2_setMalt rfl rfl rfl j rfl hj) ⟨Nat.le_refl _, Nat.le_refl _⟩ (fun r h1 hq => ?_)
            obtain ⟨rfl, rfl⟩ := hq
            refine z_aload_0 (pc := 92) dX8_blend_92 ?_
            refine y_getR (pc := 93) dX8_blend_93 flX8_26 rfl (by first | rfl | assumption) (by first | rfl | assumption) ?_
            refine y_getR (pc := 96) dX8_blend_96 flX8_148 rfl (by first | rfl | assumption) (by first | rfl | assumption) ?_
            refine z_iload_1 (pc := 99) dX8_blend_99 ?_
            refine z_V1 (pc := 100) dX8_blend_100 mlX8_204 kX2_lose vX2_lose (by decide) (by decide) (by first | rfl | assumption) (Nat.le_of_ble_eq_true rfl) (qX2_lose rfl rfl rfl i rfl hi) ⟨Nat.le_refl _, Nat.le_refl _⟩ (fun r h1 hq => ?_)
            obtain ⟨rfl, rfl⟩ := hq
            refine z_iload_3 (pc := 103) dX8_blend_103 ?_
            refine z_ret (pc := 104) (r := some (.int _)) rfl dX8_blend_104 trivial rfl rfl ?_
            refine zPub_of ?_
            simp only [zbb0, zbb1, zb_eq0, zb_ne0, Classical.not_not, Bool.not_eq_false] at *
            unfold pBlend zblm
            rw [if_pos ⟨zlt_of hi (by decide), zlt_of hj (by decide), c16⟩, hcl, hcl2, if_neg (fun z => z.elim c33 c47), pKeep_ne I hnx (by decide) (by omega)]
          · skip
            refine z_ldc (pc := 50) dX8_blend_50 kcX8_147 ?_
            refine z_ret (pc := 52) (r := some (.int _)) rfl dX8_blend_52 trivial rfl rfl ?_
            refine zPub_of ?_
            simp only [zbb0, zbb1, zb_eq0, zb_ne0, Classical.not_not, Bool.not_eq_false] at *
            unfold pBlend
            rw [if_pos ⟨zlt_of hi (by decide), zlt_of hj (by decide), c16⟩, hcl, hcl2, if_pos (Or.inr c47)]
      · skip
        refine z_ldc (pc := 19) dX8_blend_19 kcX8_77 ?_
        refine z_ret (pc := 21) (r := some (.int _)) rfl dX8_blend_21 trivial rfl rfl ?_
        refine zPub_of ?_
        simp only [zbb0, zbb1, zb_eq0, zb_ne0, Classical.not_not, Bool.not_eq_false] at *
        simp [pBlend, c16]
def zbelT (I : Nat → Nat → Int32) (n T : Nat) (A B : Nat → Nat) (i d : Nat) : Int32 := nI (bs (zgo (zTe I (I 16) n T A B (fun _ => false) (I 22 (1 + i) - 1)) (fun e => e == d) (zsc I i)).2)
def pTap (I : Nat → Nat → Int32) (n T : Nat) (A B : Nat → Nat) (nx kp : Nat) (x y : Int32) : Int32 × (Nat → Nat → Int32) := if zlt x 4 = true ∧ zlt y n = true then (if I 22 (1 + x.toNatClampNeg) = 0 then (-1000002, I) else (zbelT I n T A B x.toNatClampNeg y.toNatClampNeg, zup (zup (pKeep I nx kp) 22 (13 + (I 22 (1 + x.toNatClampNeg) - 1).toNatClampNeg) (I 22 (13 + (I 22 (1 + x.toNatClampNeg) - 1).toNatClampNeg) ||| zbelT I n T A B x.toNatClampNeg y.toNatClampNeg)) 22 (5 + x.toNatClampNeg) (if 0 < I 22 (5 + x.toNatClampNeg) - 1 then I 22 (5 + x.toNatClampNeg) - 1 else 0))) else (-1000001, I)
set_option maxRecDepth 100000 in
set_option maxHeartbeats 4000000 in
theorem qX8_tap {l : zL} {I : Nat → Nat → Int32} {J : Nat → Nat → Int64} {nw : Bool} (n T : Nat) (A B : Nat → Nat) (ht : zTown I n T A B) (nx kp : Nat) (hnx : nx < 24) (hkp : kp ≤ 24) (e1 : I 48 1 = nI nx) (e2 : I 48 2 = nI kp) (hWh : ∀ i, i < 4 → I 22 (1 + i) = 0 ∨ ∃ w, w < n ∧ I 22 (1 + i) = nI (w + 1)) {x y : Int32} : zP l mX8_tap [.ref 0, .int x, .int y] (hh I J nw) (zPub (pTap I n T A B nx kp x y)) := by
  refine z_start [.ref 0, .int x, .int y] (by decide +kernel) (Nat.le_of_ble_eq_true rfl) rfl ?_
  refine z_iload_1 (pc := 0) dX8_tap_0 ?_
  refine z_S1 (pc := 1) dX8_tap_1 mlX8_185 kX8_isCask vX8_isCask (by decide) (by decide) (Nat.le_of_ble_eq_true rfl) (qX8_isCask) ⟨Nat.le_refl _, Nat.le_refl _⟩ (fun r h1 hq => ?_)
  obtain ⟨rfl, rfl⟩ := hq
  refine z_if_eq (pc := 4) (tgt := 15) dX8_tap_4 (by decide) (fun c4 => ?_) (fun c4 => ?_)
  · skip
    refine z_ldc (pc := 15) dX8_tap_15 kcX8_77 ?_
    refine z_ret (pc := 17) (r := some (.int _)) rfl dX8_tap_17 trivial rfl rfl ?_
    refine zPub_of ?_
    simp only [zbb0, zbb1, zb_eq0, zb_ne0, Classical.not_not, Bool.not_eq_false] at *
    simp [pTap, c4]
  · skip
    refine z_aload_0 (pc := 7) dX8_tap_7 ?_
    refine z_iload_2 (pc := 8) dX8_tap_8 ?_
    refine z_V1 (pc := 9) dX8_tap_9 mlX8_156 kX8_isDrinker vX8_isDrinker (by decide) (by decide) (by first | rfl | assumption) (Nat.le_of_ble_eq_true rfl) (qX8_isDrinker n ht.1 ht.2.1) ⟨Nat.le_refl _, Nat.le_refl _⟩ (fun r h1 hq => ?_)
    obtain ⟨rfl, rfl⟩ := hq
    refine z_if_ne (pc := 12) (tgt := 18) dX8_tap_12 (by decide) (fun c12 => ?_) (fun c12 => ?_)
    · skip
      obtain ⟨i, hi, rfl⟩ := zlt_nI (by decide) ((zbb1 _).mp c4)
      have hcl : (nI i).toNatClampNeg = i := nI_clamp (by omega)
      have hn6 := ht.1
      obtain ⟨d, hd, rfl⟩ := zlt_nI (by omega) ((zbb1 _).mp c12)
      have hcl2 : (nI d).toNatClampNeg = d := nI_clamp (by omega)
      refine z_aload_0 (pc := 18) dX8_tap_18 ?_
      refine y_getR (pc := 19) dX8_tap_19 flX8_26 rfl (by first | rfl | assumption) (by first | rfl | assumption) ?_
      refine y_getR (pc := 22) dX8_tap_22 flX8_148 rfl (by first | rfl | assumption) (by first | rfl | assumption) ?_
      refine z_iload_1 (pc := 25) dX8_tap_25 ?_
      refine z_V1 (pc := 26) dX8_tap_26 mlX8_188 kX2_isMissing vX2_isMissing (by decide) (by decide) (by first | rfl | assumption) (Nat.le_of_ble_eq_true rfl) (qX2_isMissing rfl rfl rfl i rfl hi) ⟨Nat.le_refl _, Nat.le_refl _⟩ (fun r h1 hq => ?_)
      obtain ⟨rfl, rfl⟩ := hq
      refine z_if_eq (pc := 29) (tgt := 35) dX8_tap_29 (by decide) (fun c29 => ?_) (fun c29 => ?_)
      · skip
        obtain ⟨w, hw, hwe⟩ := (hWh i hi).resolve_left ((zb_eq0 _).mp c29)
        have ew : I 22 (1 + i) - 1 = nI w := by rw [hwe, nI_pred]
        refine z_aload_0 (pc := 35) dX8_tap_35 ?_
        refine y_getR (pc := 36) dX8_tap_36 flX8_40 rfl (by first | rfl | assumption) (by first | rfl | assumption) ?_
        refine z_aload_0 (pc := 39) dX8_tap_39 ?_
        refine y_getR (pc := 40) dX8_tap_40 flX8_26 rfl (by first | rfl | assumption) (by first | rfl | assumption) ?_
        refine y_getR (pc := 43) dX8_tap_43 flX8_148 rfl (by first | rfl | assumption) (by first | rfl | assumption) ?_
        refine z_V1 (pc := 46) dX8_tap_46 mlX8_166 kX0_keep vX0_keep (by decide) (by decide) (by first | rfl | assumption) (Nat.le_of_ble_eq_true rfl) (qX0_keep nx kp hnx hkp e1 e2) ⟨Nat.le_refl _, Nat.le_refl _⟩ (fun r h1 hq => ?_)
        obtain ⟨rfl, rfl⟩ := hq
        change zW l _ _ _ _ _ _ (pKeep I nx kp, J, RF nw, SH) _
        have hk22 : pKeep I nx kp 22 = I 22 := pKeep_ne I hnx (by decide) (by omega)
        have htk : zTown (pKeep I nx kp) n T A B := by
          unfold zTown at ht ⊢
          rw [pKeep_ne I hnx (show 15 ≠ 48 by decide) (by omega), pKeep_ne I hnx (show 16 ≠ 48 by decide) (by omega), pKeep_ne I hnx (show 19 ≠ 48 by decide) (by omega), pKeep_ne I hnx (show 20 ≠ 48 by decide) (by omega)]
          exact ht
        refine z_aload_0 (pc := 49) dX8_tap_49 ?_
        refine y_getR (pc := 50) dX8_tap_50 flX8_49 rfl (by first | rfl | assumption) (by first | rfl | assumption) ?_
        refine z_aload_0 (pc := 53) dX8_tap_53 ?_
        refine y_getR (pc := 54) dX8_tap_54 flX8_26 rfl (by first | rfl | assumption) (by first | rfl | assumption) ?_
        refine y_getR (pc := 57) dX8_tap_57 flX8_148 rfl (by first | rfl | assumption) (by first | rfl | assumption) ?_
        refine z_iload_1 (pc := 60) dX8_tap_60 ?_
        refine z_iload_2 (pc := 61) dX8_tap_61 ?_
        refine z_V3 (pc := 62) dX8_tap_62 mlX8_189 kX6_tapIn vX6_tapIn (by decide) (by decide) (by first | rfl | assumption) (Nat.le_of_ble_eq_true rfl) (qX6_tapIn_21 n T A B htk i rfl hi d rfl hd w (by omega) (by rw [hk22]; exact ew)) ⟨Nat.le_refl _, Nat.le_refl _⟩ (fun r h1 hq => ?_)
        obtain ⟨b0, I2, nw2, hb0, rfl, hF2, rfl⟩ := hq
        have eTe : zTe (pKeep I nx kp) ((pKeep I nx kp) 16) n T A B (fun _ => false) (nI w) = zTe I (I 16) n T A B (fun _ => false) (nI w) := by unfold zTe; rw [pKeep_ne I hnx (show 16 ≠ 48 by decide) (by omega), pKeep_ne I hnx (show 17 ≠ 48 by decide) (by omega), pKeep_ne I hnx (show 18 ≠ 48 by decide) (by omega)]
        rw [eTe, hk22, pKeep_ne I hnx (show 15 ≠ 48 by decide) (by omega)] at hb0
        refine z_ret (pc := 65) (r := some (.int _)) rfl dX8_tap_65 trivial rfl rfl ?_
        rw [zb_eq0] at c29
        have eP : pTap I n T A B nx kp (nI i) (nI d) = (b0, zup (zup (pKeep I nx kp) 22 (13 + w) (I 22 (13 + w) ||| b0)) 22 (5 + i) (if 0 < I 22 (5 + i) - 1 then I 22 (5 + i) - 1 else 0)) := by
          unfold pTap zbelT zsc
          rw [if_pos ⟨zlt_of hi (by decide), zlt_of hd (by omega)⟩, hcl, hcl2, if_neg c29, ew, nI_clamp (by omega), ← hb0]
        rw [eP, hk22]
        refine ⟨rfl, _, J, nw2, rfl, fun a h1 _ => ?_⟩
        funext b
        unfold zup
        rw [hF2 a h1]
      · skip
        refine z_ldc (pc := 32) dX8_tap_32 kcX8_147 ?_
        refine z_ret (pc := 34) (r := some (.int _)) rfl dX8_tap_34 trivial rfl rfl ?_
        refine zPub_of ?_
        simp only [zbb0, zbb1, zb_eq0, zb_ne0, Classical.not_not, Bool.not_eq_false] at *
        unfold pTap
        rw [if_pos ⟨zlt_of hi (by decide), zlt_of hd (by omega)⟩, hcl, if_pos c29]
    · skip
      refine z_ldc (pc := 15) dX8_tap_15 kcX8_77 ?_
      refine z_ret (pc := 17) (r := some (.int _)) rfl dX8_tap_17 trivial rfl rfl ?_
      refine zPub_of ?_
      simp only [zbb0, zbb1, zb_eq0, zb_ne0, Classical.not_not, Bool.not_eq_false] at *
      simp [pTap, c12]
