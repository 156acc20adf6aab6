theorem zle_yes {x c : Int32} {m : Nat} (hc : c.toInt = m) (h1 : ¬ x < 0) (h2 : x ≤ c) : zlt x (m + 1) = true := by
  unfold zlt
  rw [decide_eq_true_eq]
  rw [Int32.lt_iff_toInt_lt, Int32.toInt_zero] at h1
  rw [Int32.le_iff_toInt_le, hc] at h2
  omega
theorem zle_no {x c : Int32} {m : Nat} (hc : c.toInt = m) (h : x < 0 ∨ ¬ x ≤ c) : zlt x (m + 1) = false := by
  unfold zlt
  rw [decide_eq_false_iff_not]
  rw [Int32.lt_iff_toInt_lt, Int32.toInt_zero, Int32.le_iff_toInt_le, hc] at h
  omega
set_option maxRecDepth 100000 in
set_option maxHeartbeats 4000000 in
theorem qX8_as {l : zL} {I : Nat → Nat → Int32} {J : Nat → Nat → Int64} {nw : Bool} (n T : Nat) (A B : Nat → Nat) (ht : zTown I n T A B) {x k : Int32} : zP l mX8_as [.ref 0, .int x, .int k] (hh I J nw) (zPub (pAs I n x k)) := by
  refine z_start [.ref 0, .int x, .int k] (by decide +kernel) (Nat.le_of_ble_eq_true rfl) rfl ?_
  refine z_aload_0 (pc := 0) dX8_as_0 ?_
  refine z_iload_1 (pc := 1) dX8_as_1 ?_
  refine z_V1 (pc := 2) dX8_as_2 mlX8_156 kX8_isDrinker vX8_isDrinker (by decide) (by decide) (by first | rfl | assumption) (Nat.le_of_ble_eq_true rfl) (qX8_isDrinker n ht.1 ht.2.1) ⟨Nat.le_refl _, Nat.le_refl _⟩ (fun r h1 hq => ?_)
  obtain ⟨rfl, rfl⟩ := hq
  refine z_if_eq (pc := 5) (tgt := 17) dX8_as_5 (by decide) (fun c5 => ?_) (fun c5 => ?_)
  · skip
    refine z_ldc (pc := 17) dX8_as_17 kcX8_77 ?_
    refine z_ret (pc := 19) (r := some (.int _)) rfl dX8_as_19 trivial rfl rfl ?_
    refine zPub_of ?_
    simp only [zbb0, zbb1, zb_eq0, zb_ne0, Classical.not_not, Bool.not_eq_false] at *
    simp [pAs, c5]
  · skip
    refine z_iload_2 (pc := 8) dX8_as_8 ?_
    refine z_if_lt (pc := 9) (tgt := 17) dX8_as_9 (by decide) (fun c9 => ?_) (fun c9 => ?_)
    · skip
      refine z_ldc (pc := 17) dX8_as_17 kcX8_77 ?_
      refine z_ret (pc := 19) (r := some (.int _)) rfl dX8_as_19 trivial rfl rfl ?_
      refine zPub_of ?_
      simp only [zbb0, zbb1, zb_eq0, zb_ne0, Classical.not_not, Bool.not_eq_false] at *
      simp [pAs, zle_no (x := k) (c := 5) (m := 5) (by decide) (Or.inl c9)]
    · skip
      refine z_iload_2 (pc := 12) dX8_as_12 ?_
      refine z_iconst (pc := 13) (5) dX8_as_13 rfl ?_
      refine z_icmp_le (pc := 14) (tgt := 20) dX8_as_14 (by decide) (fun c14 => ?_) (fun c14 => ?_)
      · skip
        obtain ⟨i, hi, rfl⟩ := zlt_nI (by have := ht.1; omega) ((zbb1 _).mp c5)
        have hn6 := ht.1
        have hcl : (nI i).toNatClampNeg = i := nI_clamp (by omega)
        have hk6 : zlt k 6 = true := (zle_yes (m := 5) (by decide) c9 c14)
        refine z_aload_0 (pc := 20) dX8_as_20 ?_
        refine y_getR (pc := 21) dX8_as_21 flX8_26 rfl (by first | rfl | assumption) (by first | rfl | assumption) ?_
        refine y_getR (pc := 24) dX8_as_24 flX8_337 rfl (by first | rfl | assumption) (by first | rfl | assumption) ?_
        refine z_iload_1 (pc := 27) dX8_as_27 ?_
        refine y_ialdN (pc := 28) (i) dX8_as_28 (by first | rfl | assumption) (rfl) (by omega) (by first | decide | omega) ?_
        refine z_iload_2 (pc := 29) dX8_as_29 ?_
        refine z_S2 (pc := 30) dX8_as_30 mlX8_340 kX8_isKindOf vX8_isKindOf (by decide) (by decide) (Nat.le_of_ble_eq_true rfl) (qX8_isKindOf) ⟨Nat.le_refl _, Nat.le_refl _⟩ (fun r h1 hq => ?_)
        obtain ⟨rfl, rfl⟩ := hq
        refine z_if_eq (pc := 33) (tgt := 44) dX8_as_33 (by decide) (fun c33 => ?_) (fun c33 => ?_)
        · skip
          refine z_aload_0 (pc := 44) dX8_as_44 ?_
          refine z_iconst (pc := 45) (3) dX8_as_45 rfl ?_
          refine z_V1 (pc := 46) dX8_as_46 mlX8_78 kX8_found vX8_found (by decide) (by decide) (by first | rfl | assumption) (Nat.le_of_ble_eq_true rfl) (qX8_found) ⟨Nat.le_refl _, Nat.le_refl _⟩ (fun r h1 hq => ?_)
          obtain ⟨rfl, rfl⟩ := hq
          refine z_ret (pc := 49) (r := some (.int _)) rfl dX8_as_49 trivial rfl rfl ?_
          refine zPub_of ?_
          simp only [zbb0, zbb1, zb_eq0, zb_ne0, Classical.not_not, Bool.not_eq_false] at *
          unfold pAs
          rw [if_pos ⟨zlt_of hi (by omega), hk6⟩, hcl, if_neg (by rw [c33]; decide)]
          rfl
        · skip
          refine z_aload_0 (pc := 36) dX8_as_36 ?_
          refine z_iload_1 (pc := 37) dX8_as_37 ?_
          refine z_V1 (pc := 38) dX8_as_38 mlX8_86 kX8_fine vX8_fine (by decide) (by decide) (by first | rfl | assumption) (Nat.le_of_ble_eq_true rfl) (qX8_fine) ⟨Nat.le_refl _, Nat.le_refl _⟩ (fun r h1 hq => ?_)
          obtain ⟨rfl, rfl⟩ := hq
          refine z_goto (pc := 41) (tgt := 49) dX8_as_41 (by decide) ?_
          refine z_ret (pc := 49) (r := some (.int _)) rfl dX8_as_49 trivial rfl rfl ?_
          refine zPub_of ?_
          simp only [zbb0, zbb1, zb_eq0, zb_ne0, Classical.not_not, Bool.not_eq_false] at *
          unfold pAs
          rw [if_pos ⟨zlt_of hi (by omega), hk6⟩, hcl, if_pos c33]
      · skip
        refine z_ldc (pc := 17) dX8_as_17 kcX8_77 ?_
        refine z_ret (pc := 19) (r := some (.int _)) rfl dX8_as_19 trivial rfl rfl ?_
        refine zPub_of ?_
        simp only [zbb0, zbb1, zb_eq0, zb_ne0, Classical.not_not, Bool.not_eq_false] at *
        simp [pAs, zle_no (x := k) (c := 5) (m := 5) (by decide) (Or.inr c14)]
set_option maxRecDepth 100000 in
set_option maxHeartbeats 4000000 in
theorem qX8_drinker {l : zL} {I : Nat → Nat → Int32} {J : Nat → Nat → Int64} {nw : Bool} (n T : Nat) (A B : Nat → Nat) (ht : zTown I n T A B) {x w : Int32} : zP l mX8_drinker [.ref 0, .int x, .int w] (hh I J nw) (zPub (pDrk I n T x w)) := by
  refine z_start [.ref 0, .int x, .int w] (by decide +kernel) (Nat.le_of_ble_eq_true rfl) rfl ?_
  refine z_aload_0 (pc := 0) dX8_drinker_0 ?_
  refine z_iload_1 (pc := 1) dX8_drinker_1 ?_
  refine z_V1 (pc := 2) dX8_drinker_2 mlX8_156 kX8_isDrinker vX8_isDrinker (by decide) (by decide) (by first | rfl | assumption) (Nat.le_of_ble_eq_true rfl) (qX8_isDrinker n ht.1 ht.2.1) ⟨Nat.le_refl _, Nat.le_refl _⟩ (fun r h1 hq => ?_)
  obtain ⟨rfl, rfl⟩ := hq
  refine z_if_eq (pc := 5) (tgt := 17) dX8_drinker_5 (by decide) (fun c5 => ?_) (fun c5 => ?_)
  · skip
    refine z_ldc (pc := 17) dX8_drinker_17 kcX8_77 ?_
    refine z_ret (pc := 19) (r := some (.int _)) rfl dX8_drinker_19 trivial rfl rfl ?_
    refine zPub_of ?_
    simp only [zbb0, zbb1, zb_eq0, zb_ne0, Classical.not_not, Bool.not_eq_false] at *
    simp [pDrk, c5]
  · skip
    refine z_iload_2 (pc := 8) dX8_drinker_8 ?_
    refine z_if_lt (pc := 9) (tgt := 17) dX8_drinker_9 (by decide) (fun c9 => ?_) (fun c9 => ?_)
    · skip
      refine z_ldc (pc := 17) dX8_drinker_17 kcX8_77 ?_
      refine z_ret (pc := 19) (r := some (.int _)) rfl dX8_drinker_19 trivial rfl rfl ?_
      refine zPub_of ?_
      simp only [zbb0, zbb1, zb_eq0, zb_ne0, Classical.not_not, Bool.not_eq_false] at *
      simp [pDrk, zle_no (x := w) (c := 2) (m := 2) (by decide) (Or.inl c9)]
    · skip
      refine z_iload_2 (pc := 12) dX8_drinker_12 ?_
      refine z_iconst (pc := 13) (2) dX8_drinker_13 rfl ?_
      refine z_icmp_le (pc := 14) (tgt := 20) dX8_drinker_14 (by decide) (fun c14 => ?_) (fun c14 => ?_)
      · skip
        obtain ⟨i, hi, rfl⟩ := zlt_nI (by have := ht.1; omega) ((zbb1 _).mp c5)
        have hn6 := ht.1
        have hcl : (nI i).toNatClampNeg = i := nI_clamp (by omega)
        have hw3 : zlt w 3 = true := (zle_yes (m := 2) (by decide) c9 c14)
        obtain ⟨j, hj, rfl⟩ := zlt_nI (by decide) hw3
        refine z_iload_2 (pc := 20) dX8_drinker_20 ?_
        have hc : j = 0 ∨ j = 1 ∨ j = 2 := by omega
        rcases hc with rfl | rfl | rfl
        · skip
          refine z_lookup (pc := 21) (tgt := 48) dX8_drinker_21 (by decide) rfl (by decide) ?_
          refine z_aload_0 (pc := 48) dX8_drinker_48 ?_
          refine y_getR (pc := 49) dX8_drinker_49 flX8_26 rfl (by first | rfl | assumption) (by first | rfl | assumption) ?_
          refine y_getR (pc := 52) dX8_drinker_52 flX8_219 rfl (by first | rfl | assumption) (by first | rfl | assumption) ?_
          refine z_iload_1 (pc := 55) dX8_drinker_55 ?_
          refine y_ialdN (pc := 56) (i) dX8_drinker_56 (by first | rfl | assumption) (rfl) (by omega) (by first | decide | omega) ?_
          refine z_ret (pc := 57) (r := some (.int _)) rfl dX8_drinker_57 trivial rfl rfl ?_
          refine zPub_of ?_
          unfold pDrk
          rw [if_pos ⟨zlt_of hi (by omega), hw3⟩, hcl]
          rfl
        · skip
          refine z_lookup (pc := 21) (tgt := 58) dX8_drinker_21 (by decide) rfl (by decide) ?_
          refine z_aload_0 (pc := 58) dX8_drinker_58 ?_
          refine y_getR (pc := 59) dX8_drinker_59 flX8_26 rfl (by first | rfl | assumption) (by first | rfl | assumption) ?_
          refine y_getR (pc := 62) dX8_drinker_62 flX8_222 rfl (by first | rfl | assumption) (by first | rfl | assumption) ?_
          refine z_iload_1 (pc := 65) dX8_drinker_65 ?_
          refine y_ialdN (pc := 66) (i) dX8_drinker_66 (by first | rfl | assumption) (rfl) (by omega) (by first | decide | omega) ?_
          refine z_ret (pc := 67) (r := some (.int _)) rfl dX8_drinker_67 trivial rfl rfl ?_
          refine zPub_of ?_
          unfold pDrk
          rw [if_pos ⟨zlt_of hi (by omega), hw3⟩, hcl]
          rfl
        · skip
          refine z_lookup (pc := 21) (tgt := 68) dX8_drinker_21 (by decide) rfl (by decide) ?_
          refine z_aload_0 (pc := 68) dX8_drinker_68 ?_
          refine y_getR (pc := 69) dX8_drinker_69 flX8_26 rfl (by first | rfl | assumption) (by first | rfl | assumption) ?_
          refine z_iload_1 (pc := 72) dX8_drinker_72 ?_
          refine z_V1 (pc := 73) dX8_drinker_73 mlX8_225 kX7_hearersOf vX7_hearersOf (by decide) (by decide) (by first | rfl | assumption) (Nat.le_of_ble_eq_true rfl) (qX7_hearersOf15 T ht.2.2.1 ht.2.2.2.1) ⟨Nat.le_refl _, Nat.le_refl _⟩ (fun r h1 hq => ?_)
          obtain ⟨rfl, rfl⟩ := hq
          refine z_ret (pc := 76) (r := some (.int _)) rfl dX8_drinker_76 trivial rfl rfl ?_
          refine zPub_of ?_
          unfold pDrk
          rw [if_pos ⟨zlt_of hi (by omega), hw3⟩, hcl]
          rfl
      · skip
        refine z_ldc (pc := 17) dX8_drinker_17 kcX8_77 ?_
        refine z_ret (pc := 19) (r := some (.int _)) rfl dX8_drinker_19 trivial rfl rfl ?_
        refine zPub_of ?_
        simp only [zbb0, zbb1, zb_eq0, zb_ne0, Classical.not_not, Bool.not_eq_false] at *
        simp [pDrk, zle_no (x := w) (c := 2) (m := 2) (by decide) (Or.inr c14)]
def pCask (I : Nat → Nat → Int32) (x w : Int32) : Int32 × (Nat → Nat → Int32) := if zlt x 4 = true ∧ zlt w 5 = true then (if I 22 (1 + x.toNatClampNeg) = 0 then (-1000000, I) else (if w = 0 then I 22 (1 + x.toNatClampNeg) - 1 else if w = 1 then I 22 (5 + x.toNatClampNeg) else if w = 2 then I 22 (9 + x.toNatClampNeg) else if w = 3 then zsc I x.toNatClampNeg else zb (¬ I 22 (9 + x.toNatClampNeg) ≤ I 15 1), I)) else (-1000001, I)
def pGoes (I : Nat → Nat → Int32) (x w : Int32) : Int32 × (Nat → Nat → Int32) := if zlt x 4 = true ∧ zlt w 2 = true then (if I 22 (1 + x.toNatClampNeg) = 0 then (-1000002, I) else (if 0 < (if w = 0 then I 15 1 + 1 else I 15 0) - I 22 (9 + x.toNatClampNeg) then (if w = 0 then I 15 1 + 1 else I 15 0) - I 22 (9 + x.toNatClampNeg) else 0, I)) else (-1000001, I)
set_option maxRecDepth 100000 in
set_option maxHeartbeats 4000000 in
theorem qX8_cask {l : zL} {I : Nat → Nat → Int32} {J : Nat → Nat → Int64} {nw : Bool} {x w : Int32} : zP l mX8_cask [.ref 0, .int x, .int w] (hh I J nw) (zPub (pCask I x w)) := by
  refine z_start [.ref 0, .int x, .int w] (by decide +kernel) (Nat.le_of_ble_eq_true rfl) rfl ?_
  refine z_iload_1 (pc := 0) dX8_cask_0 ?_
  refine z_S1 (pc := 1) dX8_cask_1 mlX8_185 kX8_isCask vX8_isCask (by decide) (by decide) (Nat.le_of_ble_eq_true rfl) (qX8_isCask) ⟨Nat.le_refl _, Nat.le_refl _⟩ (fun r h1 hq => ?_)
  obtain ⟨rfl, rfl⟩ := hq
  refine z_if_eq (pc := 4) (tgt := 16) dX8_cask_4 (by decide) (fun c4 => ?_) (fun c4 => ?_)
  · skip
    refine z_ldc (pc := 16) dX8_cask_16 kcX8_77 ?_
    refine z_ret (pc := 18) (r := some (.int _)) rfl dX8_cask_18 trivial rfl rfl ?_
    refine zPub_of ?_
    simp only [zbb0, zbb1, zb_eq0, zb_ne0, Classical.not_not, Bool.not_eq_false] at *
    simp [pCask, c4]
  · skip
    refine z_iload_2 (pc := 7) dX8_cask_7 ?_
    refine z_if_lt (pc := 8) (tgt := 16) dX8_cask_8 (by decide) (fun c8 => ?_) (fun c8 => ?_)
    · skip
      refine z_ldc (pc := 16) dX8_cask_16 kcX8_77 ?_
      refine z_ret (pc := 18) (r := some (.int _)) rfl dX8_cask_18 trivial rfl rfl ?_
      refine zPub_of ?_
      simp only [zbb0, zbb1, zb_eq0, zb_ne0, Classical.not_not, Bool.not_eq_false] at *
      simp [pCask, zle_no (x := w) (c := 4) (m := 4) (by decide) (Or.inl c8)]
    · skip
      refine z_iload_2 (pc := 11) dX8_cask_11 ?_
      refine z_iconst (pc := 12) (4) dX8_cask_12 rfl ?_
      refine z_icmp_le (pc := 13) (tgt := 19) dX8_cask_13 (by decide) (fun c13 => ?_) (fun c13 => ?_)
      · skip
        obtain ⟨i, hi, rfl⟩ := zlt_nI (by decide) ((zbb1 _).mp c4)
        have hcl : (nI i).toNatClampNeg = i := nI_clamp (by omega)
        have hw5 : zlt w 5 = true := (zle_yes (m := 4) (by decide) c8 c13)
        refine z_aload_0 (pc := 19) dX8_cask_19 ?_
        refine y_getR (pc := 20) dX8_cask_20 flX8_26 rfl (by first | rfl | assumption) (by first | rfl | assumption) ?_
        refine y_getR (pc := 23) dX8_cask_23 flX8_148 rfl (by first | rfl | assumption) (by first | rfl | assumption) ?_
        refine z_iload_1 (pc := 26) dX8_cask_26 ?_
        refine z_V1 (pc := 27) dX8_cask_27 mlX8_188 kX2_isMissing vX2_isMissing (by decide) (by decide) (by first | rfl | assumption) (Nat.le_of_ble_eq_true rfl) (qX2_isMissing rfl rfl rfl i rfl hi) ⟨Nat.le_refl _, Nat.le_refl _⟩ (fun r h1 hq => ?_)
        obtain ⟨rfl, rfl⟩ := hq
        refine z_if_eq (pc := 30) (tgt := 36) dX8_cask_30 (by decide) (fun c30 => ?_) (fun c30 => ?_)
        · skip
          obtain ⟨j, hj, rfl⟩ := zlt_nI (by decide) hw5
          refine z_iload_2 (pc := 36) dX8_cask_36 ?_
          have hc : j = 0 ∨ j = 1 ∨ j = 2 ∨ j = 3 ∨ j = 4 := by omega
          rcases hc with rfl | rfl | rfl | rfl | rfl
          · skip
            refine z_tableIn (pc := 37) (tgt := 68) dX8_cask_37 (by decide) (by decide) rfl (by decide) ?_
            refine z_aload_0 (pc := 68) dX8_cask_68 ?_
            refine y_getR (pc := 69) dX8_cask_69 flX8_26 rfl (by first | rfl | assumption) (by first | rfl | assumption) ?_
            refine y_getR (pc := 72) dX8_cask_72 flX8_148 rfl (by first | rfl | assumption) (by first | rfl | assumption) ?_
            refine z_iload_1 (pc := 75) dX8_cask_75 ?_
            refine z_V1 (pc := 76) dX8_cask_76 mlX8_207 kX2_whomOf vX2_whomOf (by decide) (by decide) (by first | rfl | assumption) (Nat.le_of_ble_eq_true rfl) (qX2_whomOf rfl rfl rfl i rfl hi) ⟨Nat.le_refl _, Nat.le_refl _⟩ (fun r h1 hq => ?_)
            obtain ⟨rfl, rfl⟩ := hq
            refine z_ret (pc := 79) (r := some (.int _)) rfl dX8_cask_79 trivial rfl rfl ?_
            refine zPub_of ?_
            unfold pCask
            rw [zb_eq0] at c30
            rw [if_pos ⟨zlt_of hi (by decide), hw5⟩, hcl, if_neg c30]
            rfl
          · skip
            refine z_tableIn (pc := 37) (tgt := 80) dX8_cask_37 (by decide) (by decide) rfl (by decide) ?_
            refine z_aload_0 (pc := 80) dX8_cask_80 ?_
            refine y_getR (pc := 81) dX8_cask_81 flX8_26 rfl (by first | rfl | assumption) (by first | rfl | assumption) ?_
            refine y_getR (pc := 84) dX8_cask_84 flX8_148 rfl (by first | rfl | assumption) (by first | rfl | assumption) ?_
            refine z_iload_1 (pc := 87) dX8_cask_87 ?_
            refine z_V1 (pc := 88) dX8_cask_88 mlX8_193 kX2_maltOf vX2_maltOf (by decide) (by decide) (by first | rfl | assumption) (Nat.le_of_ble_eq_true rfl) (qX2_maltOf rfl rfl rfl i rfl hi) ⟨Nat.le_refl _, Nat.le_refl _⟩ (fun r h1 hq => ?_)
            obtain ⟨rfl, rfl⟩ := hq
            refine z_ret (pc := 91) (r := some (.int _)) rfl dX8_cask_91 trivial rfl rfl ?_
            refine zPub_of ?_
            unfold pCask
            rw [zb_eq0] at c30
            rw [if_pos ⟨zlt_of hi (by decide), hw5⟩, hcl, if_neg c30]
            rfl
          · skip
            refine z_tableIn (pc := 37) (tgt := 92) dX8_cask_37 (by decide) (by decide) rfl (by decide) ?_
            refine z_aload_0 (pc := 92) dX8_cask_92 ?_
            refine y_getR (pc := 93) dX8_cask_93 flX8_26 rfl (by first | rfl | assumption) (by first | rfl | assumption) ?_
            refine y_getR (pc := 96) dX8_cask_96 flX8_148 rfl (by first | rfl | assumption) (by first | rfl | assumption) ?_
            refine z_iload_1 (pc := 99) dX8_cask_99 ?_
            refine z_V1 (pc := 100) dX8_cask_100 mlX8_210 kX2_ageOf vX2_ageOf (by decide) (by decide) (by first | rfl | assumption) (Nat.le_of_ble_eq_true rfl) (qX2_ageOf rfl rfl rfl i rfl hi) ⟨Nat.le_refl _, Nat.le_refl _⟩ (fun r h1 hq => ?_)
            obtain ⟨rfl, rfl⟩ := hq
            refine z_ret (pc := 103) (r := some (.int _)) rfl dX8_cask_103 trivial rfl rfl ?_
            refine zPub_of ?_
            unfold pCask
            rw [zb_eq0] at c30
            rw [if_pos ⟨zlt_of hi (by decide), hw5⟩, hcl, if_neg c30]
            rfl
          · skip
            refine z_tableIn (pc := 37) (tgt := 104) dX8_cask_37 (by decide) (by decide) rfl (by decide) ?_
            refine z_aload_0 (pc := 104) dX8_cask_104 ?_
            refine y_getR (pc := 105) dX8_cask_105 flX8_26 rfl (by first | rfl | assumption) (by first | rfl | assumption) ?_
            refine z_iload_1 (pc := 108) dX8_cask_108 ?_
            refine z_V1 (pc := 109) dX8_cask_109 mlX8_213 kX7_strongOf vX7_strongOf (by decide) (by decide) (by first | rfl | assumption) (Nat.le_of_ble_eq_true rfl) (qX7_strongOf i rfl hi) ⟨Nat.le_refl _, Nat.le_refl _⟩ (fun r h1 hq => ?_)
            obtain ⟨rfl, rfl⟩ := hq
            refine z_ret (pc := 112) (r := some (.int _)) rfl dX8_cask_112 trivial rfl rfl ?_
            refine zPub_of ?_
            unfold pCask
            rw [zb_eq0] at c30
            rw [if_pos ⟨zlt_of hi (by decide), hw5⟩, hcl, if_neg c30]
            rfl
          · skip
            refine z_tableOut (pc := 37) (tgt := 113) dX8_cask_37 (Or.inr (by decide)) (by decide) ?_
            refine z_aload_0 (pc := 113) dX8_cask_113 ?_
            refine y_getR (pc := 114) dX8_cask_114 flX8_26 rfl (by first | rfl | assumption) (by first | rfl | assumption) ?_
            refine z_aload_0 (pc := 117) dX8_cask_117 ?_
            refine y_getR (pc := 118) dX8_cask_118 flX8_26 rfl (by first | rfl | assumption) (by first | rfl | assumption) ?_
            refine y_getR (pc := 121) dX8_cask_121 flX8_148 rfl (by first | rfl | assumption) (by first | rfl | assumption) ?_
            refine z_iload_1 (pc := 124) dX8_cask_124 ?_
            refine z_V1 (pc := 125) dX8_cask_125 mlX8_210 kX2_ageOf vX2_ageOf (by decide) (by decide) (by first | rfl | assumption) (Nat.le_of_ble_eq_true rfl) (qX2_ageOf rfl rfl rfl i rfl hi) ⟨Nat.le_refl _, Nat.le_refl _⟩ (fun r h1 hq => ?_)
            obtain ⟨rfl, rfl⟩ := hq
            refine z_V1 (pc := 128) dX8_cask_128 mlX8_216 kX7_isOff vX7_isOff (by decide) (by decide) (by first | rfl | assumption) (Nat.le_of_ble_eq_true rfl) (qX7_isOff) ⟨Nat.le_refl _, Nat.le_refl _⟩ (fun r h1 hq => ?_)
            obtain ⟨rfl, rfl⟩ := hq
            refine z_if_eq (pc := 131) (tgt := 138) dX8_cask_131 (by decide) (fun c131 => ?_) (fun c131 => ?_)
            · skip
              refine z_iconst (pc := 138) (0) dX8_cask_138 rfl ?_
              refine z_ret (pc := 139) (r := some (.int _)) rfl dX8_cask_139 trivial rfl rfl ?_
              refine zPub_of ?_
              unfold pCask
              rw [zb_eq0] at c30 c131
              rw [if_pos ⟨zlt_of hi (by decide), hw5⟩, hcl, if_neg c30]
              show (zb _, I) = _
              
              exact congrArg (fun v => (v, I)) (if_neg c131)
            · skip
              refine z_iconst (pc := 134) (1) dX8_cask_134 rfl ?_
              refine z_goto (pc := 135) (tgt := 139) dX8_cask_135 (by decide) ?_
              refine z_ret (pc := 139) (r := some (.int _)) rfl dX8_cask_139 trivial rfl rfl ?_
              refine zPub_of ?_
              unfold pCask
              rw [zb_eq0] at c30 c131
              rw [if_pos ⟨zlt_of hi (by decide), hw5⟩, hcl, if_neg c30]
              show (zb _, I) = _
              rw [Classical.not_not] at c131
              exact congrArg (fun v => (v, I)) (if_pos c131)
        · skip
          refine z_ldc (pc := 33) dX8_cask_33 kcX8_165 ?_
          refine z_ret (pc := 35) (r := some (.int _)) rfl dX8_cask_35 trivial rfl rfl ?_
          refine zPub_of ?_
          simp only [zbb0, zbb1, zb_eq0, zb_ne0, Classical.not_not, Bool.not_eq_false] at *
          unfold pCask
          rw [if_pos ⟨zlt_of hi (by decide), hw5⟩, hcl, if_pos c30]
      · skip
        refine z_ldc (pc := 16) dX8_cask_16 kcX8_77 ?_
        refine z_ret (pc := 18) (r := some (.int _)) rfl dX8_cask_18 trivial rfl rfl ?_
        refine zPub_of ?_
        simp only [zbb0, zbb1, zb_eq0, zb_ne0, Classical.not_not, Bool.not_eq_false] at *
        simp [pCask, zle_no (x := w) (c := 4) (m := 4) (by decide) (Or.inr c13)]
set_option maxRecDepth 100000 in
set_option maxHeartbeats 4000000 in
theorem qX8_goesOff {l : zL} {I : Nat → Nat → Int32} {J : Nat → Nat → Int64} {nw : Bool} {x w : Int32} : zP l mX8_goesOff [.ref 0, .int x, .int w] (hh I J nw) (zPub (pGoes I x w)) := by
  refine z_start [.ref 0, .int x, .int w, zno] (by decide +kernel) (Nat.le_of_ble_eq_true rfl) rfl ?_
  refine z_iload_1 (pc := 0) dX8_goesOff_0 ?_
  refine z_S1 (pc := 1) dX8_goesOff_1 mlX8_185 kX8_isCask vX8_isCask (by decide) (by decide) (Nat.le_of_ble_eq_true rfl) (qX8_isCask) ⟨Nat.le_refl _, Nat.le_refl _⟩ (fun r h1 hq => ?_)
  obtain ⟨rfl, rfl⟩ := hq
  refine z_if_eq (pc := 4) (tgt := 14) dX8_goesOff_4 (by decide) (fun c4 => ?_) (fun c4 => ?_)
  · skip
    refine z_ldc (pc := 14) dX8_goesOff_14 kcX8_77 ?_
    refine z_ret (pc := 16) (r := some (.int _)) rfl dX8_goesOff_16 trivial rfl rfl ?_
    refine zPub_of ?_
    simp only [zbb0, zbb1, zb_eq0, zb_ne0, Classical.not_not, Bool.not_eq_false] at *
    simp [pGoes, c4]
  · skip
    refine z_iload_2 (pc := 7) dX8_goesOff_7 ?_
    refine z_S1 (pc := 8) dX8_goesOff_8 mlX8_257 kX8_isFirstOrSecond vX8_isFirstOrSecond (by decide) (by decide) (Nat.le_of_ble_eq_true rfl) (qX8_isFirstOrSecond) ⟨Nat.le_refl _, Nat.le_refl _⟩ (fun r h1 hq => ?_)
    obtain ⟨rfl, rfl⟩ := hq
    refine z_if_ne (pc := 11) (tgt := 17) dX8_goesOff_11 (by decide) (fun c11 => ?_) (fun c11 => ?_)
    · skip
      obtain ⟨i, hi, rfl⟩ := zlt_nI (by decide) ((zbb1 _).mp c4)
      have hcl : (nI i).toNatClampNeg = i := nI_clamp (by omega)
      have hw2 : zlt w 2 = true := (zbb1 _).mp c11
      refine z_aload_0 (pc := 17) dX8_goesOff_17 ?_
      refine y_getR (pc := 18) dX8_goesOff_18 flX8_26 rfl (by first | rfl | assumption) (by first | rfl | assumption) ?_
      refine y_getR (pc := 21) dX8_goesOff_21 flX8_148 rfl (by first | rfl | assumption) (by first | rfl | assumption) ?_
      refine z_iload_1 (pc := 24) dX8_goesOff_24 ?_
      refine z_V1 (pc := 25) dX8_goesOff_25 mlX8_188 kX2_isMissing vX2_isMissing (by decide) (by decide) (by first | rfl | assumption) (Nat.le_of_ble_eq_true rfl) (qX2_isMissing rfl rfl rfl i rfl hi) ⟨Nat.le_refl _, Nat.le_refl _⟩ (fun r h1 hq => ?_)
      obtain ⟨rfl, rfl⟩ := hq
      refine z_if_eq (pc := 28) (tgt := 34) dX8_goesOff_28 (by decide) (fun c28 => ?_) (fun c28 => ?_)
      · skip
        refine z_iload_2 (pc := 34) dX8_goesOff_34 ?_
        refine z_if_ne (pc := 35) (tgt := 50) dX8_goesOff_35 (by decide) (fun c35 => ?_) (fun c35 => ?_)
        · skip
          refine z_aload_0 (pc := 50) dX8_goesOff_50 ?_
          refine y_getR (pc := 51) dX8_goesOff_51 flX8_26 rfl (by first | rfl | assumption) (by first | rfl | assumption) ?_
          refine y_getI (pc := 54) dX8_goesOff_54 flX8_288 rfl (by first | rfl | assumption) ?_
          refine z_istore_3 (pc := 57) dX8_goesOff_57 (by decide) rfl ?_
          refine z_iconst (pc := 58) (0) dX8_goesOff_58 rfl ?_
          refine z_iload_3 (pc := 59) dX8_goesOff_59 ?_
          refine z_aload_0 (pc := 60) dX8_goesOff_60 ?_
          refine y_getR (pc := 61) dX8_goesOff_61 flX8_26 rfl (by first | rfl | assumption) (by first | rfl | assumption) ?_
          refine y_getR (pc := 64) dX8_goesOff_64 flX8_148 rfl (by first | rfl | assumption) (by first | rfl | assumption) ?_
          refine z_iload_1 (pc := 67) dX8_goesOff_67 ?_
          refine z_V1 (pc := 68) dX8_goesOff_68 mlX8_210 kX2_ageOf vX2_ageOf (by decide) (by decide) (by first | rfl | assumption) (Nat.le_of_ble_eq_true rfl) (qX2_ageOf rfl rfl rfl i rfl hi) ⟨Nat.le_refl _, Nat.le_refl _⟩ (fun r h1 hq => ?_)
          obtain ⟨rfl, rfl⟩ := hq
          refine z_isub (pc := 71) dX8_goesOff_71 ?_
          refine z_mmax (pc := 72) dX8_goesOff_72 mmX8_291 (by decide) (Nat.le_of_ble_eq_true rfl) ?_
          refine z_ret (pc := 75) (r := some (.int _)) rfl dX8_goesOff_75 trivial rfl rfl ?_
          refine zPub_of ?_
          simp only [zbb0, zbb1, zb_eq0, zb_ne0, Classical.not_not, Bool.not_eq_false] at *
          unfold pGoes
          rw [if_pos ⟨zlt_of hi (by decide), hw2⟩, hcl, if_neg c28, if_neg c35]
        · skip
          refine z_aload_0 (pc := 38) dX8_goesOff_38 ?_
          refine y_getR (pc := 39) dX8_goesOff_39 flX8_26 rfl (by first | rfl | assumption) (by first | rfl | assumption) ?_
          refine y_getI (pc := 42) dX8_goesOff_42 flX8_285 rfl (by first | rfl | assumption) ?_
          refine z_iconst (pc := 45) (1) dX8_goesOff_45 rfl ?_
          refine z_iadd (pc := 46) dX8_goesOff_46 ?_
          refine z_goto (pc := 47) (tgt := 57) dX8_goesOff_47 (by decide) ?_
          refine z_istore_3 (pc := 57) dX8_goesOff_57 (by decide) rfl ?_
          refine z_iconst (pc := 58) (0) dX8_goesOff_58 rfl ?_
          refine z_iload_3 (pc := 59) dX8_goesOff_59 ?_
          refine z_aload_0 (pc := 60) dX8_goesOff_60 ?_
          refine y_getR (pc := 61) dX8_goesOff_61 flX8_26 rfl (by first | rfl | assumption) (by first | rfl | assumption) ?_
          refine y_getR (pc := 64) dX8_goesOff_64 flX8_148 rfl (by first | rfl | assumption) (by first | rfl | assumption) ?_
          refine z_iload_1 (pc := 67) dX8_goesOff_67 ?_
          refine z_V1 (pc := 68) dX8_goesOff_68 mlX8_210 kX2_ageOf vX2_ageOf (by decide) (by decide) (by first | rfl | assumption) (Nat.le_of_ble_eq_true rfl) (qX2_ageOf rfl rfl rfl i rfl hi) ⟨Nat.le_refl _, Nat.le_refl _⟩ (fun r h1 hq => ?_)
          obtain ⟨rfl, rfl⟩ := hq
          refine z_isub (pc := 71) dX8_goesOff_71 ?_
          refine z_mmax (pc := 72) dX8_goesOff_72 mmX8_291 (by decide) (Nat.le_of_ble_eq_true rfl) ?_
          refine z_ret (pc := 75) (r := some (.int _)) rfl dX8_goesOff_75 trivial rfl rfl ?_
          refine zPub_of ?_
          simp only [zbb0, zbb1, zb_eq0, zb_ne0, Classical.not_not, Bool.not_eq_false] at *
          unfold pGoes
          rw [if_pos ⟨zlt_of hi (by decide), hw2⟩, hcl, if_neg c28, if_pos c35]
      · skip
        refine z_ldc (pc := 31) dX8_goesOff_31 kcX8_147 ?_
        refine z_ret (pc := 33) (r := some (.int _)) rfl dX8_goesOff_33 trivial rfl rfl ?_
        refine zPub_of ?_
        simp only [zbb0, zbb1, zb_eq0, zb_ne0, Classical.not_not, Bool.not_eq_false] at *
        unfold pGoes
        rw [if_pos ⟨zlt_of hi (by decide), hw2⟩, hcl, if_pos c28]
    · skip
      refine z_ldc (pc := 14) dX8_goesOff_14 kcX8_77 ?_
      refine z_ret (pc := 16) (r := some (.int _)) rfl dX8_goesOff_16 trivial rfl rfl ?_
      refine zPub_of ?_
      simp only [zbb0, zbb1, zb_eq0, zb_ne0, Classical.not_not, Bool.not_eq_false] at *
      simp [pGoes, c11]
def pCount (I : Nat → Nat → Int32) (w : Int32) : Int32 × (Nat → Nat → Int32) := (if w = 0 then zrows I 8 else if w = 1 then I 15 3 else if w = 2 then I 15 7 else if w = 3 then zmany I 22 else if w = 4 then I 22 0 else if w = 5 then znotes I 22 else if w = 6 then I 48 2 else if w = 7 then I 13 1 else -1000001, I)
set_option maxRecDepth 100000 in
set_option maxHeartbeats 4000000 in
theorem qX8_count {l : zL} {I : Nat → Nat → Int32} {J : Nat → Nat → Int64} {nw : Bool} {w : Int32} : zP l mX8_count [.ref 0, .int w] (hh I J nw) (zPub (pCount I w)) := by
  refine z_start [.ref 0, .int w] (by decide +kernel) (Nat.le_of_ble_eq_true rfl) rfl ?_
  refine z_iload_1 (pc := 0) dX8_count_0 ?_
  have hcase : (∃ j, j < 8 ∧ w = nI j) ∨ ¬ zlt w 8 = true := by
    by_cases hw : zlt w 8 = true
    · exact Or.inl (zlt_nI (by decide) hw)
    · exact Or.inr hw
  have hc8 : w = nI 0 ∨ w = nI 1 ∨ w = nI 2 ∨ w = nI 3 ∨ w = nI 4 ∨ w = nI 5 ∨ w = nI 6 ∨ w = nI 7 ∨ ¬ zlt w 8 = true := by
    rcases hcase with ⟨j, hj, rfl⟩ | hw
    · match j, hj with
      | 0, _ => exact Or.inl rfl
      | 1, _ => exact Or.inr (Or.inl rfl)
      | 2, _ => exact Or.inr (Or.inr (Or.inl rfl))
      | 3, _ => exact Or.inr (Or.inr (Or.inr (Or.inl rfl)))
      | 4, _ => exact Or.inr (Or.inr (Or.inr (Or.inr (Or.inl rfl))))
      | 5, _ => exact Or.inr (Or.inr (Or.inr (Or.inr (Or.inr (Or.inl rfl)))))
      | 6, _ => exact Or.inr (Or.inr (Or.inr (Or.inr (Or.inr (Or.inr (Or.inl rfl))))))
      | 7, _ => exact Or.inr (Or.inr (Or.inr (Or.inr (Or.inr (Or.inr (Or.inr (Or.inl rfl)))))))
    · exact Or.inr (Or.inr (Or.inr (Or.inr (Or.inr (Or.inr (Or.inr (Or.inr hw)))))))
  rcases hc8 with rfl | rfl | rfl | rfl | rfl | rfl | rfl | rfl | hw
  · skip
    refine z_tableIn (pc := 1) (tgt := 48) dX8_count_1 (by decide) (by decide) rfl (by decide) ?_
    refine z_aload_0 (pc := 48) dX8_count_48 ?_
    refine y_getR (pc := 49) dX8_count_49 flX8_10 rfl (by first | rfl | assumption) (by first | rfl | assumption) ?_
    refine z_V0 (pc := 52) dX8_count_52 mlX8_352 kX5_howMany vX5_howMany (by decide) (by decide) (by first | rfl | assumption) (Nat.le_of_ble_eq_true rfl) (qX5_howMany) ⟨Nat.le_refl _, Nat.le_refl _⟩ (fun r h1 hq => ?_)
    obtain ⟨rfl, rfl⟩ := hq
    refine z_ret (pc := 55) (r := some (.int _)) rfl dX8_count_55 trivial rfl rfl ?_
    exact zPub_of rfl
  · skip
    refine z_tableIn (pc := 1) (tgt := 56) dX8_count_1 (by decide) (by decide) rfl (by decide) ?_
    refine z_aload_0 (pc := 56) dX8_count_56 ?_
    refine y_getR (pc := 57) dX8_count_57 flX8_26 rfl (by first | rfl | assumption) (by first | rfl | assumption) ?_
    refine y_getI (pc := 60) dX8_count_60 flX8_138 rfl (by first | rfl | assumption) ?_
    refine z_ret (pc := 63) (r := some (.int _)) rfl dX8_count_63 trivial rfl rfl ?_
    exact zPub_of rfl
  · skip
    refine z_tableIn (pc := 1) (tgt := 64) dX8_count_1 (by decide) (by decide) rfl (by decide) ?_
    refine z_aload_0 (pc := 64) dX8_count_64 ?_
    refine y_getR (pc := 65) dX8_count_65 flX8_26 rfl (by first | rfl | assumption) (by first | rfl | assumption) ?_
    refine y_getI (pc := 68) dX8_count_68 flX8_315 rfl (by first | rfl | assumption) ?_
    refine z_ret (pc := 71) (r := some (.int _)) rfl dX8_count_71 trivial rfl rfl ?_
    exact zPub_of rfl
  · skip
    refine z_tableIn (pc := 1) (tgt := 72) dX8_count_1 (by decide) (by decide) rfl (by decide) ?_
    refine z_aload_0 (pc := 72) dX8_count_72 ?_
    refine y_getR (pc := 73) dX8_count_73 flX8_26 rfl (by first | rfl | assumption) (by first | rfl | assumption) ?_
    refine y_getR (pc := 76) dX8_count_76 flX8_148 rfl (by first | rfl | assumption) (by first | rfl | assumption) ?_
    refine z_V0 (pc := 79) dX8_count_79 mlX8_355 kX2_howMany vX2_howMany (by decide) (by decide) (by first | rfl | assumption) (Nat.le_of_ble_eq_true rfl) (qX2_howMany rfl rfl rfl) ⟨Nat.le_refl _, Nat.le_refl _⟩ (fun r h1 hq => ?_)
    obtain ⟨rfl, rfl⟩ := hq
    refine z_ret (pc := 82) (r := some (.int _)) rfl dX8_count_82 trivial rfl rfl ?_
    exact zPub_of rfl
  · skip
    refine z_tableIn (pc := 1) (tgt := 83) dX8_count_1 (by decide) (by decide) rfl (by decide) ?_
    refine z_aload_0 (pc := 83) dX8_count_83 ?_
    refine y_getR (pc := 84) dX8_count_84 flX8_26 rfl (by first | rfl | assumption) (by first | rfl | assumption) ?_
    refine y_getR (pc := 87) dX8_count_87 flX8_148 rfl (by first | rfl | assumption) (by first | rfl | assumption) ?_
    refine z_V0 (pc := 90) dX8_count_90 mlX8_176 kX2_today vX2_today (by decide) (by decide) (by first | rfl | assumption) (Nat.le_of_ble_eq_true rfl) (qX2_today rfl rfl rfl) ⟨Nat.le_refl _, Nat.le_refl _⟩ (fun r h1 hq => ?_)
    obtain ⟨rfl, rfl⟩ := hq
    refine z_ret (pc := 93) (r := some (.int _)) rfl dX8_count_93 trivial rfl rfl ?_
    exact zPub_of rfl
  · skip
    refine z_tableIn (pc := 1) (tgt := 94) dX8_count_1 (by decide) (by decide) rfl (by decide) ?_
    refine z_aload_0 (pc := 94) dX8_count_94 ?_
    refine y_getR (pc := 95) dX8_count_95 flX8_26 rfl (by first | rfl | assumption) (by first | rfl | assumption) ?_
    refine y_getR (pc := 98) dX8_count_98 flX8_148 rfl (by first | rfl | assumption) (by first | rfl | assumption) ?_
    refine z_V0 (pc := 101) dX8_count_101 mlX8_331 kX2_allNotes vX2_allNotes (by decide) (by decide) (by first | rfl | assumption) (Nat.le_of_ble_eq_true rfl) (qX2_allNotes rfl rfl rfl) ⟨Nat.le_refl _, Nat.le_refl _⟩ (fun r h1 hq => ?_)
    obtain ⟨rfl, rfl⟩ := hq
    refine z_ret (pc := 104) (r := some (.int _)) rfl dX8_count_104 trivial rfl rfl ?_
    exact zPub_of rfl
  · skip
    refine z_tableIn (pc := 1) (tgt := 105) dX8_count_1 (by decide) (by decide) rfl (by decide) ?_
    refine z_aload_0 (pc := 105) dX8_count_105 ?_
    refine y_getR (pc := 106) dX8_count_106 flX8_40 rfl (by first | rfl | assumption) (by first | rfl | assumption) ?_
    refine y_getI (pc := 109) dX8_count_109 flX8_144 rfl (by first | rfl | assumption) ?_
    refine z_ret (pc := 112) (r := some (.int _)) rfl dX8_count_112 trivial rfl rfl ?_
    exact zPub_of rfl
  · skip
    refine z_tableIn (pc := 1) (tgt := 113) dX8_count_1 (by decide) (by decide) rfl (by decide) ?_
    refine z_aload_0 (pc := 113) dX8_count_113 ?_
    refine y_getR (pc := 114) dX8_count_114 flX8_19 rfl (by first | rfl | assumption) (by first | rfl | assumption) ?_
    refine y_getI (pc := 117) dX8_count_117 flX8_117 rfl (by first | rfl | assumption) ?_
    refine z_ret (pc := 120) (r := some (.int _)) rfl dX8_count_120 trivial rfl rfl ?_
    exact zPub_of rfl
  · skip
    refine z_tableOut (pc := 1) (tgt := 121) dX8_count_1 ?_ (by decide) ?_
    · unfold zlt at hw
      rw [decide_eq_true_eq] at hw
      omega
    refine z_ldc (pc := 121) dX8_count_121 kcX8_77 ?_
    refine z_ret (pc := 123) (r := some (.int _)) rfl dX8_count_123 trivial rfl rfl ?_
    refine zPub_of ?_
    unfold pCount
    have hne : ∀ j, j < 8 → ¬ w = nI j := fun j hj q => hw (by rw [q]; exact zlt_of hj (by decide))
    rw [if_neg (show ¬ w = 0 from hne 0 (by decide)), if_neg (show ¬ w = 1 from hne 1 (by decide)), if_neg (show ¬ w = 2 from hne 2 (by decide)), if_neg (show ¬ w = 3 from hne 3 (by decide)), if_neg (show ¬ w = 4 from hne 4 (by decide)), if_neg (show ¬ w = 5 from hne 5 (by decide)), if_neg (show ¬ w = 6 from hne 6 (by decide)), if_neg (show ¬ w = 7 from hne 7 (by decide))]
