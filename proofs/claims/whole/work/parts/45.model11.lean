set_option maxRecDepth 100000 in
set_option maxHeartbeats 4000000 in
theorem qX9_rumour {l : zL} {I : Nat → Nat → Int32} {J : Nat → Nat → Int64} {nw : Bool} (n : Nat) (hn : n ≤ 6) (en : I 90 3 = nI n) {x : Int32} : zP l mX9_rumour [.ref 85, .int x] (hh I J nw) (zPM (if zlt x n = true then I 90 (60 + x.toNatClampNeg) else -1000001, I) J nw) := by
  refine z_start [.ref 85, .int x] (by decide +kernel) (Nat.le_of_ble_eq_true rfl) rfl ?_
  refine z_aload_0 (pc := 0) dX9_rumour_0 ?_
  refine z_iload_1 (pc := 1) dX9_rumour_1 ?_
  refine z_V1 (pc := 2) dX9_rumour_2 mlX9_199 kX9_isDrinker vX9_isDrinker (by decide) (by decide) (by first | rfl | assumption) (Nat.le_of_ble_eq_true rfl) (qX9_isDrinker n hn en) ⟨Nat.le_refl _, Nat.le_refl _⟩ (fun r h1 hq => ?_)
  obtain ⟨rfl, rfl⟩ := hq
  refine z_if_eq (pc := 5) (tgt := 20) dX9_rumour_5 (by decide) (fun c5 => ?_) (fun c5 => ?_)
  · skip
    refine z_ldc (pc := 20) dX9_rumour_20 kcX9_70 ?_
    refine z_ret (pc := 22) (r := some (.int _)) rfl dX9_rumour_22 trivial rfl rfl ?_
    refine zPM_of ?_
    rw [if_neg (by rw [(zbb0 _).mp c5]; decide)]
  · skip
    obtain ⟨i, hi, rfl⟩ := zlt_nI (by omega) ((zbb1 _).mp c5)
    have hcl : (nI i).toNatClampNeg = i := nI_clamp (by omega)
    refine z_aload_0 (pc := 8) dX9_rumour_8 ?_
    refine y_getR (pc := 9) dX9_rumour_9 flX9_22 rfl (by first | rfl | assumption) (by first | rfl | assumption) ?_
    refine z_bipush (pc := 12) (60) dX9_rumour_12 rfl ?_
    refine z_iload_1 (pc := 14) dX9_rumour_14 ?_
    refine z_iadd (pc := 15) dX9_rumour_15 ?_
    refine y_ialdN (pc := 16) (60 + i) dX9_rumour_16 (by first | rfl | assumption) (nI_add 60 i) (by omega) (by first | decide | omega) ?_
    refine z_goto (pc := 17) (tgt := 22) dX9_rumour_17 (by decide) ?_
    refine z_ret (pc := 22) (r := some (.int _)) rfl dX9_rumour_22 trivial rfl rfl ?_
    refine zPM_of ?_
    rw [if_pos (zlt_of hi (by omega)), hcl]
set_option maxRecDepth 100000 in
set_option maxHeartbeats 4000000 in
theorem qX9_isOff {l : zL} {I : Nat → Nat → Int32} {J : Nat → Nat → Int64} {nw : Bool} {x : Int32} (i : Nat) (hx : x = nI i) (hi : i < 4) : zP l mX9_isOff [.ref 85, .int x] (hh I J nw) (zR (some (.int (zbb (decide (I 90 (44 + i) = 1 ∧ ¬ I 90 (56 + i) ≤ I 90 1))))) (hh I J nw)) := by
  refine z_start [.ref 85, .int x] (by decide +kernel) (Nat.le_of_ble_eq_true rfl) rfl ?_
  refine z_aload_0 (pc := 0) dX9_isOff_0 ?_
  refine y_getR (pc := 1) dX9_isOff_1 flX9_22 rfl (by first | rfl | assumption) (by first | rfl | assumption) ?_
  refine z_bipush (pc := 4) (44) dX9_isOff_4 rfl ?_
  refine z_iload_1 (pc := 6) dX9_isOff_6 ?_
  refine z_iadd (pc := 7) dX9_isOff_7 ?_
  refine y_ialdN (pc := 8) (44 + i) dX9_isOff_8 (by first | rfl | assumption) (by rw [hx]; exact nI_add 44 i) (by omega) (by first | decide | omega) ?_
  refine z_iconst (pc := 9) (1) dX9_isOff_9 rfl ?_
  refine z_icmp_ne (pc := 10) (tgt := 35) dX9_isOff_10 (by decide) (fun c10 => ?_) (fun c10 => ?_)
  · skip
    refine z_iconst (pc := 35) (0) dX9_isOff_35 rfl ?_
    refine z_ret (pc := 36) (r := some (.int _)) rfl dX9_isOff_36 (by first | exact Or.inl rfl | exact Or.inr rfl | assumption) rfl rfl ?_
    exact ⟨by simp [zbb, *], rfl⟩
  · skip
    refine z_aload_0 (pc := 13) dX9_isOff_13 ?_
    refine y_getR (pc := 14) dX9_isOff_14 flX9_22 rfl (by first | rfl | assumption) (by first | rfl | assumption) ?_
    refine z_bipush (pc := 17) (56) dX9_isOff_17 rfl ?_
    refine z_iload_1 (pc := 19) dX9_isOff_19 ?_
    refine z_iadd (pc := 20) dX9_isOff_20 ?_
    refine y_ialdN (pc := 21) (56 + i) dX9_isOff_21 (by first | rfl | assumption) (by rw [hx]; exact nI_add 56 i) (by omega) (by first | decide | omega) ?_
    refine z_aload_0 (pc := 22) dX9_isOff_22 ?_
    refine y_getR (pc := 23) dX9_isOff_23 flX9_22 rfl (by first | rfl | assumption) (by first | rfl | assumption) ?_
    refine z_iconst (pc := 26) (1) dX9_isOff_26 rfl ?_
    refine y_ialdN (pc := 27) (1) dX9_isOff_27 (by first | rfl | assumption) (rfl) (by decide) (by first | decide | omega) ?_
    refine z_icmp_le (pc := 28) (tgt := 35) dX9_isOff_28 (by decide) (fun c28 => ?_) (fun c28 => ?_)
    · skip
      refine z_iconst (pc := 35) (0) dX9_isOff_35 rfl ?_
      refine z_ret (pc := 36) (r := some (.int _)) rfl dX9_isOff_36 (by first | exact Or.inl rfl | exact Or.inr rfl | assumption) rfl rfl ?_
      exact ⟨by simp [zbb, *], rfl⟩
    · skip
      refine z_iconst (pc := 31) (1) dX9_isOff_31 rfl ?_
      refine z_goto (pc := 32) (tgt := 36) dX9_isOff_32 (by decide) ?_
      refine z_ret (pc := 36) (r := some (.int _)) rfl dX9_isOff_36 (by first | exact Or.inl rfl | exact Or.inr rfl | assumption) rfl rfl ?_
      exact ⟨by simp [zbb, *], rfl⟩
set_option maxRecDepth 100000 in
set_option maxHeartbeats 4000000 in
theorem qX9_areCasks {l : zL} {I : Nat → Nat → Int32} {J : Nat → Nat → Int64} {nw : Bool} {x y : Int32} : zP l mX9_areCasks [.int x, .int y] (hh I J nw) (zR (some (.int (zbb (decide (zlt x 4 = true ∧ zlt y 4 = true ∧ ¬ x = y))))) (hh I J nw)) := by
  refine z_start [.int x, .int y] (by decide +kernel) (Nat.le_of_ble_eq_true rfl) rfl ?_
  refine z_iload_0 (pc := 0) dX9_areCasks_0 ?_
  refine z_S1 (pc := 1) dX9_areCasks_1 mlX9_216 kX9_isCask vX9_isCask (by decide) (by decide) (Nat.le_of_ble_eq_true rfl) (qX9_isCask) ⟨Nat.le_refl _, Nat.le_refl _⟩ (fun r h1 hq => ?_)
  obtain ⟨rfl, rfl⟩ := hq
  refine z_if_eq (pc := 4) (tgt := 23) dX9_areCasks_4 (by decide) (fun c4 => ?_) (fun c4 => ?_)
  · skip
    refine z_iconst (pc := 23) (0) dX9_areCasks_23 rfl ?_
    refine z_ret (pc := 24) (r := some (.int _)) rfl dX9_areCasks_24 (by first | exact Or.inl rfl | exact Or.inr rfl | assumption) rfl rfl ?_
    simp only [zbb0, zbb1] at *
    exact ⟨by simp [zbb, *], rfl⟩
  · skip
    refine z_iload_1 (pc := 7) dX9_areCasks_7 ?_
    refine z_S1 (pc := 8) dX9_areCasks_8 mlX9_216 kX9_isCask vX9_isCask (by decide) (by decide) (Nat.le_of_ble_eq_true rfl) (qX9_isCask) ⟨Nat.le_refl _, Nat.le_refl _⟩ (fun r h1 hq => ?_)
    obtain ⟨rfl, rfl⟩ := hq
    refine z_if_eq (pc := 11) (tgt := 23) dX9_areCasks_11 (by decide) (fun c11 => ?_) (fun c11 => ?_)
    · skip
      refine z_iconst (pc := 23) (0) dX9_areCasks_23 rfl ?_
      refine z_ret (pc := 24) (r := some (.int _)) rfl dX9_areCasks_24 (by first | exact Or.inl rfl | exact Or.inr rfl | assumption) rfl rfl ?_
      simp only [zbb0, zbb1] at *
      exact ⟨by simp [zbb, *], rfl⟩
    · skip
      refine z_iload_0 (pc := 14) dX9_areCasks_14 ?_
      refine z_iload_1 (pc := 15) dX9_areCasks_15 ?_
      refine z_icmp_eq (pc := 16) (tgt := 23) dX9_areCasks_16 (by decide) (fun c16 => ?_) (fun c16 => ?_)
      · skip
        refine z_iconst (pc := 23) (0) dX9_areCasks_23 rfl ?_
        refine z_ret (pc := 24) (r := some (.int _)) rfl dX9_areCasks_24 (by first | exact Or.inl rfl | exact Or.inr rfl | assumption) rfl rfl ?_
        simp only [zbb0, zbb1] at *
        exact ⟨by simp [zbb, *], rfl⟩
      · skip
        refine z_iconst (pc := 19) (1) dX9_areCasks_19 rfl ?_
        refine z_goto (pc := 20) (tgt := 24) dX9_areCasks_20 (by decide) ?_
        refine z_ret (pc := 24) (r := some (.int _)) rfl dX9_areCasks_24 (by first | exact Or.inl rfl | exact Or.inr rfl | assumption) rfl rfl ?_
        simp only [zbb0, zbb1] at *
        exact ⟨by simp [zbb, *], rfl⟩
