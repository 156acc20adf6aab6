def mUndo (I : Nat → Nat → Int32) (c : Nat) : Int32 × (Nat → Nat → Int32) := if c = 0 then (-1000002, I) else (nI (c - 1), zcpy (zup I 85 9 (nI (c - 1))) 91 90 (66 * (c - 1)) 0 66)
theorem nI_less : ∀ c, c ≤ 24 → c ≠ 0 → nI c - 1 = nI (c - 1) := by decide +kernel
set_option maxRecDepth 100000 in
set_option maxHeartbeats 4000000 in
theorem qX9_undo {l : zL} {I : Nat → Nat → Int32} {J : Nat → Nat → Int64} {nw : Bool} (c : Nat) (hc : I 85 9 = nI c) (hl : c ≤ 24) : zP l mX9_undo [.ref 85] (hh I J nw) (zPM (mUndo I c) J nw) := by
  refine z_start [.ref 85] (by decide +kernel) (Nat.le_of_ble_eq_true rfl) rfl ?_
  refine z_aload_0 (pc := 0) dX9_undo_0 ?_
  refine y_getI (pc := 1) dX9_undo_1 flX9_147 rfl (by first | rfl | assumption) ?_
  refine z_if_ne (pc := 4) (tgt := 10) dX9_undo_4 (by decide) (fun c4 => ?_) (fun c4 => ?_)
  · skip
    have h0 : c ≠ 0 := fun z => c4 (by rw [hc, z]; rfl)
    refine z_aload_0 (pc := 10) dX9_undo_10 ?_
    refine z_dup (pc := 11) rfl dX9_undo_11 ?_
    refine y_getI (pc := 12) dX9_undo_12 flX9_147 rfl (by first | rfl | assumption) ?_
    refine z_iconst (pc := 15) (1) dX9_undo_15 rfl ?_
    refine z_isub (pc := 16) dX9_undo_16 ?_
    refine y_putI (pc := 17) dX9_undo_17 flX9_147 ffX9_147 rfl (by first | rfl | assumption) ⟨rfl, rfl⟩ ?_
    rw [hc, nI_less c hl h0]
    refine z_aload_0 (pc := 20) dX9_undo_20 ?_
    refine y_getR (pc := 21) dX9_undo_21 flX9_25 rfl (by first | rfl | assumption) (by first | rfl | assumption) ?_
    refine z_bipush (pc := 24) (66) dX9_undo_24 rfl ?_
    refine z_aload_0 (pc := 26) dX9_undo_26 ?_
    refine y_getI (pc := 27) dX9_undo_27 flX9_147 rfl (by first | rfl | assumption) ?_
    refine z_imul (pc := 30) dX9_undo_30 ?_
    refine z_aload_0 (pc := 31) dX9_undo_31 ?_
    refine y_getR (pc := 32) dX9_undo_32 flX9_22 rfl (by first | rfl | assumption) (by first | rfl | assumption) ?_
    refine z_iconst (pc := 35) (0) dX9_undo_35 rfl ?_
    refine z_S4 (pc := 36) dX9_undo_36 mlX9_150 kX9_copies vX9_copies (by decide) (by decide) (Nat.le_of_ble_eq_true rfl) (qX9_copies 91 90 1584 66 (66 * (c - 1)) 0 rfl rfl (by decide) (by omega) (by omega) (by decide) (by rw [zup_on]; exact mul66 (c - 1) (by omega)) rfl) ⟨Nat.le_refl _, Nat.le_refl _⟩ (fun r h1 hq => ?_)
    obtain ⟨rfl, rfl⟩ := hq
    refine z_aload_0 (pc := 39) dX9_undo_39 ?_
    refine y_getI (pc := 40) dX9_undo_40 flX9_147 rfl (by first | rfl | assumption) ?_
    refine z_ret (pc := 43) (r := some (.int _)) rfl dX9_undo_43 trivial rfl rfl ?_
    refine zPM_of ?_
    unfold mUndo
    rw [if_neg h0]
    rfl
  · skip
    refine z_ldc (pc := 7) dX9_undo_7 kcX9_198 ?_
    refine z_ret (pc := 9) (r := some (.int _)) rfl dX9_undo_9 trivial rfl rfl ?_
    refine zPM_of ?_
    unfold mUndo
    have h0 : c = 0 := (nI_eq (a := c) (b := 0) (by omega) (by decide)).mp (hc.symm.trans c4)
    rw [if_pos h0]
