def mOff (I : Nat → Nat → Int32) (x w : Int32) : Int32 := if zlt x 4 = true ∧ zlt w 2 = true then (if I 90 (44 + x.toNatClampNeg) = 0 then -1000002 else (if (if w = 0 then I 90 1 + 1 else I 90 0) - I 90 (56 + x.toNatClampNeg) ≤ 0 then 0 else (if w = 0 then I 90 1 + 1 else I 90 0) - I 90 (56 + x.toNatClampNeg))) else -1000001
set_option maxRecDepth 100000 in
set_option maxHeartbeats 4000000 in
theorem qX9_goesOff {l : zL} {I : Nat → Nat → Int32} {J : Nat → Nat → Int64} {nw : Bool} {x w : Int32} : zP l mX9_goesOff [.ref 85, .int x, .int w] (hh I J nw) (zPM (mOff I x w, I) J nw) := by
  refine z_start [.ref 85, .int x, .int w, zno] (by decide +kernel) (Nat.le_of_ble_eq_true rfl) rfl ?_
  refine z_iload_1 (pc := 0) dX9_goesOff_0 ?_
  refine z_S1 (pc := 1) dX9_goesOff_1 mlX9_216 kX9_isCask vX9_isCask (by decide) (by decide) (Nat.le_of_ble_eq_true rfl) (qX9_isCask) ⟨Nat.le_refl _, Nat.le_refl _⟩ (fun r h1 hq => ?_)
  obtain ⟨rfl, rfl⟩ := hq
  refine z_if_eq (pc := 4) (tgt := 14) dX9_goesOff_4 (by decide) (fun c4 => ?_) (fun c4 => ?_)
  · skip
    refine z_ldc (pc := 14) dX9_goesOff_14 kcX9_70 ?_
    refine z_ret (pc := 16) (r := some (.int _)) rfl dX9_goesOff_16 trivial rfl rfl ?_
    refine zPM_of ?_
    simp only [zbb0, zbb1] at *
    simp [mOff, *]
  · skip
    refine z_iload_2 (pc := 7) dX9_goesOff_7 ?_
    refine z_S1 (pc := 8) dX9_goesOff_8 mlX9_242 kX9_isTwo vX9_isTwo (by decide) (by decide) (Nat.le_of_ble_eq_true rfl) (qX9_isTwo) ⟨Nat.le_refl _, Nat.le_refl _⟩ (fun r h1 hq => ?_)
    obtain ⟨rfl, rfl⟩ := hq
    refine z_if_ne (pc := 11) (tgt := 17) dX9_goesOff_11 (by decide) (fun c11 => ?_) (fun c11 => ?_)
    · skip
      obtain ⟨i, hi, rfl⟩ := zlt_nI (by decide) ((zbb1 _).mp c4)
      have hcl : (nI i).toNatClampNeg = i := nI_clamp (by omega)
      have hw2 := (zbb1 _).mp c11
      refine z_aload_0 (pc := 17) dX9_goesOff_17 ?_
      refine y_getR (pc := 18) dX9_goesOff_18 flX9_22 rfl (by first | rfl | assumption) (by first | rfl | assumption) ?_
      refine z_bipush (pc := 21) (44) dX9_goesOff_21 rfl ?_
      refine z_iload_1 (pc := 23) dX9_goesOff_23 ?_
      refine z_iadd (pc := 24) dX9_goesOff_24 ?_
      refine y_ialdN (pc := 25) (44 + i) dX9_goesOff_25 (by first | rfl | assumption) (nI_add 44 i) (by omega) (by first | decide | omega) ?_
      refine z_if_ne (pc := 26) (tgt := 32) dX9_goesOff_26 (by decide) (fun c26 => ?_) (fun c26 => ?_)
      · skip
        refine z_iload_2 (pc := 32) dX9_goesOff_32 ?_
        refine z_if_ne (pc := 33) (tgt := 47) dX9_goesOff_33 (by decide) (fun c33 => ?_) (fun c33 => ?_)
        · skip
          refine z_aload_0 (pc := 47) dX9_goesOff_47 ?_
          refine y_getR (pc := 48) dX9_goesOff_48 flX9_22 rfl (by first | rfl | assumption) (by first | rfl | assumption) ?_
          refine z_iconst (pc := 51) (0) dX9_goesOff_51 rfl ?_
          refine y_ialdN (pc := 52) (0) dX9_goesOff_52 (by first | rfl | assumption) (rfl) (by decide) (by first | decide | omega) ?_
          refine z_aload_0 (pc := 53) dX9_goesOff_53 ?_
          refine y_getR (pc := 54) dX9_goesOff_54 flX9_22 rfl (by first | rfl | assumption) (by first | rfl | assumption) ?_
          refine z_bipush (pc := 57) (56) dX9_goesOff_57 rfl ?_
          refine z_iload_1 (pc := 59) dX9_goesOff_59 ?_
          refine z_iadd (pc := 60) dX9_goesOff_60 ?_
          refine y_ialdN (pc := 61) (56 + i) dX9_goesOff_61 (by first | rfl | assumption) (nI_add 56 i) (by omega) (by first | decide | omega) ?_
          refine z_isub (pc := 62) dX9_goesOff_62 ?_
          refine z_istore_3 (pc := 63) dX9_goesOff_63 (by decide) rfl ?_
          refine z_iload_3 (pc := 64) dX9_goesOff_64 ?_
          refine z_if_le (pc := 65) (tgt := 72) dX9_goesOff_65 (by decide) (fun c65 => ?_) (fun c65 => ?_)
          · skip
            refine z_iconst (pc := 72) (0) dX9_goesOff_72 rfl ?_
            refine z_ret (pc := 73) (r := some (.int _)) rfl dX9_goesOff_73 trivial rfl rfl ?_
            refine zPM_of ?_
            unfold mOff
            rw [if_pos ⟨zlt_of hi (by decide), hw2⟩, hcl]
            simp [*]
          · skip
            refine z_iload_3 (pc := 68) dX9_goesOff_68 ?_
            refine z_goto (pc := 69) (tgt := 73) dX9_goesOff_69 (by decide) ?_
            refine z_ret (pc := 73) (r := some (.int _)) rfl dX9_goesOff_73 trivial rfl rfl ?_
            refine zPM_of ?_
            unfold mOff
            rw [if_pos ⟨zlt_of hi (by decide), hw2⟩, hcl]
            simp [*]
        · skip
          refine z_aload_0 (pc := 36) dX9_goesOff_36 ?_
          refine y_getR (pc := 37) dX9_goesOff_37 flX9_22 rfl (by first | rfl | assumption) (by first | rfl | assumption) ?_
          refine z_iconst (pc := 40) (1) dX9_goesOff_40 rfl ?_
          refine y_ialdN (pc := 41) (1) dX9_goesOff_41 (by first | rfl | assumption) (rfl) (by decide) (by first | decide | omega) ?_
          refine z_iconst (pc := 42) (1) dX9_goesOff_42 rfl ?_
          refine z_iadd (pc := 43) dX9_goesOff_43 ?_
          refine z_goto (pc := 44) (tgt := 53) dX9_goesOff_44 (by decide) ?_
          refine z_aload_0 (pc := 53) dX9_goesOff_53 ?_
          refine y_getR (pc := 54) dX9_goesOff_54 flX9_22 rfl (by first | rfl | assumption) (by first | rfl | assumption) ?_
          refine z_bipush (pc := 57) (56) dX9_goesOff_57 rfl ?_
          refine z_iload_1 (pc := 59) dX9_goesOff_59 ?_
          refine z_iadd (pc := 60) dX9_goesOff_60 ?_
          refine y_ialdN (pc := 61) (56 + i) dX9_goesOff_61 (by first | rfl | assumption) (nI_add 56 i) (by omega) (by first | decide | omega) ?_
          refine z_isub (pc := 62) dX9_goesOff_62 ?_
          refine z_istore_3 (pc := 63) dX9_goesOff_63 (by decide) rfl ?_
          refine z_iload_3 (pc := 64) dX9_goesOff_64 ?_
          refine z_if_le (pc := 65) (tgt := 72) dX9_goesOff_65 (by decide) (fun c65 => ?_) (fun c65 => ?_)
          · skip
            refine z_iconst (pc := 72) (0) dX9_goesOff_72 rfl ?_
            refine z_ret (pc := 73) (r := some (.int _)) rfl dX9_goesOff_73 trivial rfl rfl ?_
            refine zPM_of ?_
            unfold mOff
            rw [if_pos ⟨zlt_of hi (by decide), hw2⟩, hcl]
            simp [*]
          · skip
            refine z_iload_3 (pc := 68) dX9_goesOff_68 ?_
            refine z_goto (pc := 69) (tgt := 73) dX9_goesOff_69 (by decide) ?_
            refine z_ret (pc := 73) (r := some (.int _)) rfl dX9_goesOff_73 trivial rfl rfl ?_
            refine zPM_of ?_
            unfold mOff
            rw [if_pos ⟨zlt_of hi (by decide), hw2⟩, hcl]
            simp [*]
      · skip
        refine z_ldc (pc := 29) dX9_goesOff_29 kcX9_198 ?_
        refine z_ret (pc := 31) (r := some (.int _)) rfl dX9_goesOff_31 trivial rfl rfl ?_
        refine zPM_of ?_
        unfold mOff
        rw [if_pos ⟨zlt_of hi (by decide), hw2⟩, hcl]
        simp [*]
    · skip
      refine z_ldc (pc := 14) dX9_goesOff_14 kcX9_70 ?_
      refine z_ret (pc := 16) (r := some (.int _)) rfl dX9_goesOff_16 trivial rfl rfl ?_
      refine zPM_of ?_
      simp only [zbb0, zbb1] at *
      simp [mOff, *]
