set_option maxRecDepth 100000 in
set_option maxHeartbeats 4000000 in
theorem leave_up {l : zL} {I : Nat → Nat → Int32} {J : Nat → Nat → Int64} {nw : Bool} {Q : Option Value → zH → Prop} {V P : Int64} {v5 v6 : Value} (P2 : Int64) (e : P * 100 = P2) (h : P2 ≤ V) (k : zW l mX9_leave SH.length (zsl SH) 2 [.ref 85, .long V, zno, .long P2, zno, v5, v6] [] (I, J, RF nw, SH) Q) : zW l mX9_leave SH.length (zsl SH) 2 [.ref 85, .long V, zno, .long P, zno, v5, v6] [] (I, J, RF nw, SH) Q := by
  refine z_lload_3 (pc := 2) dX9_leave_2 ?_
  refine z_ldc2 (pc := 3) dX9_leave_3 kcX9_277 ?_
  refine z_lmul (pc := 6) dX9_leave_6 ?_
  refine z_lload_1 (pc := 7) dX9_leave_7 ?_
  refine z_lcmp (pc := 8) dX9_leave_8 ?_
  refine z_if_gt (pc := 9) (tgt := 21) dX9_leave_9 (by decide) (fun c9 => ?_) (fun c9 => ?_)
  · exact absurd h (by rw [e, lg_cmp_gt] at c9; exact Int64.not_le.mpr c9)
  · skip
    refine z_lload_3 (pc := 12) dX9_leave_12 ?_
    refine z_ldc2 (pc := 13) dX9_leave_13 kcX9_277 ?_
    refine z_lmul (pc := 16) dX9_leave_16 ?_
    refine z_lstore_3 (pc := 17) dX9_leave_17 (by decide) rfl ?_
    refine z_goto (pc := 18) (tgt := 2) dX9_leave_18 (by decide) ?_
    rw [e]
    exact k
set_option maxRecDepth 100000 in
set_option maxHeartbeats 4000000 in
theorem leave_out {l : zL} {I : Nat → Nat → Int32} {J : Nat → Nat → Int64} {nw : Bool} {Q : Option Value → zH → Prop} {V P : Int64} {v5 v6 : Value} (P2 : Int64) (e : P * 100 = P2) (h : V < P2) (k : zW l mX9_leave SH.length (zsl SH) 24 [.ref 85, .long V, zno, .long P, zno, .long V, zno] [] (I, J, RF nw, SH) Q) : zW l mX9_leave SH.length (zsl SH) 2 [.ref 85, .long V, zno, .long P, zno, v5, v6] [] (I, J, RF nw, SH) Q := by
  refine z_lload_3 (pc := 2) dX9_leave_2 ?_
  refine z_ldc2 (pc := 3) dX9_leave_3 kcX9_277 ?_
  refine z_lmul (pc := 6) dX9_leave_6 ?_
  refine z_lload_1 (pc := 7) dX9_leave_7 ?_
  refine z_lcmp (pc := 8) dX9_leave_8 ?_
  refine z_if_gt (pc := 9) (tgt := 21) dX9_leave_9 (by decide) (fun c9 => ?_) (fun c9 => ?_)
  · skip
    refine z_lload_1 (pc := 21) dX9_leave_21 ?_
    refine z_lstore_5 (pc := 22) dX9_leave_22 (by decide) rfl ?_
    exact k
  · exact absurd (by rw [e, lg_cmp_gt]; exact h) c9
set_option maxRecDepth 100000 in
set_option maxHeartbeats 4000000 in
theorem leave_step {l : zL} {I : Nat → Nat → Int32} {J : Nat → Nat → Int64} {nw : Bool} {Q : Option Value → zH → Prop} {V P R : Int64} (c : Nat) (hc : I 85 13 = nI c) (hc2 : c < 16) (hP : 0 < P) (P2 R2 : Int64) (w : Int32) (e1 : P / 100 = P2) (e2 : R - R / P * P = R2) (e3 : (R / P).toInt32 = w) (k : zW l mX9_leave SH.length (zsl SH) 24 [.ref 85, .long V, zno, .long P2, zno, .long R2, zno] [] (zup (zup I 94 c w) 85 13 (nI (c + 1)), J, RF nw, SH) Q) : zW l mX9_leave SH.length (zsl SH) 24 [.ref 85, .long V, zno, .long P, zno, .long R, zno] [] (I, J, RF nw, SH) Q := by
  have hP0 : ¬ P = 0 := fun q => by rw [q] at hP; exact absurd hP (by decide)
  refine z_lload_3 (pc := 24) dX9_leave_24 ?_
  refine z_lconst (pc := 25) 0 dX9_leave_25 rfl ?_
  refine z_lcmp (pc := 26) dX9_leave_26 ?_
  refine z_if_le (pc := 27) (tgt := 69) dX9_leave_27 (by decide) (fun c27 => ?_) (fun c27 => ?_)
  · exact absurd hP (by rw [lg_cmp_le] at c27; exact Int64.not_lt.mpr c27)
  · skip
    refine z_aload_0 (pc := 30) dX9_leave_30 ?_
    refine y_getR (pc := 31) dX9_leave_31 flX9_35 rfl (by first | rfl | assumption) (by first | rfl | assumption) ?_
    refine z_aload_0 (pc := 34) dX9_leave_34 ?_
    refine y_getI (pc := 35) dX9_leave_35 flX9_279 rfl (by first | rfl | assumption) ?_
    refine z_lload_5 (pc := 38) dX9_leave_38 ?_
    refine z_lload_3 (pc := 40) dX9_leave_40 ?_
    refine z_ldiv (pc := 41) (by first | assumption | decide) dX9_leave_41 ?_
    refine z_l2i (pc := 42) dX9_leave_42 ?_
    refine y_iastN (pc := 43) (c) dX9_leave_43 (by first | rfl | assumption) (hc) (hc2) (by first | decide | omega) ?_
    refine z_lload_5 (pc := 44) dX9_leave_44 ?_
    refine z_lload_3 (pc := 46) dX9_leave_46 ?_
    refine z_lrem (pc := 47) (by first | assumption | decide) dX9_leave_47 ?_
    refine z_lstore_5 (pc := 48) dX9_leave_48 (by decide) rfl ?_
    refine z_aload_0 (pc := 50) dX9_leave_50 ?_
    refine z_dup (pc := 51) rfl dX9_leave_51 ?_
    refine y_getI (pc := 52) dX9_leave_52 flX9_279 rfl (by first | rfl | assumption) ?_
    refine z_iconst (pc := 55) (1) dX9_leave_55 rfl ?_
    refine z_iadd (pc := 56) dX9_leave_56 ?_
    refine y_putI (pc := 57) dX9_leave_57 flX9_279 ffX9_279 rfl (by first | rfl | assumption) ⟨rfl, rfl⟩ ?_
    refine z_lload_3 (pc := 60) dX9_leave_60 ?_
    refine z_ldc2 (pc := 61) dX9_leave_61 kcX9_277 ?_
    refine z_ldiv (pc := 64) (by first | assumption | decide) dX9_leave_64 ?_
    refine z_lstore_3 (pc := 65) dX9_leave_65 (by decide) rfl ?_
    refine z_goto (pc := 66) (tgt := 24) dX9_leave_66 (by decide) ?_
    rw [e1, e2, e3, zup_no (Or.inl (by decide)), hc, ← nI_succ]
    exact k
set_option maxRecDepth 100000 in
set_option maxHeartbeats 4000000 in
theorem leave_end {l : zL} {I : Nat → Nat → Int32} {J : Nat → Nat → Int64} {nw : Bool} {Q : Option Value → zH → Prop} {V R : Int64} (k : Q none (I, J, RF nw, SH)) : zW l mX9_leave SH.length (zsl SH) 24 [.ref 85, .long V, zno, .long 0, zno, .long R, zno] [] (I, J, RF nw, SH) Q := by
  refine z_lload_3 (pc := 24) dX9_leave_24 ?_
  refine z_lconst (pc := 25) 0 dX9_leave_25 rfl ?_
  refine z_lcmp (pc := 26) dX9_leave_26 ?_
  refine z_if_le (pc := 27) (tgt := 69) dX9_leave_27 (by decide) (fun c27 => ?_) (fun c27 => ?_)
  · skip
    refine z_ret (pc := 69) (r := none) rfl dX9_leave_69 trivial rfl rfl ?_
    exact k
  · exact absurd (by rw [lg_cmp_le]; decide) c27
