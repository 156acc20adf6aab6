set_option maxRecDepth 100000 in
set_option maxHeartbeats 4000000 in
theorem leave_up {l : zL} {I : Nat → Nat → Int32} {J : Nat → Nat → Int64} {nw : Bool} {Q : Option Value → zH → Prop} {V P : Int64} {v5 v6 : Value} (P2 : Int64) (e : P * 100 = P2) (h : P2 ≤ V) (k : zW l mX9_leave SH.length (zsl SH) 2 [.ref 85, .long V, zno, .long P2, zno, v5, v6] [] (I, J, RF nw, SH) Q) : zW l mX9_leave SH.length (zsl SH) 2 [.ref 85, .long V, zno, .long P, zno, v5, v6] [] (I, J, RF nw, SH) Q := by
  refine z_lload_3 (pc := 2) dX9_leave_2 ?_
  refine z_ldc2 (pc := 3) dX9_leave_3 kcX9_277 ?_
  refine z_lmul (pc := 6) dX9_leave_6 ?_
  refine z_lload_1 (pc := 7) dX9_leave_7 ?_
  refine z_lcmp (pc := 8) dX9_leave_8 ?_
  refine z_if_gt (pc := 9) (tgt := 21) dX9_leave_9 (by decide) (fun c9 => ?_) (fun c9 => ?_)
  · exact absurd h (by rw [e, lg_cmp_gt] at c9; exact Int64.not_le.mpr c9)
  · skip
    refine z_lload_3 (pc := 12) dX9_leave_12 ?_
    refine z_ldc2 (pc := 13) dX9_leave_13 kcX9_277 ?_
    refine z_lmul (pc := 16) dX9_leave_16 ?_
    refine z_lstore_3 (pc := 17) dX9_leave_17 (by decide) rfl ?_
    refine z_goto (pc := 18) (tgt := 2) dX9_leave_18 (by decide) ?_
    rw [e]
    exact k
set_option maxRecDepth 100000 in
set_option maxHeartbeats 4000000 in
theorem leave_out {l : zL} {I : Nat → Nat → Int32} {J : Nat → Nat → Int64} {nw : Bool} {Q : Option Value → zH → Prop} {V P : Int64} {v5 v6 : Value} (P2 : Int64) (e : P * 100 = P2) (h : V < P2) (k : zW l mX9_leave SH.length (zsl SH) 24 [.ref 85, .long V, zno, .long P, zno, .long V, zno] [] (I, J, RF nw, SH) Q) : zW l mX9_leave SH.length (zsl SH) 2 [.ref 85, .long V, zno, .long P, zno, v5, v6] [] (I, J, RF nw, SH) Q := by
  refine z_lload_3 (pc := 2) dX9_leave_2 ?_
  refine z_ldc2 (pc := 3) dX9_leave_3 kcX9_277 ?_
  refine z_lmul (pc := 6) dX9_leave_6 ?_
  refine z_lload_1 (pc := 7) dX9_leave_7 ?_
  refine z_lcmp (pc := 8) dX9_leave_8 ?_
  refine z_if_gt (pc := 9) (tgt := 21) dX9_leave_9 (by decide) (fun c9 => ?_) (fun c9 => ?_)
  · skip
    refine z_lload_1 (pc := 21) dX9_leave_21 ?_
    refine z_lstore_5 (pc := 22) dX9_leave_22 (by decide) rfl ?_
    exact k
  · exact absurd (by rw [e, lg_cmp_gt]; exact h) c9
set_option maxRecDepth 100000 in
set_option maxHeartbeats 4000000 in
theorem leave_step {l : zL} {I : Nat → Nat → Int32} {J : Nat → Nat → Int64} {nw : Bool} {Q : Option Value → zH → Prop} {V P R : Int64} (c : Nat) (hc : I 85 13 = nI c) (hc2 : c < 16) (hP : 0 < P) (P2 R2 : Int64) (w : Int32) (e1 : P / 100 = P2) (e2 : R - R / P * P = R2) (e3 : (R / P).toInt32 = w) (k : zW l mX9_leave SH.length (zsl SH) 24 [.ref 85, .long V, zno, .long P2, zno, .long R2, zno] [] (zup (zup I 94 c w) 85 13 (nI (c + 1)), J, RF nw, SH) Q) : zW l mX9_leave SH.length (zsl SH) 24 [.ref 85, .long V, zno, .long P, zno, .long R, zno] [] (I, J, RF nw, SH) Q := by
  have hP0 : ¬ P = 0 := fun q => by rw [q] at hP; exact absurd hP (by decide)
  refine z_lload_3 (pc := 24) dX9_leave_24 ?_
  refine z_lconst (pc := 25) 0 dX9_leave_25 rfl ?_
  refine z_lcmp (pc := 26) dX9_leave_26 ?_
  refine z_if_le (pc := 27) (tgt := 69) dX9_leave_27 (by decide) (fun c27 => ?_) (fun c27 => ?_)
  · exact absurd hP (by rw [lg_cmp_le] at c27; exact Int64.not_lt.mpr c27)
  · skip
    refine z_aload_0 (pc := 30) dX9_leave_30 ?_
    refine y_getR (pc := 31) dX9_leave_31 flX9_35 rfl (by first | rfl | assumption) (by first | rfl | assumption) ?_
    refine z_aload_0 (pc := 34) dX9_leave_34 ?_
    refine y_getI (pc := 35) dX9_leave_35 flX9_279 rfl (by first | rfl | assumption) ?_
    refine z_lload_5 (pc := 38) dX9_leave_38 ?_
    refine z_lload_3 (pc := 40) dX9_leave_40 ?_
    refine z_ldiv (pc := 41) (by first | assumption | decide) dX9_leave_41 ?_
    refine z_l2i (pc := 42) dX9_leave_42 ?_
    refine y_iastN (pc := 43) (c) dX9_leave_43 (by first | rfl | assumption) (hc) (hc2) (by first | decide | omega) ?_
    refine z_lload_5 (pc := 44) dX9_leave_44 ?_
    refine z_lload_3 (pc := 46) dX9_leave_46 ?_
    refine z_lrem (pc := 47) (by first | assumption | decide) dX9_leave_47 ?_
    refine z_lstore_5 (pc := 48) dX9_leave_48 (by decide) rfl ?_
    refine z_aload_0 (pc := 50) dX9_leave_50 ?_
    refine z_dup (pc := 51) rfl dX9_leave_51 ?_
    refine y_getI (pc := 52) dX9_leave_52 flX9_279 rfl (by first | rfl | assumption) ?_
    refine z_iconst (pc := 55) (1) dX9_leave_55 rfl ?_
    refine z_iadd (pc := 56) dX9_leave_56 ?_
    refine y_putI (pc := 57) dX9_leave_57 flX9_279 ffX9_279 rfl (by first | rfl | assumption) ⟨rfl, rfl⟩ ?_
    refine z_lload_3 (pc := 60) dX9_leave_60 ?_
    refine z_ldc2 (pc := 61) dX9_leave_61 kcX9_277 ?_
    refine z_ldiv (pc := 64) (by first | assumption | decide) dX9_leave_64 ?_
    refine z_lstore_3 (pc := 65) dX9_leave_65 (by decide) rfl ?_
    refine z_goto (pc := 66) (tgt := 24) dX9_leave_66 (by decide) ?_
    rw [e1, e2, e3, zup_no (Or.inl (by decide)), hc, ← nI_succ]
    exact k
set_option maxRecDepth 100000 in
set_option maxHeartbeats 4000000 in
theorem leave_end {l : zL} {I : Nat → Nat → Int32} {J : Nat → Nat → Int64} {nw : Bool} {Q : Option Value → zH → Prop} {V R : Int64} (k : Q none (I, J, RF nw, SH)) : zW l mX9_leave SH.length (zsl SH) 24 [.ref 85, .long V, zno, .long 0, zno, .long R, zno] [] (I, J, RF nw, SH) Q := by
  refine z_lload_3 (pc := 24) dX9_leave_24 ?_
  refine z_lconst (pc := 25) 0 dX9_leave_25 rfl ?_
  refine z_lcmp (pc := 26) dX9_leave_26 ?_
  refine z_if_le (pc := 27) (tgt := 69) dX9_leave_27 (by decide) (fun c27 => ?_) (fun c27 => ?_)
  · skip
    refine z_ret (pc := 69) (r := none) rfl dX9_leave_69 trivial rfl rfl ?_
    exact k
  · exact absurd (by rw [lg_cmp_le]; decide) c27
def zleft (I : Nat → Nat → Int32) (c : Nat) : List Int32 → Nat → Nat → Int32
  | [] => I
  | w :: ws => zleft (zup (zup I 94 c w) 85 13 (nI (c + 1))) (c + 1) ws
set_option maxRecDepth 100000 in
set_option maxHeartbeats 4000000 in
theorem qX9_leave_242120 {l : zL} {I : Nat → Nat → Int32} {J : Nat → Nat → Int64} {nw : Bool} (c : Nat) (hc : I 85 13 = nI c) (hl : c + 3 ≤ 16) : zP l mX9_leave [.ref 85, .long 242120] (hh I J nw) (zR none (zleft I c [24, 21, 20], J, RF nw, SH)) := by
  refine z_start [.ref 85, .long 242120, zno, zno, zno, zno, zno] (by decide +kernel) (Nat.le_of_ble_eq_true rfl) rfl ?_
  refine z_lconst (pc := 0) 1 dX9_leave_0 rfl ?_
  refine z_lstore_3 (pc := 1) dX9_leave_1 (by decide) rfl ?_
  refine leave_up 100 (by decide) (by decide) ?_
  refine leave_up 10000 (by decide) (by decide) ?_
  refine leave_out 1000000 (by decide) (by decide) ?_
  refine leave_step (c) hc (by omega) (by decide) 100 2120 24 (by decide) (by decide) (by decide) ?_
  refine leave_step (c + 1) zup_on (by omega) (by decide) 1 20 21 (by decide) (by decide) (by decide) ?_
  refine leave_step (c + 1 + 1) zup_on (by omega) (by decide) 0 0 20 (by decide) (by decide) (by decide) ?_
  exact leave_end ⟨rfl, rfl⟩
set_option maxRecDepth 100000 in
set_option maxHeartbeats 4000000 in
theorem qX9_leave_222120 {l : zL} {I : Nat → Nat → Int32} {J : Nat → Nat → Int64} {nw : Bool} (c : Nat) (hc : I 85 13 = nI c) (hl : c + 3 ≤ 16) : zP l mX9_leave [.ref 85, .long 222120] (hh I J nw) (zR none (zleft I c [22, 21, 20], J, RF nw, SH)) := by
  refine z_start [.ref 85, .long 222120, zno, zno, zno, zno, zno] (by decide +kernel) (Nat.le_of_ble_eq_true rfl) rfl ?_
  refine z_lconst (pc := 0) 1 dX9_leave_0 rfl ?_
  refine z_lstore_3 (pc := 1) dX9_leave_1 (by decide) rfl ?_
  refine leave_up 100 (by decide) (by decide) ?_
  refine leave_up 10000 (by decide) (by decide) ?_
  refine leave_out 1000000 (by decide) (by decide) ?_
  refine leave_step (c) hc (by omega) (by decide) 100 2120 22 (by decide) (by decide) (by decide) ?_
  refine leave_step (c + 1) zup_on (by omega) (by decide) 1 20 21 (by decide) (by decide) (by decide) ?_
  refine leave_step (c + 1 + 1) zup_on (by omega) (by decide) 0 0 20 (by decide) (by decide) (by decide) ?_
  exact leave_end ⟨rfl, rfl⟩
set_option maxRecDepth 100000 in
set_option maxHeartbeats 4000000 in
theorem qX9_leave_2120 {l : zL} {I : Nat → Nat → Int32} {J : Nat → Nat → Int64} {nw : Bool} (c : Nat) (hc : I 85 13 = nI c) (hl : c + 2 ≤ 16) : zP l mX9_leave [.ref 85, .long 2120] (hh I J nw) (zR none (zleft I c [21, 20], J, RF nw, SH)) := by
  refine z_start [.ref 85, .long 2120, zno, zno, zno, zno, zno] (by decide +kernel) (Nat.le_of_ble_eq_true rfl) rfl ?_
  refine z_lconst (pc := 0) 1 dX9_leave_0 rfl ?_
  refine z_lstore_3 (pc := 1) dX9_leave_1 (by decide) rfl ?_
  refine leave_up 100 (by decide) (by decide) ?_
  refine leave_out 10000 (by decide) (by decide) ?_
  refine leave_step (c) hc (by omega) (by decide) 1 20 21 (by decide) (by decide) (by decide) ?_
  refine leave_step (c + 1) zup_on (by omega) (by decide) 0 0 20 (by decide) (by decide) (by decide) ?_
  exact leave_end ⟨rfl, rfl⟩
set_option maxRecDepth 100000 in
set_option maxHeartbeats 4000000 in
theorem qX9_leave_141310 {l : zL} {I : Nat → Nat → Int32} {J : Nat → Nat → Int64} {nw : Bool} (c : Nat) (hc : I 85 13 = nI c) (hl : c + 3 ≤ 16) : zP l mX9_leave [.ref 85, .long 141310] (hh I J nw) (zR none (zleft I c [14, 13, 10], J, RF nw, SH)) := by
  refine z_start [.ref 85, .long 141310, zno, zno, zno, zno, zno] (by decide +kernel) (Nat.le_of_ble_eq_true rfl) rfl ?_
  refine z_lconst (pc := 0) 1 dX9_leave_0 rfl ?_
  refine z_lstore_3 (pc := 1) dX9_leave_1 (by decide) rfl ?_
  refine leave_up 100 (by decide) (by decide) ?_
  refine leave_up 10000 (by decide) (by decide) ?_
  refine leave_out 1000000 (by decide) (by decide) ?_
  refine leave_step (c) hc (by omega) (by decide) 100 1310 14 (by decide) (by decide) (by decide) ?_
  refine leave_step (c + 1) zup_on (by omega) (by decide) 1 10 13 (by decide) (by decide) (by decide) ?_
  refine leave_step (c + 1 + 1) zup_on (by omega) (by decide) 0 0 10 (by decide) (by decide) (by decide) ?_
  exact leave_end ⟨rfl, rfl⟩
set_option maxRecDepth 100000 in
set_option maxHeartbeats 4000000 in
theorem qX9_leave_1310 {l : zL} {I : Nat → Nat → Int32} {J : Nat → Nat → Int64} {nw : Bool} (c : Nat) (hc : I 85 13 = nI c) (hl : c + 2 ≤ 16) : zP l mX9_leave [.ref 85, .long 1310] (hh I J nw) (zR none (zleft I c [13, 10], J, RF nw, SH)) := by
  refine z_start [.ref 85, .long 1310, zno, zno, zno, zno, zno] (by decide +kernel) (Nat.le_of_ble_eq_true rfl) rfl ?_
  refine z_lconst (pc := 0) 1 dX9_leave_0 rfl ?_
  refine z_lstore_3 (pc := 1) dX9_leave_1 (by decide) rfl ?_
  refine leave_up 100 (by decide) (by decide) ?_
  refine leave_out 10000 (by decide) (by decide) ?_
  refine leave_step (c) hc (by omega) (by decide) 1 10 13 (by decide) (by decide) (by decide) ?_
  refine leave_step (c + 1) zup_on (by omega) (by decide) 0 0 10 (by decide) (by decide) (by decide) ?_
  exact leave_end ⟨rfl, rfl⟩
set_option maxRecDepth 100000 in
set_option maxHeartbeats 4000000 in
theorem qX9_leave_121110 {l : zL} {I : Nat → Nat → Int32} {J : Nat → Nat → Int64} {nw : Bool} (c : Nat) (hc : I 85 13 = nI c) (hl : c + 3 ≤ 16) : zP l mX9_leave [.ref 85, .long 121110] (hh I J nw) (zR none (zleft I c [12, 11, 10], J, RF nw, SH)) := by
  refine z_start [.ref 85, .long 121110, zno, zno, zno, zno, zno] (by decide +kernel) (Nat.le_of_ble_eq_true rfl) rfl ?_
  refine z_lconst (pc := 0) 1 dX9_leave_0 rfl ?_
  refine z_lstore_3 (pc := 1) dX9_leave_1 (by decide) rfl ?_
  refine leave_up 100 (by decide) (by decide) ?_
  refine leave_up 10000 (by decide) (by decide) ?_
  refine leave_out 1000000 (by decide) (by decide) ?_
  refine leave_step (c) hc (by omega) (by decide) 100 1110 12 (by decide) (by decide) (by decide) ?_
  refine leave_step (c + 1) zup_on (by omega) (by decide) 1 10 11 (by decide) (by decide) (by decide) ?_
  refine leave_step (c + 1 + 1) zup_on (by omega) (by decide) 0 0 10 (by decide) (by decide) (by decide) ?_
  exact leave_end ⟨rfl, rfl⟩
set_option maxRecDepth 100000 in
set_option maxHeartbeats 4000000 in
theorem qX9_mark {l : zL} {I : Nat → Nat → Int32} {J : Nat → Nat → Int64} {nw : Bool} {x : Int32} (d : Nat) (hx : x = nI d) (hd : d < 6) (c : Nat) (hc : I 85 13 = nI c) (hl : c + 3 ≤ 16) : zP l mX9_mark [.ref 85, .int x] (hh I J nw) (zR (some (.int (if I 90 (6 + d) = 2 then 2 * (x + I 90 (18 + d)) else if I 90 (6 + d) = 3 then (x + I 90 (18 + d)) - 1000 else (x + I 90 (18 + d))))) (zleft I c (if I 90 (6 + d) = 2 then [24, 21, 20] else if I 90 (6 + d) = 3 then [22, 21, 20] else [21, 20]), J, RF nw, SH)) := by
  refine z_start [.ref 85, .int x, zno, zno] (by decide +kernel) (Nat.le_of_ble_eq_true rfl) rfl ?_
  refine z_aload_0 (pc := 0) dX9_mark_0 ?_
  refine y_getR (pc := 1) dX9_mark_1 flX9_22 rfl (by first | rfl | assumption) (by first | rfl | assumption) ?_
  refine z_bipush (pc := 4) (6) dX9_mark_4 rfl ?_
  refine z_iload_1 (pc := 6) dX9_mark_6 ?_
  refine z_iadd (pc := 7) dX9_mark_7 ?_
  refine y_ialdN (pc := 8) (6 + d) dX9_mark_8 (by first | rfl | assumption) (by rw [hx]; exact nI_add 6 d) (by omega) (by first | decide | omega) ?_
  refine z_istore_2 (pc := 9) dX9_mark_9 (by decide) rfl ?_
  refine z_iload_1 (pc := 10) dX9_mark_10 ?_
  refine z_aload_0 (pc := 11) dX9_mark_11 ?_
  refine y_getR (pc := 12) dX9_mark_12 flX9_22 rfl (by first | rfl | assumption) (by first | rfl | assumption) ?_
  refine z_bipush (pc := 15) (18) dX9_mark_15 rfl ?_
  refine z_iload_1 (pc := 17) dX9_mark_17 ?_
  refine z_iadd (pc := 18) dX9_mark_18 ?_
  refine y_ialdN (pc := 19) (18 + d) dX9_mark_19 (by first | rfl | assumption) (by rw [hx]; exact nI_add 18 d) (by omega) (by first | decide | omega) ?_
  refine z_iadd (pc := 20) dX9_mark_20 ?_
  refine z_istore_3 (pc := 21) dX9_mark_21 (by decide) rfl ?_
  refine z_aload_0 (pc := 22) dX9_mark_22 ?_
  refine z_iload_2 (pc := 23) dX9_mark_23 ?_
  refine z_iconst (pc := 24) (2) dX9_mark_24 rfl ?_
  refine z_icmp_ne (pc := 25) (tgt := 34) dX9_mark_25 (by decide) (fun c25 => ?_) (fun c25 => ?_)
  · skip
    refine z_iload_2 (pc := 34) dX9_mark_34 ?_
    refine z_iconst (pc := 35) (3) dX9_mark_35 rfl ?_
    refine z_icmp_ne (pc := 36) (tgt := 45) dX9_mark_36 (by decide) (fun c36 => ?_) (fun c36 => ?_)
    · skip
      refine z_ldc2 (pc := 45) dX9_mark_45 kcX9_286 ?_
      refine z_V1 (pc := 48) dX9_mark_48 mlX9_288 kX9_leave vX9_leave (by decide) (by decide) (by first | rfl | assumption) (Nat.le_of_ble_eq_true rfl) (qX9_leave_2120 c hc (by omega)) ⟨Nat.le_refl _, Nat.le_refl _⟩ (fun r h1 hq => ?_)
      obtain ⟨rfl, rfl⟩ := hq
      refine z_iload_2 (pc := 51) dX9_mark_51 ?_
      refine z_iconst (pc := 52) (2) dX9_mark_52 rfl ?_
      refine z_icmp_ne (pc := 53) (tgt := 62) dX9_mark_53 (by decide) (fun c53 => ?_) (fun c53 => ?_)
      · skip
        refine z_iload_2 (pc := 62) dX9_mark_62 ?_
        refine z_iconst (pc := 63) (3) dX9_mark_63 rfl ?_
        refine z_icmp_ne (pc := 64) (tgt := 75) dX9_mark_64 (by decide) (fun c64 => ?_) (fun c64 => ?_)
        · skip
          refine z_iload_3 (pc := 75) dX9_mark_75 ?_
          refine z_ret (pc := 76) (r := some (.int _)) rfl dX9_mark_76 trivial rfl rfl ?_
          exact ⟨by simp [*], by simp [*]⟩
        · exact absurd c64 c36
      · exact absurd c53 c25
    · skip
      refine z_ldc2 (pc := 39) dX9_mark_39 kcX9_284 ?_
      refine z_goto (pc := 42) (tgt := 48) dX9_mark_42 (by decide) ?_
      refine z_V1 (pc := 48) dX9_mark_48 mlX9_288 kX9_leave vX9_leave (by decide) (by decide) (by first | rfl | assumption) (Nat.le_of_ble_eq_true rfl) (qX9_leave_222120 c hc (by omega)) ⟨Nat.le_refl _, Nat.le_refl _⟩ (fun r h1 hq => ?_)
      obtain ⟨rfl, rfl⟩ := hq
      refine z_iload_2 (pc := 51) dX9_mark_51 ?_
      refine z_iconst (pc := 52) (2) dX9_mark_52 rfl ?_
      refine z_icmp_ne (pc := 53) (tgt := 62) dX9_mark_53 (by decide) (fun c53 => ?_) (fun c53 => ?_)
      · skip
        refine z_iload_2 (pc := 62) dX9_mark_62 ?_
        refine z_iconst (pc := 63) (3) dX9_mark_63 rfl ?_
        refine z_icmp_ne (pc := 64) (tgt := 75) dX9_mark_64 (by decide) (fun c64 => ?_) (fun c64 => ?_)
        · exact absurd c36 c64
        · skip
          refine z_iload_3 (pc := 67) dX9_mark_67 ?_
          refine z_sipush (pc := 68) (1000) dX9_mark_68 rfl ?_
          refine z_isub (pc := 71) dX9_mark_71 ?_
          refine z_goto (pc := 72) (tgt := 76) dX9_mark_72 (by decide) ?_
          refine z_ret (pc := 76) (r := some (.int _)) rfl dX9_mark_76 trivial rfl rfl ?_
          exact ⟨by simp [*], by simp [*]⟩
      · exact absurd c53 c25
  · skip
    refine z_ldc2 (pc := 28) dX9_mark_28 kcX9_282 ?_
    refine z_goto (pc := 31) (tgt := 48) dX9_mark_31 (by decide) ?_
    refine z_V1 (pc := 48) dX9_mark_48 mlX9_288 kX9_leave vX9_leave (by decide) (by decide) (by first | rfl | assumption) (Nat.le_of_ble_eq_true rfl) (qX9_leave_242120 c hc (by omega)) ⟨Nat.le_refl _, Nat.le_refl _⟩ (fun r h1 hq => ?_)
    obtain ⟨rfl, rfl⟩ := hq
    refine z_iload_2 (pc := 51) dX9_mark_51 ?_
    refine z_iconst (pc := 52) (2) dX9_mark_52 rfl ?_
    refine z_icmp_ne (pc := 53) (tgt := 62) dX9_mark_53 (by decide) (fun c53 => ?_) (fun c53 => ?_)
    · exact absurd c25 c53
    · skip
      refine z_iconst (pc := 56) (2) dX9_mark_56 rfl ?_
      refine z_iload_3 (pc := 57) dX9_mark_57 ?_
      refine z_imul (pc := 58) dX9_mark_58 ?_
      refine z_goto (pc := 59) (tgt := 76) dX9_mark_59 (by decide) ?_
      refine z_ret (pc := 76) (r := some (.int _)) rfl dX9_mark_76 trivial rfl rfl ?_
      exact ⟨by simp [*], by simp [*]⟩
set_option maxRecDepth 100000 in
set_option maxHeartbeats 4000000 in
theorem qX9_sizeOf {l : zL} {I : Nat → Nat → Int32} {J : Nat → Nat → Int64} {nw : Bool} {x : Int32} (d : Nat) (hx : x = nI d) (hd : d < 6) (c : Nat) (hc : I 85 13 = nI c) (hl : c + 3 ≤ 16) : zP l mX9_sizeOf [.ref 85, .int x] (hh I J nw) (zR (some (.int (if I 90 (6 + d) = 5 then 2 * (I 90 (12 + d) - 100) else (I 90 (12 + d) - 100)))) (zleft I c (if I 90 (6 + d) = 5 then [14, 13, 10] else [13, 10]), J, RF nw, SH)) := by
  refine z_start [.ref 85, .int x, zno, zno] (by decide +kernel) (Nat.le_of_ble_eq_true rfl) rfl ?_
  refine z_aload_0 (pc := 0) dX9_sizeOf_0 ?_
  refine y_getR (pc := 1) dX9_sizeOf_1 flX9_22 rfl (by first | rfl | assumption) (by first | rfl | assumption) ?_
  refine z_bipush (pc := 4) (12) dX9_sizeOf_4 rfl ?_
  refine z_iload_1 (pc := 6) dX9_sizeOf_6 ?_
  refine z_iadd (pc := 7) dX9_sizeOf_7 ?_
  refine y_ialdN (pc := 8) (12 + d) dX9_sizeOf_8 (by first | rfl | assumption) (by rw [hx]; exact nI_add 12 d) (by omega) (by first | decide | omega) ?_
  refine z_bipush (pc := 9) (100) dX9_sizeOf_9 rfl ?_
  refine z_isub (pc := 11) dX9_sizeOf_11 ?_
  refine z_istore_2 (pc := 12) dX9_sizeOf_12 (by decide) rfl ?_
  refine z_aload_0 (pc := 13) dX9_sizeOf_13 ?_
  refine y_getR (pc := 14) dX9_sizeOf_14 flX9_22 rfl (by first | rfl | assumption) (by first | rfl | assumption) ?_
  refine z_bipush (pc := 17) (6) dX9_sizeOf_17 rfl ?_
  refine z_iload_1 (pc := 19) dX9_sizeOf_19 ?_
  refine z_iadd (pc := 20) dX9_sizeOf_20 ?_
  refine y_ialdN (pc := 21) (6 + d) dX9_sizeOf_21 (by first | rfl | assumption) (by rw [hx]; exact nI_add 6 d) (by omega) (by first | decide | omega) ?_
  refine z_iconst (pc := 22) (5) dX9_sizeOf_22 rfl ?_
  refine z_icmp_ne (pc := 23) (tgt := 30) dX9_sizeOf_23 (by decide) (fun c23 => ?_) (fun c23 => ?_)
  · skip
    refine z_iconst (pc := 30) (0) dX9_sizeOf_30 rfl ?_
    refine z_istore_3 (pc := 31) dX9_sizeOf_31 (by decide) rfl ?_
    refine z_aload_0 (pc := 32) dX9_sizeOf_32 ?_
    refine z_iload_3 (pc := 33) dX9_sizeOf_33 ?_
    refine z_if_eq (pc := 34) (tgt := 43) dX9_sizeOf_34 (by decide) (fun c34 => ?_) (fun c34 => ?_)
    · skip
      refine z_ldc2 (pc := 43) dX9_sizeOf_43 kcX9_294 ?_
      refine z_V1 (pc := 46) dX9_sizeOf_46 mlX9_288 kX9_leave vX9_leave (by decide) (by decide) (by first | rfl | assumption) (Nat.le_of_ble_eq_true rfl) (qX9_leave_1310 c hc (by omega)) ⟨Nat.le_refl _, Nat.le_refl _⟩ (fun r h1 hq => ?_)
      obtain ⟨rfl, rfl⟩ := hq
      refine z_iload_3 (pc := 49) dX9_sizeOf_49 ?_
      refine z_if_eq (pc := 50) (tgt := 59) dX9_sizeOf_50 (by decide) (fun c50 => ?_) (fun c50 => ?_)
      · skip
        refine z_iload_2 (pc := 59) dX9_sizeOf_59 ?_
        refine z_ret (pc := 60) (r := some (.int _)) rfl dX9_sizeOf_60 trivial rfl rfl ?_
        exact ⟨by simp [*], by simp [*]⟩
      · exact absurd rfl c50
    · exact absurd rfl c34
  · skip
    refine z_iconst (pc := 26) (1) dX9_sizeOf_26 rfl ?_
    refine z_goto (pc := 27) (tgt := 31) dX9_sizeOf_27 (by decide) ?_
    refine z_istore_3 (pc := 31) dX9_sizeOf_31 (by decide) rfl ?_
    refine z_aload_0 (pc := 32) dX9_sizeOf_32 ?_
    refine z_iload_3 (pc := 33) dX9_sizeOf_33 ?_
    refine z_if_eq (pc := 34) (tgt := 43) dX9_sizeOf_34 (by decide) (fun c34 => ?_) (fun c34 => ?_)
    · exact absurd c34 (by decide)
    · skip
      refine z_ldc2 (pc := 37) dX9_sizeOf_37 kcX9_292 ?_
      refine z_goto (pc := 40) (tgt := 46) dX9_sizeOf_40 (by decide) ?_
      refine z_V1 (pc := 46) dX9_sizeOf_46 mlX9_288 kX9_leave vX9_leave (by decide) (by decide) (by first | rfl | assumption) (Nat.le_of_ble_eq_true rfl) (qX9_leave_141310 c hc (by omega)) ⟨Nat.le_refl _, Nat.le_refl _⟩ (fun r h1 hq => ?_)
      obtain ⟨rfl, rfl⟩ := hq
      refine z_iload_3 (pc := 49) dX9_sizeOf_49 ?_
      refine z_if_eq (pc := 50) (tgt := 59) dX9_sizeOf_50 (by decide) (fun c50 => ?_) (fun c50 => ?_)
      · exact absurd c50 (by decide)
      · skip
        refine z_iconst (pc := 53) (2) dX9_sizeOf_53 rfl ?_
        refine z_iload_2 (pc := 54) dX9_sizeOf_54 ?_
        refine z_imul (pc := 55) dX9_sizeOf_55 ?_
        refine z_goto (pc := 56) (tgt := 60) dX9_sizeOf_56 (by decide) ?_
        refine z_ret (pc := 60) (r := some (.int _)) rfl dX9_sizeOf_60 trivial rfl rfl ?_
        exact ⟨by simp [*], by simp [*]⟩
