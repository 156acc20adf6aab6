set_option maxRecDepth 100000 in
set_option maxHeartbeats 4000000 in
theorem qX9_leave_1110 {l : zL} {I : Nat → Nat → Int32} {J : Nat → Nat → Int64} {nw : Bool} (c : Nat) (hc : I 85 13 = nI c) (hl : c + 2 ≤ 16) : zP l mX9_leave [.ref 85, .long 1110] (hh I J nw) (zR none (zleft I c [11, 10], J, RF nw, SH)) := by
  refine z_start [.ref 85, .long 1110, zno, zno, zno, zno, zno] (by decide +kernel) (Nat.le_of_ble_eq_true rfl) rfl ?_
  refine z_lconst (pc := 0) 1 dX9_leave_0 rfl ?_
  refine z_lstore_3 (pc := 1) dX9_leave_1 (by decide) rfl ?_
  refine leave_up 100 (by decide) (by decide) ?_
  refine leave_out 10000 (by decide) (by decide) ?_
  refine leave_step (c) hc (by omega) (by decide) 1 10 11 (by decide) (by decide) (by decide) ?_
  refine leave_step (c + 1) zup_on (by omega) (by decide) 0 0 10 (by decide) (by decide) (by decide) ?_
  exact leave_end ⟨rfl, rfl⟩
set_option maxRecDepth 100000 in
set_option maxHeartbeats 4000000 in
theorem qX9_leave_2320 {l : zL} {I : Nat → Nat → Int32} {J : Nat → Nat → Int64} {nw : Bool} (c : Nat) (hc : I 85 13 = nI c) (hl : c + 2 ≤ 16) : zP l mX9_leave [.ref 85, .long 2320] (hh I J nw) (zR none (zleft I c [23, 20], J, RF nw, SH)) := by
  refine z_start [.ref 85, .long 2320, zno, zno, zno, zno, zno] (by decide +kernel) (Nat.le_of_ble_eq_true rfl) rfl ?_
  refine z_lconst (pc := 0) 1 dX9_leave_0 rfl ?_
  refine z_lstore_3 (pc := 1) dX9_leave_1 (by decide) rfl ?_
  refine leave_up 100 (by decide) (by decide) ?_
  refine leave_out 10000 (by decide) (by decide) ?_
  refine leave_step (c) hc (by omega) (by decide) 1 20 23 (by decide) (by decide) (by decide) ?_
  refine leave_step (c + 1) zup_on (by omega) (by decide) 0 0 20 (by decide) (by decide) (by decide) ?_
  exact leave_end ⟨rfl, rfl⟩
theorem zleft_90 : ∀ (ws : List Int32) (I : Nat → Nat → Int32) (c j : Nat), zleft I c ws 90 j = I 90 j
  | [], _, _, _ => rfl
  | w :: ws, I, c, j => by rw [zleft, zleft_90 ws, zup_no (Or.inl (by decide)), zup_no (Or.inl (by decide))]
def zav (k w d db dl : Int32) : Int32 := if k = 1 ∧ w = 0 then (db + (d + dl)) else if k = 1 ∧ w = 1 then (d + dl) else if k = 2 ∧ w = 0 then (-(db + 2 * (d + dl))) else if k = 2 ∧ w = 1 then (2 * (d + dl)) else if k = 3 ∧ w = 0 then (db + ((d + dl) - 1000)) else if k = 3 ∧ w = 1 then ((d + dl) - 1000) else if k = 4 ∧ w = 0 then (db - 100) else if k = 4 ∧ w = 1 then (d - (db - 100)) else if k = 5 ∧ w = 0 then (2 * (db - 100)) else if k = 5 ∧ w = 1 then (d - 2 * (db - 100)) else 0
def zat (k w : Int32) : List Int32 := if k = 1 ∧ w = 0 then [11, 10, 21, 20] else if k = 1 ∧ w = 1 then [21, 20] else if k = 2 ∧ w = 0 then [12, 11, 10, 24, 21, 20] else if k = 2 ∧ w = 1 then [24, 21, 20] else if k = 3 ∧ w = 0 then [11, 10, 22, 21, 20] else if k = 3 ∧ w = 1 then [22, 21, 20] else if k = 4 ∧ w = 0 then [13, 10] else if k = 4 ∧ w = 1 then [23, 20, 13, 10] else if k = 5 ∧ w = 0 then [14, 13, 10] else if k = 5 ∧ w = 1 then [23, 20, 14, 13, 10] else []
def mAsk (I : Nat → Nat → Int32) (n : Nat) (x w : Int32) : Int32 × (Nat → Nat → Int32) := if zlt x n = true ∧ zlt w 2 = true then (zav (I 90 (6 + x.toNatClampNeg)) w x (I 90 (12 + x.toNatClampNeg)) (I 90 (18 + x.toNatClampNeg)), zleft (zup I 85 13 0) 0 (zat (I 90 (6 + x.toNatClampNeg)) w)) else (-1000001, I)
set_option maxRecDepth 100000 in
set_option maxHeartbeats 4000000 in
theorem qX9_ask_1_0 {l : zL} {I : Nat → Nat → Int32} {J : Nat → Nat → Int64} {nw : Bool} (n : Nat) (hn : n ≤ 6) (en : I 90 3 = nI n) (d : Nat) (hd : d < n) (ek : I 90 (6 + d) = 1) : zP l mX9_ask [.ref 85, .int (nI d), .int 0] (hh I J nw) (zPM (mAsk I n (nI d) 0) J nw) := by
  have hcl : (nI d).toNatClampNeg = d := nI_clamp (by omega)
  have h90 : ∀ j, zup I 85 13 0 90 j = I 90 j := fun j => zup_no (Or.inl (by decide))
  refine z_start [.ref 85, .int (nI d), .int 0, zno, zno] (by decide +kernel) (Nat.le_of_ble_eq_true rfl) rfl ?_
  refine z_aload_0 (pc := 0) dX9_ask_0 ?_
  refine z_iload_1 (pc := 1) dX9_ask_1 ?_
  refine z_V1 (pc := 2) dX9_ask_2 mlX9_199 kX9_isDrinker vX9_isDrinker (by decide) (by decide) (by first | rfl | assumption) (Nat.le_of_ble_eq_true rfl) (qX9_isDrinker n hn en) ⟨Nat.le_refl _, Nat.le_refl _⟩ (fun r h1 hq => ?_)
  obtain ⟨rfl, rfl⟩ := hq
  refine z_if_eq (pc := 5) (tgt := 18) dX9_ask_5 (by decide) (fun c5 => ?_) (fun c5 => ?_)
  · rw [zlt_of hd (by omega)] at c5; exact absurd c5 (by decide)
  · skip
    refine z_iload_2 (pc := 8) dX9_ask_8 ?_
    refine z_i2l (pc := 9) dX9_ask_9 ?_
    refine z_lconst (pc := 10) 0 dX9_ask_10 rfl ?_
    refine z_lconst (pc := 11) 1 dX9_ask_11 rfl ?_
    refine z_S3 (pc := 12) dX9_ask_12 mlX9_60 kX9_in vX9_in (by decide) (by decide) (Nat.le_of_ble_eq_true rfl) (qX9_in) ⟨Nat.le_refl _, Nat.le_refl _⟩ (fun r h1 hq => ?_)
    obtain ⟨rfl, rfl⟩ := hq
    refine z_if_ne (pc := 15) (tgt := 21) dX9_ask_15 (by decide) (fun c15 => ?_) (fun c15 => ?_)
    · skip
      refine z_aload_0 (pc := 21) dX9_ask_21 ?_
      refine z_iconst (pc := 22) (0) dX9_ask_22 rfl ?_
      refine y_putI (pc := 23) dX9_ask_23 flX9_279 ffX9_279 rfl (by first | rfl | assumption) ⟨rfl, rfl⟩ ?_
      refine z_aload_0 (pc := 26) dX9_ask_26 ?_
      refine y_getR (pc := 27) dX9_ask_27 flX9_22 rfl (by first | rfl | assumption) (by first | rfl | assumption) ?_
      refine z_bipush (pc := 30) (6) dX9_ask_30 rfl ?_
      refine z_iload_1 (pc := 32) dX9_ask_32 ?_
      refine z_iadd (pc := 33) dX9_ask_33 ?_
      refine y_ialdN (pc := 34) (6 + d) dX9_ask_34 (by first | rfl | assumption) (nI_add 6 d) (by omega) (by first | decide | omega) ?_
      rw [h90, ek]
      refine z_istore_3 (pc := 35) dX9_ask_35 (by decide) rfl ?_
      refine z_iload_3 (pc := 36) dX9_ask_36 ?_
      refine z_iconst (pc := 37) (4) dX9_ask_37 rfl ?_
      refine z_icmp_ge (pc := 38) (tgt := 101) dX9_ask_38 (by decide) (fun c38 => ?_) (fun c38 => ?_)
      · exact absurd c38 (by decide)
      · skip
        refine z_iload_2 (pc := 41) dX9_ask_41 ?_
        refine z_iconst (pc := 42) (1) dX9_ask_42 rfl ?_
        refine z_icmp_ne (pc := 43) (tgt := 52) dX9_ask_43 (by decide) (fun c43 => ?_) (fun c43 => ?_)
        · skip
          refine z_aload_0 (pc := 52) dX9_ask_52 ?_
          refine z_iload_3 (pc := 53) dX9_ask_53 ?_
          refine z_iconst (pc := 54) (2) dX9_ask_54 rfl ?_
          refine z_icmp_ne (pc := 55) (tgt := 64) dX9_ask_55 (by decide) (fun c55 => ?_) (fun c55 => ?_)
          · skip
            refine z_ldc2 (pc := 64) dX9_ask_64 kcX9_301 ?_
            refine z_V1 (pc := 67) dX9_ask_67 mlX9_288 kX9_leave vX9_leave (by decide) (by decide) (by first | rfl | assumption) (Nat.le_of_ble_eq_true rfl) (qX9_leave_1110 0 zup_on (by omega)) ⟨Nat.le_refl _, Nat.le_refl _⟩ (fun r h1 hq => ?_)
            obtain ⟨rfl, rfl⟩ := hq
            refine z_aload_0 (pc := 70) dX9_ask_70 ?_
            refine y_getR (pc := 71) dX9_ask_71 flX9_22 rfl (by first | rfl | assumption) (by first | rfl | assumption) ?_
            refine z_bipush (pc := 74) (12) dX9_ask_74 rfl ?_
            refine z_iload_1 (pc := 76) dX9_ask_76 ?_
            refine z_iadd (pc := 77) dX9_ask_77 ?_
            refine y_ialdN (pc := 78) (12 + d) dX9_ask_78 (by first | rfl | assumption) (nI_add 12 d) (by omega) (by first | decide | omega) ?_
            refine z_aload_0 (pc := 79) dX9_ask_79 ?_
            refine z_iload_1 (pc := 80) dX9_ask_80 ?_
            refine z_V1 (pc := 81) dX9_ask_81 mlX9_296 kX9_mark vX9_mark (by decide) (by decide) (by first | rfl | assumption) (Nat.le_of_ble_eq_true rfl) (qX9_mark d rfl (by omega) 2 rfl (by omega)) ⟨Nat.le_refl _, Nat.le_refl _⟩ (fun r h1 hq => ?_)
            obtain ⟨rfl, rfl⟩ := hq
            refine z_iadd (pc := 84) dX9_ask_84 ?_
            refine z_istore_4 (pc := 85) dX9_ask_85 (by decide) rfl ?_
            refine z_iload_3 (pc := 87) dX9_ask_87 ?_
            refine z_iconst (pc := 88) (2) dX9_ask_88 rfl ?_
            refine z_icmp_ne (pc := 89) (tgt := 98) dX9_ask_89 (by decide) (fun c89 => ?_) (fun c89 => ?_)
            · skip
              refine z_iload_4 (pc := 98) dX9_ask_98 ?_
              refine z_ret (pc := 100) (r := some (.int _)) rfl dX9_ask_100 trivial rfl rfl ?_
              refine zPM_of ?_
              unfold mAsk
              rw [if_pos ⟨zlt_of hd (by omega), by decide⟩, hcl, ek]
              simp only [zleft_90, h90, ek]
              rfl
            · exact absurd c89 (by decide)
          · exact absurd c55 (by decide)
        · exact absurd c43 (by decide)
    · exact absurd c15 (by decide)
set_option maxRecDepth 100000 in
set_option maxHeartbeats 4000000 in
theorem qX9_ask_1_1 {l : zL} {I : Nat → Nat → Int32} {J : Nat → Nat → Int64} {nw : Bool} (n : Nat) (hn : n ≤ 6) (en : I 90 3 = nI n) (d : Nat) (hd : d < n) (ek : I 90 (6 + d) = 1) : zP l mX9_ask [.ref 85, .int (nI d), .int 1] (hh I J nw) (zPM (mAsk I n (nI d) 1) J nw) := by
  have hcl : (nI d).toNatClampNeg = d := nI_clamp (by omega)
  have h90 : ∀ j, zup I 85 13 0 90 j = I 90 j := fun j => zup_no (Or.inl (by decide))
  refine z_start [.ref 85, .int (nI d), .int 1, zno, zno] (by decide +kernel) (Nat.le_of_ble_eq_true rfl) rfl ?_
  refine z_aload_0 (pc := 0) dX9_ask_0 ?_
  refine z_iload_1 (pc := 1) dX9_ask_1 ?_
  refine z_V1 (pc := 2) dX9_ask_2 mlX9_199 kX9_isDrinker vX9_isDrinker (by decide) (by decide) (by first | rfl | assumption) (Nat.le_of_ble_eq_true rfl) (qX9_isDrinker n hn en) ⟨Nat.le_refl _, Nat.le_refl _⟩ (fun r h1 hq => ?_)
  obtain ⟨rfl, rfl⟩ := hq
  refine z_if_eq (pc := 5) (tgt := 18) dX9_ask_5 (by decide) (fun c5 => ?_) (fun c5 => ?_)
  · rw [zlt_of hd (by omega)] at c5; exact absurd c5 (by decide)
  · skip
    refine z_iload_2 (pc := 8) dX9_ask_8 ?_
    refine z_i2l (pc := 9) dX9_ask_9 ?_
    refine z_lconst (pc := 10) 0 dX9_ask_10 rfl ?_
    refine z_lconst (pc := 11) 1 dX9_ask_11 rfl ?_
    refine z_S3 (pc := 12) dX9_ask_12 mlX9_60 kX9_in vX9_in (by decide) (by decide) (Nat.le_of_ble_eq_true rfl) (qX9_in) ⟨Nat.le_refl _, Nat.le_refl _⟩ (fun r h1 hq => ?_)
    obtain ⟨rfl, rfl⟩ := hq
    refine z_if_ne (pc := 15) (tgt := 21) dX9_ask_15 (by decide) (fun c15 => ?_) (fun c15 => ?_)
    · skip
      refine z_aload_0 (pc := 21) dX9_ask_21 ?_
      refine z_iconst (pc := 22) (0) dX9_ask_22 rfl ?_
      refine y_putI (pc := 23) dX9_ask_23 flX9_279 ffX9_279 rfl (by first | rfl | assumption) ⟨rfl, rfl⟩ ?_
      refine z_aload_0 (pc := 26) dX9_ask_26 ?_
      refine y_getR (pc := 27) dX9_ask_27 flX9_22 rfl (by first | rfl | assumption) (by first | rfl | assumption) ?_
      refine z_bipush (pc := 30) (6) dX9_ask_30 rfl ?_
      refine z_iload_1 (pc := 32) dX9_ask_32 ?_
      refine z_iadd (pc := 33) dX9_ask_33 ?_
      refine y_ialdN (pc := 34) (6 + d) dX9_ask_34 (by first | rfl | assumption) (nI_add 6 d) (by omega) (by first | decide | omega) ?_
      rw [h90, ek]
      refine z_istore_3 (pc := 35) dX9_ask_35 (by decide) rfl ?_
      refine z_iload_3 (pc := 36) dX9_ask_36 ?_
      refine z_iconst (pc := 37) (4) dX9_ask_37 rfl ?_
      refine z_icmp_ge (pc := 38) (tgt := 101) dX9_ask_38 (by decide) (fun c38 => ?_) (fun c38 => ?_)
      · exact absurd c38 (by decide)
      · skip
        refine z_iload_2 (pc := 41) dX9_ask_41 ?_
        refine z_iconst (pc := 42) (1) dX9_ask_42 rfl ?_
        refine z_icmp_ne (pc := 43) (tgt := 52) dX9_ask_43 (by decide) (fun c43 => ?_) (fun c43 => ?_)
        · exact absurd c43 (by decide)
        · skip
          refine z_aload_0 (pc := 46) dX9_ask_46 ?_
          refine z_iload_1 (pc := 47) dX9_ask_47 ?_
          refine z_V1 (pc := 48) dX9_ask_48 mlX9_296 kX9_mark vX9_mark (by decide) (by decide) (by first | rfl | assumption) (Nat.le_of_ble_eq_true rfl) (qX9_mark d rfl (by omega) 0 zup_on (by omega)) ⟨Nat.le_refl _, Nat.le_refl _⟩ (fun r h1 hq => ?_)
          obtain ⟨rfl, rfl⟩ := hq
          refine z_ret (pc := 51) (r := some (.int _)) rfl dX9_ask_51 trivial rfl rfl ?_
          refine zPM_of ?_
          unfold mAsk
          rw [if_pos ⟨zlt_of hd (by omega), by decide⟩, hcl, ek]
          simp only [zleft_90, h90, ek]
          rfl
    · exact absurd c15 (by decide)
set_option maxRecDepth 100000 in
set_option maxHeartbeats 4000000 in
theorem qX9_ask_2_0 {l : zL} {I : Nat → Nat → Int32} {J : Nat → Nat → Int64} {nw : Bool} (n : Nat) (hn : n ≤ 6) (en : I 90 3 = nI n) (d : Nat) (hd : d < n) (ek : I 90 (6 + d) = 2) : zP l mX9_ask [.ref 85, .int (nI d), .int 0] (hh I J nw) (zPM (mAsk I n (nI d) 0) J nw) := by
  have hcl : (nI d).toNatClampNeg = d := nI_clamp (by omega)
  have h90 : ∀ j, zup I 85 13 0 90 j = I 90 j := fun j => zup_no (Or.inl (by decide))
  refine z_start [.ref 85, .int (nI d), .int 0, zno, zno] (by decide +kernel) (Nat.le_of_ble_eq_true rfl) rfl ?_
  refine z_aload_0 (pc := 0) dX9_ask_0 ?_
  refine z_iload_1 (pc := 1) dX9_ask_1 ?_
  refine z_V1 (pc := 2) dX9_ask_2 mlX9_199 kX9_isDrinker vX9_isDrinker (by decide) (by decide) (by first | rfl | assumption) (Nat.le_of_ble_eq_true rfl) (qX9_isDrinker n hn en) ⟨Nat.le_refl _, Nat.le_refl _⟩ (fun r h1 hq => ?_)
  obtain ⟨rfl, rfl⟩ := hq
  refine z_if_eq (pc := 5) (tgt := 18) dX9_ask_5 (by decide) (fun c5 => ?_) (fun c5 => ?_)
  · rw [zlt_of hd (by omega)] at c5; exact absurd c5 (by decide)
  · skip
    refine z_iload_2 (pc := 8) dX9_ask_8 ?_
    refine z_i2l (pc := 9) dX9_ask_9 ?_
    refine z_lconst (pc := 10) 0 dX9_ask_10 rfl ?_
    refine z_lconst (pc := 11) 1 dX9_ask_11 rfl ?_
    refine z_S3 (pc := 12) dX9_ask_12 mlX9_60 kX9_in vX9_in (by decide) (by decide) (Nat.le_of_ble_eq_true rfl) (qX9_in) ⟨Nat.le_refl _, Nat.le_refl _⟩ (fun r h1 hq => ?_)
    obtain ⟨rfl, rfl⟩ := hq
    refine z_if_ne (pc := 15) (tgt := 21) dX9_ask_15 (by decide) (fun c15 => ?_) (fun c15 => ?_)
    · skip
      refine z_aload_0 (pc := 21) dX9_ask_21 ?_
      refine z_iconst (pc := 22) (0) dX9_ask_22 rfl ?_
      refine y_putI (pc := 23) dX9_ask_23 flX9_279 ffX9_279 rfl (by first | rfl | assumption) ⟨rfl, rfl⟩ ?_
      refine z_aload_0 (pc := 26) dX9_ask_26 ?_
      refine y_getR (pc := 27) dX9_ask_27 flX9_22 rfl (by first | rfl | assumption) (by first | rfl | assumption) ?_
      refine z_bipush (pc := 30) (6) dX9_ask_30 rfl ?_
      refine z_iload_1 (pc := 32) dX9_ask_32 ?_
      refine z_iadd (pc := 33) dX9_ask_33 ?_
      refine y_ialdN (pc := 34) (6 + d) dX9_ask_34 (by first | rfl | assumption) (nI_add 6 d) (by omega) (by first | decide | omega) ?_
      rw [h90, ek]
      refine z_istore_3 (pc := 35) dX9_ask_35 (by decide) rfl ?_
      refine z_iload_3 (pc := 36) dX9_ask_36 ?_
      refine z_iconst (pc := 37) (4) dX9_ask_37 rfl ?_
      refine z_icmp_ge (pc := 38) (tgt := 101) dX9_ask_38 (by decide) (fun c38 => ?_) (fun c38 => ?_)
      · exact absurd c38 (by decide)
      · skip
        refine z_iload_2 (pc := 41) dX9_ask_41 ?_
        refine z_iconst (pc := 42) (1) dX9_ask_42 rfl ?_
        refine z_icmp_ne (pc := 43) (tgt := 52) dX9_ask_43 (by decide) (fun c43 => ?_) (fun c43 => ?_)
        · skip
          refine z_aload_0 (pc := 52) dX9_ask_52 ?_
          refine z_iload_3 (pc := 53) dX9_ask_53 ?_
          refine z_iconst (pc := 54) (2) dX9_ask_54 rfl ?_
          refine z_icmp_ne (pc := 55) (tgt := 64) dX9_ask_55 (by decide) (fun c55 => ?_) (fun c55 => ?_)
          · exact absurd c55 (by decide)
          · skip
            refine z_ldc2 (pc := 58) dX9_ask_58 kcX9_299 ?_
            refine z_goto (pc := 61) (tgt := 67) dX9_ask_61 (by decide) ?_
            refine z_V1 (pc := 67) dX9_ask_67 mlX9_288 kX9_leave vX9_leave (by decide) (by decide) (by first | rfl | assumption) (Nat.le_of_ble_eq_true rfl) (qX9_leave_121110 0 zup_on (by omega)) ⟨Nat.le_refl _, Nat.le_refl _⟩ (fun r h1 hq => ?_)
            obtain ⟨rfl, rfl⟩ := hq
            refine z_aload_0 (pc := 70) dX9_ask_70 ?_
            refine y_getR (pc := 71) dX9_ask_71 flX9_22 rfl (by first | rfl | assumption) (by first | rfl | assumption) ?_
            refine z_bipush (pc := 74) (12) dX9_ask_74 rfl ?_
            refine z_iload_1 (pc := 76) dX9_ask_76 ?_
            refine z_iadd (pc := 77) dX9_ask_77 ?_
            refine y_ialdN (pc := 78) (12 + d) dX9_ask_78 (by first | rfl | assumption) (nI_add 12 d) (by omega) (by first | decide | omega) ?_
            refine z_aload_0 (pc := 79) dX9_ask_79 ?_
            refine z_iload_1 (pc := 80) dX9_ask_80 ?_
            refine z_V1 (pc := 81) dX9_ask_81 mlX9_296 kX9_mark vX9_mark (by decide) (by decide) (by first | rfl | assumption) (Nat.le_of_ble_eq_true rfl) (qX9_mark d rfl (by omega) 3 rfl (by omega)) ⟨Nat.le_refl _, Nat.le_refl _⟩ (fun r h1 hq => ?_)
            obtain ⟨rfl, rfl⟩ := hq
            refine z_iadd (pc := 84) dX9_ask_84 ?_
            refine z_istore_4 (pc := 85) dX9_ask_85 (by decide) rfl ?_
            refine z_iload_3 (pc := 87) dX9_ask_87 ?_
            refine z_iconst (pc := 88) (2) dX9_ask_88 rfl ?_
            refine z_icmp_ne (pc := 89) (tgt := 98) dX9_ask_89 (by decide) (fun c89 => ?_) (fun c89 => ?_)
            · exact absurd c89 (by decide)
            · skip
              refine z_iload_4 (pc := 92) dX9_ask_92 ?_
              refine z_ineg (pc := 94) dX9_ask_94 ?_
              refine z_goto (pc := 95) (tgt := 100) dX9_ask_95 (by decide) ?_
              refine z_ret (pc := 100) (r := some (.int _)) rfl dX9_ask_100 trivial rfl rfl ?_
              refine zPM_of ?_
              unfold mAsk
              rw [if_pos ⟨zlt_of hd (by omega), by decide⟩, hcl, ek]
              simp only [zleft_90, h90, ek]
              rfl
        · exact absurd c43 (by decide)
    · exact absurd c15 (by decide)
set_option maxRecDepth 100000 in
set_option maxHeartbeats 4000000 in
theorem qX9_ask_2_1 {l : zL} {I : Nat → Nat → Int32} {J : Nat → Nat → Int64} {nw : Bool} (n : Nat) (hn : n ≤ 6) (en : I 90 3 = nI n) (d : Nat) (hd : d < n) (ek : I 90 (6 + d) = 2) : zP l mX9_ask [.ref 85, .int (nI d), .int 1] (hh I J nw) (zPM (mAsk I n (nI d) 1) J nw) := by
  have hcl : (nI d).toNatClampNeg = d := nI_clamp (by omega)
  have h90 : ∀ j, zup I 85 13 0 90 j = I 90 j := fun j => zup_no (Or.inl (by decide))
  refine z_start [.ref 85, .int (nI d), .int 1, zno, zno] (by decide +kernel) (Nat.le_of_ble_eq_true rfl) rfl ?_
  refine z_aload_0 (pc := 0) dX9_ask_0 ?_
  refine z_iload_1 (pc := 1) dX9_ask_1 ?_
  refine z_V1 (pc := 2) dX9_ask_2 mlX9_199 kX9_isDrinker vX9_isDrinker (by decide) (by decide) (by first | rfl | assumption) (Nat.le_of_ble_eq_true rfl) (qX9_isDrinker n hn en) ⟨Nat.le_refl _, Nat.le_refl _⟩ (fun r h1 hq => ?_)
  obtain ⟨rfl, rfl⟩ := hq
  refine z_if_eq (pc := 5) (tgt := 18) dX9_ask_5 (by decide) (fun c5 => ?_) (fun c5 => ?_)
  · rw [zlt_of hd (by omega)] at c5; exact absurd c5 (by decide)
  · skip
    refine z_iload_2 (pc := 8) dX9_ask_8 ?_
    refine z_i2l (pc := 9) dX9_ask_9 ?_
    refine z_lconst (pc := 10) 0 dX9_ask_10 rfl ?_
    refine z_lconst (pc := 11) 1 dX9_ask_11 rfl ?_
    refine z_S3 (pc := 12) dX9_ask_12 mlX9_60 kX9_in vX9_in (by decide) (by decide) (Nat.le_of_ble_eq_true rfl) (qX9_in) ⟨Nat.le_refl _, Nat.le_refl _⟩ (fun r h1 hq => ?_)
    obtain ⟨rfl, rfl⟩ := hq
    refine z_if_ne (pc := 15) (tgt := 21) dX9_ask_15 (by decide) (fun c15 => ?_) (fun c15 => ?_)
    · skip
      refine z_aload_0 (pc := 21) dX9_ask_21 ?_
      refine z_iconst (pc := 22) (0) dX9_ask_22 rfl ?_
      refine y_putI (pc := 23) dX9_ask_23 flX9_279 ffX9_279 rfl (by first | rfl | assumption) ⟨rfl, rfl⟩ ?_
      refine z_aload_0 (pc := 26) dX9_ask_26 ?_
      refine y_getR (pc := 27) dX9_ask_27 flX9_22 rfl (by first | rfl | assumption) (by first | rfl | assumption) ?_
      refine z_bipush (pc := 30) (6) dX9_ask_30 rfl ?_
      refine z_iload_1 (pc := 32) dX9_ask_32 ?_
      refine z_iadd (pc := 33) dX9_ask_33 ?_
      refine y_ialdN (pc := 34) (6 + d) dX9_ask_34 (by first | rfl | assumption) (nI_add 6 d) (by omega) (by first | decide | omega) ?_
      rw [h90, ek]
      refine z_istore_3 (pc := 35) dX9_ask_35 (by decide) rfl ?_
      refine z_iload_3 (pc := 36) dX9_ask_36 ?_
      refine z_iconst (pc := 37) (4) dX9_ask_37 rfl ?_
      refine z_icmp_ge (pc := 38) (tgt := 101) dX9_ask_38 (by decide) (fun c38 => ?_) (fun c38 => ?_)
      · exact absurd c38 (by decide)
      · skip
        refine z_iload_2 (pc := 41) dX9_ask_41 ?_
        refine z_iconst (pc := 42) (1) dX9_ask_42 rfl ?_
        refine z_icmp_ne (pc := 43) (tgt := 52) dX9_ask_43 (by decide) (fun c43 => ?_) (fun c43 => ?_)
        · exact absurd c43 (by decide)
        · skip
          refine z_aload_0 (pc := 46) dX9_ask_46 ?_
          refine z_iload_1 (pc := 47) dX9_ask_47 ?_
          refine z_V1 (pc := 48) dX9_ask_48 mlX9_296 kX9_mark vX9_mark (by decide) (by decide) (by first | rfl | assumption) (Nat.le_of_ble_eq_true rfl) (qX9_mark d rfl (by omega) 0 zup_on (by omega)) ⟨Nat.le_refl _, Nat.le_refl _⟩ (fun r h1 hq => ?_)
          obtain ⟨rfl, rfl⟩ := hq
          refine z_ret (pc := 51) (r := some (.int _)) rfl dX9_ask_51 trivial rfl rfl ?_
          refine zPM_of ?_
          unfold mAsk
          rw [if_pos ⟨zlt_of hd (by omega), by decide⟩, hcl, ek]
          simp only [zleft_90, h90, ek]
          rfl
    · exact absurd c15 (by decide)
set_option maxRecDepth 100000 in
set_option maxHeartbeats 4000000 in
theorem qX9_ask_3_0 {l : zL} {I : Nat → Nat → Int32} {J : Nat → Nat → Int64} {nw : Bool} (n : Nat) (hn : n ≤ 6) (en : I 90 3 = nI n) (d : Nat) (hd : d < n) (ek : I 90 (6 + d) = 3) : zP l mX9_ask [.ref 85, .int (nI d), .int 0] (hh I J nw) (zPM (mAsk I n (nI d) 0) J nw) := by
  have hcl : (nI d).toNatClampNeg = d := nI_clamp (by omega)
  have h90 : ∀ j, zup I 85 13 0 90 j = I 90 j := fun j => zup_no (Or.inl (by decide))
  refine z_start [.ref 85, .int (nI d), .int 0, zno, zno] (by decide +kernel) (Nat.le_of_ble_eq_true rfl) rfl ?_
  refine z_aload_0 (pc := 0) dX9_ask_0 ?_
  refine z_iload_1 (pc := 1) dX9_ask_1 ?_
  refine z_V1 (pc := 2) dX9_ask_2 mlX9_199 kX9_isDrinker vX9_isDrinker (by decide) (by decide) (by first | rfl | assumption) (Nat.le_of_ble_eq_true rfl) (qX9_isDrinker n hn en) ⟨Nat.le_refl _, Nat.le_refl _⟩ (fun r h1 hq => ?_)
  obtain ⟨rfl, rfl⟩ := hq
  refine z_if_eq (pc := 5) (tgt := 18) dX9_ask_5 (by decide) (fun c5 => ?_) (fun c5 => ?_)
  · rw [zlt_of hd (by omega)] at c5; exact absurd c5 (by decide)
  · skip
    refine z_iload_2 (pc := 8) dX9_ask_8 ?_
    refine z_i2l (pc := 9) dX9_ask_9 ?_
    refine z_lconst (pc := 10) 0 dX9_ask_10 rfl ?_
    refine z_lconst (pc := 11) 1 dX9_ask_11 rfl ?_
    refine z_S3 (pc := 12) dX9_ask_12 mlX9_60 kX9_in vX9_in (by decide) (by decide) (Nat.le_of_ble_eq_true rfl) (qX9_in) ⟨Nat.le_refl _, Nat.le_refl _⟩ (fun r h1 hq => ?_)
    obtain ⟨rfl, rfl⟩ := hq
    refine z_if_ne (pc := 15) (tgt := 21) dX9_ask_15 (by decide) (fun c15 => ?_) (fun c15 => ?_)
    · skip
      refine z_aload_0 (pc := 21) dX9_ask_21 ?_
      refine z_iconst (pc := 22) (0) dX9_ask_22 rfl ?_
      refine y_putI (pc := 23) dX9_ask_23 flX9_279 ffX9_279 rfl (by first | rfl | assumption) ⟨rfl, rfl⟩ ?_
      refine z_aload_0 (pc := 26) dX9_ask_26 ?_
      refine y_getR (pc := 27) dX9_ask_27 flX9_22 rfl (by first | rfl | assumption) (by first | rfl | assumption) ?_
      refine z_bipush (pc := 30) (6) dX9_ask_30 rfl ?_
      refine z_iload_1 (pc := 32) dX9_ask_32 ?_
      refine z_iadd (pc := 33) dX9_ask_33 ?_
      refine y_ialdN (pc := 34) (6 + d) dX9_ask_34 (by first | rfl | assumption) (nI_add 6 d) (by omega) (by first | decide | omega) ?_
      rw [h90, ek]
      refine z_istore_3 (pc := 35) dX9_ask_35 (by decide) rfl ?_
      refine z_iload_3 (pc := 36) dX9_ask_36 ?_
      refine z_iconst (pc := 37) (4) dX9_ask_37 rfl ?_
      refine z_icmp_ge (pc := 38) (tgt := 101) dX9_ask_38 (by decide) (fun c38 => ?_) (fun c38 => ?_)
      · exact absurd c38 (by decide)
      · skip
        refine z_iload_2 (pc := 41) dX9_ask_41 ?_
        refine z_iconst (pc := 42) (1) dX9_ask_42 rfl ?_
        refine z_icmp_ne (pc := 43) (tgt := 52) dX9_ask_43 (by decide) (fun c43 => ?_) (fun c43 => ?_)
        · skip
          refine z_aload_0 (pc := 52) dX9_ask_52 ?_
          refine z_iload_3 (pc := 53) dX9_ask_53 ?_
          refine z_iconst (pc := 54) (2) dX9_ask_54 rfl ?_
          refine z_icmp_ne (pc := 55) (tgt := 64) dX9_ask_55 (by decide) (fun c55 => ?_) (fun c55 => ?_)
          · skip
            refine z_ldc2 (pc := 64) dX9_ask_64 kcX9_301 ?_
            refine z_V1 (pc := 67) dX9_ask_67 mlX9_288 kX9_leave vX9_leave (by decide) (by decide) (by first | rfl | assumption) (Nat.le_of_ble_eq_true rfl) (qX9_leave_1110 0 zup_on (by omega)) ⟨Nat.le_refl _, Nat.le_refl _⟩ (fun r h1 hq => ?_)
            obtain ⟨rfl, rfl⟩ := hq
            refine z_aload_0 (pc := 70) dX9_ask_70 ?_
            refine y_getR (pc := 71) dX9_ask_71 flX9_22 rfl (by first | rfl | assumption) (by first | rfl | assumption) ?_
            refine z_bipush (pc := 74) (12) dX9_ask_74 rfl ?_
            refine z_iload_1 (pc := 76) dX9_ask_76 ?_
            refine z_iadd (pc := 77) dX9_ask_77 ?_
            refine y_ialdN (pc := 78) (12 + d) dX9_ask_78 (by first | rfl | assumption) (nI_add 12 d) (by omega) (by first | decide | omega) ?_
            refine z_aload_0 (pc := 79) dX9_ask_79 ?_
            refine z_iload_1 (pc := 80) dX9_ask_80 ?_
            refine z_V1 (pc := 81) dX9_ask_81 mlX9_296 kX9_mark vX9_mark (by decide) (by decide) (by first | rfl | assumption) (Nat.le_of_ble_eq_true rfl) (qX9_mark d rfl (by omega) 2 rfl (by omega)) ⟨Nat.le_refl _, Nat.le_refl _⟩ (fun r h1 hq => ?_)
            obtain ⟨rfl, rfl⟩ := hq
            refine z_iadd (pc := 84) dX9_ask_84 ?_
            refine z_istore_4 (pc := 85) dX9_ask_85 (by decide) rfl ?_
            refine z_iload_3 (pc := 87) dX9_ask_87 ?_
            refine z_iconst (pc := 88) (2) dX9_ask_88 rfl ?_
            refine z_icmp_ne (pc := 89) (tgt := 98) dX9_ask_89 (by decide) (fun c89 => ?_) (fun c89 => ?_)
            · skip
              refine z_iload_4 (pc := 98) dX9_ask_98 ?_
              refine z_ret (pc := 100) (r := some (.int _)) rfl dX9_ask_100 trivial rfl rfl ?_
              refine zPM_of ?_
              unfold mAsk
              rw [if_pos ⟨zlt_of hd (by omega), by decide⟩, hcl, ek]
              simp only [zleft_90, h90, ek]
              rfl
            · exact absurd c89 (by decide)
          · exact absurd c55 (by decide)
        · exact absurd c43 (by decide)
    · exact absurd c15 (by decide)
set_option maxRecDepth 100000 in
set_option maxHeartbeats 4000000 in
theorem qX9_ask_3_1 {l : zL} {I : Nat → Nat → Int32} {J : Nat → Nat → Int64} {nw : Bool} (n : Nat) (hn : n ≤ 6) (en : I 90 3 = nI n) (d : Nat) (hd : d < n) (ek : I 90 (6 + d) = 3) : zP l mX9_ask [.ref 85, .int (nI d), .int 1] (hh I J nw) (zPM (mAsk I n (nI d) 1) J nw) := by
  have hcl : (nI d).toNatClampNeg = d := nI_clamp (by omega)
  have h90 : ∀ j, zup I 85 13 0 90 j = I 90 j := fun j => zup_no (Or.inl (by decide))
  refine z_start [.ref 85, .int (nI d), .int 1, zno, zno] (by decide +kernel) (Nat.le_of_ble_eq_true rfl) rfl ?_
  refine z_aload_0 (pc := 0) dX9_ask_0 ?_
  refine z_iload_1 (pc := 1) dX9_ask_1 ?_
  refine z_V1 (pc := 2) dX9_ask_2 mlX9_199 kX9_isDrinker vX9_isDrinker (by decide) (by decide) (by first | rfl | assumption) (Nat.le_of_ble_eq_true rfl) (qX9_isDrinker n hn en) ⟨Nat.le_refl _, Nat.le_refl _⟩ (fun r h1 hq => ?_)
  obtain ⟨rfl, rfl⟩ := hq
  refine z_if_eq (pc := 5) (tgt := 18) dX9_ask_5 (by decide) (fun c5 => ?_) (fun c5 => ?_)
  · rw [zlt_of hd (by omega)] at c5; exact absurd c5 (by decide)
  · skip
    refine z_iload_2 (pc := 8) dX9_ask_8 ?_
    refine z_i2l (pc := 9) dX9_ask_9 ?_
    refine z_lconst (pc := 10) 0 dX9_ask_10 rfl ?_
    refine z_lconst (pc := 11) 1 dX9_ask_11 rfl ?_
    refine z_S3 (pc := 12) dX9_ask_12 mlX9_60 kX9_in vX9_in (by decide) (by decide) (Nat.le_of_ble_eq_true rfl) (qX9_in) ⟨Nat.le_refl _, Nat.le_refl _⟩ (fun r h1 hq => ?_)
    obtain ⟨rfl, rfl⟩ := hq
    refine z_if_ne (pc := 15) (tgt := 21) dX9_ask_15 (by decide) (fun c15 => ?_) (fun c15 => ?_)
    · skip
      refine z_aload_0 (pc := 21) dX9_ask_21 ?_
      refine z_iconst (pc := 22) (0) dX9_ask_22 rfl ?_
      refine y_putI (pc := 23) dX9_ask_23 flX9_279 ffX9_279 rfl (by first | rfl | assumption) ⟨rfl, rfl⟩ ?_
      refine z_aload_0 (pc := 26) dX9_ask_26 ?_
      refine y_getR (pc := 27) dX9_ask_27 flX9_22 rfl (by first | rfl | assumption) (by first | rfl | assumption) ?_
      refine z_bipush (pc := 30) (6) dX9_ask_30 rfl ?_
      refine z_iload_1 (pc := 32) dX9_ask_32 ?_
      refine z_iadd (pc := 33) dX9_ask_33 ?_
      refine y_ialdN (pc := 34) (6 + d) dX9_ask_34 (by first | rfl | assumption) (nI_add 6 d) (by omega) (by first | decide | omega) ?_
      rw [h90, ek]
      refine z_istore_3 (pc := 35) dX9_ask_35 (by decide) rfl ?_
      refine z_iload_3 (pc := 36) dX9_ask_36 ?_
      refine z_iconst (pc := 37) (4) dX9_ask_37 rfl ?_
      refine z_icmp_ge (pc := 38) (tgt := 101) dX9_ask_38 (by decide) (fun c38 => ?_) (fun c38 => ?_)
      · exact absurd c38 (by decide)
      · skip
        refine z_iload_2 (pc := 41) dX9_ask_41 ?_
        refine z_iconst (pc := 42) (1) dX9_ask_42 rfl ?_
        refine z_icmp_ne (pc := 43) (tgt := 52) dX9_ask_43 (by decide) (fun c43 => ?_) (fun c43 => ?_)
        · exact absurd c43 (by decide)
        · skip
          refine z_aload_0 (pc := 46) dX9_ask_46 ?_
          refine z_iload_1 (pc := 47) dX9_ask_47 ?_
          refine z_V1 (pc := 48) dX9_ask_48 mlX9_296 kX9_mark vX9_mark (by decide) (by decide) (by first | rfl | assumption) (Nat.le_of_ble_eq_true rfl) (qX9_mark d rfl (by omega) 0 zup_on (by omega)) ⟨Nat.le_refl _, Nat.le_refl _⟩ (fun r h1 hq => ?_)
          obtain ⟨rfl, rfl⟩ := hq
          refine z_ret (pc := 51) (r := some (.int _)) rfl dX9_ask_51 trivial rfl rfl ?_
          refine zPM_of ?_
          unfold mAsk
          rw [if_pos ⟨zlt_of hd (by omega), by decide⟩, hcl, ek]
          simp only [zleft_90, h90, ek]
          rfl
    · exact absurd c15 (by decide)
set_option maxRecDepth 100000 in
set_option maxHeartbeats 4000000 in
theorem qX9_ask_4_0 {l : zL} {I : Nat → Nat → Int32} {J : Nat → Nat → Int64} {nw : Bool} (n : Nat) (hn : n ≤ 6) (en : I 90 3 = nI n) (d : Nat) (hd : d < n) (ek : I 90 (6 + d) = 4) : zP l mX9_ask [.ref 85, .int (nI d), .int 0] (hh I J nw) (zPM (mAsk I n (nI d) 0) J nw) := by
  have hcl : (nI d).toNatClampNeg = d := nI_clamp (by omega)
  have h90 : ∀ j, zup I 85 13 0 90 j = I 90 j := fun j => zup_no (Or.inl (by decide))
  refine z_start [.ref 85, .int (nI d), .int 0, zno, zno] (by decide +kernel) (Nat.le_of_ble_eq_true rfl) rfl ?_
  refine z_aload_0 (pc := 0) dX9_ask_0 ?_
  refine z_iload_1 (pc := 1) dX9_ask_1 ?_
  refine z_V1 (pc := 2) dX9_ask_2 mlX9_199 kX9_isDrinker vX9_isDrinker (by decide) (by decide) (by first | rfl | assumption) (Nat.le_of_ble_eq_true rfl) (qX9_isDrinker n hn en) ⟨Nat.le_refl _, Nat.le_refl _⟩ (fun r h1 hq => ?_)
  obtain ⟨rfl, rfl⟩ := hq
  refine z_if_eq (pc := 5) (tgt := 18) dX9_ask_5 (by decide) (fun c5 => ?_) (fun c5 => ?_)
  · rw [zlt_of hd (by omega)] at c5; exact absurd c5 (by decide)
  · skip
    refine z_iload_2 (pc := 8) dX9_ask_8 ?_
    refine z_i2l (pc := 9) dX9_ask_9 ?_
    refine z_lconst (pc := 10) 0 dX9_ask_10 rfl ?_
    refine z_lconst (pc := 11) 1 dX9_ask_11 rfl ?_
    refine z_S3 (pc := 12) dX9_ask_12 mlX9_60 kX9_in vX9_in (by decide) (by decide) (Nat.le_of_ble_eq_true rfl) (qX9_in) ⟨Nat.le_refl _, Nat.le_refl _⟩ (fun r h1 hq => ?_)
    obtain ⟨rfl, rfl⟩ := hq
    refine z_if_ne (pc := 15) (tgt := 21) dX9_ask_15 (by decide) (fun c15 => ?_) (fun c15 => ?_)
    · skip
      refine z_aload_0 (pc := 21) dX9_ask_21 ?_
      refine z_iconst (pc := 22) (0) dX9_ask_22 rfl ?_
      refine y_putI (pc := 23) dX9_ask_23 flX9_279 ffX9_279 rfl (by first | rfl | assumption) ⟨rfl, rfl⟩ ?_
      refine z_aload_0 (pc := 26) dX9_ask_26 ?_
      refine y_getR (pc := 27) dX9_ask_27 flX9_22 rfl (by first | rfl | assumption) (by first | rfl | assumption) ?_
      refine z_bipush (pc := 30) (6) dX9_ask_30 rfl ?_
      refine z_iload_1 (pc := 32) dX9_ask_32 ?_
      refine z_iadd (pc := 33) dX9_ask_33 ?_
      refine y_ialdN (pc := 34) (6 + d) dX9_ask_34 (by first | rfl | assumption) (nI_add 6 d) (by omega) (by first | decide | omega) ?_
      rw [h90, ek]
      refine z_istore_3 (pc := 35) dX9_ask_35 (by decide) rfl ?_
      refine z_iload_3 (pc := 36) dX9_ask_36 ?_
      refine z_iconst (pc := 37) (4) dX9_ask_37 rfl ?_
      refine z_icmp_ge (pc := 38) (tgt := 101) dX9_ask_38 (by decide) (fun c38 => ?_) (fun c38 => ?_)
      · skip
        refine z_iload_2 (pc := 101) dX9_ask_101 ?_
        refine z_if_ne (pc := 102) (tgt := 111) dX9_ask_102 (by decide) (fun c102 => ?_) (fun c102 => ?_)
        · exact absurd c102 (by decide)
        · skip
          refine z_aload_0 (pc := 105) dX9_ask_105 ?_
          refine z_iload_1 (pc := 106) dX9_ask_106 ?_
          refine z_V1 (pc := 107) dX9_ask_107 mlX9_303 kX9_sizeOf vX9_sizeOf (by decide) (by decide) (by first | rfl | assumption) (Nat.le_of_ble_eq_true rfl) (qX9_sizeOf d rfl (by omega) 0 zup_on (by omega)) ⟨Nat.le_refl _, Nat.le_refl _⟩ (fun r h1 hq => ?_)
          obtain ⟨rfl, rfl⟩ := hq
          refine z_ret (pc := 110) (r := some (.int _)) rfl dX9_ask_110 trivial rfl rfl ?_
          refine zPM_of ?_
          unfold mAsk
          rw [if_pos ⟨zlt_of hd (by omega), by decide⟩, hcl, ek]
          simp only [zleft_90, h90, ek]
          rfl
      · exact absurd c38 (by decide)
    · exact absurd c15 (by decide)
set_option maxRecDepth 100000 in
set_option maxHeartbeats 4000000 in
theorem qX9_ask_4_1 {l : zL} {I : Nat → Nat → Int32} {J : Nat → Nat → Int64} {nw : Bool} (n : Nat) (hn : n ≤ 6) (en : I 90 3 = nI n) (d : Nat) (hd : d < n) (ek : I 90 (6 + d) = 4) : zP l mX9_ask [.ref 85, .int (nI d), .int 1] (hh I J nw) (zPM (mAsk I n (nI d) 1) J nw) := by
  have hcl : (nI d).toNatClampNeg = d := nI_clamp (by omega)
  have h90 : ∀ j, zup I 85 13 0 90 j = I 90 j := fun j => zup_no (Or.inl (by decide))
  refine z_start [.ref 85, .int (nI d), .int 1, zno, zno] (by decide +kernel) (Nat.le_of_ble_eq_true rfl) rfl ?_
  refine z_aload_0 (pc := 0) dX9_ask_0 ?_
  refine z_iload_1 (pc := 1) dX9_ask_1 ?_
  refine z_V1 (pc := 2) dX9_ask_2 mlX9_199 kX9_isDrinker vX9_isDrinker (by decide) (by decide) (by first | rfl | assumption) (Nat.le_of_ble_eq_true rfl) (qX9_isDrinker n hn en) ⟨Nat.le_refl _, Nat.le_refl _⟩ (fun r h1 hq => ?_)
  obtain ⟨rfl, rfl⟩ := hq
  refine z_if_eq (pc := 5) (tgt := 18) dX9_ask_5 (by decide) (fun c5 => ?_) (fun c5 => ?_)
  · rw [zlt_of hd (by omega)] at c5; exact absurd c5 (by decide)
  · skip
    refine z_iload_2 (pc := 8) dX9_ask_8 ?_
    refine z_i2l (pc := 9) dX9_ask_9 ?_
    refine z_lconst (pc := 10) 0 dX9_ask_10 rfl ?_
    refine z_lconst (pc := 11) 1 dX9_ask_11 rfl ?_
    refine z_S3 (pc := 12) dX9_ask_12 mlX9_60 kX9_in vX9_in (by decide) (by decide) (Nat.le_of_ble_eq_true rfl) (qX9_in) ⟨Nat.le_refl _, Nat.le_refl _⟩ (fun r h1 hq => ?_)
    obtain ⟨rfl, rfl⟩ := hq
    refine z_if_ne (pc := 15) (tgt := 21) dX9_ask_15 (by decide) (fun c15 => ?_) (fun c15 => ?_)
    · skip
      refine z_aload_0 (pc := 21) dX9_ask_21 ?_
      refine z_iconst (pc := 22) (0) dX9_ask_22 rfl ?_
      refine y_putI (pc := 23) dX9_ask_23 flX9_279 ffX9_279 rfl (by first | rfl | assumption) ⟨rfl, rfl⟩ ?_
      refine z_aload_0 (pc := 26) dX9_ask_26 ?_
      refine y_getR (pc := 27) dX9_ask_27 flX9_22 rfl (by first | rfl | assumption) (by first | rfl | assumption) ?_
      refine z_bipush (pc := 30) (6) dX9_ask_30 rfl ?_
      refine z_iload_1 (pc := 32) dX9_ask_32 ?_
      refine z_iadd (pc := 33) dX9_ask_33 ?_
      refine y_ialdN (pc := 34) (6 + d) dX9_ask_34 (by first | rfl | assumption) (nI_add 6 d) (by omega) (by first | decide | omega) ?_
      rw [h90, ek]
      refine z_istore_3 (pc := 35) dX9_ask_35 (by decide) rfl ?_
      refine z_iload_3 (pc := 36) dX9_ask_36 ?_
      refine z_iconst (pc := 37) (4) dX9_ask_37 rfl ?_
      refine z_icmp_ge (pc := 38) (tgt := 101) dX9_ask_38 (by decide) (fun c38 => ?_) (fun c38 => ?_)
      · skip
        refine z_iload_2 (pc := 101) dX9_ask_101 ?_
        refine z_if_ne (pc := 102) (tgt := 111) dX9_ask_102 (by decide) (fun c102 => ?_) (fun c102 => ?_)
        · skip
          refine z_aload_0 (pc := 111) dX9_ask_111 ?_
          refine z_ldc2 (pc := 112) dX9_ask_112 kcX9_306 ?_
          refine z_V1 (pc := 115) dX9_ask_115 mlX9_288 kX9_leave vX9_leave (by decide) (by decide) (by first | rfl | assumption) (Nat.le_of_ble_eq_true rfl) (qX9_leave_2320 0 zup_on (by omega)) ⟨Nat.le_refl _, Nat.le_refl _⟩ (fun r h1 hq => ?_)
          obtain ⟨rfl, rfl⟩ := hq
          refine z_iload_1 (pc := 118) dX9_ask_118 ?_
          refine z_aload_0 (pc := 119) dX9_ask_119 ?_
          refine z_iload_1 (pc := 120) dX9_ask_120 ?_
          refine z_V1 (pc := 121) dX9_ask_121 mlX9_303 kX9_sizeOf vX9_sizeOf (by decide) (by decide) (by first | rfl | assumption) (Nat.le_of_ble_eq_true rfl) (qX9_sizeOf d rfl (by omega) 2 rfl (by omega)) ⟨Nat.le_refl _, Nat.le_refl _⟩ (fun r h1 hq => ?_)
          obtain ⟨rfl, rfl⟩ := hq
          refine z_isub (pc := 124) dX9_ask_124 ?_
          refine z_ret (pc := 125) (r := some (.int _)) rfl dX9_ask_125 trivial rfl rfl ?_
          refine zPM_of ?_
          unfold mAsk
          rw [if_pos ⟨zlt_of hd (by omega), by decide⟩, hcl, ek]
          simp only [zleft_90, h90, ek]
          rfl
        · exact absurd c102 (by decide)
      · exact absurd c38 (by decide)
    · exact absurd c15 (by decide)
set_option maxRecDepth 100000 in
set_option maxHeartbeats 4000000 in
theorem qX9_ask_5_0 {l : zL} {I : Nat → Nat → Int32} {J : Nat → Nat → Int64} {nw : Bool} (n : Nat) (hn : n ≤ 6) (en : I 90 3 = nI n) (d : Nat) (hd : d < n) (ek : I 90 (6 + d) = 5) : zP l mX9_ask [.ref 85, .int (nI d), .int 0] (hh I J nw) (zPM (mAsk I n (nI d) 0) J nw) := by
  have hcl : (nI d).toNatClampNeg = d := nI_clamp (by omega)
  have h90 : ∀ j, zup I 85 13 0 90 j = I 90 j := fun j => zup_no (Or.inl (by decide))
  refine z_start [.ref 85, .int (nI d), .int 0, zno, zno] (by decide +kernel) (Nat.le_of_ble_eq_true rfl) rfl ?_
  refine z_aload_0 (pc := 0) dX9_ask_0 ?_
  refine z_iload_1 (pc := 1) dX9_ask_1 ?_
  refine z_V1 (pc := 2) dX9_ask_2 mlX9_199 kX9_isDrinker vX9_isDrinker (by decide) (by decide) (by first | rfl | assumption) (Nat.le_of_ble_eq_true rfl) (qX9_isDrinker n hn en) ⟨Nat.le_refl _, Nat.le_refl _⟩ (fun r h1 hq => ?_)
  obtain ⟨rfl, rfl⟩ := hq
  refine z_if_eq (pc := 5) (tgt := 18) dX9_ask_5 (by decide) (fun c5 => ?_) (fun c5 => ?_)
  · rw [zlt_of hd (by omega)] at c5; exact absurd c5 (by decide)
  · skip
    refine z_iload_2 (pc := 8) dX9_ask_8 ?_
    refine z_i2l (pc := 9) dX9_ask_9 ?_
    refine z_lconst (pc := 10) 0 dX9_ask_10 rfl ?_
    refine z_lconst (pc := 11) 1 dX9_ask_11 rfl ?_
    refine z_S3 (pc := 12) dX9_ask_12 mlX9_60 kX9_in vX9_in (by decide) (by decide) (Nat.le_of_ble_eq_true rfl) (qX9_in) ⟨Nat.le_refl _, Nat.le_refl _⟩ (fun r h1 hq => ?_)
    obtain ⟨rfl, rfl⟩ := hq
    refine z_if_ne (pc := 15) (tgt := 21) dX9_ask_15 (by decide) (fun c15 => ?_) (fun c15 => ?_)
    · skip
      refine z_aload_0 (pc := 21) dX9_ask_21 ?_
      refine z_iconst (pc := 22) (0) dX9_ask_22 rfl ?_
      refine y_putI (pc := 23) dX9_ask_23 flX9_279 ffX9_279 rfl (by first | rfl | assumption) ⟨rfl, rfl⟩ ?_
      refine z_aload_0 (pc := 26) dX9_ask_26 ?_
      refine y_getR (pc := 27) dX9_ask_27 flX9_22 rfl (by first | rfl | assumption) (by first | rfl | assumption) ?_
      refine z_bipush (pc := 30) (6) dX9_ask_30 rfl ?_
      refine z_iload_1 (pc := 32) dX9_ask_32 ?_
      refine z_iadd (pc := 33) dX9_ask_33 ?_
      refine y_ialdN (pc := 34) (6 + d) dX9_ask_34 (by first | rfl | assumption) (nI_add 6 d) (by omega) (by first | decide | omega) ?_
      rw [h90, ek]
      refine z_istore_3 (pc := 35) dX9_ask_35 (by decide) rfl ?_
      refine z_iload_3 (pc := 36) dX9_ask_36 ?_
      refine z_iconst (pc := 37) (4) dX9_ask_37 rfl ?_
      refine z_icmp_ge (pc := 38) (tgt := 101) dX9_ask_38 (by decide) (fun c38 => ?_) (fun c38 => ?_)
      · skip
        refine z_iload_2 (pc := 101) dX9_ask_101 ?_
        refine z_if_ne (pc := 102) (tgt := 111) dX9_ask_102 (by decide) (fun c102 => ?_) (fun c102 => ?_)
        · exact absurd c102 (by decide)
        · skip
          refine z_aload_0 (pc := 105) dX9_ask_105 ?_
          refine z_iload_1 (pc := 106) dX9_ask_106 ?_
          refine z_V1 (pc := 107) dX9_ask_107 mlX9_303 kX9_sizeOf vX9_sizeOf (by decide) (by decide) (by first | rfl | assumption) (Nat.le_of_ble_eq_true rfl) (qX9_sizeOf d rfl (by omega) 0 zup_on (by omega)) ⟨Nat.le_refl _, Nat.le_refl _⟩ (fun r h1 hq => ?_)
          obtain ⟨rfl, rfl⟩ := hq
          refine z_ret (pc := 110) (r := some (.int _)) rfl dX9_ask_110 trivial rfl rfl ?_
          refine zPM_of ?_
          unfold mAsk
          rw [if_pos ⟨zlt_of hd (by omega), by decide⟩, hcl, ek]
          simp only [zleft_90, h90, ek]
          rfl
      · exact absurd c38 (by decide)
    · exact absurd c15 (by decide)
set_option maxRecDepth 100000 in
set_option maxHeartbeats 4000000 in
theorem qX9_ask_5_1 {l : zL} {I : Nat → Nat → Int32} {J : Nat → Nat → Int64} {nw : Bool} (n : Nat) (hn : n ≤ 6) (en : I 90 3 = nI n) (d : Nat) (hd : d < n) (ek : I 90 (6 + d) = 5) : zP l mX9_ask [.ref 85, .int (nI d), .int 1] (hh I J nw) (zPM (mAsk I n (nI d) 1) J nw) := by
  have hcl : (nI d).toNatClampNeg = d := nI_clamp (by omega)
  have h90 : ∀ j, zup I 85 13 0 90 j = I 90 j := fun j => zup_no (Or.inl (by decide))
  refine z_start [.ref 85, .int (nI d), .int 1, zno, zno] (by decide +kernel) (Nat.le_of_ble_eq_true rfl) rfl ?_
  refine z_aload_0 (pc := 0) dX9_ask_0 ?_
  refine z_iload_1 (pc := 1) dX9_ask_1 ?_
  refine z_V1 (pc := 2) dX9_ask_2 mlX9_199 kX9_isDrinker vX9_isDrinker (by decide) (by decide) (by first | rfl | assumption) (Nat.le_of_ble_eq_true rfl) (qX9_isDrinker n hn en) ⟨Nat.le_refl _, Nat.le_refl _⟩ (fun r h1 hq => ?_)
  obtain ⟨rfl, rfl⟩ := hq
  refine z_if_eq (pc := 5) (tgt := 18) dX9_ask_5 (by decide) (fun c5 => ?_) (fun c5 => ?_)
  · rw [zlt_of hd (by omega)] at c5; exact absurd c5 (by decide)
  · skip
    refine z_iload_2 (pc := 8) dX9_ask_8 ?_
    refine z_i2l (pc := 9) dX9_ask_9 ?_
    refine z_lconst (pc := 10) 0 dX9_ask_10 rfl ?_
    refine z_lconst (pc := 11) 1 dX9_ask_11 rfl ?_
    refine z_S3 (pc := 12) dX9_ask_12 mlX9_60 kX9_in vX9_in (by decide) (by decide) (Nat.le_of_ble_eq_true rfl) (qX9_in) ⟨Nat.le_refl _, Nat.le_refl _⟩ (fun r h1 hq => ?_)
    obtain ⟨rfl, rfl⟩ := hq
    refine z_if_ne (pc := 15) (tgt := 21) dX9_ask_15 (by decide) (fun c15 => ?_) (fun c15 => ?_)
    · skip
      refine z_aload_0 (pc := 21) dX9_ask_21 ?_
      refine z_iconst (pc := 22) (0) dX9_ask_22 rfl ?_
      refine y_putI (pc := 23) dX9_ask_23 flX9_279 ffX9_279 rfl (by first | rfl | assumption) ⟨rfl, rfl⟩ ?_
      refine z_aload_0 (pc := 26) dX9_ask_26 ?_
      refine y_getR (pc := 27) dX9_ask_27 flX9_22 rfl (by first | rfl | assumption) (by first | rfl | assumption) ?_
      refine z_bipush (pc := 30) (6) dX9_ask_30 rfl ?_
      refine z_iload_1 (pc := 32) dX9_ask_32 ?_
      refine z_iadd (pc := 33) dX9_ask_33 ?_
      refine y_ialdN (pc := 34) (6 + d) dX9_ask_34 (by first | rfl | assumption) (nI_add 6 d) (by omega) (by first | decide | omega) ?_
      rw [h90, ek]
      refine z_istore_3 (pc := 35) dX9_ask_35 (by decide) rfl ?_
      refine z_iload_3 (pc := 36) dX9_ask_36 ?_
      refine z_iconst (pc := 37) (4) dX9_ask_37 rfl ?_
      refine z_icmp_ge (pc := 38) (tgt := 101) dX9_ask_38 (by decide) (fun c38 => ?_) (fun c38 => ?_)
      · skip
        refine z_iload_2 (pc := 101) dX9_ask_101 ?_
        refine z_if_ne (pc := 102) (tgt := 111) dX9_ask_102 (by decide) (fun c102 => ?_) (fun c102 => ?_)
        · skip
          refine z_aload_0 (pc := 111) dX9_ask_111 ?_
          refine z_ldc2 (pc := 112) dX9_ask_112 kcX9_306 ?_
          refine z_V1 (pc := 115) dX9_ask_115 mlX9_288 kX9_leave vX9_leave (by decide) (by decide) (by first | rfl | assumption) (Nat.le_of_ble_eq_true rfl) (qX9_leave_2320 0 zup_on (by omega)) ⟨Nat.le_refl _, Nat.le_refl _⟩ (fun r h1 hq => ?_)
          obtain ⟨rfl, rfl⟩ := hq
          refine z_iload_1 (pc := 118) dX9_ask_118 ?_
          refine z_aload_0 (pc := 119) dX9_ask_119 ?_
          refine z_iload_1 (pc := 120) dX9_ask_120 ?_
          refine z_V1 (pc := 121) dX9_ask_121 mlX9_303 kX9_sizeOf vX9_sizeOf (by decide) (by decide) (by first | rfl | assumption) (Nat.le_of_ble_eq_true rfl) (qX9_sizeOf d rfl (by omega) 2 rfl (by omega)) ⟨Nat.le_refl _, Nat.le_refl _⟩ (fun r h1 hq => ?_)
          obtain ⟨rfl, rfl⟩ := hq
          refine z_isub (pc := 124) dX9_ask_124 ?_
          refine z_ret (pc := 125) (r := some (.int _)) rfl dX9_ask_125 trivial rfl rfl ?_
          refine zPM_of ?_
          unfold mAsk
          rw [if_pos ⟨zlt_of hd (by omega), by decide⟩, hcl, ek]
          simp only [zleft_90, h90, ek]
          rfl
        · exact absurd c102 (by decide)
      · exact absurd c38 (by decide)
    · exact absurd c15 (by decide)
set_option maxRecDepth 100000 in
set_option maxHeartbeats 4000000 in
theorem qX9_ask_no {l : zL} {I : Nat → Nat → Int32} {J : Nat → Nat → Int64} {nw : Bool} (n : Nat) (hn : n ≤ 6) (en : I 90 3 = nI n) {x w : Int32} (hb : ¬ (zlt x n = true ∧ zlt w 2 = true)) : zP l mX9_ask [.ref 85, .int x, .int w] (hh I J nw) (zPM (mAsk I n x w) J nw) := by
  refine z_start [.ref 85, .int x, .int w, zno, zno] (by decide +kernel) (Nat.le_of_ble_eq_true rfl) rfl ?_
  refine z_aload_0 (pc := 0) dX9_ask_0 ?_
  refine z_iload_1 (pc := 1) dX9_ask_1 ?_
  refine z_V1 (pc := 2) dX9_ask_2 mlX9_199 kX9_isDrinker vX9_isDrinker (by decide) (by decide) (by first | rfl | assumption) (Nat.le_of_ble_eq_true rfl) (qX9_isDrinker n hn en) ⟨Nat.le_refl _, Nat.le_refl _⟩ (fun r h1 hq => ?_)
  obtain ⟨rfl, rfl⟩ := hq
  refine z_if_eq (pc := 5) (tgt := 18) dX9_ask_5 (by decide) (fun c5 => ?_) (fun c5 => ?_)
  · skip
    refine z_ldc (pc := 18) dX9_ask_18 kcX9_70 ?_
    refine z_ret (pc := 20) (r := some (.int _)) rfl dX9_ask_20 trivial rfl rfl ?_
    refine zPM_of ?_
    unfold mAsk
    rw [if_neg hb]
  · skip
    refine z_iload_2 (pc := 8) dX9_ask_8 ?_
    refine z_i2l (pc := 9) dX9_ask_9 ?_
    refine z_lconst (pc := 10) 0 dX9_ask_10 rfl ?_
    refine z_lconst (pc := 11) 1 dX9_ask_11 rfl ?_
    refine z_S3 (pc := 12) dX9_ask_12 mlX9_60 kX9_in vX9_in (by decide) (by decide) (Nat.le_of_ble_eq_true rfl) (qX9_in) ⟨Nat.le_refl _, Nat.le_refl _⟩ (fun r h1 hq => ?_)
    obtain ⟨rfl, rfl⟩ := hq
    refine z_if_ne (pc := 15) (tgt := 21) dX9_ask_15 (by decide) (fun c15 => ?_) (fun c15 => ?_)
    · rw [in_zlt (m := 2) (by decide)] at c15; exact absurd ⟨(zbb1 _).mp c5, (zbb1 _).mp c15⟩ hb
    · skip
      refine z_ldc (pc := 18) dX9_ask_18 kcX9_70 ?_
      refine z_ret (pc := 20) (r := some (.int _)) rfl dX9_ask_20 trivial rfl rfl ?_
      refine zPM_of ?_
      unfold mAsk
      rw [if_neg hb]
set_option maxRecDepth 100000 in
set_option maxHeartbeats 4000000 in
theorem qX9_ask {l : zL} {I : Nat → Nat → Int32} {J : Nat → Nat → Int64} {nw : Bool} (n : Nat) (hn : n ≤ 6) (en : I 90 3 = nI n) (hk : ∀ d, d < n → ∃ k, 1 ≤ k ∧ k ≤ 5 ∧ I 90 (6 + d) = nI k) {x w : Int32} : zP l mX9_ask [.ref 85, .int x, .int w] (hh I J nw) (zPM (mAsk I n x w) J nw) := by
  by_cases hb : zlt x n = true ∧ zlt w 2 = true
  · obtain ⟨d, hd, rfl⟩ := zlt_nI (by omega) hb.1
    obtain ⟨q, hq, rfl⟩ := zlt_nI (by decide) hb.2
    obtain ⟨k, h1, h5, ek⟩ := hk d hd
    have hq2 : q = 0 ∨ q = 1 := by omega
    have hk5 : k = 1 ∨ k = 2 ∨ k = 3 ∨ k = 4 ∨ k = 5 := by omega
    rcases hq2 with rfl | rfl <;> rcases hk5 with rfl | rfl | rfl | rfl | rfl
    · exact qX9_ask_1_0 n hn en d hd ek
    · exact qX9_ask_2_0 n hn en d hd ek
    · exact qX9_ask_3_0 n hn en d hd ek
    · exact qX9_ask_4_0 n hn en d hd ek
    · exact qX9_ask_5_0 n hn en d hd ek
    · exact qX9_ask_1_1 n hn en d hd ek
    · exact qX9_ask_2_1 n hn en d hd ek
    · exact qX9_ask_3_1 n hn en d hd ek
    · exact qX9_ask_4_1 n hn en d hd ek
    · exact qX9_ask_5_1 n hn en d hd ek
  · exact qX9_ask_no n hn en hb
