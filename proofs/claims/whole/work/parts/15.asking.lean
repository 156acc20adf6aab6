def ztr (I : Nat → Nat → Int32) (n : Nat) (b : Int32) : Nat → Nat → Int32 := zup (zup I 84 n b) 83 2 (nI (n + 1))
theorem ztr_len (I : Nat → Nat → Int32) (n : Nat) (b : Int32) : ztr I n b 83 2 = nI (n + 1) := zup_same _ _ _ _
theorem ztr_ne (I : Nat → Nat → Int32) (n : Nat) (b : Int32) {a j : Nat} (h : a < 83) : ztr I n b a j = I a j := by
  unfold ztr; rw [zup_nk _ _ (by omega), zup_nk _ _ (by omega)]
set_option maxRecDepth 100000 in
set_option maxHeartbeats 4000000 in
theorem qX1_leave {l : zL} {I : Nat → Nat → Int32} {J : Nat → Nat → Int64} {nw : Bool} {b : Int32} (n : Nat) (hn : n < 16) (en : I 83 2 = nI n) : zP l mX1_leave [.ref 83, .int b] (hh I J nw) (zR none (ztr I n b, J, RF nw, SH)) := by
  refine z_start [.ref 83, .int b] (by decide +kernel) (Nat.le_of_ble_eq_true rfl) rfl ?_
  refine z_aload_0 (pc := 0) dX1_leave_0 ?_
  refine y_getI (pc := 1) dX1_leave_1 flX1_15 rfl (by first | rfl | assumption) ?_
  refine z_bipush (pc := 4) (16) dX1_leave_4 rfl ?_
  refine z_icmp_ge (pc := 6) (tgt := 29) dX1_leave_6 (by decide) (fun c6 => ?_) (fun c6 => ?_)
  · exact absurd (en ▸ c6) (nI_ge hn (by decide))
  · skip
    refine z_aload_0 (pc := 9) dX1_leave_9 ?_
    refine y_getR (pc := 10) dX1_leave_10 flX1_11 rfl (by first | rfl | assumption) (by first | rfl | assumption) ?_
    refine z_aload_0 (pc := 13) dX1_leave_13 ?_
    refine y_getI (pc := 14) dX1_leave_14 flX1_15 rfl (by first | rfl | assumption) ?_
    refine z_iload_1 (pc := 17) dX1_leave_17 ?_
    refine y_iastN (pc := 18) (n) dX1_leave_18 (by first | rfl | assumption) (en) (hn) (by first | decide | omega) ?_
    refine z_aload_0 (pc := 19) dX1_leave_19 ?_
    refine z_dup (pc := 20) rfl dX1_leave_20 ?_
    refine y_getI (pc := 21) dX1_leave_21 flX1_15 rfl (by first | rfl | assumption) ?_
    refine z_iconst (pc := 24) (1) dX1_leave_24 rfl ?_
    refine z_iadd (pc := 25) dX1_leave_25 ?_
    refine z_nm (y := nI (n + 1)) (by rw [zup_nk _ _ (by decide), en]; exact (nI_succ n).symm) ?_
    refine y_putI (pc := 26) dX1_leave_26 flX1_15 ffX1_15 rfl (by first | rfl | assumption) ⟨rfl, rfl⟩ ?_
    refine z_ret (pc := 29) (r := none) rfl dX1_leave_29 trivial rfl rfl ?_
    exact ⟨rfl, rfl⟩
set_option maxRecDepth 100000 in
set_option maxHeartbeats 4000000 in
theorem qX1_traced {l : zL} {I : Nat → Nat → Int32} {J : Nat → Nat → Int64} {nw : Bool} {x : Int32} (n : Nat) (hn : n ≤ 16) (en : I 83 2 = nI n) : zP l mX1_traced [.ref 83, .int x] (hh I J nw) (zR (some (.int (if x < 0 then -1000000 else if nI n ≤ x then -1000000 else I 84 x.toNatClampNeg))) (hh I J nw)) := by
  refine z_start [.ref 83, .int x] (by decide +kernel) (Nat.le_of_ble_eq_true rfl) rfl ?_
  refine z_iload_1 (pc := 0) dX1_traced_0 ?_
  refine z_if_lt (pc := 1) (tgt := 21) dX1_traced_1 (by decide) (fun c1 => ?_) (fun c1 => ?_)
  · skip
    refine z_ldc (pc := 21) dX1_traced_21 kcX1_38 ?_
    refine z_ret (pc := 23) (r := some (.int _)) rfl dX1_traced_23 trivial rfl rfl ?_
    refine ⟨?_, rfl⟩
    first | rw [if_pos c1] | (rw [en] at c9; first | rw [if_neg c1, if_pos c9] | rw [if_neg c1, if_neg c9])
  · skip
    refine z_iload_1 (pc := 4) dX1_traced_4 ?_
    refine z_aload_0 (pc := 5) dX1_traced_5 ?_
    refine y_getI (pc := 6) dX1_traced_6 flX1_15 rfl (by first | rfl | assumption) ?_
    refine z_icmp_ge (pc := 9) (tgt := 21) dX1_traced_9 (by decide) (fun c9 => ?_) (fun c9 => ?_)
    · skip
      refine z_ldc (pc := 21) dX1_traced_21 kcX1_38 ?_
      refine z_ret (pc := 23) (r := some (.int _)) rfl dX1_traced_23 trivial rfl rfl ?_
      refine ⟨?_, rfl⟩
      first | rw [if_pos c1] | (rw [en] at c9; first | rw [if_neg c1, if_pos c9] | rw [if_neg c1, if_neg c9])
    · skip
      refine z_aload_0 (pc := 12) dX1_traced_12 ?_
      refine y_getR (pc := 13) dX1_traced_13 flX1_11 rfl (by first | rfl | assumption) (by first | rfl | assumption) ?_
      refine z_iload_1 (pc := 16) dX1_traced_16 ?_
      have hin : vp_in x 16 := by
        rw [en] at c9
        obtain ⟨j, hj, rfl⟩ := (pk_ix x (n := n) (by omega)).resolve_left c1 |>.resolve_left c9
        exact vp_in_nI (by omega) (by decide)
      refine y_iald (pc := 17) dX1_traced_17 (by first | rfl | assumption) (by first | assumption | (unfold vp_in; decide)) ?_
      refine z_goto (pc := 18) (tgt := 23) dX1_traced_18 (by decide) ?_
      refine z_ret (pc := 23) (r := some (.int _)) rfl dX1_traced_23 trivial rfl rfl ?_
      refine ⟨?_, rfl⟩
      first | rw [if_pos c1] | (rw [en] at c9; first | rw [if_neg c1, if_pos c9] | rw [if_neg c1, if_neg c9])
set_option maxRecDepth 100000 in
set_option maxHeartbeats 4000000 in
theorem qG10 {l : zL} {I : Nat → Nat → Int32} {J : Nat → Nat → Int64} {nw : Bool} (d : Nat) (hd : d < 6) {x : Int32} (hx : x = nI d) (n : Nat) (hn : n + 1 ≤ 16) (en : I 83 2 = nI n) (e : Nat) {y : Int32} (hy : y = nI e) (he : e + 2 ≤ 12) : zP l (mX1_given 2) [.ref 83, .int 10, .int x, .int y] (hh I J nw) (zR (some (.int (I 17 d))) ((ztr I n 10), J, RF nw, SH)) := by
  refine z_start [.ref 83, .int 10, .int x, .int y, zno] (by decide +kernel) (Nat.le_of_ble_eq_true rfl) rfl ?_
  refine z_iload_3 (pc := 0) dX1_given_0 ?_
  refine z_bipush (pc := 1) (12) dX1_given_1 rfl ?_
  refine z_icmp_le (pc := 3) (tgt := 8) dX1_given_3 (by decide) (fun c3 => ?_) (fun c3 => ?_)
  · skip
    refine z_aload_0 (pc := 8) dX1_given_8 ?_
    refine z_iload_1 (pc := 9) dX1_given_9 ?_
    refine z_V1 (pc := 10) dX1_given_10 mlX1_39 kX1_leave vX1_leave (by decide) (by decide) (by first | rfl | assumption) (Nat.le_of_ble_eq_true rfl) (qX1_leave n (by omega) en) ⟨Nat.le_refl _, Nat.le_refl _⟩ (fun r h1 hq => ?_)
    obtain ⟨rfl, rfl⟩ := hq
    refine z_iload_3 (pc := 13) dX1_given_13 ?_
    refine z_iconst (pc := 14) (1) dX1_given_14 rfl ?_
    refine z_iadd (pc := 15) dX1_given_15 ?_
    refine z_istore_4 (pc := 16) dX1_given_16 (by decide) rfl ?_
    refine z_iload_1 (pc := 18) dX1_given_18 ?_
    refine z_tableIn (pc := 19) (tgt := 92) dX1_given_19 (by decide) (by decide) rfl (by decide) ?_
    refine z_aload_0 (pc := 92) dX1_given_92 ?_
    refine y_getR (pc := 93) dX1_given_93 flX1_19 rfl (by first | rfl | assumption) (by first | rfl | assumption) ?_
    refine y_getR (pc := 96) dX1_given_96 flX1_43 rfl (by first | rfl | assumption) (by first | rfl | assumption) ?_
    refine z_iload_2 (pc := 99) dX1_given_99 ?_
    refine y_ialdN (pc := 100) (d) dX1_given_100 (by first | rfl | assumption) (hx) (hd) (by first | decide | omega) ?_
    refine z_ret (pc := 101) (r := some (.int _)) rfl dX1_given_101 trivial rfl rfl ?_
    exact ⟨by simp [ztr_ne _ _ _ (show 16 < 83 by decide), ztr_ne _ _ _ (show 17 < 83 by decide), ztr_ne _ _ _ (show 18 < 83 by decide)], by simp [Nat.add_assoc]⟩
  · exact absurd (by rw [hy]; exact nI_le (b := 12) (by omega) (by decide)) c3
set_option maxRecDepth 100000 in
set_option maxHeartbeats 4000000 in
theorem qG20 {l : zL} {I : Nat → Nat → Int32} {J : Nat → Nat → Int64} {nw : Bool} (d : Nat) (hd : d < 6) {x : Int32} (hx : x = nI d) (n : Nat) (hn : n + 1 ≤ 16) (en : I 83 2 = nI n) (e : Nat) {y : Int32} (hy : y = nI e) (he : e + 2 ≤ 12) : zP l (mX1_given 2) [.ref 83, .int 20, .int x, .int y] (hh I J nw) (zR (some (.int (nI d))) ((ztr I n 20), J, RF nw, SH)) := by
  refine z_start [.ref 83, .int 20, .int x, .int y, zno] (by decide +kernel) (Nat.le_of_ble_eq_true rfl) rfl ?_
  refine z_iload_3 (pc := 0) dX1_given_0 ?_
  refine z_bipush (pc := 1) (12) dX1_given_1 rfl ?_
  refine z_icmp_le (pc := 3) (tgt := 8) dX1_given_3 (by decide) (fun c3 => ?_) (fun c3 => ?_)
  · skip
    refine z_aload_0 (pc := 8) dX1_given_8 ?_
    refine z_iload_1 (pc := 9) dX1_given_9 ?_
    refine z_V1 (pc := 10) dX1_given_10 mlX1_39 kX1_leave vX1_leave (by decide) (by decide) (by first | rfl | assumption) (Nat.le_of_ble_eq_true rfl) (qX1_leave n (by omega) en) ⟨Nat.le_refl _, Nat.le_refl _⟩ (fun r h1 hq => ?_)
    obtain ⟨rfl, rfl⟩ := hq
    refine z_iload_3 (pc := 13) dX1_given_13 ?_
    refine z_iconst (pc := 14) (1) dX1_given_14 rfl ?_
    refine z_iadd (pc := 15) dX1_given_15 ?_
    refine z_istore_4 (pc := 16) dX1_given_16 (by decide) rfl ?_
    refine z_iload_1 (pc := 18) dX1_given_18 ?_
    refine z_tableIn (pc := 19) (tgt := 246) dX1_given_19 (by decide) (by decide) rfl (by decide) ?_
    refine z_iload_2 (pc := 246) dX1_given_246 ?_
    refine z_ret (pc := 247) (r := some (.int _)) rfl dX1_given_247 trivial rfl rfl ?_
    exact ⟨by simp [ztr_ne _ _ _ (show 16 < 83 by decide), ztr_ne _ _ _ (show 17 < 83 by decide), ztr_ne _ _ _ (show 18 < 83 by decide), hx], by simp [Nat.add_assoc]⟩
  · exact absurd (by rw [hy]; exact nI_le (b := 12) (by omega) (by decide)) c3
set_option maxRecDepth 100000 in
set_option maxHeartbeats 4000000 in
theorem qG21 {l : zL} {I : Nat → Nat → Int32} {J : Nat → Nat → Int64} {nw : Bool} (d : Nat) (hd : d < 6) {x : Int32} (hx : x = nI d) (n : Nat) (hn : n + 2 ≤ 16) (en : I 83 2 = nI n) (e : Nat) {y : Int32} (hy : y = nI e) (he : e + 3 ≤ 12) : zP l (mX1_given 3) [.ref 83, .int 21, .int x, .int y] (hh I J nw) (zR (some (.int ((nI d) + I 18 d))) ((ztr (ztr I n 21) (n + 1) 20), J, RF nw, SH)) := by
  refine z_start [.ref 83, .int 21, .int x, .int y, zno] (by decide +kernel) (Nat.le_of_ble_eq_true rfl) rfl ?_
  refine z_iload_3 (pc := 0) dX1_given_0 ?_
  refine z_bipush (pc := 1) (12) dX1_given_1 rfl ?_
  refine z_icmp_le (pc := 3) (tgt := 8) dX1_given_3 (by decide) (fun c3 => ?_) (fun c3 => ?_)
  · skip
    refine z_aload_0 (pc := 8) dX1_given_8 ?_
    refine z_iload_1 (pc := 9) dX1_given_9 ?_
    refine z_V1 (pc := 10) dX1_given_10 mlX1_39 kX1_leave vX1_leave (by decide) (by decide) (by first | rfl | assumption) (Nat.le_of_ble_eq_true rfl) (qX1_leave n (by omega) en) ⟨Nat.le_refl _, Nat.le_refl _⟩ (fun r h1 hq => ?_)
    obtain ⟨rfl, rfl⟩ := hq
    refine z_iload_3 (pc := 13) dX1_given_13 ?_
    refine z_iconst (pc := 14) (1) dX1_given_14 rfl ?_
    refine z_iadd (pc := 15) dX1_given_15 ?_
    refine z_istore_4 (pc := 16) dX1_given_16 (by decide) rfl ?_
    refine z_iload_1 (pc := 18) dX1_given_18 ?_
    refine z_tableIn (pc := 19) (tgt := 169) dX1_given_19 (by decide) (by decide) rfl (by decide) ?_
    refine z_aload_0 (pc := 169) dX1_given_169 ?_
    refine z_bipush (pc := 170) (20) dX1_given_170 rfl ?_
    refine z_iload_2 (pc := 172) dX1_given_172 ?_
    refine z_iload_4 (pc := 173) dX1_given_173 ?_
    refine z_V3 (pc := 175) dX1_given_175 (mlX1_31 _) (kX1_given _) (vX1_given _) (by decide) (by decide) rfl (Nat.le_of_ble_eq_true rfl) (qG20 d hd hx (n + 1) (by omega) (ztr_len _ _ _) (e + 1) (by rw [hy]; exact (nI_succ e).symm) (by omega)) ⟨Nat.le_refl _, Nat.le_refl _⟩ (fun r h1 hq => ?_)
    obtain ⟨rfl, rfl⟩ := hq
    refine z_aload_0 (pc := 178) dX1_given_178 ?_
    refine y_getR (pc := 179) dX1_given_179 flX1_19 rfl (by first | rfl | assumption) (by first | rfl | assumption) ?_
    refine y_getR (pc := 182) dX1_given_182 flX1_46 rfl (by first | rfl | assumption) (by first | rfl | assumption) ?_
    refine z_iload_2 (pc := 185) dX1_given_185 ?_
    refine y_ialdN (pc := 186) (d) dX1_given_186 (by first | rfl | assumption) (hx) (hd) (by first | decide | omega) ?_
    refine z_iadd (pc := 187) dX1_given_187 ?_
    refine z_ret (pc := 188) (r := some (.int _)) rfl dX1_given_188 trivial rfl rfl ?_
    exact ⟨by simp [ztr_ne _ _ _ (show 16 < 83 by decide), ztr_ne _ _ _ (show 17 < 83 by decide), ztr_ne _ _ _ (show 18 < 83 by decide)], by simp [Nat.add_assoc]⟩
  · exact absurd (by rw [hy]; exact nI_le (b := 12) (by omega) (by decide)) c3
set_option maxRecDepth 100000 in
set_option maxHeartbeats 4000000 in
theorem qG11_1 {l : zL} {I : Nat → Nat → Int32} {J : Nat → Nat → Int64} {nw : Bool} (d : Nat) (hd : d < 6) {x : Int32} (hx : x = nI d) (n : Nat) (hn : n + 4 ≤ 16) (en : I 83 2 = nI n) (e : Nat) {y : Int32} (hy : y = nI e) (he : e + 4 ≤ 12) (ek : I 16 d = nI 1) : zP l (mX1_given 4) [.ref 83, .int 11, .int x, .int y] (hh I J nw) (zR (some (.int ((I 17 d) + ((nI d) + I 18 d)))) ((ztr (ztr (ztr (ztr I n 11) (n + 1) 10) (n + 2) 21) (n + 3) 20), J, RF nw, SH)) := by
  refine z_start [.ref 83, .int 11, .int x, .int y, zno] (by decide +kernel) (Nat.le_of_ble_eq_true rfl) rfl ?_
  refine z_iload_3 (pc := 0) dX1_given_0 ?_
  refine z_bipush (pc := 1) (12) dX1_given_1 rfl ?_
  refine z_icmp_le (pc := 3) (tgt := 8) dX1_given_3 (by decide) (fun c3 => ?_) (fun c3 => ?_)
  · skip
    refine z_aload_0 (pc := 8) dX1_given_8 ?_
    refine z_iload_1 (pc := 9) dX1_given_9 ?_
    refine z_V1 (pc := 10) dX1_given_10 mlX1_39 kX1_leave vX1_leave (by decide) (by decide) (by first | rfl | assumption) (Nat.le_of_ble_eq_true rfl) (qX1_leave n (by omega) en) ⟨Nat.le_refl _, Nat.le_refl _⟩ (fun r h1 hq => ?_)
    obtain ⟨rfl, rfl⟩ := hq
    refine z_iload_3 (pc := 13) dX1_given_13 ?_
    refine z_iconst (pc := 14) (1) dX1_given_14 rfl ?_
    refine z_iadd (pc := 15) dX1_given_15 ?_
    refine z_istore_4 (pc := 16) dX1_given_16 (by decide) rfl ?_
    refine z_iload_1 (pc := 18) dX1_given_18 ?_
    refine z_tableIn (pc := 19) (tgt := 102) dX1_given_19 (by decide) (by decide) rfl (by decide) ?_
    refine z_aload_0 (pc := 102) dX1_given_102 ?_
    refine z_bipush (pc := 103) (10) dX1_given_103 rfl ?_
    refine z_iload_2 (pc := 105) dX1_given_105 ?_
    refine z_iload_4 (pc := 106) dX1_given_106 ?_
    refine z_V3 (pc := 108) dX1_given_108 (mlX1_31 _) (kX1_given _) (vX1_given _) (by decide) (by decide) rfl (Nat.le_of_ble_eq_true rfl) (qG10 d hd hx (n + 1) (by omega) (ztr_len _ _ _) (e + 1) (by rw [hy]; exact (nI_succ e).symm) (by omega)) ⟨Nat.le_refl _, Nat.le_refl _⟩ (fun r h1 hq => ?_)
    obtain ⟨rfl, rfl⟩ := hq
    refine z_aload_0 (pc := 111) dX1_given_111 ?_
    refine z_gets1 (pc := 112) dX1_given_112 flX1_35 ?_
    refine z_aload_0 (pc := 115) dX1_given_115 ?_
    refine y_getR (pc := 116) dX1_given_116 flX1_19 rfl (by first | rfl | assumption) (by first | rfl | assumption) ?_
    refine y_getR (pc := 119) dX1_given_119 flX1_26 rfl (by first | rfl | assumption) (by first | rfl | assumption) ?_
    refine z_iload_2 (pc := 122) dX1_given_122 ?_
    refine y_ialdN (pc := 123) (d) dX1_given_123 (by first | rfl | assumption) (hx) (hd) (by first | decide | omega) ?_
    refine z_tab1 (pc := 124) dX1_given_124 ?_ ?_
    · simp only [ztr_ne _ _ _ (show 16 < 83 by decide)]; rw [ek]; unfold vp_in; decide
    refine z_nm (y := 21) (by simp only [ztr_ne _ _ _ (show 16 < 83 by decide)]; rw [ek]; decide) ?_
    refine z_iload_2 (pc := 125) dX1_given_125 ?_
    refine z_iload_4 (pc := 126) dX1_given_126 ?_
    refine z_V3 (pc := 128) dX1_given_128 (mlX1_31 _) (kX1_given _) (vX1_given _) (by decide) (by decide) rfl (Nat.le_of_ble_eq_true rfl) (qG21 d hd hx (n + 1 + 1) (by omega) (ztr_len _ _ _) (e + 1) (by rw [hy]; exact (nI_succ e).symm) (by omega)) ⟨Nat.le_refl _, Nat.le_refl _⟩ (fun r h1 hq => ?_)
    obtain ⟨rfl, rfl⟩ := hq
    refine z_iadd (pc := 131) dX1_given_131 ?_
    refine z_ret (pc := 132) (r := some (.int _)) rfl dX1_given_132 trivial rfl rfl ?_
    exact ⟨by simp [ztr_ne _ _ _ (show 16 < 83 by decide), ztr_ne _ _ _ (show 17 < 83 by decide), ztr_ne _ _ _ (show 18 < 83 by decide)], by simp [Nat.add_assoc]⟩
  · exact absurd (by rw [hy]; exact nI_le (b := 12) (by omega) (by decide)) c3
set_option maxRecDepth 100000 in
set_option maxHeartbeats 4000000 in
theorem qG24 {l : zL} {I : Nat → Nat → Int32} {J : Nat → Nat → Int64} {nw : Bool} (d : Nat) (hd : d < 6) {x : Int32} (hx : x = nI d) (n : Nat) (hn : n + 3 ≤ 16) (en : I 83 2 = nI n) (e : Nat) {y : Int32} (hy : y = nI e) (he : e + 4 ≤ 12) : zP l (mX1_given 4) [.ref 83, .int 24, .int x, .int y] (hh I J nw) (zR (some (.int (2 * ((nI d) + I 18 d)))) ((ztr (ztr (ztr I n 24) (n + 1) 21) (n + 2) 20), J, RF nw, SH)) := by
  refine z_start [.ref 83, .int 24, .int x, .int y, zno] (by decide +kernel) (Nat.le_of_ble_eq_true rfl) rfl ?_
  refine z_iload_3 (pc := 0) dX1_given_0 ?_
  refine z_bipush (pc := 1) (12) dX1_given_1 rfl ?_
  refine z_icmp_le (pc := 3) (tgt := 8) dX1_given_3 (by decide) (fun c3 => ?_) (fun c3 => ?_)
  · skip
    refine z_aload_0 (pc := 8) dX1_given_8 ?_
    refine z_iload_1 (pc := 9) dX1_given_9 ?_
    refine z_V1 (pc := 10) dX1_given_10 mlX1_39 kX1_leave vX1_leave (by decide) (by decide) (by first | rfl | assumption) (Nat.le_of_ble_eq_true rfl) (qX1_leave n (by omega) en) ⟨Nat.le_refl _, Nat.le_refl _⟩ (fun r h1 hq => ?_)
    obtain ⟨rfl, rfl⟩ := hq
    refine z_iload_3 (pc := 13) dX1_given_13 ?_
    refine z_iconst (pc := 14) (1) dX1_given_14 rfl ?_
    refine z_iadd (pc := 15) dX1_given_15 ?_
    refine z_istore_4 (pc := 16) dX1_given_16 (by decide) rfl ?_
    refine z_iload_1 (pc := 18) dX1_given_18 ?_
    refine z_tableIn (pc := 19) (tgt := 234) dX1_given_19 (by decide) (by decide) rfl (by decide) ?_
    refine z_iconst (pc := 234) (2) dX1_given_234 rfl ?_
    refine z_aload_0 (pc := 235) dX1_given_235 ?_
    refine z_bipush (pc := 236) (21) dX1_given_236 rfl ?_
    refine z_iload_2 (pc := 238) dX1_given_238 ?_
    refine z_iload_4 (pc := 239) dX1_given_239 ?_
    refine z_V3 (pc := 241) dX1_given_241 (mlX1_31 _) (kX1_given _) (vX1_given _) (by decide) (by decide) rfl (Nat.le_of_ble_eq_true rfl) (qG21 d hd hx (n + 1) (by omega) (ztr_len _ _ _) (e + 1) (by rw [hy]; exact (nI_succ e).symm) (by omega)) ⟨Nat.le_refl _, Nat.le_refl _⟩ (fun r h1 hq => ?_)
    obtain ⟨rfl, rfl⟩ := hq
    refine z_imul (pc := 244) dX1_given_244 ?_
    refine z_ret (pc := 245) (r := some (.int _)) rfl dX1_given_245 trivial rfl rfl ?_
    exact ⟨by simp [ztr_ne _ _ _ (show 16 < 83 by decide), ztr_ne _ _ _ (show 17 < 83 by decide), ztr_ne _ _ _ (show 18 < 83 by decide)], by simp [Nat.add_assoc]⟩
  · exact absurd (by rw [hy]; exact nI_le (b := 12) (by omega) (by decide)) c3
set_option maxRecDepth 100000 in
set_option maxHeartbeats 4000000 in
theorem qG11_2 {l : zL} {I : Nat → Nat → Int32} {J : Nat → Nat → Int64} {nw : Bool} (d : Nat) (hd : d < 6) {x : Int32} (hx : x = nI d) (n : Nat) (hn : n + 5 ≤ 16) (en : I 83 2 = nI n) (e : Nat) {y : Int32} (hy : y = nI e) (he : e + 5 ≤ 12) (ek : I 16 d = nI 2) : zP l (mX1_given 5) [.ref 83, .int 11, .int x, .int y] (hh I J nw) (zR (some (.int ((I 17 d) + (2 * ((nI d) + I 18 d))))) ((ztr (ztr (ztr (ztr (ztr I n 11) (n + 1) 10) (n + 2) 24) (n + 3) 21) (n + 4) 20), J, RF nw, SH)) := by
  refine z_start [.ref 83, .int 11, .int x, .int y, zno] (by decide +kernel) (Nat.le_of_ble_eq_true rfl) rfl ?_
  refine z_iload_3 (pc := 0) dX1_given_0 ?_
  refine z_bipush (pc := 1) (12) dX1_given_1 rfl ?_
  refine z_icmp_le (pc := 3) (tgt := 8) dX1_given_3 (by decide) (fun c3 => ?_) (fun c3 => ?_)
  · skip
    refine z_aload_0 (pc := 8) dX1_given_8 ?_
    refine z_iload_1 (pc := 9) dX1_given_9 ?_
    refine z_V1 (pc := 10) dX1_given_10 mlX1_39 kX1_leave vX1_leave (by decide) (by decide) (by first | rfl | assumption) (Nat.le_of_ble_eq_true rfl) (qX1_leave n (by omega) en) ⟨Nat.le_refl _, Nat.le_refl _⟩ (fun r h1 hq => ?_)
    obtain ⟨rfl, rfl⟩ := hq
    refine z_iload_3 (pc := 13) dX1_given_13 ?_
    refine z_iconst (pc := 14) (1) dX1_given_14 rfl ?_
    refine z_iadd (pc := 15) dX1_given_15 ?_
    refine z_istore_4 (pc := 16) dX1_given_16 (by decide) rfl ?_
    refine z_iload_1 (pc := 18) dX1_given_18 ?_
    refine z_tableIn (pc := 19) (tgt := 102) dX1_given_19 (by decide) (by decide) rfl (by decide) ?_
    refine z_aload_0 (pc := 102) dX1_given_102 ?_
    refine z_bipush (pc := 103) (10) dX1_given_103 rfl ?_
    refine z_iload_2 (pc := 105) dX1_given_105 ?_
    refine z_iload_4 (pc := 106) dX1_given_106 ?_
    refine z_V3 (pc := 108) dX1_given_108 (mlX1_31 _) (kX1_given _) (vX1_given _) (by decide) (by decide) rfl (Nat.le_of_ble_eq_true rfl) (qG10 d hd hx (n + 1) (by omega) (ztr_len _ _ _) (e + 1) (by rw [hy]; exact (nI_succ e).symm) (by omega)) ⟨Nat.le_refl _, Nat.le_refl _⟩ (fun r h1 hq => ?_)
    obtain ⟨rfl, rfl⟩ := hq
    refine z_aload_0 (pc := 111) dX1_given_111 ?_
    refine z_gets1 (pc := 112) dX1_given_112 flX1_35 ?_
    refine z_aload_0 (pc := 115) dX1_given_115 ?_
    refine y_getR (pc := 116) dX1_given_116 flX1_19 rfl (by first | rfl | assumption) (by first | rfl | assumption) ?_
    refine y_getR (pc := 119) dX1_given_119 flX1_26 rfl (by first | rfl | assumption) (by first | rfl | assumption) ?_
    refine z_iload_2 (pc := 122) dX1_given_122 ?_
    refine y_ialdN (pc := 123) (d) dX1_given_123 (by first | rfl | assumption) (hx) (hd) (by first | decide | omega) ?_
    refine z_tab1 (pc := 124) dX1_given_124 ?_ ?_
    · simp only [ztr_ne _ _ _ (show 16 < 83 by decide)]; rw [ek]; unfold vp_in; decide
    refine z_nm (y := 24) (by simp only [ztr_ne _ _ _ (show 16 < 83 by decide)]; rw [ek]; decide) ?_
    refine z_iload_2 (pc := 125) dX1_given_125 ?_
    refine z_iload_4 (pc := 126) dX1_given_126 ?_
    refine z_V3 (pc := 128) dX1_given_128 (mlX1_31 _) (kX1_given _) (vX1_given _) (by decide) (by decide) rfl (Nat.le_of_ble_eq_true rfl) (qG24 d hd hx (n + 1 + 1) (by omega) (ztr_len _ _ _) (e + 1) (by rw [hy]; exact (nI_succ e).symm) (by omega)) ⟨Nat.le_refl _, Nat.le_refl _⟩ (fun r h1 hq => ?_)
    obtain ⟨rfl, rfl⟩ := hq
    refine z_iadd (pc := 131) dX1_given_131 ?_
    refine z_ret (pc := 132) (r := some (.int _)) rfl dX1_given_132 trivial rfl rfl ?_
    exact ⟨by simp [ztr_ne _ _ _ (show 16 < 83 by decide), ztr_ne _ _ _ (show 17 < 83 by decide), ztr_ne _ _ _ (show 18 < 83 by decide)], by simp [Nat.add_assoc]⟩
  · exact absurd (by rw [hy]; exact nI_le (b := 12) (by omega) (by decide)) c3
set_option maxRecDepth 100000 in
set_option maxHeartbeats 4000000 in
theorem qG12_2 {l : zL} {I : Nat → Nat → Int32} {J : Nat → Nat → Int64} {nw : Bool} (d : Nat) (hd : d < 6) {x : Int32} (hx : x = nI d) (n : Nat) (hn : n + 6 ≤ 16) (en : I 83 2 = nI n) (e : Nat) {y : Int32} (hy : y = nI e) (he : e + 6 ≤ 12) (ek : I 16 d = nI 2) : zP l (mX1_given 6) [.ref 83, .int 12, .int x, .int y] (hh I J nw) (zR (some (.int (-((I 17 d) + (2 * ((nI d) + I 18 d)))))) ((ztr (ztr (ztr (ztr (ztr (ztr I n 12) (n + 1) 11) (n + 2) 10) (n + 3) 24) (n + 4) 21) (n + 5) 20), J, RF nw, SH)) := by
  refine z_start [.ref 83, .int 12, .int x, .int y, zno] (by decide +kernel) (Nat.le_of_ble_eq_true rfl) rfl ?_
  refine z_iload_3 (pc := 0) dX1_given_0 ?_
  refine z_bipush (pc := 1) (12) dX1_given_1 rfl ?_
  refine z_icmp_le (pc := 3) (tgt := 8) dX1_given_3 (by decide) (fun c3 => ?_) (fun c3 => ?_)
  · skip
    refine z_aload_0 (pc := 8) dX1_given_8 ?_
    refine z_iload_1 (pc := 9) dX1_given_9 ?_
    refine z_V1 (pc := 10) dX1_given_10 mlX1_39 kX1_leave vX1_leave (by decide) (by decide) (by first | rfl | assumption) (Nat.le_of_ble_eq_true rfl) (qX1_leave n (by omega) en) ⟨Nat.le_refl _, Nat.le_refl _⟩ (fun r h1 hq => ?_)
    obtain ⟨rfl, rfl⟩ := hq
    refine z_iload_3 (pc := 13) dX1_given_13 ?_
    refine z_iconst (pc := 14) (1) dX1_given_14 rfl ?_
    refine z_iadd (pc := 15) dX1_given_15 ?_
    refine z_istore_4 (pc := 16) dX1_given_16 (by decide) rfl ?_
    refine z_iload_1 (pc := 18) dX1_given_18 ?_
    refine z_tableIn (pc := 19) (tgt := 133) dX1_given_19 (by decide) (by decide) rfl (by decide) ?_
    refine z_aload_0 (pc := 133) dX1_given_133 ?_
    refine z_bipush (pc := 134) (11) dX1_given_134 rfl ?_
    refine z_iload_2 (pc := 136) dX1_given_136 ?_
    refine z_iload_4 (pc := 137) dX1_given_137 ?_
    refine z_V3 (pc := 139) dX1_given_139 (mlX1_31 _) (kX1_given _) (vX1_given _) (by decide) (by decide) rfl (Nat.le_of_ble_eq_true rfl) (qG11_2 d hd hx (n + 1) (by omega) (ztr_len _ _ _) (e + 1) (by rw [hy]; exact (nI_succ e).symm) (by omega) (by simp only [ztr_ne _ _ _ (show 16 < 83 by decide)]; exact ek)) ⟨Nat.le_refl _, Nat.le_refl _⟩ (fun r h1 hq => ?_)
    obtain ⟨rfl, rfl⟩ := hq
    refine z_ineg (pc := 142) dX1_given_142 ?_
    refine z_ret (pc := 143) (r := some (.int _)) rfl dX1_given_143 trivial rfl rfl ?_
    exact ⟨by simp [ztr_ne _ _ _ (show 16 < 83 by decide), ztr_ne _ _ _ (show 17 < 83 by decide), ztr_ne _ _ _ (show 18 < 83 by decide)], by simp [Nat.add_assoc]⟩
  · exact absurd (by rw [hy]; exact nI_le (b := 12) (by omega) (by decide)) c3
set_option maxRecDepth 100000 in
set_option maxHeartbeats 4000000 in
theorem qG22 {l : zL} {I : Nat → Nat → Int32} {J : Nat → Nat → Int64} {nw : Bool} (d : Nat) (hd : d < 6) {x : Int32} (hx : x = nI d) (n : Nat) (hn : n + 3 ≤ 16) (en : I 83 2 = nI n) (e : Nat) {y : Int32} (hy : y = nI e) (he : e + 4 ≤ 12) : zP l (mX1_given 4) [.ref 83, .int 22, .int x, .int y] (hh I J nw) (zR (some (.int (((nI d) + I 18 d) - 1000))) ((ztr (ztr (ztr I n 22) (n + 1) 21) (n + 2) 20), J, RF nw, SH)) := by
  refine z_start [.ref 83, .int 22, .int x, .int y, zno] (by decide +kernel) (Nat.le_of_ble_eq_true rfl) rfl ?_
  refine z_iload_3 (pc := 0) dX1_given_0 ?_
  refine z_bipush (pc := 1) (12) dX1_given_1 rfl ?_
  refine z_icmp_le (pc := 3) (tgt := 8) dX1_given_3 (by decide) (fun c3 => ?_) (fun c3 => ?_)
  · skip
    refine z_aload_0 (pc := 8) dX1_given_8 ?_
    refine z_iload_1 (pc := 9) dX1_given_9 ?_
    refine z_V1 (pc := 10) dX1_given_10 mlX1_39 kX1_leave vX1_leave (by decide) (by decide) (by first | rfl | assumption) (Nat.le_of_ble_eq_true rfl) (qX1_leave n (by omega) en) ⟨Nat.le_refl _, Nat.le_refl _⟩ (fun r h1 hq => ?_)
    obtain ⟨rfl, rfl⟩ := hq
    refine z_iload_3 (pc := 13) dX1_given_13 ?_
    refine z_iconst (pc := 14) (1) dX1_given_14 rfl ?_
    refine z_iadd (pc := 15) dX1_given_15 ?_
    refine z_istore_4 (pc := 16) dX1_given_16 (by decide) rfl ?_
    refine z_iload_1 (pc := 18) dX1_given_18 ?_
    refine z_tableIn (pc := 19) (tgt := 189) dX1_given_19 (by decide) (by decide) rfl (by decide) ?_
    refine z_aload_0 (pc := 189) dX1_given_189 ?_
    refine z_bipush (pc := 190) (21) dX1_given_190 rfl ?_
    refine z_iload_2 (pc := 192) dX1_given_192 ?_
    refine z_iload_4 (pc := 193) dX1_given_193 ?_
    refine z_V3 (pc := 195) dX1_given_195 (mlX1_31 _) (kX1_given _) (vX1_given _) (by decide) (by decide) rfl (Nat.le_of_ble_eq_true rfl) (qG21 d hd hx (n + 1) (by omega) (ztr_len _ _ _) (e + 1) (by rw [hy]; exact (nI_succ e).symm) (by omega)) ⟨Nat.le_refl _, Nat.le_refl _⟩ (fun r h1 hq => ?_)
    obtain ⟨rfl, rfl⟩ := hq
    refine z_sipush (pc := 198) (1000) dX1_given_198 rfl ?_
    refine z_isub (pc := 201) dX1_given_201 ?_
    refine z_ret (pc := 202) (r := some (.int _)) rfl dX1_given_202 trivial rfl rfl ?_
    exact ⟨by simp [ztr_ne _ _ _ (show 16 < 83 by decide), ztr_ne _ _ _ (show 17 < 83 by decide), ztr_ne _ _ _ (show 18 < 83 by decide)], by simp [Nat.add_assoc]⟩
  · exact absurd (by rw [hy]; exact nI_le (b := 12) (by omega) (by decide)) c3
set_option maxRecDepth 100000 in
set_option maxHeartbeats 4000000 in
theorem qG11_3 {l : zL} {I : Nat → Nat → Int32} {J : Nat → Nat → Int64} {nw : Bool} (d : Nat) (hd : d < 6) {x : Int32} (hx : x = nI d) (n : Nat) (hn : n + 5 ≤ 16) (en : I 83 2 = nI n) (e : Nat) {y : Int32} (hy : y = nI e) (he : e + 5 ≤ 12) (ek : I 16 d = nI 3) : zP l (mX1_given 5) [.ref 83, .int 11, .int x, .int y] (hh I J nw) (zR (some (.int ((I 17 d) + (((nI d) + I 18 d) - 1000)))) ((ztr (ztr (ztr (ztr (ztr I n 11) (n + 1) 10) (n + 2) 22) (n + 3) 21) (n + 4) 20), J, RF nw, SH)) := by
  refine z_start [.ref 83, .int 11, .int x, .int y, zno] (by decide +kernel) (Nat.le_of_ble_eq_true rfl) rfl ?_
  refine z_iload_3 (pc := 0) dX1_given_0 ?_
  refine z_bipush (pc := 1) (12) dX1_given_1 rfl ?_
  refine z_icmp_le (pc := 3) (tgt := 8) dX1_given_3 (by decide) (fun c3 => ?_) (fun c3 => ?_)
  · skip
    refine z_aload_0 (pc := 8) dX1_given_8 ?_
    refine z_iload_1 (pc := 9) dX1_given_9 ?_
    refine z_V1 (pc := 10) dX1_given_10 mlX1_39 kX1_leave vX1_leave (by decide) (by decide) (by first | rfl | assumption) (Nat.le_of_ble_eq_true rfl) (qX1_leave n (by omega) en) ⟨Nat.le_refl _, Nat.le_refl _⟩ (fun r h1 hq => ?_)
    obtain ⟨rfl, rfl⟩ := hq
    refine z_iload_3 (pc := 13) dX1_given_13 ?_
    refine z_iconst (pc := 14) (1) dX1_given_14 rfl ?_
    refine z_iadd (pc := 15) dX1_given_15 ?_
    refine z_istore_4 (pc := 16) dX1_given_16 (by decide) rfl ?_
    refine z_iload_1 (pc := 18) dX1_given_18 ?_
    refine z_tableIn (pc := 19) (tgt := 102) dX1_given_19 (by decide) (by decide) rfl (by decide) ?_
    refine z_aload_0 (pc := 102) dX1_given_102 ?_
    refine z_bipush (pc := 103) (10) dX1_given_103 rfl ?_
    refine z_iload_2 (pc := 105) dX1_given_105 ?_
    refine z_iload_4 (pc := 106) dX1_given_106 ?_
    refine z_V3 (pc := 108) dX1_given_108 (mlX1_31 _) (kX1_given _) (vX1_given _) (by decide) (by decide) rfl (Nat.le_of_ble_eq_true rfl) (qG10 d hd hx (n + 1) (by omega) (ztr_len _ _ _) (e + 1) (by rw [hy]; exact (nI_succ e).symm) (by omega)) ⟨Nat.le_refl _, Nat.le_refl _⟩ (fun r h1 hq => ?_)
    obtain ⟨rfl, rfl⟩ := hq
    refine z_aload_0 (pc := 111) dX1_given_111 ?_
    refine z_gets1 (pc := 112) dX1_given_112 flX1_35 ?_
    refine z_aload_0 (pc := 115) dX1_given_115 ?_
    refine y_getR (pc := 116) dX1_given_116 flX1_19 rfl (by first | rfl | assumption) (by first | rfl | assumption) ?_
    refine y_getR (pc := 119) dX1_given_119 flX1_26 rfl (by first | rfl | assumption) (by first | rfl | assumption) ?_
    refine z_iload_2 (pc := 122) dX1_given_122 ?_
    refine y_ialdN (pc := 123) (d) dX1_given_123 (by first | rfl | assumption) (hx) (hd) (by first | decide | omega) ?_
    refine z_tab1 (pc := 124) dX1_given_124 ?_ ?_
    · simp only [ztr_ne _ _ _ (show 16 < 83 by decide)]; rw [ek]; unfold vp_in; decide
    refine z_nm (y := 22) (by simp only [ztr_ne _ _ _ (show 16 < 83 by decide)]; rw [ek]; decide) ?_
    refine z_iload_2 (pc := 125) dX1_given_125 ?_
    refine z_iload_4 (pc := 126) dX1_given_126 ?_
    refine z_V3 (pc := 128) dX1_given_128 (mlX1_31 _) (kX1_given _) (vX1_given _) (by decide) (by decide) rfl (Nat.le_of_ble_eq_true rfl) (qG22 d hd hx (n + 1 + 1) (by omega) (ztr_len _ _ _) (e + 1) (by rw [hy]; exact (nI_succ e).symm) (by omega)) ⟨Nat.le_refl _, Nat.le_refl _⟩ (fun r h1 hq => ?_)
    obtain ⟨rfl, rfl⟩ := hq
    refine z_iadd (pc := 131) dX1_given_131 ?_
    refine z_ret (pc := 132) (r := some (.int _)) rfl dX1_given_132 trivial rfl rfl ?_
    exact ⟨by simp [ztr_ne _ _ _ (show 16 < 83 by decide), ztr_ne _ _ _ (show 17 < 83 by decide), ztr_ne _ _ _ (show 18 < 83 by decide)], by simp [Nat.add_assoc]⟩
  · exact absurd (by rw [hy]; exact nI_le (b := 12) (by omega) (by decide)) c3
set_option maxRecDepth 100000 in
set_option maxHeartbeats 4000000 in
theorem qG13 {l : zL} {I : Nat → Nat → Int32} {J : Nat → Nat → Int64} {nw : Bool} (d : Nat) (hd : d < 6) {x : Int32} (hx : x = nI d) (n : Nat) (hn : n + 2 ≤ 16) (en : I 83 2 = nI n) (e : Nat) {y : Int32} (hy : y = nI e) (he : e + 3 ≤ 12) : zP l (mX1_given 3) [.ref 83, .int 13, .int x, .int y] (hh I J nw) (zR (some (.int ((I 17 d) - 100))) ((ztr (ztr I n 13) (n + 1) 10), J, RF nw, SH)) := by
  refine z_start [.ref 83, .int 13, .int x, .int y, zno] (by decide +kernel) (Nat.le_of_ble_eq_true rfl) rfl ?_
  refine z_iload_3 (pc := 0) dX1_given_0 ?_
  refine z_bipush (pc := 1) (12) dX1_given_1 rfl ?_
  refine z_icmp_le (pc := 3) (tgt := 8) dX1_given_3 (by decide) (fun c3 => ?_) (fun c3 => ?_)
  · skip
    refine z_aload_0 (pc := 8) dX1_given_8 ?_
    refine z_iload_1 (pc := 9) dX1_given_9 ?_
    refine z_V1 (pc := 10) dX1_given_10 mlX1_39 kX1_leave vX1_leave (by decide) (by decide) (by first | rfl | assumption) (Nat.le_of_ble_eq_true rfl) (qX1_leave n (by omega) en) ⟨Nat.le_refl _, Nat.le_refl _⟩ (fun r h1 hq => ?_)
    obtain ⟨rfl, rfl⟩ := hq
    refine z_iload_3 (pc := 13) dX1_given_13 ?_
    refine z_iconst (pc := 14) (1) dX1_given_14 rfl ?_
    refine z_iadd (pc := 15) dX1_given_15 ?_
    refine z_istore_4 (pc := 16) dX1_given_16 (by decide) rfl ?_
    refine z_iload_1 (pc := 18) dX1_given_18 ?_
    refine z_tableIn (pc := 19) (tgt := 144) dX1_given_19 (by decide) (by decide) rfl (by decide) ?_
    refine z_aload_0 (pc := 144) dX1_given_144 ?_
    refine z_bipush (pc := 145) (10) dX1_given_145 rfl ?_
    refine z_iload_2 (pc := 147) dX1_given_147 ?_
    refine z_iload_4 (pc := 148) dX1_given_148 ?_
    refine z_V3 (pc := 150) dX1_given_150 (mlX1_31 _) (kX1_given _) (vX1_given _) (by decide) (by decide) rfl (Nat.le_of_ble_eq_true rfl) (qG10 d hd hx (n + 1) (by omega) (ztr_len _ _ _) (e + 1) (by rw [hy]; exact (nI_succ e).symm) (by omega)) ⟨Nat.le_refl _, Nat.le_refl _⟩ (fun r h1 hq => ?_)
    obtain ⟨rfl, rfl⟩ := hq
    refine z_bipush (pc := 153) (100) dX1_given_153 rfl ?_
    refine z_isub (pc := 155) dX1_given_155 ?_
    refine z_ret (pc := 156) (r := some (.int _)) rfl dX1_given_156 trivial rfl rfl ?_
    exact ⟨by simp [ztr_ne _ _ _ (show 16 < 83 by decide), ztr_ne _ _ _ (show 17 < 83 by decide), ztr_ne _ _ _ (show 18 < 83 by decide)], by simp [Nat.add_assoc]⟩
  · exact absurd (by rw [hy]; exact nI_le (b := 12) (by omega) (by decide)) c3
set_option maxRecDepth 100000 in
set_option maxHeartbeats 4000000 in
theorem qG23_4 {l : zL} {I : Nat → Nat → Int32} {J : Nat → Nat → Int64} {nw : Bool} (d : Nat) (hd : d < 6) {x : Int32} (hx : x = nI d) (n : Nat) (hn : n + 4 ≤ 16) (en : I 83 2 = nI n) (e : Nat) {y : Int32} (hy : y = nI e) (he : e + 4 ≤ 12) (ek : I 16 d = nI 4) : zP l (mX1_given 4) [.ref 83, .int 23, .int x, .int y] (hh I J nw) (zR (some (.int ((nI d) - ((I 17 d) - 100)))) ((ztr (ztr (ztr (ztr I n 23) (n + 1) 20) (n + 2) 13) (n + 3) 10), J, RF nw, SH)) := by
  refine z_start [.ref 83, .int 23, .int x, .int y, zno] (by decide +kernel) (Nat.le_of_ble_eq_true rfl) rfl ?_
  refine z_iload_3 (pc := 0) dX1_given_0 ?_
  refine z_bipush (pc := 1) (12) dX1_given_1 rfl ?_
  refine z_icmp_le (pc := 3) (tgt := 8) dX1_given_3 (by decide) (fun c3 => ?_) (fun c3 => ?_)
  · skip
    refine z_aload_0 (pc := 8) dX1_given_8 ?_
    refine z_iload_1 (pc := 9) dX1_given_9 ?_
    refine z_V1 (pc := 10) dX1_given_10 mlX1_39 kX1_leave vX1_leave (by decide) (by decide) (by first | rfl | assumption) (Nat.le_of_ble_eq_true rfl) (qX1_leave n (by omega) en) ⟨Nat.le_refl _, Nat.le_refl _⟩ (fun r h1 hq => ?_)
    obtain ⟨rfl, rfl⟩ := hq
    refine z_iload_3 (pc := 13) dX1_given_13 ?_
    refine z_iconst (pc := 14) (1) dX1_given_14 rfl ?_
    refine z_iadd (pc := 15) dX1_given_15 ?_
    refine z_istore_4 (pc := 16) dX1_given_16 (by decide) rfl ?_
    refine z_iload_1 (pc := 18) dX1_given_18 ?_
    refine z_tableIn (pc := 19) (tgt := 203) dX1_given_19 (by decide) (by decide) rfl (by decide) ?_
    refine z_aload_0 (pc := 203) dX1_given_203 ?_
    refine z_bipush (pc := 204) (20) dX1_given_204 rfl ?_
    refine z_iload_2 (pc := 206) dX1_given_206 ?_
    refine z_iload_4 (pc := 207) dX1_given_207 ?_
    refine z_V3 (pc := 209) dX1_given_209 (mlX1_31 _) (kX1_given _) (vX1_given _) (by decide) (by decide) rfl (Nat.le_of_ble_eq_true rfl) (qG20 d hd hx (n + 1) (by omega) (ztr_len _ _ _) (e + 1) (by rw [hy]; exact (nI_succ e).symm) (by omega)) ⟨Nat.le_refl _, Nat.le_refl _⟩ (fun r h1 hq => ?_)
    obtain ⟨rfl, rfl⟩ := hq
    refine z_aload_0 (pc := 212) dX1_given_212 ?_
    refine z_gets0 (pc := 213) dX1_given_213 flX1_23 ?_
    refine z_aload_0 (pc := 216) dX1_given_216 ?_
    refine y_getR (pc := 217) dX1_given_217 flX1_19 rfl (by first | rfl | assumption) (by first | rfl | assumption) ?_
    refine y_getR (pc := 220) dX1_given_220 flX1_26 rfl (by first | rfl | assumption) (by first | rfl | assumption) ?_
    refine z_iload_2 (pc := 223) dX1_given_223 ?_
    refine y_ialdN (pc := 224) (d) dX1_given_224 (by first | rfl | assumption) (hx) (hd) (by first | decide | omega) ?_
    refine z_tab0 (pc := 225) dX1_given_225 ?_ ?_
    · simp only [ztr_ne _ _ _ (show 16 < 83 by decide)]; rw [ek]; unfold vp_in; decide
    refine z_nm (y := 13) (by simp only [ztr_ne _ _ _ (show 16 < 83 by decide)]; rw [ek]; decide) ?_
    refine z_iload_2 (pc := 226) dX1_given_226 ?_
    refine z_iload_4 (pc := 227) dX1_given_227 ?_
    refine z_V3 (pc := 229) dX1_given_229 (mlX1_31 _) (kX1_given _) (vX1_given _) (by decide) (by decide) rfl (Nat.le_of_ble_eq_true rfl) (qG13 d hd hx (n + 1 + 1) (by omega) (ztr_len _ _ _) (e + 1) (by rw [hy]; exact (nI_succ e).symm) (by omega)) ⟨Nat.le_refl _, Nat.le_refl _⟩ (fun r h1 hq => ?_)
    obtain ⟨rfl, rfl⟩ := hq
    refine z_isub (pc := 232) dX1_given_232 ?_
    refine z_ret (pc := 233) (r := some (.int _)) rfl dX1_given_233 trivial rfl rfl ?_
    exact ⟨by simp [ztr_ne _ _ _ (show 16 < 83 by decide), ztr_ne _ _ _ (show 17 < 83 by decide), ztr_ne _ _ _ (show 18 < 83 by decide)], by simp [Nat.add_assoc]⟩
  · exact absurd (by rw [hy]; exact nI_le (b := 12) (by omega) (by decide)) c3
set_option maxRecDepth 100000 in
set_option maxHeartbeats 4000000 in
theorem qG14 {l : zL} {I : Nat → Nat → Int32} {J : Nat → Nat → Int64} {nw : Bool} (d : Nat) (hd : d < 6) {x : Int32} (hx : x = nI d) (n : Nat) (hn : n + 3 ≤ 16) (en : I 83 2 = nI n) (e : Nat) {y : Int32} (hy : y = nI e) (he : e + 4 ≤ 12) : zP l (mX1_given 4) [.ref 83, .int 14, .int x, .int y] (hh I J nw) (zR (some (.int (2 * ((I 17 d) - 100)))) ((ztr (ztr (ztr I n 14) (n + 1) 13) (n + 2) 10), J, RF nw, SH)) := by
  refine z_start [.ref 83, .int 14, .int x, .int y, zno] (by decide +kernel) (Nat.le_of_ble_eq_true rfl) rfl ?_
  refine z_iload_3 (pc := 0) dX1_given_0 ?_
  refine z_bipush (pc := 1) (12) dX1_given_1 rfl ?_
  refine z_icmp_le (pc := 3) (tgt := 8) dX1_given_3 (by decide) (fun c3 => ?_) (fun c3 => ?_)
  · skip
    refine z_aload_0 (pc := 8) dX1_given_8 ?_
    refine z_iload_1 (pc := 9) dX1_given_9 ?_
    refine z_V1 (pc := 10) dX1_given_10 mlX1_39 kX1_leave vX1_leave (by decide) (by decide) (by first | rfl | assumption) (Nat.le_of_ble_eq_true rfl) (qX1_leave n (by omega) en) ⟨Nat.le_refl _, Nat.le_refl _⟩ (fun r h1 hq => ?_)
    obtain ⟨rfl, rfl⟩ := hq
    refine z_iload_3 (pc := 13) dX1_given_13 ?_
    refine z_iconst (pc := 14) (1) dX1_given_14 rfl ?_
    refine z_iadd (pc := 15) dX1_given_15 ?_
    refine z_istore_4 (pc := 16) dX1_given_16 (by decide) rfl ?_
    refine z_iload_1 (pc := 18) dX1_given_18 ?_
    refine z_tableIn (pc := 19) (tgt := 157) dX1_given_19 (by decide) (by decide) rfl (by decide) ?_
    refine z_iconst (pc := 157) (2) dX1_given_157 rfl ?_
    refine z_aload_0 (pc := 158) dX1_given_158 ?_
    refine z_bipush (pc := 159) (13) dX1_given_159 rfl ?_
    refine z_iload_2 (pc := 161) dX1_given_161 ?_
    refine z_iload_4 (pc := 162) dX1_given_162 ?_
    refine z_V3 (pc := 164) dX1_given_164 (mlX1_31 _) (kX1_given _) (vX1_given _) (by decide) (by decide) rfl (Nat.le_of_ble_eq_true rfl) (qG13 d hd hx (n + 1) (by omega) (ztr_len _ _ _) (e + 1) (by rw [hy]; exact (nI_succ e).symm) (by omega)) ⟨Nat.le_refl _, Nat.le_refl _⟩ (fun r h1 hq => ?_)
    obtain ⟨rfl, rfl⟩ := hq
    refine z_imul (pc := 167) dX1_given_167 ?_
    refine z_ret (pc := 168) (r := some (.int _)) rfl dX1_given_168 trivial rfl rfl ?_
    exact ⟨by simp [ztr_ne _ _ _ (show 16 < 83 by decide), ztr_ne _ _ _ (show 17 < 83 by decide), ztr_ne _ _ _ (show 18 < 83 by decide)], by simp [Nat.add_assoc]⟩
  · exact absurd (by rw [hy]; exact nI_le (b := 12) (by omega) (by decide)) c3
set_option maxRecDepth 100000 in
set_option maxHeartbeats 4000000 in
theorem qG23_5 {l : zL} {I : Nat → Nat → Int32} {J : Nat → Nat → Int64} {nw : Bool} (d : Nat) (hd : d < 6) {x : Int32} (hx : x = nI d) (n : Nat) (hn : n + 5 ≤ 16) (en : I 83 2 = nI n) (e : Nat) {y : Int32} (hy : y = nI e) (he : e + 5 ≤ 12) (ek : I 16 d = nI 5) : zP l (mX1_given 5) [.ref 83, .int 23, .int x, .int y] (hh I J nw) (zR (some (.int ((nI d) - (2 * ((I 17 d) - 100))))) ((ztr (ztr (ztr (ztr (ztr I n 23) (n + 1) 20) (n + 2) 14) (n + 3) 13) (n + 4) 10), J, RF nw, SH)) := by
  refine z_start [.ref 83, .int 23, .int x, .int y, zno] (by decide +kernel) (Nat.le_of_ble_eq_true rfl) rfl ?_
  refine z_iload_3 (pc := 0) dX1_given_0 ?_
  refine z_bipush (pc := 1) (12) dX1_given_1 rfl ?_
  refine z_icmp_le (pc := 3) (tgt := 8) dX1_given_3 (by decide) (fun c3 => ?_) (fun c3 => ?_)
  · skip
    refine z_aload_0 (pc := 8) dX1_given_8 ?_
    refine z_iload_1 (pc := 9) dX1_given_9 ?_
    refine z_V1 (pc := 10) dX1_given_10 mlX1_39 kX1_leave vX1_leave (by decide) (by decide) (by first | rfl | assumption) (Nat.le_of_ble_eq_true rfl) (qX1_leave n (by omega) en) ⟨Nat.le_refl _, Nat.le_refl _⟩ (fun r h1 hq => ?_)
    obtain ⟨rfl, rfl⟩ := hq
    refine z_iload_3 (pc := 13) dX1_given_13 ?_
    refine z_iconst (pc := 14) (1) dX1_given_14 rfl ?_
    refine z_iadd (pc := 15) dX1_given_15 ?_
    refine z_istore_4 (pc := 16) dX1_given_16 (by decide) rfl ?_
    refine z_iload_1 (pc := 18) dX1_given_18 ?_
    refine z_tableIn (pc := 19) (tgt := 203) dX1_given_19 (by decide) (by decide) rfl (by decide) ?_
    refine z_aload_0 (pc := 203) dX1_given_203 ?_
    refine z_bipush (pc := 204) (20) dX1_given_204 rfl ?_
    refine z_iload_2 (pc := 206) dX1_given_206 ?_
    refine z_iload_4 (pc := 207) dX1_given_207 ?_
    refine z_V3 (pc := 209) dX1_given_209 (mlX1_31 _) (kX1_given _) (vX1_given _) (by decide) (by decide) rfl (Nat.le_of_ble_eq_true rfl) (qG20 d hd hx (n + 1) (by omega) (ztr_len _ _ _) (e + 1) (by rw [hy]; exact (nI_succ e).symm) (by omega)) ⟨Nat.le_refl _, Nat.le_refl _⟩ (fun r h1 hq => ?_)
    obtain ⟨rfl, rfl⟩ := hq
    refine z_aload_0 (pc := 212) dX1_given_212 ?_
    refine z_gets0 (pc := 213) dX1_given_213 flX1_23 ?_
    refine z_aload_0 (pc := 216) dX1_given_216 ?_
    refine y_getR (pc := 217) dX1_given_217 flX1_19 rfl (by first | rfl | assumption) (by first | rfl | assumption) ?_
    refine y_getR (pc := 220) dX1_given_220 flX1_26 rfl (by first | rfl | assumption) (by first | rfl | assumption) ?_
    refine z_iload_2 (pc := 223) dX1_given_223 ?_
    refine y_ialdN (pc := 224) (d) dX1_given_224 (by first | rfl | assumption) (hx) (hd) (by first | decide | omega) ?_
    refine z_tab0 (pc := 225) dX1_given_225 ?_ ?_
    · simp only [ztr_ne _ _ _ (show 16 < 83 by decide)]; rw [ek]; unfold vp_in; decide
    refine z_nm (y := 14) (by simp only [ztr_ne _ _ _ (show 16 < 83 by decide)]; rw [ek]; decide) ?_
    refine z_iload_2 (pc := 226) dX1_given_226 ?_
    refine z_iload_4 (pc := 227) dX1_given_227 ?_
    refine z_V3 (pc := 229) dX1_given_229 (mlX1_31 _) (kX1_given _) (vX1_given _) (by decide) (by decide) rfl (Nat.le_of_ble_eq_true rfl) (qG14 d hd hx (n + 1 + 1) (by omega) (ztr_len _ _ _) (e + 1) (by rw [hy]; exact (nI_succ e).symm) (by omega)) ⟨Nat.le_refl _, Nat.le_refl _⟩ (fun r h1 hq => ?_)
    obtain ⟨rfl, rfl⟩ := hq
    refine z_isub (pc := 232) dX1_given_232 ?_
    refine z_ret (pc := 233) (r := some (.int _)) rfl dX1_given_233 trivial rfl rfl ?_
    exact ⟨by simp [ztr_ne _ _ _ (show 16 < 83 by decide), ztr_ne _ _ _ (show 17 < 83 by decide), ztr_ne _ _ _ (show 18 < 83 by decide)], by simp [Nat.add_assoc]⟩
  · exact absurd (by rw [hy]; exact nI_le (b := 12) (by omega) (by decide)) c3
set_option maxRecDepth 100000 in
set_option maxHeartbeats 4000000 in
theorem qX1_sizeOf_1 {l : zL} {I : Nat → Nat → Int32} {J : Nat → Nat → Int64} {nw : Bool} (d : Nat) (hd : d < 6) {x : Int32} (hx : x = nI d) (ek : I 16 d = nI 1) : zP l mX1_sizeOf [.ref 83, .int x] (hh I J nw) (zR (some (.int ((I 17 d) + ((nI d) + I 18 d)))) ((ztr (ztr (ztr (ztr (zup I 83 2 0) 0 11) (0 + 1) 10) (0 + 2) 21) (0 + 3) 20), J, RF nw, SH)) := by
  refine z_start [.ref 83, .int x] (by decide +kernel) (Nat.le_of_ble_eq_true rfl) rfl ?_
  refine z_aload_0 (pc := 0) dX1_sizeOf_0 ?_
  refine z_iconst (pc := 1) (0) dX1_sizeOf_1 rfl ?_
  refine y_putI (pc := 2) dX1_sizeOf_2 flX1_15 ffX1_15 rfl (by first | rfl | assumption) ⟨rfl, rfl⟩ ?_
  refine z_aload_0 (pc := 5) dX1_sizeOf_5 ?_
  refine z_gets0 (pc := 6) dX1_sizeOf_6 flX1_23 ?_
  refine z_aload_0 (pc := 9) dX1_sizeOf_9 ?_
  refine y_getR (pc := 10) dX1_sizeOf_10 flX1_19 rfl (by first | rfl | assumption) (by first | rfl | assumption) ?_
  refine y_getR (pc := 13) dX1_sizeOf_13 flX1_26 rfl (by first | rfl | assumption) (by first | rfl | assumption) ?_
  refine z_iload_1 (pc := 16) dX1_sizeOf_16 ?_
  refine y_ialdN (pc := 17) (d) dX1_sizeOf_17 (by first | rfl | assumption) (hx) (hd) (by first | decide | omega) ?_
  refine z_tab0 (pc := 18) dX1_sizeOf_18 ?_ ?_
  · rw [zup_nk _ _ (by decide), ek]; unfold vp_in; decide
  refine z_nm (y := 11) (by rw [zup_nk _ _ (by decide), ek]; decide) ?_
  refine z_iload_1 (pc := 19) dX1_sizeOf_19 ?_
  refine z_iconst (pc := 20) (0) dX1_sizeOf_20 rfl ?_
  refine z_V3 (pc := 21) dX1_sizeOf_21 (mlX1_31 _) (kX1_given _) (vX1_given _) (by decide) (by decide) rfl (Nat.le_of_ble_eq_true rfl) (qG11_1 d hd hx 0 (by omega) (zup_same _ _ _ _) 0 rfl (by omega) (by rw [zup_nk _ _ (by decide)]; exact ek)) ⟨Nat.le_refl _, Nat.le_refl _⟩ (fun r h1 hq => ?_)
  obtain ⟨rfl, rfl⟩ := hq
  refine z_ret (pc := 24) (r := some (.int _)) rfl dX1_sizeOf_24 trivial rfl rfl ?_
  exact ⟨by simp [zup_nk], rfl⟩
set_option maxRecDepth 100000 in
set_option maxHeartbeats 4000000 in
theorem qX1_sizeOf_2 {l : zL} {I : Nat → Nat → Int32} {J : Nat → Nat → Int64} {nw : Bool} (d : Nat) (hd : d < 6) {x : Int32} (hx : x = nI d) (ek : I 16 d = nI 2) : zP l mX1_sizeOf [.ref 83, .int x] (hh I J nw) (zR (some (.int (-((I 17 d) + (2 * ((nI d) + I 18 d)))))) ((ztr (ztr (ztr (ztr (ztr (ztr (zup I 83 2 0) 0 12) (0 + 1) 11) (0 + 2) 10) (0 + 3) 24) (0 + 4) 21) (0 + 5) 20), J, RF nw, SH)) := by
  refine z_start [.ref 83, .int x] (by decide +kernel) (Nat.le_of_ble_eq_true rfl) rfl ?_
  refine z_aload_0 (pc := 0) dX1_sizeOf_0 ?_
  refine z_iconst (pc := 1) (0) dX1_sizeOf_1 rfl ?_
  refine y_putI (pc := 2) dX1_sizeOf_2 flX1_15 ffX1_15 rfl (by first | rfl | assumption) ⟨rfl, rfl⟩ ?_
  refine z_aload_0 (pc := 5) dX1_sizeOf_5 ?_
  refine z_gets0 (pc := 6) dX1_sizeOf_6 flX1_23 ?_
  refine z_aload_0 (pc := 9) dX1_sizeOf_9 ?_
  refine y_getR (pc := 10) dX1_sizeOf_10 flX1_19 rfl (by first | rfl | assumption) (by first | rfl | assumption) ?_
  refine y_getR (pc := 13) dX1_sizeOf_13 flX1_26 rfl (by first | rfl | assumption) (by first | rfl | assumption) ?_
  refine z_iload_1 (pc := 16) dX1_sizeOf_16 ?_
  refine y_ialdN (pc := 17) (d) dX1_sizeOf_17 (by first | rfl | assumption) (hx) (hd) (by first | decide | omega) ?_
  refine z_tab0 (pc := 18) dX1_sizeOf_18 ?_ ?_
  · rw [zup_nk _ _ (by decide), ek]; unfold vp_in; decide
  refine z_nm (y := 12) (by rw [zup_nk _ _ (by decide), ek]; decide) ?_
  refine z_iload_1 (pc := 19) dX1_sizeOf_19 ?_
  refine z_iconst (pc := 20) (0) dX1_sizeOf_20 rfl ?_
  refine z_V3 (pc := 21) dX1_sizeOf_21 (mlX1_31 _) (kX1_given _) (vX1_given _) (by decide) (by decide) rfl (Nat.le_of_ble_eq_true rfl) (qG12_2 d hd hx 0 (by omega) (zup_same _ _ _ _) 0 rfl (by omega) (by rw [zup_nk _ _ (by decide)]; exact ek)) ⟨Nat.le_refl _, Nat.le_refl _⟩ (fun r h1 hq => ?_)
  obtain ⟨rfl, rfl⟩ := hq
  refine z_ret (pc := 24) (r := some (.int _)) rfl dX1_sizeOf_24 trivial rfl rfl ?_
  exact ⟨by simp [zup_nk], rfl⟩
set_option maxRecDepth 100000 in
set_option maxHeartbeats 4000000 in
theorem qX1_sizeOf_3 {l : zL} {I : Nat → Nat → Int32} {J : Nat → Nat → Int64} {nw : Bool} (d : Nat) (hd : d < 6) {x : Int32} (hx : x = nI d) (ek : I 16 d = nI 3) : zP l mX1_sizeOf [.ref 83, .int x] (hh I J nw) (zR (some (.int ((I 17 d) + (((nI d) + I 18 d) - 1000)))) ((ztr (ztr (ztr (ztr (ztr (zup I 83 2 0) 0 11) (0 + 1) 10) (0 + 2) 22) (0 + 3) 21) (0 + 4) 20), J, RF nw, SH)) := by
  refine z_start [.ref 83, .int x] (by decide +kernel) (Nat.le_of_ble_eq_true rfl) rfl ?_
  refine z_aload_0 (pc := 0) dX1_sizeOf_0 ?_
  refine z_iconst (pc := 1) (0) dX1_sizeOf_1 rfl ?_
  refine y_putI (pc := 2) dX1_sizeOf_2 flX1_15 ffX1_15 rfl (by first | rfl | assumption) ⟨rfl, rfl⟩ ?_
  refine z_aload_0 (pc := 5) dX1_sizeOf_5 ?_
  refine z_gets0 (pc := 6) dX1_sizeOf_6 flX1_23 ?_
  refine z_aload_0 (pc := 9) dX1_sizeOf_9 ?_
  refine y_getR (pc := 10) dX1_sizeOf_10 flX1_19 rfl (by first | rfl | assumption) (by first | rfl | assumption) ?_
  refine y_getR (pc := 13) dX1_sizeOf_13 flX1_26 rfl (by first | rfl | assumption) (by first | rfl | assumption) ?_
  refine z_iload_1 (pc := 16) dX1_sizeOf_16 ?_
  refine y_ialdN (pc := 17) (d) dX1_sizeOf_17 (by first | rfl | assumption) (hx) (hd) (by first | decide | omega) ?_
  refine z_tab0 (pc := 18) dX1_sizeOf_18 ?_ ?_
  · rw [zup_nk _ _ (by decide), ek]; unfold vp_in; decide
  refine z_nm (y := 11) (by rw [zup_nk _ _ (by decide), ek]; decide) ?_
  refine z_iload_1 (pc := 19) dX1_sizeOf_19 ?_
  refine z_iconst (pc := 20) (0) dX1_sizeOf_20 rfl ?_
  refine z_V3 (pc := 21) dX1_sizeOf_21 (mlX1_31 _) (kX1_given _) (vX1_given _) (by decide) (by decide) rfl (Nat.le_of_ble_eq_true rfl) (qG11_3 d hd hx 0 (by omega) (zup_same _ _ _ _) 0 rfl (by omega) (by rw [zup_nk _ _ (by decide)]; exact ek)) ⟨Nat.le_refl _, Nat.le_refl _⟩ (fun r h1 hq => ?_)
  obtain ⟨rfl, rfl⟩ := hq
  refine z_ret (pc := 24) (r := some (.int _)) rfl dX1_sizeOf_24 trivial rfl rfl ?_
  exact ⟨by simp [zup_nk], rfl⟩
set_option maxRecDepth 100000 in
set_option maxHeartbeats 4000000 in
theorem qX1_sizeOf_4 {l : zL} {I : Nat → Nat → Int32} {J : Nat → Nat → Int64} {nw : Bool} (d : Nat) (hd : d < 6) {x : Int32} (hx : x = nI d) (ek : I 16 d = nI 4) : zP l mX1_sizeOf [.ref 83, .int x] (hh I J nw) (zR (some (.int ((I 17 d) - 100))) ((ztr (ztr (zup I 83 2 0) 0 13) (0 + 1) 10), J, RF nw, SH)) := by
  refine z_start [.ref 83, .int x] (by decide +kernel) (Nat.le_of_ble_eq_true rfl) rfl ?_
  refine z_aload_0 (pc := 0) dX1_sizeOf_0 ?_
  refine z_iconst (pc := 1) (0) dX1_sizeOf_1 rfl ?_
  refine y_putI (pc := 2) dX1_sizeOf_2 flX1_15 ffX1_15 rfl (by first | rfl | assumption) ⟨rfl, rfl⟩ ?_
  refine z_aload_0 (pc := 5) dX1_sizeOf_5 ?_
  refine z_gets0 (pc := 6) dX1_sizeOf_6 flX1_23 ?_
  refine z_aload_0 (pc := 9) dX1_sizeOf_9 ?_
  refine y_getR (pc := 10) dX1_sizeOf_10 flX1_19 rfl (by first | rfl | assumption) (by first | rfl | assumption) ?_
  refine y_getR (pc := 13) dX1_sizeOf_13 flX1_26 rfl (by first | rfl | assumption) (by first | rfl | assumption) ?_
  refine z_iload_1 (pc := 16) dX1_sizeOf_16 ?_
  refine y_ialdN (pc := 17) (d) dX1_sizeOf_17 (by first | rfl | assumption) (hx) (hd) (by first | decide | omega) ?_
  refine z_tab0 (pc := 18) dX1_sizeOf_18 ?_ ?_
  · rw [zup_nk _ _ (by decide), ek]; unfold vp_in; decide
  refine z_nm (y := 13) (by rw [zup_nk _ _ (by decide), ek]; decide) ?_
  refine z_iload_1 (pc := 19) dX1_sizeOf_19 ?_
  refine z_iconst (pc := 20) (0) dX1_sizeOf_20 rfl ?_
  refine z_V3 (pc := 21) dX1_sizeOf_21 (mlX1_31 _) (kX1_given _) (vX1_given _) (by decide) (by decide) rfl (Nat.le_of_ble_eq_true rfl) (qG13 d hd hx 0 (by omega) (zup_same _ _ _ _) 0 rfl (by omega)) ⟨Nat.le_refl _, Nat.le_refl _⟩ (fun r h1 hq => ?_)
  obtain ⟨rfl, rfl⟩ := hq
  refine z_ret (pc := 24) (r := some (.int _)) rfl dX1_sizeOf_24 trivial rfl rfl ?_
  exact ⟨by simp [zup_nk], rfl⟩
set_option maxRecDepth 100000 in
set_option maxHeartbeats 4000000 in
theorem qX1_sizeOf_5 {l : zL} {I : Nat → Nat → Int32} {J : Nat → Nat → Int64} {nw : Bool} (d : Nat) (hd : d < 6) {x : Int32} (hx : x = nI d) (ek : I 16 d = nI 5) : zP l mX1_sizeOf [.ref 83, .int x] (hh I J nw) (zR (some (.int (2 * ((I 17 d) - 100)))) ((ztr (ztr (ztr (zup I 83 2 0) 0 14) (0 + 1) 13) (0 + 2) 10), J, RF nw, SH)) := by
  refine z_start [.ref 83, .int x] (by decide +kernel) (Nat.le_of_ble_eq_true rfl) rfl ?_
  refine z_aload_0 (pc := 0) dX1_sizeOf_0 ?_
  refine z_iconst (pc := 1) (0) dX1_sizeOf_1 rfl ?_
  refine y_putI (pc := 2) dX1_sizeOf_2 flX1_15 ffX1_15 rfl (by first | rfl | assumption) ⟨rfl, rfl⟩ ?_
  refine z_aload_0 (pc := 5) dX1_sizeOf_5 ?_
  refine z_gets0 (pc := 6) dX1_sizeOf_6 flX1_23 ?_
  refine z_aload_0 (pc := 9) dX1_sizeOf_9 ?_
  refine y_getR (pc := 10) dX1_sizeOf_10 flX1_19 rfl (by first | rfl | assumption) (by first | rfl | assumption) ?_
  refine y_getR (pc := 13) dX1_sizeOf_13 flX1_26 rfl (by first | rfl | assumption) (by first | rfl | assumption) ?_
  refine z_iload_1 (pc := 16) dX1_sizeOf_16 ?_
  refine y_ialdN (pc := 17) (d) dX1_sizeOf_17 (by first | rfl | assumption) (hx) (hd) (by first | decide | omega) ?_
  refine z_tab0 (pc := 18) dX1_sizeOf_18 ?_ ?_
  · rw [zup_nk _ _ (by decide), ek]; unfold vp_in; decide
  refine z_nm (y := 14) (by rw [zup_nk _ _ (by decide), ek]; decide) ?_
  refine z_iload_1 (pc := 19) dX1_sizeOf_19 ?_
  refine z_iconst (pc := 20) (0) dX1_sizeOf_20 rfl ?_
  refine z_V3 (pc := 21) dX1_sizeOf_21 (mlX1_31 _) (kX1_given _) (vX1_given _) (by decide) (by decide) rfl (Nat.le_of_ble_eq_true rfl) (qG14 d hd hx 0 (by omega) (zup_same _ _ _ _) 0 rfl (by omega)) ⟨Nat.le_refl _, Nat.le_refl _⟩ (fun r h1 hq => ?_)
  obtain ⟨rfl, rfl⟩ := hq
  refine z_ret (pc := 24) (r := some (.int _)) rfl dX1_sizeOf_24 trivial rfl rfl ?_
  exact ⟨by simp [zup_nk], rfl⟩
set_option maxRecDepth 100000 in
set_option maxHeartbeats 4000000 in
theorem qX1_markOf_1 {l : zL} {I : Nat → Nat → Int32} {J : Nat → Nat → Int64} {nw : Bool} (d : Nat) (hd : d < 6) {x : Int32} (hx : x = nI d) (ek : I 16 d = nI 1) : zP l mX1_markOf [.ref 83, .int x] (hh I J nw) (zR (some (.int ((nI d) + I 18 d))) ((ztr (ztr (zup I 83 2 0) 0 21) (0 + 1) 20), J, RF nw, SH)) := by
  refine z_start [.ref 83, .int x] (by decide +kernel) (Nat.le_of_ble_eq_true rfl) rfl ?_
  refine z_aload_0 (pc := 0) dX1_markOf_0 ?_
  refine z_iconst (pc := 1) (0) dX1_markOf_1 rfl ?_
  refine y_putI (pc := 2) dX1_markOf_2 flX1_15 ffX1_15 rfl (by first | rfl | assumption) ⟨rfl, rfl⟩ ?_
  refine z_aload_0 (pc := 5) dX1_markOf_5 ?_
  refine z_gets1 (pc := 6) dX1_markOf_6 flX1_35 ?_
  refine z_aload_0 (pc := 9) dX1_markOf_9 ?_
  refine y_getR (pc := 10) dX1_markOf_10 flX1_19 rfl (by first | rfl | assumption) (by first | rfl | assumption) ?_
  refine y_getR (pc := 13) dX1_markOf_13 flX1_26 rfl (by first | rfl | assumption) (by first | rfl | assumption) ?_
  refine z_iload_1 (pc := 16) dX1_markOf_16 ?_
  refine y_ialdN (pc := 17) (d) dX1_markOf_17 (by first | rfl | assumption) (hx) (hd) (by first | decide | omega) ?_
  refine z_tab1 (pc := 18) dX1_markOf_18 ?_ ?_
  · rw [zup_nk _ _ (by decide), ek]; unfold vp_in; decide
  refine z_nm (y := 21) (by rw [zup_nk _ _ (by decide), ek]; decide) ?_
  refine z_iload_1 (pc := 19) dX1_markOf_19 ?_
  refine z_iconst (pc := 20) (0) dX1_markOf_20 rfl ?_
  refine z_V3 (pc := 21) dX1_markOf_21 (mlX1_31 _) (kX1_given _) (vX1_given _) (by decide) (by decide) rfl (Nat.le_of_ble_eq_true rfl) (qG21 d hd hx 0 (by omega) (zup_same _ _ _ _) 0 rfl (by omega)) ⟨Nat.le_refl _, Nat.le_refl _⟩ (fun r h1 hq => ?_)
  obtain ⟨rfl, rfl⟩ := hq
  refine z_ret (pc := 24) (r := some (.int _)) rfl dX1_markOf_24 trivial rfl rfl ?_
  exact ⟨by simp [zup_nk], rfl⟩
set_option maxRecDepth 100000 in
set_option maxHeartbeats 4000000 in
theorem qX1_markOf_2 {l : zL} {I : Nat → Nat → Int32} {J : Nat → Nat → Int64} {nw : Bool} (d : Nat) (hd : d < 6) {x : Int32} (hx : x = nI d) (ek : I 16 d = nI 2) : zP l mX1_markOf [.ref 83, .int x] (hh I J nw) (zR (some (.int (2 * ((nI d) + I 18 d)))) ((ztr (ztr (ztr (zup I 83 2 0) 0 24) (0 + 1) 21) (0 + 2) 20), J, RF nw, SH)) := by
  refine z_start [.ref 83, .int x] (by decide +kernel) (Nat.le_of_ble_eq_true rfl) rfl ?_
  refine z_aload_0 (pc := 0) dX1_markOf_0 ?_
  refine z_iconst (pc := 1) (0) dX1_markOf_1 rfl ?_
  refine y_putI (pc := 2) dX1_markOf_2 flX1_15 ffX1_15 rfl (by first | rfl | assumption) ⟨rfl, rfl⟩ ?_
  refine z_aload_0 (pc := 5) dX1_markOf_5 ?_
  refine z_gets1 (pc := 6) dX1_markOf_6 flX1_35 ?_
  refine z_aload_0 (pc := 9) dX1_markOf_9 ?_
  refine y_getR (pc := 10) dX1_markOf_10 flX1_19 rfl (by first | rfl | assumption) (by first | rfl | assumption) ?_
  refine y_getR (pc := 13) dX1_markOf_13 flX1_26 rfl (by first | rfl | assumption) (by first | rfl | assumption) ?_
  refine z_iload_1 (pc := 16) dX1_markOf_16 ?_
  refine y_ialdN (pc := 17) (d) dX1_markOf_17 (by first | rfl | assumption) (hx) (hd) (by first | decide | omega) ?_
  refine z_tab1 (pc := 18) dX1_markOf_18 ?_ ?_
  · rw [zup_nk _ _ (by decide), ek]; unfold vp_in; decide
  refine z_nm (y := 24) (by rw [zup_nk _ _ (by decide), ek]; decide) ?_
  refine z_iload_1 (pc := 19) dX1_markOf_19 ?_
  refine z_iconst (pc := 20) (0) dX1_markOf_20 rfl ?_
  refine z_V3 (pc := 21) dX1_markOf_21 (mlX1_31 _) (kX1_given _) (vX1_given _) (by decide) (by decide) rfl (Nat.le_of_ble_eq_true rfl) (qG24 d hd hx 0 (by omega) (zup_same _ _ _ _) 0 rfl (by omega)) ⟨Nat.le_refl _, Nat.le_refl _⟩ (fun r h1 hq => ?_)
  obtain ⟨rfl, rfl⟩ := hq
  refine z_ret (pc := 24) (r := some (.int _)) rfl dX1_markOf_24 trivial rfl rfl ?_
  exact ⟨by simp [zup_nk], rfl⟩
set_option maxRecDepth 100000 in
set_option maxHeartbeats 4000000 in
theorem qX1_markOf_3 {l : zL} {I : Nat → Nat → Int32} {J : Nat → Nat → Int64} {nw : Bool} (d : Nat) (hd : d < 6) {x : Int32} (hx : x = nI d) (ek : I 16 d = nI 3) : zP l mX1_markOf [.ref 83, .int x] (hh I J nw) (zR (some (.int (((nI d) + I 18 d) - 1000))) ((ztr (ztr (ztr (zup I 83 2 0) 0 22) (0 + 1) 21) (0 + 2) 20), J, RF nw, SH)) := by
  refine z_start [.ref 83, .int x] (by decide +kernel) (Nat.le_of_ble_eq_true rfl) rfl ?_
  refine z_aload_0 (pc := 0) dX1_markOf_0 ?_
  refine z_iconst (pc := 1) (0) dX1_markOf_1 rfl ?_
  refine y_putI (pc := 2) dX1_markOf_2 flX1_15 ffX1_15 rfl (by first | rfl | assumption) ⟨rfl, rfl⟩ ?_
  refine z_aload_0 (pc := 5) dX1_markOf_5 ?_
  refine z_gets1 (pc := 6) dX1_markOf_6 flX1_35 ?_
  refine z_aload_0 (pc := 9) dX1_markOf_9 ?_
  refine y_getR (pc := 10) dX1_markOf_10 flX1_19 rfl (by first | rfl | assumption) (by first | rfl | assumption) ?_
  refine y_getR (pc := 13) dX1_markOf_13 flX1_26 rfl (by first | rfl | assumption) (by first | rfl | assumption) ?_
  refine z_iload_1 (pc := 16) dX1_markOf_16 ?_
  refine y_ialdN (pc := 17) (d) dX1_markOf_17 (by first | rfl | assumption) (hx) (hd) (by first | decide | omega) ?_
  refine z_tab1 (pc := 18) dX1_markOf_18 ?_ ?_
  · rw [zup_nk _ _ (by decide), ek]; unfold vp_in; decide
  refine z_nm (y := 22) (by rw [zup_nk _ _ (by decide), ek]; decide) ?_
  refine z_iload_1 (pc := 19) dX1_markOf_19 ?_
  refine z_iconst (pc := 20) (0) dX1_markOf_20 rfl ?_
  refine z_V3 (pc := 21) dX1_markOf_21 (mlX1_31 _) (kX1_given _) (vX1_given _) (by decide) (by decide) rfl (Nat.le_of_ble_eq_true rfl) (qG22 d hd hx 0 (by omega) (zup_same _ _ _ _) 0 rfl (by omega)) ⟨Nat.le_refl _, Nat.le_refl _⟩ (fun r h1 hq => ?_)
  obtain ⟨rfl, rfl⟩ := hq
  refine z_ret (pc := 24) (r := some (.int _)) rfl dX1_markOf_24 trivial rfl rfl ?_
  exact ⟨by simp [zup_nk], rfl⟩
set_option maxRecDepth 100000 in
set_option maxHeartbeats 4000000 in
theorem qX1_markOf_4 {l : zL} {I : Nat → Nat → Int32} {J : Nat → Nat → Int64} {nw : Bool} (d : Nat) (hd : d < 6) {x : Int32} (hx : x = nI d) (ek : I 16 d = nI 4) : zP l mX1_markOf [.ref 83, .int x] (hh I J nw) (zR (some (.int ((nI d) - ((I 17 d) - 100)))) ((ztr (ztr (ztr (ztr (zup I 83 2 0) 0 23) (0 + 1) 20) (0 + 2) 13) (0 + 3) 10), J, RF nw, SH)) := by
  refine z_start [.ref 83, .int x] (by decide +kernel) (Nat.le_of_ble_eq_true rfl) rfl ?_
  refine z_aload_0 (pc := 0) dX1_markOf_0 ?_
  refine z_iconst (pc := 1) (0) dX1_markOf_1 rfl ?_
  refine y_putI (pc := 2) dX1_markOf_2 flX1_15 ffX1_15 rfl (by first | rfl | assumption) ⟨rfl, rfl⟩ ?_
  refine z_aload_0 (pc := 5) dX1_markOf_5 ?_
  refine z_gets1 (pc := 6) dX1_markOf_6 flX1_35 ?_
  refine z_aload_0 (pc := 9) dX1_markOf_9 ?_
  refine y_getR (pc := 10) dX1_markOf_10 flX1_19 rfl (by first | rfl | assumption) (by first | rfl | assumption) ?_
  refine y_getR (pc := 13) dX1_markOf_13 flX1_26 rfl (by first | rfl | assumption) (by first | rfl | assumption) ?_
  refine z_iload_1 (pc := 16) dX1_markOf_16 ?_
  refine y_ialdN (pc := 17) (d) dX1_markOf_17 (by first | rfl | assumption) (hx) (hd) (by first | decide | omega) ?_
  refine z_tab1 (pc := 18) dX1_markOf_18 ?_ ?_
  · rw [zup_nk _ _ (by decide), ek]; unfold vp_in; decide
  refine z_nm (y := 23) (by rw [zup_nk _ _ (by decide), ek]; decide) ?_
  refine z_iload_1 (pc := 19) dX1_markOf_19 ?_
  refine z_iconst (pc := 20) (0) dX1_markOf_20 rfl ?_
  refine z_V3 (pc := 21) dX1_markOf_21 (mlX1_31 _) (kX1_given _) (vX1_given _) (by decide) (by decide) rfl (Nat.le_of_ble_eq_true rfl) (qG23_4 d hd hx 0 (by omega) (zup_same _ _ _ _) 0 rfl (by omega) (by rw [zup_nk _ _ (by decide)]; exact ek)) ⟨Nat.le_refl _, Nat.le_refl _⟩ (fun r h1 hq => ?_)
  obtain ⟨rfl, rfl⟩ := hq
  refine z_ret (pc := 24) (r := some (.int _)) rfl dX1_markOf_24 trivial rfl rfl ?_
  exact ⟨by simp [zup_nk], rfl⟩
set_option maxRecDepth 100000 in
set_option maxHeartbeats 4000000 in
theorem qX1_markOf_5 {l : zL} {I : Nat → Nat → Int32} {J : Nat → Nat → Int64} {nw : Bool} (d : Nat) (hd : d < 6) {x : Int32} (hx : x = nI d) (ek : I 16 d = nI 5) : zP l mX1_markOf [.ref 83, .int x] (hh I J nw) (zR (some (.int ((nI d) - (2 * ((I 17 d) - 100))))) ((ztr (ztr (ztr (ztr (ztr (zup I 83 2 0) 0 23) (0 + 1) 20) (0 + 2) 14) (0 + 3) 13) (0 + 4) 10), J, RF nw, SH)) := by
  refine z_start [.ref 83, .int x] (by decide +kernel) (Nat.le_of_ble_eq_true rfl) rfl ?_
  refine z_aload_0 (pc := 0) dX1_markOf_0 ?_
  refine z_iconst (pc := 1) (0) dX1_markOf_1 rfl ?_
  refine y_putI (pc := 2) dX1_markOf_2 flX1_15 ffX1_15 rfl (by first | rfl | assumption) ⟨rfl, rfl⟩ ?_
  refine z_aload_0 (pc := 5) dX1_markOf_5 ?_
  refine z_gets1 (pc := 6) dX1_markOf_6 flX1_35 ?_
  refine z_aload_0 (pc := 9) dX1_markOf_9 ?_
  refine y_getR (pc := 10) dX1_markOf_10 flX1_19 rfl (by first | rfl | assumption) (by first | rfl | assumption) ?_
  refine y_getR (pc := 13) dX1_markOf_13 flX1_26 rfl (by first | rfl | assumption) (by first | rfl | assumption) ?_
  refine z_iload_1 (pc := 16) dX1_markOf_16 ?_
  refine y_ialdN (pc := 17) (d) dX1_markOf_17 (by first | rfl | assumption) (hx) (hd) (by first | decide | omega) ?_
  refine z_tab1 (pc := 18) dX1_markOf_18 ?_ ?_
  · rw [zup_nk _ _ (by decide), ek]; unfold vp_in; decide
  refine z_nm (y := 23) (by rw [zup_nk _ _ (by decide), ek]; decide) ?_
  refine z_iload_1 (pc := 19) dX1_markOf_19 ?_
  refine z_iconst (pc := 20) (0) dX1_markOf_20 rfl ?_
  refine z_V3 (pc := 21) dX1_markOf_21 (mlX1_31 _) (kX1_given _) (vX1_given _) (by decide) (by decide) rfl (Nat.le_of_ble_eq_true rfl) (qG23_5 d hd hx 0 (by omega) (zup_same _ _ _ _) 0 rfl (by omega) (by rw [zup_nk _ _ (by decide)]; exact ek)) ⟨Nat.le_refl _, Nat.le_refl _⟩ (fun r h1 hq => ?_)
  obtain ⟨rfl, rfl⟩ := hq
  refine z_ret (pc := 24) (r := some (.int _)) rfl dX1_markOf_24 trivial rfl rfl ?_
  exact ⟨by simp [zup_nk], rfl⟩
