def pImg (I : Nat → Nat → Int32) (n : Nat) (x : Int32) : Int32 × (Nat → Nat → Int32) := if zlt x 2 = true then (if 0 < n then (1, if x = 0 then ztown I 32 15 else ztown I 40 15) else (-1000002, I)) else (-1000001, I)
def pRes (I : Nat → Nat → Int32) (x : Int32) : Int32 × (Nat → Nat → Int32) := if zlt x 2 = true then (if (if x = 0 then I 32 3 else I 40 3) = 0 then (-1000002, I) else (1, zup (if x = 0 then ztown I 15 32 else ztown I 15 40) 48 2 0)) else (-1000001, I)
theorem zlt2 {x : Int32} (h1 : ¬ x < 0) (h2 : x < 2) : zlt x 2 = true := zlt_yes (n := 2) (by decide) h1 (Int32.not_le.mpr h2)
theorem zlt2n {x : Int32} (h2 : ¬ x < 2) : zlt x 2 = false := zlt_no (n := 2) (by decide) (Or.inr (Int32.not_lt.mp h2))
set_option maxRecDepth 100000 in
set_option maxHeartbeats 4000000 in
theorem qX8_image {l : zL} {I : Nat → Nat → Int32} {J : Nat → Nat → Int64} {nw : Bool} (n T : Nat) (A B : Nat → Nat) (ht : zTown I n T A B) {x : Int32} : zP l mX8_image [.ref 0, .int x] (hh I J nw) (zPub (pImg I n x)) := by
  refine z_start [.ref 0, .int x] (by decide +kernel) (Nat.le_of_ble_eq_true rfl) rfl ?_
  refine z_iload_1 (pc := 0) dX8_image_0 ?_
  refine z_if_lt (pc := 1) (tgt := 9) dX8_image_1 (by decide) (fun c1 => ?_) (fun c1 => ?_)
  · skip
    refine z_ldc (pc := 9) dX8_image_9 kcX8_77 ?_
    refine z_ret (pc := 11) (r := some (.int _)) rfl dX8_image_11 trivial rfl rfl ?_
    refine zPub_of ?_
    unfold pImg
    rw [zlt_no (n := 2) (by decide) (Or.inl c1)]
    rfl
  · skip
    refine z_iload_1 (pc := 4) dX8_image_4 ?_
    refine z_iconst (pc := 5) (2) dX8_image_5 rfl ?_
    refine z_icmp_lt (pc := 6) (tgt := 12) dX8_image_6 (by decide) (fun c6 => ?_) (fun c6 => ?_)
    · skip
      obtain ⟨j, hj, rfl⟩ := zlt_nI (by decide) (zlt2 c1 c6)
      have hz2 : zlt (nI j) 2 = true := zlt_of hj (by decide)
      have hc : j = 0 ∨ j = 1 := by omega
      rcases hc with rfl | rfl
      · skip
        refine z_aload_0 (pc := 12) dX8_image_12 ?_
        refine z_V0 (pc := 13) dX8_image_13 mlX8_172 kX8_isTownThere vX8_isTownThere (by decide) (by decide) (by first | rfl | assumption) (Nat.le_of_ble_eq_true rfl) (qX8_isTownThere n ht.1 ht.2.1) ⟨Nat.le_refl _, Nat.le_refl _⟩ (fun r h1 hq => ?_)
        obtain ⟨rfl, rfl⟩ := hq
        refine z_if_ne (pc := 16) (tgt := 22) dX8_image_16 (by decide) (fun c16 => ?_) (fun c16 => ?_)
        · skip
          refine z_aload_0 (pc := 22) dX8_image_22 ?_
          refine y_getR (pc := 23) dX8_image_23 flX8_33 rfl (by first | rfl | assumption) (by first | rfl | assumption) ?_
          refine z_iload_1 (pc := 26) dX8_image_26 ?_
          refine y_aaldTN (pc := 27) (0) dX8_image_27 rfl rfl (by decide) (by decide) rfl ?_
          refine z_aload_0 (pc := 28) dX8_image_28 ?_
          refine y_getR (pc := 29) dX8_image_29 flX8_26 rfl (by first | rfl | assumption) (by first | rfl | assumption) ?_
          refine z_V1 (pc := 32) dX8_image_32 mlX8_132 kX7_become vX7_become (by decide) (by decide) (by first | rfl | assumption) (Nat.le_of_ble_eq_true rfl) (qX7_become_32_15) ⟨Nat.le_refl _, Nat.le_refl _⟩ (fun r h1 hq => ?_)
          obtain ⟨rfl, rfl⟩ := hq
          refine z_iconst (pc := 35) (1) dX8_image_35 rfl ?_
          refine z_ret (pc := 36) (r := some (.int _)) rfl dX8_image_36 trivial rfl rfl ?_
          refine zPub_of ?_
          rw [zbb1, decide_eq_true_eq] at c16
          unfold pImg
          rw [if_pos hz2, if_pos c16]
          rfl
        · skip
          refine z_ldc (pc := 19) dX8_image_19 kcX8_147 ?_
          refine z_ret (pc := 21) (r := some (.int _)) rfl dX8_image_21 trivial rfl rfl ?_
          refine zPub_of ?_
          rw [zbb0, decide_eq_false_iff_not] at c16
          unfold pImg
          rw [if_pos hz2, if_neg c16]
      · skip
        refine z_aload_0 (pc := 12) dX8_image_12 ?_
        refine z_V0 (pc := 13) dX8_image_13 mlX8_172 kX8_isTownThere vX8_isTownThere (by decide) (by decide) (by first | rfl | assumption) (Nat.le_of_ble_eq_true rfl) (qX8_isTownThere n ht.1 ht.2.1) ⟨Nat.le_refl _, Nat.le_refl _⟩ (fun r h1 hq => ?_)
        obtain ⟨rfl, rfl⟩ := hq
        refine z_if_ne (pc := 16) (tgt := 22) dX8_image_16 (by decide) (fun c16 => ?_) (fun c16 => ?_)
        · skip
          refine z_aload_0 (pc := 22) dX8_image_22 ?_
          refine y_getR (pc := 23) dX8_image_23 flX8_33 rfl (by first | rfl | assumption) (by first | rfl | assumption) ?_
          refine z_iload_1 (pc := 26) dX8_image_26 ?_
          refine y_aaldTN (pc := 27) (1) dX8_image_27 rfl rfl (by decide) (by decide) rfl ?_
          refine z_aload_0 (pc := 28) dX8_image_28 ?_
          refine y_getR (pc := 29) dX8_image_29 flX8_26 rfl (by first | rfl | assumption) (by first | rfl | assumption) ?_
          refine z_V1 (pc := 32) dX8_image_32 mlX8_132 kX7_become vX7_become (by decide) (by decide) (by first | rfl | assumption) (Nat.le_of_ble_eq_true rfl) (qX7_become_40_15) ⟨Nat.le_refl _, Nat.le_refl _⟩ (fun r h1 hq => ?_)
          obtain ⟨rfl, rfl⟩ := hq
          refine z_iconst (pc := 35) (1) dX8_image_35 rfl ?_
          refine z_ret (pc := 36) (r := some (.int _)) rfl dX8_image_36 trivial rfl rfl ?_
          refine zPub_of ?_
          rw [zbb1, decide_eq_true_eq] at c16
          unfold pImg
          rw [if_pos hz2, if_pos c16]
          rfl
        · skip
          refine z_ldc (pc := 19) dX8_image_19 kcX8_147 ?_
          refine z_ret (pc := 21) (r := some (.int _)) rfl dX8_image_21 trivial rfl rfl ?_
          refine zPub_of ?_
          rw [zbb0, decide_eq_false_iff_not] at c16
          unfold pImg
          rw [if_pos hz2, if_neg c16]
    · skip
      refine z_ldc (pc := 9) dX8_image_9 kcX8_77 ?_
      refine z_ret (pc := 11) (r := some (.int _)) rfl dX8_image_11 trivial rfl rfl ?_
      refine zPub_of ?_
      unfold pImg
      rw [zlt2n c6]
      rfl
set_option maxRecDepth 100000 in
set_option maxHeartbeats 4000000 in
theorem qX8_restore {l : zL} {I : Nat → Nat → Int32} {J : Nat → Nat → Int64} {nw : Bool} {x : Int32} : zP l mX8_restore [.ref 0, .int x] (hh I J nw) (zPub (pRes I x)) := by
  refine z_start [.ref 0, .int x] (by decide +kernel) (Nat.le_of_ble_eq_true rfl) rfl ?_
  refine z_iload_1 (pc := 0) dX8_restore_0 ?_
  refine z_if_lt (pc := 1) (tgt := 9) dX8_restore_1 (by decide) (fun c1 => ?_) (fun c1 => ?_)
  · skip
    refine z_ldc (pc := 9) dX8_restore_9 kcX8_77 ?_
    refine z_ret (pc := 11) (r := some (.int _)) rfl dX8_restore_11 trivial rfl rfl ?_
    refine zPub_of ?_
    unfold pRes
    rw [zlt_no (n := 2) (by decide) (Or.inl c1)]
    rfl
  · skip
    refine z_iload_1 (pc := 4) dX8_restore_4 ?_
    refine z_iconst (pc := 5) (2) dX8_restore_5 rfl ?_
    refine z_icmp_lt (pc := 6) (tgt := 12) dX8_restore_6 (by decide) (fun c6 => ?_) (fun c6 => ?_)
    · skip
      obtain ⟨j, hj, rfl⟩ := zlt_nI (by decide) (zlt2 c1 c6)
      have hz2 : zlt (nI j) 2 = true := zlt_of hj (by decide)
      have hc : j = 0 ∨ j = 1 := by omega
      rcases hc with rfl | rfl
      · skip
        refine z_aload_0 (pc := 12) dX8_restore_12 ?_
        refine y_getR (pc := 13) dX8_restore_13 flX8_33 rfl (by first | rfl | assumption) (by first | rfl | assumption) ?_
        refine z_iload_1 (pc := 16) dX8_restore_16 ?_
        refine y_aaldTN (pc := 17) (0) dX8_restore_17 rfl rfl (by decide) (by decide) rfl ?_
        refine y_getI (pc := 18) dX8_restore_18 flX8_138 rfl (by first | rfl | assumption) ?_
        refine z_if_ne (pc := 21) (tgt := 27) dX8_restore_21 (by decide) (fun c21 => ?_) (fun c21 => ?_)
        · skip
          refine z_aload_0 (pc := 27) dX8_restore_27 ?_
          refine y_getR (pc := 28) dX8_restore_28 flX8_26 rfl (by first | rfl | assumption) (by first | rfl | assumption) ?_
          refine z_aload_0 (pc := 31) dX8_restore_31 ?_
          refine y_getR (pc := 32) dX8_restore_32 flX8_33 rfl (by first | rfl | assumption) (by first | rfl | assumption) ?_
          refine z_iload_1 (pc := 35) dX8_restore_35 ?_
          refine y_aaldTN (pc := 36) (0) dX8_restore_36 rfl rfl (by decide) (by decide) rfl ?_
          refine z_V1 (pc := 37) dX8_restore_37 mlX8_132 kX7_become vX7_become (by decide) (by decide) (by first | rfl | assumption) (Nat.le_of_ble_eq_true rfl) (qX7_become_15_32) ⟨Nat.le_refl _, Nat.le_refl _⟩ (fun r h1 hq => ?_)
          obtain ⟨rfl, rfl⟩ := hq
          refine z_aload_0 (pc := 40) dX8_restore_40 ?_
          refine y_getR (pc := 41) dX8_restore_41 flX8_40 rfl (by first | rfl | assumption) (by first | rfl | assumption) ?_
          refine z_V0 (pc := 44) dX8_restore_44 mlX8_135 kX0_forget vX0_forget (by decide) (by decide) (by first | rfl | assumption) (Nat.le_of_ble_eq_true rfl) (qX0_forget) ⟨Nat.le_refl _, Nat.le_refl _⟩ (fun r h1 hq => ?_)
          obtain ⟨rfl, rfl⟩ := hq
          refine z_iconst (pc := 47) (1) dX8_restore_47 rfl ?_
          refine z_ret (pc := 48) (r := some (.int _)) rfl dX8_restore_48 trivial rfl rfl ?_
          refine zPub_of ?_
          unfold pRes
          rw [if_pos hz2, if_pos (show nI 0 = 0 from rfl), if_pos (show nI 0 = 0 from rfl), if_neg c21]
        · skip
          refine z_ldc (pc := 24) dX8_restore_24 kcX8_147 ?_
          refine z_ret (pc := 26) (r := some (.int _)) rfl dX8_restore_26 trivial rfl rfl ?_
          refine zPub_of ?_
          unfold pRes
          rw [if_pos hz2, if_pos (show nI 0 = 0 from rfl), if_pos c21]
      · skip
        refine z_aload_0 (pc := 12) dX8_restore_12 ?_
        refine y_getR (pc := 13) dX8_restore_13 flX8_33 rfl (by first | rfl | assumption) (by first | rfl | assumption) ?_
        refine z_iload_1 (pc := 16) dX8_restore_16 ?_
        refine y_aaldTN (pc := 17) (1) dX8_restore_17 rfl rfl (by decide) (by decide) rfl ?_
        refine y_getI (pc := 18) dX8_restore_18 flX8_138 rfl (by first | rfl | assumption) ?_
        refine z_if_ne (pc := 21) (tgt := 27) dX8_restore_21 (by decide) (fun c21 => ?_) (fun c21 => ?_)
        · skip
          refine z_aload_0 (pc := 27) dX8_restore_27 ?_
          refine y_getR (pc := 28) dX8_restore_28 flX8_26 rfl (by first | rfl | assumption) (by first | rfl | assumption) ?_
          refine z_aload_0 (pc := 31) dX8_restore_31 ?_
          refine y_getR (pc := 32) dX8_restore_32 flX8_33 rfl (by first | rfl | assumption) (by first | rfl | assumption) ?_
          refine z_iload_1 (pc := 35) dX8_restore_35 ?_
          refine y_aaldTN (pc := 36) (1) dX8_restore_36 rfl rfl (by decide) (by decide) rfl ?_
          refine z_V1 (pc := 37) dX8_restore_37 mlX8_132 kX7_become vX7_become (by decide) (by decide) (by first | rfl | assumption) (Nat.le_of_ble_eq_true rfl) (qX7_become_15_40) ⟨Nat.le_refl _, Nat.le_refl _⟩ (fun r h1 hq => ?_)
          obtain ⟨rfl, rfl⟩ := hq
          refine z_aload_0 (pc := 40) dX8_restore_40 ?_
          refine y_getR (pc := 41) dX8_restore_41 flX8_40 rfl (by first | rfl | assumption) (by first | rfl | assumption) ?_
          refine z_V0 (pc := 44) dX8_restore_44 mlX8_135 kX0_forget vX0_forget (by decide) (by decide) (by first | rfl | assumption) (Nat.le_of_ble_eq_true rfl) (qX0_forget) ⟨Nat.le_refl _, Nat.le_refl _⟩ (fun r h1 hq => ?_)
          obtain ⟨rfl, rfl⟩ := hq
          refine z_iconst (pc := 47) (1) dX8_restore_47 rfl ?_
          refine z_ret (pc := 48) (r := some (.int _)) rfl dX8_restore_48 trivial rfl rfl ?_
          refine zPub_of ?_
          unfold pRes
          rw [if_pos hz2, if_neg (show ¬ nI 1 = 0 from by decide), if_neg (show ¬ nI 1 = 0 from by decide), if_neg c21]
        · skip
          refine z_ldc (pc := 24) dX8_restore_24 kcX8_147 ?_
          refine z_ret (pc := 26) (r := some (.int _)) rfl dX8_restore_26 trivial rfl rfl ?_
          refine zPub_of ?_
          unfold pRes
          rw [if_pos hz2, if_neg (show ¬ nI 1 = 0 from by decide), if_pos c21]
    · skip
      refine z_ldc (pc := 9) dX8_restore_9 kcX8_77 ?_
      refine z_ret (pc := 11) (r := some (.int _)) rfl dX8_restore_11 trivial rfl rfl ?_
      refine zPub_of ?_
      unfold pRes
      rw [zlt2n c6]
      rfl
def zdys (I : Nat → Nat → Int32) (nx kp : Nat) : Nat → (Nat → Nat → Int32)
  | 0 => I
  | k + 1 => zday (pKeep (zdys I nx kp k) ((nx + k) % 24) (min 24 (kp + k))) 22
def pDays (I : Nat → Nat → Int32) (n nx kp : Nat) (x : Int32) : Int32 × (Nat → Nat → Int32) := if 0 < n then (if ¬ x < 1 ∧ x ≤ 24 then (if I 22 0 + x ≤ 999 then (zoff (zdys I nx kp x.toNatClampNeg) 4, zdys I nx kp x.toNatClampNeg) else (-1000003, I)) else (-1000001, I)) else (-1000002, I)
theorem zdys_48 (I : Nat → Nat → Int32) (nx kp : Nat) (h1 : nx < 24) (h2 : kp ≤ 24) (e1 : I 48 1 = nI nx) (e2 : I 48 2 = nI kp) : ∀ k, zdys I nx kp k 48 1 = nI ((nx + k) % 24) ∧ zdys I nx kp k 48 2 = nI (min 24 (kp + k))
  | 0 => by
    refine ⟨?_, ?_⟩
    · show I 48 1 = _; rw [e1, Nat.add_zero, Nat.mod_eq_of_lt h1]
    · show I 48 2 = _; rw [e2, Nat.add_zero, Nat.min_eq_right h2]
  | k + 1 => by
    have := pKeep_nx (zdys I nx kp k) ((nx + k) % 24) (min 24 (kp + k))
    have e : ∀ J' : Nat → Nat → Int32, zday J' 22 48 = J' 48 := fun J' => by funext b; unfold zday; rw [if_neg (by omega)]
    rw [zdys, e, this.1, this.2]
    exact ⟨congrArg nI (by omega), congrArg nI (by omega)⟩
set_option maxRecDepth 100000 in
set_option maxHeartbeats 4000000 in
theorem days_loop {l : zL} {I : Nat → Nat → Int32} {J : Nat → Nat → Int64} {nw : Bool} (nx kp : Nat) (hnx : nx < 24) (hkp : kp ≤ 24) (e1 : I 48 1 = nI nx) (e2 : I 48 2 = nI kp) (m : Nat) (hm : m ≤ 24) {x : Int32} (hx : x = nI m) : ∀ (f k : Nat), k ≤ m → m - k < f →
    zW l mX8_days SH.length (zsl SH) 47 [.ref 0, .int x, .int (nI k)] [] (zdys I nx kp k, J, RF nw, SH) (fun r h1 => r = some (.int (zoff (zdys I nx kp m) 4)) ∧ h1 = (zdys I nx kp m, J, RF nw, SH))
  | 0, k, _, hf => by omega
  | f + 1, k, hk, hf => by
    obtain ⟨q1, q2⟩ := zdys_48 I nx kp hnx hkp e1 e2 k
    refine z_iload_2 (pc := 47) dX8_days_47 ?_
    refine z_iload_1 (pc := 48) dX8_days_48 ?_
    refine z_icmp_ge (pc := 49) (tgt := 82) dX8_days_49 (by decide) (fun c49 => ?_) (fun c49 => ?_)
    · skip
      refine z_aload_0 (pc := 82) dX8_days_82 ?_
      refine y_getR (pc := 83) dX8_days_83 flX8_26 rfl (by first | rfl | assumption) (by first | rfl | assumption) ?_
      refine z_V0 (pc := 86) dX8_days_86 mlX8_182 kX7_casksOff vX7_casksOff (by decide) (by decide) (by first | rfl | assumption) (Nat.le_of_ble_eq_true rfl) (qX7_casksOff) ⟨Nat.le_refl _, Nat.le_refl _⟩ (fun r h1 hq => ?_)
      obtain ⟨rfl, rfl⟩ := hq
      refine z_ret (pc := 89) (r := some (.int _)) rfl dX8_days_89 trivial rfl rfl ?_
      have : k = m := by
        rcases Nat.lt_or_ge k m with q | q
        · rw [hx] at c49
          exact absurd c49 (nI_ge q (by omega))
        · omega
      subst this
      exact ⟨rfl, rfl⟩
    · skip
      have hlt : k < m := by
        rcases Nat.lt_or_ge k m with q | q
        · exact q
        · exact absurd (by rw [hx]; exact nI_le q (by omega)) c49
      refine z_aload_0 (pc := 52) dX8_days_52 ?_
      refine y_getR (pc := 53) dX8_days_53 flX8_40 rfl (by first | rfl | assumption) (by first | rfl | assumption) ?_
      refine z_aload_0 (pc := 56) dX8_days_56 ?_
      refine y_getR (pc := 57) dX8_days_57 flX8_26 rfl (by first | rfl | assumption) (by first | rfl | assumption) ?_
      refine y_getR (pc := 60) dX8_days_60 flX8_148 rfl (by first | rfl | assumption) (by first | rfl | assumption) ?_
      refine z_V1 (pc := 63) dX8_days_63 mlX8_166 kX0_keep vX0_keep (by decide) (by decide) (by first | rfl | assumption) (Nat.le_of_ble_eq_true rfl) (qX0_keep ((nx + k) % 24) (min 24 (kp + k)) (Nat.mod_lt _ (by decide)) (Nat.min_le_left _ _) q1 q2) ⟨Nat.le_refl _, Nat.le_refl _⟩ (fun r h1 hq => ?_)
      obtain ⟨rfl, rfl⟩ := hq
      refine z_aload_0 (pc := 66) dX8_days_66 ?_
      refine y_getR (pc := 67) dX8_days_67 flX8_26 rfl (by first | rfl | assumption) (by first | rfl | assumption) ?_
      refine y_getR (pc := 70) dX8_days_70 flX8_148 rfl (by first | rfl | assumption) (by first | rfl | assumption) ?_
      refine z_V0 (pc := 73) dX8_days_73 mlX8_179 kX2_passDay vX2_passDay (by decide) (by decide) (by first | rfl | assumption) (Nat.le_of_ble_eq_true rfl) (qX2_passDay rfl rfl rfl) ⟨Nat.le_refl _, Nat.le_refl _⟩ (fun r h1 hq => ?_)
      obtain ⟨rfl, rfl⟩ := hq
      refine z_iinc_2 (pc := 76) (1) dX8_days_76 rfl (by decide) rfl ?_
      refine z_goto (pc := 79) (tgt := 47) dX8_days_79 (by decide) ?_
      rw [← nI_succ]
      exact days_loop nx kp hnx hkp e1 e2 m hm hx f (k + 1) (by omega) (by omega)
set_option maxRecDepth 100000 in
set_option maxHeartbeats 4000000 in
theorem qX8_days {l : zL} {I : Nat → Nat → Int32} {J : Nat → Nat → Int64} {nw : Bool} (n T : Nat) (A B : Nat → Nat) (ht : zTown I n T A B) (nx kp : Nat) (hnx : nx < 24) (hkp : kp ≤ 24) (e1 : I 48 1 = nI nx) (e2 : I 48 2 = nI kp) {x : Int32} : zP l mX8_days [.ref 0, .int x] (hh I J nw) (zPub (pDays I n nx kp x)) := by
  refine z_start [.ref 0, .int x, zno] (by decide +kernel) (Nat.le_of_ble_eq_true rfl) rfl ?_
  refine z_aload_0 (pc := 0) dX8_days_0 ?_
  refine z_V0 (pc := 1) dX8_days_1 mlX8_172 kX8_isTownThere vX8_isTownThere (by decide) (by decide) (by first | rfl | assumption) (Nat.le_of_ble_eq_true rfl) (qX8_isTownThere n ht.1 ht.2.1) ⟨Nat.le_refl _, Nat.le_refl _⟩ (fun r h1 hq => ?_)
  obtain ⟨rfl, rfl⟩ := hq
  refine z_if_ne (pc := 4) (tgt := 10) dX8_days_4 (by decide) (fun c4 => ?_) (fun c4 => ?_)
  · skip
    refine z_iload_1 (pc := 10) dX8_days_10 ?_
    refine z_iconst (pc := 11) (1) dX8_days_11 rfl ?_
    refine z_icmp_lt (pc := 12) (tgt := 21) dX8_days_12 (by decide) (fun c12 => ?_) (fun c12 => ?_)
    · skip
      refine z_ldc (pc := 21) dX8_days_21 kcX8_77 ?_
      refine z_ret (pc := 23) (r := some (.int _)) rfl dX8_days_23 trivial rfl rfl ?_
      rw [zbb1, decide_eq_true_eq] at c4
      refine zPub_of ?_
      unfold pDays
      rw [if_pos c4, if_neg (fun q => q.1 c12)]
    · skip
      refine z_iload_1 (pc := 15) dX8_days_15 ?_
      refine z_bipush (pc := 16) (24) dX8_days_16 rfl ?_
      refine z_icmp_le (pc := 18) (tgt := 24) dX8_days_18 (by decide) (fun c18 => ?_) (fun c18 => ?_)
      · skip
        refine z_aload_0 (pc := 24) dX8_days_24 ?_
        refine y_getR (pc := 25) dX8_days_25 flX8_26 rfl (by first | rfl | assumption) (by first | rfl | assumption) ?_
        refine y_getR (pc := 28) dX8_days_28 flX8_148 rfl (by first | rfl | assumption) (by first | rfl | assumption) ?_
        refine z_V0 (pc := 31) dX8_days_31 mlX8_176 kX2_today vX2_today (by decide) (by decide) (by first | rfl | assumption) (Nat.le_of_ble_eq_true rfl) (qX2_today rfl rfl rfl) ⟨Nat.le_refl _, Nat.le_refl _⟩ (fun r h1 hq => ?_)
        obtain ⟨rfl, rfl⟩ := hq
        refine z_iload_1 (pc := 34) dX8_days_34 ?_
        refine z_iadd (pc := 35) dX8_days_35 ?_
        refine z_sipush (pc := 36) (999) dX8_days_36 rfl ?_
        refine z_icmp_le (pc := 39) (tgt := 45) dX8_days_39 (by decide) (fun c39 => ?_) (fun c39 => ?_)
        · skip
          refine z_iconst (pc := 45) (0) dX8_days_45 rfl ?_
          refine z_istore_2 (pc := 46) dX8_days_46 (by decide) rfl ?_
          have hz : zlt x 25 = true := zle_yes (m := 24) (by decide) (fun q => c12 (Int32.lt_of_lt_of_le q (by decide : (0 : Int32) ≤ 1))) c18
          obtain ⟨m, hm, rfl⟩ := zlt_nI (by decide) hz
          rw [zbb1, decide_eq_true_eq] at c4
          have k := days_loop (l := l) (J := J) (nw := nw) nx kp hnx hkp e1 e2 m (by omega) (x := nI m) rfl (m + 1) 0 (by omega) (by omega)
          rw [nI_0] at k
          refine zW.mono k (fun r h1 hq => ?_)
          obtain ⟨rfl, rfl⟩ := hq
          refine zPub_of ?_
          unfold pDays
          rw [if_pos c4, if_pos ⟨c12, c18⟩, if_pos c39, nI_clamp (by omega)]
        · skip
          refine z_ldc (pc := 42) dX8_days_42 kcX8_120 ?_
          refine z_ret (pc := 44) (r := some (.int _)) rfl dX8_days_44 trivial rfl rfl ?_
          rw [zbb1, decide_eq_true_eq] at c4
          refine zPub_of ?_
          unfold pDays
          rw [if_pos c4, if_pos ⟨c12, c18⟩, if_neg c39]
      · skip
        refine z_ldc (pc := 21) dX8_days_21 kcX8_77 ?_
        refine z_ret (pc := 23) (r := some (.int _)) rfl dX8_days_23 trivial rfl rfl ?_
        rw [zbb1, decide_eq_true_eq] at c4
        refine zPub_of ?_
        unfold pDays
        rw [if_pos c4, if_neg (fun q => c18 q.2)]
  · skip
    refine z_ldc (pc := 7) dX8_days_7 kcX8_147 ?_
    refine z_ret (pc := 9) (r := some (.int _)) rfl dX8_days_9 trivial rfl rfl ?_
    rw [zbb0, decide_eq_false_iff_not] at c4
    refine zPub_of ?_
    unfold pDays
    rw [if_neg c4]
def zPubL (P : Int64) (I : Nat → Nat → Int32) : Option Value → zH → Prop := fun r h1 => r = some (.long P) ∧ ∃ I2 J2 nw2, h1 = (I2, J2, RF nw2, SH) ∧ zEq I I2
def zabv (I : Nat → Nat → Int32) (n T : Nat) (A B : Nat → Nat) (i a b : Nat) (q : Int32) : Int64 := zcas (fun s => (zgo (ztE I n T A B (zbt s) i) (fun e => e == a) (zsc I i)).2 b) (fun s => zwt q T (zpc s)) (2 ^ T)
def zg1 (a b : Int64) : Int64 := if zgcd 100 a b < 1 then 1 else zgcd 100 a b
def pSln (I : Nat → Nat → Int32) (n T : Nat) (A B : Nat → Nat) (x a b q w : Int32) : Int64 := if zlt x 4 = true ∧ (zlt a n = true ∧ zlt b n = true ∧ ¬ a = b) ∧ zlt q 11 = true ∧ zlt w 2 = true then (if I 22 (1 + x.toNatClampNeg) = 0 then -1000002 else (if w = 0 then zabv I n T A B x.toNatClampNeg a.toNatClampNeg b.toNatClampNeg q else zpow 10 T) / zg1 (zabv I n T A B x.toNatClampNeg a.toNatClampNeg b.toNatClampNeg q) (zpow 10 T)) else -1000001
theorem zg1_ne (a b : Int64) : ¬ zg1 a b = 0 := by
  unfold zg1
  by_cases h : zgcd 100 a b < 1
  · rw [if_pos h]; decide
  · rw [if_neg h]; intro q; rw [q] at h; exact h (by decide)
set_option maxRecDepth 100000 in
set_option maxHeartbeats 4000000 in
theorem qX8_silent {l : zL} {I : Nat → Nat → Int32} {J : Nat → Nat → Int64} {nw : Bool} (n T : Nat) (A B : Nat → Nat) (ht : zTown I n T A B) (hWh : ∀ i, i < 4 → I 22 (1 + i) = 0 ∨ ∃ w, w < n ∧ I 22 (1 + i) = nI (w + 1)) {x a b q w : Int32} : zP l mX8_silent [.ref 0, .int x, .int a, .int b, .int q, .int w] (hh I J nw) (zPubL (pSln I n T A B x a b q w) I) := by
  refine z_start [.ref 0, .int x, .int a, .int b, .int q, .int w, zno, zno, zno, zno] (by decide +kernel) (Nat.le_of_ble_eq_true rfl) rfl ?_
  refine z_iload_1 (pc := 0) dX8_silent_0 ?_
  refine z_S1 (pc := 1) dX8_silent_1 mlX8_185 kX8_isCask vX8_isCask (by decide) (by decide) (Nat.le_of_ble_eq_true rfl) (qX8_isCask) ⟨Nat.le_refl _, Nat.le_refl _⟩ (fun r h1 hq => ?_)
  obtain ⟨rfl, rfl⟩ := hq
  refine z_if_eq (pc := 4) (tgt := 36) dX8_silent_4 (by decide) (fun c4 => ?_) (fun c4 => ?_)
  · skip
    refine z_ldc2 (pc := 36) dX8_silent_36 kcX8_305 ?_
    refine z_ret (pc := 39) (r := some (.long _)) rfl dX8_silent_39 trivial rfl rfl ?_
    refine ⟨?_, I, J, nw, rfl, fun _ _ _ => rfl⟩
    rw [zbb0] at c4
    unfold pSln
    rw [if_neg (by rw [c4]; simp)]
  · skip
    refine z_aload_0 (pc := 7) dX8_silent_7 ?_
    refine z_iload_2 (pc := 8) dX8_silent_8 ?_
    refine z_iload_3 (pc := 9) dX8_silent_9 ?_
    refine z_V2 (pc := 10) dX8_silent_10 mlX8_266 kX8_areTwoDrinkers vX8_areTwoDrinkers (by decide) (by decide) (by first | rfl | assumption) (Nat.le_of_ble_eq_true rfl) (qX8_areTwoDrinkers n ht.1 ht.2.1) ⟨Nat.le_refl _, Nat.le_refl _⟩ (fun r h1 hq => ?_)
    obtain ⟨rfl, rfl⟩ := hq
    refine z_if_eq (pc := 13) (tgt := 36) dX8_silent_13 (by decide) (fun c13 => ?_) (fun c13 => ?_)
    · skip
      refine z_ldc2 (pc := 36) dX8_silent_36 kcX8_305 ?_
      refine z_ret (pc := 39) (r := some (.long _)) rfl dX8_silent_39 trivial rfl rfl ?_
      refine ⟨?_, I, J, nw, rfl, fun _ _ _ => rfl⟩
      rw [zbb0] at c13
      unfold pSln
      rw [if_neg]
      intro z
      rw [show (zlt a n && zlt b n && !decide (a = b)) = true from by simp [z.2.1.1, z.2.1.2.1, z.2.1.2.2]] at c13
      cases c13
    · skip
      refine z_iload_4 (pc := 16) dX8_silent_16 ?_
      refine z_if_lt (pc := 18) (tgt := 36) dX8_silent_18 (by decide) (fun c18 => ?_) (fun c18 => ?_)
      · skip
        refine z_ldc2 (pc := 36) dX8_silent_36 kcX8_305 ?_
        refine z_ret (pc := 39) (r := some (.long _)) rfl dX8_silent_39 trivial rfl rfl ?_
        refine ⟨?_, I, J, nw, rfl, fun _ _ _ => rfl⟩
        unfold pSln
        rw [if_neg (by rw [zlt_no (n := 11) (by decide) (Or.inl c18)]; simp)]
      · skip
        refine z_iload_4 (pc := 21) dX8_silent_21 ?_
        refine z_bipush (pc := 23) (10) dX8_silent_23 rfl ?_
        refine z_icmp_gt (pc := 25) (tgt := 36) dX8_silent_25 (by decide) (fun c25 => ?_) (fun c25 => ?_)
        · skip
          refine z_ldc2 (pc := 36) dX8_silent_36 kcX8_305 ?_
          refine z_ret (pc := 39) (r := some (.long _)) rfl dX8_silent_39 trivial rfl rfl ?_
          refine ⟨?_, I, J, nw, rfl, fun _ _ _ => rfl⟩
          unfold pSln
          rw [if_neg (by rw [zle_no (c := 10) (m := 10) (by decide) (Or.inr (Int32.not_le.mpr c25))]; simp)]
        · skip
          refine z_iload_5 (pc := 28) dX8_silent_28 ?_
          refine z_S1 (pc := 30) dX8_silent_30 mlX8_257 kX8_isFirstOrSecond vX8_isFirstOrSecond (by decide) (by decide) (Nat.le_of_ble_eq_true rfl) (qX8_isFirstOrSecond) ⟨Nat.le_refl _, Nat.le_refl _⟩ (fun r h1 hq => ?_)
          obtain ⟨rfl, rfl⟩ := hq
          refine z_if_ne (pc := 33) (tgt := 40) dX8_silent_33 (by decide) (fun c33 => ?_) (fun c33 => ?_)
          · skip
            obtain ⟨i, hi, rfl⟩ := zlt_nI (by decide) ((zbb1 _).mp c4)
            have hcl : (nI i).toNatClampNeg = i := nI_clamp (by omega)
            have h2 := (zbb1 _).mp c13
            simp only [Bool.and_eq_true, Bool.not_eq_true', decide_eq_false_iff_not] at h2
            obtain ⟨⟨ha0, hb0⟩, hab⟩ := h2
            have hn6 := ht.1
            obtain ⟨a1, ha, rfl⟩ := zlt_nI (by omega) ha0
            obtain ⟨b1, hb, rfl⟩ := zlt_nI (by omega) hb0
            have hcla : (nI a1).toNatClampNeg = a1 := nI_clamp (by omega)
            have hclb : (nI b1).toNatClampNeg = b1 := nI_clamp (by omega)
            have hq11 : zlt q 11 = true := zle_yes (m := 10) (by decide) c18 (Int32.not_lt.mp c25)
            refine z_aload_0 (pc := 40) dX8_silent_40 ?_
            refine y_getR (pc := 41) dX8_silent_41 flX8_26 rfl (by first | rfl | assumption) (by first | rfl | assumption) ?_
            refine y_getR (pc := 44) dX8_silent_44 flX8_148 rfl (by first | rfl | assumption) (by first | rfl | assumption) ?_
            refine z_iload_1 (pc := 47) dX8_silent_47 ?_
            refine z_V1 (pc := 48) dX8_silent_48 mlX8_188 kX2_isMissing vX2_isMissing (by decide) (by decide) (by first | rfl | assumption) (Nat.le_of_ble_eq_true rfl) (qX2_isMissing rfl rfl rfl i rfl hi) ⟨Nat.le_refl _, Nat.le_refl _⟩ (fun r h1 hq => ?_)
            obtain ⟨rfl, rfl⟩ := hq
            refine z_if_eq (pc := 51) (tgt := 58) dX8_silent_51 (by decide) (fun c51 => ?_) (fun c51 => ?_)
            · skip
              obtain ⟨w0, hw0, hwe⟩ := (hWh i hi).resolve_left ((zb_eq0 _).mp c51)
              have ew : I 22 (1 + i) - 1 = nI w0 := by rw [hwe, nI_pred]
              refine z_aload_0 (pc := 58) dX8_silent_58 ?_
              refine y_getR (pc := 59) dX8_silent_59 flX8_58 rfl (by first | rfl | assumption) (by first | rfl | assumption) ?_
              refine z_iload_1 (pc := 62) dX8_silent_62 ?_
              refine z_iload_2 (pc := 63) dX8_silent_63 ?_
              refine z_iload_3 (pc := 64) dX8_silent_64 ?_
              refine z_iload_4 (pc := 65) dX8_silent_65 ?_
              refine z_V4 (pc := 67) dX8_silent_67 mlX8_309 kX3_casesOfBelief vX3_casesOfBelief (by decide) (by decide) (by first | rfl | assumption) (Nat.le_of_ble_eq_true rfl) (qX3_casesOfBelief n T A B ht i rfl hi w0 ew a1 rfl ha b1 rfl hb) ⟨Nat.le_refl _, Nat.le_refl _⟩ (fun r h1 hq => ?_)
              obtain ⟨rfl, I2, J2, nw2, rfl, hF⟩ := hq
              refine z_lstore_6 (pc := 70) dX8_silent_70 (by decide) rfl ?_
              refine z_ldc2 (pc := 72) dX8_silent_72 kcX8_313 ?_
              refine z_aload_0 (pc := 75) dX8_silent_75 ?_
              refine y_getR (pc := 76) dX8_silent_76 flX8_26 rfl (by first | rfl | assumption) (by first | rfl | assumption) ?_
              refine y_getI (pc := 79) dX8_silent_79 flX8_315 rfl (by first | rfl | assumption) ?_
              refine z_S2 (pc := 82) dX8_silent_82 mlX8_318 kX8_power vX8_power (by decide) (by decide) (Nat.le_of_ble_eq_true rfl) (qX8_power T (by have := ht.2.2.1; omega) (by rw [hF 15 (by omega)]; exact ht.2.2.2.1)) ⟨Nat.le_refl _, Nat.le_refl _⟩ (fun r h1 hq => ?_)
              obtain ⟨rfl, rfl⟩ := hq
              refine z_lstore_8 (pc := 85) dX8_silent_85 (by decide) rfl ?_
              refine z_iload_5 (pc := 87) dX8_silent_87 ?_
              refine z_if_ne (pc := 89) (tgt := 97) dX8_silent_89 (by decide) (fun c89 => ?_) (fun c89 => ?_)
              · skip
                refine z_lload_8 (pc := 97) dX8_silent_97 ?_
                refine z_lload_6 (pc := 99) dX8_silent_99 ?_
                refine z_lload_8 (pc := 101) dX8_silent_101 ?_
                refine z_S2 (pc := 103) dX8_silent_103 mlX8_322 kX8_commonDivisor vX8_commonDivisor (by decide) (by decide) (Nat.le_of_ble_eq_true rfl) (qX8_commonDivisor) ⟨Nat.le_refl _, Nat.le_refl _⟩ (fun r h1 hq => ?_)
                obtain ⟨rfl, rfl⟩ := hq
                refine z_ldiv (pc := 106) (show ¬ zg1 _ _ = 0 from zg1_ne _ _) dX8_silent_106 ?_
                refine z_ret (pc := 107) (r := some (.long _)) rfl dX8_silent_107 trivial rfl rfl ?_
                refine ⟨?_, I2, J2, nw2, rfl, fun a h1 _ => hF a h1⟩
                rw [zbb1] at c33
                rw [zb_eq0] at c51
                have eP : pSln I n T A B (nI i) (nI a1) (nI b1) q w = zpow 10 T / zg1 (zabv I n T A B i a1 b1 q) (zpow 10 T) := by
                  unfold pSln
                  rw [if_pos ⟨zlt_of hi (by decide), ⟨ha0, hb0, hab⟩, hq11, c33⟩, hcl, hcla, hclb, if_neg c51, if_neg c89]
                rw [eP]
                unfold zabv ztE zg1
                rw [ew]
              · skip
                refine z_lload_6 (pc := 92) dX8_silent_92 ?_
                refine z_goto (pc := 94) (tgt := 99) dX8_silent_94 (by decide) ?_
                refine z_lload_6 (pc := 99) dX8_silent_99 ?_
                refine z_lload_8 (pc := 101) dX8_silent_101 ?_
                refine z_S2 (pc := 103) dX8_silent_103 mlX8_322 kX8_commonDivisor vX8_commonDivisor (by decide) (by decide) (Nat.le_of_ble_eq_true rfl) (qX8_commonDivisor) ⟨Nat.le_refl _, Nat.le_refl _⟩ (fun r h1 hq => ?_)
                obtain ⟨rfl, rfl⟩ := hq
                refine z_ldiv (pc := 106) (show ¬ zg1 _ _ = 0 from zg1_ne _ _) dX8_silent_106 ?_
                refine z_ret (pc := 107) (r := some (.long _)) rfl dX8_silent_107 trivial rfl rfl ?_
                refine ⟨?_, I2, J2, nw2, rfl, fun a h1 _ => hF a h1⟩
                rw [zbb1] at c33
                rw [zb_eq0] at c51
                have eP : pSln I n T A B (nI i) (nI a1) (nI b1) q w = zabv I n T A B i a1 b1 q / zg1 (zabv I n T A B i a1 b1 q) (zpow 10 T) := by
                  unfold pSln
                  rw [if_pos ⟨zlt_of hi (by decide), ⟨ha0, hb0, hab⟩, hq11, c33⟩, hcl, hcla, hclb, if_neg c51, if_pos c89]
                rw [eP]
                unfold zabv ztE zg1
                rw [ew]
            · skip
              refine z_ldc2 (pc := 54) dX8_silent_54 kcX8_307 ?_
              refine z_ret (pc := 57) (r := some (.long _)) rfl dX8_silent_57 trivial rfl rfl ?_
              refine ⟨?_, I, J, nw, rfl, fun _ _ _ => rfl⟩
              rw [zbb1] at c33
              rw [zb_ne0] at c51
              unfold pSln
              rw [if_pos ⟨zlt_of hi (by decide), ⟨ha0, hb0, hab⟩, hq11, c33⟩, hcl, if_pos c51]
          · skip
            refine z_ldc2 (pc := 36) dX8_silent_36 kcX8_305 ?_
            refine z_ret (pc := 39) (r := some (.long _)) rfl dX8_silent_39 trivial rfl rfl ?_
            refine ⟨?_, I, J, nw, rfl, fun _ _ _ => rfl⟩
            rw [zbb0] at c33
            unfold pSln
            rw [if_neg (by rw [c33]; simp)]
def zwkc (I : Nat → Nat → Int32) (n T : Nat) (A B : Nat → Nat) (m x : Int32) : Nat → Int32 := (zwk I n T A B (x.toNatClampNeg, I 22) m.toNatClampNeg).2
def pDrw (I : Nat → Nat → Int32) (n T : Nat) (A B : Nat → Nat) (m x w : Int32) : Int32 × (Nat → Nat → Int32) := if 0 < n then (if zlt m 61 = true ∧ (¬ x < 1 ∧ ¬ 999999 < x) ∧ zlt w 2 = true then (if w = 0 then znotes (zrow I 81 (zwkc I n T A B m x)) 81 else zmalts (zrow I 81 (zwkc I n T A B m x)) 81, I) else (-1000001, I)) else (-1000002, I)
theorem znotes_c {I2 I : Nat → Nat → Int32} {c : Nat → Int32} (h : ∀ b, b < 19 → I2 81 b = c b) : znotes I2 81 = znotes (zrow I 81 c) 81 := by
  unfold znotes
  simp only [zrow_at]
  rw [h 13 (by decide), h 14 (by decide), h 15 (by decide), h 16 (by decide), h 17 (by decide), h 18 (by decide)]
theorem zmalts_c {I2 I : Nat → Nat → Int32} {c : Nat → Int32} (h : ∀ b, b < 19 → I2 81 b = c b) : zmalts I2 81 = zmalts (zrow I 81 c) 81 := by
  unfold zmalts
  simp only [zrow_at]
  rw [h 1 (by decide), h 2 (by decide), h 3 (by decide), h 4 (by decide), h 5 (by decide), h 6 (by decide), h 7 (by decide), h 8 (by decide)]
set_option maxRecDepth 100000 in
set_option maxHeartbeats 4000000 in
theorem qX8_drawn {l : zL} {I : Nat → Nat → Int32} {J : Nat → Nat → Int64} {nw : Bool} (n T : Nat) (A B : Nat → Nat) (ht : zTown I n T A B) (hWh : ∀ i, i < 4 → I 22 (1 + i) = 0 ∨ ∃ w, w < n ∧ I 22 (1 + i) = nI (w + 1)) {m x w : Int32} : zP l mX8_drawn [.ref 0, .int m, .int x, .int w] (hh I J nw) (zPub (pDrw I n T A B m x w)) := by
  refine z_start [.ref 0, .int m, .int x, .int w, zno] (by decide +kernel) (Nat.le_of_ble_eq_true rfl) rfl ?_
  refine z_aload_0 (pc := 0) dX8_drawn_0 ?_
  refine z_V0 (pc := 1) dX8_drawn_1 mlX8_172 kX8_isTownThere vX8_isTownThere (by decide) (by decide) (by first | rfl | assumption) (Nat.le_of_ble_eq_true rfl) (qX8_isTownThere n ht.1 ht.2.1) ⟨Nat.le_refl _, Nat.le_refl _⟩ (fun r h1 hq => ?_)
  obtain ⟨rfl, rfl⟩ := hq
  refine z_if_ne (pc := 4) (tgt := 10) dX8_drawn_4 (by decide) (fun c4 => ?_) (fun c4 => ?_)
  · skip
    rw [zbb1, decide_eq_true_eq] at c4
    refine z_iload_1 (pc := 10) dX8_drawn_10 ?_
    refine z_if_lt (pc := 11) (tgt := 39) dX8_drawn_11 (by decide) (fun c11 => ?_) (fun c11 => ?_)
    · skip
      refine z_ldc (pc := 39) dX8_drawn_39 kcX8_77 ?_
      refine z_ret (pc := 41) (r := some (.int _)) rfl dX8_drawn_41 trivial rfl rfl ?_
      refine zPub_of ?_
      unfold pDrw
      rw [if_pos c4, if_neg]
      intro q
      rw [zlt_no (n := 61) (by decide) (Or.inl c11)] at q
      exact absurd q.1 (by decide)
    · skip
      refine z_iload_1 (pc := 14) dX8_drawn_14 ?_
      refine z_bipush (pc := 15) (60) dX8_drawn_15 rfl ?_
      refine z_icmp_gt (pc := 17) (tgt := 39) dX8_drawn_17 (by decide) (fun c17 => ?_) (fun c17 => ?_)
      · skip
        refine z_ldc (pc := 39) dX8_drawn_39 kcX8_77 ?_
        refine z_ret (pc := 41) (r := some (.int _)) rfl dX8_drawn_41 trivial rfl rfl ?_
        refine zPub_of ?_
        unfold pDrw
        rw [if_pos c4, if_neg]
        intro q
        rw [zle_no (c := 60) (m := 60) (by decide) (Or.inr (Int32.not_le.mpr c17))] at q
        exact absurd q.1 (by decide)
      · skip
        refine z_iload_2 (pc := 20) dX8_drawn_20 ?_
        refine z_iconst (pc := 21) (1) dX8_drawn_21 rfl ?_
        refine z_icmp_lt (pc := 22) (tgt := 39) dX8_drawn_22 (by decide) (fun c22 => ?_) (fun c22 => ?_)
        · skip
          refine z_ldc (pc := 39) dX8_drawn_39 kcX8_77 ?_
          refine z_ret (pc := 41) (r := some (.int _)) rfl dX8_drawn_41 trivial rfl rfl ?_
          refine zPub_of ?_
          unfold pDrw
          rw [if_pos c4, if_neg]
          intro q
          exact q.2.1.1 c22
        · skip
          refine z_iload_2 (pc := 25) dX8_drawn_25 ?_
          refine z_ldcw (pc := 26) dX8_drawn_26 kcX8_326 ?_
          refine z_icmp_gt (pc := 29) (tgt := 39) dX8_drawn_29 (by decide) (fun c29 => ?_) (fun c29 => ?_)
          · skip
            refine z_ldc (pc := 39) dX8_drawn_39 kcX8_77 ?_
            refine z_ret (pc := 41) (r := some (.int _)) rfl dX8_drawn_41 trivial rfl rfl ?_
            refine zPub_of ?_
            unfold pDrw
            rw [if_pos c4, if_neg]
            intro q
            exact q.2.1.2 c29
          · skip
            refine z_iload_3 (pc := 32) dX8_drawn_32 ?_
            refine z_S1 (pc := 33) dX8_drawn_33 mlX8_257 kX8_isFirstOrSecond vX8_isFirstOrSecond (by decide) (by decide) (Nat.le_of_ble_eq_true rfl) (qX8_isFirstOrSecond) ⟨Nat.le_refl _, Nat.le_refl _⟩ (fun r h1 hq => ?_)
            obtain ⟨rfl, rfl⟩ := hq
            refine z_if_ne (pc := 36) (tgt := 42) dX8_drawn_36 (by decide) (fun c36 => ?_) (fun c36 => ?_)
            · skip
              have hm61 : zlt m 61 = true := zle_yes (m := 60) (by decide) c11 (Int32.not_lt.mp c17)
              obtain ⟨m1, hm1, rfl⟩ := zlt_nI (by decide) hm61
              have hx6 : zlt x 1000000 = true := zle_yes (m := 999999) (by decide) (fun q => c22 (Int32.lt_of_lt_of_le q (by decide : (0 : Int32) ≤ 1))) (Int32.not_lt.mp c29)
              obtain ⟨x1, hx1, rfl⟩ := zlt_nI (by decide) hx6
              have hclm : (nI m1).toNatClampNeg = m1 := nI_clamp (by omega)
              have hclx : (nI x1).toNatClampNeg = x1 := nI_clamp (by omega)
              refine z_aload_0 (pc := 42) dX8_drawn_42 ?_
              refine y_getR (pc := 43) dX8_drawn_43 flX8_58 rfl (by first | rfl | assumption) (by first | rfl | assumption) ?_
              refine z_iload_1 (pc := 46) dX8_drawn_46 ?_
              refine z_iload_2 (pc := 47) dX8_drawn_47 ?_
              refine z_V2 (pc := 48) dX8_drawn_48 mlX8_327 kX3_cellarAfterWeek vX3_cellarAfterWeek (by decide) (by decide) (by first | rfl | assumption) (Nat.le_of_ble_eq_true rfl) (qX3_cellarAfterWeek n T A B ht c4 (fun i hi => (hWh i hi).imp id (fun ⟨w, h1, h2⟩ => ⟨w, by have := ht.1; omega, h2⟩)) m1 (by omega) rfl x1 (by omega) rfl) ⟨Nat.le_refl _, Nat.le_refl _⟩ (fun r h1 hq => ?_)
              obtain ⟨rfl, I2, nw2, rfl, hI⟩ := hq
              obtain ⟨w1, w2, w3⟩ := hI
              have hE : zEq I I2 := fun a h1 h2 => w1 a h2 h1
              refine z_astore_4 (pc := 51) dX8_drawn_51 (by decide) rfl ?_
              refine z_iload_3 (pc := 53) dX8_drawn_53 ?_
              refine z_if_ne (pc := 54) (tgt := 65) dX8_drawn_54 (by decide) (fun c54 => ?_) (fun c54 => ?_)
              · skip
                refine z_aload_4 (pc := 65) dX8_drawn_65 ?_
                refine z_V0 (pc := 67) dX8_drawn_67 mlX8_334 kX2_allMalt vX2_allMalt (by decide) (by decide) (by first | rfl | assumption) (Nat.le_of_ble_eq_true rfl) (qX2_allMalt rfl rfl rfl) ⟨Nat.le_refl _, Nat.le_refl _⟩ (fun r h1 hq => ?_)
                obtain ⟨rfl, rfl⟩ := hq
                refine z_ret (pc := 70) (r := some (.int _)) rfl dX8_drawn_70 trivial rfl rfl ?_
                rw [zbb1] at c36
                have eP : pDrw I n T A B (nI m1) (nI x1) w = (zmalts (zrow I 81 (zwk I n T A B (x1, I 22) m1).2) 81, I) := by
                  unfold pDrw zwkc
                  rw [if_pos c4, if_pos ⟨hm61, ⟨c22, c29⟩, c36⟩, if_neg c54, hclm, hclx]
                rw [eP]
                exact ⟨by rw [zmalts_c (I := I) w2], I2, J, nw2, rfl, hE⟩
              · skip
                refine z_aload_4 (pc := 57) dX8_drawn_57 ?_
                refine z_V0 (pc := 59) dX8_drawn_59 mlX8_331 kX2_allNotes vX2_allNotes (by decide) (by decide) (by first | rfl | assumption) (Nat.le_of_ble_eq_true rfl) (qX2_allNotes rfl rfl rfl) ⟨Nat.le_refl _, Nat.le_refl _⟩ (fun r h1 hq => ?_)
                obtain ⟨rfl, rfl⟩ := hq
                refine z_goto (pc := 62) (tgt := 70) dX8_drawn_62 (by decide) ?_
                refine z_ret (pc := 70) (r := some (.int _)) rfl dX8_drawn_70 trivial rfl rfl ?_
                rw [zbb1] at c36
                have eP : pDrw I n T A B (nI m1) (nI x1) w = (znotes (zrow I 81 (zwk I n T A B (x1, I 22) m1).2) 81, I) := by
                  unfold pDrw zwkc
                  rw [if_pos c4, if_pos ⟨hm61, ⟨c22, c29⟩, c36⟩, if_pos c54, hclm, hclx]
                rw [eP]
                exact ⟨by rw [znotes_c (I := I) w2], I2, J, nw2, rfl, hE⟩
            · skip
              refine z_ldc (pc := 39) dX8_drawn_39 kcX8_77 ?_
              refine z_ret (pc := 41) (r := some (.int _)) rfl dX8_drawn_41 trivial rfl rfl ?_
              refine zPub_of ?_
              unfold pDrw
              rw [if_pos c4, if_neg]
              intro q
              rw [zbb0] at c36
              rw [c36] at q
              exact absurd q.2.2 (by decide)
  · skip
    refine z_ldc (pc := 7) dX8_drawn_7 kcX8_147 ?_
    refine z_ret (pc := 9) (r := some (.int _)) rfl dX8_drawn_9 trivial rfl rfl ?_
    rw [zbb0, decide_eq_false_iff_not] at c4
    refine zPub_of ?_
    unfold pDrw
    rw [if_neg c4]
def pAskV (I : Nat → Nat → Int32) (d : Nat) (k w : Int32) : Int32 × (Nat → Nat → Int32) := if k = 1 ∧ w = 0 then (((I 17 d) + ((nI d) + I 18 d)), (ztr (ztr (ztr (ztr (zup I 83 2 0) 0 11) (0 + 1) 10) (0 + 2) 21) (0 + 3) 20)) else if k = 1 ∧ w = 1 then (((nI d) + I 18 d), (ztr (ztr (zup I 83 2 0) 0 21) (0 + 1) 20)) else if k = 2 ∧ w = 0 then ((-((I 17 d) + (2 * ((nI d) + I 18 d)))), (ztr (ztr (ztr (ztr (ztr (ztr (zup I 83 2 0) 0 12) (0 + 1) 11) (0 + 2) 10) (0 + 3) 24) (0 + 4) 21) (0 + 5) 20)) else if k = 2 ∧ w = 1 then ((2 * ((nI d) + I 18 d)), (ztr (ztr (ztr (zup I 83 2 0) 0 24) (0 + 1) 21) (0 + 2) 20)) else if k = 3 ∧ w = 0 then (((I 17 d) + (((nI d) + I 18 d) - 1000)), (ztr (ztr (ztr (ztr (ztr (zup I 83 2 0) 0 11) (0 + 1) 10) (0 + 2) 22) (0 + 3) 21) (0 + 4) 20)) else if k = 3 ∧ w = 1 then ((((nI d) + I 18 d) - 1000), (ztr (ztr (ztr (zup I 83 2 0) 0 22) (0 + 1) 21) (0 + 2) 20)) else if k = 4 ∧ w = 0 then (((I 17 d) - 100), (ztr (ztr (zup I 83 2 0) 0 13) (0 + 1) 10)) else if k = 4 ∧ w = 1 then (((nI d) - ((I 17 d) - 100)), (ztr (ztr (ztr (ztr (zup I 83 2 0) 0 23) (0 + 1) 20) (0 + 2) 13) (0 + 3) 10)) else if k = 5 ∧ w = 0 then ((2 * ((I 17 d) - 100)), (ztr (ztr (ztr (zup I 83 2 0) 0 14) (0 + 1) 13) (0 + 2) 10)) else if k = 5 ∧ w = 1 then (((nI d) - (2 * ((I 17 d) - 100))), (ztr (ztr (ztr (ztr (ztr (zup I 83 2 0) 0 23) (0 + 1) 20) (0 + 2) 14) (0 + 3) 13) (0 + 4) 10)) else (0, I)
def pAsk (I : Nat → Nat → Int32) (n : Nat) (x w : Int32) : Int32 × (Nat → Nat → Int32) := if zlt x n = true ∧ zlt w 2 = true then pAskV I x.toNatClampNeg (I 16 x.toNatClampNeg) w else (-1000001, I)
theorem c10b {k : Nat} (h1 : 1 ≤ k) (h2 : k ≤ 5) : k = 1 ∨ k = 2 ∨ k = 3 ∨ k = 4 ∨ k = 5 := by omega
set_option maxRecDepth 100000 in
set_option maxHeartbeats 4000000 in
theorem qX8_ask_1 {l : zL} {I : Nat → Nat → Int32} {J : Nat → Nat → Int64} {nw : Bool} (n T : Nat) (A B : Nat → Nat) (ht : zTown I n T A B) {x w : Int32} (d : Nat) (hd : d < n) (hx : x = nI d) (ek : I 16 d = nI 1) (hw : zlt w 2 = true) : zP l mX8_ask [.ref 0, .int x, .int w] (hh I J nw) (zPub (pAsk I n x w)) := by
  refine z_start [.ref 0, .int x, .int w] (by decide +kernel) (Nat.le_of_ble_eq_true rfl) rfl ?_
  refine z_aload_0 (pc := 0) dX8_ask_0 ?_
  refine z_iload_1 (pc := 1) dX8_ask_1 ?_
  refine z_V1 (pc := 2) dX8_ask_2 mlX8_156 kX8_isDrinker vX8_isDrinker (by decide) (by decide) (by first | rfl | assumption) (Nat.le_of_ble_eq_true rfl) (qX8_isDrinker n ht.1 ht.2.1) ⟨Nat.le_refl _, Nat.le_refl _⟩ (fun r h1 hq => ?_)
  obtain ⟨rfl, rfl⟩ := hq
  refine z_if_eq (pc := 5) (tgt := 15) dX8_ask_5 (by decide) (fun c5 => ?_) (fun c5 => ?_)
  · exact absurd (zlt_of hd (by have := ht.1; omega)) (by rw [zbb0, hx] at c5; rw [c5]; decide)
  · skip
    refine z_iload_2 (pc := 8) dX8_ask_8 ?_
    refine z_S1 (pc := 9) dX8_ask_9 mlX8_257 kX8_isFirstOrSecond vX8_isFirstOrSecond (by decide) (by decide) (Nat.le_of_ble_eq_true rfl) (qX8_isFirstOrSecond) ⟨Nat.le_refl _, Nat.le_refl _⟩ (fun r h1 hq => ?_)
    obtain ⟨rfl, rfl⟩ := hq
    refine z_if_ne (pc := 12) (tgt := 18) dX8_ask_12 (by decide) (fun c12 => ?_) (fun c12 => ?_)
    · skip
      refine z_iload_2 (pc := 18) dX8_ask_18 ?_
      refine z_if_ne (pc := 19) (tgt := 33) dX8_ask_19 (by decide) (fun c19 => ?_) (fun c19 => ?_)
      · skip
        refine z_aload_0 (pc := 33) dX8_ask_33 ?_
        refine y_getR (pc := 34) dX8_ask_34 flX8_65 rfl (by first | rfl | assumption) (by first | rfl | assumption) ?_
        refine z_iload_1 (pc := 37) dX8_ask_37 ?_
        refine z_V1 (pc := 38) dX8_ask_38 mlX8_346 kX1_markOf vX1_markOf (by decide) (by decide) (by first | rfl | assumption) (Nat.le_of_ble_eq_true rfl) (qX1_markOf_1 d (by have := ht.1; omega) hx ek) ⟨Nat.le_refl _, Nat.le_refl _⟩ (fun r h1 hq => ?_)
        obtain ⟨rfl, rfl⟩ := hq
        refine z_ret (pc := 41) (r := some (.int _)) rfl dX8_ask_41 trivial rfl rfl ?_
        refine zPub_of ?_
        unfold pAsk
        rw [if_pos ⟨by rw [hx]; exact zlt_of hd (by have := ht.1; omega), hw⟩, hx, nI_clamp (by have := ht.1; omega), ek]
        have hw1 : w = 1 := by
          obtain ⟨j, hj, rfl⟩ := zlt_nI (by decide) hw
          match j, hj with
          | 0, _ => exact absurd rfl c19
          | 1, _ => rfl
        rw [hw1]
        unfold pAskV
        simp only [show (nI 1 : Int32) = 1 from rfl, show (nI 2 : Int32) = 2 from rfl, show (nI 3 : Int32) = 3 from rfl, show (nI 4 : Int32) = 4 from rfl, show (nI 5 : Int32) = 5 from rfl]
        simp
      · skip
        refine z_aload_0 (pc := 22) dX8_ask_22 ?_
        refine y_getR (pc := 23) dX8_ask_23 flX8_65 rfl (by first | rfl | assumption) (by first | rfl | assumption) ?_
        refine z_iload_1 (pc := 26) dX8_ask_26 ?_
        refine z_V1 (pc := 27) dX8_ask_27 mlX8_343 kX1_sizeOf vX1_sizeOf (by decide) (by decide) (by first | rfl | assumption) (Nat.le_of_ble_eq_true rfl) (qX1_sizeOf_1 d (by have := ht.1; omega) hx ek) ⟨Nat.le_refl _, Nat.le_refl _⟩ (fun r h1 hq => ?_)
        obtain ⟨rfl, rfl⟩ := hq
        refine z_goto (pc := 30) (tgt := 41) dX8_ask_30 (by decide) ?_
        refine z_ret (pc := 41) (r := some (.int _)) rfl dX8_ask_41 trivial rfl rfl ?_
        refine zPub_of ?_
        unfold pAsk
        rw [if_pos ⟨by rw [hx]; exact zlt_of hd (by have := ht.1; omega), hw⟩, hx, nI_clamp (by have := ht.1; omega), ek]
        rw [c19]
        unfold pAskV
        simp only [show (nI 1 : Int32) = 1 from rfl, show (nI 2 : Int32) = 2 from rfl, show (nI 3 : Int32) = 3 from rfl, show (nI 4 : Int32) = 4 from rfl, show (nI 5 : Int32) = 5 from rfl]
        simp
    · exact absurd hw (by rw [zbb0] at c12; rw [c12]; decide)
set_option maxRecDepth 100000 in
set_option maxHeartbeats 4000000 in
theorem qX8_ask_2 {l : zL} {I : Nat → Nat → Int32} {J : Nat → Nat → Int64} {nw : Bool} (n T : Nat) (A B : Nat → Nat) (ht : zTown I n T A B) {x w : Int32} (d : Nat) (hd : d < n) (hx : x = nI d) (ek : I 16 d = nI 2) (hw : zlt w 2 = true) : zP l mX8_ask [.ref 0, .int x, .int w] (hh I J nw) (zPub (pAsk I n x w)) := by
  refine z_start [.ref 0, .int x, .int w] (by decide +kernel) (Nat.le_of_ble_eq_true rfl) rfl ?_
  refine z_aload_0 (pc := 0) dX8_ask_0 ?_
  refine z_iload_1 (pc := 1) dX8_ask_1 ?_
  refine z_V1 (pc := 2) dX8_ask_2 mlX8_156 kX8_isDrinker vX8_isDrinker (by decide) (by decide) (by first | rfl | assumption) (Nat.le_of_ble_eq_true rfl) (qX8_isDrinker n ht.1 ht.2.1) ⟨Nat.le_refl _, Nat.le_refl _⟩ (fun r h1 hq => ?_)
  obtain ⟨rfl, rfl⟩ := hq
  refine z_if_eq (pc := 5) (tgt := 15) dX8_ask_5 (by decide) (fun c5 => ?_) (fun c5 => ?_)
  · exact absurd (zlt_of hd (by have := ht.1; omega)) (by rw [zbb0, hx] at c5; rw [c5]; decide)
  · skip
    refine z_iload_2 (pc := 8) dX8_ask_8 ?_
    refine z_S1 (pc := 9) dX8_ask_9 mlX8_257 kX8_isFirstOrSecond vX8_isFirstOrSecond (by decide) (by decide) (Nat.le_of_ble_eq_true rfl) (qX8_isFirstOrSecond) ⟨Nat.le_refl _, Nat.le_refl _⟩ (fun r h1 hq => ?_)
    obtain ⟨rfl, rfl⟩ := hq
    refine z_if_ne (pc := 12) (tgt := 18) dX8_ask_12 (by decide) (fun c12 => ?_) (fun c12 => ?_)
    · skip
      refine z_iload_2 (pc := 18) dX8_ask_18 ?_
      refine z_if_ne (pc := 19) (tgt := 33) dX8_ask_19 (by decide) (fun c19 => ?_) (fun c19 => ?_)
      · skip
        refine z_aload_0 (pc := 33) dX8_ask_33 ?_
        refine y_getR (pc := 34) dX8_ask_34 flX8_65 rfl (by first | rfl | assumption) (by first | rfl | assumption) ?_
        refine z_iload_1 (pc := 37) dX8_ask_37 ?_
        refine z_V1 (pc := 38) dX8_ask_38 mlX8_346 kX1_markOf vX1_markOf (by decide) (by decide) (by first | rfl | assumption) (Nat.le_of_ble_eq_true rfl) (qX1_markOf_2 d (by have := ht.1; omega) hx ek) ⟨Nat.le_refl _, Nat.le_refl _⟩ (fun r h1 hq => ?_)
        obtain ⟨rfl, rfl⟩ := hq
        refine z_ret (pc := 41) (r := some (.int _)) rfl dX8_ask_41 trivial rfl rfl ?_
        refine zPub_of ?_
        unfold pAsk
        rw [if_pos ⟨by rw [hx]; exact zlt_of hd (by have := ht.1; omega), hw⟩, hx, nI_clamp (by have := ht.1; omega), ek]
        have hw1 : w = 1 := by
          obtain ⟨j, hj, rfl⟩ := zlt_nI (by decide) hw
          match j, hj with
          | 0, _ => exact absurd rfl c19
          | 1, _ => rfl
        rw [hw1]
        unfold pAskV
        simp only [show (nI 1 : Int32) = 1 from rfl, show (nI 2 : Int32) = 2 from rfl, show (nI 3 : Int32) = 3 from rfl, show (nI 4 : Int32) = 4 from rfl, show (nI 5 : Int32) = 5 from rfl]
        simp
      · skip
        refine z_aload_0 (pc := 22) dX8_ask_22 ?_
        refine y_getR (pc := 23) dX8_ask_23 flX8_65 rfl (by first | rfl | assumption) (by first | rfl | assumption) ?_
        refine z_iload_1 (pc := 26) dX8_ask_26 ?_
        refine z_V1 (pc := 27) dX8_ask_27 mlX8_343 kX1_sizeOf vX1_sizeOf (by decide) (by decide) (by first | rfl | assumption) (Nat.le_of_ble_eq_true rfl) (qX1_sizeOf_2 d (by have := ht.1; omega) hx ek) ⟨Nat.le_refl _, Nat.le_refl _⟩ (fun r h1 hq => ?_)
        obtain ⟨rfl, rfl⟩ := hq
        refine z_goto (pc := 30) (tgt := 41) dX8_ask_30 (by decide) ?_
        refine z_ret (pc := 41) (r := some (.int _)) rfl dX8_ask_41 trivial rfl rfl ?_
        refine zPub_of ?_
        unfold pAsk
        rw [if_pos ⟨by rw [hx]; exact zlt_of hd (by have := ht.1; omega), hw⟩, hx, nI_clamp (by have := ht.1; omega), ek]
        rw [c19]
        unfold pAskV
        simp only [show (nI 1 : Int32) = 1 from rfl, show (nI 2 : Int32) = 2 from rfl, show (nI 3 : Int32) = 3 from rfl, show (nI 4 : Int32) = 4 from rfl, show (nI 5 : Int32) = 5 from rfl]
        simp
    · exact absurd hw (by rw [zbb0] at c12; rw [c12]; decide)
set_option maxRecDepth 100000 in
set_option maxHeartbeats 4000000 in
theorem qX8_ask_3 {l : zL} {I : Nat → Nat → Int32} {J : Nat → Nat → Int64} {nw : Bool} (n T : Nat) (A B : Nat → Nat) (ht : zTown I n T A B) {x w : Int32} (d : Nat) (hd : d < n) (hx : x = nI d) (ek : I 16 d = nI 3) (hw : zlt w 2 = true) : zP l mX8_ask [.ref 0, .int x, .int w] (hh I J nw) (zPub (pAsk I n x w)) := by
  refine z_start [.ref 0, .int x, .int w] (by decide +kernel) (Nat.le_of_ble_eq_true rfl) rfl ?_
  refine z_aload_0 (pc := 0) dX8_ask_0 ?_
  refine z_iload_1 (pc := 1) dX8_ask_1 ?_
  refine z_V1 (pc := 2) dX8_ask_2 mlX8_156 kX8_isDrinker vX8_isDrinker (by decide) (by decide) (by first | rfl | assumption) (Nat.le_of_ble_eq_true rfl) (qX8_isDrinker n ht.1 ht.2.1) ⟨Nat.le_refl _, Nat.le_refl _⟩ (fun r h1 hq => ?_)
  obtain ⟨rfl, rfl⟩ := hq
  refine z_if_eq (pc := 5) (tgt := 15) dX8_ask_5 (by decide) (fun c5 => ?_) (fun c5 => ?_)
  · exact absurd (zlt_of hd (by have := ht.1; omega)) (by rw [zbb0, hx] at c5; rw [c5]; decide)
  · skip
    refine z_iload_2 (pc := 8) dX8_ask_8 ?_
    refine z_S1 (pc := 9) dX8_ask_9 mlX8_257 kX8_isFirstOrSecond vX8_isFirstOrSecond (by decide) (by decide) (Nat.le_of_ble_eq_true rfl) (qX8_isFirstOrSecond) ⟨Nat.le_refl _, Nat.le_refl _⟩ (fun r h1 hq => ?_)
    obtain ⟨rfl, rfl⟩ := hq
    refine z_if_ne (pc := 12) (tgt := 18) dX8_ask_12 (by decide) (fun c12 => ?_) (fun c12 => ?_)
    · skip
      refine z_iload_2 (pc := 18) dX8_ask_18 ?_
      refine z_if_ne (pc := 19) (tgt := 33) dX8_ask_19 (by decide) (fun c19 => ?_) (fun c19 => ?_)
      · skip
        refine z_aload_0 (pc := 33) dX8_ask_33 ?_
        refine y_getR (pc := 34) dX8_ask_34 flX8_65 rfl (by first | rfl | assumption) (by first | rfl | assumption) ?_
        refine z_iload_1 (pc := 37) dX8_ask_37 ?_
        refine z_V1 (pc := 38) dX8_ask_38 mlX8_346 kX1_markOf vX1_markOf (by decide) (by decide) (by first | rfl | assumption) (Nat.le_of_ble_eq_true rfl) (qX1_markOf_3 d (by have := ht.1; omega) hx ek) ⟨Nat.le_refl _, Nat.le_refl _⟩ (fun r h1 hq => ?_)
        obtain ⟨rfl, rfl⟩ := hq
        refine z_ret (pc := 41) (r := some (.int _)) rfl dX8_ask_41 trivial rfl rfl ?_
        refine zPub_of ?_
        unfold pAsk
        rw [if_pos ⟨by rw [hx]; exact zlt_of hd (by have := ht.1; omega), hw⟩, hx, nI_clamp (by have := ht.1; omega), ek]
        have hw1 : w = 1 := by
          obtain ⟨j, hj, rfl⟩ := zlt_nI (by decide) hw
          match j, hj with
          | 0, _ => exact absurd rfl c19
          | 1, _ => rfl
        rw [hw1]
        unfold pAskV
        simp only [show (nI 1 : Int32) = 1 from rfl, show (nI 2 : Int32) = 2 from rfl, show (nI 3 : Int32) = 3 from rfl, show (nI 4 : Int32) = 4 from rfl, show (nI 5 : Int32) = 5 from rfl]
        simp
      · skip
        refine z_aload_0 (pc := 22) dX8_ask_22 ?_
        refine y_getR (pc := 23) dX8_ask_23 flX8_65 rfl (by first | rfl | assumption) (by first | rfl | assumption) ?_
        refine z_iload_1 (pc := 26) dX8_ask_26 ?_
        refine z_V1 (pc := 27) dX8_ask_27 mlX8_343 kX1_sizeOf vX1_sizeOf (by decide) (by decide) (by first | rfl | assumption) (Nat.le_of_ble_eq_true rfl) (qX1_sizeOf_3 d (by have := ht.1; omega) hx ek) ⟨Nat.le_refl _, Nat.le_refl _⟩ (fun r h1 hq => ?_)
        obtain ⟨rfl, rfl⟩ := hq
        refine z_goto (pc := 30) (tgt := 41) dX8_ask_30 (by decide) ?_
        refine z_ret (pc := 41) (r := some (.int _)) rfl dX8_ask_41 trivial rfl rfl ?_
        refine zPub_of ?_
        unfold pAsk
        rw [if_pos ⟨by rw [hx]; exact zlt_of hd (by have := ht.1; omega), hw⟩, hx, nI_clamp (by have := ht.1; omega), ek]
        rw [c19]
        unfold pAskV
        simp only [show (nI 1 : Int32) = 1 from rfl, show (nI 2 : Int32) = 2 from rfl, show (nI 3 : Int32) = 3 from rfl, show (nI 4 : Int32) = 4 from rfl, show (nI 5 : Int32) = 5 from rfl]
        simp
    · exact absurd hw (by rw [zbb0] at c12; rw [c12]; decide)
set_option maxRecDepth 100000 in
set_option maxHeartbeats 4000000 in
theorem qX8_ask_4 {l : zL} {I : Nat → Nat → Int32} {J : Nat → Nat → Int64} {nw : Bool} (n T : Nat) (A B : Nat → Nat) (ht : zTown I n T A B) {x w : Int32} (d : Nat) (hd : d < n) (hx : x = nI d) (ek : I 16 d = nI 4) (hw : zlt w 2 = true) : zP l mX8_ask [.ref 0, .int x, .int w] (hh I J nw) (zPub (pAsk I n x w)) := by
  refine z_start [.ref 0, .int x, .int w] (by decide +kernel) (Nat.le_of_ble_eq_true rfl) rfl ?_
  refine z_aload_0 (pc := 0) dX8_ask_0 ?_
  refine z_iload_1 (pc := 1) dX8_ask_1 ?_
  refine z_V1 (pc := 2) dX8_ask_2 mlX8_156 kX8_isDrinker vX8_isDrinker (by decide) (by decide) (by first | rfl | assumption) (Nat.le_of_ble_eq_true rfl) (qX8_isDrinker n ht.1 ht.2.1) ⟨Nat.le_refl _, Nat.le_refl _⟩ (fun r h1 hq => ?_)
  obtain ⟨rfl, rfl⟩ := hq
  refine z_if_eq (pc := 5) (tgt := 15) dX8_ask_5 (by decide) (fun c5 => ?_) (fun c5 => ?_)
  · exact absurd (zlt_of hd (by have := ht.1; omega)) (by rw [zbb0, hx] at c5; rw [c5]; decide)
  · skip
    refine z_iload_2 (pc := 8) dX8_ask_8 ?_
    refine z_S1 (pc := 9) dX8_ask_9 mlX8_257 kX8_isFirstOrSecond vX8_isFirstOrSecond (by decide) (by decide) (Nat.le_of_ble_eq_true rfl) (qX8_isFirstOrSecond) ⟨Nat.le_refl _, Nat.le_refl _⟩ (fun r h1 hq => ?_)
    obtain ⟨rfl, rfl⟩ := hq
    refine z_if_ne (pc := 12) (tgt := 18) dX8_ask_12 (by decide) (fun c12 => ?_) (fun c12 => ?_)
    · skip
      refine z_iload_2 (pc := 18) dX8_ask_18 ?_
      refine z_if_ne (pc := 19) (tgt := 33) dX8_ask_19 (by decide) (fun c19 => ?_) (fun c19 => ?_)
      · skip
        refine z_aload_0 (pc := 33) dX8_ask_33 ?_
        refine y_getR (pc := 34) dX8_ask_34 flX8_65 rfl (by first | rfl | assumption) (by first | rfl | assumption) ?_
        refine z_iload_1 (pc := 37) dX8_ask_37 ?_
        refine z_V1 (pc := 38) dX8_ask_38 mlX8_346 kX1_markOf vX1_markOf (by decide) (by decide) (by first | rfl | assumption) (Nat.le_of_ble_eq_true rfl) (qX1_markOf_4 d (by have := ht.1; omega) hx ek) ⟨Nat.le_refl _, Nat.le_refl _⟩ (fun r h1 hq => ?_)
        obtain ⟨rfl, rfl⟩ := hq
        refine z_ret (pc := 41) (r := some (.int _)) rfl dX8_ask_41 trivial rfl rfl ?_
        refine zPub_of ?_
        unfold pAsk
        rw [if_pos ⟨by rw [hx]; exact zlt_of hd (by have := ht.1; omega), hw⟩, hx, nI_clamp (by have := ht.1; omega), ek]
        have hw1 : w = 1 := by
          obtain ⟨j, hj, rfl⟩ := zlt_nI (by decide) hw
          match j, hj with
          | 0, _ => exact absurd rfl c19
          | 1, _ => rfl
        rw [hw1]
        unfold pAskV
        simp only [show (nI 1 : Int32) = 1 from rfl, show (nI 2 : Int32) = 2 from rfl, show (nI 3 : Int32) = 3 from rfl, show (nI 4 : Int32) = 4 from rfl, show (nI 5 : Int32) = 5 from rfl]
        simp
      · skip
        refine z_aload_0 (pc := 22) dX8_ask_22 ?_
        refine y_getR (pc := 23) dX8_ask_23 flX8_65 rfl (by first | rfl | assumption) (by first | rfl | assumption) ?_
        refine z_iload_1 (pc := 26) dX8_ask_26 ?_
        refine z_V1 (pc := 27) dX8_ask_27 mlX8_343 kX1_sizeOf vX1_sizeOf (by decide) (by decide) (by first | rfl | assumption) (Nat.le_of_ble_eq_true rfl) (qX1_sizeOf_4 d (by have := ht.1; omega) hx ek) ⟨Nat.le_refl _, Nat.le_refl _⟩ (fun r h1 hq => ?_)
        obtain ⟨rfl, rfl⟩ := hq
        refine z_goto (pc := 30) (tgt := 41) dX8_ask_30 (by decide) ?_
        refine z_ret (pc := 41) (r := some (.int _)) rfl dX8_ask_41 trivial rfl rfl ?_
        refine zPub_of ?_
        unfold pAsk
        rw [if_pos ⟨by rw [hx]; exact zlt_of hd (by have := ht.1; omega), hw⟩, hx, nI_clamp (by have := ht.1; omega), ek]
        rw [c19]
        unfold pAskV
        simp only [show (nI 1 : Int32) = 1 from rfl, show (nI 2 : Int32) = 2 from rfl, show (nI 3 : Int32) = 3 from rfl, show (nI 4 : Int32) = 4 from rfl, show (nI 5 : Int32) = 5 from rfl]
        simp
    · exact absurd hw (by rw [zbb0] at c12; rw [c12]; decide)
set_option maxRecDepth 100000 in
set_option maxHeartbeats 4000000 in
theorem qX8_ask_5 {l : zL} {I : Nat → Nat → Int32} {J : Nat → Nat → Int64} {nw : Bool} (n T : Nat) (A B : Nat → Nat) (ht : zTown I n T A B) {x w : Int32} (d : Nat) (hd : d < n) (hx : x = nI d) (ek : I 16 d = nI 5) (hw : zlt w 2 = true) : zP l mX8_ask [.ref 0, .int x, .int w] (hh I J nw) (zPub (pAsk I n x w)) := by
  refine z_start [.ref 0, .int x, .int w] (by decide +kernel) (Nat.le_of_ble_eq_true rfl) rfl ?_
  refine z_aload_0 (pc := 0) dX8_ask_0 ?_
  refine z_iload_1 (pc := 1) dX8_ask_1 ?_
  refine z_V1 (pc := 2) dX8_ask_2 mlX8_156 kX8_isDrinker vX8_isDrinker (by decide) (by decide) (by first | rfl | assumption) (Nat.le_of_ble_eq_true rfl) (qX8_isDrinker n ht.1 ht.2.1) ⟨Nat.le_refl _, Nat.le_refl _⟩ (fun r h1 hq => ?_)
  obtain ⟨rfl, rfl⟩ := hq
  refine z_if_eq (pc := 5) (tgt := 15) dX8_ask_5 (by decide) (fun c5 => ?_) (fun c5 => ?_)
  · exact absurd (zlt_of hd (by have := ht.1; omega)) (by rw [zbb0, hx] at c5; rw [c5]; decide)
  · skip
    refine z_iload_2 (pc := 8) dX8_ask_8 ?_
    refine z_S1 (pc := 9) dX8_ask_9 mlX8_257 kX8_isFirstOrSecond vX8_isFirstOrSecond (by decide) (by decide) (Nat.le_of_ble_eq_true rfl) (qX8_isFirstOrSecond) ⟨Nat.le_refl _, Nat.le_refl _⟩ (fun r h1 hq => ?_)
    obtain ⟨rfl, rfl⟩ := hq
    refine z_if_ne (pc := 12) (tgt := 18) dX8_ask_12 (by decide) (fun c12 => ?_) (fun c12 => ?_)
    · skip
      refine z_iload_2 (pc := 18) dX8_ask_18 ?_
      refine z_if_ne (pc := 19) (tgt := 33) dX8_ask_19 (by decide) (fun c19 => ?_) (fun c19 => ?_)
      · skip
        refine z_aload_0 (pc := 33) dX8_ask_33 ?_
        refine y_getR (pc := 34) dX8_ask_34 flX8_65 rfl (by first | rfl | assumption) (by first | rfl | assumption) ?_
        refine z_iload_1 (pc := 37) dX8_ask_37 ?_
        refine z_V1 (pc := 38) dX8_ask_38 mlX8_346 kX1_markOf vX1_markOf (by decide) (by decide) (by first | rfl | assumption) (Nat.le_of_ble_eq_true rfl) (qX1_markOf_5 d (by have := ht.1; omega) hx ek) ⟨Nat.le_refl _, Nat.le_refl _⟩ (fun r h1 hq => ?_)
        obtain ⟨rfl, rfl⟩ := hq
        refine z_ret (pc := 41) (r := some (.int _)) rfl dX8_ask_41 trivial rfl rfl ?_
        refine zPub_of ?_
        unfold pAsk
        rw [if_pos ⟨by rw [hx]; exact zlt_of hd (by have := ht.1; omega), hw⟩, hx, nI_clamp (by have := ht.1; omega), ek]
        have hw1 : w = 1 := by
          obtain ⟨j, hj, rfl⟩ := zlt_nI (by decide) hw
          match j, hj with
          | 0, _ => exact absurd rfl c19
          | 1, _ => rfl
        rw [hw1]
        unfold pAskV
        simp only [show (nI 1 : Int32) = 1 from rfl, show (nI 2 : Int32) = 2 from rfl, show (nI 3 : Int32) = 3 from rfl, show (nI 4 : Int32) = 4 from rfl, show (nI 5 : Int32) = 5 from rfl]
        simp
      · skip
        refine z_aload_0 (pc := 22) dX8_ask_22 ?_
        refine y_getR (pc := 23) dX8_ask_23 flX8_65 rfl (by first | rfl | assumption) (by first | rfl | assumption) ?_
        refine z_iload_1 (pc := 26) dX8_ask_26 ?_
        refine z_V1 (pc := 27) dX8_ask_27 mlX8_343 kX1_sizeOf vX1_sizeOf (by decide) (by decide) (by first | rfl | assumption) (Nat.le_of_ble_eq_true rfl) (qX1_sizeOf_5 d (by have := ht.1; omega) hx ek) ⟨Nat.le_refl _, Nat.le_refl _⟩ (fun r h1 hq => ?_)
        obtain ⟨rfl, rfl⟩ := hq
        refine z_goto (pc := 30) (tgt := 41) dX8_ask_30 (by decide) ?_
        refine z_ret (pc := 41) (r := some (.int _)) rfl dX8_ask_41 trivial rfl rfl ?_
        refine zPub_of ?_
        unfold pAsk
        rw [if_pos ⟨by rw [hx]; exact zlt_of hd (by have := ht.1; omega), hw⟩, hx, nI_clamp (by have := ht.1; omega), ek]
        rw [c19]
        unfold pAskV
        simp only [show (nI 1 : Int32) = 1 from rfl, show (nI 2 : Int32) = 2 from rfl, show (nI 3 : Int32) = 3 from rfl, show (nI 4 : Int32) = 4 from rfl, show (nI 5 : Int32) = 5 from rfl]
        simp
    · exact absurd hw (by rw [zbb0] at c12; rw [c12]; decide)
set_option maxRecDepth 100000 in
set_option maxHeartbeats 4000000 in
theorem qX8_ask_no {l : zL} {I : Nat → Nat → Int32} {J : Nat → Nat → Int64} {nw : Bool} (n T : Nat) (A B : Nat → Nat) (ht : zTown I n T A B) {x w : Int32} (hb : ¬ (zlt x n = true ∧ zlt w 2 = true)) : zP l mX8_ask [.ref 0, .int x, .int w] (hh I J nw) (zPub (pAsk I n x w)) := by
  refine z_start [.ref 0, .int x, .int w] (by decide +kernel) (Nat.le_of_ble_eq_true rfl) rfl ?_
  refine z_aload_0 (pc := 0) dX8_ask_0 ?_
  refine z_iload_1 (pc := 1) dX8_ask_1 ?_
  refine z_V1 (pc := 2) dX8_ask_2 mlX8_156 kX8_isDrinker vX8_isDrinker (by decide) (by decide) (by first | rfl | assumption) (Nat.le_of_ble_eq_true rfl) (qX8_isDrinker n ht.1 ht.2.1) ⟨Nat.le_refl _, Nat.le_refl _⟩ (fun r h1 hq => ?_)
  obtain ⟨rfl, rfl⟩ := hq
  refine z_if_eq (pc := 5) (tgt := 15) dX8_ask_5 (by decide) (fun c5 => ?_) (fun c5 => ?_)
  · skip
    refine z_ldc (pc := 15) dX8_ask_15 kcX8_77 ?_
    refine z_ret (pc := 17) (r := some (.int _)) rfl dX8_ask_17 trivial rfl rfl ?_
    refine zPub_of ?_
    unfold pAsk
    rw [if_neg hb]
  · skip
    refine z_iload_2 (pc := 8) dX8_ask_8 ?_
    refine z_S1 (pc := 9) dX8_ask_9 mlX8_257 kX8_isFirstOrSecond vX8_isFirstOrSecond (by decide) (by decide) (Nat.le_of_ble_eq_true rfl) (qX8_isFirstOrSecond) ⟨Nat.le_refl _, Nat.le_refl _⟩ (fun r h1 hq => ?_)
    obtain ⟨rfl, rfl⟩ := hq
    refine z_if_ne (pc := 12) (tgt := 18) dX8_ask_12 (by decide) (fun c12 => ?_) (fun c12 => ?_)
    · skip
      exact absurd ⟨(zbb1 _).mp c5, (zbb1 _).mp c12⟩ hb
    · skip
      refine z_ldc (pc := 15) dX8_ask_15 kcX8_77 ?_
      refine z_ret (pc := 17) (r := some (.int _)) rfl dX8_ask_17 trivial rfl rfl ?_
      refine zPub_of ?_
      unfold pAsk
      rw [if_neg hb]
