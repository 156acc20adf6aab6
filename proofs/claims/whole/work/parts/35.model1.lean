set_option maxRecDepth 100000 in
set_option maxHeartbeats 4000000 in
theorem qX9_in {l : zL} {I : Nat → Nat → Int32} {J : Nat → Nat → Int64} {nw : Bool} {a b c : Int64} : zP l mX9_in [.long a, .long b, .long c] (hh I J nw) (zR (some (.int (zbb (decide (b ≤ a) && decide (a ≤ c))))) (hh I J nw)) := by
  refine z_start [.long a, zno, .long b, zno, .long c, zno] (by decide +kernel) (Nat.le_of_ble_eq_true rfl) rfl ?_
  refine z_lload_0 (pc := 0) dX9_in_0 ?_
  refine z_lload_2 (pc := 1) dX9_in_1 ?_
  refine z_lcmp (pc := 2) dX9_in_2 ?_
  refine z_if_lt (pc := 3) (tgt := 17) dX9_in_3 (by decide) (fun c3 => ?_) (fun c3 => ?_)
  · skip
    refine z_iconst (pc := 17) (0) dX9_in_17 rfl ?_
    refine z_ret (pc := 18) (r := some (.int _)) rfl dX9_in_18 (by first | exact Or.inl rfl | exact Or.inr rfl | assumption) rfl rfl ?_
    refine ⟨?_, rfl⟩
    rw [lg_cmp_lt] at c3
    rw [decide_eq_false (Int64.not_le.mpr c3)]
    rfl
  · skip
    refine z_lload_0 (pc := 6) dX9_in_6 ?_
    refine z_lload_4 (pc := 7) dX9_in_7 ?_
    refine z_lcmp (pc := 9) dX9_in_9 ?_
    refine z_if_gt (pc := 10) (tgt := 17) dX9_in_10 (by decide) (fun c10 => ?_) (fun c10 => ?_)
    · skip
      refine z_iconst (pc := 17) (0) dX9_in_17 rfl ?_
      refine z_ret (pc := 18) (r := some (.int _)) rfl dX9_in_18 (by first | exact Or.inl rfl | exact Or.inr rfl | assumption) rfl rfl ?_
      refine ⟨?_, rfl⟩
      rw [lg_cmp_lt] at c3
      rw [lg_cmp_gt] at c10
      rw [decide_eq_false (Int64.not_le.mpr c10), Bool.and_false]
      rfl
    · skip
      refine z_iconst (pc := 13) (1) dX9_in_13 rfl ?_
      refine z_goto (pc := 14) (tgt := 18) dX9_in_14 (by decide) ?_
      refine z_ret (pc := 18) (r := some (.int _)) rfl dX9_in_18 (by first | exact Or.inl rfl | exact Or.inr rfl | assumption) rfl rfl ?_
      refine ⟨?_, rfl⟩
      rw [lg_cmp_lt] at c3
      rw [lg_cmp_gt] at c10
      rw [decide_eq_true (Int64.not_lt.mp c3), decide_eq_true (Int64.not_lt.mp c10)]
      rfl
theorem zbb_01 (b : Bool) : zbb b = 0 ∨ zbb b = 1 := by cases b <;> first | exact Or.inl rfl | exact Or.inr rfl
theorem in_zlt {x : Int32} {c : Int64} {m : Nat} (hc : c.toInt = (m : Int) - 1) : (decide ((0 : Int64) ≤ x.toInt64) && decide (x.toInt64 ≤ c)) = zlt x m := by
  unfold zlt
  rw [← Bool.decide_and]
  refine decide_eq_decide.mpr ?_
  rw [Int64.le_iff_toInt_le, Int64.le_iff_toInt_le, Int32.toInt_toInt64, hc, Int64.toInt_zero]
  omega
set_option maxRecDepth 100000 in
set_option maxHeartbeats 4000000 in
theorem qX9_found {l : zL} {I : Nat → Nat → Int32} {J : Nat → Nat → Int64} {nw : Bool} {x : Int32} : zP l mX9_found [.ref 85, .int x] (hh I J nw) (zR (some (.int (-1000010 - x))) (zup I 85 3 x, J, RF nw, SH)) := by
  refine z_start [.ref 85, .int x] (by decide +kernel) (Nat.le_of_ble_eq_true rfl) rfl ?_
  refine z_aload_0 (pc := 0) dX9_found_0 ?_
  refine z_iload_1 (pc := 1) dX9_found_1 ?_
  refine y_putI (pc := 2) dX9_found_2 flX9_53 ffX9_53 rfl (by first | rfl | assumption) ⟨rfl, rfl⟩ ?_
  refine z_ldc (pc := 5) dX9_found_5 kcX9_57 ?_
  refine z_iload_1 (pc := 7) dX9_found_7 ?_
  refine z_isub (pc := 8) dX9_found_8 ?_
  refine z_ret (pc := 9) (r := some (.int _)) rfl dX9_found_9 trivial rfl rfl ?_
  exact ⟨rfl, rfl⟩
set_option maxRecDepth 100000 in
set_option maxHeartbeats 4000000 in
theorem qX9_well {l : zL} {I : Nat → Nat → Int32} {J : Nat → Nat → Int64} {nw : Bool} {x : Int32} : zP l mX9_well [.ref 85, .int x] (hh I J nw) (zR (some (.int x)) (zup I 85 3 0, J, RF nw, SH)) := by
  refine z_start [.ref 85, .int x] (by decide +kernel) (Nat.le_of_ble_eq_true rfl) rfl ?_
  refine z_aload_0 (pc := 0) dX9_well_0 ?_
  refine z_iconst (pc := 1) (0) dX9_well_1 rfl ?_
  refine y_putI (pc := 2) dX9_well_2 flX9_53 ffX9_53 rfl (by first | rfl | assumption) ⟨rfl, rfl⟩ ?_
  refine z_iload_1 (pc := 5) dX9_well_5 ?_
  refine z_ret (pc := 6) (r := some (.int _)) rfl dX9_well_6 trivial rfl rfl ?_
  exact ⟨rfl, rfl⟩
set_option maxRecDepth 100000 in
set_option maxHeartbeats 4000000 in
theorem qX9_isRow {l : zL} {I : Nat → Nat → Int32} {J : Nat → Nat → Int64} {nw : Bool} {x : Int32} : zP l mX9_isRow [.int x] (hh I J nw) (zR (some (.int (zbb (zlt x 8)))) (hh I J nw)) := by
  refine z_start [.int x] (by decide +kernel) (Nat.le_of_ble_eq_true rfl) rfl ?_
  refine z_iload_0 (pc := 0) dX9_isRow_0 ?_
  refine z_i2l (pc := 1) dX9_isRow_1 ?_
  refine z_lconst (pc := 2) 0 dX9_isRow_2 rfl ?_
  refine z_ldc2 (pc := 3) dX9_isRow_3 kcX9_58 ?_
  refine z_S3 (pc := 6) dX9_isRow_6 mlX9_60 kX9_in vX9_in (by decide) (by decide) (Nat.le_of_ble_eq_true rfl) (qX9_in) ⟨Nat.le_refl _, Nat.le_refl _⟩ (fun r h1 hq => ?_)
  obtain ⟨rfl, rfl⟩ := hq
  refine z_ret (pc := 9) (r := some (.int _)) rfl dX9_isRow_9 (zbb_01 _) rfl rfl ?_
  exact ⟨by rw [in_zlt (m := 8) (by decide)], rfl⟩
set_option maxRecDepth 100000 in
set_option maxHeartbeats 4000000 in
theorem qX9_isCask {l : zL} {I : Nat → Nat → Int32} {J : Nat → Nat → Int64} {nw : Bool} {x : Int32} : zP l mX9_isCask [.int x] (hh I J nw) (zR (some (.int (zbb (zlt x 4)))) (hh I J nw)) := by
  refine z_start [.int x] (by decide +kernel) (Nat.le_of_ble_eq_true rfl) rfl ?_
  refine z_iload_0 (pc := 0) dX9_isCask_0 ?_
  refine z_i2l (pc := 1) dX9_isCask_1 ?_
  refine z_lconst (pc := 2) 0 dX9_isCask_2 rfl ?_
  refine z_ldc2 (pc := 3) dX9_isCask_3 kcX9_154 ?_
  refine z_S3 (pc := 6) dX9_isCask_6 mlX9_60 kX9_in vX9_in (by decide) (by decide) (Nat.le_of_ble_eq_true rfl) (qX9_in) ⟨Nat.le_refl _, Nat.le_refl _⟩ (fun r h1 hq => ?_)
  obtain ⟨rfl, rfl⟩ := hq
  refine z_ret (pc := 9) (r := some (.int _)) rfl dX9_isCask_9 (zbb_01 _) rfl rfl ?_
  exact ⟨by rw [in_zlt (m := 4) (by decide)], rfl⟩
set_option maxRecDepth 100000 in
set_option maxHeartbeats 4000000 in
theorem qX9_isTwo {l : zL} {I : Nat → Nat → Int32} {J : Nat → Nat → Int64} {nw : Bool} {x : Int32} : zP l mX9_isTwo [.int x] (hh I J nw) (zR (some (.int (zbb (zlt x 2)))) (hh I J nw)) := by
  refine z_start [.int x] (by decide +kernel) (Nat.le_of_ble_eq_true rfl) rfl ?_
  refine z_iload_0 (pc := 0) dX9_isTwo_0 ?_
  refine z_i2l (pc := 1) dX9_isTwo_1 ?_
  refine z_lconst (pc := 2) 0 dX9_isTwo_2 rfl ?_
  refine z_lconst (pc := 3) 1 dX9_isTwo_3 rfl ?_
  refine z_S3 (pc := 4) dX9_isTwo_4 mlX9_60 kX9_in vX9_in (by decide) (by decide) (Nat.le_of_ble_eq_true rfl) (qX9_in) ⟨Nat.le_refl _, Nat.le_refl _⟩ (fun r h1 hq => ?_)
  obtain ⟨rfl, rfl⟩ := hq
  refine z_ret (pc := 7) (r := some (.int _)) rfl dX9_isTwo_7 (zbb_01 _) rfl rfl ?_
  exact ⟨by rw [in_zlt (m := 2) (by decide)], rfl⟩
theorem nm1 : ∀ n, n ≤ 6 → ((nI n - 1).toInt64).toInt = (n : Int) - 1 := by decide +kernel
theorem pm1 : ∀ n, n ≤ 6 → (((1 : Int32) <<< (nI n &&& 31) - 1).toInt64).toInt = ((2 ^ n : Nat) : Int) - 1 := by decide +kernel
set_option maxRecDepth 100000 in
set_option maxHeartbeats 4000000 in
theorem qX9_isDrinker {l : zL} {I : Nat → Nat → Int32} {J : Nat → Nat → Int64} {nw : Bool} (n : Nat) (hn : n ≤ 6) (en : I 90 3 = nI n) {x : Int32} : zP l mX9_isDrinker [.ref 85, .int x] (hh I J nw) (zR (some (.int (zbb (zlt x n)))) (hh I J nw)) := by
  refine z_start [.ref 85, .int x] (by decide +kernel) (Nat.le_of_ble_eq_true rfl) rfl ?_
  refine z_iload_1 (pc := 0) dX9_isDrinker_0 ?_
  refine z_i2l (pc := 1) dX9_isDrinker_1 ?_
  refine z_lconst (pc := 2) 0 dX9_isDrinker_2 rfl ?_
  refine z_aload_0 (pc := 3) dX9_isDrinker_3 ?_
  refine y_getR (pc := 4) dX9_isDrinker_4 flX9_22 rfl (by first | rfl | assumption) (by first | rfl | assumption) ?_
  refine z_iconst (pc := 7) (3) dX9_isDrinker_7 rfl ?_
  refine y_ialdN (pc := 8) (3) dX9_isDrinker_8 (by first | rfl | assumption) (rfl) (by decide) (by first | decide | omega) ?_
  refine z_iconst (pc := 9) (1) dX9_isDrinker_9 rfl ?_
  refine z_isub (pc := 10) dX9_isDrinker_10 ?_
  refine z_i2l (pc := 11) dX9_isDrinker_11 ?_
  refine z_S3 (pc := 12) dX9_isDrinker_12 mlX9_60 kX9_in vX9_in (by decide) (by decide) (Nat.le_of_ble_eq_true rfl) (qX9_in) ⟨Nat.le_refl _, Nat.le_refl _⟩ (fun r h1 hq => ?_)
  obtain ⟨rfl, rfl⟩ := hq
  refine z_ret (pc := 15) (r := some (.int _)) rfl dX9_isDrinker_15 (zbb_01 _) rfl rfl ?_
  exact ⟨by rw [in_zlt (m := n) (by rw [en]; exact nm1 n hn)], rfl⟩
set_option maxRecDepth 100000 in
set_option maxHeartbeats 4000000 in
theorem qX9_areDrinkers {l : zL} {I : Nat → Nat → Int32} {J : Nat → Nat → Int64} {nw : Bool} (n : Nat) (hn : n ≤ 6) (en : I 90 3 = nI n) {x : Int32} : zP l mX9_areDrinkers [.ref 85, .int x] (hh I J nw) (zR (some (.int (zbb (zsub x n)))) (hh I J nw)) := by
  refine z_start [.ref 85, .int x] (by decide +kernel) (Nat.le_of_ble_eq_true rfl) rfl ?_
  refine z_iload_1 (pc := 0) dX9_areDrinkers_0 ?_
  refine z_i2l (pc := 1) dX9_areDrinkers_1 ?_
  refine z_lconst (pc := 2) 0 dX9_areDrinkers_2 rfl ?_
  refine z_iconst (pc := 3) (1) dX9_areDrinkers_3 rfl ?_
  refine z_aload_0 (pc := 4) dX9_areDrinkers_4 ?_
  refine y_getR (pc := 5) dX9_areDrinkers_5 flX9_22 rfl (by first | rfl | assumption) (by first | rfl | assumption) ?_
  refine z_iconst (pc := 8) (3) dX9_areDrinkers_8 rfl ?_
  refine y_ialdN (pc := 9) (3) dX9_areDrinkers_9 (by first | rfl | assumption) (rfl) (by decide) (by first | decide | omega) ?_
  refine z_ishl (pc := 10) dX9_areDrinkers_10 ?_
  refine z_iconst (pc := 11) (1) dX9_areDrinkers_11 rfl ?_
  refine z_isub (pc := 12) dX9_areDrinkers_12 ?_
  refine z_i2l (pc := 13) dX9_areDrinkers_13 ?_
  refine z_S3 (pc := 14) dX9_areDrinkers_14 mlX9_60 kX9_in vX9_in (by decide) (by decide) (Nat.le_of_ble_eq_true rfl) (qX9_in) ⟨Nat.le_refl _, Nat.le_refl _⟩ (fun r h1 hq => ?_)
  obtain ⟨rfl, rfl⟩ := hq
  refine z_ret (pc := 17) (r := some (.int _)) rfl dX9_areDrinkers_17 (zbb_01 _) rfl rfl ?_
  exact ⟨by unfold zsub; rw [in_zlt (m := 2 ^ n) (by rw [en]; exact pm1 n hn)], rfl⟩
set_option maxRecDepth 100000 in
set_option maxHeartbeats 4000000 in
theorem qX9_has {l : zL} {I : Nat → Nat → Int32} {J : Nat → Nat → Int64} {nw : Bool} {x y : Int32} : zP l mX9_has [.int x, .int y] (hh I J nw) (zR (some (.int (zbb (decide ((x >>> (y &&& 31)) &&& 1 = 1))))) (hh I J nw)) := by
  refine z_start [.int x, .int y] (by decide +kernel) (Nat.le_of_ble_eq_true rfl) rfl ?_
  refine z_iload_0 (pc := 0) dX9_has_0 ?_
  refine z_iload_1 (pc := 1) dX9_has_1 ?_
  refine z_ishr (pc := 2) dX9_has_2 ?_
  refine z_iconst (pc := 3) (1) dX9_has_3 rfl ?_
  refine z_iand (pc := 4) dX9_has_4 ?_
  refine z_iconst (pc := 5) (1) dX9_has_5 rfl ?_
  refine z_icmp_ne (pc := 6) (tgt := 13) dX9_has_6 (by decide) (fun c6 => ?_) (fun c6 => ?_)
  · skip
    refine z_iconst (pc := 13) (0) dX9_has_13 rfl ?_
    refine z_ret (pc := 14) (r := some (.int _)) rfl dX9_has_14 (by first | exact Or.inl rfl | exact Or.inr rfl | assumption) rfl rfl ?_
    exact ⟨by simp [zbb, *], rfl⟩
  · skip
    refine z_iconst (pc := 9) (1) dX9_has_9 rfl ?_
    refine z_goto (pc := 10) (tgt := 14) dX9_has_10 (by decide) ?_
    refine z_ret (pc := 14) (r := some (.int _)) rfl dX9_has_14 (by first | exact Or.inl rfl | exact Or.inr rfl | assumption) rfl rfl ?_
    exact ⟨by simp [zbb, *], rfl⟩
theorem bits_step : ∀ s, s < 1024 → s ≠ 0 → ∃ q, q < s ∧ nI s &&& (nI s - 1) = nI q ∧ zpc s = zpc q + 1 := by
  have h : ∀ s, s < 1024 → s ≠ 0 → (s &&& (s - 1)) < s ∧ nI s &&& (nI s - 1) = nI (s &&& (s - 1)) ∧ zpc s = zpc (s &&& (s - 1)) + 1 := by decide +kernel
  intro s h1 h2
  exact ⟨_, h s h1 h2⟩
set_option maxRecDepth 100000 in
set_option maxHeartbeats 4000000 in
theorem bits_loop {l : zL} {I : Nat → Nat → Int32} {J : Nat → Nat → Int64} {nw : Bool} {x : Int32} : ∀ (f s k : Nat), s < 1024 → s < f →
    zW l mX9_bits SH.length (zsl SH) 4 [.int x, .int (nI k), .int (nI s)] [] (hh I J nw) (zR (some (.int (nI (k + zpc s)))) (hh I J nw))
  | 0, s, k, _, hf => by omega
  | f + 1, s, k, hs, hf => by
    refine z_iload_2 (pc := 4) dX9_bits_4 ?_
    refine z_if_eq (pc := 5) (tgt := 20) dX9_bits_5 (by decide) (fun c5 => ?_) (fun c5 => ?_)
    · skip
      refine z_iload_1 (pc := 20) dX9_bits_20 ?_
      refine z_ret (pc := 21) (r := some (.int _)) rfl dX9_bits_21 trivial rfl rfl ?_
      have h0 : s = 0 := (nI_eq (a := s) (b := 0) (by omega) (by decide)).mp c5
      subst h0
      exact ⟨by rw [show zpc 0 = 0 from by decide]; rfl, rfl⟩
    · skip
      have h0 : s ≠ 0 := fun z => c5 (by rw [z]; rfl)
      obtain ⟨q, hq, e1, e2⟩ := bits_step s hs h0
      refine z_iinc_1 (pc := 8) (1) dX9_bits_8 rfl (by decide) rfl ?_
      refine z_iload_2 (pc := 11) dX9_bits_11 ?_
      refine z_iload_2 (pc := 12) dX9_bits_12 ?_
      refine z_iconst (pc := 13) (1) dX9_bits_13 rfl ?_
      refine z_isub (pc := 14) dX9_bits_14 ?_
      refine z_iand (pc := 15) dX9_bits_15 ?_
      refine z_istore_2 (pc := 16) dX9_bits_16 (by decide) rfl ?_
      refine z_goto (pc := 17) (tgt := 4) dX9_bits_17 (by decide) ?_
      rw [e1, ← nI_succ, show k + zpc s = k + 1 + zpc q by omega]
      exact bits_loop f q (k + 1) (by omega) (by omega)
set_option maxRecDepth 100000 in
set_option maxHeartbeats 4000000 in
theorem qX9_bits {l : zL} {I : Nat → Nat → Int32} {J : Nat → Nat → Int64} {nw : Bool} {x : Int32} (s : Nat) (hs : s < 1024) (hx : x = nI s) : zP l mX9_bits [.int x] (hh I J nw) (zR (some (.int (zbc x))) (hh I J nw)) := by
  refine z_start [.int x, zno, zno] (by decide +kernel) (Nat.le_of_ble_eq_true rfl) rfl ?_
  refine z_iconst (pc := 0) (0) dX9_bits_0 rfl ?_
  refine z_istore_1 (pc := 1) dX9_bits_1 (by decide) rfl ?_
  refine z_iload_0 (pc := 2) dX9_bits_2 ?_
  refine z_istore_2 (pc := 3) dX9_bits_3 (by decide) rfl ?_
  rw [hx, zpc_ok s hs]
  have k := bits_loop (l := l) (I := I) (J := J) (nw := nw) (x := nI s) (s + 1) s 0 hs (by omega)
  rw [nI_0, Nat.zero_add] at k
  exact k
set_option maxRecDepth 100000 in
set_option maxHeartbeats 4000000 in
theorem qX9_strong {l : zL} {I : Nat → Nat → Int32} {J : Nat → Nat → Int64} {nw : Bool} (K : Nat) (hK : SH[K]? = some (10, 66)) {m a : Int32} : zP l mX9_strong [.ref K, .int m, .int a] (hh I J nw) (zR (some (.int (zst (I K 0) (I K 1) m a))) (hh I J nw)) := by
  refine z_start [.ref K, .int m, .int a] (by decide +kernel) (Nat.le_of_ble_eq_true rfl) rfl ?_
  refine z_iload_2 (pc := 0) dX9_strong_0 ?_
  refine z_aload_0 (pc := 1) dX9_strong_1 ?_
  refine z_iconst (pc := 2) (1) dX9_strong_2 rfl ?_
  refine y_ialdN (pc := 3) (1) dX9_strong_3 (by first | rfl | assumption) (rfl) (by decide) (by first | decide | omega) ?_
  refine z_icmp_le (pc := 4) (tgt := 11) dX9_strong_4 (by decide) (fun c4 => ?_) (fun c4 => ?_)
  · skip
    refine z_iload_2 (pc := 11) dX9_strong_11 ?_
    refine z_aload_0 (pc := 12) dX9_strong_12 ?_
    refine z_iconst (pc := 13) (0) dX9_strong_13 rfl ?_
    refine y_ialdN (pc := 14) (0) dX9_strong_14 (by first | rfl | assumption) (rfl) (by decide) (by first | decide | omega) ?_
    refine z_icmp_ge (pc := 15) (tgt := 26) dX9_strong_15 (by decide) (fun c15 => ?_) (fun c15 => ?_)
    · skip
      refine z_iload_1 (pc := 26) dX9_strong_26 ?_
      refine z_ret (pc := 27) (r := some (.int _)) rfl dX9_strong_27 trivial rfl rfl ?_
      exact ⟨by simp [zst, *], rfl⟩
    · skip
      refine z_iload_1 (pc := 18) dX9_strong_18 ?_
      refine z_iload_1 (pc := 19) dX9_strong_19 ?_
      refine z_iconst (pc := 20) (3) dX9_strong_20 rfl ?_
      refine z_idiv (pc := 21) (by decide) dX9_strong_21 ?_
      refine z_isub (pc := 22) dX9_strong_22 ?_
      refine z_goto (pc := 23) (tgt := 27) dX9_strong_23 (by decide) ?_
      refine z_ret (pc := 27) (r := some (.int _)) rfl dX9_strong_27 trivial rfl rfl ?_
      exact ⟨by simp [zst, *], rfl⟩
  · skip
    refine z_iconst (pc := 7) (0) dX9_strong_7 rfl ?_
    refine z_goto (pc := 8) (tgt := 27) dX9_strong_8 (by decide) ?_
    refine z_ret (pc := 27) (r := some (.int _)) rfl dX9_strong_27 trivial rfl rfl ?_
    exact ⟨by simp [zst, *], rfl⟩
set_option maxRecDepth 100000 in
set_option maxHeartbeats 4000000 in
theorem qX9_strongOf {l : zL} {I : Nat → Nat → Int32} {J : Nat → Nat → Int64} {nw : Bool} (K : Nat) (hK : SH[K]? = some (10, 66)) {x : Int32} (i : Nat) (hx : x = nI i) (hi : i < 4) : zP l mX9_strongOf [.ref K, .int x] (hh I J nw) (zR (some (.int (zst (I K 0) (I K 1) (I K (52 + i)) (I K (56 + i))))) (hh I J nw)) := by
  refine z_start [.ref K, .int x] (by decide +kernel) (Nat.le_of_ble_eq_true rfl) rfl ?_
  refine z_aload_0 (pc := 0) dX9_strongOf_0 ?_
  refine z_aload_0 (pc := 1) dX9_strongOf_1 ?_
  refine z_bipush (pc := 2) (52) dX9_strongOf_2 rfl ?_
  refine z_iload_1 (pc := 4) dX9_strongOf_4 ?_
  refine z_iadd (pc := 5) dX9_strongOf_5 ?_
  refine y_ialdN (pc := 6) (52 + i) dX9_strongOf_6 (by first | rfl | assumption) (by rw [hx]; exact nI_add 52 i) (by omega) (by first | decide | omega) ?_
  refine z_aload_0 (pc := 7) dX9_strongOf_7 ?_
  refine z_bipush (pc := 8) (56) dX9_strongOf_8 rfl ?_
  refine z_iload_1 (pc := 10) dX9_strongOf_10 ?_
  refine z_iadd (pc := 11) dX9_strongOf_11 ?_
  refine y_ialdN (pc := 12) (56 + i) dX9_strongOf_12 (by first | rfl | assumption) (by rw [hx]; exact nI_add 56 i) (by omega) (by first | decide | omega) ?_
  refine z_S3 (pc := 13) dX9_strongOf_13 mlX9_156 kX9_strong vX9_strong (by decide) (by decide) (Nat.le_of_ble_eq_true rfl) (qX9_strong K hK) ⟨Nat.le_refl _, Nat.le_refl _⟩ (fun r h1 hq => ?_)
  obtain ⟨rfl, rfl⟩ := hq
  refine z_ret (pc := 16) (r := some (.int _)) rfl dX9_strongOf_16 trivial rfl rfl ?_
  exact ⟨rfl, rfl⟩
set_option maxRecDepth 100000 in
set_option maxHeartbeats 4000000 in
theorem qX9_believes {l : zL} {I : Nat → Nat → Int32} {J : Nat → Nat → Int64} {nw : Bool} (K : Nat) (hK : SH[K]? = some (10, 66)) {x w s : Int32} (d : Nat) (hx : x = nI d) (hd : d < 6) (kk : Nat) (hk : 1 ≤ kk ∧ kk ≤ 5) (ek : I K (6 + d) = nI kk) : zP l mX9_believes [.ref K, .int x, .int w, .int s] (hh I J nw) (zR (some (.int (zbb (zbel (I K (6 + d)) (I K (12 + d)) (I K (18 + d)) w (nI d) s)))) (hh I J nw)) := by
  refine z_start [.ref K, .int x, .int w, .int s, zno, zno] (by decide +kernel) (Nat.le_of_ble_eq_true rfl) rfl ?_
  refine z_aload_0 (pc := 0) dX9_believes_0 ?_
  refine z_bipush (pc := 1) (6) dX9_believes_1 rfl ?_
  refine z_iload_1 (pc := 3) dX9_believes_3 ?_
  refine z_iadd (pc := 4) dX9_believes_4 ?_
  refine y_ialdN (pc := 5) (6 + d) dX9_believes_5 (by first | rfl | assumption) (by rw [hx]; exact nI_add 6 d) (by omega) (by first | decide | omega) ?_
  refine z_istore_4 (pc := 6) dX9_believes_6 (by decide) rfl ?_
  refine z_iload_4 (pc := 8) dX9_believes_8 ?_
  refine z_iconst (pc := 10) (3) dX9_believes_10 rfl ?_
  refine z_icmp_ne (pc := 11) (tgt := 20) dX9_believes_11 (by decide) (fun c11 => ?_) (fun c11 => ?_)
  · skip
    refine z_iload_3 (pc := 20) dX9_believes_20 ?_
    refine z_istore_5 (pc := 21) dX9_believes_21 (by decide) rfl ?_
    refine z_iload_5 (pc := 23) dX9_believes_23 ?_
    refine z_aload_0 (pc := 25) dX9_believes_25 ?_
    refine z_bipush (pc := 26) (18) dX9_believes_26 rfl ?_
    refine z_iload_1 (pc := 28) dX9_believes_28 ?_
    refine z_iadd (pc := 29) dX9_believes_29 ?_
    refine y_ialdN (pc := 30) (18 + d) dX9_believes_30 (by first | rfl | assumption) (by rw [hx]; exact nI_add 18 d) (by omega) (by first | decide | omega) ?_
    refine z_iload_2 (pc := 31) dX9_believes_31 ?_
    refine z_icmp_ne (pc := 32) (tgt := 44) dX9_believes_32 (by decide) (fun c32 => ?_) (fun c32 => ?_)
    · skip
      refine z_iconst (pc := 44) (0) dX9_believes_44 rfl ?_
      refine z_iadd (pc := 45) dX9_believes_45 ?_
      refine z_istore_5 (pc := 46) dX9_believes_46 (by decide) rfl ?_
      refine z_iload_5 (pc := 48) dX9_believes_48 ?_
      refine z_iload_1 (pc := 50) dX9_believes_50 ?_
      refine z_iload_2 (pc := 51) dX9_believes_51 ?_
      refine z_icmp_ne (pc := 52) (tgt := 59) dX9_believes_52 (by decide) (fun c52 => ?_) (fun c52 => ?_)
      · skip
        refine z_iconst (pc := 59) (0) dX9_believes_59 rfl ?_
        refine z_isub (pc := 60) dX9_believes_60 ?_
        refine z_istore_5 (pc := 61) dX9_believes_61 (by decide) rfl ?_
        refine z_iload_4 (pc := 63) dX9_believes_63 ?_
        refine z_iconst (pc := 65) (4) dX9_believes_65 rfl ?_
        refine z_icmp_ge (pc := 66) (tgt := 84) dX9_believes_66 (by decide) (fun c66 => ?_) (fun c66 => ?_)
        · skip
          refine z_iconst (pc := 84) (0) dX9_believes_84 rfl ?_
          refine z_ret (pc := 85) (r := some (.int _)) rfl dX9_believes_85 (by first | exact Or.inl rfl | exact Or.inr rfl | assumption) rfl rfl ?_
          refine ⟨?_, rfl⟩
          subst hx
          have hkk : kk = 1 ∨ kk = 2 ∨ kk = 3 ∨ kk = 4 ∨ kk = 5 := by omega
          have e45 : (I K (6 + d) = 4 ∨ I K (6 + d) = 5) ↔ 4 ≤ I K (6 + d) := by rw [ek]; rcases hkk with rfl | rfl | rfl | rfl | rfl <;> decide
          unfold zbb zbel
          rw [← Bool.decide_or]
          simp only [e45]
          simp_all [Int32.not_le, Int32.not_lt]
        · skip
          refine z_iload_5 (pc := 69) dX9_believes_69 ?_
          refine z_aload_0 (pc := 71) dX9_believes_71 ?_
          refine z_bipush (pc := 72) (12) dX9_believes_72 rfl ?_
          refine z_iload_1 (pc := 74) dX9_believes_74 ?_
          refine z_iadd (pc := 75) dX9_believes_75 ?_
          refine y_ialdN (pc := 76) (12 + d) dX9_believes_76 (by first | rfl | assumption) (by rw [hx]; exact nI_add 12 d) (by omega) (by first | decide | omega) ?_
          refine z_icmp_lt (pc := 77) (tgt := 84) dX9_believes_77 (by decide) (fun c77 => ?_) (fun c77 => ?_)
          · skip
            refine z_iconst (pc := 84) (0) dX9_believes_84 rfl ?_
            refine z_ret (pc := 85) (r := some (.int _)) rfl dX9_believes_85 (by first | exact Or.inl rfl | exact Or.inr rfl | assumption) rfl rfl ?_
            refine ⟨?_, rfl⟩
            subst hx
            have hkk : kk = 1 ∨ kk = 2 ∨ kk = 3 ∨ kk = 4 ∨ kk = 5 := by omega
            have e45 : (I K (6 + d) = 4 ∨ I K (6 + d) = 5) ↔ 4 ≤ I K (6 + d) := by rw [ek]; rcases hkk with rfl | rfl | rfl | rfl | rfl <;> decide
            unfold zbb zbel
            rw [← Bool.decide_or]
            simp only [e45]
            simp_all [Int32.not_le, Int32.not_lt]
          · skip
            refine z_iconst (pc := 80) (1) dX9_believes_80 rfl ?_
            refine z_goto (pc := 81) (tgt := 85) dX9_believes_81 (by decide) ?_
            refine z_ret (pc := 85) (r := some (.int _)) rfl dX9_believes_85 (by first | exact Or.inl rfl | exact Or.inr rfl | assumption) rfl rfl ?_
            refine ⟨?_, rfl⟩
            subst hx
            have hkk : kk = 1 ∨ kk = 2 ∨ kk = 3 ∨ kk = 4 ∨ kk = 5 := by omega
            have e45 : (I K (6 + d) = 4 ∨ I K (6 + d) = 5) ↔ 4 ≤ I K (6 + d) := by rw [ek]; rcases hkk with rfl | rfl | rfl | rfl | rfl <;> decide
            unfold zbb zbel
            rw [← Bool.decide_or]
            simp only [e45]
            simp_all [Int32.not_le, Int32.not_lt]
      · skip
        refine z_iconst (pc := 55) (5) dX9_believes_55 rfl ?_
        refine z_goto (pc := 56) (tgt := 60) dX9_believes_56 (by decide) ?_
        refine z_isub (pc := 60) dX9_believes_60 ?_
        refine z_istore_5 (pc := 61) dX9_believes_61 (by decide) rfl ?_
        refine z_iload_4 (pc := 63) dX9_believes_63 ?_
        refine z_iconst (pc := 65) (4) dX9_believes_65 rfl ?_
        refine z_icmp_ge (pc := 66) (tgt := 84) dX9_believes_66 (by decide) (fun c66 => ?_) (fun c66 => ?_)
        · skip
          refine z_iconst (pc := 84) (0) dX9_believes_84 rfl ?_
          refine z_ret (pc := 85) (r := some (.int _)) rfl dX9_believes_85 (by first | exact Or.inl rfl | exact Or.inr rfl | assumption) rfl rfl ?_
          refine ⟨?_, rfl⟩
          subst hx
          have hkk : kk = 1 ∨ kk = 2 ∨ kk = 3 ∨ kk = 4 ∨ kk = 5 := by omega
          have e45 : (I K (6 + d) = 4 ∨ I K (6 + d) = 5) ↔ 4 ≤ I K (6 + d) := by rw [ek]; rcases hkk with rfl | rfl | rfl | rfl | rfl <;> decide
          unfold zbb zbel
          rw [← Bool.decide_or]
          simp only [e45]
          simp_all [Int32.not_le, Int32.not_lt]
        · skip
          refine z_iload_5 (pc := 69) dX9_believes_69 ?_
          refine z_aload_0 (pc := 71) dX9_believes_71 ?_
          refine z_bipush (pc := 72) (12) dX9_believes_72 rfl ?_
          refine z_iload_1 (pc := 74) dX9_believes_74 ?_
          refine z_iadd (pc := 75) dX9_believes_75 ?_
          refine y_ialdN (pc := 76) (12 + d) dX9_believes_76 (by first | rfl | assumption) (by rw [hx]; exact nI_add 12 d) (by omega) (by first | decide | omega) ?_
          refine z_icmp_lt (pc := 77) (tgt := 84) dX9_believes_77 (by decide) (fun c77 => ?_) (fun c77 => ?_)
          · skip
            refine z_iconst (pc := 84) (0) dX9_believes_84 rfl ?_
            refine z_ret (pc := 85) (r := some (.int _)) rfl dX9_believes_85 (by first | exact Or.inl rfl | exact Or.inr rfl | assumption) rfl rfl ?_
            refine ⟨?_, rfl⟩
            subst hx
            have hkk : kk = 1 ∨ kk = 2 ∨ kk = 3 ∨ kk = 4 ∨ kk = 5 := by omega
            have e45 : (I K (6 + d) = 4 ∨ I K (6 + d) = 5) ↔ 4 ≤ I K (6 + d) := by rw [ek]; rcases hkk with rfl | rfl | rfl | rfl | rfl <;> decide
            unfold zbb zbel
            rw [← Bool.decide_or]
            simp only [e45]
            simp_all [Int32.not_le, Int32.not_lt]
          · skip
            refine z_iconst (pc := 80) (1) dX9_believes_80 rfl ?_
            refine z_goto (pc := 81) (tgt := 85) dX9_believes_81 (by decide) ?_
            refine z_ret (pc := 85) (r := some (.int _)) rfl dX9_believes_85 (by first | exact Or.inl rfl | exact Or.inr rfl | assumption) rfl rfl ?_
            refine ⟨?_, rfl⟩
            subst hx
            have hkk : kk = 1 ∨ kk = 2 ∨ kk = 3 ∨ kk = 4 ∨ kk = 5 := by omega
            have e45 : (I K (6 + d) = 4 ∨ I K (6 + d) = 5) ↔ 4 ≤ I K (6 + d) := by rw [ek]; rcases hkk with rfl | rfl | rfl | rfl | rfl <;> decide
            unfold zbb zbel
            rw [← Bool.decide_or]
            simp only [e45]
            simp_all [Int32.not_le, Int32.not_lt]
    · skip
      refine z_iload_1 (pc := 35) dX9_believes_35 ?_
      refine z_iload_2 (pc := 36) dX9_believes_36 ?_
      refine z_icmp_eq (pc := 37) (tgt := 44) dX9_believes_37 (by decide) (fun c37 => ?_) (fun c37 => ?_)
      · skip
        refine z_iconst (pc := 44) (0) dX9_believes_44 rfl ?_
        refine z_iadd (pc := 45) dX9_believes_45 ?_
        refine z_istore_5 (pc := 46) dX9_believes_46 (by decide) rfl ?_
        refine z_iload_5 (pc := 48) dX9_believes_48 ?_
        refine z_iload_1 (pc := 50) dX9_believes_50 ?_
        refine z_iload_2 (pc := 51) dX9_believes_51 ?_
        refine z_icmp_ne (pc := 52) (tgt := 59) dX9_believes_52 (by decide) (fun c52 => ?_) (fun c52 => ?_)
        · skip
          refine z_iconst (pc := 59) (0) dX9_believes_59 rfl ?_
          refine z_isub (pc := 60) dX9_believes_60 ?_
          refine z_istore_5 (pc := 61) dX9_believes_61 (by decide) rfl ?_
          refine z_iload_4 (pc := 63) dX9_believes_63 ?_
          refine z_iconst (pc := 65) (4) dX9_believes_65 rfl ?_
          refine z_icmp_ge (pc := 66) (tgt := 84) dX9_believes_66 (by decide) (fun c66 => ?_) (fun c66 => ?_)
          · skip
            refine z_iconst (pc := 84) (0) dX9_believes_84 rfl ?_
            refine z_ret (pc := 85) (r := some (.int _)) rfl dX9_believes_85 (by first | exact Or.inl rfl | exact Or.inr rfl | assumption) rfl rfl ?_
            refine ⟨?_, rfl⟩
            subst hx
            have hkk : kk = 1 ∨ kk = 2 ∨ kk = 3 ∨ kk = 4 ∨ kk = 5 := by omega
            have e45 : (I K (6 + d) = 4 ∨ I K (6 + d) = 5) ↔ 4 ≤ I K (6 + d) := by rw [ek]; rcases hkk with rfl | rfl | rfl | rfl | rfl <;> decide
            unfold zbb zbel
            rw [← Bool.decide_or]
            simp only [e45]
            simp_all [Int32.not_le, Int32.not_lt]
          · skip
            refine z_iload_5 (pc := 69) dX9_believes_69 ?_
            refine z_aload_0 (pc := 71) dX9_believes_71 ?_
            refine z_bipush (pc := 72) (12) dX9_believes_72 rfl ?_
            refine z_iload_1 (pc := 74) dX9_believes_74 ?_
            refine z_iadd (pc := 75) dX9_believes_75 ?_
            refine y_ialdN (pc := 76) (12 + d) dX9_believes_76 (by first | rfl | assumption) (by rw [hx]; exact nI_add 12 d) (by omega) (by first | decide | omega) ?_
            refine z_icmp_lt (pc := 77) (tgt := 84) dX9_believes_77 (by decide) (fun c77 => ?_) (fun c77 => ?_)
            · skip
              refine z_iconst (pc := 84) (0) dX9_believes_84 rfl ?_
              refine z_ret (pc := 85) (r := some (.int _)) rfl dX9_believes_85 (by first | exact Or.inl rfl | exact Or.inr rfl | assumption) rfl rfl ?_
              refine ⟨?_, rfl⟩
              subst hx
              have hkk : kk = 1 ∨ kk = 2 ∨ kk = 3 ∨ kk = 4 ∨ kk = 5 := by omega
              have e45 : (I K (6 + d) = 4 ∨ I K (6 + d) = 5) ↔ 4 ≤ I K (6 + d) := by rw [ek]; rcases hkk with rfl | rfl | rfl | rfl | rfl <;> decide
              unfold zbb zbel
              rw [← Bool.decide_or]
              simp only [e45]
              simp_all [Int32.not_le, Int32.not_lt]
            · skip
              refine z_iconst (pc := 80) (1) dX9_believes_80 rfl ?_
              refine z_goto (pc := 81) (tgt := 85) dX9_believes_81 (by decide) ?_
              refine z_ret (pc := 85) (r := some (.int _)) rfl dX9_believes_85 (by first | exact Or.inl rfl | exact Or.inr rfl | assumption) rfl rfl ?_
              refine ⟨?_, rfl⟩
              subst hx
              have hkk : kk = 1 ∨ kk = 2 ∨ kk = 3 ∨ kk = 4 ∨ kk = 5 := by omega
              have e45 : (I K (6 + d) = 4 ∨ I K (6 + d) = 5) ↔ 4 ≤ I K (6 + d) := by rw [ek]; rcases hkk with rfl | rfl | rfl | rfl | rfl <;> decide
              unfold zbb zbel
              rw [← Bool.decide_or]
              simp only [e45]
              simp_all [Int32.not_le, Int32.not_lt]
        · skip
          refine z_iconst (pc := 55) (5) dX9_believes_55 rfl ?_
          refine z_goto (pc := 56) (tgt := 60) dX9_believes_56 (by decide) ?_
          refine z_isub (pc := 60) dX9_believes_60 ?_
          refine z_istore_5 (pc := 61) dX9_believes_61 (by decide) rfl ?_
          refine z_iload_4 (pc := 63) dX9_believes_63 ?_
          refine z_iconst (pc := 65) (4) dX9_believes_65 rfl ?_
          refine z_icmp_ge (pc := 66) (tgt := 84) dX9_believes_66 (by decide) (fun c66 => ?_) (fun c66 => ?_)
          · skip
            refine z_iconst (pc := 84) (0) dX9_believes_84 rfl ?_
            refine z_ret (pc := 85) (r := some (.int _)) rfl dX9_believes_85 (by first | exact Or.inl rfl | exact Or.inr rfl | assumption) rfl rfl ?_
            refine ⟨?_, rfl⟩
            subst hx
            have hkk : kk = 1 ∨ kk = 2 ∨ kk = 3 ∨ kk = 4 ∨ kk = 5 := by omega
            have e45 : (I K (6 + d) = 4 ∨ I K (6 + d) = 5) ↔ 4 ≤ I K (6 + d) := by rw [ek]; rcases hkk with rfl | rfl | rfl | rfl | rfl <;> decide
            unfold zbb zbel
            rw [← Bool.decide_or]
            simp only [e45]
            simp_all [Int32.not_le, Int32.not_lt]
          · skip
            refine z_iload_5 (pc := 69) dX9_believes_69 ?_
            refine z_aload_0 (pc := 71) dX9_believes_71 ?_
            refine z_bipush (pc := 72) (12) dX9_believes_72 rfl ?_
            refine z_iload_1 (pc := 74) dX9_believes_74 ?_
            refine z_iadd (pc := 75) dX9_believes_75 ?_
            refine y_ialdN (pc := 76) (12 + d) dX9_believes_76 (by first | rfl | assumption) (by rw [hx]; exact nI_add 12 d) (by omega) (by first | decide | omega) ?_
            refine z_icmp_lt (pc := 77) (tgt := 84) dX9_believes_77 (by decide) (fun c77 => ?_) (fun c77 => ?_)
            · skip
              refine z_iconst (pc := 84) (0) dX9_believes_84 rfl ?_
              refine z_ret (pc := 85) (r := some (.int _)) rfl dX9_believes_85 (by first | exact Or.inl rfl | exact Or.inr rfl | assumption) rfl rfl ?_
              refine ⟨?_, rfl⟩
              subst hx
              have hkk : kk = 1 ∨ kk = 2 ∨ kk = 3 ∨ kk = 4 ∨ kk = 5 := by omega
              have e45 : (I K (6 + d) = 4 ∨ I K (6 + d) = 5) ↔ 4 ≤ I K (6 + d) := by rw [ek]; rcases hkk with rfl | rfl | rfl | rfl | rfl <;> decide
              unfold zbb zbel
              rw [← Bool.decide_or]
              simp only [e45]
              simp_all [Int32.not_le, Int32.not_lt]
            · skip
              refine z_iconst (pc := 80) (1) dX9_believes_80 rfl ?_
              refine z_goto (pc := 81) (tgt := 85) dX9_believes_81 (by decide) ?_
              refine z_ret (pc := 85) (r := some (.int _)) rfl dX9_believes_85 (by first | exact Or.inl rfl | exact Or.inr rfl | assumption) rfl rfl ?_
              refine ⟨?_, rfl⟩
              subst hx
              have hkk : kk = 1 ∨ kk = 2 ∨ kk = 3 ∨ kk = 4 ∨ kk = 5 := by omega
              have e45 : (I K (6 + d) = 4 ∨ I K (6 + d) = 5) ↔ 4 ≤ I K (6 + d) := by rw [ek]; rcases hkk with rfl | rfl | rfl | rfl | rfl <;> decide
              unfold zbb zbel
              rw [← Bool.decide_or]
              simp only [e45]
              simp_all [Int32.not_le, Int32.not_lt]
      · skip
        refine z_iconst (pc := 40) (3) dX9_believes_40 rfl ?_
        refine z_goto (pc := 41) (tgt := 45) dX9_believes_41 (by decide) ?_
        refine z_iadd (pc := 45) dX9_believes_45 ?_
        refine z_istore_5 (pc := 46) dX9_believes_46 (by decide) rfl ?_
        refine z_iload_5 (pc := 48) dX9_believes_48 ?_
        refine z_iload_1 (pc := 50) dX9_believes_50 ?_
        refine z_iload_2 (pc := 51) dX9_believes_51 ?_
        refine z_icmp_ne (pc := 52) (tgt := 59) dX9_believes_52 (by decide) (fun c52 => ?_) (fun c52 => ?_)
        · skip
          refine z_iconst (pc := 59) (0) dX9_believes_59 rfl ?_
          refine z_isub (pc := 60) dX9_believes_60 ?_
          refine z_istore_5 (pc := 61) dX9_believes_61 (by decide) rfl ?_
          refine z_iload_4 (pc := 63) dX9_believes_63 ?_
          refine z_iconst (pc := 65) (4) dX9_believes_65 rfl ?_
          refine z_icmp_ge (pc := 66) (tgt := 84) dX9_believes_66 (by decide) (fun c66 => ?_) (fun c66 => ?_)
          · skip
            refine z_iconst (pc := 84) (0) dX9_believes_84 rfl ?_
            refine z_ret (pc := 85) (r := some (.int _)) rfl dX9_believes_85 (by first | exact Or.inl rfl | exact Or.inr rfl | assumption) rfl rfl ?_
            refine ⟨?_, rfl⟩
            subst hx
            have hkk : kk = 1 ∨ kk = 2 ∨ kk = 3 ∨ kk = 4 ∨ kk = 5 := by omega
            have e45 : (I K (6 + d) = 4 ∨ I K (6 + d) = 5) ↔ 4 ≤ I K (6 + d) := by rw [ek]; rcases hkk with rfl | rfl | rfl | rfl | rfl <;> decide
            unfold zbb zbel
            rw [← Bool.decide_or]
            simp only [e45]
            simp_all [Int32.not_le, Int32.not_lt]
          · skip
            refine z_iload_5 (pc := 69) dX9_believes_69 ?_
            refine z_aload_0 (pc := 71) dX9_believes_71 ?_
            refine z_bipush (pc := 72) (12) dX9_believes_72 rfl ?_
            refine z_iload_1 (pc := 74) dX9_believes_74 ?_
            refine z_iadd (pc := 75) dX9_believes_75 ?_
            refine y_ialdN (pc := 76) (12 + d) dX9_believes_76 (by first | rfl | assumption) (by rw [hx]; exact nI_add 12 d) (by omega) (by first | decide | omega) ?_
            refine z_icmp_lt (pc := 77) (tgt := 84) dX9_believes_77 (by decide) (fun c77 => ?_) (fun c77 => ?_)
            · skip
              refine z_iconst (pc := 84) (0) dX9_believes_84 rfl ?_
              refine z_ret (pc := 85) (r := some (.int _)) rfl dX9_believes_85 (by first | exact Or.inl rfl | exact Or.inr rfl | assumption) rfl rfl ?_
              refine ⟨?_, rfl⟩
              subst hx
              have hkk : kk = 1 ∨ kk = 2 ∨ kk = 3 ∨ kk = 4 ∨ kk = 5 := by omega
              have e45 : (I K (6 + d) = 4 ∨ I K (6 + d) = 5) ↔ 4 ≤ I K (6 + d) := by rw [ek]; rcases hkk with rfl | rfl | rfl | rfl | rfl <;> decide
              unfold zbb zbel
              rw [← Bool.decide_or]
              simp only [e45]
              simp_all [Int32.not_le, Int32.not_lt]
            · skip
              refine z_iconst (pc := 80) (1) dX9_believes_80 rfl ?_
              refine z_goto (pc := 81) (tgt := 85) dX9_believes_81 (by decide) ?_
              refine z_ret (pc := 85) (r := some (.int _)) rfl dX9_believes_85 (by first | exact Or.inl rfl | exact Or.inr rfl | assumption) rfl rfl ?_
              refine ⟨?_, rfl⟩
              subst hx
              have hkk : kk = 1 ∨ kk = 2 ∨ kk = 3 ∨ kk = 4 ∨ kk = 5 := by omega
              have e45 : (I K (6 + d) = 4 ∨ I K (6 + d) = 5) ↔ 4 ≤ I K (6 + d) := by rw [ek]; rcases hkk with rfl | rfl | rfl | rfl | rfl <;> decide
              unfold zbb zbel
              rw [← Bool.decide_or]
              simp only [e45]
              simp_all [Int32.not_le, Int32.not_lt]
        · skip
          refine z_iconst (pc := 55) (5) dX9_believes_55 rfl ?_
          refine z_goto (pc := 56) (tgt := 60) dX9_believes_56 (by decide) ?_
          refine z_isub (pc := 60) dX9_believes_60 ?_
          refine z_istore_5 (pc := 61) dX9_believes_61 (by decide) rfl ?_
          refine z_iload_4 (pc := 63) dX9_believes_63 ?_
          refine z_iconst (pc := 65) (4) dX9_believes_65 rfl ?_
          refine z_icmp_ge (pc := 66) (tgt := 84) dX9_believes_66 (by decide) (fun c66 => ?_) (fun c66 => ?_)
          · skip
            refine z_iconst (pc := 84) (0) dX9_believes_84 rfl ?_
            refine z_ret (pc := 85) (r := some (.int _)) rfl dX9_believes_85 (by first | exact Or.inl rfl | exact Or.inr rfl | assumption) rfl rfl ?_
            refine ⟨?_, rfl⟩
            subst hx
            have hkk : kk = 1 ∨ kk = 2 ∨ kk = 3 ∨ kk = 4 ∨ kk = 5 := by omega
            have e45 : (I K (6 + d) = 4 ∨ I K (6 + d) = 5) ↔ 4 ≤ I K (6 + d) := by rw [ek]; rcases hkk with rfl | rfl | rfl | rfl | rfl <;> decide
            unfold zbb zbel
            rw [← Bool.decide_or]
            simp only [e45]
            simp_all [Int32.not_le, Int32.not_lt]
          · skip
            refine z_iload_5 (pc := 69) dX9_believes_69 ?_
            refine z_aload_0 (pc := 71) dX9_believes_71 ?_
            refine z_bipush (pc := 72) (12) dX9_believes_72 rfl ?_
            refine z_iload_1 (pc := 74) dX9_believes_74 ?_
            refine z_iadd (pc := 75) dX9_believes_75 ?_
            refine y_ialdN (pc := 76) (12 + d) dX9_believes_76 (by first | rfl | assumption) (by rw [hx]; exact nI_add 12 d) (by omega) (by first | decide | omega) ?_
            refine z_icmp_lt (pc := 77) (tgt := 84) dX9_believes_77 (by decide) (fun c77 => ?_) (fun c77 => ?_)
            · skip
              refine z_iconst (pc := 84) (0) dX9_believes_84 rfl ?_
              refine z_ret (pc := 85) (r := some (.int _)) rfl dX9_believes_85 (by first | exact Or.inl rfl | exact Or.inr rfl | assumption) rfl rfl ?_
              refine ⟨?_, rfl⟩
              subst hx
              have hkk : kk = 1 ∨ kk = 2 ∨ kk = 3 ∨ kk = 4 ∨ kk = 5 := by omega
              have e45 : (I K (6 + d) = 4 ∨ I K (6 + d) = 5) ↔ 4 ≤ I K (6 + d) := by rw [ek]; rcases hkk with rfl | rfl | rfl | rfl | rfl <;> decide
              unfold zbb zbel
              rw [← Bool.decide_or]
              simp only [e45]
              simp_all [Int32.not_le, Int32.not_lt]
            · skip
              refine z_iconst (pc := 80) (1) dX9_believes_80 rfl ?_
              refine z_goto (pc := 81) (tgt := 85) dX9_believes_81 (by decide) ?_
              refine z_ret (pc := 85) (r := some (.int _)) rfl dX9_believes_85 (by first | exact Or.inl rfl | exact Or.inr rfl | assumption) rfl rfl ?_
              refine ⟨?_, rfl⟩
              subst hx
              have hkk : kk = 1 ∨ kk = 2 ∨ kk = 3 ∨ kk = 4 ∨ kk = 5 := by omega
              have e45 : (I K (6 + d) = 4 ∨ I K (6 + d) = 5) ↔ 4 ≤ I K (6 + d) := by rw [ek]; rcases hkk with rfl | rfl | rfl | rfl | rfl <;> decide
              unfold zbb zbel
              rw [← Bool.decide_or]
              simp only [e45]
              simp_all [Int32.not_le, Int32.not_lt]
  · skip
    refine z_iload_3 (pc := 14) dX9_believes_14 ?_
    refine z_iconst (pc := 15) (2) dX9_believes_15 rfl ?_
    refine z_idiv (pc := 16) (by decide) dX9_believes_16 ?_
    refine z_goto (pc := 17) (tgt := 21) dX9_believes_17 (by decide) ?_
    refine z_istore_5 (pc := 21) dX9_believes_21 (by decide) rfl ?_
    refine z_iload_5 (pc := 23) dX9_believes_23 ?_
    refine z_aload_0 (pc := 25) dX9_believes_25 ?_
    refine z_bipush (pc := 26) (18) dX9_believes_26 rfl ?_
    refine z_iload_1 (pc := 28) dX9_believes_28 ?_
    refine z_iadd (pc := 29) dX9_believes_29 ?_
    refine y_ialdN (pc := 30) (18 + d) dX9_believes_30 (by first | rfl | assumption) (by rw [hx]; exact nI_add 18 d) (by omega) (by first | decide | omega) ?_
    refine z_iload_2 (pc := 31) dX9_believes_31 ?_
    refine z_icmp_ne (pc := 32) (tgt := 44) dX9_believes_32 (by decide) (fun c32 => ?_) (fun c32 => ?_)
    · skip
      refine z_iconst (pc := 44) (0) dX9_believes_44 rfl ?_
      refine z_iadd (pc := 45) dX9_believes_45 ?_
      refine z_istore_5 (pc := 46) dX9_believes_46 (by decide) rfl ?_
      refine z_iload_5 (pc := 48) dX9_believes_48 ?_
      refine z_iload_1 (pc := 50) dX9_believes_50 ?_
      refine z_iload_2 (pc := 51) dX9_believes_51 ?_
      refine z_icmp_ne (pc := 52) (tgt := 59) dX9_believes_52 (by decide) (fun c52 => ?_) (fun c52 => ?_)
      · skip
        refine z_iconst (pc := 59) (0) dX9_believes_59 rfl ?_
        refine z_isub (pc := 60) dX9_believes_60 ?_
        refine z_istore_5 (pc := 61) dX9_believes_61 (by decide) rfl ?_
        refine z_iload_4 (pc := 63) dX9_believes_63 ?_
        refine z_iconst (pc := 65) (4) dX9_believes_65 rfl ?_
        refine z_icmp_ge (pc := 66) (tgt := 84) dX9_believes_66 (by decide) (fun c66 => ?_) (fun c66 => ?_)
        · skip
          refine z_iconst (pc := 84) (0) dX9_believes_84 rfl ?_
          refine z_ret (pc := 85) (r := some (.int _)) rfl dX9_believes_85 (by first | exact Or.inl rfl | exact Or.inr rfl | assumption) rfl rfl ?_
          refine ⟨?_, rfl⟩
          subst hx
          have hkk : kk = 1 ∨ kk = 2 ∨ kk = 3 ∨ kk = 4 ∨ kk = 5 := by omega
          have e45 : (I K (6 + d) = 4 ∨ I K (6 + d) = 5) ↔ 4 ≤ I K (6 + d) := by rw [ek]; rcases hkk with rfl | rfl | rfl | rfl | rfl <;> decide
          unfold zbb zbel
          rw [← Bool.decide_or]
          simp only [e45]
          simp_all [Int32.not_le, Int32.not_lt]
        · skip
          refine z_iload_5 (pc := 69) dX9_believes_69 ?_
          refine z_aload_0 (pc := 71) dX9_believes_71 ?_
          refine z_bipush (pc := 72) (12) dX9_believes_72 rfl ?_
          refine z_iload_1 (pc := 74) dX9_believes_74 ?_
          refine z_iadd (pc := 75) dX9_believes_75 ?_
          refine y_ialdN (pc := 76) (12 + d) dX9_believes_76 (by first | rfl | assumption) (by rw [hx]; exact nI_add 12 d) (by omega) (by first | decide | omega) ?_
          refine z_icmp_lt (pc := 77) (tgt := 84) dX9_believes_77 (by decide) (fun c77 => ?_) (fun c77 => ?_)
          · skip
            refine z_iconst (pc := 84) (0) dX9_believes_84 rfl ?_
            refine z_ret (pc := 85) (r := some (.int _)) rfl dX9_believes_85 (by first | exact Or.inl rfl | exact Or.inr rfl | assumption) rfl rfl ?_
            refine ⟨?_, rfl⟩
            subst hx
            have hkk : kk = 1 ∨ kk = 2 ∨ kk = 3 ∨ kk = 4 ∨ kk = 5 := by omega
            have e45 : (I K (6 + d) = 4 ∨ I K (6 + d) = 5) ↔ 4 ≤ I K (6 + d) := by rw [ek]; rcases hkk with rfl | rfl | rfl | rfl | rfl <;> decide
            unfold zbb zbel
            rw [← Bool.decide_or]
            simp only [e45]
            simp_all [Int32.not_le, Int32.not_lt]
          · skip
            refine z_iconst (pc := 80) (1) dX9_believes_80 rfl ?_
            refine z_goto (pc := 81) (tgt := 85) dX9_believes_81 (by decide) ?_
            refine z_ret (pc := 85) (r := some (.int _)) rfl dX9_believes_85 (by first | exact Or.inl rfl | exact Or.inr rfl | assumption) rfl rfl ?_
            refine ⟨?_, rfl⟩
            subst hx
            have hkk : kk = 1 ∨ kk = 2 ∨ kk = 3 ∨ kk = 4 ∨ kk = 5 := by omega
            have e45 : (I K (6 + d) = 4 ∨ I K (6 + d) = 5) ↔ 4 ≤ I K (6 + d) := by rw [ek]; rcases hkk with rfl | rfl | rfl | rfl | rfl <;> decide
            unfold zbb zbel
            rw [← Bool.decide_or]
            simp only [e45]
            simp_all [Int32.not_le, Int32.not_lt]
      · skip
        refine z_iconst (pc := 55) (5) dX9_believes_55 rfl ?_
        refine z_goto (pc := 56) (tgt := 60) dX9_believes_56 (by decide) ?_
        refine z_isub (pc := 60) dX9_believes_60 ?_
        refine z_istore_5 (pc := 61) dX9_believes_61 (by decide) rfl ?_
        refine z_iload_4 (pc := 63) dX9_believes_63 ?_
        refine z_iconst (pc := 65) (4) dX9_believes_65 rfl ?_
        refine z_icmp_ge (pc := 66) (tgt := 84) dX9_believes_66 (by decide) (fun c66 => ?_) (fun c66 => ?_)
        · skip
          refine z_iconst (pc := 84) (0) dX9_believes_84 rfl ?_
          refine z_ret (pc := 85) (r := some (.int _)) rfl dX9_believes_85 (by first | exact Or.inl rfl | exact Or.inr rfl | assumption) rfl rfl ?_
          refine ⟨?_, rfl⟩
          subst hx
          have hkk : kk = 1 ∨ kk = 2 ∨ kk = 3 ∨ kk = 4 ∨ kk = 5 := by omega
          have e45 : (I K (6 + d) = 4 ∨ I K (6 + d) = 5) ↔ 4 ≤ I K (6 + d) := by rw [ek]; rcases hkk with rfl | rfl | rfl | rfl | rfl <;> decide
          unfold zbb zbel
          rw [← Bool.decide_or]
          simp only [e45]
          simp_all [Int32.not_le, Int32.not_lt]
        · skip
          refine z_iload_5 (pc := 69) dX9_believes_69 ?_
          refine z_aload_0 (pc := 71) dX9_believes_71 ?_
          refine z_bipush (pc := 72) (12) dX9_believes_72 rfl ?_
          refine z_iload_1 (pc := 74) dX9_believes_74 ?_
          refine z_iadd (pc := 75) dX9_believes_75 ?_
          refine y_ialdN (pc := 76) (12 + d) dX9_believes_76 (by first | rfl | assumption) (by rw [hx]; exact nI_add 12 d) (by omega) (by first | decide | omega) ?_
          refine z_icmp_lt (pc := 77) (tgt := 84) dX9_believes_77 (by decide) (fun c77 => ?_) (fun c77 => ?_)
          · skip
            refine z_iconst (pc := 84) (0) dX9_believes_84 rfl ?_
            refine z_ret (pc := 85) (r := some (.int _)) rfl dX9_believes_85 (by first | exact Or.inl rfl | exact Or.inr rfl | assumption) rfl rfl ?_
            refine ⟨?_, rfl⟩
            subst hx
            have hkk : kk = 1 ∨ kk = 2 ∨ kk = 3 ∨ kk = 4 ∨ kk = 5 := by omega
            have e45 : (I K (6 + d) = 4 ∨ I K (6 + d) = 5) ↔ 4 ≤ I K (6 + d) := by rw [ek]; rcases hkk with rfl | rfl | rfl | rfl | rfl <;> decide
            unfold zbb zbel
            rw [← Bool.decide_or]
            simp only [e45]
            simp_all [Int32.not_le, Int32.not_lt]
          · skip
            refine z_iconst (pc := 80) (1) dX9_believes_80 rfl ?_
            refine z_goto (pc := 81) (tgt := 85) dX9_believes_81 (by decide) ?_
            refine z_ret (pc := 85) (r := some (.int _)) rfl dX9_believes_85 (by first | exact Or.inl rfl | exact Or.inr rfl | assumption) rfl rfl ?_
            refine ⟨?_, rfl⟩
            subst hx
            have hkk : kk = 1 ∨ kk = 2 ∨ kk = 3 ∨ kk = 4 ∨ kk = 5 := by omega
            have e45 : (I K (6 + d) = 4 ∨ I K (6 + d) = 5) ↔ 4 ≤ I K (6 + d) := by rw [ek]; rcases hkk with rfl | rfl | rfl | rfl | rfl <;> decide
            unfold zbb zbel
            rw [← Bool.decide_or]
            simp only [e45]
            simp_all [Int32.not_le, Int32.not_lt]
    · skip
      refine z_iload_1 (pc := 35) dX9_believes_35 ?_
      refine z_iload_2 (pc := 36) dX9_believes_36 ?_
      refine z_icmp_eq (pc := 37) (tgt := 44) dX9_believes_37 (by decide) (fun c37 => ?_) (fun c37 => ?_)
      · skip
        refine z_iconst (pc := 44) (0) dX9_believes_44 rfl ?_
        refine z_iadd (pc := 45) dX9_believes_45 ?_
        refine z_istore_5 (pc := 46) dX9_believes_46 (by decide) rfl ?_
        refine z_iload_5 (pc := 48) dX9_believes_48 ?_
        refine z_iload_1 (pc := 50) dX9_believes_50 ?_
        refine z_iload_2 (pc := 51) dX9_believes_51 ?_
        refine z_icmp_ne (pc := 52) (tgt := 59) dX9_believes_52 (by decide) (fun c52 => ?_) (fun c52 => ?_)
        · skip
          refine z_iconst (pc := 59) (0) dX9_believes_59 rfl ?_
          refine z_isub (pc := 60) dX9_believes_60 ?_
          refine z_istore_5 (pc := 61) dX9_believes_61 (by decide) rfl ?_
          refine z_iload_4 (pc := 63) dX9_believes_63 ?_
          refine z_iconst (pc := 65) (4) dX9_believes_65 rfl ?_
          refine z_icmp_ge (pc := 66) (tgt := 84) dX9_believes_66 (by decide) (fun c66 => ?_) (fun c66 => ?_)
          · skip
            refine z_iconst (pc := 84) (0) dX9_believes_84 rfl ?_
            refine z_ret (pc := 85) (r := some (.int _)) rfl dX9_believes_85 (by first | exact Or.inl rfl | exact Or.inr rfl | assumption) rfl rfl ?_
            refine ⟨?_, rfl⟩
            subst hx
            have hkk : kk = 1 ∨ kk = 2 ∨ kk = 3 ∨ kk = 4 ∨ kk = 5 := by omega
            have e45 : (I K (6 + d) = 4 ∨ I K (6 + d) = 5) ↔ 4 ≤ I K (6 + d) := by rw [ek]; rcases hkk with rfl | rfl | rfl | rfl | rfl <;> decide
            unfold zbb zbel
            rw [← Bool.decide_or]
            simp only [e45]
            simp_all [Int32.not_le, Int32.not_lt]
          · skip
            refine z_iload_5 (pc := 69) dX9_believes_69 ?_
            refine z_aload_0 (pc := 71) dX9_believes_71 ?_
            refine z_bipush (pc := 72) (12) dX9_believes_72 rfl ?_
            refine z_iload_1 (pc := 74) dX9_believes_74 ?_
            refine z_iadd (pc := 75) dX9_believes_75 ?_
            refine y_ialdN (pc := 76) (12 + d) dX9_believes_76 (by first | rfl | assumption) (by rw [hx]; exact nI_add 12 d) (by omega) (by first | decide | omega) ?_
            refine z_icmp_lt (pc := 77) (tgt := 84) dX9_believes_77 (by decide) (fun c77 => ?_) (fun c77 => ?_)
            · skip
              refine z_iconst (pc := 84) (0) dX9_believes_84 rfl ?_
              refine z_ret (pc := 85) (r := some (.int _)) rfl dX9_believes_85 (by first | exact Or.inl rfl | exact Or.inr rfl | assumption) rfl rfl ?_
              refine ⟨?_, rfl⟩
              subst hx
              have hkk : kk = 1 ∨ kk = 2 ∨ kk = 3 ∨ kk = 4 ∨ kk = 5 := by omega
              have e45 : (I K (6 + d) = 4 ∨ I K (6 + d) = 5) ↔ 4 ≤ I K (6 + d) := by rw [ek]; rcases hkk with rfl | rfl | rfl | rfl | rfl <;> decide
              unfold zbb zbel
              rw [← Bool.decide_or]
              simp only [e45]
              simp_all [Int32.not_le, Int32.not_lt]
            · skip
              refine z_iconst (pc := 80) (1) dX9_believes_80 rfl ?_
              refine z_goto (pc := 81) (tgt := 85) dX9_believes_81 (by decide) ?_
              refine z_ret (pc := 85) (r := some (.int _)) rfl dX9_believes_85 (by first | exact Or.inl rfl | exact Or.inr rfl | assumption) rfl rfl ?_
              refine ⟨?_, rfl⟩
              subst hx
              have hkk : kk = 1 ∨ kk = 2 ∨ kk = 3 ∨ kk = 4 ∨ kk = 5 := by omega
              have e45 : (I K (6 + d) = 4 ∨ I K (6 + d) = 5) ↔ 4 ≤ I K (6 + d) := by rw [ek]; rcases hkk with rfl | rfl | rfl | rfl | rfl <;> decide
              unfold zbb zbel
              rw [← Bool.decide_or]
              simp only [e45]
              simp_all [Int32.not_le, Int32.not_lt]
        · skip
          refine z_iconst (pc := 55) (5) dX9_believes_55 rfl ?_
          refine z_goto (pc := 56) (tgt := 60) dX9_believes_56 (by decide) ?_
          refine z_isub (pc := 60) dX9_believes_60 ?_
          refine z_istore_5 (pc := 61) dX9_believes_61 (by decide) rfl ?_
          refine z_iload_4 (pc := 63) dX9_believes_63 ?_
          refine z_iconst (pc := 65) (4) dX9_believes_65 rfl ?_
          refine z_icmp_ge (pc := 66) (tgt := 84) dX9_believes_66 (by decide) (fun c66 => ?_) (fun c66 => ?_)
          · skip
            refine z_iconst (pc := 84) (0) dX9_believes_84 rfl ?_
            refine z_ret (pc := 85) (r := some (.int _)) rfl dX9_believes_85 (by first | exact Or.inl rfl | exact Or.inr rfl | assumption) rfl rfl ?_
            refine ⟨?_, rfl⟩
            subst hx
            have hkk : kk = 1 ∨ kk = 2 ∨ kk = 3 ∨ kk = 4 ∨ kk = 5 := by omega
            have e45 : (I K (6 + d) = 4 ∨ I K (6 + d) = 5) ↔ 4 ≤ I K (6 + d) := by rw [ek]; rcases hkk with rfl | rfl | rfl | rfl | rfl <;> decide
            unfold zbb zbel
            rw [← Bool.decide_or]
            simp only [e45]
            simp_all [Int32.not_le, Int32.not_lt]
          · skip
            refine z_iload_5 (pc := 69) dX9_believes_69 ?_
            refine z_aload_0 (pc := 71) dX9_believes_71 ?_
            refine z_bipush (pc := 72) (12) dX9_believes_72 rfl ?_
            refine z_iload_1 (pc := 74) dX9_believes_74 ?_
            refine z_iadd (pc := 75) dX9_believes_75 ?_
            refine y_ialdN (pc := 76) (12 + d) dX9_believes_76 (by first | rfl | assumption) (by rw [hx]; exact nI_add 12 d) (by omega) (by first | decide | omega) ?_
            refine z_icmp_lt (pc := 77) (tgt := 84) dX9_believes_77 (by decide) (fun c77 => ?_) (fun c77 => ?_)
            · skip
              refine z_iconst (pc := 84) (0) dX9_believes_84 rfl ?_
              refine z_ret (pc := 85) (r := some (.int _)) rfl dX9_believes_85 (by first | exact Or.inl rfl | exact Or.inr rfl | assumption) rfl rfl ?_
              refine ⟨?_, rfl⟩
              subst hx
              have hkk : kk = 1 ∨ kk = 2 ∨ kk = 3 ∨ kk = 4 ∨ kk = 5 := by omega
              have e45 : (I K (6 + d) = 4 ∨ I K (6 + d) = 5) ↔ 4 ≤ I K (6 + d) := by rw [ek]; rcases hkk with rfl | rfl | rfl | rfl | rfl <;> decide
              unfold zbb zbel
              rw [← Bool.decide_or]
              simp only [e45]
              simp_all [Int32.not_le, Int32.not_lt]
            · skip
              refine z_iconst (pc := 80) (1) dX9_believes_80 rfl ?_
              refine z_goto (pc := 81) (tgt := 85) dX9_believes_81 (by decide) ?_
              refine z_ret (pc := 85) (r := some (.int _)) rfl dX9_believes_85 (by first | exact Or.inl rfl | exact Or.inr rfl | assumption) rfl rfl ?_
              refine ⟨?_, rfl⟩
              subst hx
              have hkk : kk = 1 ∨ kk = 2 ∨ kk = 3 ∨ kk = 4 ∨ kk = 5 := by omega
              have e45 : (I K (6 + d) = 4 ∨ I K (6 + d) = 5) ↔ 4 ≤ I K (6 + d) := by rw [ek]; rcases hkk with rfl | rfl | rfl | rfl | rfl <;> decide
              unfold zbb zbel
              rw [← Bool.decide_or]
              simp only [e45]
              simp_all [Int32.not_le, Int32.not_lt]
      · skip
        refine z_iconst (pc := 40) (3) dX9_believes_40 rfl ?_
        refine z_goto (pc := 41) (tgt := 45) dX9_believes_41 (by decide) ?_
        refine z_iadd (pc := 45) dX9_believes_45 ?_
        refine z_istore_5 (pc := 46) dX9_believes_46 (by decide) rfl ?_
        refine z_iload_5 (pc := 48) dX9_believes_48 ?_
        refine z_iload_1 (pc := 50) dX9_believes_50 ?_
        refine z_iload_2 (pc := 51) dX9_believes_51 ?_
        refine z_icmp_ne (pc := 52) (tgt := 59) dX9_believes_52 (by decide) (fun c52 => ?_) (fun c52 => ?_)
        · skip
          refine z_iconst (pc := 59) (0) dX9_believes_59 rfl ?_
          refine z_isub (pc := 60) dX9_believes_60 ?_
          refine z_istore_5 (pc := 61) dX9_believes_61 (by decide) rfl ?_
          refine z_iload_4 (pc := 63) dX9_believes_63 ?_
          refine z_iconst (pc := 65) (4) dX9_believes_65 rfl ?_
          refine z_icmp_ge (pc := 66) (tgt := 84) dX9_believes_66 (by decide) (fun c66 => ?_) (fun c66 => ?_)
          · skip
            refine z_iconst (pc := 84) (0) dX9_believes_84 rfl ?_
            refine z_ret (pc := 85) (r := some (.int _)) rfl dX9_believes_85 (by first | exact Or.inl rfl | exact Or.inr rfl | assumption) rfl rfl ?_
            refine ⟨?_, rfl⟩
            subst hx
            have hkk : kk = 1 ∨ kk = 2 ∨ kk = 3 ∨ kk = 4 ∨ kk = 5 := by omega
            have e45 : (I K (6 + d) = 4 ∨ I K (6 + d) = 5) ↔ 4 ≤ I K (6 + d) := by rw [ek]; rcases hkk with rfl | rfl | rfl | rfl | rfl <;> decide
            unfold zbb zbel
            rw [← Bool.decide_or]
            simp only [e45]
            simp_all [Int32.not_le, Int32.not_lt]
          · skip
            refine z_iload_5 (pc := 69) dX9_believes_69 ?_
            refine z_aload_0 (pc := 71) dX9_believes_71 ?_
            refine z_bipush (pc := 72) (12) dX9_believes_72 rfl ?_
            refine z_iload_1 (pc := 74) dX9_believes_74 ?_
            refine z_iadd (pc := 75) dX9_believes_75 ?_
            refine y_ialdN (pc := 76) (12 + d) dX9_believes_76 (by first | rfl | assumption) (by rw [hx]; exact nI_add 12 d) (by omega) (by first | decide | omega) ?_
            refine z_icmp_lt (pc := 77) (tgt := 84) dX9_believes_77 (by decide) (fun c77 => ?_) (fun c77 => ?_)
            · skip
              refine z_iconst (pc := 84) (0) dX9_believes_84 rfl ?_
              refine z_ret (pc := 85) (r := some (.int _)) rfl dX9_believes_85 (by first | exact Or.inl rfl | exact Or.inr rfl | assumption) rfl rfl ?_
              refine ⟨?_, rfl⟩
              subst hx
              have hkk : kk = 1 ∨ kk = 2 ∨ kk = 3 ∨ kk = 4 ∨ kk = 5 := by omega
              have e45 : (I K (6 + d) = 4 ∨ I K (6 + d) = 5) ↔ 4 ≤ I K (6 + d) := by rw [ek]; rcases hkk with rfl | rfl | rfl | rfl | rfl <;> decide
              unfold zbb zbel
              rw [← Bool.decide_or]
              simp only [e45]
              simp_all [Int32.not_le, Int32.not_lt]
            · skip
              refine z_iconst (pc := 80) (1) dX9_believes_80 rfl ?_
              refine z_goto (pc := 81) (tgt := 85) dX9_believes_81 (by decide) ?_
              refine z_ret (pc := 85) (r := some (.int _)) rfl dX9_believes_85 (by first | exact Or.inl rfl | exact Or.inr rfl | assumption) rfl rfl ?_
              refine ⟨?_, rfl⟩
              subst hx
              have hkk : kk = 1 ∨ kk = 2 ∨ kk = 3 ∨ kk = 4 ∨ kk = 5 := by omega
              have e45 : (I K (6 + d) = 4 ∨ I K (6 + d) = 5) ↔ 4 ≤ I K (6 + d) := by rw [ek]; rcases hkk with rfl | rfl | rfl | rfl | rfl <;> decide
              unfold zbb zbel
              rw [← Bool.decide_or]
              simp only [e45]
              simp_all [Int32.not_le, Int32.not_lt]
        · skip
          refine z_iconst (pc := 55) (5) dX9_believes_55 rfl ?_
          refine z_goto (pc := 56) (tgt := 60) dX9_believes_56 (by decide) ?_
          refine z_isub (pc := 60) dX9_believes_60 ?_
          refine z_istore_5 (pc := 61) dX9_believes_61 (by decide) rfl ?_
          refine z_iload_4 (pc := 63) dX9_believes_63 ?_
          refine z_iconst (pc := 65) (4) dX9_believes_65 rfl ?_
          refine z_icmp_ge (pc := 66) (tgt := 84) dX9_believes_66 (by decide) (fun c66 => ?_) (fun c66 => ?_)
          · skip
            refine z_iconst (pc := 84) (0) dX9_believes_84 rfl ?_
            refine z_ret (pc := 85) (r := some (.int _)) rfl dX9_believes_85 (by first | exact Or.inl rfl | exact Or.inr rfl | assumption) rfl rfl ?_
            refine ⟨?_, rfl⟩
            subst hx
            have hkk : kk = 1 ∨ kk = 2 ∨ kk = 3 ∨ kk = 4 ∨ kk = 5 := by omega
            have e45 : (I K (6 + d) = 4 ∨ I K (6 + d) = 5) ↔ 4 ≤ I K (6 + d) := by rw [ek]; rcases hkk with rfl | rfl | rfl | rfl | rfl <;> decide
            unfold zbb zbel
            rw [← Bool.decide_or]
            simp only [e45]
            simp_all [Int32.not_le, Int32.not_lt]
          · skip
            refine z_iload_5 (pc := 69) dX9_believes_69 ?_
            refine z_aload_0 (pc := 71) dX9_believes_71 ?_
            refine z_bipush (pc := 72) (12) dX9_believes_72 rfl ?_
            refine z_iload_1 (pc := 74) dX9_believes_74 ?_
            refine z_iadd (pc := 75) dX9_believes_75 ?_
            refine y_ialdN (pc := 76) (12 + d) dX9_believes_76 (by first | rfl | assumption) (by rw [hx]; exact nI_add 12 d) (by omega) (by first | decide | omega) ?_
            refine z_icmp_lt (pc := 77) (tgt := 84) dX9_believes_77 (by decide) (fun c77 => ?_) (fun c77 => ?_)
            · skip
              refine z_iconst (pc := 84) (0) dX9_believes_84 rfl ?_
              refine z_ret (pc := 85) (r := some (.int _)) rfl dX9_believes_85 (by first | exact Or.inl rfl | exact Or.inr rfl | assumption) rfl rfl ?_
              refine ⟨?_, rfl⟩
              subst hx
              have hkk : kk = 1 ∨ kk = 2 ∨ kk = 3 ∨ kk = 4 ∨ kk = 5 := by omega
              have e45 : (I K (6 + d) = 4 ∨ I K (6 + d) = 5) ↔ 4 ≤ I K (6 + d) := by rw [ek]; rcases hkk with rfl | rfl | rfl | rfl | rfl <;> decide
              unfold zbb zbel
              rw [← Bool.decide_or]
              simp only [e45]
              simp_all [Int32.not_le, Int32.not_lt]
            · skip
              refine z_iconst (pc := 80) (1) dX9_believes_80 rfl ?_
              refine z_goto (pc := 81) (tgt := 85) dX9_believes_81 (by decide) ?_
              refine z_ret (pc := 85) (r := some (.int _)) rfl dX9_believes_85 (by first | exact Or.inl rfl | exact Or.inr rfl | assumption) rfl rfl ?_
              refine ⟨?_, rfl⟩
              subst hx
              have hkk : kk = 1 ∨ kk = 2 ∨ kk = 3 ∨ kk = 4 ∨ kk = 5 := by omega
              have e45 : (I K (6 + d) = 4 ∨ I K (6 + d) = 5) ↔ 4 ≤ I K (6 + d) := by rw [ek]; rcases hkk with rfl | rfl | rfl | rfl | rfl <;> decide
              unfold zbb zbel
              rw [← Bool.decide_or]
              simp only [e45]
              simp_all [Int32.not_le, Int32.not_lt]
set_option maxRecDepth 100000 in
set_option maxHeartbeats 4000000 in
theorem qX9_passes {l : zL} {I : Nat → Nat → Int32} {J : Nat → Nat → Int64} {nw : Bool} {k s b : Int32} (kk : Nat) (hk : 1 ≤ kk ∧ kk ≤ 5) (ek : k = nI kk) (is : Bool) (hb : b = zbb is) : zP l mX9_passes [.int k, .int b, .int s] (hh I J nw) (zR (some (.int (zpas k s is))) (hh I J nw)) := by
  refine z_start [.int k, .int b, .int s] (by decide +kernel) (Nat.le_of_ble_eq_true rfl) rfl ?_
  refine z_iload_0 (pc := 0) dX9_passes_0 ?_
  have hc : kk = 1 ∨ kk = 2 ∨ kk = 3 ∨ kk = 4 ∨ kk = 5 := by omega
  subst ek
  subst hb
  rcases hc with rfl | rfl | rfl | rfl | rfl
  · skip
    refine z_tableOut (pc := 1) (tgt := 52) dX9_passes_1 (Or.inl (by decide)) (by decide) ?_
    refine z_iload_1 (pc := 52) dX9_passes_52 ?_
    refine z_if_eq (pc := 53) (tgt := 62) dX9_passes_53 (by decide) (fun c53 => ?_) (fun c53 => ?_)
    · skip
      refine z_iconst (pc := 62) (0) dX9_passes_62 rfl ?_
      refine z_ret (pc := 63) (r := some (.int _)) rfl dX9_passes_63 trivial rfl rfl ?_
      refine ⟨?_, rfl⟩
      clear hk
      cases is <;> first | rfl | (exfalso; revert c33; decide) | (exfalso; revert c53; decide)
    · skip
      refine z_iload_2 (pc := 56) dX9_passes_56 ?_
      refine z_iconst (pc := 57) (1) dX9_passes_57 rfl ?_
      refine z_isub (pc := 58) dX9_passes_58 ?_
      refine z_goto (pc := 59) (tgt := 63) dX9_passes_59 (by decide) ?_
      refine z_ret (pc := 63) (r := some (.int _)) rfl dX9_passes_63 trivial rfl rfl ?_
      refine ⟨?_, rfl⟩
      clear hk
      cases is <;> first | rfl | (exfalso; revert c33; decide) | (exfalso; revert c53; decide)
  · skip
    refine z_tableIn (pc := 1) (tgt := 32) dX9_passes_1 (by decide) (by decide) rfl (by decide) ?_
    refine z_iload_1 (pc := 32) dX9_passes_32 ?_
    refine z_if_eq (pc := 33) (tgt := 42) dX9_passes_33 (by decide) (fun c33 => ?_) (fun c33 => ?_)
    · skip
      refine z_iconst (pc := 42) (0) dX9_passes_42 rfl ?_
      refine z_ret (pc := 43) (r := some (.int _)) rfl dX9_passes_43 trivial rfl rfl ?_
      refine ⟨?_, rfl⟩
      clear hk
      cases is <;> first | rfl | (exfalso; revert c33; decide) | (exfalso; revert c53; decide)
    · skip
      refine z_iload_2 (pc := 36) dX9_passes_36 ?_
      refine z_iconst (pc := 37) (1) dX9_passes_37 rfl ?_
      refine z_iadd (pc := 38) dX9_passes_38 ?_
      refine z_goto (pc := 39) (tgt := 43) dX9_passes_39 (by decide) ?_
      refine z_ret (pc := 43) (r := some (.int _)) rfl dX9_passes_43 trivial rfl rfl ?_
      refine ⟨?_, rfl⟩
      clear hk
      cases is <;> first | rfl | (exfalso; revert c33; decide) | (exfalso; revert c53; decide)
  · skip
    refine z_tableIn (pc := 1) (tgt := 52) dX9_passes_1 (by decide) (by decide) rfl (by decide) ?_
    refine z_iload_1 (pc := 52) dX9_passes_52 ?_
    refine z_if_eq (pc := 53) (tgt := 62) dX9_passes_53 (by decide) (fun c53 => ?_) (fun c53 => ?_)
    · skip
      refine z_iconst (pc := 62) (0) dX9_passes_62 rfl ?_
      refine z_ret (pc := 63) (r := some (.int _)) rfl dX9_passes_63 trivial rfl rfl ?_
      refine ⟨?_, rfl⟩
      clear hk
      cases is <;> first | rfl | (exfalso; revert c33; decide) | (exfalso; revert c53; decide)
    · skip
      refine z_iload_2 (pc := 56) dX9_passes_56 ?_
      refine z_iconst (pc := 57) (1) dX9_passes_57 rfl ?_
      refine z_isub (pc := 58) dX9_passes_58 ?_
      refine z_goto (pc := 59) (tgt := 63) dX9_passes_59 (by decide) ?_
      refine z_ret (pc := 63) (r := some (.int _)) rfl dX9_passes_63 trivial rfl rfl ?_
      refine ⟨?_, rfl⟩
      clear hk
      cases is <;> first | rfl | (exfalso; revert c33; decide) | (exfalso; revert c53; decide)
  · skip
    refine z_tableIn (pc := 1) (tgt := 44) dX9_passes_1 (by decide) (by decide) rfl (by decide) ?_
    refine z_iload_2 (pc := 44) dX9_passes_44 ?_
    refine z_iconst (pc := 45) (2) dX9_passes_45 rfl ?_
    refine z_isub (pc := 46) dX9_passes_46 ?_
    refine z_ret (pc := 47) (r := some (.int _)) rfl dX9_passes_47 trivial rfl rfl ?_
    exact ⟨rfl, rfl⟩
  · skip
    refine z_tableIn (pc := 1) (tgt := 48) dX9_passes_1 (by decide) (by decide) rfl (by decide) ?_
    refine z_iload_2 (pc := 48) dX9_passes_48 ?_
    refine z_iconst (pc := 49) (2) dX9_passes_49 rfl ?_
    refine z_idiv (pc := 50) (by decide) dX9_passes_50 ?_
    refine z_ret (pc := 51) (r := some (.int _)) rfl dX9_passes_51 trivial rfl rfl ?_
    exact ⟨rfl, rfl⟩
set_option maxRecDepth 100000 in
set_option maxHeartbeats 4000000 in
theorem qX9_brings {l : zL} {I : Nat → Nat → Int32} {J : Nat → Nat → Int64} {nw : Bool} {x s : Int32} (d : Nat) (hx : x = nI d) (hd : d < 6) : zP l mX9_brings [.ref 85, .int x, .int s] (hh I J nw) (zR none (zup I 97 d (if I 97 d < s then s else I 97 d), J, RF nw, SH)) := by
  refine z_start [.ref 85, .int x, .int s] (by decide +kernel) (Nat.le_of_ble_eq_true rfl) rfl ?_
  refine z_aload_0 (pc := 0) dX9_brings_0 ?_
  refine y_getR (pc := 1) dX9_brings_1 flX9_44 rfl (by first | rfl | assumption) (by first | rfl | assumption) ?_
  refine z_iload_1 (pc := 4) dX9_brings_4 ?_
  refine z_iload_2 (pc := 5) dX9_brings_5 ?_
  refine z_aload_0 (pc := 6) dX9_brings_6 ?_
  refine y_getR (pc := 7) dX9_brings_7 flX9_44 rfl (by first | rfl | assumption) (by first | rfl | assumption) ?_
  refine z_iload_1 (pc := 10) dX9_brings_10 ?_
  refine y_ialdN (pc := 11) (d) dX9_brings_11 (by first | rfl | assumption) (hx) (hd) (by first | decide | omega) ?_
  refine z_icmp_le (pc := 12) (tgt := 19) dX9_brings_12 (by decide) (fun c12 => ?_) (fun c12 => ?_)
  · skip
    refine z_aload_0 (pc := 19) dX9_brings_19 ?_
    refine y_getR (pc := 20) dX9_brings_20 flX9_44 rfl (by first | rfl | assumption) (by first | rfl | assumption) ?_
    refine z_iload_1 (pc := 23) dX9_brings_23 ?_
    refine y_ialdN (pc := 24) (d) dX9_brings_24 (by first | rfl | assumption) (hx) (hd) (by first | decide | omega) ?_
    refine y_iastN (pc := 25) (d) dX9_brings_25 (by first | rfl | assumption) (hx) (hd) (by first | decide | omega) ?_
    refine z_ret (pc := 26) (r := none) rfl dX9_brings_26 trivial rfl rfl ?_
    refine ⟨rfl, ?_⟩
    first | rw [if_pos (Int32.not_le.mp c12)] | rw [if_neg (Int32.not_lt.mpr c12)]
  · skip
    refine z_iload_2 (pc := 15) dX9_brings_15 ?_
    refine z_goto (pc := 16) (tgt := 25) dX9_brings_16 (by decide) ?_
    refine y_iastN (pc := 25) (d) dX9_brings_25 (by first | rfl | assumption) (hx) (hd) (by first | decide | omega) ?_
    refine z_ret (pc := 26) (r := none) rfl dX9_brings_26 trivial rfl rfl ?_
    refine ⟨rfl, ?_⟩
    first | rw [if_pos (Int32.not_le.mp c12)] | rw [if_neg (Int32.not_lt.mpr c12)]
theorem zcpy_step {I : Nat → Nat → Int32} {k0 k1 a b n : Nat} (h : k0 ≠ k1) : zup (zcpy I k0 k1 a b n) k1 (b + n) (zcpy I k0 k1 a b n k0 (a + n)) = zcpy I k0 k1 a b (n + 1) := by
  funext c d
  unfold zup zcpy va_cpy
  rw [if_neg h]
  by_cases hc : c = k1
  · subst hc
    by_cases hd : d = b + n
    · subst hd
      rw [if_pos ⟨rfl, rfl⟩, if_pos rfl, if_pos (by omega)]
      congr 1; omega
    · rw [if_neg (fun q => hd q.2), if_pos rfl]
      by_cases hr : b ≤ d ∧ d < b + n
      · rw [if_pos hr, if_pos rfl, if_pos (by omega)]
      · rw [if_neg hr, if_pos rfl, if_neg (by omega)]
  · rw [if_neg (fun q => hc q.1), if_neg hc, if_neg hc]
theorem zcpy_0 (I : Nat → Nat → Int32) (k0 k1 a b : Nat) : zcpy I k0 k1 a b 0 = I := by
  funext c d
  unfold zcpy va_cpy
  by_cases hc : c = k1
  · subst hc; rw [if_pos rfl, if_neg (by omega)]
  · rw [if_neg hc]
set_option maxRecDepth 100000 in
set_option maxHeartbeats 4000000 in
theorem copies_loop {l : zL} {I : Nat → Nat → Int32} {J : Nat → Nat → Int64} {nw : Bool} (K1 K2 n1 n2 a b : Nat) (h1 : SH[K1]? = some (10, n1)) (h2 : SH[K2]? = some (10, n2)) (hne : K1 ≠ K2) (ha : a + 66 ≤ n1) (hb : b + 66 ≤ n2) (hn : n1 < 2 ^ 30 ∧ n2 < 2 ^ 30) : ∀ (f k : Nat), k ≤ 66 → 66 - k < f →
    zW l mX9_copies SH.length (zsl SH) 3 [.ref K1, .int (nI a), .ref K2, .int (nI b), .int (nI k)] [] (zcpy I K1 K2 a b k, J, RF nw, SH) (zR none (zcpy I K1 K2 a b 66, J, RF nw, SH))
  | 0, k, _, hf => by omega
  | f + 1, k, hk, hf => by
    refine z_iload_4 (pc := 3) dX9_copies_3 ?_
    refine z_bipush (pc := 5) (66) dX9_copies_5 rfl ?_
    refine z_icmp_ge (pc := 7) (tgt := 28) dX9_copies_7 (by decide) (fun c7 => ?_) (fun c7 => ?_)
    · skip
      refine z_ret (pc := 28) (r := none) rfl dX9_copies_28 trivial rfl rfl ?_
      have : k = 66 := by
        rcases Nat.lt_or_ge k 66 with q | q
        · exact absurd c7 (nI_ge q (by decide))
        · omega
      subst this
      exact ⟨rfl, rfl⟩
    · skip
      have hlt : k < 66 := by
        rcases Nat.lt_or_ge k 66 with q | q
        · exact q
        · exact absurd (nI_le (a := 66) q (by omega)) c7
      refine z_aload_2 (pc := 10) dX9_copies_10 ?_
      refine z_iload_3 (pc := 11) dX9_copies_11 ?_
      refine z_iload_4 (pc := 12) dX9_copies_12 ?_
      refine z_iadd (pc := 14) dX9_copies_14 ?_
      refine z_aload_0 (pc := 15) dX9_copies_15 ?_
      refine z_iload_1 (pc := 16) dX9_copies_16 ?_
      refine z_iload_4 (pc := 17) dX9_copies_17 ?_
      refine z_iadd (pc := 19) dX9_copies_19 ?_
      refine y_ialdN (pc := 20) (a + k) dX9_copies_20 (by first | rfl | assumption) (nI_add a k) (by omega) (by first | decide | omega) ?_
      refine y_iastN (pc := 21) (b + k) dX9_copies_21 (by first | rfl | assumption) (nI_add b k) (by omega) (by first | decide | omega) ?_
      refine z_iinc_4 (pc := 22) (1) dX9_copies_22 rfl (by decide) rfl ?_
      refine z_goto (pc := 25) (tgt := 3) dX9_copies_25 (by decide) ?_
      rw [← nI_succ, zcpy_step hne]
      exact copies_loop K1 K2 n1 n2 a b h1 h2 hne ha hb hn f (k + 1) (by omega) (by omega)
set_option maxRecDepth 100000 in
set_option maxHeartbeats 4000000 in
theorem qX9_copies {l : zL} {I : Nat → Nat → Int32} {J : Nat → Nat → Int64} {nw : Bool} (K1 K2 n1 n2 a b : Nat) (h1 : SH[K1]? = some (10, n1)) (h2 : SH[K2]? = some (10, n2)) (hne : K1 ≠ K2) (ha : a + 66 ≤ n1) (hb : b + 66 ≤ n2) (hn : n1 < 2 ^ 30 ∧ n2 < 2 ^ 30) {x y : Int32} (hx : x = nI a) (hy : y = nI b) : zP l mX9_copies [.ref K1, .int x, .ref K2, .int y] (hh I J nw) (zR none (zcpy I K1 K2 a b 66, J, RF nw, SH)) := by
  refine z_start [.ref K1, .int x, .ref K2, .int y, zno] (by decide +kernel) (Nat.le_of_ble_eq_true rfl) rfl ?_
  refine z_iconst (pc := 0) (0) dX9_copies_0 rfl ?_
  refine z_istore_4 (pc := 1) dX9_copies_1 (by decide) rfl ?_
  have k := copies_loop (l := l) (I := I) (J := J) (nw := nw) K1 K2 n1 n2 a b h1 h2 hne ha hb hn 67 0 (by omega) (by omega)
  rw [zcpy_0, nI_0] at k
  subst hx; subst hy
  exact k
