/-- x is a number below n -/
def zlt (x : Int32) (n : Nat) : Bool := decide (0 ≤ x.toInt ∧ x.toInt < n)
theorem zlt_nI {x : Int32} {n : Nat} (hn : n < 2 ^ 31) (h : zlt x n = true) : ∃ i, i < n ∧ x = nI i := by
  unfold zlt at h
  rw [decide_eq_true_eq] at h
  obtain ⟨j, hj, e⟩ := vp_in_of (vp_in_iff.mpr h) hn
  exact ⟨j, hj, e⟩
theorem zlt_of {i n : Nat} (h : i < n) (hn : n < 2 ^ 31) : zlt (nI i) n = true := by
  unfold zlt
  rw [decide_eq_true_eq, nI_toInt (by omega)]
  omega
theorem zlt_iff {x : Int32} {n : Nat} (hn : n < 2 ^ 31) : zlt x n = true ↔ ¬ x < 0 ∧ ¬ nI n ≤ x := by
  unfold zlt
  rw [decide_eq_true_eq, Int32.lt_iff_toInt_lt, Int32.le_iff_toInt_le, nI_toInt hn, Int32.toInt_zero]
  omega
def zbb (b : Bool) : Int32 := if b = true then 1 else 0
theorem zbb0 (b : Bool) : zbb b = 0 ↔ b = false := by cases b <;> decide
theorem zbb1 (b : Bool) : ¬ zbb b = 0 ↔ b = true := by cases b <;> decide
theorem zbb_t : zbb true = 1 := rfl
theorem zbb_f : zbb false = 0 := rfl
theorem zlt_no {x : Int32} {n : Nat} (hn : n < 2 ^ 31) (h : x < 0 ∨ nI n ≤ x) : zlt x n = false := by
  cases hq : zlt x n
  · rfl
  · have := (zlt_iff hn).mp hq
    rcases h with h | h
    · exact absurd h this.1
    · exact absurd h this.2
theorem zlt_yes {x : Int32} {n : Nat} (hn : n < 2 ^ 31) (h1 : ¬ x < 0) (h2 : ¬ nI n ≤ x) : zlt x n = true := (zlt_iff hn).mpr ⟨h1, h2⟩
/-- x is a set of the first n -/
def zsub (x : Int32) (n : Nat) : Bool := zlt x (2 ^ n)
set_option maxRecDepth 100000 in
set_option maxHeartbeats 4000000 in
theorem qX8_isRow {l : zL} {I : Nat → Nat → Int32} {J : Nat → Nat → Int64} {nw : Bool} {x : Int32} : zP l mX8_isRow [.int x] (hh I J nw) (zR (some (.int (zbb (zlt x 8)))) (hh I J nw)) := by
  refine z_start [.int x] (by decide +kernel) (Nat.le_of_ble_eq_true rfl) rfl ?_
  refine z_iload_0 (pc := 0) dX8_isRow_0 ?_
  refine z_if_lt (pc := 1) (tgt := 14) dX8_isRow_1 (by decide) (fun c1 => ?_) (fun c1 => ?_)
  · skip
    refine z_iconst (pc := 14) (0) dX8_isRow_14 rfl ?_
    refine z_ret (pc := 15) (r := some (.int _)) rfl dX8_isRow_15 (by first | exact Or.inl rfl | exact Or.inr rfl | assumption) rfl rfl ?_
    exact ⟨by rw [zlt_no (by decide) (Or.inl c1)]; rfl, rfl⟩
  · skip
    refine z_iload_0 (pc := 4) dX8_isRow_4 ?_
    refine z_bipush (pc := 5) (8) dX8_isRow_5 rfl ?_
    refine z_icmp_ge (pc := 7) (tgt := 14) dX8_isRow_7 (by decide) (fun c7 => ?_) (fun c7 => ?_)
    · skip
      refine z_iconst (pc := 14) (0) dX8_isRow_14 rfl ?_
      refine z_ret (pc := 15) (r := some (.int _)) rfl dX8_isRow_15 (by first | exact Or.inl rfl | exact Or.inr rfl | assumption) rfl rfl ?_
      exact ⟨by rw [zlt_no (by decide) (Or.inr c7)]; rfl, rfl⟩
    · skip
      refine z_iconst (pc := 10) (1) dX8_isRow_10 rfl ?_
      refine z_goto (pc := 11) (tgt := 15) dX8_isRow_11 (by decide) ?_
      refine z_ret (pc := 15) (r := some (.int _)) rfl dX8_isRow_15 (by first | exact Or.inl rfl | exact Or.inr rfl | assumption) rfl rfl ?_
      exact ⟨by rw [zlt_yes (by decide) c1 c7]; rfl, rfl⟩
set_option maxRecDepth 100000 in
set_option maxHeartbeats 4000000 in
theorem qX8_isCask {l : zL} {I : Nat → Nat → Int32} {J : Nat → Nat → Int64} {nw : Bool} {x : Int32} : zP l mX8_isCask [.int x] (hh I J nw) (zR (some (.int (zbb (zlt x 4)))) (hh I J nw)) := by
  refine z_start [.int x] (by decide +kernel) (Nat.le_of_ble_eq_true rfl) rfl ?_
  refine z_iload_0 (pc := 0) dX8_isCask_0 ?_
  refine z_if_lt (pc := 1) (tgt := 13) dX8_isCask_1 (by decide) (fun c1 => ?_) (fun c1 => ?_)
  · skip
    refine z_iconst (pc := 13) (0) dX8_isCask_13 rfl ?_
    refine z_ret (pc := 14) (r := some (.int _)) rfl dX8_isCask_14 (by first | exact Or.inl rfl | exact Or.inr rfl | assumption) rfl rfl ?_
    exact ⟨by rw [zlt_no (by decide) (Or.inl c1)]; rfl, rfl⟩
  · skip
    refine z_iload_0 (pc := 4) dX8_isCask_4 ?_
    refine z_iconst (pc := 5) (4) dX8_isCask_5 rfl ?_
    refine z_icmp_ge (pc := 6) (tgt := 13) dX8_isCask_6 (by decide) (fun c6 => ?_) (fun c6 => ?_)
    · skip
      refine z_iconst (pc := 13) (0) dX8_isCask_13 rfl ?_
      refine z_ret (pc := 14) (r := some (.int _)) rfl dX8_isCask_14 (by first | exact Or.inl rfl | exact Or.inr rfl | assumption) rfl rfl ?_
      exact ⟨by rw [zlt_no (by decide) (Or.inr c6)]; rfl, rfl⟩
    · skip
      refine z_iconst (pc := 9) (1) dX8_isCask_9 rfl ?_
      refine z_goto (pc := 10) (tgt := 14) dX8_isCask_10 (by decide) ?_
      refine z_ret (pc := 14) (r := some (.int _)) rfl dX8_isCask_14 (by first | exact Or.inl rfl | exact Or.inr rfl | assumption) rfl rfl ?_
      exact ⟨by rw [zlt_yes (by decide) c1 c6]; rfl, rfl⟩
set_option maxRecDepth 100000 in
set_option maxHeartbeats 4000000 in
theorem qX8_isFirstOrSecond {l : zL} {I : Nat → Nat → Int32} {J : Nat → Nat → Int64} {nw : Bool} {x : Int32} : zP l mX8_isFirstOrSecond [.int x] (hh I J nw) (zR (some (.int (zbb (zlt x 2)))) (hh I J nw)) := by
  refine z_start [.int x] (by decide +kernel) (Nat.le_of_ble_eq_true rfl) rfl ?_
  refine z_iload_0 (pc := 0) dX8_isFirstOrSecond_0 ?_
  refine z_if_eq (pc := 1) (tgt := 9) dX8_isFirstOrSecond_1 (by decide) (fun c1 => ?_) (fun c1 => ?_)
  · skip
    refine z_iconst (pc := 9) (1) dX8_isFirstOrSecond_9 rfl ?_
    refine z_goto (pc := 10) (tgt := 14) dX8_isFirstOrSecond_10 (by decide) ?_
    refine z_ret (pc := 14) (r := some (.int _)) rfl dX8_isFirstOrSecond_14 (by first | exact Or.inl rfl | exact Or.inr rfl | assumption) rfl rfl ?_
    exact ⟨by rw [c1]; rfl, rfl⟩
  · skip
    refine z_iload_0 (pc := 4) dX8_isFirstOrSecond_4 ?_
    refine z_iconst (pc := 5) (1) dX8_isFirstOrSecond_5 rfl ?_
    refine z_icmp_ne (pc := 6) (tgt := 13) dX8_isFirstOrSecond_6 (by decide) (fun c6 => ?_) (fun c6 => ?_)
    · skip
      refine z_iconst (pc := 13) (0) dX8_isFirstOrSecond_13 rfl ?_
      refine z_ret (pc := 14) (r := some (.int _)) rfl dX8_isFirstOrSecond_14 (by first | exact Or.inl rfl | exact Or.inr rfl | assumption) rfl rfl ?_
      refine ⟨?_, rfl⟩
      cases hq : zlt x 2
      · rfl
      · obtain ⟨i, hi, e⟩ := zlt_nI (by decide) hq
        match i, hi, e with
        | 0, _, e => exact absurd e c1
        | 1, _, e => exact absurd e c6
    · skip
      refine z_iconst (pc := 9) (1) dX8_isFirstOrSecond_9 rfl ?_
      refine z_goto (pc := 10) (tgt := 14) dX8_isFirstOrSecond_10 (by decide) ?_
      refine z_ret (pc := 14) (r := some (.int _)) rfl dX8_isFirstOrSecond_14 (by first | exact Or.inl rfl | exact Or.inr rfl | assumption) rfl rfl ?_
      exact ⟨by rw [c6]; rfl, rfl⟩
set_option maxRecDepth 100000 in
set_option maxHeartbeats 4000000 in
theorem qX8_isDrinker {l : zL} {I : Nat → Nat → Int32} {J : Nat → Nat → Int64} {nw : Bool} {x : Int32} (n : Nat) (hn : n ≤ 6) (en : I 15 3 = nI n) : zP l mX8_isDrinker [.ref 0, .int x] (hh I J nw) (zR (some (.int (zbb (zlt x n)))) (hh I J nw)) := by
  refine z_start [.ref 0, .int x] (by decide +kernel) (Nat.le_of_ble_eq_true rfl) rfl ?_
  refine z_iload_1 (pc := 0) dX8_isDrinker_0 ?_
  refine z_if_lt (pc := 1) (tgt := 19) dX8_isDrinker_1 (by decide) (fun c1 => ?_) (fun c1 => ?_)
  · skip
    refine z_iconst (pc := 19) (0) dX8_isDrinker_19 rfl ?_
    refine z_ret (pc := 20) (r := some (.int _)) rfl dX8_isDrinker_20 (by first | exact Or.inl rfl | exact Or.inr rfl | assumption) rfl rfl ?_
    exact ⟨by rw [zlt_no (by omega) (Or.inl c1)]; rfl, rfl⟩
  · skip
    refine z_iload_1 (pc := 4) dX8_isDrinker_4 ?_
    refine z_aload_0 (pc := 5) dX8_isDrinker_5 ?_
    refine y_getR (pc := 6) dX8_isDrinker_6 flX8_26 rfl (by first | rfl | assumption) (by first | rfl | assumption) ?_
    refine y_getI (pc := 9) dX8_isDrinker_9 flX8_138 rfl (by first | rfl | assumption) ?_
    refine z_icmp_ge (pc := 12) (tgt := 19) dX8_isDrinker_12 (by decide) (fun c12 => ?_) (fun c12 => ?_)
    · skip
      rw [en] at c12
      refine z_iconst (pc := 19) (0) dX8_isDrinker_19 rfl ?_
      refine z_ret (pc := 20) (r := some (.int _)) rfl dX8_isDrinker_20 (by first | exact Or.inl rfl | exact Or.inr rfl | assumption) rfl rfl ?_
      exact ⟨by rw [zlt_no (by omega) (Or.inr c12)]; rfl, rfl⟩
    · skip
      rw [en] at c12
      refine z_iconst (pc := 15) (1) dX8_isDrinker_15 rfl ?_
      refine z_goto (pc := 16) (tgt := 20) dX8_isDrinker_16 (by decide) ?_
      refine z_ret (pc := 20) (r := some (.int _)) rfl dX8_isDrinker_20 (by first | exact Or.inl rfl | exact Or.inr rfl | assumption) rfl rfl ?_
      exact ⟨by rw [zlt_yes (by omega) c1 c12]; rfl, rfl⟩
set_option maxRecDepth 100000 in
set_option maxHeartbeats 4000000 in
theorem qX8_areTwoDrinkers {l : zL} {I : Nat → Nat → Int32} {J : Nat → Nat → Int64} {nw : Bool} {x y : Int32} (n : Nat) (hn : n ≤ 6) (en : I 15 3 = nI n) : zP l mX8_areTwoDrinkers [.ref 0, .int x, .int y] (hh I J nw) (zR (some (.int (zbb (zlt x n && zlt y n && !decide (x = y))))) (hh I J nw)) := by
  refine z_start [.ref 0, .int x, .int y] (by decide +kernel) (Nat.le_of_ble_eq_true rfl) rfl ?_
  refine z_aload_0 (pc := 0) dX8_areTwoDrinkers_0 ?_
  refine z_iload_1 (pc := 1) dX8_areTwoDrinkers_1 ?_
  refine z_V1 (pc := 2) dX8_areTwoDrinkers_2 mlX8_156 kX8_isDrinker vX8_isDrinker (by decide) (by decide) (by first | rfl | assumption) (Nat.le_of_ble_eq_true rfl) (qX8_isDrinker n hn en) ⟨Nat.le_refl _, Nat.le_refl _⟩ (fun r h1 hq => ?_)
  obtain ⟨rfl, rfl⟩ := hq
  refine z_if_eq (pc := 5) (tgt := 25) dX8_areTwoDrinkers_5 (by decide) (fun c5 => ?_) (fun c5 => ?_)
  · skip
    refine z_iconst (pc := 25) (0) dX8_areTwoDrinkers_25 rfl ?_
    refine z_ret (pc := 26) (r := some (.int _)) rfl dX8_areTwoDrinkers_26 (by first | exact Or.inl rfl | exact Or.inr rfl | assumption) rfl rfl ?_
    refine ⟨?_, rfl⟩
    simp only [zbb0, zbb1] at *
    simp [zbb, *]
  · skip
    refine z_aload_0 (pc := 8) dX8_areTwoDrinkers_8 ?_
    refine z_iload_2 (pc := 9) dX8_areTwoDrinkers_9 ?_
    refine z_V1 (pc := 10) dX8_areTwoDrinkers_10 mlX8_156 kX8_isDrinker vX8_isDrinker (by decide) (by decide) (by first | rfl | assumption) (Nat.le_of_ble_eq_true rfl) (qX8_isDrinker n hn en) ⟨Nat.le_refl _, Nat.le_refl _⟩ (fun r h1 hq => ?_)
    obtain ⟨rfl, rfl⟩ := hq
    refine z_if_eq (pc := 13) (tgt := 25) dX8_areTwoDrinkers_13 (by decide) (fun c13 => ?_) (fun c13 => ?_)
    · skip
      refine z_iconst (pc := 25) (0) dX8_areTwoDrinkers_25 rfl ?_
      refine z_ret (pc := 26) (r := some (.int _)) rfl dX8_areTwoDrinkers_26 (by first | exact Or.inl rfl | exact Or.inr rfl | assumption) rfl rfl ?_
      refine ⟨?_, rfl⟩
      simp only [zbb0, zbb1] at *
      simp [zbb, *]
    · skip
      refine z_iload_1 (pc := 16) dX8_areTwoDrinkers_16 ?_
      refine z_iload_2 (pc := 17) dX8_areTwoDrinkers_17 ?_
      refine z_icmp_eq (pc := 18) (tgt := 25) dX8_areTwoDrinkers_18 (by decide) (fun c18 => ?_) (fun c18 => ?_)
      · skip
        refine z_iconst (pc := 25) (0) dX8_areTwoDrinkers_25 rfl ?_
        refine z_ret (pc := 26) (r := some (.int _)) rfl dX8_areTwoDrinkers_26 (by first | exact Or.inl rfl | exact Or.inr rfl | assumption) rfl rfl ?_
        refine ⟨?_, rfl⟩
        simp only [zbb0, zbb1] at *
        simp [zbb, *]
      · skip
        refine z_iconst (pc := 21) (1) dX8_areTwoDrinkers_21 rfl ?_
        refine z_goto (pc := 22) (tgt := 26) dX8_areTwoDrinkers_22 (by decide) ?_
        refine z_ret (pc := 26) (r := some (.int _)) rfl dX8_areTwoDrinkers_26 (by first | exact Or.inl rfl | exact Or.inr rfl | assumption) rfl rfl ?_
        refine ⟨?_, rfl⟩
        simp only [zbb0, zbb1] at *
        simp [zbb, *]
theorem sub_back : ∀ n, n ≤ 6 → ∀ j, j < 2 ^ n → nI j &&& (nI (bs (fun d => decide (d < n))) ^^^ -1) = 0 := by decide +kernel
theorem sub_full : ∀ n, n ≤ 6 → (nI (bs (fun d => decide (d < n)))).toBitVec.toNat = 2 ^ n - 1 := by decide +kernel
theorem split_and (x m : Int32) (h : x &&& (m ^^^ -1) = 0) : x = x &&& m := by
  have e : x.toBitVec &&& (m.toBitVec ^^^ -1#32) = 0#32 := congrArg Int32.toBitVec h
  have e2 : x.toBitVec = x.toBitVec &&& m.toBitVec := by
    apply BitVec.eq_of_getLsbD_eq
    intro i hi
    have e3 := congrArg (fun b : BitVec 32 => b.getLsbD i) e
    simp only [BitVec.getLsbD_and, BitVec.getLsbD_xor, BitVec.getLsbD_zero] at e3 ⊢
    have e4 : (-1#32 : BitVec 32).getLsbD i = true := by
      rw [show (-1#32 : BitVec 32) = BitVec.allOnes 32 from by decide, BitVec.getLsbD_allOnes]
      simp [hi]
    rw [e4] at e3
    cases hx : x.toBitVec.getLsbD i <;> cases hm : m.toBitVec.getLsbD i <;> simp_all
  exact Int32.toBitVec_inj.mp e2
theorem zsub_iff {x : Int32} {n : Nat} (hn : n ≤ 6) : x &&& (nI (bs (fun d => decide (d < n))) ^^^ -1) = 0 ↔ zsub x n = true := by
  have h64 := pow6 n hn
  unfold zsub
  constructor
  · intro h
    rw [split_and _ _ h, pk_and x n (sub_full n hn)]
    exact zlt_of (Nat.mod_lt _ (Nat.two_pow_pos n)) (by omega)
  · intro h
    obtain ⟨j, hj, rfl⟩ := zlt_nI (by omega) h
    exact sub_back n hn j hj
set_option maxRecDepth 100000 in
set_option maxHeartbeats 4000000 in
theorem qX8_areDrinkers {l : zL} {I : Nat → Nat → Int32} {J : Nat → Nat → Int64} {nw : Bool} {x : Int32} (n : Nat) (hn : n ≤ 6) (en : I 15 3 = nI n) : zP l mX8_areDrinkers [.ref 0, .int x] (hh I J nw) (zR (some (.int (zbb (zsub x n)))) (hh I J nw)) := by
  refine z_start [.ref 0, .int x] (by decide +kernel) (Nat.le_of_ble_eq_true rfl) rfl ?_
  refine z_iload_1 (pc := 0) dX8_areDrinkers_0 ?_
  refine z_aload_0 (pc := 1) dX8_areDrinkers_1 ?_
  refine y_getR (pc := 2) dX8_areDrinkers_2 flX8_26 rfl (by first | rfl | assumption) (by first | rfl | assumption) ?_
  refine z_V0 (pc := 5) dX8_areDrinkers_5 mlX8_357 kX7_everybody vX7_everybody (by decide) (by decide) (by first | rfl | assumption) (Nat.le_of_ble_eq_true rfl) (qX7_everybody) ⟨Nat.le_refl _, Nat.le_refl _⟩ (fun r h1 hq => ?_)
  obtain ⟨rfl, rfl⟩ := hq
  refine z_iconst (pc := 8) (-1) dX8_areDrinkers_8 rfl ?_
  refine z_ixor (pc := 9) dX8_areDrinkers_9 ?_
  refine z_iand (pc := 10) dX8_areDrinkers_10 ?_
  refine z_if_ne (pc := 11) (tgt := 18) dX8_areDrinkers_11 (by decide) (fun c11 => ?_) (fun c11 => ?_)
  · skip
    rw [en, bs_all n hn, zsub_iff hn] at c11
    refine z_iconst (pc := 18) (0) dX8_areDrinkers_18 rfl ?_
    refine z_ret (pc := 19) (r := some (.int _)) rfl dX8_areDrinkers_19 (by first | exact Or.inl rfl | exact Or.inr rfl | assumption) rfl rfl ?_
    exact ⟨by rw [show zsub x n = false from by cases hq : zsub x n; rfl; exact absurd hq c11]; rfl, rfl⟩
  · skip
    rw [en, bs_all n hn, zsub_iff hn] at c11
    refine z_iconst (pc := 14) (1) dX8_areDrinkers_14 rfl ?_
    refine z_goto (pc := 15) (tgt := 19) dX8_areDrinkers_15 (by decide) ?_
    refine z_ret (pc := 19) (r := some (.int _)) rfl dX8_areDrinkers_19 (by first | exact Or.inl rfl | exact Or.inr rfl | assumption) rfl rfl ?_
    exact ⟨by rw [c11]; rfl, rfl⟩
set_option maxRecDepth 100000 in
set_option maxHeartbeats 4000000 in
theorem qX8_isTownThere {l : zL} {I : Nat → Nat → Int32} {J : Nat → Nat → Int64} {nw : Bool} (n : Nat) (hn : n ≤ 6) (en : I 15 3 = nI n) : zP l mX8_isTownThere [.ref 0] (hh I J nw) (zR (some (.int (zbb (decide (0 < n))))) (hh I J nw)) := by
  refine z_start [.ref 0] (by decide +kernel) (Nat.le_of_ble_eq_true rfl) rfl ?_
  refine z_aload_0 (pc := 0) dX8_isTownThere_0 ?_
  refine y_getR (pc := 1) dX8_isTownThere_1 flX8_26 rfl (by first | rfl | assumption) (by first | rfl | assumption) ?_
  refine y_getI (pc := 4) dX8_isTownThere_4 flX8_138 rfl (by first | rfl | assumption) ?_
  refine z_if_le (pc := 7) (tgt := 14) dX8_isTownThere_7 (by decide) (fun c7 => ?_) (fun c7 => ?_)
  · skip
    refine z_iconst (pc := 14) (0) dX8_isTownThere_14 rfl ?_
    refine z_ret (pc := 15) (r := some (.int _)) rfl dX8_isTownThere_15 (by first | exact Or.inl rfl | exact Or.inr rfl | assumption) rfl rfl ?_
    refine ⟨?_, rfl⟩
    rw [en] at c7
    rw [show decide (0 < n) = false from decide_eq_false (fun q => absurd c7 (nI_nle q (by omega)))]
    rfl
  · skip
    refine z_iconst (pc := 10) (1) dX8_isTownThere_10 rfl ?_
    refine z_goto (pc := 11) (tgt := 15) dX8_isTownThere_11 (by decide) ?_
    refine z_ret (pc := 15) (r := some (.int _)) rfl dX8_isTownThere_15 (by first | exact Or.inl rfl | exact Or.inr rfl | assumption) rfl rfl ?_
    refine ⟨?_, rfl⟩
    rw [en] at c7
    have hp : 0 < n := by
      rcases Nat.eq_zero_or_pos n with q | q
      · subst q; exact absurd (by decide) c7
      · exact q
    rw [show decide (0 < n) = true from decide_eq_true hp]
    rfl
def zkof (own asked : Int32) : Bool := decide (asked = 0) || decide (asked = own) || (decide (asked = 1) && (decide (own = 2) || decide (own = 3))) || (decide (asked = 4) && decide (own = 5))
set_option maxRecDepth 100000 in
set_option maxHeartbeats 4000000 in
theorem qX8_isKindOf {l : zL} {I : Nat → Nat → Int32} {J : Nat → Nat → Int64} {nw : Bool} {a b : Int32} : zP l mX8_isKindOf [.int a, .int b] (hh I J nw) (zR (some (.int (zbb (zkof a b)))) (hh I J nw)) := by
  refine z_start [.int a, .int b] (by decide +kernel) (Nat.le_of_ble_eq_true rfl) rfl ?_
  refine z_iload_1 (pc := 0) dX8_isKindOf_0 ?_
  refine z_if_eq (pc := 1) (tgt := 9) dX8_isKindOf_1 (by decide) (fun c1 => ?_) (fun c1 => ?_)
  · skip
    refine z_iconst (pc := 9) (1) dX8_isKindOf_9 rfl ?_
    refine z_ret (pc := 10) (r := some (.int _)) rfl dX8_isKindOf_10 (by first | exact Or.inl rfl | exact Or.inr rfl | assumption) rfl rfl ?_
    refine ⟨?_, rfl⟩
    simp [zbb, zkof, *]
  · skip
    refine z_iload_1 (pc := 4) dX8_isKindOf_4 ?_
    refine z_iload_0 (pc := 5) dX8_isKindOf_5 ?_
    refine z_icmp_ne (pc := 6) (tgt := 11) dX8_isKindOf_6 (by decide) (fun c6 => ?_) (fun c6 => ?_)
    · skip
      refine z_iload_1 (pc := 11) dX8_isKindOf_11 ?_
      refine z_iconst (pc := 12) (1) dX8_isKindOf_12 rfl ?_
      refine z_icmp_ne (pc := 13) (tgt := 34) dX8_isKindOf_13 (by decide) (fun c13 => ?_) (fun c13 => ?_)
      · skip
        refine z_iload_1 (pc := 34) dX8_isKindOf_34 ?_
        refine z_iconst (pc := 35) (4) dX8_isKindOf_35 rfl ?_
        refine z_icmp_ne (pc := 36) (tgt := 48) dX8_isKindOf_36 (by decide) (fun c36 => ?_) (fun c36 => ?_)
        · skip
          refine z_iconst (pc := 48) (0) dX8_isKindOf_48 rfl ?_
          refine z_ret (pc := 49) (r := some (.int _)) rfl dX8_isKindOf_49 (by first | exact Or.inl rfl | exact Or.inr rfl | assumption) rfl rfl ?_
          refine ⟨?_, rfl⟩
          simp [zbb, zkof, *]
        · skip
          refine z_iload_0 (pc := 39) dX8_isKindOf_39 ?_
          refine z_iconst (pc := 40) (5) dX8_isKindOf_40 rfl ?_
          refine z_icmp_ne (pc := 41) (tgt := 48) dX8_isKindOf_41 (by decide) (fun c41 => ?_) (fun c41 => ?_)
          · skip
            refine z_iconst (pc := 48) (0) dX8_isKindOf_48 rfl ?_
            refine z_ret (pc := 49) (r := some (.int _)) rfl dX8_isKindOf_49 (by first | exact Or.inl rfl | exact Or.inr rfl | assumption) rfl rfl ?_
            refine ⟨?_, rfl⟩
            subst c36
            simp [zbb, zkof, *]
          · skip
            refine z_iconst (pc := 44) (1) dX8_isKindOf_44 rfl ?_
            refine z_goto (pc := 45) (tgt := 49) dX8_isKindOf_45 (by decide) ?_
            refine z_ret (pc := 49) (r := some (.int _)) rfl dX8_isKindOf_49 (by first | exact Or.inl rfl | exact Or.inr rfl | assumption) rfl rfl ?_
            refine ⟨?_, rfl⟩
            subst c36
            simp [zbb, zkof, *]
      · skip
        refine z_iload_0 (pc := 16) dX8_isKindOf_16 ?_
        refine z_iconst (pc := 17) (2) dX8_isKindOf_17 rfl ?_
        refine z_icmp_eq (pc := 18) (tgt := 26) dX8_isKindOf_18 (by decide) (fun c18 => ?_) (fun c18 => ?_)
        · skip
          refine z_iconst (pc := 26) (1) dX8_isKindOf_26 rfl ?_
          refine z_goto (pc := 27) (tgt := 49) dX8_isKindOf_27 (by decide) ?_
          refine z_ret (pc := 49) (r := some (.int _)) rfl dX8_isKindOf_49 (by first | exact Or.inl rfl | exact Or.inr rfl | assumption) rfl rfl ?_
          refine ⟨?_, rfl⟩
          subst c13
          simp [zbb, zkof, *]
        · skip
          refine z_iload_0 (pc := 21) dX8_isKindOf_21 ?_
          refine z_iconst (pc := 22) (3) dX8_isKindOf_22 rfl ?_
          refine z_icmp_ne (pc := 23) (tgt := 30) dX8_isKindOf_23 (by decide) (fun c23 => ?_) (fun c23 => ?_)
          · skip
            refine z_iconst (pc := 30) (0) dX8_isKindOf_30 rfl ?_
            refine z_goto (pc := 31) (tgt := 49) dX8_isKindOf_31 (by decide) ?_
            refine z_ret (pc := 49) (r := some (.int _)) rfl dX8_isKindOf_49 (by first | exact Or.inl rfl | exact Or.inr rfl | assumption) rfl rfl ?_
            refine ⟨?_, rfl⟩
            subst c13
            simp [zbb, zkof, *]
          · skip
            refine z_iconst (pc := 26) (1) dX8_isKindOf_26 rfl ?_
            refine z_goto (pc := 27) (tgt := 49) dX8_isKindOf_27 (by decide) ?_
            refine z_ret (pc := 49) (r := some (.int _)) rfl dX8_isKindOf_49 (by first | exact Or.inl rfl | exact Or.inr rfl | assumption) rfl rfl ?_
            refine ⟨?_, rfl⟩
            subst c13
            simp [zbb, zkof, *]
    · skip
      refine z_iconst (pc := 9) (1) dX8_isKindOf_9 rfl ?_
      refine z_ret (pc := 10) (r := some (.int _)) rfl dX8_isKindOf_10 (by first | exact Or.inl rfl | exact Or.inr rfl | assumption) rfl rfl ?_
      refine ⟨?_, rfl⟩
      simp [zbb, zkof, *]
set_option maxRecDepth 100000 in
set_option maxHeartbeats 4000000 in
theorem qX8_countOrSet {l : zL} {I : Nat → Nat → Int32} {J : Nat → Nat → Int64} {nw : Bool} {s w : Int32} : zP l mX8_countOrSet [.int s, .int w] (hh I J nw) (zR (some (.int (if s = -1000000 ∨ w = 1 then s else zbc s))) (hh I J nw)) := by
  refine z_start [.int s, .int w] (by decide +kernel) (Nat.le_of_ble_eq_true rfl) rfl ?_
  refine z_iload_0 (pc := 0) dX8_countOrSet_0 ?_
  refine z_ldc (pc := 1) dX8_countOrSet_1 kcX8_165 ?_
  refine z_icmp_eq (pc := 3) (tgt := 11) dX8_countOrSet_3 (by decide) (fun c3 => ?_) (fun c3 => ?_)
  · skip
    refine z_iload_0 (pc := 11) dX8_countOrSet_11 ?_
    refine z_goto (pc := 12) (tgt := 19) dX8_countOrSet_12 (by decide) ?_
    refine z_ret (pc := 19) (r := some (.int _)) rfl dX8_countOrSet_19 trivial rfl rfl ?_
    refine ⟨?_, rfl⟩
    simp [*]
  · skip
    refine z_iload_1 (pc := 6) dX8_countOrSet_6 ?_
    refine z_iconst (pc := 7) (1) dX8_countOrSet_7 rfl ?_
    refine z_icmp_ne (pc := 8) (tgt := 15) dX8_countOrSet_8 (by decide) (fun c8 => ?_) (fun c8 => ?_)
    · skip
      refine z_iload_0 (pc := 15) dX8_countOrSet_15 ?_
      refine z_S1 (pc := 16) dX8_countOrSet_16 mlX8_252 kJ6_bitCount_0f7a4 vJ6_bitCount_0f7a4 (by decide) (by decide) (Nat.le_of_ble_eq_true rfl) (qJ6_bitCount_0f7a4) ⟨Nat.le_refl _, Nat.le_refl _⟩ (fun r h1 hq => ?_)
      obtain ⟨rfl, rfl⟩ := hq
      refine z_ret (pc := 19) (r := some (.int _)) rfl dX8_countOrSet_19 trivial rfl rfl ?_
      refine ⟨?_, rfl⟩
      simp [*]
    · skip
      refine z_iload_0 (pc := 11) dX8_countOrSet_11 ?_
      refine z_goto (pc := 12) (tgt := 19) dX8_countOrSet_12 (by decide) ?_
      refine z_ret (pc := 19) (r := some (.int _)) rfl dX8_countOrSet_19 trivial rfl rfl ?_
      refine ⟨?_, rfl⟩
      simp [*]
set_option maxRecDepth 100000 in
set_option maxHeartbeats 4000000 in
theorem qX8_found {l : zL} {I : Nat → Nat → Int32} {J : Nat → Nat → Int64} {nw : Bool} {x : Int32} : zP l mX8_found [.ref 0, .int x] (hh I J nw) (zR (some (.int (-1000010 - x))) (zup I 0 9 x, J, RF nw, SH)) := by
  refine z_start [.ref 0, .int x] (by decide +kernel) (Nat.le_of_ble_eq_true rfl) rfl ?_
  refine z_aload_0 (pc := 0) dX8_found_0 ?_
  refine z_iload_1 (pc := 1) dX8_found_1 ?_
  refine y_putI (pc := 2) dX8_found_2 flX8_69 ffX8_69 rfl (by first | rfl | assumption) ⟨rfl, rfl⟩ ?_
  refine z_ldcw (pc := 5) dX8_found_5 kcX8_356 ?_
  refine z_iload_1 (pc := 8) dX8_found_8 ?_
  refine z_isub (pc := 9) dX8_found_9 ?_
  refine z_ret (pc := 10) (r := some (.int _)) rfl dX8_found_10 trivial rfl rfl ?_
  exact ⟨rfl, rfl⟩
set_option maxRecDepth 100000 in
set_option maxHeartbeats 4000000 in
theorem qX8_fine {l : zL} {I : Nat → Nat → Int32} {J : Nat → Nat → Int64} {nw : Bool} {x : Int32} : zP l mX8_fine [.ref 0, .int x] (hh I J nw) (zR (some (.int x)) (zup I 0 9 0, J, RF nw, SH)) := by
  refine z_start [.ref 0, .int x] (by decide +kernel) (Nat.le_of_ble_eq_true rfl) rfl ?_
  refine z_aload_0 (pc := 0) dX8_fine_0 ?_
  refine z_iconst (pc := 1) (0) dX8_fine_1 rfl ?_
  refine y_putI (pc := 2) dX8_fine_2 flX8_69 ffX8_69 rfl (by first | rfl | assumption) ⟨rfl, rfl⟩ ?_
  refine z_iload_1 (pc := 5) dX8_fine_5 ?_
  refine z_ret (pc := 6) (r := some (.int _)) rfl dX8_fine_6 trivial rfl rfl ?_
  exact ⟨rfl, rfl⟩
