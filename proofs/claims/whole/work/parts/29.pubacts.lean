set_option maxRecDepth 100000 in
set_option maxHeartbeats 4000000 in
theorem qX4_append {l : zL} {I : Nat → Nat → Int32} {J : Nat → Nat → Int64} {nw : Bool} {x : Int32} (n : Nat) (hn : n < 120) (en : I 13 1 = nI n) : zP l mX4_append [.ref 13, .int x] (hh I J nw) (zR (some (.int (nI (n + 1)))) (zup (zup I 14 n x) 13 1 (nI (n + 1)), J, RF nw, SH)) := by
  refine z_start [.ref 13, .int x] (by decide +kernel) (Nat.le_of_ble_eq_true rfl) rfl ?_
  refine z_aload_0 (pc := 0) dX4_append_0 ?_
  refine y_getR (pc := 1) dX4_append_1 flX4_9 rfl (by first | rfl | assumption) (by first | rfl | assumption) ?_
  refine z_aload_0 (pc := 4) dX4_append_4 ?_
  refine y_getI (pc := 5) dX4_append_5 flX4_15 rfl (by first | rfl | assumption) ?_
  refine z_iload_1 (pc := 8) dX4_append_8 ?_
  refine y_iastN (pc := 9) (n) dX4_append_9 (by first | rfl | assumption) (en) (hn) (by first | decide | omega) ?_
  refine z_aload_0 (pc := 10) dX4_append_10 ?_
  refine z_dup (pc := 11) rfl dX4_append_11 ?_
  refine y_getI (pc := 12) dX4_append_12 flX4_15 rfl (by first | rfl | assumption) ?_
  refine z_iconst (pc := 15) (1) dX4_append_15 rfl ?_
  refine z_iadd (pc := 16) dX4_append_16 ?_
  refine z_nm (y := nI (n + 1)) (by rw [zup_nk _ _ (by decide), en]; exact (nI_succ n).symm) ?_
  refine y_putI (pc := 17) dX4_append_17 flX4_15 ffX4_15 rfl (by first | rfl | assumption) ⟨rfl, rfl⟩ ?_
  refine z_aload_0 (pc := 20) dX4_append_20 ?_
  refine y_getI (pc := 21) dX4_append_21 flX4_15 rfl (by first | rfl | assumption) ?_
  refine z_ret (pc := 24) (r := some (.int _)) rfl dX4_append_24 trivial rfl rfl ?_
  exact ⟨by rw [zup_same], rfl⟩
def pFeed (I : Nat → Nat → Int32) (ln : Nat) (x : Int32) : Int32 × (Nat → Nat → Int32) := if zlt x 256 = true then (if ln < 120 then (nI (ln + 1), zup (zup I 14 ln x) 13 1 (nI (ln + 1))) else (-1000003, I)) else (-1000001, I)
set_option maxRecDepth 100000 in
set_option maxHeartbeats 4000000 in
theorem qX8_feed {l : zL} {I : Nat → Nat → Int32} {J : Nat → Nat → Int64} {nw : Bool} {x : Int32} (ln : Nat) (hl : ln ≤ 120) (el : I 13 1 = nI ln) : zP l mX8_feed [.ref 0, .int x] (hh I J nw) (zPub (pFeed I ln x)) := by
  refine z_start [.ref 0, .int x] (by decide +kernel) (Nat.le_of_ble_eq_true rfl) rfl ?_
  refine z_iload_1 (pc := 0) dX8_feed_0 ?_
  refine z_if_lt (pc := 1) (tgt := 11) dX8_feed_1 (by decide) (fun c1 => ?_) (fun c1 => ?_)
  · skip
    refine z_ldc (pc := 11) dX8_feed_11 kcX8_77 ?_
    refine z_ret (pc := 13) (r := some (.int _)) rfl dX8_feed_13 trivial rfl rfl ?_
    refine zPub_of ?_
    unfold pFeed
    rw [zlt_no (by decide) (Or.inl c1)]
    rfl
  · skip
    refine z_iload_1 (pc := 4) dX8_feed_4 ?_
    refine z_sipush (pc := 5) (255) dX8_feed_5 rfl ?_
    refine z_icmp_le (pc := 8) (tgt := 14) dX8_feed_8 (by decide) (fun c8 => ?_) (fun c8 => ?_)
    · skip
      have hz : zlt x 256 = true := by
        rw [zlt_iff (by decide)]
        refine ⟨c1, fun q => ?_⟩
        have h1 := Int32.le_iff_toInt_le.mp c8
        have h2 := Int32.le_iff_toInt_le.mp q
        rw [nI_toInt (by decide)] at h2
        have h3 : (255 : Int32).toInt = 255 := by decide
        omega
      refine z_aload_0 (pc := 14) dX8_feed_14 ?_
      refine y_getR (pc := 15) dX8_feed_15 flX8_19 rfl (by first | rfl | assumption) (by first | rfl | assumption) ?_
      refine y_getI (pc := 18) dX8_feed_18 flX8_117 rfl (by first | rfl | assumption) ?_
      refine z_bipush (pc := 21) (120) dX8_feed_21 rfl ?_
      refine z_icmp_lt (pc := 23) (tgt := 29) dX8_feed_23 (by decide) (fun c23 => ?_) (fun c23 => ?_)
      · skip
        have hlt : ln < 120 := by
          rcases Nat.lt_or_ge ln 120 with q | q
          · exact q
          · exact absurd (el ▸ c23) (nI_nlt (b := 120) q (by omega))
        refine z_aload_0 (pc := 29) dX8_feed_29 ?_
        refine y_getR (pc := 30) dX8_feed_30 flX8_19 rfl (by first | rfl | assumption) (by first | rfl | assumption) ?_
        refine z_iload_1 (pc := 33) dX8_feed_33 ?_
        refine z_V1 (pc := 34) dX8_feed_34 mlX8_121 kX4_append vX4_append (by decide) (by decide) (by first | rfl | assumption) (Nat.le_of_ble_eq_true rfl) (qX4_append ln hlt el) ⟨Nat.le_refl _, Nat.le_refl _⟩ (fun r h1 hq => ?_)
        obtain ⟨rfl, rfl⟩ := hq
        refine z_ret (pc := 37) (r := some (.int _)) rfl dX8_feed_37 trivial rfl rfl ?_
        refine zPub_of ?_
        unfold pFeed
        rw [if_pos hz, if_pos hlt]
      · skip
        refine z_ldc (pc := 26) dX8_feed_26 kcX8_120 ?_
        refine z_ret (pc := 28) (r := some (.int _)) rfl dX8_feed_28 trivial rfl rfl ?_
        refine zPub_of ?_
        unfold pFeed
        rw [if_pos hz, if_neg (fun q => c23 (by rw [el]; exact nI_lt (b := 120) q (by decide)))]
    · skip
      refine z_ldc (pc := 11) dX8_feed_11 kcX8_77 ?_
      refine z_ret (pc := 13) (r := some (.int _)) rfl dX8_feed_13 trivial rfl rfl ?_
      refine zPub_of ?_
      unfold pFeed
      rw [zlt_no (by decide) (Or.inr ?_)]
      · rfl
      · have h1 := Int32.not_le.mp c8
        have h2 := Int32.lt_iff_toInt_lt.mp h1
        rw [Int32.le_iff_toInt_le, nI_toInt (by decide)]
        have h3 : (255 : Int32).toInt = 255 := by decide
        omega
set_option maxRecDepth 100000 in
set_option maxHeartbeats 4000000 in
theorem qX8_fault {l : zL} {I : Nat → Nat → Int32} {J : Nat → Nat → Int64} {nw : Bool}  : zP l mX8_fault [.ref 0] (hh I J nw) (zPub (I 13 3, I)) := by
  refine z_start [.ref 0] (by decide +kernel) (Nat.le_of_ble_eq_true rfl) rfl ?_
  refine z_aload_0 (pc := 0) dX8_fault_0 ?_
  refine y_getR (pc := 1) dX8_fault_1 flX8_19 rfl (by first | rfl | assumption) (by first | rfl | assumption) ?_
  refine y_getI (pc := 4) dX8_fault_4 flX8_141 rfl (by first | rfl | assumption) ?_
  refine z_ret (pc := 7) (r := some (.int _)) rfl dX8_fault_7 trivial rfl rfl ?_
  exact zPub_of rfl
set_option maxRecDepth 100000 in
set_option maxHeartbeats 4000000 in
theorem qX8_status {l : zL} {I : Nat → Nat → Int32} {J : Nat → Nat → Int64} {nw : Bool}  : zP l mX8_status [.ref 0] (hh I J nw) (zPub (I 0 9, I)) := by
  refine z_start [.ref 0] (by decide +kernel) (Nat.le_of_ble_eq_true rfl) rfl ?_
  refine z_aload_0 (pc := 0) dX8_status_0 ?_
  refine y_getI (pc := 1) dX8_status_1 flX8_69 rfl (by first | rfl | assumption) ?_
  refine z_ret (pc := 4) (r := some (.int _)) rfl dX8_status_4 trivial rfl rfl ?_
  exact zPub_of rfl
set_option maxRecDepth 100000 in
set_option maxHeartbeats 4000000 in
theorem qX8_trace {l : zL} {I : Nat → Nat → Int32} {J : Nat → Nat → Int64} {nw : Bool} {x : Int32} (n : Nat) (hn : n ≤ 16) (en : I 83 2 = nI n) : zP l mX8_trace [.ref 0, .int x] (hh I J nw) (zPub (if zlt x n = true then I 84 x.toNatClampNeg else -1000000, I)) := by
  refine z_start [.ref 0, .int x] (by decide +kernel) (Nat.le_of_ble_eq_true rfl) rfl ?_
  refine z_aload_0 (pc := 0) dX8_trace_0 ?_
  refine y_getR (pc := 1) dX8_trace_1 flX8_65 rfl (by first | rfl | assumption) (by first | rfl | assumption) ?_
  refine z_iload_1 (pc := 4) dX8_trace_4 ?_
  refine z_V1 (pc := 5) dX8_trace_5 mlX8_349 kX1_traced vX1_traced (by decide) (by decide) (by first | rfl | assumption) (Nat.le_of_ble_eq_true rfl) (qX1_traced n hn en) ⟨Nat.le_refl _, Nat.le_refl _⟩ (fun r h1 hq => ?_)
  obtain ⟨rfl, rfl⟩ := hq
  refine z_ret (pc := 8) (r := some (.int _)) rfl dX8_trace_8 trivial rfl rfl ?_
  refine zPub_of ?_
  refine congrArg (fun v => (v, I)) ?_
  by_cases h : zlt x n = true
  · have := (zlt_iff (by omega)).mp h
    rw [if_pos h, if_neg this.1, if_neg this.2]
  · rw [if_neg h]
    by_cases h1 : x < 0
    · rw [if_pos h1]
    · rw [if_neg h1]
      by_cases h2 : nI n ≤ x
      · rw [if_pos h2]
      · exact absurd (zlt_yes (by omega) h1 h2) h
def pKind (I : Nat → Nat → Int32) (n : Nat) (x : Int32) : Int32 × (Nat → Nat → Int32) := if zlt x n = true then (I 16 x.toNatClampNeg, I) else (-1000001, I)
def pRum (I : Nat → Nat → Int32) (n : Nat) (x : Int32) : Int32 × (Nat → Nat → Int32) := if zlt x n = true then (I 22 (13 + x.toNatClampNeg), I) else (-1000001, I)
def pAs (I : Nat → Nat → Int32) (n : Nat) (x k : Int32) : Int32 × (Nat → Nat → Int32) := if zlt x n = true ∧ zlt k 6 = true then (if zkof (I 16 x.toNatClampNeg) k = true then (x, zup I 0 9 0) else (-1000013, zup I 0 9 3)) else (-1000001, I)
def pDrk (I : Nat → Nat → Int32) (n T : Nat) (x w : Int32) : Int32 × (Nat → Nat → Int32) := if zlt x n = true ∧ zlt w 3 = true then (if w = 0 then I 17 x.toNatClampNeg else if w = 1 then I 18 x.toNatClampNeg else zhear15 I x T, I) else (-1000001, I)
set_option maxRecDepth 100000 in
set_option maxHeartbeats 4000000 in
theorem qX8_kind {l : zL} {I : Nat → Nat → Int32} {J : Nat → Nat → Int64} {nw : Bool} (n T : Nat) (A B : Nat → Nat) (ht : zTown I n T A B) {x : Int32} : zP l mX8_kind [.ref 0, .int x] (hh I J nw) (zPub (pKind I n x)) := by
  refine z_start [.ref 0, .int x] (by decide +kernel) (Nat.le_of_ble_eq_true rfl) rfl ?_
  refine z_aload_0 (pc := 0) dX8_kind_0 ?_
  refine z_iload_1 (pc := 1) dX8_kind_1 ?_
  refine z_V1 (pc := 2) dX8_kind_2 mlX8_156 kX8_isDrinker vX8_isDrinker (by decide) (by decide) (by first | rfl | assumption) (Nat.le_of_ble_eq_true rfl) (qX8_isDrinker n ht.1 ht.2.1) ⟨Nat.le_refl _, Nat.le_refl _⟩ (fun r h1 hq => ?_)
  obtain ⟨rfl, rfl⟩ := hq
  refine z_if_eq (pc := 5) (tgt := 20) dX8_kind_5 (by decide) (fun c5 => ?_) (fun c5 => ?_)
  · skip
    refine z_ldc (pc := 20) dX8_kind_20 kcX8_77 ?_
    refine z_ret (pc := 22) (r := some (.int _)) rfl dX8_kind_22 trivial rfl rfl ?_
    refine zPub_of ?_
    simp only [zbb0, zbb1, zb_eq0, zb_ne0, Classical.not_not, Bool.not_eq_false] at *
    simp [pKind, *]
  · skip
    obtain ⟨i, hi, rfl⟩ := zlt_nI (by have := ht.1; omega) ((zbb1 _).mp c5)
    have hn6 := ht.1
    have hcl : (nI i).toNatClampNeg = i := nI_clamp (by omega)
    refine z_aload_0 (pc := 8) dX8_kind_8 ?_
    refine y_getR (pc := 9) dX8_kind_9 flX8_26 rfl (by first | rfl | assumption) (by first | rfl | assumption) ?_
    refine y_getR (pc := 12) dX8_kind_12 flX8_337 rfl (by first | rfl | assumption) (by first | rfl | assumption) ?_
    refine z_iload_1 (pc := 15) dX8_kind_15 ?_
    refine y_ialdN (pc := 16) (i) dX8_kind_16 (by first | rfl | assumption) (rfl) (by omega) (by first | decide | omega) ?_
    refine z_goto (pc := 17) (tgt := 22) dX8_kind_17 (by decide) ?_
    refine z_ret (pc := 22) (r := some (.int _)) rfl dX8_kind_22 trivial rfl rfl ?_
    refine zPub_of ?_
    simp only [zbb0, zbb1, zb_eq0, zb_ne0, Classical.not_not, Bool.not_eq_false] at *
    simp [pKind, *]
set_option maxRecDepth 100000 in
set_option maxHeartbeats 4000000 in
theorem qX8_rumour {l : zL} {I : Nat → Nat → Int32} {J : Nat → Nat → Int64} {nw : Bool} (n T : Nat) (A B : Nat → Nat) (ht : zTown I n T A B) {x : Int32} : zP l mX8_rumour [.ref 0, .int x] (hh I J nw) (zPub (pRum I n x)) := by
  refine z_start [.ref 0, .int x] (by decide +kernel) (Nat.le_of_ble_eq_true rfl) rfl ?_
  refine z_aload_0 (pc := 0) dX8_rumour_0 ?_
  refine z_iload_1 (pc := 1) dX8_rumour_1 ?_
  refine z_V1 (pc := 2) dX8_rumour_2 mlX8_156 kX8_isDrinker vX8_isDrinker (by decide) (by decide) (by first | rfl | assumption) (Nat.le_of_ble_eq_true rfl) (qX8_isDrinker n ht.1 ht.2.1) ⟨Nat.le_refl _, Nat.le_refl _⟩ (fun r h1 hq => ?_)
  obtain ⟨rfl, rfl⟩ := hq
  refine z_if_eq (pc := 5) (tgt := 22) dX8_rumour_5 (by decide) (fun c5 => ?_) (fun c5 => ?_)
  · skip
    refine z_ldc (pc := 22) dX8_rumour_22 kcX8_77 ?_
    refine z_ret (pc := 24) (r := some (.int _)) rfl dX8_rumour_24 trivial rfl rfl ?_
    refine zPub_of ?_
    simp only [zbb0, zbb1, zb_eq0, zb_ne0, Classical.not_not, Bool.not_eq_false] at *
    simp [pRum, *]
  · skip
    obtain ⟨i, hi, rfl⟩ := zlt_nI (by have := ht.1; omega) ((zbb1 _).mp c5)
    have hn6 := ht.1
    have hcl : (nI i).toNatClampNeg = i := nI_clamp (by omega)
    refine z_aload_0 (pc := 8) dX8_rumour_8 ?_
    refine y_getR (pc := 9) dX8_rumour_9 flX8_26 rfl (by first | rfl | assumption) (by first | rfl | assumption) ?_
    refine y_getR (pc := 12) dX8_rumour_12 flX8_148 rfl (by first | rfl | assumption) (by first | rfl | assumption) ?_
    refine z_iload_1 (pc := 15) dX8_rumour_15 ?_
    refine z_V1 (pc := 16) dX8_rumour_16 mlX8_228 kX2_notesOf vX2_notesOf (by decide) (by decide) (by first | rfl | assumption) (Nat.le_of_ble_eq_true rfl) (qX2_notesOf rfl rfl rfl i rfl (by omega)) ⟨Nat.le_refl _, Nat.le_refl _⟩ (fun r h1 hq => ?_)
    obtain ⟨rfl, rfl⟩ := hq
    refine z_goto (pc := 19) (tgt := 24) dX8_rumour_19 (by decide) ?_
    refine z_ret (pc := 24) (r := some (.int _)) rfl dX8_rumour_24 trivial rfl rfl ?_
    refine zPub_of ?_
    simp only [zbb0, zbb1, zb_eq0, zb_ne0, Classical.not_not, Bool.not_eq_false] at *
    simp [pRum, *]
