def zTc (I : Nat → Nat → Int32) (b : Nat → Nat) (L : Nat) : Prop := L ≤ 120 ∧ I 13 1 = nI L ∧ (∀ i, i < L → I 14 i = nI (b i) ∧ b i < 256) ∧ ∀ i, L ≤ i → b i = 999
def zby (q : Nat) : Int32 := if q = 999 then -1 else nI q
theorem zTc_up {I : Nat → Nat → Int32} {b : Nat → Nat} {L k j : Nat} {w : Int32} (h : zTc I b L) (hk : k ≠ 14 ∧ ¬ (k = 13 ∧ j = 1)) : zTc (zup I k j w) b L := by
  refine ⟨h.1, ?_, fun i hi => ?_, h.2.2.2⟩
  · rw [zup_no (by omega)]; exact h.2.1
  · rw [zup_no (by omega)]; exact h.2.2.1 i hi
/-- lemmas of the model's tape serve here -/
theorem zTc_tp {I : Nat → Nat → Int32} {b : Nat → Nat} {L : Nat} (h : zTc I b L) : zTp (fun x y => if x = 85 then nI L else nI (b y)) b L := ⟨h.1, rfl, fun i hi => ⟨rfl, (h.2.2.1 i hi).2⟩, h.2.2.2⟩
theorem zby_m1 {I : Nat → Nat → Int32} {b : Nat → Nat} {L : Nat} (h : zTc I b L) (i : Nat) : zby (b i) = -1 ↔ b i = 999 := by
  unfold zby
  by_cases q : b i = 999
  · rw [if_pos q]; exact ⟨fun _ => q, fun _ => rfl⟩
  · rw [if_neg q]
    have := zTp_b (zTc_tp h) i
    constructor
    · intro z
      have e := congrArg Int32.toInt z
      rw [nI_toInt (by omega)] at e
      have h2 : (-1 : Int32).toInt = -1 := by decide
      omega
    · intro z; exact absurd z q
theorem zby_is {I : Nat → Nat → Int32} {b : Nat → Nat} {L c : Nat} {x : Int32} (h : zTc I b L) (i : Nat) (hc : c < 256) (hx : x = nI c) : zby (b i) = x ↔ b i = c := by
  have hb := zTp_b (zTc_tp h) i
  unfold zby
  by_cases q : b i = 999
  · rw [if_pos q, hx]
    constructor
    · intro z
      have e := congrArg Int32.toInt z
      rw [nI_toInt (by omega)] at e
      have h2 : (-1 : Int32).toInt = -1 := by decide
      omega
    · intro z; omega
  · rw [if_neg q, hx]; exact nI_eq (by omega) (by omega)
set_option maxRecDepth 100000 in
set_option maxHeartbeats 4000000 in
theorem qX4_fails {l : zL} {I : Nat → Nat → Int32} {J : Nat → Nat → Int64} {nw : Bool} {x : Int32} : zP l mX4_fails [.ref 13, .int x] (hh I J nw) (zR (some (.int 0)) (zup I 13 3 x, J, RF nw, SH)) := by
  refine z_start [.ref 13, .int x] (by decide +kernel) (Nat.le_of_ble_eq_true rfl) rfl ?_
  refine z_aload_0 (pc := 0) dX4_fails_0 ?_
  refine z_iload_1 (pc := 1) dX4_fails_1 ?_
  refine y_putI (pc := 2) dX4_fails_2 flX4_22 ffX4_22 rfl (by first | rfl | assumption) ⟨rfl, rfl⟩ ?_
  refine z_iconst (pc := 5) (0) dX4_fails_5 rfl ?_
  refine z_ret (pc := 6) (r := some (.int _)) rfl dX4_fails_6 (by first | exact Or.inl rfl | exact Or.inr rfl | assumption) rfl rfl ?_
  exact ⟨rfl, rfl⟩
set_option maxRecDepth 100000 in
set_option maxHeartbeats 4000000 in
theorem qX4_byteAt {l : zL} {I : Nat → Nat → Int32} {J : Nat → Nat → Int64} {nw : Bool} {b : Nat → Nat} {L : Nat} (hT : zTc I b L) (i : Nat) (hi : i < 1000) : zP l mX4_byteAt [.ref 13, .int (nI i)] (hh I J nw) (zR (some (.int (zby (b i)))) (hh I J nw)) := by
  refine z_start [.ref 13, .int (nI i)] (by decide +kernel) (Nat.le_of_ble_eq_true rfl) rfl ?_
  refine z_iload_1 (pc := 0) dX4_byteAt_0 ?_
  refine z_if_lt (pc := 1) (tgt := 21) dX4_byteAt_1 (by decide) (fun c1 => ?_) (fun c1 => ?_)
  · exact absurd c1 (nI_pos (by omega))
  · skip
    refine z_iload_1 (pc := 4) dX4_byteAt_4 ?_
    refine z_aload_0 (pc := 5) dX4_byteAt_5 ?_
    refine y_getI (pc := 6) dX4_byteAt_6 flX4_15 rfl (by first | rfl | assumption) ?_
    rw [hT.2.1]
    refine z_icmp_ge (pc := 9) (tgt := 21) dX4_byteAt_9 (by decide) (fun c9 => ?_) (fun c9 => ?_)
    · skip
      refine z_iconst (pc := 21) (-1) dX4_byteAt_21 rfl ?_
      refine z_ret (pc := 22) (r := some (.int _)) rfl dX4_byteAt_22 trivial rfl rfl ?_
      have hge : L ≤ i := by
        have := hT.1
        rcases Nat.lt_or_ge i L with q | q
        · exact absurd c9 (nI_ge (b := L) q (by omega))
        · exact q
      refine ⟨?_, rfl⟩
      unfold zby
      rw [if_pos (hT.2.2.2 i hge)]
    · skip
      have hlt : i < L := by
        rcases Nat.lt_or_ge i L with q | q
        · exact q
        · exact absurd (nI_le (a := L) q (by omega)) c9
      have hL := hT.1
      refine z_aload_0 (pc := 12) dX4_byteAt_12 ?_
      refine y_getR (pc := 13) dX4_byteAt_13 flX4_9 rfl (by first | rfl | assumption) (by first | rfl | assumption) ?_
      refine z_iload_1 (pc := 16) dX4_byteAt_16 ?_
      refine y_ialdN (pc := 17) (i) dX4_byteAt_17 (by first | rfl | assumption) (rfl) (by omega) (by first | decide | omega) ?_
      refine z_goto (pc := 18) (tgt := 22) dX4_byteAt_18 (by decide) ?_
      refine z_ret (pc := 22) (r := some (.int _)) rfl dX4_byteAt_22 trivial rfl rfl ?_
      refine ⟨?_, rfl⟩
      rw [(hT.2.2.1 i hlt).1]
      unfold zby
      rw [if_neg (by have := (hT.2.2.1 i hlt).2; omega)]
set_option maxRecDepth 100000 in
set_option maxHeartbeats 4000000 in
theorem qX4_letter {l : zL} {I : Nat → Nat → Int32} {J : Nat → Nat → Int64} {nw : Bool} {b : Nat → Nat} {a L : Nat} (hT : zTc I b L) (ha : I 13 2 = nI a) (ha2 : a ≤ 120) : zP l mX4_letter [.ref 13] (hh I J nw) (zR (some (.int (zby (b a)))) (hh I J nw)) := by
  refine z_start [.ref 13] (by decide +kernel) (Nat.le_of_ble_eq_true rfl) rfl ?_
  refine z_aload_0 (pc := 0) dX4_letter_0 ?_
  refine z_aload_0 (pc := 1) dX4_letter_1 ?_
  refine y_getI (pc := 2) dX4_letter_2 flX4_19 rfl (by first | rfl | assumption) ?_
  rw [ha]
  refine z_V1 (pc := 5) dX4_letter_5 mlX4_85 kX4_byteAt vX4_byteAt (by decide) (by decide) (by first | rfl | assumption) (Nat.le_of_ble_eq_true rfl) (qX4_byteAt hT a (by omega)) ⟨Nat.le_refl _, Nat.le_refl _⟩ (fun r h1 hq => ?_)
  obtain ⟨rfl, rfl⟩ := hq
  refine z_ret (pc := 8) (r := some (.int _)) rfl dX4_letter_8 trivial rfl rfl ?_
  exact ⟨rfl, rfl⟩
set_option maxRecDepth 100000 in
set_option maxHeartbeats 4000000 in
theorem qX4_isFigure {l : zL} {I : Nat → Nat → Int32} {J : Nat → Nat → Int64} {nw : Bool} {b : Nat → Nat} {L : Nat} (hT : zTc I b L) (i : Nat) : zP l mX4_isFigure [.int (zby (b i))] (hh I J nw) (zR (some (.int (zbb (zdg b i)))) (hh I J nw)) := by
  have hb := zTp_b (zTc_tp hT) i
  refine z_start [.int (zby (b i))] (by decide +kernel) (Nat.le_of_ble_eq_true rfl) rfl ?_
  refine z_iload_0 (pc := 0) dX4_isFigure_0 ?_
  refine z_bipush (pc := 1) (48) dX4_isFigure_1 rfl ?_
  refine z_icmp_lt (pc := 3) (tgt := 16) dX4_isFigure_3 (by decide) (fun c3 => ?_) (fun c3 => ?_)
  · skip
    refine z_iconst (pc := 16) (0) dX4_isFigure_16 rfl ?_
    refine z_ret (pc := 17) (r := some (.int _)) rfl dX4_isFigure_17 (by first | exact Or.inl rfl | exact Or.inr rfl | assumption) rfl rfl ?_
    refine ⟨?_, rfl⟩
    have hd : zdg b i = false := by
      refine decide_eq_false (fun z => ?_)
      unfold zby at c3
      rw [if_neg (by omega)] at c3
      exact absurd c3 (nI_nlt (a := b i) (b := 48) (by omega) (by omega))
    rw [hd]; rfl
  · skip
    refine z_iload_0 (pc := 6) dX4_isFigure_6 ?_
    refine z_bipush (pc := 7) (57) dX4_isFigure_7 rfl ?_
    refine z_icmp_gt (pc := 9) (tgt := 16) dX4_isFigure_9 (by decide) (fun c9 => ?_) (fun c9 => ?_)
    · skip
      refine z_iconst (pc := 16) (0) dX4_isFigure_16 rfl ?_
      refine z_ret (pc := 17) (r := some (.int _)) rfl dX4_isFigure_17 (by first | exact Or.inl rfl | exact Or.inr rfl | assumption) rfl rfl ?_
      refine ⟨?_, rfl⟩
      have hd : zdg b i = false := by
        refine decide_eq_false (fun z => ?_)
        unfold zby at c9
        rw [if_neg (by omega)] at c9
        exact absurd c9 (nI_nlt (a := 57) (b := b i) (by omega) (by decide))
      rw [hd]; rfl
    · skip
      refine z_iconst (pc := 12) (1) dX4_isFigure_12 rfl ?_
      refine z_goto (pc := 13) (tgt := 17) dX4_isFigure_13 (by decide) ?_
      refine z_ret (pc := 17) (r := some (.int _)) rfl dX4_isFigure_17 (by first | exact Or.inl rfl | exact Or.inr rfl | assumption) rfl rfl ?_
      refine ⟨?_, rfl⟩
      have hd : zdg b i = true := by
        unfold zby at c3 c9
        by_cases q : b i = 999
        · rw [if_pos q] at c3; exact absurd (by decide) c3
        · rw [if_neg q] at c3 c9
          refine decide_eq_true ⟨?_, ?_⟩
          · rcases Nat.lt_or_ge (b i) 48 with z | z
            · exact absurd (nI_lt z (by decide)) c3
            · exact z
          · rcases Nat.lt_or_ge 57 (b i) with z | z
            · exact absurd (nI_lt z (by omega)) c9
            · exact z
      rw [hd]; rfl
def zsrC (q : Nat) : Int32 := if zsrt q = 0 then -1 else nI (zsrt q)
set_option maxRecDepth 100000 in
set_option maxHeartbeats 4000000 in
theorem qX4_sortOf {l : zL} {I : Nat → Nat → Int32} {J : Nat → Nat → Int64} {nw : Bool} {b : Nat → Nat} {L : Nat} (hT : zTc I b L) (i : Nat) : zP l mX4_sortOf [.int (zby (b i))] (hh I J nw) (zR (some (.int (zsrC (b i)))) (hh I J nw)) := by
  have hb := zTp_b (zTc_tp hT) i
  refine z_start [.int (zby (b i))] (by decide +kernel) (Nat.le_of_ble_eq_true rfl) rfl ?_
  refine z_iload_0 (pc := 0) dX4_sortOf_0 ?_
  have hcs : b i = 98 ∨ b i = 100 ∨ b i = 103 ∨ b i = 114 ∨ b i = 119 ∨ (b i ≠ 98 ∧ b i ≠ 100 ∧ b i ≠ 103 ∧ b i ≠ 114 ∧ b i ≠ 119) := by omega
  rcases hcs with h | h | h | h | h | hn
  
  · skip
    first | rw [h] | skip
    refine z_lookup (pc := 1) (tgt := 58) dX4_sortOf_1 (by decide) rfl (by decide) ?_
    refine z_iconst (pc := 58) (4) dX4_sortOf_58 rfl ?_
    refine z_ret (pc := 59) (r := some (.int _)) rfl dX4_sortOf_59 trivial rfl rfl ?_
    exact ⟨by unfold zsrC zsrt; simp [h]; rfl, rfl⟩
  · skip
    first | rw [h] | skip
    refine z_lookup (pc := 1) (tgt := 52) dX4_sortOf_1 (by decide) rfl (by decide) ?_
    refine z_iconst (pc := 52) (1) dX4_sortOf_52 rfl ?_
    refine z_ret (pc := 53) (r := some (.int _)) rfl dX4_sortOf_53 trivial rfl rfl ?_
    exact ⟨by unfold zsrC zsrt; simp [h]; rfl, rfl⟩
  · skip
    first | rw [h] | skip
    refine z_lookup (pc := 1) (tgt := 54) dX4_sortOf_1 (by decide) rfl (by decide) ?_
    refine z_iconst (pc := 54) (2) dX4_sortOf_54 rfl ?_
    refine z_ret (pc := 55) (r := some (.int _)) rfl dX4_sortOf_55 trivial rfl rfl ?_
    exact ⟨by unfold zsrC zsrt; simp [h]; rfl, rfl⟩
  · skip
    first | rw [h] | skip
    refine z_lookup (pc := 1) (tgt := 60) dX4_sortOf_1 (by decide) rfl (by decide) ?_
    refine z_iconst (pc := 60) (5) dX4_sortOf_60 rfl ?_
    refine z_ret (pc := 61) (r := some (.int _)) rfl dX4_sortOf_61 trivial rfl rfl ?_
    exact ⟨by unfold zsrC zsrt; simp [h]; rfl, rfl⟩
  · skip
    first | rw [h] | skip
    refine z_lookup (pc := 1) (tgt := 56) dX4_sortOf_1 (by decide) rfl (by decide) ?_
    refine z_iconst (pc := 56) (3) dX4_sortOf_56 rfl ?_
    refine z_ret (pc := 57) (r := some (.int _)) rfl dX4_sortOf_57 trivial rfl rfl ?_
    exact ⟨by unfold zsrC zsrt; simp [h]; rfl, rfl⟩
  · skip
    first | rw [h] | skip
    refine z_lookup (pc := 1) (off := 61) (tgt := 62) dX4_sortOf_1 (by decide) ?_ (by decide) ?_
    · have hne : ∀ c, c < 256 → b i ≠ c → ¬ (zby (b i)).toInt = (c : Int) := by
        intro c hc hn z
        unfold zby at z
        by_cases q : b i = 999
        · rw [if_pos q, show (-1 : Int32).toInt = -1 from by decide] at z; omega
        · rw [if_neg q, nI_toInt (by omega)] at z; omega
      have n1 := hne 98 (by decide) hn.1
      have n2 := hne 100 (by decide) hn.2.1
      have n3 := hne 103 (by decide) hn.2.2.1
      have n4 := hne 114 (by decide) hn.2.2.2.1
      have n5 := hne 119 (by decide) hn.2.2.2.2
      simp only [Op.lookupswitch.offset, List.find?, Option.map, Option.getD]
      simp [Op.lookupswitch.offset, List.find?, n1, n2, n3, n4, n5, Ne.symm, eq_comm]
      try omega
    refine z_iconst (pc := 62) (-1) dX4_sortOf_62 rfl ?_
    refine z_ret (pc := 63) (r := some (.int _)) rfl dX4_sortOf_63 trivial rfl rfl ?_
    exact ⟨by unfold zsrC zsrt; simp [hn], rfl⟩
set_option maxRecDepth 100000 in
set_option maxHeartbeats 4000000 in
theorem qX4_passes {l : zL} {I : Nat → Nat → Int32} {J : Nat → Nat → Int64} {nw : Bool} {b : Nat → Nat} {a L : Nat} (hT : zTc I b L) (ha : I 13 2 = nI a) (ha2 : a ≤ 120) (c : Nat) (hc : c < 256) : zP l mX4_passes [.ref 13, .int (nI c)] (hh I J nw) (fun r h1 => r = some (.int (zbb (decide (b a = c)))) ∧ h1 = (if b a = c then zup I 13 2 (nI (a + 1)) else zup I 13 3 1, J, RF nw, SH)) := by
  refine z_start [.ref 13, .int (nI c)] (by decide +kernel) (Nat.le_of_ble_eq_true rfl) rfl ?_
  refine z_aload_0 (pc := 0) dX4_passes_0 ?_
  refine z_V0 (pc := 1) dX4_passes_1 mlX4_37 kX4_letter vX4_letter (by decide) (by decide) (by first | rfl | assumption) (Nat.le_of_ble_eq_true rfl) (qX4_letter hT ha ha2) ⟨Nat.le_refl _, Nat.le_refl _⟩ (fun r h1 hq => ?_)
  obtain ⟨rfl, rfl⟩ := hq
  refine z_iload_1 (pc := 4) dX4_passes_4 ?_
  refine z_icmp_eq (pc := 5) (tgt := 14) dX4_passes_5 (by decide) (fun c5 => ?_) (fun c5 => ?_)
  · skip
    refine z_aload_0 (pc := 14) dX4_passes_14 ?_
    refine z_dup (pc := 15) rfl dX4_passes_15 ?_
    refine y_getI (pc := 16) dX4_passes_16 flX4_19 rfl (by first | rfl | assumption) ?_
    rw [ha]
    refine z_iconst (pc := 19) (1) dX4_passes_19 rfl ?_
    refine z_iadd (pc := 20) dX4_passes_20 ?_
    refine y_putI (pc := 21) dX4_passes_21 flX4_19 ffX4_19 rfl (by first | rfl | assumption) ⟨rfl, rfl⟩ ?_
    refine z_iconst (pc := 24) (1) dX4_passes_24 rfl ?_
    refine z_ret (pc := 25) (r := some (.int _)) rfl dX4_passes_25 (by first | exact Or.inl rfl | exact Or.inr rfl | assumption) rfl rfl ?_
    have hn : b a = c := (zby_is hT a hc rfl).mp c5
    exact ⟨by rw [decide_eq_true hn]; rfl, by rw [if_pos hn, nI_1]⟩
  · skip
    refine z_aload_0 (pc := 8) dX4_passes_8 ?_
    refine z_iconst (pc := 9) (1) dX4_passes_9 rfl ?_
    refine z_V1 (pc := 10) dX4_passes_10 mlX4_65 kX4_fails vX4_fails (by decide) (by decide) (by first | rfl | assumption) (Nat.le_of_ble_eq_true rfl) (qX4_fails) ⟨Nat.le_refl _, Nat.le_refl _⟩ (fun r h1 hq => ?_)
    obtain ⟨rfl, rfl⟩ := hq
    refine z_ret (pc := 13) (r := some (.int _)) rfl dX4_passes_13 (by first | exact Or.inl rfl | exact Or.inr rfl | assumption) rfl rfl ?_
    have hn : ¬ b a = c := fun z => c5 ((zby_is hT a hc rfl).mpr z)
    exact ⟨by rw [decide_eq_false hn]; rfl, by rw [if_neg hn]⟩
set_option maxRecDepth 100000 in
set_option maxHeartbeats 4000000 in
theorem qX4_number {l : zL} {I : Nat → Nat → Int32} {J : Nat → Nat → Int64} {nw : Bool} {b : Nat → Nat} {a L : Nat} (hT : zTc I b L) (ha : I 13 2 = nI a) (ha2 : a ≤ 120) (lo hi : Nat) (hlo : lo < 2 ^ 31) (hhi : hi < 2 ^ 31) : zP l mX4_number [.ref 13, .int (nI lo), .int (nI hi)] (hh I J nw) (fun r h1 => ∃ f q a1, zPn b a lo hi = (f, q, a1) ∧ r = some (.int (if f = 0 then nI q else -1)) ∧ h1 = (if f = 0 then zup I 13 2 (nI a1) else zup I 13 3 (nI f), J, RF nw, SH)) := by
  have hb0 := zTp_b (zTc_tp hT) a
  have hb1 := zTp_b (zTc_tp hT) (a + 1)
  have hvb := zvl_lt (zTc_tp hT) a (znf b a)
  refine z_start [.ref 13, .int (nI lo), .int (nI hi), zno, zno] (by decide +kernel) (Nat.le_of_ble_eq_true rfl) rfl ?_
  refine z_iconst (pc := 0) (0) dX4_number_0 rfl ?_
  refine z_istore_3 (pc := 1) dX4_number_1 (by decide) rfl ?_
  refine z_iconst (pc := 2) (0) dX4_number_2 rfl ?_
  refine z_istore_4 (pc := 3) dX4_number_3 (by decide) rfl ?_
  refine z_iload_3 (pc := 5) dX4_number_5 ?_
  refine z_iconst (pc := 6) (3) dX4_number_6 rfl ?_
  refine z_icmp_ge (pc := 7) (tgt := 53) dX4_number_7 (by decide) (fun c7 => ?_) (fun c7 => ?_)
  · exact absurd c7 (by decide)
  · skip
    refine z_aload_0 (pc := 10) dX4_number_10 ?_
    refine z_aload_0 (pc := 11) dX4_number_11 ?_
    refine y_getI (pc := 12) dX4_number_12 flX4_19 rfl (by first | rfl | assumption) ?_
    rw [ha]
    refine z_iload_3 (pc := 15) dX4_number_15 ?_
    refine z_iadd (pc := 16) dX4_number_16 ?_
    rw [show nI a + (0) = nI (a + 0) from nI_add a 0]
    refine z_V1 (pc := 17) dX4_number_17 mlX4_85 kX4_byteAt vX4_byteAt (by decide) (by decide) (by first | rfl | assumption) (Nat.le_of_ble_eq_true rfl) (qX4_byteAt hT (a + 0) (by omega)) ⟨Nat.le_refl _, Nat.le_refl _⟩ (fun r h1 hq => ?_)
    obtain ⟨rfl, rfl⟩ := hq
    refine z_S1 (pc := 20) dX4_number_20 mlX4_88 kX4_isFigure vX4_isFigure (by decide) (by decide) (Nat.le_of_ble_eq_true rfl) (qX4_isFigure hT (a + 0)) ⟨Nat.le_refl _, Nat.le_refl _⟩ (fun r h1 hq => ?_)
    obtain ⟨rfl, rfl⟩ := hq
    refine z_if_eq (pc := 23) (tgt := 53) dX4_number_23 (by decide) (fun c23 => ?_) (fun c23 => ?_)
    · skip
      refine z_iload_3 (pc := 53) dX4_number_53 ?_
      refine z_if_eq (pc := 54) (tgt := 62) dX4_number_54 (by decide) (fun c54 => ?_) (fun c54 => ?_)
      · skip
        refine z_aload_0 (pc := 62) dX4_number_62 ?_
        refine z_iconst (pc := 63) (1) dX4_number_63 rfl ?_
        refine z_V1 (pc := 64) dX4_number_64 mlX4_65 kX4_fails vX4_fails (by decide) (by decide) (by first | rfl | assumption) (Nat.le_of_ble_eq_true rfl) (qX4_fails) ⟨Nat.le_refl _, Nat.le_refl _⟩ (fun r h1 hq => ?_)
        obtain ⟨rfl, rfl⟩ := hq
        refine z_pop (pc := 67) rfl dX4_number_67 ?_
        refine z_iconst (pc := 68) (-1) dX4_number_68 rfl ?_
        refine z_ret (pc := 69) (r := some (.int _)) rfl dX4_number_69 trivial rfl rfl ?_
        have hz : zdg b a = false := (zbb0 _).mp c23
        have hn : ¬ (znf b a = 1 ∨ znf b a = 2) := by unfold znf; rw [hz, if_neg (by decide)]; decide
        exact ⟨1, 0, a, by unfold zPn; rw [if_neg hn], rfl, rfl⟩
      · exact absurd (by decide) c54
    · skip
      refine z_bipush (pc := 26) (10) dX4_number_26 rfl ?_
      refine z_iload_4 (pc := 28) dX4_number_28 ?_
      refine z_imul (pc := 30) dX4_number_30 ?_
      refine z_aload_0 (pc := 31) dX4_number_31 ?_
      refine z_aload_0 (pc := 32) dX4_number_32 ?_
      refine y_getI (pc := 33) dX4_number_33 flX4_19 rfl (by first | rfl | assumption) ?_
      rw [ha]
      refine z_iload_3 (pc := 36) dX4_number_36 ?_
      refine z_iadd (pc := 37) dX4_number_37 ?_
      rw [show nI a + (0) = nI (a + 0) from nI_add a 0]
      refine z_V1 (pc := 38) dX4_number_38 mlX4_85 kX4_byteAt vX4_byteAt (by decide) (by decide) (by first | rfl | assumption) (Nat.le_of_ble_eq_true rfl) (qX4_byteAt hT (a + 0) (by omega)) ⟨Nat.le_refl _, Nat.le_refl _⟩ (fun r h1 hq => ?_)
      obtain ⟨rfl, rfl⟩ := hq
      refine z_iadd (pc := 41) dX4_number_41 ?_
      refine z_bipush (pc := 42) (48) dX4_number_42 rfl ?_
      refine z_isub (pc := 44) dX4_number_44 ?_
      have hd0 := of_decide_eq_true ((zbb1 _).mp c23)
      rw [show zby (b (a + 0)) = nI (b a) from by unfold zby; rw [if_neg (by omega)]; rfl, show (10 : Int32) * 0 + nI (b a) - 48 = nI (b a - 48) from by rw [show (10 : Int32) * 0 = nI 0 from by decide, nI_add, Nat.zero_add]; exact pk_sub (b := 48) hd0.1]
      refine z_istore_4 (pc := 45) dX4_number_45 (by decide) rfl ?_
      refine z_iinc_3 (pc := 47) (1) dX4_number_47 rfl (by decide) rfl ?_
      refine z_goto (pc := 50) (tgt := 5) dX4_number_50 (by decide) ?_
      refine z_iload_3 (pc := 5) dX4_number_5 ?_
      refine z_iconst (pc := 6) (3) dX4_number_6 rfl ?_
      refine z_icmp_ge (pc := 7) (tgt := 53) dX4_number_7 (by decide) (fun c7_2 => ?_) (fun c7_2 => ?_)
      · exact absurd c7_2 (by decide)
      · skip
        refine z_aload_0 (pc := 10) dX4_number_10 ?_
        refine z_aload_0 (pc := 11) dX4_number_11 ?_
        refine y_getI (pc := 12) dX4_number_12 flX4_19 rfl (by first | rfl | assumption) ?_
        rw [ha]
        refine z_iload_3 (pc := 15) dX4_number_15 ?_
        refine z_iadd (pc := 16) dX4_number_16 ?_
        rw [show nI a + (0 + 1) = nI (a + 1) from nI_add a 1]
        refine z_V1 (pc := 17) dX4_number_17 mlX4_85 kX4_byteAt vX4_byteAt (by decide) (by decide) (by first | rfl | assumption) (Nat.le_of_ble_eq_true rfl) (qX4_byteAt hT (a + 1) (by omega)) ⟨Nat.le_refl _, Nat.le_refl _⟩ (fun r h1 hq => ?_)
        obtain ⟨rfl, rfl⟩ := hq
        refine z_S1 (pc := 20) dX4_number_20 mlX4_88 kX4_isFigure vX4_isFigure (by decide) (by decide) (Nat.le_of_ble_eq_true rfl) (qX4_isFigure hT (a + 1)) ⟨Nat.le_refl _, Nat.le_refl _⟩ (fun r h1 hq => ?_)
        obtain ⟨rfl, rfl⟩ := hq
        refine z_if_eq (pc := 23) (tgt := 53) dX4_number_23 (by decide) (fun c23_2 => ?_) (fun c23_2 => ?_)
        · skip
          refine z_iload_3 (pc := 53) dX4_number_53 ?_
          refine z_if_eq (pc := 54) (tgt := 62) dX4_number_54 (by decide) (fun c54 => ?_) (fun c54 => ?_)
          · exact absurd c54 (by decide)
          · skip
            refine z_iload_3 (pc := 57) dX4_number_57 ?_
            refine z_iconst (pc := 58) (2) dX4_number_58 rfl ?_
            refine z_icmp_le (pc := 59) (tgt := 70) dX4_number_59 (by decide) (fun c59 => ?_) (fun c59 => ?_)
            · skip
              refine z_iload_4 (pc := 70) dX4_number_70 ?_
              refine z_iload_1 (pc := 72) dX4_number_72 ?_
              refine z_icmp_lt (pc := 73) (tgt := 82) dX4_number_73 (by decide) (fun c73 => ?_) (fun c73 => ?_)
              · skip
                refine z_aload_0 (pc := 82) dX4_number_82 ?_
                refine z_iconst (pc := 83) (2) dX4_number_83 rfl ?_
                refine z_V1 (pc := 84) dX4_number_84 mlX4_65 kX4_fails vX4_fails (by decide) (by decide) (by first | rfl | assumption) (Nat.le_of_ble_eq_true rfl) (qX4_fails) ⟨Nat.le_refl _, Nat.le_refl _⟩ (fun r h1 hq => ?_)
                obtain ⟨rfl, rfl⟩ := hq
                refine z_pop (pc := 87) rfl dX4_number_87 ?_
                refine z_iconst (pc := 88) (-1) dX4_number_88 rfl ?_
                refine z_ret (pc := 89) (r := some (.int _)) rfl dX4_number_89 trivial rfl rfl ?_
                have hnf : znf b a = 1 := by unfold znf; rw [show zdg b a = true from (zbb1 _).mp c23, show zdg b (a + 1) = false from (zbb0 _).mp c23_2]; rfl
                have hvl : zvl b a (znf b a) = b a - 48 := by rw [hnf]; rfl
                rw [← hvl] at c73
                exact ⟨2, 0, a, by unfold zPn; rw [if_pos (by omega), if_neg (fun z => absurd c73 (nI_nlt (a := zvl b a (znf b a)) (b := lo) z.1 (by omega)))], rfl, rfl⟩
              · skip
                refine z_iload_4 (pc := 76) dX4_number_76 ?_
                refine z_iload_2 (pc := 78) dX4_number_78 ?_
                refine z_icmp_le (pc := 79) (tgt := 90) dX4_number_79 (by decide) (fun c79 => ?_) (fun c79 => ?_)
                · skip
                  refine z_aload_0 (pc := 90) dX4_number_90 ?_
                  refine z_dup (pc := 91) rfl dX4_number_91 ?_
                  refine y_getI (pc := 92) dX4_number_92 flX4_19 rfl (by first | rfl | assumption) ?_
                  rw [ha]
                  refine z_iload_3 (pc := 95) dX4_number_95 ?_
                  refine z_iadd (pc := 96) dX4_number_96 ?_
                  rw [show nI a + (0 + 1) = nI (a + 1) from nI_add a 1]
                  refine y_putI (pc := 97) dX4_number_97 flX4_19 ffX4_19 rfl (by first | rfl | assumption) ⟨rfl, rfl⟩ ?_
                  refine z_iload_4 (pc := 100) dX4_number_100 ?_
                  refine z_ret (pc := 102) (r := some (.int _)) rfl dX4_number_102 trivial rfl rfl ?_
                  have hnf : znf b a = 1 := by unfold znf; rw [show zdg b a = true from (zbb1 _).mp c23, show zdg b (a + 1) = false from (zbb0 _).mp c23_2]; rfl
                  have hvl : zvl b a (znf b a) = b a - 48 := by rw [hnf]; rfl
                  rw [← hvl] at c73 c79
                  have hr : lo ≤ zvl b a (znf b a) ∧ zvl b a (znf b a) ≤ hi := by
                    constructor
                    · rcases Nat.lt_or_ge (zvl b a (znf b a)) lo with z | z
                      · exact absurd (nI_lt z (by omega)) c73
                      · exact z
                    · rcases Nat.lt_or_ge hi (zvl b a (znf b a)) with z | z
                      · exact absurd c79 (nI_ge z (by omega))
                      · exact z
                  exact ⟨0, zvl b a (znf b a), a + znf b a, by unfold zPn; rw [if_pos (by omega), if_pos hr], by rw [hvl]; rfl, by rw [hnf]; rfl⟩
                · skip
                  refine z_aload_0 (pc := 82) dX4_number_82 ?_
                  refine z_iconst (pc := 83) (2) dX4_number_83 rfl ?_
                  refine z_V1 (pc := 84) dX4_number_84 mlX4_65 kX4_fails vX4_fails (by decide) (by decide) (by first | rfl | assumption) (Nat.le_of_ble_eq_true rfl) (qX4_fails) ⟨Nat.le_refl _, Nat.le_refl _⟩ (fun r h1 hq => ?_)
                  obtain ⟨rfl, rfl⟩ := hq
                  refine z_pop (pc := 87) rfl dX4_number_87 ?_
                  refine z_iconst (pc := 88) (-1) dX4_number_88 rfl ?_
                  refine z_ret (pc := 89) (r := some (.int _)) rfl dX4_number_89 trivial rfl rfl ?_
                  have hnf : znf b a = 1 := by unfold znf; rw [show zdg b a = true from (zbb1 _).mp c23, show zdg b (a + 1) = false from (zbb0 _).mp c23_2]; rfl
                  have hvl : zvl b a (znf b a) = b a - 48 := by rw [hnf]; rfl
                  rw [← hvl] at c73 c79
                  exact ⟨2, 0, a, by unfold zPn; rw [if_pos (by omega), if_neg (fun z => c79 (nI_le (b := hi) z.2 (by omega)))], rfl, rfl⟩
            · exact absurd (by decide) c59
        · skip
          refine z_bipush (pc := 26) (10) dX4_number_26 rfl ?_
          refine z_iload_4 (pc := 28) dX4_number_28 ?_
          refine z_imul (pc := 30) dX4_number_30 ?_
          refine z_aload_0 (pc := 31) dX4_number_31 ?_
          refine z_aload_0 (pc := 32) dX4_number_32 ?_
          refine y_getI (pc := 33) dX4_number_33 flX4_19 rfl (by first | rfl | assumption) ?_
          rw [ha]
          refine z_iload_3 (pc := 36) dX4_number_36 ?_
          refine z_iadd (pc := 37) dX4_number_37 ?_
          rw [show nI a + (0 + 1) = nI (a + 1) from nI_add a 1]
          refine z_V1 (pc := 38) dX4_number_38 mlX4_85 kX4_byteAt vX4_byteAt (by decide) (by decide) (by first | rfl | assumption) (Nat.le_of_ble_eq_true rfl) (qX4_byteAt hT (a + 1) (by omega)) ⟨Nat.le_refl _, Nat.le_refl _⟩ (fun r h1 hq => ?_)
          obtain ⟨rfl, rfl⟩ := hq
          refine z_iadd (pc := 41) dX4_number_41 ?_
          refine z_bipush (pc := 42) (48) dX4_number_42 rfl ?_
          refine z_isub (pc := 44) dX4_number_44 ?_
          have hd1 := of_decide_eq_true ((zbb1 _).mp c23_2)
          rw [show zby (b (a + 1)) = nI (b (a + 1)) from by unfold zby; rw [if_neg (by omega)], num_step hd1.1]
          refine z_istore_4 (pc := 45) dX4_number_45 (by decide) rfl ?_
          refine z_iinc_3 (pc := 47) (1) dX4_number_47 rfl (by decide) rfl ?_
          refine z_goto (pc := 50) (tgt := 5) dX4_number_50 (by decide) ?_
          refine z_iload_3 (pc := 5) dX4_number_5 ?_
          refine z_iconst (pc := 6) (3) dX4_number_6 rfl ?_
          refine z_icmp_ge (pc := 7) (tgt := 53) dX4_number_7 (by decide) (fun c7_3 => ?_) (fun c7_3 => ?_)
          · exact absurd c7_3 (by decide)
          · skip
            refine z_aload_0 (pc := 10) dX4_number_10 ?_
            refine z_aload_0 (pc := 11) dX4_number_11 ?_
            refine y_getI (pc := 12) dX4_number_12 flX4_19 rfl (by first | rfl | assumption) ?_
            rw [ha]
            refine z_iload_3 (pc := 15) dX4_number_15 ?_
            refine z_iadd (pc := 16) dX4_number_16 ?_
            rw [show nI a + (0 + 1 + 1) = nI (a + 2) from nI_add a 2]
            refine z_V1 (pc := 17) dX4_number_17 mlX4_85 kX4_byteAt vX4_byteAt (by decide) (by decide) (by first | rfl | assumption) (Nat.le_of_ble_eq_true rfl) (qX4_byteAt hT (a + 2) (by omega)) ⟨Nat.le_refl _, Nat.le_refl _⟩ (fun r h1 hq => ?_)
            obtain ⟨rfl, rfl⟩ := hq
            refine z_S1 (pc := 20) dX4_number_20 mlX4_88 kX4_isFigure vX4_isFigure (by decide) (by decide) (Nat.le_of_ble_eq_true rfl) (qX4_isFigure hT (a + 2)) ⟨Nat.le_refl _, Nat.le_refl _⟩ (fun r h1 hq => ?_)
            obtain ⟨rfl, rfl⟩ := hq
            refine z_if_eq (pc := 23) (tgt := 53) dX4_number_23 (by decide) (fun c23_3 => ?_) (fun c23_3 => ?_)
            · skip
              refine z_iload_3 (pc := 53) dX4_number_53 ?_
              refine z_if_eq (pc := 54) (tgt := 62) dX4_number_54 (by decide) (fun c54 => ?_) (fun c54 => ?_)
              · exact absurd c54 (by decide)
              · skip
                refine z_iload_3 (pc := 57) dX4_number_57 ?_
                refine z_iconst (pc := 58) (2) dX4_number_58 rfl ?_
                refine z_icmp_le (pc := 59) (tgt := 70) dX4_number_59 (by decide) (fun c59 => ?_) (fun c59 => ?_)
                · skip
                  refine z_iload_4 (pc := 70) dX4_number_70 ?_
                  refine z_iload_1 (pc := 72) dX4_number_72 ?_
                  refine z_icmp_lt (pc := 73) (tgt := 82) dX4_number_73 (by decide) (fun c73 => ?_) (fun c73 => ?_)
                  · skip
                    refine z_aload_0 (pc := 82) dX4_number_82 ?_
                    refine z_iconst (pc := 83) (2) dX4_number_83 rfl ?_
                    refine z_V1 (pc := 84) dX4_number_84 mlX4_65 kX4_fails vX4_fails (by decide) (by decide) (by first | rfl | assumption) (Nat.le_of_ble_eq_true rfl) (qX4_fails) ⟨Nat.le_refl _, Nat.le_refl _⟩ (fun r h1 hq => ?_)
                    obtain ⟨rfl, rfl⟩ := hq
                    refine z_pop (pc := 87) rfl dX4_number_87 ?_
                    refine z_iconst (pc := 88) (-1) dX4_number_88 rfl ?_
                    refine z_ret (pc := 89) (r := some (.int _)) rfl dX4_number_89 trivial rfl rfl ?_
                    have hnf : znf b a = 2 := by unfold znf; rw [show zdg b a = true from (zbb1 _).mp c23, show zdg b (a + 1) = true from (zbb1 _).mp c23_2, show zdg b (a + 2) = false from (zbb0 _).mp c23_3]; rfl
                    have hvl : zvl b a (znf b a) = 10 * (b a - 48) + (b (a + 1) - 48) := by rw [hnf]; rfl
                    rw [← hvl] at c73
                    exact ⟨2, 0, a, by unfold zPn; rw [if_pos (by omega), if_neg (fun z => absurd c73 (nI_nlt (a := zvl b a (znf b a)) (b := lo) z.1 (by omega)))], rfl, rfl⟩
                  · skip
                    refine z_iload_4 (pc := 76) dX4_number_76 ?_
                    refine z_iload_2 (pc := 78) dX4_number_78 ?_
                    refine z_icmp_le (pc := 79) (tgt := 90) dX4_number_79 (by decide) (fun c79 => ?_) (fun c79 => ?_)
                    · skip
                      refine z_aload_0 (pc := 90) dX4_number_90 ?_
                      refine z_dup (pc := 91) rfl dX4_number_91 ?_
                      refine y_getI (pc := 92) dX4_number_92 flX4_19 rfl (by first | rfl | assumption) ?_
                      rw [ha]
                      refine z_iload_3 (pc := 95) dX4_number_95 ?_
                      refine z_iadd (pc := 96) dX4_number_96 ?_
                      rw [show nI a + (0 + 1 + 1) = nI (a + 2) from nI_add a 2]
                      refine y_putI (pc := 97) dX4_number_97 flX4_19 ffX4_19 rfl (by first | rfl | assumption) ⟨rfl, rfl⟩ ?_
                      refine z_iload_4 (pc := 100) dX4_number_100 ?_
                      refine z_ret (pc := 102) (r := some (.int _)) rfl dX4_number_102 trivial rfl rfl ?_
                      have hnf : znf b a = 2 := by unfold znf; rw [show zdg b a = true from (zbb1 _).mp c23, show zdg b (a + 1) = true from (zbb1 _).mp c23_2, show zdg b (a + 2) = false from (zbb0 _).mp c23_3]; rfl
                      have hvl : zvl b a (znf b a) = 10 * (b a - 48) + (b (a + 1) - 48) := by rw [hnf]; rfl
                      rw [← hvl] at c73 c79
                      have hr : lo ≤ zvl b a (znf b a) ∧ zvl b a (znf b a) ≤ hi := by
                        constructor
                        · rcases Nat.lt_or_ge (zvl b a (znf b a)) lo with z | z
                          · exact absurd (nI_lt z (by omega)) c73
                          · exact z
                        · rcases Nat.lt_or_ge hi (zvl b a (znf b a)) with z | z
                          · exact absurd c79 (nI_ge z (by omega))
                          · exact z
                      exact ⟨0, zvl b a (znf b a), a + znf b a, by unfold zPn; rw [if_pos (by omega), if_pos hr], by rw [hvl]; rfl, by rw [hnf]; rfl⟩
                    · skip
                      refine z_aload_0 (pc := 82) dX4_number_82 ?_
                      refine z_iconst (pc := 83) (2) dX4_number_83 rfl ?_
                      refine z_V1 (pc := 84) dX4_number_84 mlX4_65 kX4_fails vX4_fails (by decide) (by decide) (by first | rfl | assumption) (Nat.le_of_ble_eq_true rfl) (qX4_fails) ⟨Nat.le_refl _, Nat.le_refl _⟩ (fun r h1 hq => ?_)
                      obtain ⟨rfl, rfl⟩ := hq
                      refine z_pop (pc := 87) rfl dX4_number_87 ?_
                      refine z_iconst (pc := 88) (-1) dX4_number_88 rfl ?_
                      refine z_ret (pc := 89) (r := some (.int _)) rfl dX4_number_89 trivial rfl rfl ?_
                      have hnf : znf b a = 2 := by unfold znf; rw [show zdg b a = true from (zbb1 _).mp c23, show zdg b (a + 1) = true from (zbb1 _).mp c23_2, show zdg b (a + 2) = false from (zbb0 _).mp c23_3]; rfl
                      have hvl : zvl b a (znf b a) = 10 * (b a - 48) + (b (a + 1) - 48) := by rw [hnf]; rfl
                      rw [← hvl] at c73 c79
                      exact ⟨2, 0, a, by unfold zPn; rw [if_pos (by omega), if_neg (fun z => c79 (nI_le (b := hi) z.2 (by omega)))], rfl, rfl⟩
                · exact absurd (by decide) c59
            · skip
              refine z_bipush (pc := 26) (10) dX4_number_26 rfl ?_
              refine z_iload_4 (pc := 28) dX4_number_28 ?_
              refine z_imul (pc := 30) dX4_number_30 ?_
              refine z_aload_0 (pc := 31) dX4_number_31 ?_
              refine z_aload_0 (pc := 32) dX4_number_32 ?_
              refine y_getI (pc := 33) dX4_number_33 flX4_19 rfl (by first | rfl | assumption) ?_
              rw [ha]
              refine z_iload_3 (pc := 36) dX4_number_36 ?_
              refine z_iadd (pc := 37) dX4_number_37 ?_
              rw [show nI a + (0 + 1 + 1) = nI (a + 2) from nI_add a 2]
              refine z_V1 (pc := 38) dX4_number_38 mlX4_85 kX4_byteAt vX4_byteAt (by decide) (by decide) (by first | rfl | assumption) (Nat.le_of_ble_eq_true rfl) (qX4_byteAt hT (a + 2) (by omega)) ⟨Nat.le_refl _, Nat.le_refl _⟩ (fun r h1 hq => ?_)
              obtain ⟨rfl, rfl⟩ := hq
              refine z_iadd (pc := 41) dX4_number_41 ?_
              refine z_bipush (pc := 42) (48) dX4_number_42 rfl ?_
              refine z_isub (pc := 44) dX4_number_44 ?_
              refine z_istore_4 (pc := 45) dX4_number_45 (by decide) rfl ?_
              refine z_iinc_3 (pc := 47) (1) dX4_number_47 rfl (by decide) rfl ?_
              refine z_goto (pc := 50) (tgt := 5) dX4_number_50 (by decide) ?_
              refine z_iload_3 (pc := 5) dX4_number_5 ?_
              refine z_iconst (pc := 6) (3) dX4_number_6 rfl ?_
              refine z_icmp_ge (pc := 7) (tgt := 53) dX4_number_7 (by decide) (fun c7_4 => ?_) (fun c7_4 => ?_)
              · skip
                refine z_iload_3 (pc := 53) dX4_number_53 ?_
                refine z_if_eq (pc := 54) (tgt := 62) dX4_number_54 (by decide) (fun c54 => ?_) (fun c54 => ?_)
                · exact absurd c54 (by decide)
                · skip
                  refine z_iload_3 (pc := 57) dX4_number_57 ?_
                  refine z_iconst (pc := 58) (2) dX4_number_58 rfl ?_
                  refine z_icmp_le (pc := 59) (tgt := 70) dX4_number_59 (by decide) (fun c59 => ?_) (fun c59 => ?_)
                  · exact absurd c59 (by decide)
                  · skip
                    refine z_aload_0 (pc := 62) dX4_number_62 ?_
                    refine z_iconst (pc := 63) (1) dX4_number_63 rfl ?_
                    refine z_V1 (pc := 64) dX4_number_64 mlX4_65 kX4_fails vX4_fails (by decide) (by decide) (by first | rfl | assumption) (Nat.le_of_ble_eq_true rfl) (qX4_fails) ⟨Nat.le_refl _, Nat.le_refl _⟩ (fun r h1 hq => ?_)
                    obtain ⟨rfl, rfl⟩ := hq
                    refine z_pop (pc := 67) rfl dX4_number_67 ?_
                    refine z_iconst (pc := 68) (-1) dX4_number_68 rfl ?_
                    refine z_ret (pc := 69) (r := some (.int _)) rfl dX4_number_69 trivial rfl rfl ?_
                    have hn : ¬ (znf b a = 1 ∨ znf b a = 2) := by unfold znf; rw [show zdg b a = true from (zbb1 _).mp c23, show zdg b (a + 1) = true from (zbb1 _).mp c23_2, show zdg b (a + 2) = true from (zbb1 _).mp c23_3]; decide
                    exact ⟨1, 0, a, by unfold zPn; rw [if_neg hn], rfl, rfl⟩
              · exact absurd (by decide) c7_4
