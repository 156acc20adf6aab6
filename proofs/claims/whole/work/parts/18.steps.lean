abbrev nk (nw : Bool) : Nat := if nw = true then 77 else 78
abbrev xk (nw : Bool) : Nat := if nw = true then 78 else 77
theorem SH_xk (nw : Bool) : SH[if nw = true then 78 else 77]? = some (10, 6) := by cases nw <;> rfl
theorem SH_nk (nw : Bool) : SH[if nw = true then 77 else 78]? = some (10, 6) := by cases nw <;> rfl
theorem ne_xk (nw : Bool) {a : Nat} (h : a ≠ 77) (h2 : a ≠ 78) : a ≠ xk nw := by cases nw <;> simp [xk, *]
theorem ne_nk (nw : Bool) {a : Nat} (h : a ≠ 77) (h2 : a ≠ 78) : a ≠ nk nw := by cases nw <;> simp [nk, *]
theorem nk_xk (nw : Bool) : nk nw ≠ xk nw := by cases nw <;> decide
theorem RF_swap (nw : Bool) : zupR (zupR (RF nw) 74 3 (some (xk nw))) 74 4 (some (nk nw)) = RF (!nw) := by
  funext a b
  unfold zupR
  by_cases ha : a = 74
  · subst ha
    by_cases h4 : b = 4
    · subst h4; cases nw <;> rfl
    · by_cases h3 : b = 3
      · subst h3; cases nw <;> rfl
      · simp only [h3, h4, and_false, if_false]
        match b, h3, h4 with
        | 0, _, _ => cases nw <;> rfl
        | 1, _, _ => cases nw <;> rfl
        | 2, _, _ => cases nw <;> rfl
        | 3, h, _ => exact absurd rfl h
        | 4, _, h => exact absurd rfl h
        | k + 5, _, _ => cases nw <;> rfl
  · simp only [ha, false_and, if_false]
    unfold RF
    have : (RFL nw).getD a [] = (RFL (!nw)).getD a [] := by
      have hs : ∀ a, a < 100 → a ≠ 74 → (RFL true).getD a [] = (RFL false).getD a [] := by decide
      by_cases hl : a < 100
      · have := hs a hl ha
        cases nw
        · exact this.symm
        · exact this
      · have hlen : ∀ nw, (RFL nw).length = 100 := fun nw => rfl
        rw [List.getD_eq_getElem?_getD, List.getD_eq_getElem?_getD, List.getElem?_eq_none (by rw [hlen]; omega), List.getElem?_eq_none (by rw [hlen]; omega)]
    rw [this]
set_option maxRecDepth 100000 in
set_option maxHeartbeats 4000000 in
theorem qX6_passOn_no {l : zL} {I : Nat → Nat → Int32} {J : Nat → Nat → Int64} {nw : Bool} {x s : Int32} (hs : ¬ 0 < s) : zP l mX6_passOn [.ref 74, .int x, .int s] (hh I J nw) (zR (some (.int 0)) (hh I J nw)) := by
  refine z_start [.ref 74, .int x, .int s, zno, zno] (by decide +kernel) (Nat.le_of_ble_eq_true rfl) rfl ?_
  refine z_iload_2 (pc := 0) dX6_passOn_0 ?_
  refine z_if_gt (pc := 1) (tgt := 6) dX6_passOn_1 (by decide) (fun c1 => ?_) (fun c1 => ?_)
  · exact absurd c1 hs
  · skip
    refine z_iconst (pc := 4) (0) dX6_passOn_4 rfl ?_
    refine z_ret (pc := 5) (r := some (.int _)) rfl dX6_passOn_5 trivial rfl rfl ?_
    exact ⟨rfl, rfl⟩
set_option maxRecDepth 100000 in
set_option maxHeartbeats 4000000 in
theorem pass_loop {l : zL} {I : Nat → Nat → Int32} {J : Nat → Nat → Int64} {nw : Bool} {x s : Int32} (n : Nat) (hn : n ≤ 6) (en : I 15 3 = nI n) (H : Nat → Bool) : ∀ (f i : Nat) (g : Nat → Int32), i ≤ n → n - i < f → (∀ e, e < 6 → g e = if e < i ∧ H e = true then (if I (xk nw) e < s then s else I (xk nw) e) else I (xk nw) e) →
    zW l mX6_passOn SH.length (zsl SH) 39 [.ref 74, .int x, .int s, .int (nI (bs H)), .int (nI i)] [] (zrow I (xk nw) g, J, RF nw, SH) (fun r h1 => r = some (.int (nI (bs H))) ∧ ∃ g2, h1 = (zrow I (xk nw) g2, J, RF nw, SH) ∧ ∀ e, e < 6 → g2 e = if e < n ∧ H e = true then (if I (xk nw) e < s then s else I (xk nw) e) else I (xk nw) e)
  | 0, i, g, _, hf, _ => by omega
  | f + 1, i, g, hi, hf, hg => by
    refine z_iload_4 (pc := 39) dX6_passOn_39 ?_
    refine z_aload_0 (pc := 41) dX6_passOn_41 ?_
    refine y_getR (pc := 42) dX6_passOn_42 flX6_40 rfl (by first | rfl | assumption | exact SH_xk nw | exact SH_nk nw) (by first | rfl | assumption | exact SH_xk nw | exact SH_nk nw) ?_
    refine y_getI (pc := 45) dX6_passOn_45 flX6_120 rfl (by first | rfl | assumption | exact SH_xk nw | exact SH_nk nw) ?_
    refine z_icmp_ge (pc := 48) (tgt := 84) dX6_passOn_48 (by decide) (fun c48 => ?_) (fun c48 => ?_)
    · skip
      refine z_iload_3 (pc := 84) dX6_passOn_84 ?_
      refine z_ret (pc := 85) (r := some (.int _)) rfl dX6_passOn_85 trivial rfl rfl ?_
      have : i = n := by
        rcases Nat.lt_or_ge i n with q | q
        · rw [zrow_ne _ _ _ (ne_xk nw (by decide) (by decide)), en] at c48
          exact absurd c48 (nI_ge q (by omega))
        · omega
      subst this
      exact ⟨rfl, g, rfl, hg⟩
    · skip
      have hlt : i < n := by
        rcases Nat.lt_or_ge i n with q | q
        · exact q
        · exact absurd (by rw [zrow_ne _ _ _ (ne_xk nw (by decide) (by decide)), en]; exact nI_le q (by omega)) c48
      refine z_iload_3 (pc := 51) dX6_passOn_51 ?_
      refine z_iload_4 (pc := 52) dX6_passOn_52 ?_
      refine z_ishr (pc := 54) dX6_passOn_54 ?_
      refine z_iconst (pc := 55) (1) dX6_passOn_55 rfl ?_
      refine z_iand (pc := 56) dX6_passOn_56 ?_
      refine z_if_eq (pc := 57) (tgt := 78) dX6_passOn_57 (by decide) (fun c57 => ?_) (fun c57 => ?_)
      · skip
        refine z_iinc_4 (pc := 78) (1) dX6_passOn_78 rfl (by decide) rfl ?_
        refine z_goto (pc := 81) (tgt := 39) dX6_passOn_81 (by decide) ?_
        rw [bs_test H i (by omega)] at c57
        rw [← nI_succ]
        refine pass_loop n hn en H f (i + 1) g (by omega) (by omega) (fun e he => ?_)
        rw [hg e he]
        have hi0 : ¬ H i = true := fun q => by rw [if_pos q] at c57; exact absurd c57 (by decide)
        by_cases hei : e = i
        · subst hei; simp [hi0]
        · have : e < i + 1 ↔ e < i := by omega
          simp [this]
      · skip
        refine z_aload_0 (pc := 60) dX6_passOn_60 ?_
        refine y_getR (pc := 61) dX6_passOn_61 flX6_21 rfl (by first | rfl | assumption | exact SH_xk nw | exact SH_nk nw) (by first | rfl | assumption | exact SH_xk nw | exact SH_nk nw) ?_
        refine z_iload_4 (pc := 64) dX6_passOn_64 ?_
        refine z_aload_0 (pc := 66) dX6_passOn_66 ?_
        refine y_getR (pc := 67) dX6_passOn_67 flX6_21 rfl (by first | rfl | assumption | exact SH_xk nw | exact SH_nk nw) (by first | rfl | assumption | exact SH_xk nw | exact SH_nk nw) ?_
        refine z_iload_4 (pc := 70) dX6_passOn_70 ?_
        refine y_ialdN (pc := 72) (i) dX6_passOn_72 (by first | rfl | assumption | exact SH_xk nw | exact SH_nk nw) (rfl) (by omega) (by first | decide | omega) ?_
        refine z_iload_2 (pc := 73) dX6_passOn_73 ?_
        refine z_mmax (pc := 74) dX6_passOn_74 mmX6_99 (by decide) (Nat.le_of_ble_eq_true rfl) ?_
        refine y_iastN (pc := 77) (i) dX6_passOn_77 (by first | rfl | assumption | exact SH_xk nw | exact SH_nk nw) (rfl) (by omega) (by first | decide | omega) ?_
        refine z_iinc_4 (pc := 78) (1) dX6_passOn_78 rfl (by decide) rfl ?_
        refine z_goto (pc := 81) (tgt := 39) dX6_passOn_81 (by decide) ?_
        rw [bs_test H i (by omega)] at c57
        rw [← nI_succ, zrow_up]
        refine pass_loop n hn en H f (i + 1) _ (by omega) (by omega) (fun e he => ?_)
        have hi0 : H i = true := by
          cases hq : H i
          · rw [hq] at c57; exact absurd rfl c57
          · rfl
        unfold upd
        by_cases hei : e = i
        · subst hei; rw [if_pos rfl, zrow_at, hg e he]; simp [hi0]
        · rw [if_neg hei, hg e he]
          have : e < i + 1 ↔ e < i := by omega
          simp [this]
set_option maxRecDepth 100000 in
set_option maxHeartbeats 4000000 in
theorem qX6_passOn {l : zL} {I : Nat → Nat → Int32} {J : Nat → Nat → Int64} {nw : Bool} {x s : Int32} (t : zTn) (ht : zSet I t) (hev : I 74 5 = nI (bs (fun e => decide (e < t.1)))) (d : Nat) (hd : d < t.1) (hx : x = nI d) (hs : 0 < s) : zP l mX6_passOn [.ref 74, .int x, .int s] (hh I J nw) (fun r h1 => r = some (.int (nI (bs (t.2.2.2.2.2 d)))) ∧ ∃ g2, h1 = (zrow I (xk nw) g2, J, RF nw, SH) ∧ ∀ e, e < 6 → g2 e = if t.2.2.2.2.2 d e = true then (if I (xk nw) e < s then s else I (xk nw) e) else I (xk nw) e) := by
  obtain ⟨hh1, hh2, hh3, hh4, hh5, hh6, hh7⟩ := ht.2.2 d hd
  refine z_start [.ref 74, .int x, .int s, zno, zno] (by decide +kernel) (Nat.le_of_ble_eq_true rfl) rfl ?_
  refine z_iload_2 (pc := 0) dX6_passOn_0 ?_
  refine z_if_gt (pc := 1) (tgt := 6) dX6_passOn_1 (by decide) (fun c1 => ?_) (fun c1 => ?_)
  · skip
    refine z_aload_0 (pc := 6) dX6_passOn_6 ?_
    refine y_getR (pc := 7) dX6_passOn_7 flX6_9 rfl (by first | rfl | assumption) (by first | rfl | assumption) ?_
    refine z_iload_1 (pc := 10) dX6_passOn_10 ?_
    refine y_ialdN (pc := 11) (d) dX6_passOn_11 (by first | rfl | assumption) (hx) (by have := ht.1; omega) (by first | decide | omega) ?_
    refine z_iconst (pc := 12) (5) dX6_passOn_12 rfl ?_
    refine z_icmp_ne (pc := 13) (tgt := 29) dX6_passOn_13 (by decide) (fun c13 => ?_) (fun c13 => ?_)
    · skip
      refine z_aload_0 (pc := 29) dX6_passOn_29 ?_
      refine y_getR (pc := 30) dX6_passOn_30 flX6_15 rfl (by first | rfl | assumption) (by first | rfl | assumption) ?_
      refine z_iload_1 (pc := 33) dX6_passOn_33 ?_
      refine y_ialdN (pc := 34) (d) dX6_passOn_34 (by first | rfl | assumption) (hx) (by have := ht.1; omega) (by first | decide | omega) ?_
      refine z_istore_3 (pc := 35) dX6_passOn_35 (by decide) rfl ?_
      refine z_iconst (pc := 36) (0) dX6_passOn_36 rfl ?_
      refine z_istore_4 (pc := 37) dX6_passOn_37 (by decide) rfl ?_
      have hk5 : ¬ t.2.1 d = 5 := hh1 ▸ c13
      rw [hh6 hk5]
      have k := pass_loop (l := l) (I := I) (J := J) (nw := nw) (x := x) (s := s) t.1 ht.1 ht.2.1 (t.2.2.2.2.2 d) (t.1 + 1) 0 (I (xk nw)) (by omega) (by omega) (fun e _ => by simp)
      rw [zrow_self, nI_0] at k
      refine zW.mono k (fun r h1 hq => ?_)
      obtain ⟨a, g2, b, c⟩ := hq
      refine ⟨a, g2, b, fun e he => ?_⟩
      rw [c e he]
      by_cases hq : t.2.2.2.2.2 d e = true
      · rw [if_pos ⟨hh7 e hq, hq⟩, if_pos hq]
      · rw [if_neg (fun z => hq z.2), if_neg hq]
    · skip
      refine z_aload_0 (pc := 16) dX6_passOn_16 ?_
      refine y_getI (pc := 17) dX6_passOn_17 flX6_24 rfl (by first | rfl | assumption) ?_
      refine z_iconst (pc := 20) (1) dX6_passOn_20 rfl ?_
      refine z_iload_1 (pc := 21) dX6_passOn_21 ?_
      refine z_ishl (pc := 22) dX6_passOn_22 ?_
      refine z_iconst (pc := 23) (-1) dX6_passOn_23 rfl ?_
      refine z_ixor (pc := 24) dX6_passOn_24 ?_
      refine z_iand (pc := 25) dX6_passOn_25 ?_
      refine z_goto (pc := 26) (tgt := 35) dX6_passOn_26 (by decide) ?_
      refine z_istore_3 (pc := 35) dX6_passOn_35 (by decide) rfl ?_
      refine z_iconst (pc := 36) (0) dX6_passOn_36 rfl ?_
      refine z_istore_4 (pc := 37) dX6_passOn_37 (by decide) rfl ?_
      have hk5 : t.2.1 d = 5 := hh1 ▸ c13
      have e1 : nI (bs (fun e => decide (e < t.1))) &&& ((1 : Int32) <<< (x &&& 31) ^^^ -1) = nI (bs (t.2.2.2.2.2 d)) := by
        rw [hx, bs_others t.1 ht.1 d (by have := ht.1; omega)]
        exact congrArg nI (bs_congr (fun e _ => (hh5 hk5 e).symm))
      rw [hev, e1]
      have k := pass_loop (l := l) (I := I) (J := J) (nw := nw) (x := x) (s := s) t.1 ht.1 ht.2.1 (t.2.2.2.2.2 d) (t.1 + 1) 0 (I (xk nw)) (by omega) (by omega) (fun e _ => by simp)
      rw [zrow_self, nI_0] at k
      refine zW.mono k (fun r h1 hq => ?_)
      obtain ⟨a, g2, b, c⟩ := hq
      refine ⟨a, g2, b, fun e he => ?_⟩
      rw [c e he]
      by_cases hq : t.2.2.2.2.2 d e = true
      · rw [if_pos ⟨hh7 e hq, hq⟩, if_pos hq]
      · rw [if_neg (fun z => hq z.2), if_neg hq]
  · exact absurd hs c1
