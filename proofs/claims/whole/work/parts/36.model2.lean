/-- the model's town in the array K -/
def zRT (I : Nat → Nat → Int32) (K n T : Nat) (A B : Nat → Nat) : Prop := n ≤ 6 ∧ I K 3 = nI n ∧ T ≤ 10 ∧ I K 4 = nI T ∧ (∀ k, k < T → I K (24 + k) = nI (A k) ∧ A k < n) ∧ (∀ k, k < T → I K (34 + k) = nI (B k) ∧ B k < n) ∧ ∀ d, d < n → ∃ k, 1 ≤ k ∧ k ≤ 5 ∧ I K (6 + d) = nI k
def zm2 (v s : Int32) : Int32 := if v < s then s else v
theorem zm2_twice (v s : Int32) : zm2 (zm2 v s) s = zm2 v s := by
  unfold zm2
  by_cases h : v < s
  · rw [if_pos h, if_neg (fun z => absurd z Int32.lt_irrefl)]
  · rw [if_neg h, if_neg h]
theorem zRT.keep {I I2 : Nat → Nat → Int32} {K n T : Nat} {A B : Nat → Nat} (h : zRT I K n T A B) (hk : I2 K = I K) : zRT I2 K n T A B := by
  unfold zRT at h ⊢; rw [hk]; exact h
set_option maxRecDepth 100000 in
set_option maxHeartbeats 4000000 in
theorem ties_loop {l : zL} {I : Nat → Nat → Int32} {J : Nat → Nat → Int64} {nw : Bool} (K : Nat) (hK : SH[K]? = some (10, 66)) (hK2 : K ≠ 97) (n T : Nat) (A B : Nat → Nat) (ht : zRT I K n T A B) {s : Int32} (d : Nat) (hd : d < n) {x : Int32} (w : Nat → Bool) (hw : ∀ k, k < 10 → ((x >>> (nI k &&& 31)) &&& 1 = 1 ↔ w k = true)) (h5 : ¬ I K (6 + d) = 5) : ∀ (f k : Nat) (g : Nat → Int32), k ≤ T → T - k < f → (∀ e, e < 6 → g e = if ztl A B w k d e = true then zm2 (I 97 e) s else I 97 e) →
    zW l mX9_passesOn SH.length (zsl SH) 43 [.ref 85, .ref K, .int (nI d), .int s, .int x, .int (nI k)] [] (zrow I 97 g, J, RF nw, SH) (fun r h1 => r = none ∧ ∃ g2, h1 = (zrow I 97 g2, J, RF nw, SH) ∧ ∀ e, e < 6 → g2 e = if ztl A B w T d e = true then zm2 (I 97 e) s else I 97 e)
  | 0, k, g, _, hf, _ => by omega
  | f + 1, k, g, hk, hf, hg => by
    have hn6 := ht.1
    have hT10 := ht.2.2.1
    have eK : ∀ b, zrow I 97 g K b = I K b := fun b => zrow_ne _ _ _ hK2
    refine z_iload_5 (pc := 43) dX9_passesOn_43 ?_
    refine z_aload_1 (pc := 45) dX9_passesOn_45 ?_
    refine z_iconst (pc := 46) (4) dX9_passesOn_46 rfl ?_
    refine y_ialdN (pc := 47) (4) dX9_passesOn_47 (by first | rfl | assumption) (rfl) (by decide) (by first | decide | omega) ?_
    refine z_icmp_ge (pc := 48) (tgt := 100) dX9_passesOn_48 (by decide) (fun c48 => ?_) (fun c48 => ?_)
    · skip
      refine z_ret (pc := 100) (r := none) rfl dX9_passesOn_100 trivial rfl rfl ?_
      have : k = T := by
        rcases Nat.lt_or_ge k T with q | q
        · rw [eK, ht.2.2.2.1] at c48
          exact absurd c48 (nI_ge q (by omega))
        · omega
      subst this
      exact ⟨rfl, g, rfl, hg⟩
    · skip
      have hlt : k < T := by
        rcases Nat.lt_or_ge k T with q | q
        · exact q
        · exact absurd (by rw [eK, ht.2.2.2.1]; exact nI_le q (by omega)) c48
      refine z_aload_1 (pc := 51) dX9_passesOn_51 ?_
      refine z_bipush (pc := 52) (6) dX9_passesOn_52 rfl ?_
      refine z_iload_2 (pc := 54) dX9_passesOn_54 ?_
      refine z_iadd (pc := 55) dX9_passesOn_55 ?_
      refine y_ialdN (pc := 56) (6 + d) dX9_passesOn_56 (by first | rfl | assumption) (nI_add 6 d) (by omega) (by first | decide | omega) ?_
      refine z_iconst (pc := 57) (5) dX9_passesOn_57 rfl ?_
      refine z_icmp_eq (pc := 58) (tgt := 100) dX9_passesOn_58 (by decide) (fun c58 => ?_) (fun c58 => ?_)
      · exact absurd (by rw [← eK]; exact c58) h5
      · skip
        refine z_aload_1 (pc := 61) dX9_passesOn_61 ?_
        refine z_bipush (pc := 62) (24) dX9_passesOn_62 rfl ?_
        refine z_iload_5 (pc := 64) dX9_passesOn_64 ?_
        refine z_iadd (pc := 66) dX9_passesOn_66 ?_
        refine y_ialdN (pc := 67) (24 + k) dX9_passesOn_67 (by first | rfl | assumption) (nI_add 24 k) (by omega) (by first | decide | omega) ?_
        refine z_iload_2 (pc := 68) dX9_passesOn_68 ?_
        refine z_icmp_ne (pc := 69) (tgt := 94) dX9_passesOn_69 (by decide) (fun c69 => ?_) (fun c69 => ?_)
        · skip
          refine z_iinc_5 (pc := 94) (1) dX9_passesOn_94 rfl (by decide) rfl ?_
          refine z_goto (pc := 97) (tgt := 43) dX9_passesOn_97 (by decide) ?_
          rw [← nI_succ]
          have et : ∀ e, ztl A B w (k + 1) d e = ztl A B w k d e := fun e => by
            rw [ztl]
            have hak : ¬ d = A k := fun z => c69 (by rw [eK, (ht.2.2.2.2.1 k hlt).1, z])
            simp [hak]
          exact ties_loop K hK hK2 n T A B ht d hd w hw h5 f (k + 1) g (by omega) (by omega) (fun e he => by rw [et]; exact hg e he)
        · skip
          refine z_iload_4 (pc := 72) dX9_passesOn_72 ?_
          refine z_iload_5 (pc := 74) dX9_passesOn_74 ?_
          refine z_S2 (pc := 76) dX9_passesOn_76 mlX9_164 kX9_has vX9_has (by decide) (by decide) (Nat.le_of_ble_eq_true rfl) (qX9_has) ⟨Nat.le_refl _, Nat.le_refl _⟩ (fun r h1 hq => ?_)
          obtain ⟨rfl, rfl⟩ := hq
          refine z_if_ne (pc := 79) (tgt := 94) dX9_passesOn_79 (by decide) (fun c79 => ?_) (fun c79 => ?_)
          · skip
            refine z_iinc_5 (pc := 94) (1) dX9_passesOn_94 rfl (by decide) rfl ?_
            refine z_goto (pc := 97) (tgt := 43) dX9_passesOn_97 (by decide) ?_
            rw [← nI_succ]
            have et : ∀ e, ztl A B w (k + 1) d e = ztl A B w k d e := fun e => by
              rw [ztl]
              rw [zbb1, decide_eq_true_eq, hw k (by omega)] at c79
              rw [c79]; simp
            exact ties_loop K hK hK2 n T A B ht d hd w hw h5 f (k + 1) g (by omega) (by omega) (fun e he => by rw [et]; exact hg e he)
          · skip
            refine z_aload_0 (pc := 82) dX9_passesOn_82 ?_
            refine z_aload_1 (pc := 83) dX9_passesOn_83 ?_
            refine z_bipush (pc := 84) (34) dX9_passesOn_84 rfl ?_
            refine z_iload_5 (pc := 86) dX9_passesOn_86 ?_
            refine z_iadd (pc := 88) dX9_passesOn_88 ?_
            refine y_ialdN (pc := 89) (34 + k) dX9_passesOn_89 (by first | rfl | assumption) (nI_add 34 k) (by omega) (by first | decide | omega) ?_
            refine z_iload_3 (pc := 90) dX9_passesOn_90 ?_
            refine z_V2 (pc := 91) dX9_passesOn_91 mlX9_160 kX9_brings vX9_brings (by decide) (by decide) (by first | rfl | assumption) (Nat.le_of_ble_eq_true rfl) (qX9_brings (B k) (by rw [eK]; exact (ht.2.2.2.2.2.1 k hlt).1) (by have := (ht.2.2.2.2.2.1 k hlt).2; omega)) ⟨Nat.le_refl _, Nat.le_refl _⟩ (fun r h1 hq => ?_)
            obtain ⟨rfl, rfl⟩ := hq
            refine z_iinc_5 (pc := 94) (1) dX9_passesOn_94 rfl (by decide) rfl ?_
            refine z_goto (pc := 97) (tgt := 43) dX9_passesOn_97 (by decide) ?_
            rw [← nI_succ]
            rw [zrow_up]
            refine ties_loop K hK hK2 n T A B ht d hd w hw h5 f (k + 1) _ (by omega) (by omega) (fun e he => ?_)
            have hak : A k = d := by
              have hb := (ht.2.2.2.2.1 k hlt).2
              rw [eK, (ht.2.2.2.2.1 k hlt).1] at c69
              exact (nI_eq (by omega) (by omega)).mp c69
            have hwk : w k = false := by
              rw [zbb0, decide_eq_false_iff_not, hw k (by omega)] at c79
              cases hq : w k
              · rfl
              · exact absurd hq c79
            unfold upd
            by_cases hb : e = B k
            · subst hb
              rw [if_pos rfl, zrow_at, hg _ he]
              have et : ztl A B w (k + 1) d (B k) = true := by rw [ztl, hwk, hak]; simp
              rw [et]
              by_cases hz : ztl A B w k d (B k) = true
              · rw [if_pos hz, if_pos rfl]; exact zm2_twice _ _
              · rw [if_neg hz, if_pos rfl]; rfl
            · rw [if_neg hb, hg e he]
              have et : ztl A B w (k + 1) d e = ztl A B w k d e := by rw [ztl]; simp [hb]
              rw [et]
set_option maxRecDepth 100000 in
set_option maxHeartbeats 4000000 in
theorem rat_loop {l : zL} {I : Nat → Nat → Int32} {J : Nat → Nat → Int64} {nw : Bool} (K : Nat) (hK : SH[K]? = some (10, 66)) (hK2 : K ≠ 97) (n T : Nat) (A B : Nat → Nat) (ht : zRT I K n T A B) {s : Int32} (d : Nat) (hd : d < n) {x : Int32} (h5 : I K (6 + d) = 5) : ∀ (f k : Nat) (g : Nat → Int32), k ≤ n → n - k < f → (∀ e, e < 6 → g e = if e < k ∧ e ≠ d then zm2 (I 97 e) s else I 97 e) →
    zW l mX9_passesOn SH.length (zsl SH) 3 [.ref 85, .ref K, .int (nI d), .int s, .int x, .int (nI k)] [] (zrow I 97 g, J, RF nw, SH) (fun r h1 => r = none ∧ ∃ g2, h1 = (zrow I 97 g2, J, RF nw, SH) ∧ ∀ e, e < 6 → g2 e = if e < n ∧ e ≠ d then zm2 (I 97 e) s else I 97 e)
  | 0, k, g, _, hf, _ => by omega
  | f + 1, k, g, hk, hf, hg => by
    have hn6 := ht.1
    have hT10 := ht.2.2.1
    have eK : ∀ b, zrow I 97 g K b = I K b := fun b => zrow_ne _ _ _ hK2
    refine z_iload_5 (pc := 3) dX9_passesOn_3 ?_
    refine z_aload_1 (pc := 5) dX9_passesOn_5 ?_
    refine z_iconst (pc := 6) (3) dX9_passesOn_6 rfl ?_
    refine y_ialdN (pc := 7) (3) dX9_passesOn_7 (by first | rfl | assumption) (rfl) (by decide) (by first | decide | omega) ?_
    refine z_icmp_ge (pc := 8) (tgt := 40) dX9_passesOn_8 (by decide) (fun c8 => ?_) (fun c8 => ?_)
    · skip
      have hkn : k = n := by
        rcases Nat.lt_or_ge k n with q | q
        · rw [eK, ht.2.1] at c8
          exact absurd c8 (nI_ge q (by omega))
        · omega
      subst hkn
      refine z_iconst (pc := 40) (0) dX9_passesOn_40 rfl ?_
      refine z_istore_5 (pc := 41) dX9_passesOn_41 (by decide) rfl ?_
      refine z_iload_5 (pc := 43) dX9_passesOn_43 ?_
      refine z_aload_1 (pc := 45) dX9_passesOn_45 ?_
      refine z_iconst (pc := 46) (4) dX9_passesOn_46 rfl ?_
      refine y_ialdN (pc := 47) (4) dX9_passesOn_47 (by first | rfl | assumption) (rfl) (by decide) (by first | decide | omega) ?_
      refine z_icmp_ge (pc := 48) (tgt := 100) dX9_passesOn_48 (by decide) (fun c48 => ?_) (fun c48 => ?_)
      · skip
        refine z_ret (pc := 100) (r := none) rfl dX9_passesOn_100 trivial rfl rfl ?_
        exact ⟨rfl, g, rfl, hg⟩
      · skip
        refine z_aload_1 (pc := 51) dX9_passesOn_51 ?_
        refine z_bipush (pc := 52) (6) dX9_passesOn_52 rfl ?_
        refine z_iload_2 (pc := 54) dX9_passesOn_54 ?_
        refine z_iadd (pc := 55) dX9_passesOn_55 ?_
        refine y_ialdN (pc := 56) (6 + d) dX9_passesOn_56 (by first | rfl | assumption) (nI_add 6 d) (by omega) (by first | decide | omega) ?_
        refine z_iconst (pc := 57) (5) dX9_passesOn_57 rfl ?_
        refine z_icmp_eq (pc := 58) (tgt := 100) dX9_passesOn_58 (by decide) (fun c58 => ?_) (fun c58 => ?_)
        · skip
          refine z_ret (pc := 100) (r := none) rfl dX9_passesOn_100 trivial rfl rfl ?_
          exact ⟨rfl, g, rfl, hg⟩
        · exact absurd (by rw [eK]; exact h5) c58
    · skip
      have hlt : k < n := by
        rcases Nat.lt_or_ge k n with q | q
        · exact q
        · exact absurd (by rw [eK, ht.2.1]; exact nI_le q (by omega)) c8
      refine z_aload_1 (pc := 11) dX9_passesOn_11 ?_
      refine z_bipush (pc := 12) (6) dX9_passesOn_12 rfl ?_
      refine z_iload_2 (pc := 14) dX9_passesOn_14 ?_
      refine z_iadd (pc := 15) dX9_passesOn_15 ?_
      refine y_ialdN (pc := 16) (6 + d) dX9_passesOn_16 (by first | rfl | assumption) (nI_add 6 d) (by omega) (by first | decide | omega) ?_
      refine z_iconst (pc := 17) (5) dX9_passesOn_17 rfl ?_
      refine z_icmp_ne (pc := 18) (tgt := 40) dX9_passesOn_18 (by decide) (fun c18 => ?_) (fun c18 => ?_)
      · exact absurd (by rw [eK]; exact h5) c18
      · skip
        refine z_iload_5 (pc := 21) dX9_passesOn_21 ?_
        refine z_iload_2 (pc := 23) dX9_passesOn_23 ?_
        refine z_icmp_eq (pc := 24) (tgt := 34) dX9_passesOn_24 (by decide) (fun c24 => ?_) (fun c24 => ?_)
        · skip
          refine z_iinc_5 (pc := 34) (1) dX9_passesOn_34 rfl (by decide) rfl ?_
          refine z_goto (pc := 37) (tgt := 3) dX9_passesOn_37 (by decide) ?_
          have hkd : k = d := (nI_eq (by omega) (by omega)).mp c24
          rw [← nI_succ]
          refine rat_loop K hK hK2 n T A B ht d hd h5 f (k + 1) g (by omega) (by omega) (fun e he => ?_)
          rw [hg e he]
          by_cases hb : e = k
          · subst hb; rw [if_neg (by omega), if_neg (fun q => q.2 hkd)]
          · have : e < k + 1 ↔ e < k := by omega
            simp only [this]
        · skip
          refine z_aload_0 (pc := 27) dX9_passesOn_27 ?_
          refine z_iload_5 (pc := 28) dX9_passesOn_28 ?_
          refine z_iload_3 (pc := 30) dX9_passesOn_30 ?_
          refine z_V2 (pc := 31) dX9_passesOn_31 mlX9_160 kX9_brings vX9_brings (by decide) (by decide) (by first | rfl | assumption) (Nat.le_of_ble_eq_true rfl) (qX9_brings k rfl (by omega)) ⟨Nat.le_refl _, Nat.le_refl _⟩ (fun r h1 hq => ?_)
          obtain ⟨rfl, rfl⟩ := hq
          refine z_iinc_5 (pc := 34) (1) dX9_passesOn_34 rfl (by decide) rfl ?_
          refine z_goto (pc := 37) (tgt := 3) dX9_passesOn_37 (by decide) ?_
          rw [← nI_succ, zrow_up]
          refine rat_loop K hK hK2 n T A B ht d hd h5 f (k + 1) _ (by omega) (by omega) (fun e he => ?_)
          have hkd : ¬ k = d := fun z => c24 (by rw [z])
          unfold upd
          by_cases hb : e = k
          · subst hb
            rw [if_pos rfl, zrow_at, hg _ he, if_neg (show ¬ (e < e ∧ e ≠ d) from by omega), if_pos (show e < e + 1 ∧ e ≠ d from ⟨by omega, hkd⟩)]; rfl
          · rw [if_neg hb, hg e he]
            have : e < k + 1 ↔ e < k := by omega
            simp only [this]
set_option maxRecDepth 100000 in
set_option maxHeartbeats 4000000 in
theorem qX9_passesOn {l : zL} {I : Nat → Nat → Int32} {J : Nat → Nat → Int64} {nw : Bool} (K : Nat) (hK : SH[K]? = some (10, 66)) (hK2 : K ≠ 97) (n T : Nat) (A B : Nat → Nat) (ht : zRT I K n T A B) {s : Int32} (d : Nat) (hd : d < n) {x : Int32} (w : Nat → Bool) (hw : ∀ k, k < 10 → ((x >>> (nI k &&& 31)) &&& 1 = 1 ↔ w k = true)) {y : Int32} (hy : y = nI d) : zP l mX9_passesOn [.ref 85, .ref K, .int y, .int s, .int x] (hh I J nw) (fun r h1 => r = none ∧ ∃ g2, h1 = (zrow I 97 g2, J, RF nw, SH) ∧ ∀ e, e < 6 → g2 e = if (if I K (6 + d) = 5 then decide (e < n) && !(e == d) else ztl A B w T d e) = true then zm2 (I 97 e) s else I 97 e) := by
  refine z_start [.ref 85, .ref K, .int y, .int s, .int x, zno] (by decide +kernel) (Nat.le_of_ble_eq_true rfl) rfl ?_
  refine z_iconst (pc := 0) (0) dX9_passesOn_0 rfl ?_
  refine z_istore_5 (pc := 1) dX9_passesOn_1 (by decide) rfl ?_
  subst hy
  have hn6 := ht.1
  by_cases h5 : I K (6 + d) = 5
  · have k := rat_loop (l := l) (I := I) (J := J) (nw := nw) K hK hK2 n T A B ht (s := s) d hd (x := x) h5 (n + 1) 0 (I 97) (by omega) (by omega) (fun e _ => by rw [if_neg (by omega)])
    rw [zrow_self, nI_0] at k
    refine zW.mono k (fun r h1 hq => ?_)
    obtain ⟨a, g2, b, c⟩ := hq
    refine ⟨a, g2, b, fun e he => ?_⟩
    rw [c e he, if_pos h5]
    by_cases hz : e < n ∧ e ≠ d
    · rw [if_pos hz, if_pos (by simp [hz.1, hz.2])]
    · rw [if_neg hz, if_neg (by simpa using hz)]
  · skip
    refine z_iload_5 (pc := 3) dX9_passesOn_3 ?_
    refine z_aload_1 (pc := 5) dX9_passesOn_5 ?_
    refine z_iconst (pc := 6) (3) dX9_passesOn_6 rfl ?_
    refine y_ialdN (pc := 7) (3) dX9_passesOn_7 (by first | rfl | assumption) (rfl) (by decide) (by first | decide | omega) ?_
    refine z_icmp_ge (pc := 8) (tgt := 40) dX9_passesOn_8 (by decide) (fun c8 => ?_) (fun c8 => ?_)
    · skip
      refine z_iconst (pc := 40) (0) dX9_passesOn_40 rfl ?_
      refine z_istore_5 (pc := 41) dX9_passesOn_41 (by decide) rfl ?_
      have k := ties_loop (l := l) (I := I) (J := J) (nw := nw) K hK hK2 n T A B ht (s := s) d hd w hw h5 (T + 1) 0 (I 97) (by omega) (by omega) (fun e _ => by rw [if_neg (by simp [ztl])])
      rw [zrow_self, nI_0] at k
      refine zW.mono k (fun r h1 hq => ?_)
      obtain ⟨a, g2, b, c⟩ := hq
      refine ⟨a, g2, b, fun e he => ?_⟩
      rw [c e he, if_neg h5]
    · skip
      refine z_aload_1 (pc := 11) dX9_passesOn_11 ?_
      refine z_bipush (pc := 12) (6) dX9_passesOn_12 rfl ?_
      refine z_iload_2 (pc := 14) dX9_passesOn_14 ?_
      refine z_iadd (pc := 15) dX9_passesOn_15 ?_
      refine y_ialdN (pc := 16) (6 + d) dX9_passesOn_16 (by first | rfl | assumption) (nI_add 6 d) (by omega) (by first | decide | omega) ?_
      refine z_iconst (pc := 17) (5) dX9_passesOn_17 rfl ?_
      refine z_icmp_ne (pc := 18) (tgt := 40) dX9_passesOn_18 (by decide) (fun c18 => ?_) (fun c18 => ?_)
      · skip
        refine z_iconst (pc := 40) (0) dX9_passesOn_40 rfl ?_
        refine z_istore_5 (pc := 41) dX9_passesOn_41 (by decide) rfl ?_
        have k := ties_loop (l := l) (I := I) (J := J) (nw := nw) K hK hK2 n T A B ht (s := s) d hd w hw h5 (T + 1) 0 (I 97) (by omega) (by omega) (fun e _ => by rw [if_neg (by simp [ztl])])
        rw [zrow_self, nI_0] at k
        refine zW.mono k (fun r h1 hq => ?_)
        obtain ⟨a, g2, b, c⟩ := hq
        refine ⟨a, g2, b, fun e he => ?_⟩
        rw [c e he, if_neg h5]
      · exact absurd c18 h5
