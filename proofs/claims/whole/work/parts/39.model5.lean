set_option maxRecDepth 100000 in
set_option maxHeartbeats 4000000 in
theorem qX9_removes {l : zL} {I : Nat → Nat → Int32} {J : Nat → Nat → Int64} {nw : Bool} (K : Nat) (hK : SH[K]? = some (10, 66)) {x : Int32} (i : Nat) (hx : x = nI i) (hi : i < 4) : zP l mX9_removes [.ref K, .int x] (hh I J nw) (zR none (zup (zup (zup (zup I K (44 + i) 0) K (48 + i) 0) K (52 + i) 0) K (56 + i) 0, J, RF nw, SH)) := by
  refine z_start [.ref K, .int x] (by decide +kernel) (Nat.le_of_ble_eq_true rfl) rfl ?_
  refine z_aload_0 (pc := 0) dX9_removes_0 ?_
  refine z_bipush (pc := 1) (44) dX9_removes_1 rfl ?_
  refine z_iload_1 (pc := 3) dX9_removes_3 ?_
  refine z_iadd (pc := 4) dX9_removes_4 ?_
  refine z_iconst (pc := 5) (0) dX9_removes_5 rfl ?_
  refine y_iastN (pc := 6) (44 + i) dX9_removes_6 (by first | rfl | assumption) (by rw [hx]; exact nI_add 44 i) (by omega) (by first | decide | omega) ?_
  refine z_aload_0 (pc := 7) dX9_removes_7 ?_
  refine z_bipush (pc := 8) (48) dX9_removes_8 rfl ?_
  refine z_iload_1 (pc := 10) dX9_removes_10 ?_
  refine z_iadd (pc := 11) dX9_removes_11 ?_
  refine z_iconst (pc := 12) (0) dX9_removes_12 rfl ?_
  refine y_iastN (pc := 13) (48 + i) dX9_removes_13 (by first | rfl | assumption) (by rw [hx]; exact nI_add 48 i) (by omega) (by first | decide | omega) ?_
  refine z_aload_0 (pc := 14) dX9_removes_14 ?_
  refine z_bipush (pc := 15) (52) dX9_removes_15 rfl ?_
  refine z_iload_1 (pc := 17) dX9_removes_17 ?_
  refine z_iadd (pc := 18) dX9_removes_18 ?_
  refine z_iconst (pc := 19) (0) dX9_removes_19 rfl ?_
  refine y_iastN (pc := 20) (52 + i) dX9_removes_20 (by first | rfl | assumption) (by rw [hx]; exact nI_add 52 i) (by omega) (by first | decide | omega) ?_
  refine z_aload_0 (pc := 21) dX9_removes_21 ?_
  refine z_bipush (pc := 22) (56) dX9_removes_22 rfl ?_
  refine z_iload_1 (pc := 24) dX9_removes_24 ?_
  refine z_iadd (pc := 25) dX9_removes_25 ?_
  refine z_iconst (pc := 26) (0) dX9_removes_26 rfl ?_
  refine y_iastN (pc := 27) (56 + i) dX9_removes_27 (by first | rfl | assumption) (by rw [hx]; exact nI_add 56 i) (by omega) (by first | decide | omega) ?_
  refine z_ret (pc := 28) (r := none) rfl dX9_removes_28 trivial rfl rfl ?_
  exact ⟨rfl, rfl⟩
def zBl (I : Nat → Nat → Int32) (K i j : Nat) : Nat → Nat → Int32 := zup (zup (zup (zup (zup I K (52 + j) (if I K (52 + i) + I K (52 + j) ≤ 20 then I K (52 + i) + I K (52 + j) else 20)) K (44 + i) 0) K (48 + i) 0) K (52 + i) 0) K (56 + i) 0
def zDg (I : Nat → Nat → Int32) (K : Nat) : Nat → Nat → Int32 := fun a b => if a = K then (if 56 ≤ b ∧ b < 60 then I K b + I K (b - 12) else if b = 5 then I K 5 + 1 else I K b) else I a b
set_option maxRecDepth 100000 in
set_option maxHeartbeats 4000000 in
theorem qX9_blends {l : zL} {I : Nat → Nat → Int32} {J : Nat → Nat → Int64} {nw : Bool} (K : Nat) (hK : SH[K]? = some (10, 66)) {x : Int32} (i : Nat) (hx : x = nI i) (hi : i < 4) {y : Int32} (j : Nat) (hy : y = nI j) (hj : j < 4) : zP l mX9_blends [.ref K, .int x, .int y] (hh I J nw) (zR none (zBl I K i j, J, RF nw, SH)) := by
  refine z_start [.ref K, .int x, .int y, zno] (by decide +kernel) (Nat.le_of_ble_eq_true rfl) rfl ?_
  refine z_aload_0 (pc := 0) dX9_blends_0 ?_
  refine z_bipush (pc := 1) (52) dX9_blends_1 rfl ?_
  refine z_iload_1 (pc := 3) dX9_blends_3 ?_
  refine z_iadd (pc := 4) dX9_blends_4 ?_
  refine y_ialdN (pc := 5) (52 + i) dX9_blends_5 (by first | rfl | assumption) (by rw [hx]; exact nI_add 52 i) (by omega) (by first | decide | omega) ?_
  refine z_aload_0 (pc := 6) dX9_blends_6 ?_
  refine z_bipush (pc := 7) (52) dX9_blends_7 rfl ?_
  refine z_iload_2 (pc := 9) dX9_blends_9 ?_
  refine z_iadd (pc := 10) dX9_blends_10 ?_
  refine y_ialdN (pc := 11) (52 + j) dX9_blends_11 (by first | rfl | assumption) (by rw [hy]; exact nI_add 52 j) (by omega) (by first | decide | omega) ?_
  refine z_iadd (pc := 12) dX9_blends_12 ?_
  refine z_istore_3 (pc := 13) dX9_blends_13 (by decide) rfl ?_
  refine z_aload_0 (pc := 14) dX9_blends_14 ?_
  refine z_bipush (pc := 15) (52) dX9_blends_15 rfl ?_
  refine z_iload_2 (pc := 17) dX9_blends_17 ?_
  refine z_iadd (pc := 18) dX9_blends_18 ?_
  refine z_iload_3 (pc := 19) dX9_blends_19 ?_
  refine z_bipush (pc := 20) (20) dX9_blends_20 rfl ?_
  refine z_icmp_le (pc := 22) (tgt := 30) dX9_blends_22 (by decide) (fun c22 => ?_) (fun c22 => ?_)
  · skip
    refine z_iload_3 (pc := 30) dX9_blends_30 ?_
    refine y_iastN (pc := 31) (52 + j) dX9_blends_31 (by first | rfl | assumption) (by rw [hy]; exact nI_add 52 j) (by omega) (by first | decide | omega) ?_
    refine z_aload_0 (pc := 32) dX9_blends_32 ?_
    refine z_iload_1 (pc := 33) dX9_blends_33 ?_
    refine z_S2 (pc := 34) dX9_blends_34 mlX9_194 kX9_removes vX9_removes (by decide) (by decide) (Nat.le_of_ble_eq_true rfl) (qX9_removes K hK i hx hi) ⟨Nat.le_refl _, Nat.le_refl _⟩ (fun r h1 hq => ?_)
    obtain ⟨rfl, rfl⟩ := hq
    refine z_ret (pc := 37) (r := none) rfl dX9_blends_37 trivial rfl rfl ?_
    exact ⟨rfl, by unfold zBl; first | rw [if_pos c22] | rw [if_neg c22]⟩
  · skip
    refine z_bipush (pc := 25) (20) dX9_blends_25 rfl ?_
    refine z_goto (pc := 27) (tgt := 31) dX9_blends_27 (by decide) ?_
    refine y_iastN (pc := 31) (52 + j) dX9_blends_31 (by first | rfl | assumption) (by rw [hy]; exact nI_add 52 j) (by omega) (by first | decide | omega) ?_
    refine z_aload_0 (pc := 32) dX9_blends_32 ?_
    refine z_iload_1 (pc := 33) dX9_blends_33 ?_
    refine z_S2 (pc := 34) dX9_blends_34 mlX9_194 kX9_removes vX9_removes (by decide) (by decide) (Nat.le_of_ble_eq_true rfl) (qX9_removes K hK i hx hi) ⟨Nat.le_refl _, Nat.le_refl _⟩ (fun r h1 hq => ?_)
    obtain ⟨rfl, rfl⟩ := hq
    refine z_ret (pc := 37) (r := none) rfl dX9_blends_37 trivial rfl rfl ?_
    exact ⟨rfl, by unfold zBl; first | rw [if_pos c22] | rw [if_neg c22]⟩
set_option maxRecDepth 100000 in
set_option maxHeartbeats 4000000 in
theorem qX9_dayGoes {l : zL} {I : Nat → Nat → Int32} {J : Nat → Nat → Int64} {nw : Bool} (K : Nat) (hK : SH[K]? = some (10, 66)) : zP l mX9_dayGoes [.ref K] (hh I J nw) (zR none (zDg I K, J, RF nw, SH)) := by
  refine z_start [.ref K, zno] (by decide +kernel) (Nat.le_of_ble_eq_true rfl) rfl ?_
  refine z_iconst (pc := 0) (0) dX9_dayGoes_0 rfl ?_
  refine z_istore_1 (pc := 1) dX9_dayGoes_1 (by decide) rfl ?_
  refine z_iload_1 (pc := 2) dX9_dayGoes_2 ?_
  refine z_iconst (pc := 3) (4) dX9_dayGoes_3 rfl ?_
  refine z_icmp_ge (pc := 4) (tgt := 28) dX9_dayGoes_4 (by decide) (fun c4 => ?_) (fun c4 => ?_)
  · exact absurd c4 (by decide)
  · skip
    refine z_aload_0 (pc := 7) dX9_dayGoes_7 ?_
    refine z_bipush (pc := 8) (56) dX9_dayGoes_8 rfl ?_
    refine z_iload_1 (pc := 10) dX9_dayGoes_10 ?_
    refine z_iadd (pc := 11) dX9_dayGoes_11 ?_
    refine z_dup2 (pc := 12) rfl rfl dX9_dayGoes_12 ?_
    refine y_ialdN (pc := 13) (56) dX9_dayGoes_13 (by first | rfl | assumption) (rfl) (by decide) (by first | decide | omega) ?_
    refine z_aload_0 (pc := 14) dX9_dayGoes_14 ?_
    refine z_bipush (pc := 15) (44) dX9_dayGoes_15 rfl ?_
    refine z_iload_1 (pc := 17) dX9_dayGoes_17 ?_
    refine z_iadd (pc := 18) dX9_dayGoes_18 ?_
    refine y_ialdN (pc := 19) (44) dX9_dayGoes_19 (by first | rfl | assumption) (rfl) (by decide) (by first | decide | omega) ?_
    refine z_iadd (pc := 20) dX9_dayGoes_20 ?_
    refine y_iastN (pc := 21) (56) dX9_dayGoes_21 (by first | rfl | assumption) (rfl) (by decide) (by first | decide | omega) ?_
    refine z_iinc_1 (pc := 22) (1) dX9_dayGoes_22 rfl (by decide) rfl ?_
    refine z_goto (pc := 25) (tgt := 2) dX9_dayGoes_25 (by decide) ?_
    refine z_iload_1 (pc := 2) dX9_dayGoes_2 ?_
    refine z_iconst (pc := 3) (4) dX9_dayGoes_3 rfl ?_
    refine z_icmp_ge (pc := 4) (tgt := 28) dX9_dayGoes_4 (by decide) (fun c4_2 => ?_) (fun c4_2 => ?_)
    · exact absurd c4_2 (by decide)
    · skip
      refine z_aload_0 (pc := 7) dX9_dayGoes_7 ?_
      refine z_bipush (pc := 8) (56) dX9_dayGoes_8 rfl ?_
      refine z_iload_1 (pc := 10) dX9_dayGoes_10 ?_
      refine z_iadd (pc := 11) dX9_dayGoes_11 ?_
      refine z_dup2 (pc := 12) rfl rfl dX9_dayGoes_12 ?_
      refine y_ialdN (pc := 13) (57) dX9_dayGoes_13 (by first | rfl | assumption) (rfl) (by decide) (by first | decide | omega) ?_
      refine z_aload_0 (pc := 14) dX9_dayGoes_14 ?_
      refine z_bipush (pc := 15) (44) dX9_dayGoes_15 rfl ?_
      refine z_iload_1 (pc := 17) dX9_dayGoes_17 ?_
      refine z_iadd (pc := 18) dX9_dayGoes_18 ?_
      refine y_ialdN (pc := 19) (45) dX9_dayGoes_19 (by first | rfl | assumption) (rfl) (by decide) (by first | decide | omega) ?_
      refine z_iadd (pc := 20) dX9_dayGoes_20 ?_
      refine y_iastN (pc := 21) (57) dX9_dayGoes_21 (by first | rfl | assumption) (rfl) (by decide) (by first | decide | omega) ?_
      refine z_iinc_1 (pc := 22) (1) dX9_dayGoes_22 rfl (by decide) rfl ?_
      refine z_goto (pc := 25) (tgt := 2) dX9_dayGoes_25 (by decide) ?_
      refine z_iload_1 (pc := 2) dX9_dayGoes_2 ?_
      refine z_iconst (pc := 3) (4) dX9_dayGoes_3 rfl ?_
      refine z_icmp_ge (pc := 4) (tgt := 28) dX9_dayGoes_4 (by decide) (fun c4_3 => ?_) (fun c4_3 => ?_)
      · exact absurd c4_3 (by decide)
      · skip
        refine z_aload_0 (pc := 7) dX9_dayGoes_7 ?_
        refine z_bipush (pc := 8) (56) dX9_dayGoes_8 rfl ?_
        refine z_iload_1 (pc := 10) dX9_dayGoes_10 ?_
        refine z_iadd (pc := 11) dX9_dayGoes_11 ?_
        refine z_dup2 (pc := 12) rfl rfl dX9_dayGoes_12 ?_
        refine y_ialdN (pc := 13) (58) dX9_dayGoes_13 (by first | rfl | assumption) (rfl) (by decide) (by first | decide | omega) ?_
        refine z_aload_0 (pc := 14) dX9_dayGoes_14 ?_
        refine z_bipush (pc := 15) (44) dX9_dayGoes_15 rfl ?_
        refine z_iload_1 (pc := 17) dX9_dayGoes_17 ?_
        refine z_iadd (pc := 18) dX9_dayGoes_18 ?_
        refine y_ialdN (pc := 19) (46) dX9_dayGoes_19 (by first | rfl | assumption) (rfl) (by decide) (by first | decide | omega) ?_
        refine z_iadd (pc := 20) dX9_dayGoes_20 ?_
        refine y_iastN (pc := 21) (58) dX9_dayGoes_21 (by first | rfl | assumption) (rfl) (by decide) (by first | decide | omega) ?_
        refine z_iinc_1 (pc := 22) (1) dX9_dayGoes_22 rfl (by decide) rfl ?_
        refine z_goto (pc := 25) (tgt := 2) dX9_dayGoes_25 (by decide) ?_
        refine z_iload_1 (pc := 2) dX9_dayGoes_2 ?_
        refine z_iconst (pc := 3) (4) dX9_dayGoes_3 rfl ?_
        refine z_icmp_ge (pc := 4) (tgt := 28) dX9_dayGoes_4 (by decide) (fun c4_4 => ?_) (fun c4_4 => ?_)
        · exact absurd c4_4 (by decide)
        · skip
          refine z_aload_0 (pc := 7) dX9_dayGoes_7 ?_
          refine z_bipush (pc := 8) (56) dX9_dayGoes_8 rfl ?_
          refine z_iload_1 (pc := 10) dX9_dayGoes_10 ?_
          refine z_iadd (pc := 11) dX9_dayGoes_11 ?_
          refine z_dup2 (pc := 12) rfl rfl dX9_dayGoes_12 ?_
          refine y_ialdN (pc := 13) (59) dX9_dayGoes_13 (by first | rfl | assumption) (rfl) (by decide) (by first | decide | omega) ?_
          refine z_aload_0 (pc := 14) dX9_dayGoes_14 ?_
          refine z_bipush (pc := 15) (44) dX9_dayGoes_15 rfl ?_
          refine z_iload_1 (pc := 17) dX9_dayGoes_17 ?_
          refine z_iadd (pc := 18) dX9_dayGoes_18 ?_
          refine y_ialdN (pc := 19) (47) dX9_dayGoes_19 (by first | rfl | assumption) (rfl) (by decide) (by first | decide | omega) ?_
          refine z_iadd (pc := 20) dX9_dayGoes_20 ?_
          refine y_iastN (pc := 21) (59) dX9_dayGoes_21 (by first | rfl | assumption) (rfl) (by decide) (by first | decide | omega) ?_
          refine z_iinc_1 (pc := 22) (1) dX9_dayGoes_22 rfl (by decide) rfl ?_
          refine z_goto (pc := 25) (tgt := 2) dX9_dayGoes_25 (by decide) ?_
          refine z_iload_1 (pc := 2) dX9_dayGoes_2 ?_
          refine z_iconst (pc := 3) (4) dX9_dayGoes_3 rfl ?_
          refine z_icmp_ge (pc := 4) (tgt := 28) dX9_dayGoes_4 (by decide) (fun c4_5 => ?_) (fun c4_5 => ?_)
          · skip
            refine z_aload_0 (pc := 28) dX9_dayGoes_28 ?_
            refine z_iconst (pc := 29) (5) dX9_dayGoes_29 rfl ?_
            refine z_dup2 (pc := 30) rfl rfl dX9_dayGoes_30 ?_
            refine y_ialdN (pc := 31) (5) dX9_dayGoes_31 (by first | rfl | assumption) (rfl) (by decide) (by first | decide | omega) ?_
            refine z_iconst (pc := 32) (1) dX9_dayGoes_32 rfl ?_
            refine z_iadd (pc := 33) dX9_dayGoes_33 ?_
            refine y_iastN (pc := 34) (5) dX9_dayGoes_34 (by first | rfl | assumption) (rfl) (by decide) (by first | decide | omega) ?_
            refine z_ret (pc := 35) (r := none) rfl dX9_dayGoes_35 trivial rfl rfl ?_
            refine ⟨rfl, ?_⟩
            congr 1
            funext a b
            unfold zDg zup
            by_cases ha : a = K
            · subst ha
              by_cases h0 : b = 56
              · subst h0; simp
              · by_cases h1 : b = 57
                · subst h1; simp
                · by_cases h2 : b = 58
                  · subst h2; simp
                  · by_cases h3 : b = 59
                    · subst h3; simp
                    · have : ¬ (56 ≤ b ∧ b < 60) := by omega
                      simp [this, h0, h1, h2, h3]
            · simp [ha]
          · exact absurd (by decide) c4_5
set_option maxRecDepth 100000 in
set_option maxHeartbeats 4000000 in
theorem qX9_notesOf {l : zL} {I : Nat → Nat → Int32} {J : Nat → Nat → Int64} {nw : Bool} (K : Nat) (hK : SH[K]? = some (10, 66)) (z : Nat → Nat) (hz : ∀ k, k < 6 → z k < 1024 ∧ I K (60 + k) = nI (z k)) : zP l mX9_notesOf [.ref K] (hh I J nw) (zR (some (.int (0 + zbc (I K 60) + zbc (I K 61) + zbc (I K 62) + zbc (I K 63) + zbc (I K 64) + zbc (I K 65)))) (hh I J nw)) := by
  refine z_start [.ref K, zno, zno] (by decide +kernel) (Nat.le_of_ble_eq_true rfl) rfl ?_
  refine z_iconst (pc := 0) (0) dX9_notesOf_0 rfl ?_
  refine z_istore_1 (pc := 1) dX9_notesOf_1 (by decide) rfl ?_
  refine z_iconst (pc := 2) (0) dX9_notesOf_2 rfl ?_
  refine z_istore_2 (pc := 3) dX9_notesOf_3 (by decide) rfl ?_
  refine z_iload_2 (pc := 4) dX9_notesOf_4 ?_
  refine z_bipush (pc := 5) (6) dX9_notesOf_5 rfl ?_
  refine z_icmp_ge (pc := 7) (tgt := 28) dX9_notesOf_7 (by decide) (fun c7 => ?_) (fun c7 => ?_)
  · exact absurd c7 (by decide)
  · skip
    refine z_iload_1 (pc := 10) dX9_notesOf_10 ?_
    refine z_aload_0 (pc := 11) dX9_notesOf_11 ?_
    refine z_bipush (pc := 12) (60) dX9_notesOf_12 rfl ?_
    refine z_iload_2 (pc := 14) dX9_notesOf_14 ?_
    refine z_iadd (pc := 15) dX9_notesOf_15 ?_
    refine y_ialdN (pc := 16) (60) dX9_notesOf_16 (by first | rfl | assumption) (rfl) (by decide) (by first | decide | omega) ?_
    refine z_S1 (pc := 17) dX9_notesOf_17 mlX9_239 kX9_bits vX9_bits (by decide) (by decide) (Nat.le_of_ble_eq_true rfl) (['qX9_bits (z 0) (hz 0 (by decide)).1 (hz 0 (by decide)).2', 'qX9_bits (z 1) (hz 1 (by decide)).1 (hz 1 (by decide)).2', 'qX9_bits (z 2) (hz 2 (by decide)).1 (hz 2 (by decide)).2', 'qX9_bits (z 3) (hz 3 (by decide)).1 (hz 3 (by decide)).2', 'qX9_bits (z 4) (hz 4 (by decide)).1 (hz 4 (by decide)).2', 'qX9_bits (z 5) (hz 5 (by decide)).1 (hz 5 (by decide)).2']) ⟨Nat.le_refl _, Nat.le_refl _⟩ (fun r h1 hq => ?_)
    obtain ⟨rfl, rfl⟩ := hq
    refine z_iadd (pc := 20) dX9_notesOf_20 ?_
    refine z_istore_1 (pc := 21) dX9_notesOf_21 (by decide) rfl ?_
    refine z_iinc_2 (pc := 22) (1) dX9_notesOf_22 rfl (by decide) rfl ?_
    refine z_goto (pc := 25) (tgt := 4) dX9_notesOf_25 (by decide) ?_
    refine z_iload_2 (pc := 4) dX9_notesOf_4 ?_
    refine z_bipush (pc := 5) (6) dX9_notesOf_5 rfl ?_
    refine z_icmp_ge (pc := 7) (tgt := 28) dX9_notesOf_7 (by decide) (fun c7_2 => ?_) (fun c7_2 => ?_)
    · exact absurd c7_2 (by decide)
    · skip
      refine z_iload_1 (pc := 10) dX9_notesOf_10 ?_
      refine z_aload_0 (pc := 11) dX9_notesOf_11 ?_
      refine z_bipush (pc := 12) (60) dX9_notesOf_12 rfl ?_
      refine z_iload_2 (pc := 14) dX9_notesOf_14 ?_
      refine z_iadd (pc := 15) dX9_notesOf_15 ?_
      refine y_ialdN (pc := 16) (61) dX9_notesOf_16 (by first | rfl | assumption) (rfl) (by decide) (by first | decide | omega) ?_
      refine z_S1 (pc := 17) dX9_notesOf_17 mlX9_239 kX9_bits vX9_bits (by decide) (by decide) (Nat.le_of_ble_eq_true rfl) (['qX9_bits (z 0) (hz 0 (by decide)).1 (hz 0 (by decide)).2', 'qX9_bits (z 1) (hz 1 (by decide)).1 (hz 1 (by decide)).2', 'qX9_bits (z 2) (hz 2 (by decide)).1 (hz 2 (by decide)).2', 'qX9_bits (z 3) (hz 3 (by decide)).1 (hz 3 (by decide)).2', 'qX9_bits (z 4) (hz 4 (by decide)).1 (hz 4 (by decide)).2', 'qX9_bits (z 5) (hz 5 (by decide)).1 (hz 5 (by decide)).2']) ⟨Nat.le_refl _, Nat.le_refl _⟩ (fun r h1 hq => ?_)
      obtain ⟨rfl, rfl⟩ := hq
      refine z_iadd (pc := 20) dX9_notesOf_20 ?_
      refine z_istore_1 (pc := 21) dX9_notesOf_21 (by decide) rfl ?_
      refine z_iinc_2 (pc := 22) (1) dX9_notesOf_22 rfl (by decide) rfl ?_
      refine z_goto (pc := 25) (tgt := 4) dX9_notesOf_25 (by decide) ?_
      refine z_iload_2 (pc := 4) dX9_notesOf_4 ?_
      refine z_bipush (pc := 5) (6) dX9_notesOf_5 rfl ?_
      refine z_icmp_ge (pc := 7) (tgt := 28) dX9_notesOf_7 (by decide) (fun c7_3 => ?_) (fun c7_3 => ?_)
      · exact absurd c7_3 (by decide)
      · skip
        refine z_iload_1 (pc := 10) dX9_notesOf_10 ?_
        refine z_aload_0 (pc := 11) dX9_notesOf_11 ?_
        refine z_bipush (pc := 12) (60) dX9_notesOf_12 rfl ?_
        refine z_iload_2 (pc := 14) dX9_notesOf_14 ?_
        refine z_iadd (pc := 15) dX9_notesOf_15 ?_
        refine y_ialdN (pc := 16) (62) dX9_notesOf_16 (by first | rfl | assumption) (rfl) (by decide) (by first | decide | omega) ?_
        refine z_S1 (pc := 17) dX9_notesOf_17 mlX9_239 kX9_bits vX9_bits (by decide) (by decide) (Nat.le_of_ble_eq_true rfl) (['qX9_bits (z 0) (hz 0 (by decide)).1 (hz 0 (by decide)).2', 'qX9_bits (z 1) (hz 1 (by decide)).1 (hz 1 (by decide)).2', 'qX9_bits (z 2) (hz 2 (by decide)).1 (hz 2 (by decide)).2', 'qX9_bits (z 3) (hz 3 (by decide)).1 (hz 3 (by decide)).2', 'qX9_bits (z 4) (hz 4 (by decide)).1 (hz 4 (by decide)).2', 'qX9_bits (z 5) (hz 5 (by decide)).1 (hz 5 (by decide)).2']) ⟨Nat.le_refl _, Nat.le_refl _⟩ (fun r h1 hq => ?_)
        obtain ⟨rfl, rfl⟩ := hq
        refine z_iadd (pc := 20) dX9_notesOf_20 ?_
        refine z_istore_1 (pc := 21) dX9_notesOf_21 (by decide) rfl ?_
        refine z_iinc_2 (pc := 22) (1) dX9_notesOf_22 rfl (by decide) rfl ?_
        refine z_goto (pc := 25) (tgt := 4) dX9_notesOf_25 (by decide) ?_
        refine z_iload_2 (pc := 4) dX9_notesOf_4 ?_
        refine z_bipush (pc := 5) (6) dX9_notesOf_5 rfl ?_
        refine z_icmp_ge (pc := 7) (tgt := 28) dX9_notesOf_7 (by decide) (fun c7_4 => ?_) (fun c7_4 => ?_)
        · exact absurd c7_4 (by decide)
        · skip
          refine z_iload_1 (pc := 10) dX9_notesOf_10 ?_
          refine z_aload_0 (pc := 11) dX9_notesOf_11 ?_
          refine z_bipush (pc := 12) (60) dX9_notesOf_12 rfl ?_
          refine z_iload_2 (pc := 14) dX9_notesOf_14 ?_
          refine z_iadd (pc := 15) dX9_notesOf_15 ?_
          refine y_ialdN (pc := 16) (63) dX9_notesOf_16 (by first | rfl | assumption) (rfl) (by decide) (by first | decide | omega) ?_
          refine z_S1 (pc := 17) dX9_notesOf_17 mlX9_239 kX9_bits vX9_bits (by decide) (by decide) (Nat.le_of_ble_eq_true rfl) (['qX9_bits (z 0) (hz 0 (by decide)).1 (hz 0 (by decide)).2', 'qX9_bits (z 1) (hz 1 (by decide)).1 (hz 1 (by decide)).2', 'qX9_bits (z 2) (hz 2 (by decide)).1 (hz 2 (by decide)).2', 'qX9_bits (z 3) (hz 3 (by decide)).1 (hz 3 (by decide)).2', 'qX9_bits (z 4) (hz 4 (by decide)).1 (hz 4 (by decide)).2', 'qX9_bits (z 5) (hz 5 (by decide)).1 (hz 5 (by decide)).2']) ⟨Nat.le_refl _, Nat.le_refl _⟩ (fun r h1 hq => ?_)
          obtain ⟨rfl, rfl⟩ := hq
          refine z_iadd (pc := 20) dX9_notesOf_20 ?_
          refine z_istore_1 (pc := 21) dX9_notesOf_21 (by decide) rfl ?_
          refine z_iinc_2 (pc := 22) (1) dX9_notesOf_22 rfl (by decide) rfl ?_
          refine z_goto (pc := 25) (tgt := 4) dX9_notesOf_25 (by decide) ?_
          refine z_iload_2 (pc := 4) dX9_notesOf_4 ?_
          refine z_bipush (pc := 5) (6) dX9_notesOf_5 rfl ?_
          refine z_icmp_ge (pc := 7) (tgt := 28) dX9_notesOf_7 (by decide) (fun c7_5 => ?_) (fun c7_5 => ?_)
          · exact absurd c7_5 (by decide)
          · skip
            refine z_iload_1 (pc := 10) dX9_notesOf_10 ?_
            refine z_aload_0 (pc := 11) dX9_notesOf_11 ?_
            refine z_bipush (pc := 12) (60) dX9_notesOf_12 rfl ?_
            refine z_iload_2 (pc := 14) dX9_notesOf_14 ?_
            refine z_iadd (pc := 15) dX9_notesOf_15 ?_
            refine y_ialdN (pc := 16) (64) dX9_notesOf_16 (by first | rfl | assumption) (rfl) (by decide) (by first | decide | omega) ?_
            refine z_S1 (pc := 17) dX9_notesOf_17 mlX9_239 kX9_bits vX9_bits (by decide) (by decide) (Nat.le_of_ble_eq_true rfl) (['qX9_bits (z 0) (hz 0 (by decide)).1 (hz 0 (by decide)).2', 'qX9_bits (z 1) (hz 1 (by decide)).1 (hz 1 (by decide)).2', 'qX9_bits (z 2) (hz 2 (by decide)).1 (hz 2 (by decide)).2', 'qX9_bits (z 3) (hz 3 (by decide)).1 (hz 3 (by decide)).2', 'qX9_bits (z 4) (hz 4 (by decide)).1 (hz 4 (by decide)).2', 'qX9_bits (z 5) (hz 5 (by decide)).1 (hz 5 (by decide)).2']) ⟨Nat.le_refl _, Nat.le_refl _⟩ (fun r h1 hq => ?_)
            obtain ⟨rfl, rfl⟩ := hq
            refine z_iadd (pc := 20) dX9_notesOf_20 ?_
            refine z_istore_1 (pc := 21) dX9_notesOf_21 (by decide) rfl ?_
            refine z_iinc_2 (pc := 22) (1) dX9_notesOf_22 rfl (by decide) rfl ?_
            refine z_goto (pc := 25) (tgt := 4) dX9_notesOf_25 (by decide) ?_
            refine z_iload_2 (pc := 4) dX9_notesOf_4 ?_
            refine z_bipush (pc := 5) (6) dX9_notesOf_5 rfl ?_
            refine z_icmp_ge (pc := 7) (tgt := 28) dX9_notesOf_7 (by decide) (fun c7_6 => ?_) (fun c7_6 => ?_)
            · exact absurd c7_6 (by decide)
            · skip
              refine z_iload_1 (pc := 10) dX9_notesOf_10 ?_
              refine z_aload_0 (pc := 11) dX9_notesOf_11 ?_
              refine z_bipush (pc := 12) (60) dX9_notesOf_12 rfl ?_
              refine z_iload_2 (pc := 14) dX9_notesOf_14 ?_
              refine z_iadd (pc := 15) dX9_notesOf_15 ?_
              refine y_ialdN (pc := 16) (65) dX9_notesOf_16 (by first | rfl | assumption) (rfl) (by decide) (by first | decide | omega) ?_
              refine z_S1 (pc := 17) dX9_notesOf_17 mlX9_239 kX9_bits vX9_bits (by decide) (by decide) (Nat.le_of_ble_eq_true rfl) (['qX9_bits (z 0) (hz 0 (by decide)).1 (hz 0 (by decide)).2', 'qX9_bits (z 1) (hz 1 (by decide)).1 (hz 1 (by decide)).2', 'qX9_bits (z 2) (hz 2 (by decide)).1 (hz 2 (by decide)).2', 'qX9_bits (z 3) (hz 3 (by decide)).1 (hz 3 (by decide)).2', 'qX9_bits (z 4) (hz 4 (by decide)).1 (hz 4 (by decide)).2', 'qX9_bits (z 5) (hz 5 (by decide)).1 (hz 5 (by decide)).2']) ⟨Nat.le_refl _, Nat.le_refl _⟩ (fun r h1 hq => ?_)
              obtain ⟨rfl, rfl⟩ := hq
              refine z_iadd (pc := 20) dX9_notesOf_20 ?_
              refine z_istore_1 (pc := 21) dX9_notesOf_21 (by decide) rfl ?_
              refine z_iinc_2 (pc := 22) (1) dX9_notesOf_22 rfl (by decide) rfl ?_
              refine z_goto (pc := 25) (tgt := 4) dX9_notesOf_25 (by decide) ?_
              refine z_iload_2 (pc := 4) dX9_notesOf_4 ?_
              refine z_bipush (pc := 5) (6) dX9_notesOf_5 rfl ?_
              refine z_icmp_ge (pc := 7) (tgt := 28) dX9_notesOf_7 (by decide) (fun c7_7 => ?_) (fun c7_7 => ?_)
              · skip
                refine z_iload_1 (pc := 28) dX9_notesOf_28 ?_
                refine z_ret (pc := 29) (r := some (.int _)) rfl dX9_notesOf_29 trivial rfl rfl ?_
                exact ⟨rfl, rfl⟩
              · exact absurd (by decide) c7_7
theorem zbs_go (I : Nat → Nat → Int32) : True := trivial
set_option maxRecDepth 100000 in
set_option maxHeartbeats 4000000 in
theorem qX9_tellsCask {l : zL} {I : Nat → Nat → Int32} {J : Nat → Nat → Int64} {nw : Bool} (K : Nat) (hK : SH[K]? = some (10, 66)) (hK2 : K ≠ 85 ∧ K ≠ 96 ∧ K ≠ 97 ∧ K ≠ 98) (n T : Nat) (A B : Nat → Nat) (ht : zRT I K n T A B) {m : Int32} {x : Int32} (w : Nat → Bool) (hw : ∀ k, k < 10 → ((x >>> (nI k &&& 31)) &&& 1 = 1 ↔ w k = true)) (sm : Nat → Bool) (hm : ∀ k, k < 6 → ((m >>> (nI k &&& 31)) &&& 1 = 1 ↔ sm k = true)) {y : Int32} (i : Nat) (hy : y = nI i) (hi : i < 4) (hs : -1000 < (zst (I K 0) (I K 1) (I K (52 + i)) (I K (56 + i)))) : zP l mX9_tellsCask [.ref 85, .ref K, .int y, .int m, .int x] (hh I J nw) (zTQ I J nw (zgo (zmT I K n T A B w (I K (48 + i))) sm (zst (I K 0) (I K 1) (I K (52 + i)) (I K (56 + i))))) := by
  refine z_start [.ref 85, .ref K, .int y, .int m, .int x] (by decide +kernel) (Nat.le_of_ble_eq_true rfl) rfl ?_
  refine z_aload_0 (pc := 0) dX9_tellsCask_0 ?_
  refine z_aload_1 (pc := 1) dX9_tellsCask_1 ?_
  refine z_aload_1 (pc := 2) dX9_tellsCask_2 ?_
  refine z_bipush (pc := 3) (48) dX9_tellsCask_3 rfl ?_
  refine z_iload_2 (pc := 5) dX9_tellsCask_5 ?_
  refine z_iadd (pc := 6) dX9_tellsCask_6 ?_
  refine y_ialdN (pc := 7) (48 + i) dX9_tellsCask_7 (by first | rfl | assumption) (by rw [hy]; exact nI_add 48 i) (by omega) (by first | decide | omega) ?_
  refine z_aload_1 (pc := 8) dX9_tellsCask_8 ?_
  refine z_iload_2 (pc := 9) dX9_tellsCask_9 ?_
  refine z_S2 (pc := 10) dX9_tellsCask_10 mlX9_183 kX9_strongOf vX9_strongOf (by decide) (by decide) (Nat.le_of_ble_eq_true rfl) (qX9_strongOf K hK i hy hi) ⟨Nat.le_refl _, Nat.le_refl _⟩ (fun r h1 hq => ?_)
  obtain ⟨rfl, rfl⟩ := hq
  refine z_iload_3 (pc := 13) dX9_tellsCask_13 ?_
  refine z_iload_4 (pc := 14) dX9_tellsCask_14 ?_
  refine z_V5 (pc := 16) dX9_tellsCask_16 mlX9_187 kX9_tells vX9_tells (by decide) (by decide) (by first | rfl | assumption) (Nat.le_of_ble_eq_true rfl) (qX9_tells K hK hK2 n T A B ht w hw sm hm hs) ⟨Nat.le_refl _, Nat.le_refl _⟩ (fun r h1 hq => ?_)
  obtain ⟨rfl, I2, rfl, hO⟩ := hq
  refine z_ret (pc := 19) (r := none) rfl dX9_tellsCask_19 trivial rfl rfl ?_
  exact ⟨rfl, I2, rfl, hO⟩
