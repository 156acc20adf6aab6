set_option maxRecDepth 100000 in
set_option maxHeartbeats 4000000 in
theorem qX9_removes {l : zL} {I : Nat → Nat → Int32} {J : Nat → Nat → Int64} {nw : Bool} (K : Nat) (hK : SH[K]? = some (10, 66)) {x : Int32} (i : Nat) (hx : x = nI i) (hi : i < 4) : zP l mX9_removes [.ref K, .int x] (hh I J nw) (zR none (zup (zup (zup (zup I K (44 + i) 0) K (48 + i) 0) K (52 + i) 0) K (56 + i) 0, J, RF nw, SH)) := by
  refine z_start [.ref K, .int x] (by decide +kernel) (Nat.le_of_ble_eq_true rfl) rfl ?_
  refine z_aload_0 (pc := 0) dX9_removes_0 ?_
  refine z_bipush (pc := 1) (44) dX9_removes_1 rfl ?_
  refine z_iload_1 (pc := 3) dX9_removes_3 ?_
  refine z_iadd (pc := 4) dX9_removes_4 ?_
  refine z_iconst (pc := 5) (0) dX9_removes_5 rfl ?_
  refine y_iastN (pc := 6) (44 + i) dX9_removes_6 (by first | rfl | assumption) (by rw [hx]; exact nI_add 44 i) (by omega) (by first | decide | omega) ?_
  refine z_aload_0 (pc := 7) dX9_removes_7 ?_
  refine z_bipush (pc := 8) (48) dX9_removes_8 rfl ?_
  refine z_iload_1 (pc := 10) dX9_removes_10 ?_
  refine z_iadd (pc := 11) dX9_removes_11 ?_
  refine z_iconst (pc := 12) (0) dX9_removes_12 rfl ?_
  refine y_iastN (pc := 13) (48 + i) dX9_removes_13 (by first | rfl | assumption) (by rw [hx]; exact nI_add 48 i) (by omega) (by first | decide | omega) ?_
  refine z_aload_0 (pc := 14) dX9_removes_14 ?_
  refine z_bipush (pc := 15) (52) dX9_removes_15 rfl ?_
  refine z_iload_1 (pc := 17) dX9_removes_17 ?_
  refine z_iadd (pc := 18) dX9_removes_18 ?_
  refine z_iconst (pc := 19) (0) dX9_removes_19 rfl ?_
  refine y_iastN (pc := 20) (52 + i) dX9_removes_20 (by first | rfl | assumption) (by rw [hx]; exact nI_add 52 i) (by omega) (by first | decide | omega) ?_
  refine z_aload_0 (pc := 21) dX9_removes_21 ?_
  refine z_bipush (pc := 22) (56) dX9_removes_22 rfl ?_
  refine z_iload_1 (pc := 24) dX9_removes_24 ?_
  refine z_iadd (pc := 25) dX9_removes_25 ?_
  refine z_iconst (pc := 26) (0) dX9_removes_26 rfl ?_
  refine y_iastN (pc := 27) (56 + i) dX9_removes_27 (by first | rfl | assumption) (by rw [hx]; exact nI_add 56 i) (by omega) (by first | decide | omega) ?_
  refine z_ret (pc := 28) (r := none) rfl dX9_removes_28 trivial rfl rfl ?_
  exact ⟨rfl, rfl⟩
def zBl (I : Nat → Nat → Int32) (K i j : Nat) : Nat → Nat → Int32 := zup (zup (zup (zup (zup I K (52 + j) (if I K (52 + i) + I K (52 + j) ≤ 20 then I K (52 + i) + I K (52 + j) else 20)) K (44 + i) 0) K (48 + i) 0) K (52 + i) 0) K (56 + i) 0
def zDg (I : Nat → Nat → Int32) (K : Nat) : Nat → Nat → Int32 := fun a b => if a = K then (if 56 ≤ b ∧ b < 60 then I K b + I K (b - 12) else if b = 5 then I K 5 + 1 else I K b) else I a b
set_option maxRecDepth 100000 in
set_option maxHeartbeats 4000000 in
theorem qX9_blends {l : zL} {I : Nat → Nat → Int32} {J : Nat → Nat → Int64} {nw : Bool} (K : Nat) (hK : SH[K]? = some (10, 66)) {x : Int32} (i : Nat) (hx : x = nI i) (hi : i < 4) {y : Int32} (j : Nat) (hy : y = nI j) (hj : j < 4) : zP l mX9_blends [.ref K, .int x, .int y] (hh I J nw) (zR none (zBl I K i j, J, RF nw, SH)) := by
  refine z_start [.ref K, .int x, .int y, zno] (by decide +kernel) (Nat.le_of_ble_eq_true rfl) rfl ?_
  refine z_aload_0 (pc := 0) dX9_blends_0 ?_
  refine z_bipush (pc := 1) (52) dX9_blends_1 rfl ?_
  refine z_iload_1 (pc := 3) dX9_blends_3 ?_
  refine z_iadd (pc := 4) dX9_blends_4 ?_
  refine y_ialdN (pc := 5) (52 + i) dX9_blends_5 (by first | rfl | assumption) (by rw [hx]; exact nI_add 52 i) (by omega) (by first | decide | omega) ?_
  refine z_aload_0 (pc := 6) dX9_blends_6 ?_
  refine z_bipush (pc := 7) (52) dX9_blends_7 rfl ?_
  refine z_iload_2 (pc := 9) dX9_blends_9 ?_
  refine z_iadd (pc := 10) dX9_blends_10 ?_
  refine y_ialdN (pc := 11) (52 + j) dX9_blends_11 (by first | rfl | assumption) (by rw [hy]; exact nI_add 52 j) (by omega) (by first | decide | omega) ?_
  refine z_iadd (pc := 12) dX9_blends_12 ?_
  refine z_istore_3 (pc := 13) dX9_blends_13 (by decide) rfl ?_
  refine z_aload_0 (pc := 14) dX9_blends_14 ?_
  refine z_bipush (pc := 15) (52) dX9_blends_15 rfl ?_
  refine z_iload_2 (pc := 17) dX9_blends_17 ?_
  refine z_iadd (pc := 18) dX9_blends_18 ?_
  refine z_iload_3 (pc := 19) dX9_blends_19 ?_
  refine z_bipush (pc := 20) (20) dX9_blends_20 rfl ?_
  refine z_icmp_le (pc := 22) (tgt := 30) dX9_blends_22 (by decide) (fun c22 => ?_) (fun c22 => ?_)
  · skip
    refine z_iload_3 (pc := 30) dX9_blends_30 ?_
    refine y_iastN (pc := 31) (52 + j) dX9_blends_31 (by first | rfl | assumption) (by rw [hy]; exact nI_add 52 j) (by omega) (by first | decide | omega) ?_
    refine z_aload_0 (pc := 32) dX9_blends_32 ?_
    refine z_iload_1 (pc := 33) dX9_blends_33 ?_
    refine z_S2 (pc := 34) dX9_blends_34 mlX9_194 kX9_removes vX9_removes (by decide) (by decide) (Nat.le_of_ble_eq_true rfl) (qX9_removes K hK i hx hi) ⟨Nat.le_refl _, Nat.le_refl _⟩ (fun r h1 hq => ?_)
    obtain ⟨rfl, rfl⟩ := hq
    refine z_ret (pc := 37) (r := none) rfl dX9_blends_37 trivial rfl rfl ?_
    exact ⟨rfl, by unfold zBl; first | rw [if_pos c22] | rw [if_neg c22]⟩
  · skip
    refine z_bipush (pc := 25) (20) dX9_blends_25 rfl ?_
    refine z_goto (pc := 27) (tgt := 31) dX9_blends_27 (by decide) ?_
    refine y_iastN (pc := 31) (52 + j) dX9_blends_31 (by first | rfl | assumption) (by rw [hy]; exact nI_add 52 j) (by omega) (by first | decide | omega) ?_
    refine z_aload_0 (pc := 32) dX9_blends_32 ?_
    refine z_iload_1 (pc := 33) dX9_blends_33 ?_
    refine z_S2 (pc := 34) dX9_blends_34 mlX9_194 kX9_removes vX9_removes (by decide) (by decide) (Nat.le_of_ble_eq_true rfl) (qX9_removes K hK i hx hi) ⟨Nat.le_refl _, Nat.le_refl _⟩ (fun r h1 hq => ?_)
    obtain ⟨rfl, rfl⟩ := hq
    refine z_ret (pc := 37) (r := none) rfl dX9_blends_37 trivial rfl rfl ?_
    exact ⟨rfl, by unfold zBl; first | rw [if_pos c22] | rw [if_neg c22]⟩
set_option maxRecDepth 100000 in
set_option maxHeartbeats 4000000 in
theorem qX9_dayGoes {l : zL} {I : Nat → Nat → Int32} {J : Nat → Nat → Int64} {nw : Bool} (K : Nat) (hK : SH[K]? = some (10, 66)) : zP l mX9_dayGoes [.ref K] (hh I J nw) (zR none (zDg I K, J, RF nw, SH)) := by
  refine z_start [.ref K, zno] (by decide +kernel) (Nat.le_of_ble_eq_true rfl) rfl ?_
  refine z_iconst (pc := 0) (0) dX9_dayGoes_0 rfl ?_
  refine z_istore_1 (pc := 1) dX9_dayGoes_1 (by decide) rfl ?_
  refine z_iload_1 (pc := 2) dX9_dayGoes_2 ?_
  refine z_iconst (pc := 3) (4) dX9_dayGoes_3 rfl ?_
  refine z_icmp_ge (pc := 4) (tgt := 28) dX9_dayGoes_4 (by decide) (fun c4 => ?_) (fun c4 => ?_)
  · exact absurd c4 (by decide)
  · skip
    refine z_aload_0 (pc := 7) dX9_dayGoes_7 ?_
    refine z_bipush (pc := 8) (56) dX9_dayGoes_8 rfl ?_
    refine z_iload_1 (pc := 10) dX9_dayGoes_10 ?_
    refine z_iadd (pc := 11) dX9_dayGoes_11 ?_
    refine z_dup2 (pc := 12) rfl rfl dX9_dayGoes_12 ?_
    refine y_ialdN (pc := 13) (56) dX9_dayGoes_13 (by first | rfl | assumption) (rfl) (by decide) (by first | decide | omega) ?_
    refine z_aload_0 (pc := 14) dX9_dayGoes_14 ?_
    refine z_bipush (pc := 15) (44) dX9_dayGoes_15 rfl ?_
    refine z_iload_1 (pc := 17) dX9_dayGoes_17 ?_
    refine z_iadd (pc := 18) dX9_dayGoes_18 ?_
    refine y_ialdN (pc := 19) (44) dX9_dayGoes_19 (by first | rfl | assumption) (rfl) (by decide) (by first | decide | omega) ?_
    refine z_iadd (pc := 20) dX9_dayGoes_20 ?_
    refine y_iastN (pc := 21) (56) dX9_dayGoes_21 (by first | rfl | assumption) (rfl) (by decide) (by first | decide | omega) ?_
    refine z_iinc_1 (pc := 22) (1) dX9_dayGoes_22 rfl (by decide) rfl ?_
    refine z_goto (pc := 25) (tgt := 2) dX9_dayGoes_25 (by decide) ?_
    refine z_iload_1 (pc := 2) dX9_dayGoes_2 ?_
    refine z_iconst (pc := 3) (4) dX9_dayGoes_3 rfl ?_
    refine z_icmp_ge (pc := 4) (tgt := 28) dX9_dayGoes_4 (by decide) (fun c4_2 => ?_) (fun c4_2 => ?_)
    · exact absurd c4_2 (by decide)
    · skip
      refine z_aload_0 (pc := 7) dX9_dayGoes_7 ?_
      refine z_bipush (pc := 8) (56) dX9_dayGoes_8 rfl ?_
      refine z_iload_1 (pc := 10) dX9_dayGoes_10 ?_
      refine z_iadd (pc := 11) dX9_dayGoes_11 ?_
      refine z_dup2 (pc := 12) rfl rfl dX9_dayGoes_12 ?_
      refine y_ialdN (pc := 13) (57) dX9_dayGoes_13 (by first | rfl | assumption) (rfl) (by decide) (by first | decide | omega) ?_
      refine z_aload_0 (pc := 14) dX9_dayGoes_14 ?_
      refine z_bipush (pc := 15) (44) dX9_dayGoes_15 rfl ?_
      refine z_iload_1 (pc := 17) dX9_dayGoes_17 ?_
      refine z_iadd (pc := 18) dX9_dayGoes_18 ?_
      refine y_ialdN (pc := 19) (45) dX9_dayGoes_19 (by first | rfl | assumption) (rfl) (by decide) (by first | decide | omega) ?_
      refine z_iadd (pc := 20) dX9_dayGoes_20 ?_
      refine y_iastN (pc := 21) (57) dX9_dayGoes_21 (by first | rfl | assumption) (rfl) (by decide) (by first | decide | omega) ?_
      refine z_iinc_1 (pc := 22) (1) dX9_dayGoes_22 rfl (by decide) rfl ?_
      refine z_goto (pc := 25) (tgt := 2) dX9_dayGoes_25 (by decide) ?_
      refine z_iload_1 (pc := 2) dX9_dayGoes_2 ?_
      refine z_iconst (pc := 3) (4) dX9_dayGoes_3 rfl ?_
      refine z_icmp_ge (pc := 4) (tgt := 28) dX9_dayGoes_4 (by decide) (fun c4_3 => ?_) (fun c4_3 => ?_)
      · exact absurd c4_3 (by decide)
      · skip
        refine z_aload_0 (pc := 7) dX9_dayGoes_7 ?_
        refine z_bipush (pc := 8) (56) dX9_dayGoes_8 rfl ?_
        refine z_iload_1 (pc := 10) dX9_dayGoes_10 ?_
        refine z_iadd (pc := 11) dX9_dayGoes_11 ?_
        refine z_dup2 (pc := 12) rfl rfl dX9_dayGoes_12 ?_
        refine y_ialdN (pc := 13) (58) dX9_dayGoes_13 (by first | rfl | assumption) (rfl) (by decide) (by first | decide | omega) ?_
        refine z_aload_0 (pc := 14) dX9_dayGoes_14 ?_
        refine z_bipush (pc := 15) (44) dX9_dayGoes_15 rfl ?_
        refine z_iload_1 (pc := 17) dX9_dayGoes_17 ?_
        refine z_iadd (pc := 18) dX9_dayGoes_18 ?_
        refine y_ialdN (pc := 19) (46) dX9_dayGoes_19 (by first | rfl | assumption) (rfl) (by decide) (by first | decide | omega) ?_
        refine z_iadd (pc := 20) dX9_dayGoes_20 ?_
        refine y_iastN (pc := 21) (58) dX9_dayGoes_21 (by first | rfl | assumption) (rfl) (by decide) (by first | decide | omega) ?_
        refine z_iinc_1 (pc := 22) (1) dX9_dayGoes_22 rfl (by decide) rfl ?_
        refine z_goto (pc := 25) (tgt := 2) dX9_dayGoes_25 (by decide) ?_
        refine z_iload_1 (pc := 2) dX9_dayGoes_2 ?_
        refine z_iconst (pc := 3) (4) dX9_dayGoes_3 rfl ?_
        refine z_icmp_ge (pc := 4) (tgt := 28) dX9_dayGoes_4 (by decide) (fun c4_4 => ?_) (fun c4_4 => ?_)
        · exact absurd c4_4 (by decide)
        · skip
          refine z_aload_0 (pc := 7) dX9_dayGoes_7 ?_
          refine z_bipush (pc := 8) (56) dX9_dayGoes_8 rfl ?_
          refine z_iload_1 (pc := 10) dX9_dayGoes_10 ?_
          refine z_iadd (pc := 11) dX9_dayGoes_11 ?_
          refine z_dup2 (pc := 12) rfl rfl dX9_dayGoes_12 ?_
          refine y_ialdN (pc := 13) (59) dX9_dayGoes_13 (by first | rfl | assumption) (rfl) (by decide) (by first | decide | omega) ?_
          refine z_aload_0 (pc := 14) dX9_dayGoes_14 ?_
          refine z_bipush (pc := 15) (44) dX9_dayGoes_15 rfl ?_
          refine z_iload_1 (pc := 17) dX9_dayGoes_17 ?_
          refine z_iadd (pc := 18) dX9_dayGoes_18 ?_
          refine y_ialdN (pc := 19) (47) dX9_dayGoes_19 (by first | rfl | assumption) (rfl) (by decide) (by first | decide | omega) ?_
          refine z_iadd (pc := 20) dX9_dayGoes_20 ?_
          refine y_iastN (pc := 21) (59) dX9_dayGoes_21 (by first | rfl | assumption) (rfl) (by decide) (by first | decide | omega) ?_
          refine z_iinc_1 (pc := 22) (1) dX9_dayGoes_22 rfl (by decide) rfl ?_
          refine z_goto (pc := 25) (tgt := 2) dX9_dayGoes_25 (by decide) ?_
          refine z_iload_1 (pc := 2) dX9_dayGoes_2 ?_
          refine z_iconst (pc := 3) (4) dX9_dayGoes_3 rfl ?_
          refine z_icmp_ge (pc := 4) (tgt := 28) dX9_dayGoes_4 (by decide) (fun c4_5 => ?_) (fun c4_5 => ?_)
          · skip
            refine z_aload_0 (pc := 28) dX9_dayGoes_28 ?_
            refine z_iconst (pc := 29) (5) dX9_dayGoes_29 rfl ?_
            refine z_dup2 (pc := 30) rfl rfl dX9_dayGoes_30 ?_
            refine y_ialdN (pc := 31) (5) dX9_dayGoes_31 (by first | rfl | assumption) (rfl) (by decide) (by first | decide | omega) ?_
            refine z_iconst (pc := 32) (1) dX9_dayGoes_32 rfl ?_
            refine z_iadd (pc := 33) dX9_dayGoes_33 ?_
            refine y_iastN (pc := 34) (5) dX9_dayGoes_34 (by first | rfl | assumption) (rfl) (by decide) (by first | decide | omega) ?_
            refine z_ret (pc := 35) (r := none) rfl dX9_dayGoes_35 trivial rfl rfl ?_
            refine ⟨rfl, ?_⟩
            congr 1
            funext a b
            unfold zDg zup
            by_cases ha : a = K
            · subst ha
              by_cases h0 : b = 56
              · subst h0; simp
              · by_cases h1 : b = 57
                · subst h1; simp
                · by_cases h2 : b = 58
                  · subst h2; simp
                  · by_cases h3 : b = 59
                    · subst h3; simp
                    · have : ¬ (56 ≤ b ∧ b < 60) := by omega
                      simp [this, h0, h1, h2, h3]
            · simp [ha]
          · exact absurd (by decide) c4_5
set_option maxRecDepth 100000 in
set_option maxHeartbeats 4000000 in
theorem qX9_notesOf {l : zL} {I : Nat → Nat → Int32} {J : Nat → Nat → Int64} {nw : Bool} (K : Nat) (hK : SH[K]? = some (10, 66)) (z : Nat → Nat) (hz : ∀ k, k < 6 → z k < 1024 ∧ I K (60 + k) = nI (z k)) : zP l mX9_notesOf [.ref K] (hh I J nw) (zR (some (.int (0 + zbc (I K 60) + zbc (I K 61) + zbc (I K 62) + zbc (I K 63) + zbc (I K 64) + zbc (I K 65)))) (hh I J nw)) := by
  refine z_start [.ref K, zno, zno] (by decide +kernel) (Nat.le_of_ble_eq_true rfl) rfl ?_
  refine z_iconst (pc := 0) (0) dX9_notesOf_0 rfl ?_
  refine z_istore_1 (pc := 1) dX9_notesOf_1 (by decide) rfl ?_
  refine z_iconst (pc := 2) (0) dX9_notesOf_2 rfl ?_
  refine z_istore_2 (pc := 3) dX9_notesOf_3 (by decide) rfl ?_
  refine z_iload_2 (pc := 4) dX9_notesOf_4 ?_
  refine z_bipush (pc := 5) (6) dX9_notesOf_5 rfl ?_
  refine z_icmp_ge (pc := 7) (tgt := 28) dX9_notesOf_7 (by decide) (fun c7 => ?_) (fun c7 => ?_)
  · exact absurd c7 (by decide)
  · skip
    refine z_iload_1 (pc := 10) dX9_notesOf_10 ?_
    refine z_aload_0 (pc := 11) dX9_notesOf_11 ?_
    refine z_bipush (pc := 12) (60) dX9_notesOf_12 rfl ?_
    refine z_iload_2 (pc := 14) dX9_notesOf_14 ?_
    refine z_iadd (pc := 15) dX9_notesOf_15 ?_
    refine y_ialdN (pc := 16) (60) dX9_notesOf_16 (by first | rfl | assumption) (rfl) (by decide) (by first | decide | omega) ?_
    refine z_S1 (pc := 17) dX9_notesOf_17 mlX9_239 kX9_bits vX9_bits (by decide) (by decide) (Nat.le_of_ble_eq_true rfl) (qX9_bits (z 0) (hz 0 (by decide)).1 (hz 0 (by decide)).2) ⟨Nat.le_refl _, Nat.le_refl _⟩ (fun r h1 hq => ?_)
    obtain ⟨rfl, rfl⟩ := hq
    refine z_iadd (pc := 20) dX9_notesOf_20 ?_
    refine z_istore_1 (pc := 21) dX9_notesOf_21 (by decide) rfl ?_
    refine z_iinc_2 (pc := 22) (1) dX9_notesOf_22 rfl (by decide) rfl ?_
    refine z_goto (pc := 25) (tgt := 4) dX9_notesOf_25 (by decide) ?_
    refine z_iload_2 (pc := 4) dX9_notesOf_4 ?_
    refine z_bipush (pc := 5) (6) dX9_notesOf_5 rfl ?_
    refine z_icmp_ge (pc := 7) (tgt := 28) dX9_notesOf_7 (by decide) (fun c7_2 => ?_) (fun c7_2 => ?_)
    · exact absurd c7_2 (by decide)
    · skip
      refine z_iload_1 (pc := 10) dX9_notesOf_10 ?_
      refine z_aload_0 (pc := 11) dX9_notesOf_11 ?_
      refine z_bipush (pc := 12) (60) dX9_notesOf_12 rfl ?_
      refine z_iload_2 (pc := 14) dX9_notesOf_14 ?_
      refine z_iadd (pc := 15) dX9_notesOf_15 ?_
      refine y_ialdN (pc := 16) (61) dX9_notesOf_16 (by first | rfl | assumption) (rfl) (by decide) (by first | decide | omega) ?_
      refine z_S1 (pc := 17) dX9_notesOf_17 mlX9_239 kX9_bits vX9_bits (by decide) (by decide) (Nat.le_of_ble_eq_true rfl) (qX9_bits (z 1) (hz 1 (by decide)).1 (hz 1 (by decide)).2) ⟨Nat.le_refl _, Nat.le_refl _⟩ (fun r h1 hq => ?_)
      obtain ⟨rfl, rfl⟩ := hq
      refine z_iadd (pc := 20) dX9_notesOf_20 ?_
      refine z_istore_1 (pc := 21) dX9_notesOf_21 (by decide) rfl ?_
      refine z_iinc_2 (pc := 22) (1) dX9_notesOf_22 rfl (by decide) rfl ?_
      refine z_goto (pc := 25) (tgt := 4) dX9_notesOf_25 (by decide) ?_
      refine z_iload_2 (pc := 4) dX9_notesOf_4 ?_
      refine z_bipush (pc := 5) (6) dX9_notesOf_5 rfl ?_
      refine z_icmp_ge (pc := 7) (tgt := 28) dX9_notesOf_7 (by decide) (fun c7_3 => ?_) (fun c7_3 => ?_)
      · exact absurd c7_3 (by decide)
      · skip
        refine z_iload_1 (pc := 10) dX9_notesOf_10 ?_
        refine z_aload_0 (pc := 11) dX9_notesOf_11 ?_
        refine z_bipush (pc := 12) (60) dX9_notesOf_12 rfl ?_
        refine z_iload_2 (pc := 14) dX9_notesOf_14 ?_
        refine z_iadd (pc := 15) dX9_notesOf_15 ?_
        refine y_ialdN (pc := 16) (62) dX9_notesOf_16 (by first | rfl | assumption) (rfl) (by decide) (by first | decide | omega) ?_
        refine z_S1 (pc := 17) dX9_notesOf_17 mlX9_239 kX9_bits vX9_bits (by decide) (by decide) (Nat.le_of_ble_eq_true rfl) (qX9_bits (z 2) (hz 2 (by decide)).1 (hz 2 (by decide)).2) ⟨Nat.le_refl _, Nat.le_refl _⟩ (fun r h1 hq => ?_)
        obtain ⟨rfl, rfl⟩ := hq
        refine z_iadd (pc := 20) dX9_notesOf_20 ?_
        refine z_istore_1 (pc := 21) dX9_notesOf_21 (by decide) rfl ?_
        refine z_iinc_2 (pc := 22) (1) dX9_notesOf_22 rfl (by decide) rfl ?_
        refine z_goto (pc := 25) (tgt := 4) dX9_notesOf_25 (by decide) ?_
        refine z_iload_2 (pc := 4) dX9_notesOf_4 ?_
        refine z_bipush (pc := 5) (6) dX9_notesOf_5 rfl ?_
        refine z_icmp_ge (pc := 7) (tgt := 28) dX9_notesOf_7 (by decide) (fun c7_4 => ?_) (fun c7_4 => ?_)
        · exact absurd c7_4 (by decide)
        · skip
          refine z_iload_1 (pc := 10) dX9_notesOf_10 ?_
          refine z_aload_0 (pc := 11) dX9_notesOf_11 ?_
          refine z_bipush (pc := 12) (60) dX9_notesOf_12 rfl ?_
          refine z_iload_2 (pc := 14) dX9_notesOf_14 ?_
          refine z_iadd (pc := 15) dX9_notesOf_15 ?_
          refine y_ialdN (pc := 16) (63) dX9_notesOf_16 (by first | rfl | assumption) (rfl) (by decide) (by first | decide | omega) ?_
          refine z_S1 (pc := 17) dX9_notesOf_17 mlX9_239 kX9_bits vX9_bits (by decide) (by decide) (Nat.le_of_ble_eq_true rfl) (qX9_bits (z 3) (hz 3 (by decide)).1 (hz 3 (by decide)).2) ⟨Nat.le_refl _, Nat.le_refl _⟩ (fun r h1 hq => ?_)
          obtain ⟨rfl, rfl⟩ := hq
          refine z_iadd (pc := 20) dX9_notesOf_20 ?_
          refine z_istore_1 (pc := 21) dX9_notesOf_21 (by decide) rfl ?_
          refine z_iinc_2 (pc := 22) (1) dX9_notesOf_22 rfl (by decide) rfl ?_
          refine z_goto (pc := 25) (tgt := 4) dX9_notesOf_25 (by decide) ?_
          refine z_iload_2 (pc := 4) dX9_notesOf_4 ?_
          refine z_bipush (pc := 5) (6) dX9_notesOf_5 rfl ?_
          refine z_icmp_ge (pc := 7) (tgt := 28) dX9_notesOf_7 (by decide) (fun c7_5 => ?_) (fun c7_5 => ?_)
          · exact absurd c7_5 (by decide)
          · skip
            refine z_iload_1 (pc := 10) dX9_notesOf_10 ?_
            refine z_aload_0 (pc := 11) dX9_notesOf_11 ?_
            refine z_bipush (pc := 12) (60) dX9_notesOf_12 rfl ?_
            refine z_iload_2 (pc := 14) dX9_notesOf_14 ?_
            refine z_iadd (pc := 15) dX9_notesOf_15 ?_
            refine y_ialdN (pc := 16) (64) dX9_notesOf_16 (by first | rfl | assumption) (rfl) (by decide) (by first | decide | omega) ?_
            refine z_S1 (pc := 17) dX9_notesOf_17 mlX9_239 kX9_bits vX9_bits (by decide) (by decide) (Nat.le_of_ble_eq_true rfl) (qX9_bits (z 4) (hz 4 (by decide)).1 (hz 4 (by decide)).2) ⟨Nat.le_refl _, Nat.le_refl _⟩ (fun r h1 hq => ?_)
            obtain ⟨rfl, rfl⟩ := hq
            refine z_iadd (pc := 20) dX9_notesOf_20 ?_
            refine z_istore_1 (pc := 21) dX9_notesOf_21 (by decide) rfl ?_
            refine z_iinc_2 (pc := 22) (1) dX9_notesOf_22 rfl (by decide) rfl ?_
            refine z_goto (pc := 25) (tgt := 4) dX9_notesOf_25 (by decide) ?_
            refine z_iload_2 (pc := 4) dX9_notesOf_4 ?_
            refine z_bipush (pc := 5) (6) dX9_notesOf_5 rfl ?_
            refine z_icmp_ge (pc := 7) (tgt := 28) dX9_notesOf_7 (by decide) (fun c7_6 => ?_) (fun c7_6 => ?_)
            · exact absurd c7_6 (by decide)
            · skip
              refine z_iload_1 (pc := 10) dX9_notesOf_10 ?_
              refine z_aload_0 (pc := 11) dX9_notesOf_11 ?_
              refine z_bipush (pc := 12) (60) dX9_notesOf_12 rfl ?_
              refine z_iload_2 (pc := 14) dX9_notesOf_14 ?_
              refine z_iadd (pc := 15) dX9_notesOf_15 ?_
              refine y_ialdN (pc := 16) (65) dX9_notesOf_16 (by first | rfl | assumption) (rfl) (by decide) (by first | decide | omega) ?_
              refine z_S1 (pc := 17) dX9_notesOf_17 mlX9_239 kX9_bits vX9_bits (by decide) (by decide) (Nat.le_of_ble_eq_true rfl) (qX9_bits (z 5) (hz 5 (by decide)).1 (hz 5 (by decide)).2) ⟨Nat.le_refl _, Nat.le_refl _⟩ (fun r h1 hq => ?_)
              obtain ⟨rfl, rfl⟩ := hq
              refine z_iadd (pc := 20) dX9_notesOf_20 ?_
              refine z_istore_1 (pc := 21) dX9_notesOf_21 (by decide) rfl ?_
              refine z_iinc_2 (pc := 22) (1) dX9_notesOf_22 rfl (by decide) rfl ?_
              refine z_goto (pc := 25) (tgt := 4) dX9_notesOf_25 (by decide) ?_
              refine z_iload_2 (pc := 4) dX9_notesOf_4 ?_
              refine z_bipush (pc := 5) (6) dX9_notesOf_5 rfl ?_
              refine z_icmp_ge (pc := 7) (tgt := 28) dX9_notesOf_7 (by decide) (fun c7_7 => ?_) (fun c7_7 => ?_)
              · skip
                refine z_iload_1 (pc := 28) dX9_notesOf_28 ?_
                refine z_ret (pc := 29) (r := some (.int _)) rfl dX9_notesOf_29 trivial rfl rfl ?_
                exact ⟨rfl, rfl⟩
              · exact absurd (by decide) c7_7
set_option maxRecDepth 100000 in
set_option maxHeartbeats 4000000 in
theorem qX9_tellsCask {l : zL} {I : Nat → Nat → Int32} {J : Nat → Nat → Int64} {nw : Bool} (K : Nat) (hK : SH[K]? = some (10, 66)) (hK2 : K ≠ 85 ∧ K ≠ 96 ∧ K ≠ 97 ∧ K ≠ 98) (n T : Nat) (A B : Nat → Nat) (ht : zRT I K n T A B) {m : Int32} {x : Int32} (w : Nat → Bool) (hw : ∀ k, k < 10 → ((x >>> (nI k &&& 31)) &&& 1 = 1 ↔ w k = true)) (sm : Nat → Bool) (hm : ∀ k, k < 6 → ((m >>> (nI k &&& 31)) &&& 1 = 1 ↔ sm k = true)) {y : Int32} (i : Nat) (hy : y = nI i) (hi : i < 4) (hs : -1000 < (zst (I K 0) (I K 1) (I K (52 + i)) (I K (56 + i)))) : zP l mX9_tellsCask [.ref 85, .ref K, .int y, .int m, .int x] (hh I J nw) (zTQ I J nw (zgo (zmT I K n T A B w (I K (48 + i))) sm (zst (I K 0) (I K 1) (I K (52 + i)) (I K (56 + i))))) := by
  refine z_start [.ref 85, .ref K, .int y, .int m, .int x] (by decide +kernel) (Nat.le_of_ble_eq_true rfl) rfl ?_
  refine z_aload_0 (pc := 0) dX9_tellsCask_0 ?_
  refine z_aload_1 (pc := 1) dX9_tellsCask_1 ?_
  refine z_aload_1 (pc := 2) dX9_tellsCask_2 ?_
  refine z_bipush (pc := 3) (48) dX9_tellsCask_3 rfl ?_
  refine z_iload_2 (pc := 5) dX9_tellsCask_5 ?_
  refine z_iadd (pc := 6) dX9_tellsCask_6 ?_
  refine y_ialdN (pc := 7) (48 + i) dX9_tellsCask_7 (by first | rfl | assumption) (by rw [hy]; exact nI_add 48 i) (by omega) (by first | decide | omega) ?_
  refine z_aload_1 (pc := 8) dX9_tellsCask_8 ?_
  refine z_iload_2 (pc := 9) dX9_tellsCask_9 ?_
  refine z_S2 (pc := 10) dX9_tellsCask_10 mlX9_183 kX9_strongOf vX9_strongOf (by decide) (by decide) (Nat.le_of_ble_eq_true rfl) (qX9_strongOf K hK i hy hi) ⟨Nat.le_refl _, Nat.le_refl _⟩ (fun r h1 hq => ?_)
  obtain ⟨rfl, rfl⟩ := hq
  refine z_iload_3 (pc := 13) dX9_tellsCask_13 ?_
  refine z_iload_4 (pc := 14) dX9_tellsCask_14 ?_
  refine z_V5 (pc := 16) dX9_tellsCask_16 mlX9_187 kX9_tells vX9_tells (by decide) (by decide) (by first | rfl | assumption) (Nat.le_of_ble_eq_true rfl) (qX9_tells K hK hK2 n T A B ht w hw sm hm hs) ⟨Nat.le_refl _, Nat.le_refl _⟩ (fun r h1 hq => ?_)
  obtain ⟨rfl, I2, rfl, hO⟩ := hq
  refine z_ret (pc := 19) (r := none) rfl dX9_tellsCask_19 trivial rfl rfl ?_
  exact ⟨rfl, I2, rfl, hO⟩
set_option maxRecDepth 100000 in
set_option maxHeartbeats 4000000 in
theorem reached_loop {l : zL} {I : Nat → Nat → Int32} {J : Nat → Nat → Int64} {nw : Bool} : ∀ (f k : Nat), k ≤ 6 → 6 - k < f →
    zW l mX9_reached SH.length (zsl SH) 4 [.ref 85, .int (nI (bs (fun e => decide (e < k) && zrc (I 98) e))), .int (nI k)] [] (hh I J nw) (zR (some (.int (nI (bs (zrc (I 98)))))) (hh I J nw))
  | 0, k, _, hf => by omega
  | f + 1, k, hk, hf => by
    refine z_iload_2 (pc := 4) dX9_reached_4 ?_
    refine z_bipush (pc := 5) (6) dX9_reached_5 rfl ?_
    refine z_icmp_ge (pc := 7) (tgt := 35) dX9_reached_7 (by decide) (fun c7 => ?_) (fun c7 => ?_)
    · skip
      refine z_iload_1 (pc := 35) dX9_reached_35 ?_
      refine z_ret (pc := 36) (r := some (.int _)) rfl dX9_reached_36 trivial rfl rfl ?_
      have hk6 : k = 6 := by
        rcases Nat.lt_or_ge k 6 with q | q
        · exact absurd c7 (nI_ge (b := 6) q (by omega))
        · omega
      subst hk6
      exact ⟨by rw [bs_congr (g := zrc (I 98)) (fun e he => by simp [he])], rfl⟩
    · skip
      have hlt : k < 6 := by
        rcases Nat.lt_or_ge k 6 with q | q
        · exact q
        · exact absurd (nI_le (a := 6) q (by omega)) c7
      refine z_iload_1 (pc := 10) dX9_reached_10 ?_
      refine z_aload_0 (pc := 11) dX9_reached_11 ?_
      refine y_getR (pc := 12) dX9_reached_12 flX9_47 rfl (by first | rfl | assumption) (by first | rfl | assumption) ?_
      refine z_iload_2 (pc := 15) dX9_reached_15 ?_
      refine y_ialdN (pc := 16) (k) dX9_reached_16 (by first | rfl | assumption) (rfl) (by omega) (by first | decide | omega) ?_
      refine z_if_ge (pc := 17) (tgt := 24) dX9_reached_17 (by decide) (fun c17 => ?_) (fun c17 => ?_)
      · skip
        refine z_iconst (pc := 24) (1) dX9_reached_24 rfl ?_
        refine z_iload_2 (pc := 25) dX9_reached_25 ?_
        refine z_ishl (pc := 26) dX9_reached_26 ?_
        refine z_ior (pc := 27) dX9_reached_27 ?_
        refine z_istore_1 (pc := 28) dX9_reached_28 (by decide) rfl ?_
        refine z_iinc_2 (pc := 29) (1) dX9_reached_29 rfl (by decide) rfl ?_
        refine z_goto (pc := 32) (tgt := 4) dX9_reached_32 (by decide) ?_
        have e1 : ∀ e, e < 6 → (decide (e < k + 1) && zrc (I 98) e) = ((decide (e < k) && zrc (I 98) e) || e == k) := fun e he => by
          by_cases hb : e = k
          · subst hb; unfold zrc; simp [c17]
          · have : e < k + 1 ↔ e < k := by omega
            simp [this, hb]
        rw [bs_set _ k (by omega), ← bs_congr e1, ← nI_succ]
        exact reached_loop f (k + 1) (by omega) (by omega)
      · skip
        refine z_iconst (pc := 20) (0) dX9_reached_20 rfl ?_
        refine z_goto (pc := 21) (tgt := 27) dX9_reached_21 (by decide) ?_
        refine z_ior (pc := 27) dX9_reached_27 ?_
        refine z_istore_1 (pc := 28) dX9_reached_28 (by decide) rfl ?_
        refine z_iinc_2 (pc := 29) (1) dX9_reached_29 rfl (by decide) rfl ?_
        refine z_goto (pc := 32) (tgt := 4) dX9_reached_32 (by decide) ?_
        have e1 : ∀ e, e < 6 → (decide (e < k + 1) && zrc (I 98) e) = ((decide (e < k) && zrc (I 98) e) || false) := fun e he => by
          by_cases hb : e = k
          · subst hb; unfold zrc; simp [Int32.not_le.mp c17]
          · have : e < k + 1 ↔ e < k := by omega
            simp [this]
        rw [Int32.or_zero, ← nI_succ, bs_congr (g := fun e => decide (e < k + 1) && zrc (I 98) e) (fun e he => by rw [e1 e he, Bool.or_false])]
        exact reached_loop f (k + 1) (by omega) (by omega)
set_option maxRecDepth 100000 in
set_option maxHeartbeats 4000000 in
theorem qX9_reached {l : zL} {I : Nat → Nat → Int32} {J : Nat → Nat → Int64} {nw : Bool}  : zP l mX9_reached [.ref 85] (hh I J nw) (zR (some (.int (nI (bs (zrc (I 98)))))) (hh I J nw)) := by
  refine z_start [.ref 85, zno, zno] (by decide +kernel) (Nat.le_of_ble_eq_true rfl) rfl ?_
  refine z_iconst (pc := 0) (0) dX9_reached_0 rfl ?_
  refine z_istore_1 (pc := 1) dX9_reached_1 (by decide) rfl ?_
  refine z_iconst (pc := 2) (0) dX9_reached_2 rfl ?_
  refine z_istore_2 (pc := 3) dX9_reached_3 (by decide) rfl ?_
  have k := reached_loop (l := l) (I := I) (J := J) (nw := nw) 7 0 (by omega) (by omega)
  rw [bs_congr (g := fun _ => false) (fun e _ => by simp), show bs (fun _ => false) = 0 from rfl, nI_0] at k
  exact k
theorem one_bit : ∀ d, d < 6 → ∀ k, k < 6 → ((((1 : Int32) <<< (nI d &&& 31)) >>> (nI k &&& 31)) &&& 1 = 1 ↔ (k == d) = true) := by decide +kernel
theorem no_bit : ∀ k, k < 10 → (((0 : Int32) >>> (nI k &&& 31)) &&& 1 = 1 ↔ (fun _ => false) k = true) := by decide +kernel
set_option maxRecDepth 100000 in
set_option maxHeartbeats 4000000 in
theorem qX9_taps {l : zL} {I : Nat → Nat → Int32} {J : Nat → Nat → Int64} {nw : Bool} (K : Nat) (hK : SH[K]? = some (10, 66)) (hK2 : K ≠ 85 ∧ K ≠ 96 ∧ K ≠ 97 ∧ K ≠ 98) (n T : Nat) (A B : Nat → Nat) (ht : zRT I K n T A B) {y z : Int32} (i : Nat) (hy : y = nI i) (hi : i < 4) (hs : -1000 < (zst (I K 0) (I K 1) (I K (52 + i)) (I K (56 + i)))) (d : Nat) (hz : z = nI d) (hd : d < 6) (u : Nat) (hu : u < 6) (eu : I K (48 + i) = nI u) : zP l mX9_taps [.ref 85, .ref K, .int y, .int z] (hh I J nw) (fun r h1 => ∃ I2, r = some (.int (nI (bs (zgo (zmT I K n T A B (fun _ => false) (I K (48 + i))) (fun e => e == d) (zst (I K 0) (I K 1) (I K (52 + i)) (I K (56 + i)))).2))) ∧ zTO I I2 (zgo (zmT I K n T A B (fun _ => false) (I K (48 + i))) (fun e => e == d) (zst (I K 0) (I K 1) (I K (52 + i)) (I K (56 + i)))).1 (zgo (zmT I K n T A B (fun _ => false) (I K (48 + i))) (fun e => e == d) (zst (I K 0) (I K 1) (I K (52 + i)) (I K (56 + i)))).2 ∧ h1 = (zup (zup I2 K (60 + u) (I K (60 + u) ||| nI (bs (zgo (zmT I K n T A B (fun _ => false) (I K (48 + i))) (fun e => e == d) (zst (I K 0) (I K 1) (I K (52 + i)) (I K (56 + i)))).2))) K (52 + i) (I K (52 + i) - (if ¬ I K (52 + i) ≤ 0 then 1 else 0)), J, RF nw, SH)) := by
  refine z_start [.ref 85, .ref K, .int y, .int z] (by decide +kernel) (Nat.le_of_ble_eq_true rfl) rfl ?_
  refine z_aload_0 (pc := 0) dX9_taps_0 ?_
  refine z_aload_1 (pc := 1) dX9_taps_1 ?_
  refine z_iload_2 (pc := 2) dX9_taps_2 ?_
  refine z_iconst (pc := 3) (1) dX9_taps_3 rfl ?_
  refine z_iload_3 (pc := 4) dX9_taps_4 ?_
  refine z_ishl (pc := 5) dX9_taps_5 ?_
  refine z_iconst (pc := 6) (0) dX9_taps_6 rfl ?_
  refine z_V4 (pc := 7) dX9_taps_7 mlX9_191 kX9_tellsCask vX9_tellsCask (by decide) (by decide) (by first | rfl | assumption) (Nat.le_of_ble_eq_true rfl) (qX9_tellsCask K hK hK2 n T A B ht (fun _ => false) no_bit (fun e => e == d) (by rw [hz]; exact one_bit d hd) i hy hi hs) ⟨Nat.le_refl _, Nat.le_refl _⟩ (fun r h1 hq => ?_)
  obtain ⟨rfl, I2, rfl, hO⟩ := hq
  have eK : I2 K = I K := hO.1 K hK2.1 hK2.2.1 hK2.2.2.1 hK2.2.2.2
  refine z_aload_1 (pc := 10) dX9_taps_10 ?_
  refine z_bipush (pc := 11) (60) dX9_taps_11 rfl ?_
  refine z_aload_1 (pc := 13) dX9_taps_13 ?_
  refine z_bipush (pc := 14) (48) dX9_taps_14 rfl ?_
  refine z_iload_2 (pc := 16) dX9_taps_16 ?_
  refine z_iadd (pc := 17) dX9_taps_17 ?_
  refine y_ialdN (pc := 18) (48 + i) dX9_taps_18 (by first | rfl | assumption) (by rw [hy]; exact nI_add 48 i) (by omega) (by first | decide | omega) ?_
  refine z_iadd (pc := 19) dX9_taps_19 ?_
  refine z_dup2 (pc := 20) rfl rfl dX9_taps_20 ?_
  refine y_ialdN (pc := 21) (60 + u) dX9_taps_21 (by first | rfl | assumption) (by rw [eK, eu]; exact nI_add 60 u) (by omega) (by first | decide | omega) ?_
  refine z_aload_0 (pc := 22) dX9_taps_22 ?_
  refine y_getI (pc := 23) dX9_taps_23 flX9_168 rfl (by first | rfl | assumption) ?_
  refine z_ior (pc := 26) dX9_taps_26 ?_
  refine y_iastN (pc := 27) (60 + u) dX9_taps_27 (by first | rfl | assumption) (by rw [eK, eu]; exact nI_add 60 u) (by omega) (by first | decide | omega) ?_
  refine z_aload_1 (pc := 28) dX9_taps_28 ?_
  refine z_bipush (pc := 29) (52) dX9_taps_29 rfl ?_
  refine z_iload_2 (pc := 31) dX9_taps_31 ?_
  refine z_iadd (pc := 32) dX9_taps_32 ?_
  refine z_dup2 (pc := 33) rfl rfl dX9_taps_33 ?_
  refine y_ialdN (pc := 34) (52 + i) dX9_taps_34 (by first | rfl | assumption) (by rw [hy]; exact nI_add 52 i) (by omega) (by first | decide | omega) ?_
  refine z_aload_1 (pc := 35) dX9_taps_35 ?_
  refine z_bipush (pc := 36) (52) dX9_taps_36 rfl ?_
  refine z_iload_2 (pc := 38) dX9_taps_38 ?_
  refine z_iadd (pc := 39) dX9_taps_39 ?_
  refine y_ialdN (pc := 40) (52 + i) dX9_taps_40 (by first | rfl | assumption) (by rw [hy]; exact nI_add 52 i) (by omega) (by first | decide | omega) ?_
  refine z_if_le (pc := 41) (tgt := 48) dX9_taps_41 (by decide) (fun c41 => ?_) (fun c41 => ?_)
  · skip
    refine z_iconst (pc := 48) (0) dX9_taps_48 rfl ?_
    refine z_isub (pc := 49) dX9_taps_49 ?_
    refine y_iastN (pc := 50) (52 + i) dX9_taps_50 (by first | rfl | assumption) (by rw [hy]; exact nI_add 52 i) (by omega) (by first | decide | omega) ?_
    refine z_aload_0 (pc := 51) dX9_taps_51 ?_
    refine y_getI (pc := 52) dX9_taps_52 flX9_168 rfl (by first | rfl | assumption) ?_
    refine z_ret (pc := 55) (r := some (.int _)) rfl dX9_taps_55 trivial rfl rfl ?_
    have e52 : zup I2 K (60 + u) (I2 K (60 + u) ||| I2 85 24) K (52 + i) = I K (52 + i) := by rw [zup_no (Or.inr (by omega)), eK]
    rw [e52] at c41
    refine ⟨I2, ?_, hO, ?_⟩
    · rw [zup_no (Or.inl (fun q => hK2.1 q.symm)), zup_no (Or.inl (fun q => hK2.1 q.symm)), hO.2.2.1]
    · rw [e52, eK, hO.2.2.1]
      first | rw [if_pos c41] | rw [if_neg (fun q => q c41)]
  · skip
    refine z_iconst (pc := 44) (1) dX9_taps_44 rfl ?_
    refine z_goto (pc := 45) (tgt := 49) dX9_taps_45 (by decide) ?_
    refine z_isub (pc := 49) dX9_taps_49 ?_
    refine y_iastN (pc := 50) (52 + i) dX9_taps_50 (by first | rfl | assumption) (by rw [hy]; exact nI_add 52 i) (by omega) (by first | decide | omega) ?_
    refine z_aload_0 (pc := 51) dX9_taps_51 ?_
    refine y_getI (pc := 52) dX9_taps_52 flX9_168 rfl (by first | rfl | assumption) ?_
    refine z_ret (pc := 55) (r := some (.int _)) rfl dX9_taps_55 trivial rfl rfl ?_
    have e52 : zup I2 K (60 + u) (I2 K (60 + u) ||| I2 85 24) K (52 + i) = I K (52 + i) := by rw [zup_no (Or.inr (by omega)), eK]
    rw [e52] at c41
    refine ⟨I2, ?_, hO, ?_⟩
    · rw [zup_no (Or.inl (fun q => hK2.1 q.symm)), zup_no (Or.inl (fun q => hK2.1 q.symm)), hO.2.2.1]
    · rw [e52, eK, hO.2.2.1]
      first | rw [if_pos c41] | rw [if_neg (fun q => q c41)]
