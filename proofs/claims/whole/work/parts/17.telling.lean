set_option maxRecDepth 100000 in
set_option maxHeartbeats 4000000 in
theorem qX6_takeAs {l : zL} {I : Nat → Nat → Int32} {J : Nat → Nat → Int64} {nw : Bool} {x k : Int32} (d : Nat) (hx : x = nI d) (hd : d < 6) : zP l mX6_takeAs [.ref 74, .int x, .int k] (hh I J nw) (zR none (zup I 75 d k, J, RF nw, SH)) := by
  refine z_start [.ref 74, .int x, .int k] (by decide +kernel) (Nat.le_of_ble_eq_true rfl) rfl ?_
  refine z_aload_0 (pc := 0) dX6_takeAs_0 ?_
  refine y_getR (pc := 1) dX6_takeAs_1 flX6_9 rfl (by first | rfl | assumption) (by first | rfl | assumption) ?_
  refine z_iload_1 (pc := 4) dX6_takeAs_4 ?_
  refine z_iload_2 (pc := 5) dX6_takeAs_5 ?_
  refine y_iastN (pc := 6) (d) dX6_takeAs_6 (by first | rfl | assumption) (hx) (hd) (by first | decide | omega) ?_
  refine z_ret (pc := 7) (r := none) rfl dX6_takeAs_7 trivial rfl rfl ?_
  exact ⟨rfl, rfl⟩
set_option maxRecDepth 100000 in
set_option maxHeartbeats 4000000 in
theorem leave_loop {l : zL} {I : Nat → Nat → Int32} {J : Nat → Nat → Int64} {nw : Bool} (T : Nat) (hT : T ≤ 10) (eT : I 15 7 = nI T) (A B : Nat → Nat) (hA : ∀ k, k < T → I 19 k = nI (A k) ∧ A k < 6) (hB : ∀ k, k < T → I 20 k = nI (B k) ∧ B k < 6) {x : Int32} (w : Nat → Bool) (hw : ∀ k, k < 10 → ((x >>> (nI k &&& 31)) &&& 1 = 0 ↔ w k = false)) : ∀ (f i : Nat) (g : Nat → Int32), i ≤ T → T - i < f → (∀ d, d < 6 → g d = nI (bs (ztl A B w i d))) →
    zW l mX6_leaveOut SH.length (zsl SH) 10 [.ref 74, .int x, .int (nI i)] [] (zrow I 76 g, J, RF nw, SH) (fun r h1 => r = none ∧ ∃ g2, h1 = (zrow I 76 g2, J, RF nw, SH) ∧ ∀ d, d < 6 → g2 d = nI (bs (ztl A B w T d)))
  | 0, i, g, _, hf, _ => by omega
  | f + 1, i, g, hi, hf, hg => by
    refine z_iload_2 (pc := 10) dX6_leaveOut_10 ?_
    refine z_aload_0 (pc := 11) dX6_leaveOut_11 ?_
    refine y_getR (pc := 12) dX6_leaveOut_12 flX6_40 rfl (by first | rfl | assumption) (by first | rfl | assumption) ?_
    refine y_getI (pc := 15) dX6_leaveOut_15 flX6_63 rfl (by first | rfl | assumption) ?_
    refine z_icmp_ge (pc := 18) (tgt := 63) dX6_leaveOut_18 (by decide) (fun c18 => ?_) (fun c18 => ?_)
    · skip
      refine z_ret (pc := 63) (r := none) rfl dX6_leaveOut_63 trivial rfl rfl ?_
      have : i = T := by
        rcases Nat.lt_or_ge i T with q | q
        · rw [zrow_ne _ _ _ (by decide), eT] at c18
          exact absurd c18 (nI_ge q (by omega))
        · omega
      subst this
      exact ⟨rfl, g, rfl, hg⟩
    · skip
      have hlt : i < T := by
        rcases Nat.lt_or_ge i T with q | q
        · exact q
        · exact absurd (by rw [zrow_ne _ _ _ (by decide), eT]; exact nI_le q (by omega)) c18
      refine z_iload_1 (pc := 21) dX6_leaveOut_21 ?_
      refine z_iload_2 (pc := 22) dX6_leaveOut_22 ?_
      refine z_ishr (pc := 23) dX6_leaveOut_23 ?_
      refine z_iconst (pc := 24) (1) dX6_leaveOut_24 rfl ?_
      refine z_iand (pc := 25) dX6_leaveOut_25 ?_
      refine z_if_ne (pc := 26) (tgt := 57) dX6_leaveOut_26 (by decide) (fun c26 => ?_) (fun c26 => ?_)
      · skip
        refine z_iinc_2 (pc := 57) (1) dX6_leaveOut_57 rfl (by decide) rfl ?_
        refine z_goto (pc := 60) (tgt := 10) dX6_leaveOut_60 (by decide) ?_
        rw [← nI_succ]
        exact leave_loop (l := l) (J := J) (nw := nw) T hT eT A B hA hB w hw f (i + 1) g (by omega) (by omega) (fun d hd => by rw [hg d hd]; refine congrArg nI (bs_congr (fun e _ => ?_)); rw [ztl, show w i = true from by cases hq : w i; exact absurd ((hw i (by omega)).mpr hq) c26; rfl]; simp)
      · skip
        refine z_aload_0 (pc := 29) dX6_leaveOut_29 ?_
        refine y_getR (pc := 30) dX6_leaveOut_30 flX6_15 rfl (by first | rfl | assumption) (by first | rfl | assumption) ?_
        refine z_aload_0 (pc := 33) dX6_leaveOut_33 ?_
        refine y_getR (pc := 34) dX6_leaveOut_34 flX6_40 rfl (by first | rfl | assumption) (by first | rfl | assumption) ?_
        refine y_getR (pc := 37) dX6_leaveOut_37 flX6_66 rfl (by first | rfl | assumption) (by first | rfl | assumption) ?_
        refine z_iload_2 (pc := 40) dX6_leaveOut_40 ?_
        refine y_ialdN (pc := 41) (i) dX6_leaveOut_41 (by first | rfl | assumption) (rfl) (by omega) (by first | decide | omega) ?_
        refine z_dup2 (pc := 42) rfl rfl dX6_leaveOut_42 ?_
        refine y_ialdN (pc := 43) (A i) dX6_leaveOut_43 (by first | rfl | assumption) (by rw [zrow_ne _ _ _ (by decide)]; exact (hA i hlt).1) ((hA i hlt).2) (by first | decide | omega) ?_
        refine z_iconst (pc := 44) (1) dX6_leaveOut_44 rfl ?_
        refine z_aload_0 (pc := 45) dX6_leaveOut_45 ?_
        refine y_getR (pc := 46) dX6_leaveOut_46 flX6_40 rfl (by first | rfl | assumption) (by first | rfl | assumption) ?_
        refine y_getR (pc := 49) dX6_leaveOut_49 flX6_69 rfl (by first | rfl | assumption) (by first | rfl | assumption) ?_
        refine z_iload_2 (pc := 52) dX6_leaveOut_52 ?_
        refine y_ialdN (pc := 53) (i) dX6_leaveOut_53 (by first | rfl | assumption) (rfl) (by omega) (by first | decide | omega) ?_
        refine z_ishl (pc := 54) dX6_leaveOut_54 ?_
        refine z_ior (pc := 55) dX6_leaveOut_55 ?_
        refine y_iastN (pc := 56) (A i) dX6_leaveOut_56 (by first | rfl | assumption) (by rw [zrow_ne _ _ _ (by decide)]; exact (hA i hlt).1) ((hA i hlt).2) (by first | decide | omega) ?_
        refine z_iinc_2 (pc := 57) (1) dX6_leaveOut_57 rfl (by decide) rfl ?_
        refine z_goto (pc := 60) (tgt := 10) dX6_leaveOut_60 (by decide) ?_
        rw [← nI_succ, zrow_up]
        refine leave_loop (l := l) (J := J) (nw := nw) T hT eT A B hA hB w hw f (i + 1) _ (by omega) (by omega) (fun d hd => ?_)
        have hwi := (hw i (by omega)).mp c26
        unfold upd
        by_cases hq : d = A i
        · subst hq
          rw [if_pos rfl, zrow_at, hg _ hd, zrow_ne _ _ _ (by decide), (hB i hlt).1, bs_set _ _ (hB i hlt).2]
          refine congrArg nI (bs_congr (fun e _ => ?_))
          rw [ztl, hwi]; simp
        · rw [if_neg hq, hg d hd]
          refine congrArg nI (bs_congr (fun e _ => ?_))
          rw [ztl]; simp [hq]
set_option maxRecDepth 100000 in
set_option maxHeartbeats 4000000 in
theorem qX6_leaveOut {l : zL} {I : Nat → Nat → Int32} {J : Nat → Nat → Int64} {nw : Bool} (T : Nat) (hT : T ≤ 10) (eT : I 15 7 = nI T) (A B : Nat → Nat) (hA : ∀ k, k < T → I 19 k = nI (A k) ∧ A k < 6) (hB : ∀ k, k < T → I 20 k = nI (B k) ∧ B k < 6) {x : Int32} (w : Nat → Bool) (hw : ∀ k, k < 10 → ((x >>> (nI k &&& 31)) &&& 1 = 0 ↔ w k = false)) : zP l mX6_leaveOut [.ref 74, .int x] (hh I J nw) (fun r h1 => r = none ∧ ∃ g2, h1 = (zrow I 76 g2, J, RF nw, SH) ∧ ∀ d, d < 6 → g2 d = nI (bs (ztl A B w T d))) := by
  refine z_start [.ref 74, .int x, zno] (by decide +kernel) (Nat.le_of_ble_eq_true rfl) rfl ?_
  refine z_aload_0 (pc := 0) dX6_leaveOut_0 ?_
  refine y_getR (pc := 1) dX6_leaveOut_1 flX6_15 rfl (by first | rfl | assumption) (by first | rfl | assumption) ?_
  refine z_iconst (pc := 4) (0) dX6_leaveOut_4 rfl ?_
  refine z_S2 (pc := 5) dX6_leaveOut_5 mlX6_57 kJ7_fill_53178 vJ7_fill_53178 (by decide) (by decide) (Nat.le_of_ble_eq_true rfl) (qJ7_fill_53178 (sh := SH) (k := 76) (n := 6) rfl (by decide)) ⟨Nat.le_refl _, Nat.le_refl _⟩ (fun r h1 hq => ?_)
  obtain ⟨rfl, rfl⟩ := hq
  refine z_iconst (pc := 8) (0) dX6_leaveOut_8 rfl ?_
  refine z_istore_2 (pc := 9) dX6_leaveOut_9 (by decide) rfl ?_
  rw [zrow_fill]
  exact leave_loop T hT eT A B hA hB w hw (T + 1) 0 _ (by omega) (by omega) (fun d hd => by rw [if_pos hd]; rfl)
theorem sh0 : ∀ k, k < 10 → (((0 : Int32) >>> (nI k &&& 31)) &&& 1 = 0 ↔ (fun _ : Nat => false) k = false) := by decide +kernel
set_option maxRecDepth 100000 in
set_option maxHeartbeats 4000000 in
theorem qX6_beAsTold {l : zL} {I : Nat → Nat → Int32} {J : Nat → Nat → Int64} {nw : Bool} (T : Nat) (hT : T ≤ 10) (eT : I 15 7 = nI T) (A B : Nat → Nat) (hA : ∀ k, k < T → I 19 k = nI (A k) ∧ A k < 6) (hB : ∀ k, k < T → I 20 k = nI (B k) ∧ B k < 6) : zP l mX6_beAsTold [.ref 74] (hh I J nw) (fun r h1 => r = none ∧ ∃ g2, h1 = (zrow (zcpy I 16 75 0 0 6) 76 g2, J, RF nw, SH) ∧ ∀ d, d < 6 → g2 d = nI (bs (ztl A B (fun _ => false) T d))) := by
  refine z_start [.ref 74] (by decide +kernel) (Nat.le_of_ble_eq_true rfl) rfl ?_
  refine z_aload_0 (pc := 0) dX6_beAsTold_0 ?_
  refine y_getR (pc := 1) dX6_beAsTold_1 flX6_40 rfl (by first | rfl | assumption) (by first | rfl | assumption) ?_
  refine y_getR (pc := 4) dX6_beAsTold_4 flX6_44 rfl (by first | rfl | assumption) (by first | rfl | assumption) ?_
  refine z_iconst (pc := 7) (0) dX6_beAsTold_7 rfl ?_
  refine z_aload_0 (pc := 8) dX6_beAsTold_8 ?_
  refine y_getR (pc := 9) dX6_beAsTold_9 flX6_9 rfl (by first | rfl | assumption) (by first | rfl | assumption) ?_
  refine z_iconst (pc := 12) (0) dX6_beAsTold_12 rfl ?_
  refine z_bipush (pc := 13) (6) dX6_beAsTold_13 rfl ?_
  refine y_copy (pc := 15) dX6_beAsTold_15 mlX6_47 w_an w_as w_si (0) (0) (6) (by first | rfl | assumption) (by first | rfl | assumption) (rfl) (rfl) (rfl) (by decide) (by decide) (by decide) (by decide) (Nat.le_of_ble_eq_true rfl) ?_
  refine z_aload_0 (pc := 18) dX6_beAsTold_18 ?_
  refine z_iconst (pc := 19) (0) dX6_beAsTold_19 rfl ?_
  refine z_V1 (pc := 20) dX6_beAsTold_20 mlX6_53 kX6_leaveOut vX6_leaveOut (by decide) (by decide) (by first | rfl | assumption) (Nat.le_of_ble_eq_true rfl) (qX6_leaveOut T hT (by show zcpy I 16 75 0 0 6 15 7 = _; unfold zcpy; rw [if_neg (by decide)]; exact eT) A B (fun k hk => by show zcpy I 16 75 0 0 6 19 k = _ ∧ _; unfold zcpy; rw [if_neg (by decide)]; exact hA k hk) (fun k hk => by show zcpy I 16 75 0 0 6 20 k = _ ∧ _; unfold zcpy; rw [if_neg (by decide)]; exact hB k hk) (fun _ => false) sh0) ⟨Nat.le_refl _, Nat.le_refl _⟩ (fun r h1 hq => ?_)
  obtain ⟨rfl, g2, rfl, hg2⟩ := hq
  refine z_ret (pc := 23) (r := none) rfl dX6_beAsTold_23 trivial rfl rfl ?_
  exact ⟨rfl, g2, rfl, hg2⟩
set_option maxRecDepth 100000 in
set_option maxHeartbeats 4000000 in
theorem qX6_isBelieved {l : zL} {I : Nat → Nat → Int32} {J : Nat → Nat → Int64} {nw : Bool} {x s : Int32} (d : Nat) (hx : x = nI d) (hd : d < 6) : zP l mX6_isBelieved [.ref 74, .int x, .int s] (hh I J nw) (zR (some (.int (if zbel (I 75 d) (I 17 d) (I 18 d) (I 74 6) (nI d) s = true then 1 else 0))) (hh I J nw)) := by
  refine z_start [.ref 74, .int x, .int s, zno, zno] (by decide +kernel) (Nat.le_of_ble_eq_true rfl) rfl ?_
  refine z_aload_0 (pc := 0) dX6_isBelieved_0 ?_
  refine y_getR (pc := 1) dX6_isBelieved_1 flX6_9 rfl (by first | rfl | assumption) (by first | rfl | assumption) ?_
  refine z_iload_1 (pc := 4) dX6_isBelieved_4 ?_
  refine y_ialdN (pc := 5) (d) dX6_isBelieved_5 (by first | rfl | assumption) (hx) (hd) (by first | decide | omega) ?_
  refine z_istore_3 (pc := 6) dX6_isBelieved_6 (by decide) rfl ?_
  refine z_iload_3 (pc := 7) dX6_isBelieved_7 ?_
  refine z_iconst (pc := 8) (4) dX6_isBelieved_8 rfl ?_
  refine z_icmp_eq (pc := 9) (tgt := 17) dX6_isBelieved_9 (by decide) (fun c9 => ?_) (fun c9 => ?_)
  · skip
    refine z_iconst (pc := 17) (0) dX6_isBelieved_17 rfl ?_
    refine z_ret (pc := 18) (r := some (.int _)) rfl dX6_isBelieved_18 (by first | exact Or.inl rfl | exact Or.inr rfl | assumption) rfl rfl ?_
    refine ⟨?_, rfl⟩
    subst hx
    simp only [zbel, Int32.sub_eq_add_neg]
    simp [*, Int32.not_le, Int32.not_lt]
  · skip
    refine z_iload_3 (pc := 12) dX6_isBelieved_12 ?_
    refine z_iconst (pc := 13) (5) dX6_isBelieved_13 rfl ?_
    refine z_icmp_ne (pc := 14) (tgt := 19) dX6_isBelieved_14 (by decide) (fun c14 => ?_) (fun c14 => ?_)
    · skip
      refine z_iload_3 (pc := 19) dX6_isBelieved_19 ?_
      refine z_iconst (pc := 20) (3) dX6_isBelieved_20 rfl ?_
      refine z_icmp_ne (pc := 21) (tgt := 30) dX6_isBelieved_21 (by decide) (fun c21 => ?_) (fun c21 => ?_)
      · skip
        refine z_iload_2 (pc := 30) dX6_isBelieved_30 ?_
        refine z_istore_4 (pc := 31) dX6_isBelieved_31 (by decide) rfl ?_
        refine z_iload_1 (pc := 33) dX6_isBelieved_33 ?_
        refine z_aload_0 (pc := 34) dX6_isBelieved_34 ?_
        refine y_getI (pc := 35) dX6_isBelieved_35 flX6_28 rfl (by first | rfl | assumption) ?_
        refine z_icmp_ne (pc := 38) (tgt := 47) dX6_isBelieved_38 (by decide) (fun c38 => ?_) (fun c38 => ?_)
        · skip
          refine z_aload_0 (pc := 47) dX6_isBelieved_47 ?_
          refine y_getR (pc := 48) dX6_isBelieved_48 flX6_40 rfl (by first | rfl | assumption) (by first | rfl | assumption) ?_
          refine y_getR (pc := 51) dX6_isBelieved_51 flX6_134 rfl (by first | rfl | assumption) (by first | rfl | assumption) ?_
          refine z_iload_1 (pc := 54) dX6_isBelieved_54 ?_
          refine y_ialdN (pc := 55) (d) dX6_isBelieved_55 (by first | rfl | assumption) (hx) (hd) (by first | decide | omega) ?_
          refine z_aload_0 (pc := 56) dX6_isBelieved_56 ?_
          refine y_getI (pc := 57) dX6_isBelieved_57 flX6_28 rfl (by first | rfl | assumption) ?_
          refine z_icmp_ne (pc := 60) (tgt := 66) dX6_isBelieved_60 (by decide) (fun c60 => ?_) (fun c60 => ?_)
          · skip
            refine z_iload_4 (pc := 66) dX6_isBelieved_66 ?_
            refine z_aload_0 (pc := 68) dX6_isBelieved_68 ?_
            refine y_getR (pc := 69) dX6_isBelieved_69 flX6_40 rfl (by first | rfl | assumption) (by first | rfl | assumption) ?_
            refine y_getR (pc := 72) dX6_isBelieved_72 flX6_137 rfl (by first | rfl | assumption) (by first | rfl | assumption) ?_
            refine z_iload_1 (pc := 75) dX6_isBelieved_75 ?_
            refine y_ialdN (pc := 76) (d) dX6_isBelieved_76 (by first | rfl | assumption) (hx) (hd) (by first | decide | omega) ?_
            refine z_icmp_lt (pc := 77) (tgt := 84) dX6_isBelieved_77 (by decide) (fun c77 => ?_) (fun c77 => ?_)
            · skip
              refine z_iconst (pc := 84) (0) dX6_isBelieved_84 rfl ?_
              refine z_ret (pc := 85) (r := some (.int _)) rfl dX6_isBelieved_85 (by first | exact Or.inl rfl | exact Or.inr rfl | assumption) rfl rfl ?_
              refine ⟨?_, rfl⟩
              subst hx
              simp only [zbel, Int32.sub_eq_add_neg]
              simp [*, Int32.not_le, Int32.not_lt]
            · skip
              refine z_iconst (pc := 80) (1) dX6_isBelieved_80 rfl ?_
              refine z_goto (pc := 81) (tgt := 85) dX6_isBelieved_81 (by decide) ?_
              refine z_ret (pc := 85) (r := some (.int _)) rfl dX6_isBelieved_85 (by first | exact Or.inl rfl | exact Or.inr rfl | assumption) rfl rfl ?_
              refine ⟨?_, rfl⟩
              subst hx
              simp only [zbel, Int32.sub_eq_add_neg]
              simp [*, Int32.not_le, Int32.not_lt]
          · skip
            refine z_iinc_4 (pc := 63) (3) dX6_isBelieved_63 rfl (by decide) rfl ?_
            refine z_iload_4 (pc := 66) dX6_isBelieved_66 ?_
            refine z_aload_0 (pc := 68) dX6_isBelieved_68 ?_
            refine y_getR (pc := 69) dX6_isBelieved_69 flX6_40 rfl (by first | rfl | assumption) (by first | rfl | assumption) ?_
            refine y_getR (pc := 72) dX6_isBelieved_72 flX6_137 rfl (by first | rfl | assumption) (by first | rfl | assumption) ?_
            refine z_iload_1 (pc := 75) dX6_isBelieved_75 ?_
            refine y_ialdN (pc := 76) (d) dX6_isBelieved_76 (by first | rfl | assumption) (hx) (hd) (by first | decide | omega) ?_
            refine z_icmp_lt (pc := 77) (tgt := 84) dX6_isBelieved_77 (by decide) (fun c77 => ?_) (fun c77 => ?_)
            · skip
              refine z_iconst (pc := 84) (0) dX6_isBelieved_84 rfl ?_
              refine z_ret (pc := 85) (r := some (.int _)) rfl dX6_isBelieved_85 (by first | exact Or.inl rfl | exact Or.inr rfl | assumption) rfl rfl ?_
              refine ⟨?_, rfl⟩
              subst hx
              simp only [zbel, Int32.sub_eq_add_neg]
              simp [*, Int32.not_le, Int32.not_lt]
            · skip
              refine z_iconst (pc := 80) (1) dX6_isBelieved_80 rfl ?_
              refine z_goto (pc := 81) (tgt := 85) dX6_isBelieved_81 (by decide) ?_
              refine z_ret (pc := 85) (r := some (.int _)) rfl dX6_isBelieved_85 (by first | exact Or.inl rfl | exact Or.inr rfl | assumption) rfl rfl ?_
              refine ⟨?_, rfl⟩
              subst hx
              simp only [zbel, Int32.sub_eq_add_neg]
              simp [*, Int32.not_le, Int32.not_lt]
        · skip
          refine z_iinc_4 (pc := 41) (-5) dX6_isBelieved_41 rfl (by decide) rfl ?_
          refine z_goto (pc := 44) (tgt := 66) dX6_isBelieved_44 (by decide) ?_
          refine z_iload_4 (pc := 66) dX6_isBelieved_66 ?_
          refine z_aload_0 (pc := 68) dX6_isBelieved_68 ?_
          refine y_getR (pc := 69) dX6_isBelieved_69 flX6_40 rfl (by first | rfl | assumption) (by first | rfl | assumption) ?_
          refine y_getR (pc := 72) dX6_isBelieved_72 flX6_137 rfl (by first | rfl | assumption) (by first | rfl | assumption) ?_
          refine z_iload_1 (pc := 75) dX6_isBelieved_75 ?_
          refine y_ialdN (pc := 76) (d) dX6_isBelieved_76 (by first | rfl | assumption) (hx) (hd) (by first | decide | omega) ?_
          refine z_icmp_lt (pc := 77) (tgt := 84) dX6_isBelieved_77 (by decide) (fun c77 => ?_) (fun c77 => ?_)
          · skip
            refine z_iconst (pc := 84) (0) dX6_isBelieved_84 rfl ?_
            refine z_ret (pc := 85) (r := some (.int _)) rfl dX6_isBelieved_85 (by first | exact Or.inl rfl | exact Or.inr rfl | assumption) rfl rfl ?_
            refine ⟨?_, rfl⟩
            subst hx
            simp only [zbel, Int32.sub_eq_add_neg]
            simp [*, Int32.not_le, Int32.not_lt]
          · skip
            refine z_iconst (pc := 80) (1) dX6_isBelieved_80 rfl ?_
            refine z_goto (pc := 81) (tgt := 85) dX6_isBelieved_81 (by decide) ?_
            refine z_ret (pc := 85) (r := some (.int _)) rfl dX6_isBelieved_85 (by first | exact Or.inl rfl | exact Or.inr rfl | assumption) rfl rfl ?_
            refine ⟨?_, rfl⟩
            subst hx
            simp only [zbel, Int32.sub_eq_add_neg]
            simp [*, Int32.not_le, Int32.not_lt]
      · skip
        refine z_iload_2 (pc := 24) dX6_isBelieved_24 ?_
        refine z_iconst (pc := 25) (2) dX6_isBelieved_25 rfl ?_
        refine z_idiv (pc := 26) (by decide) dX6_isBelieved_26 ?_
        refine z_goto (pc := 27) (tgt := 31) dX6_isBelieved_27 (by decide) ?_
        refine z_istore_4 (pc := 31) dX6_isBelieved_31 (by decide) rfl ?_
        refine z_iload_1 (pc := 33) dX6_isBelieved_33 ?_
        refine z_aload_0 (pc := 34) dX6_isBelieved_34 ?_
        refine y_getI (pc := 35) dX6_isBelieved_35 flX6_28 rfl (by first | rfl | assumption) ?_
        refine z_icmp_ne (pc := 38) (tgt := 47) dX6_isBelieved_38 (by decide) (fun c38 => ?_) (fun c38 => ?_)
        · skip
          refine z_aload_0 (pc := 47) dX6_isBelieved_47 ?_
          refine y_getR (pc := 48) dX6_isBelieved_48 flX6_40 rfl (by first | rfl | assumption) (by first | rfl | assumption) ?_
          refine y_getR (pc := 51) dX6_isBelieved_51 flX6_134 rfl (by first | rfl | assumption) (by first | rfl | assumption) ?_
          refine z_iload_1 (pc := 54) dX6_isBelieved_54 ?_
          refine y_ialdN (pc := 55) (d) dX6_isBelieved_55 (by first | rfl | assumption) (hx) (hd) (by first | decide | omega) ?_
          refine z_aload_0 (pc := 56) dX6_isBelieved_56 ?_
          refine y_getI (pc := 57) dX6_isBelieved_57 flX6_28 rfl (by first | rfl | assumption) ?_
          refine z_icmp_ne (pc := 60) (tgt := 66) dX6_isBelieved_60 (by decide) (fun c60 => ?_) (fun c60 => ?_)
          · skip
            refine z_iload_4 (pc := 66) dX6_isBelieved_66 ?_
            refine z_aload_0 (pc := 68) dX6_isBelieved_68 ?_
            refine y_getR (pc := 69) dX6_isBelieved_69 flX6_40 rfl (by first | rfl | assumption) (by first | rfl | assumption) ?_
            refine y_getR (pc := 72) dX6_isBelieved_72 flX6_137 rfl (by first | rfl | assumption) (by first | rfl | assumption) ?_
            refine z_iload_1 (pc := 75) dX6_isBelieved_75 ?_
            refine y_ialdN (pc := 76) (d) dX6_isBelieved_76 (by first | rfl | assumption) (hx) (hd) (by first | decide | omega) ?_
            refine z_icmp_lt (pc := 77) (tgt := 84) dX6_isBelieved_77 (by decide) (fun c77 => ?_) (fun c77 => ?_)
            · skip
              refine z_iconst (pc := 84) (0) dX6_isBelieved_84 rfl ?_
              refine z_ret (pc := 85) (r := some (.int _)) rfl dX6_isBelieved_85 (by first | exact Or.inl rfl | exact Or.inr rfl | assumption) rfl rfl ?_
              refine ⟨?_, rfl⟩
              subst hx
              simp only [zbel, Int32.sub_eq_add_neg]
              simp [*, Int32.not_le, Int32.not_lt]
            · skip
              refine z_iconst (pc := 80) (1) dX6_isBelieved_80 rfl ?_
              refine z_goto (pc := 81) (tgt := 85) dX6_isBelieved_81 (by decide) ?_
              refine z_ret (pc := 85) (r := some (.int _)) rfl dX6_isBelieved_85 (by first | exact Or.inl rfl | exact Or.inr rfl | assumption) rfl rfl ?_
              refine ⟨?_, rfl⟩
              subst hx
              simp only [zbel, Int32.sub_eq_add_neg]
              simp [*, Int32.not_le, Int32.not_lt]
          · skip
            refine z_iinc_4 (pc := 63) (3) dX6_isBelieved_63 rfl (by decide) rfl ?_
            refine z_iload_4 (pc := 66) dX6_isBelieved_66 ?_
            refine z_aload_0 (pc := 68) dX6_isBelieved_68 ?_
            refine y_getR (pc := 69) dX6_isBelieved_69 flX6_40 rfl (by first | rfl | assumption) (by first | rfl | assumption) ?_
            refine y_getR (pc := 72) dX6_isBelieved_72 flX6_137 rfl (by first | rfl | assumption) (by first | rfl | assumption) ?_
            refine z_iload_1 (pc := 75) dX6_isBelieved_75 ?_
            refine y_ialdN (pc := 76) (d) dX6_isBelieved_76 (by first | rfl | assumption) (hx) (hd) (by first | decide | omega) ?_
            refine z_icmp_lt (pc := 77) (tgt := 84) dX6_isBelieved_77 (by decide) (fun c77 => ?_) (fun c77 => ?_)
            · skip
              refine z_iconst (pc := 84) (0) dX6_isBelieved_84 rfl ?_
              refine z_ret (pc := 85) (r := some (.int _)) rfl dX6_isBelieved_85 (by first | exact Or.inl rfl | exact Or.inr rfl | assumption) rfl rfl ?_
              refine ⟨?_, rfl⟩
              subst hx
              simp only [zbel, Int32.sub_eq_add_neg]
              simp [*, Int32.not_le, Int32.not_lt]
            · skip
              refine z_iconst (pc := 80) (1) dX6_isBelieved_80 rfl ?_
              refine z_goto (pc := 81) (tgt := 85) dX6_isBelieved_81 (by decide) ?_
              refine z_ret (pc := 85) (r := some (.int _)) rfl dX6_isBelieved_85 (by first | exact Or.inl rfl | exact Or.inr rfl | assumption) rfl rfl ?_
              refine ⟨?_, rfl⟩
              subst hx
              simp only [zbel, Int32.sub_eq_add_neg]
              simp [*, Int32.not_le, Int32.not_lt]
        · skip
          refine z_iinc_4 (pc := 41) (-5) dX6_isBelieved_41 rfl (by decide) rfl ?_
          refine z_goto (pc := 44) (tgt := 66) dX6_isBelieved_44 (by decide) ?_
          refine z_iload_4 (pc := 66) dX6_isBelieved_66 ?_
          refine z_aload_0 (pc := 68) dX6_isBelieved_68 ?_
          refine y_getR (pc := 69) dX6_isBelieved_69 flX6_40 rfl (by first | rfl | assumption) (by first | rfl | assumption) ?_
          refine y_getR (pc := 72) dX6_isBelieved_72 flX6_137 rfl (by first | rfl | assumption) (by first | rfl | assumption) ?_
          refine z_iload_1 (pc := 75) dX6_isBelieved_75 ?_
          refine y_ialdN (pc := 76) (d) dX6_isBelieved_76 (by first | rfl | assumption) (hx) (hd) (by first | decide | omega) ?_
          refine z_icmp_lt (pc := 77) (tgt := 84) dX6_isBelieved_77 (by decide) (fun c77 => ?_) (fun c77 => ?_)
          · skip
            refine z_iconst (pc := 84) (0) dX6_isBelieved_84 rfl ?_
            refine z_ret (pc := 85) (r := some (.int _)) rfl dX6_isBelieved_85 (by first | exact Or.inl rfl | exact Or.inr rfl | assumption) rfl rfl ?_
            refine ⟨?_, rfl⟩
            subst hx
            simp only [zbel, Int32.sub_eq_add_neg]
            simp [*, Int32.not_le, Int32.not_lt]
          · skip
            refine z_iconst (pc := 80) (1) dX6_isBelieved_80 rfl ?_
            refine z_goto (pc := 81) (tgt := 85) dX6_isBelieved_81 (by decide) ?_
            refine z_ret (pc := 85) (r := some (.int _)) rfl dX6_isBelieved_85 (by first | exact Or.inl rfl | exact Or.inr rfl | assumption) rfl rfl ?_
            refine ⟨?_, rfl⟩
            subst hx
            simp only [zbel, Int32.sub_eq_add_neg]
            simp [*, Int32.not_le, Int32.not_lt]
    · skip
      refine z_iconst (pc := 17) (0) dX6_isBelieved_17 rfl ?_
      refine z_ret (pc := 18) (r := some (.int _)) rfl dX6_isBelieved_18 (by first | exact Or.inl rfl | exact Or.inr rfl | assumption) rfl rfl ?_
      refine ⟨?_, rfl⟩
      subst hx
      simp only [zbel, Int32.sub_eq_add_neg]
      simp [*, Int32.not_le, Int32.not_lt]
set_option maxRecDepth 100000 in
set_option maxHeartbeats 4000000 in
theorem qX6_passedOn {l : zL} {I : Nat → Nat → Int32} {J : Nat → Nat → Int64} {nw : Bool} {k s b : Int32} (kk : Nat) (hk : 1 ≤ kk ∧ kk ≤ 5) (ek : k = nI kk) (is : Bool) (hb : b = if is = true then 1 else 0) : zP l mX6_passedOn [.int k, .int s, .int b] (hh I J nw) (zR (some (.int (zpas k s is))) (hh I J nw)) := by
  refine z_start [.int k, .int s, .int b] (by decide +kernel) (Nat.le_of_ble_eq_true rfl) rfl ?_
  refine z_iload_0 (pc := 0) dX6_passedOn_0 ?_
  have hc : kk = 1 ∨ kk = 2 ∨ kk = 3 ∨ kk = 4 ∨ kk = 5 := by omega
  subst ek
  subst hb
  rcases hc with rfl | rfl | rfl | rfl | rfl
  · skip
    refine z_tableOut (pc := 1) (tgt := 52) dX6_passedOn_1 (Or.inl (by decide)) (by decide) ?_
    refine z_iload_2 (pc := 52) dX6_passedOn_52 ?_
    refine z_if_eq (pc := 53) (tgt := 62) dX6_passedOn_53 (by decide) (fun c53 => ?_) (fun c53 => ?_)
    · skip
      refine z_iconst (pc := 62) (0) dX6_passedOn_62 rfl ?_
      refine z_ret (pc := 63) (r := some (.int _)) rfl dX6_passedOn_63 trivial rfl rfl ?_
      refine ⟨?_, rfl⟩
      clear hk
      cases is <;> first | rfl | (exfalso; revert c33; decide) | (exfalso; revert c53; decide)
    · skip
      refine z_iload_1 (pc := 56) dX6_passedOn_56 ?_
      refine z_iconst (pc := 57) (1) dX6_passedOn_57 rfl ?_
      refine z_isub (pc := 58) dX6_passedOn_58 ?_
      refine z_goto (pc := 59) (tgt := 63) dX6_passedOn_59 (by decide) ?_
      refine z_ret (pc := 63) (r := some (.int _)) rfl dX6_passedOn_63 trivial rfl rfl ?_
      refine ⟨?_, rfl⟩
      clear hk
      cases is <;> first | rfl | (exfalso; revert c33; decide) | (exfalso; revert c53; decide)
  · skip
    refine z_tableIn (pc := 1) (tgt := 32) dX6_passedOn_1 (by decide) (by decide) rfl (by decide) ?_
    refine z_iload_2 (pc := 32) dX6_passedOn_32 ?_
    refine z_if_eq (pc := 33) (tgt := 42) dX6_passedOn_33 (by decide) (fun c33 => ?_) (fun c33 => ?_)
    · skip
      refine z_iconst (pc := 42) (0) dX6_passedOn_42 rfl ?_
      refine z_ret (pc := 43) (r := some (.int _)) rfl dX6_passedOn_43 trivial rfl rfl ?_
      refine ⟨?_, rfl⟩
      clear hk
      cases is <;> first | rfl | (exfalso; revert c33; decide) | (exfalso; revert c53; decide)
    · skip
      refine z_iload_1 (pc := 36) dX6_passedOn_36 ?_
      refine z_iconst (pc := 37) (1) dX6_passedOn_37 rfl ?_
      refine z_iadd (pc := 38) dX6_passedOn_38 ?_
      refine z_goto (pc := 39) (tgt := 43) dX6_passedOn_39 (by decide) ?_
      refine z_ret (pc := 43) (r := some (.int _)) rfl dX6_passedOn_43 trivial rfl rfl ?_
      refine ⟨?_, rfl⟩
      clear hk
      cases is <;> first | rfl | (exfalso; revert c33; decide) | (exfalso; revert c53; decide)
  · skip
    refine z_tableIn (pc := 1) (tgt := 52) dX6_passedOn_1 (by decide) (by decide) rfl (by decide) ?_
    refine z_iload_2 (pc := 52) dX6_passedOn_52 ?_
    refine z_if_eq (pc := 53) (tgt := 62) dX6_passedOn_53 (by decide) (fun c53 => ?_) (fun c53 => ?_)
    · skip
      refine z_iconst (pc := 62) (0) dX6_passedOn_62 rfl ?_
      refine z_ret (pc := 63) (r := some (.int _)) rfl dX6_passedOn_63 trivial rfl rfl ?_
      refine ⟨?_, rfl⟩
      clear hk
      cases is <;> first | rfl | (exfalso; revert c33; decide) | (exfalso; revert c53; decide)
    · skip
      refine z_iload_1 (pc := 56) dX6_passedOn_56 ?_
      refine z_iconst (pc := 57) (1) dX6_passedOn_57 rfl ?_
      refine z_isub (pc := 58) dX6_passedOn_58 ?_
      refine z_goto (pc := 59) (tgt := 63) dX6_passedOn_59 (by decide) ?_
      refine z_ret (pc := 63) (r := some (.int _)) rfl dX6_passedOn_63 trivial rfl rfl ?_
      refine ⟨?_, rfl⟩
      clear hk
      cases is <;> first | rfl | (exfalso; revert c33; decide) | (exfalso; revert c53; decide)
  · skip
    refine z_tableIn (pc := 1) (tgt := 44) dX6_passedOn_1 (by decide) (by decide) rfl (by decide) ?_
    refine z_iload_1 (pc := 44) dX6_passedOn_44 ?_
    refine z_iconst (pc := 45) (2) dX6_passedOn_45 rfl ?_
    refine z_isub (pc := 46) dX6_passedOn_46 ?_
    refine z_ret (pc := 47) (r := some (.int _)) rfl dX6_passedOn_47 trivial rfl rfl ?_
    exact ⟨rfl, rfl⟩
  · skip
    refine z_tableIn (pc := 1) (tgt := 48) dX6_passedOn_1 (by decide) (by decide) rfl (by decide) ?_
    refine z_iload_1 (pc := 48) dX6_passedOn_48 ?_
    refine z_iconst (pc := 49) (2) dX6_passedOn_49 rfl ?_
    refine z_idiv (pc := 50) (by decide) dX6_passedOn_50 ?_
    refine z_ret (pc := 51) (r := some (.int _)) rfl dX6_passedOn_51 trivial rfl rfl ?_
    exact ⟨rfl, rfl⟩
