def zhx (I : Nat → Nat → Int32) (d : Int32) (B : Nat → Nat) : Nat → Nat → Bool
  | 0, _ => false
  | k + 1, e => zhx I d B k e || (decide (I 27 k = d) && (e == B k))
theorem zhear_bs {I : Nat → Nat → Int32} {d : Int32} {B : Nat → Nat} : ∀ T, (∀ k, k < T → I 28 k = nI (B k) ∧ B k < 6) → zhear23 I d T = nI (bs (zhx I d B T))
  | 0, _ => rfl
  | k + 1, h => by
    rw [zhear23, zhear_bs k (fun j hj => h j (by omega))]
    by_cases q : I 27 k = d
    · rw [if_pos q, (h k (by omega)).1, bs_set _ _ (h k (by omega)).2]
      refine congrArg nI (bs_congr (fun e he => ?_))
      rw [zhx, decide_eq_true q, Bool.true_and]
    · rw [if_neg q]
      refine congrArg nI (bs_congr (fun e he => ?_))
      rw [zhx, decide_eq_false q, Bool.false_and, Bool.or_false]
theorem zwl_eq {I : Nat → Nat → Int32} {v : Nat → Int32} {B : Nat → Nat} {T q1 q2 : Nat} (h1 : ∀ k, k < T → I 27 k = v (24 + k)) (hB : ∀ k, k < T → v (34 + k) = nI (B k) ∧ B k < 6) (e1 : v (24 + T) = nI q1) (e2 : v (34 + T) = nI q2) (hq1 : q1 < 6) (hq2 : q2 < 6) : ∀ k, k ≤ T → zwl v T k = (!decide (q2 = q1) && !zhx I (nI q1) B k q2)
  | 0, _ => by
    rw [zwl, e1, e2, zhx, Bool.not_false, Bool.and_true, decide_eq_decide.mpr (nI_eq (by omega) (by omega))]
  | k + 1, hk => by
    rw [zwl, zwl_eq h1 hB e1 e2 hq1 hq2 k (by omega), zhx, e1, e2, h1 k (by omega), (hB k (by omega)).1, show decide (nI (B k) = nI q2) = (q2 == B k) from by
      rw [decide_eq_decide.mpr (nI_eq (by have := (hB k (by omega)).2; omega) (by omega))]
      by_cases z : B k = q2
      · rw [decide_eq_true z, z, beq_self_eq_true]
      · rw [decide_eq_false z, beq_eq_false_iff_ne.mpr (fun y => z y.symm)]]
    cases decide (q2 = q1) <;> cases zhx I (nI q1) B k q2 <;> cases decide (v (24 + k) = nI q1) <;> cases (q2 == B k) <;> rfl
set_option maxRecDepth 100000 in
set_option maxHeartbeats 4000000 in
theorem qX4_readsTie {l : zL} {I : Nat → Nat → Int32} {J : Nat → Nat → Int64} {nw : Bool} {I1 : Nat → Nat → Int32} {v : Nat → Int32} {b : Nat → Nat} {a L n T : Nat} (hT : zTc I b L) (hR : zCr I I1 v a n T) (hP : zPv v n T) (hn1 : 1 ≤ n) : zP l mX4_readsTie [.ref 13, .ref 23] (hh I1 J nw) (zCq I J nw (ztiC b n T a v) n (T + 1)) := by
  obtain ⟨hs, ha, ha2, hv⟩ := hR
  have hT1 := zTc_s hT hs
  have hnn := hv.1.1
  have hTT := hv.1.2
  have hpr : nI n - 1 = nI (n - 1) := by
    obtain ⟨m, rfl⟩ : ∃ m, n = m + 1 := ⟨n - 1, by omega⟩
    exact nI_pred m
  refine z_start [.ref 13, .ref 23, zno, zno, zno] (by decide +kernel) (Nat.le_of_ble_eq_true rfl) rfl ?_
  refine z_aload_0 (pc := 0) dX4_readsTie_0 ?_
  refine z_V0 (pc := 1) dX4_readsTie_1 mlX4_37 kX4_letter vX4_letter (by decide) (by decide) (by first | rfl | assumption) (Nat.le_of_ble_eq_true rfl) (qX4_letter hT1 ha ha2) ⟨Nat.le_refl _, Nat.le_refl _⟩ (fun r h1 hq => ?_)
  obtain ⟨rfl, rfl⟩ := hq
  refine z_bipush (pc := 4) (116) dX4_readsTie_4 rfl ?_
  refine z_icmp_ne (pc := 6) (tgt := 24) dX4_readsTie_6 (by decide) (fun c6 => ?_) (fun c6 => ?_)
  · skip
    refine z_aload_0 (pc := 24) dX4_readsTie_24 ?_
    refine z_bipush (pc := 25) (116) dX4_readsTie_25 rfl ?_
    refine z_V1 (pc := 27) dX4_readsTie_27 mlX4_48 kX4_passes vX4_passes (by decide) (by decide) (by first | rfl | assumption) (Nat.le_of_ble_eq_true rfl) (qX4_passes (by repeat (first | exact hT1 | refine zTc_up ?_ (by decide))) (by first | exact zup_on | (rw [zup_no (Or.inl (by decide))]; exact zup_on) | exact ha) (by omega) 116 (by decide)) ⟨Nat.le_refl _, Nat.le_refl _⟩ (fun r h1 hq => ?_)
    obtain ⟨rfl, rfl⟩ := hq
    refine z_if_ne (pc := 30) (tgt := 35) dX4_readsTie_30 (by decide) (fun c30 => ?_) (fun c30 => ?_)
    · exact absurd ((zby_is hT1 a (by decide) rfl).mpr (of_decide_eq_true ((zbb1 _).mp c30))) c6
    · skip
      refine z_iconst (pc := 33) (0) dX4_readsTie_33 rfl ?_
      refine z_ret (pc := 34) (r := some (.int _)) rfl dX4_readsTie_34 (by first | exact Or.inl rfl | exact Or.inr rfl | assumption) rfl rfl ?_
      have hn : ¬ b a = 116 := of_decide_eq_false ((zbb0 _).mp c30)
      rw [if_neg hn]
      have eR : ztiC b n T a v = (1, a, v) := if_neg hn
      rw [eR]
      refine ⟨by rw [decide_eq_false (zr3_no (by decide : ¬ (1 : Nat) = 0))]; rfl, _, rfl, fun z => absurd z (zr3_no (by decide : ¬ (1 : Nat) = 0)), fun _ => ⟨fun x y g1 g2 => ?_, ?_, ?_⟩⟩
      · repeat rw [zup_no (by omega)]
        exact hs x y g1 (by omega)
      · repeat (first | rw [zup_on] | rw [zup_no (by decide)])
        try rfl
      · show _ = nI a
        repeat (first | rw [zup_on] | rw [zup_no (by decide)])
        try exact ha
  · skip
    refine z_aload_1 (pc := 9) dX4_readsTie_9 ?_
    refine y_getI (pc := 10) dX4_readsTie_10 flX4_75 rfl (by first | rfl | assumption) ?_
    rw [hv.2.2.1.2]
    refine z_bipush (pc := 13) (10) dX4_readsTie_13 rfl ?_
    refine z_icmp_lt (pc := 15) (tgt := 24) dX4_readsTie_15 (by decide) (fun c15 => ?_) (fun c15 => ?_)
    · skip
      refine z_aload_0 (pc := 24) dX4_readsTie_24 ?_
      refine z_bipush (pc := 25) (116) dX4_readsTie_25 rfl ?_
      refine z_V1 (pc := 27) dX4_readsTie_27 mlX4_48 kX4_passes vX4_passes (by decide) (by decide) (by first | rfl | assumption) (Nat.le_of_ble_eq_true rfl) (qX4_passes (by repeat (first | exact hT1 | refine zTc_up ?_ (by decide))) (by first | exact zup_on | (rw [zup_no (Or.inl (by decide))]; exact zup_on) | exact ha) (by omega) 116 (by decide)) ⟨Nat.le_refl _, Nat.le_refl _⟩ (fun r h1 hq => ?_)
      obtain ⟨rfl, rfl⟩ := hq
      refine z_if_ne (pc := 30) (tgt := 35) dX4_readsTie_30 (by decide) (fun c30 => ?_) (fun c30 => ?_)
      · skip
        have h0 : b a = 116 := of_decide_eq_true ((zbb1 _).mp c30)
        rw [if_pos h0]
        have hl0 := zle1 hT1 (by decide) h0
        have hT10 : ¬ T = 10 := fun z => by rw [z] at c15; exact absurd c15 (by decide)
        refine z_aload_0 (pc := 35) dX4_readsTie_35 ?_
        refine z_iconst (pc := 36) (0) dX4_readsTie_36 rfl ?_
        refine z_aload_1 (pc := 37) dX4_readsTie_37 ?_
        refine y_getI (pc := 38) dX4_readsTie_38 flX4_68 rfl (by first | rfl | assumption) ?_
        rw [zup_no (by omega), hv.2.2.1.1]
        refine z_iconst (pc := 41) (1) dX4_readsTie_41 rfl ?_
        refine z_isub (pc := 42) dX4_readsTie_42 ?_
        rw [show nI n - 1 = nI (n - 1) from hpr]
        refine z_V2 (pc := 43) dX4_readsTie_43 mlX4_52 kX4_number vX4_number (by decide) (by decide) (by first | rfl | assumption) (Nat.le_of_ble_eq_true rfl) (qX4_number (by repeat (first | exact hT1 | refine zTc_up ?_ (by decide))) (by first | exact zup_on | (rw [zup_no (Or.inl (by decide))]; exact zup_on) | exact ha) (by omega) 0 (n - 1) (by decide) (by omega)) ⟨Nat.le_refl _, Nat.le_refl _⟩ (fun r h1 hq => ?_)
        obtain ⟨f1, q1, a1, e1, rfl, rfl⟩ := hq
        have hz1 := zPn_le hT1 e1
        refine z_istore_2 (pc := 46) dX4_readsTie_46 (by decide) rfl ?_
        refine z_iload_2 (pc := 47) dX4_readsTie_47 ?_
        refine z_iconst (pc := 48) (-1) dX4_readsTie_48 rfl ?_
        refine z_icmp_eq (pc := 49) (tgt := 61) dX4_readsTie_49 (by decide) (fun c49 => ?_) (fun c49 => ?_)
        · skip
          refine z_iconst (pc := 61) (0) dX4_readsTie_61 rfl ?_
          refine z_ret (pc := 62) (r := some (.int _)) rfl dX4_readsTie_62 (by first | exact Or.inl rfl | exact Or.inr rfl | assumption) rfl rfl ?_
          have hn : ¬ f1 = 0 := nf_no hz1.1 c49
          rw [if_neg hn]
          have eR : ∃ w, ztiC b n T a v = (f1, (a + 1), w) := ⟨_, by
            unfold ztiC zti
            rw [if_pos h0, if_neg hT10]
            rw [zbd_no (by rw [znm_nope e1 hn]; exact zr3_no hn), znm_nope e1 hn]⟩
          obtain ⟨w, eR⟩ := eR
          rw [eR]
          refine ⟨by rw [decide_eq_false (zr3_no hn)]; rfl, _, rfl, fun z => absurd z (zr3_no hn), fun _ => ⟨fun x y g1 g2 => ?_, ?_, ?_⟩⟩
          · repeat rw [zup_no (by omega)]
            exact hs x y g1 (by omega)
          · repeat (first | rw [zup_on] | rw [zup_no (by decide)])
            try rfl
          · show _ = nI (a + 1)
            repeat (first | rw [zup_on] | rw [zup_no (by decide)])
            try exact ha
        · skip
          have hf1 : f1 = 0 := nf_ok c49
          subst hf1
          rw [if_pos (rfl : (0 : Nat) = 0), if_pos (rfl : (0 : Nat) = 0)]
          have hm1 := hz1.2 rfl
          refine z_aload_0 (pc := 52) dX4_readsTie_52 ?_
          refine z_bipush (pc := 53) (44) dX4_readsTie_53 rfl ?_
          refine z_V1 (pc := 55) dX4_readsTie_55 mlX4_48 kX4_passes vX4_passes (by decide) (by decide) (by first | rfl | assumption) (Nat.le_of_ble_eq_true rfl) (qX4_passes (by repeat (first | exact hT1 | refine zTc_up ?_ (by decide))) (by first | exact zup_on | (rw [zup_no (Or.inl (by decide))]; exact zup_on) | exact ha) (by omega) 44 (by decide)) ⟨Nat.le_refl _, Nat.le_refl _⟩ (fun r h1 hq => ?_)
          obtain ⟨rfl, rfl⟩ := hq
          refine z_if_ne (pc := 58) (tgt := 63) dX4_readsTie_58 (by decide) (fun c58 => ?_) (fun c58 => ?_)
          · skip
            have h2 : b a1 = 44 := of_decide_eq_true ((zbb1 _).mp c58)
            rw [if_pos h2]
            have hl2 := zle1 hT1 (by decide) h2
            refine z_aload_0 (pc := 63) dX4_readsTie_63 ?_
            refine y_getI (pc := 64) dX4_readsTie_64 flX4_19 rfl (by first | rfl | assumption) ?_
            rw [zup_on]
            refine z_istore_3 (pc := 67) dX4_readsTie_67 (by decide) rfl ?_
            refine z_aload_0 (pc := 68) dX4_readsTie_68 ?_
            refine z_iconst (pc := 69) (0) dX4_readsTie_69 rfl ?_
            refine z_aload_1 (pc := 70) dX4_readsTie_70 ?_
            refine y_getI (pc := 71) dX4_readsTie_71 flX4_68 rfl (by first | rfl | assumption) ?_
            repeat rw [zup_no (by omega)]
            rw [hv.2.2.1.1]
            refine z_iconst (pc := 74) (1) dX4_readsTie_74 rfl ?_
            refine z_isub (pc := 75) dX4_readsTie_75 ?_
            rw [show nI n - 1 = nI (n - 1) from hpr]
            refine z_V2 (pc := 76) dX4_readsTie_76 mlX4_52 kX4_number vX4_number (by decide) (by decide) (by first | rfl | assumption) (Nat.le_of_ble_eq_true rfl) (qX4_number (by repeat (first | exact hT1 | refine zTc_up ?_ (by decide))) (by first | exact zup_on | (rw [zup_no (Or.inl (by decide))]; exact zup_on) | exact ha) (by omega) 0 (n - 1) (by decide) (by omega)) ⟨Nat.le_refl _, Nat.le_refl _⟩ (fun r h1 hq => ?_)
            obtain ⟨f2, q2, a2, e2, rfl, rfl⟩ := hq
            have hz2 := zPn_le hT1 e2
            refine z_istore_4 (pc := 79) dX4_readsTie_79 (by decide) rfl ?_
            refine z_iload_4 (pc := 81) dX4_readsTie_81 ?_
            refine z_iconst (pc := 83) (-1) dX4_readsTie_83 rfl ?_
            refine z_icmp_ne (pc := 84) (tgt := 89) dX4_readsTie_84 (by decide) (fun c84 => ?_) (fun c84 => ?_)
            · skip
              have hf2 : f2 = 0 := nf_ok c84
              subst hf2
              rw [if_pos (rfl : (0 : Nat) = 0), if_pos (rfl : (0 : Nat) = 0)]
              have hm2 := hz2.2 rfl
              have hq1 : q1 < 6 := by omega
              have hq2 : q2 < 6 := by omega
              have hBk : ∀ k, k < T → v (34 + k) = nI (v (34 + k)).toNatClampNeg ∧ (v (34 + k)).toNatClampNeg < 6 := by
                intro k hk
                obtain ⟨q, hq, e⟩ := hP.2.2.2.2.2.2.1 k hk
                rw [e, nI_clamp (by omega)]
                exact ⟨rfl, by omega⟩
              have hB3 : ∀ k, k < T → (upd (upd v (24 + T) (nI q1)) (34 + T) (nI q2)) (34 + k) = nI (v (34 + k)).toNatClampNeg ∧ (v (34 + k)).toNatClampNeg < 6 := by
                intro k hk
                rw [pk_un (by omega), pk_un (by omega)]; exact hBk k hk
              refine z_iload_4 (pc := 89) dX4_readsTie_89 ?_
              refine z_iload_2 (pc := 91) dX4_readsTie_91 ?_
              refine z_icmp_eq (pc := 92) (tgt := 108) dX4_readsTie_92 (by decide) (fun c92 => ?_) (fun c92 => ?_)
              · skip
                have hwl := zwl_eq (I := (zup (zup (zup (zup I1 13 2 (nI (a + 1))) 13 2 (nI a1)) 13 2 (nI (a1 + 1))) 13 2 (nI a2))) (v := (upd (upd v (24 + T) (nI q1)) (34 + T) (nI q2))) (B := (fun k => (v (34 + k)).toNatClampNeg)) (T := T) (q1 := q1) (q2 := q2) (fun k hk => by
                  rw [pk_un (by omega), pk_un (by omega)]
                  repeat rw [zup_no (by omega)]
                  exact (hv.2.2.2.2.1 k hk).1) hB3 (by rw [pk_un (by omega), pk_us]) (by rw [pk_us]) hq1 hq2 T (Nat.le_refl _)
                have hw : ¬ zwl (upd (upd v (24 + T) (nI q1)) (34 + T) (nI q2)) T T = true := by
                  rw [hwl, decide_eq_true ((nI_eq (by omega) (by omega)).mp c92), Bool.not_true, Bool.false_and]
                  decide
                refine z_aload_0 (pc := 108) dX4_readsTie_108 ?_
                refine z_iload_3 (pc := 109) dX4_readsTie_109 ?_
                refine y_putI (pc := 110) dX4_readsTie_110 flX4_19 ffX4_19 rfl (by first | rfl | assumption) ⟨rfl, rfl⟩ ?_
                refine z_aload_0 (pc := 113) dX4_readsTie_113 ?_
                refine z_iconst (pc := 114) (2) dX4_readsTie_114 rfl ?_
                refine z_V1 (pc := 115) dX4_readsTie_115 mlX4_65 kX4_fails vX4_fails (by decide) (by decide) (by first | rfl | assumption) (Nat.le_of_ble_eq_true rfl) (qX4_fails) ⟨Nat.le_refl _, Nat.le_refl _⟩ (fun r h1 hq => ?_)
                obtain ⟨rfl, rfl⟩ := hq
                refine z_ret (pc := 118) (r := some (.int _)) rfl dX4_readsTie_118 (by first | exact Or.inl rfl | exact Or.inr rfl | assumption) rfl rfl ?_
                have eR : ∃ w, ztiC b n T a v = (2, a1 + 1, w) := ⟨_, by
                  unfold ztiC zti
                  rw [if_pos h0, if_neg hT10]
                  rw [zbd_ok (znm_yes e1), zbd_ok (zsg_yes h2), zbd_ok (znm_yes e2), if_neg hw]⟩
                obtain ⟨w, eR⟩ := eR
                rw [eR]
                refine ⟨by rw [decide_eq_false (zr3_no (by decide : ¬ (2 : Nat) = 0))]; rfl, _, rfl, fun z => absurd z (zr3_no (by decide : ¬ (2 : Nat) = 0)), fun _ => ⟨fun x y g1 g2 => ?_, ?_, ?_⟩⟩
                · repeat rw [zup_no (by omega)]
                  exact hs x y g1 (by omega)
                · repeat (first | rw [zup_on] | rw [zup_no (by decide)])
                  try rfl
                · show _ = nI (a1 + 1)
                  repeat (first | rw [zup_on] | rw [zup_no (by decide)])
                  try exact ha
              · skip
                refine z_aload_1 (pc := 95) dX4_readsTie_95 ?_
                refine z_iload_2 (pc := 96) dX4_readsTie_96 ?_
                refine z_V1 (pc := 97) dX4_readsTie_97 mlX4_78 kX7_hearersOf vX7_hearersOf (by decide) (by decide) (by first | rfl | assumption) (Nat.le_of_ble_eq_true rfl) (qX7_hearersOf23 T hv.1.2 (by repeat (first | exact hv.2.2.1.2 | rw [zup_no (by omega)]))) ⟨Nat.le_refl _, Nat.le_refl _⟩ (fun r h1 hq => ?_)
                obtain ⟨rfl, rfl⟩ := hq
                refine z_iload_4 (pc := 100) dX4_readsTie_100 ?_
                refine z_ishr (pc := 102) dX4_readsTie_102 ?_
                refine z_iconst (pc := 103) (1) dX4_readsTie_103 rfl ?_
                refine z_iand (pc := 104) dX4_readsTie_104 ?_
                refine z_if_eq (pc := 105) (tgt := 119) dX4_readsTie_105 (by decide) (fun c105 => ?_) (fun c105 => ?_)
                · skip
                  have hwl := zwl_eq (I := (zup (zup (zup (zup I1 13 2 (nI (a + 1))) 13 2 (nI a1)) 13 2 (nI (a1 + 1))) 13 2 (nI a2))) (v := (upd (upd v (24 + T) (nI q1)) (34 + T) (nI q2))) (B := (fun k => (v (34 + k)).toNatClampNeg)) (T := T) (q1 := q1) (q2 := q2) (fun k hk => by
                    rw [pk_un (by omega), pk_un (by omega)]
                    repeat rw [zup_no (by omega)]
                    exact (hv.2.2.2.2.1 k hk).1) hB3 (by rw [pk_un (by omega), pk_us]) (by rw [pk_us]) hq1 hq2 T (Nat.le_refl _)
                  have hhb : zhear23 (zup (zup (zup (zup I1 13 2 (nI (a + 1))) 13 2 (nI a1)) 13 2 (nI (a1 + 1))) 13 2 (nI a2)) (nI q1) T = nI (bs (zhx (zup (zup (zup (zup I1 13 2 (nI (a + 1))) 13 2 (nI a1)) 13 2 (nI (a1 + 1))) 13 2 (nI a2)) (nI q1) (fun k => (v (34 + k)).toNatClampNeg) T)) := zhear_bs T (fun k hk => by
                    repeat rw [zup_no (by omega)]
                    rw [(hv.2.2.2.2.1 k hk).2]
                    exact hBk k hk)
                  rw [hhb, bs_test _ q2 hq2] at c105
                  have hne : ¬ q2 = q1 := fun z => c92 (by rw [z])
                  have hw : zwl (upd (upd v (24 + T) (nI q1)) (34 + T) (nI q2)) T T = true := by
                    rw [hwl, decide_eq_false hne]
                    by_cases z : zhx (zup (zup (zup (zup I1 13 2 (nI (a + 1))) 13 2 (nI a1)) 13 2 (nI (a1 + 1))) 13 2 (nI a2)) (nI q1) (fun k => (v (34 + k)).toNatClampNeg) T q2 = true
                    · rw [if_pos z] at c105; exact absurd c105 (by decide)
                    · rw [show zhx (zup (zup (zup (zup I1 13 2 (nI (a + 1))) 13 2 (nI a1)) 13 2 (nI (a1 + 1))) 13 2 (nI a2)) (nI q1) (fun k => (v (34 + k)).toNatClampNeg) T q2 = false from by
                        cases q : zhx (zup (zup (zup (zup I1 13 2 (nI (a + 1))) 13 2 (nI a1)) 13 2 (nI (a1 + 1))) 13 2 (nI a2)) (nI q1) (fun k => (v (34 + k)).toNatClampNeg) T q2
                        · rfl
                        · exact absurd q z]
                      rfl
                  refine z_aload_0 (pc := 119) dX4_readsTie_119 ?_
                  refine z_bipush (pc := 120) (59) dX4_readsTie_120 rfl ?_
                  refine z_V1 (pc := 122) dX4_readsTie_122 mlX4_48 kX4_passes vX4_passes (by decide) (by decide) (by first | rfl | assumption) (Nat.le_of_ble_eq_true rfl) (qX4_passes (by repeat (first | exact hT1 | refine zTc_up ?_ (by decide))) (by first | exact zup_on | (rw [zup_no (Or.inl (by decide))]; exact zup_on) | exact ha) (by omega) 59 (by decide)) ⟨Nat.le_refl _, Nat.le_refl _⟩ (fun r h1 hq => ?_)
                  obtain ⟨rfl, rfl⟩ := hq
                  refine z_if_ne (pc := 125) (tgt := 130) dX4_readsTie_125 (by decide) (fun c125 => ?_) (fun c125 => ?_)
                  · skip
                    have h4 : b a2 = 59 := of_decide_eq_true ((zbb1 _).mp c125)
                    rw [if_pos h4]
                    have hl4 := zle1 hT1 (by decide) h4
                    refine z_aload_1 (pc := 130) dX4_readsTie_130 ?_
                    refine z_iload_2 (pc := 131) dX4_readsTie_131 ?_
                    refine z_iload_4 (pc := 132) dX4_readsTie_132 ?_
                    refine z_V2 (pc := 134) dX4_readsTie_134 mlX4_81 kX7_addTie vX7_addTie (by decide) (by decide) (by first | rfl | assumption) (Nat.le_of_ble_eq_true rfl) (qX7_addTie T (by omega) (by repeat (first | exact hv.2.2.1.2 | rw [zup_no (by omega)]))) ⟨Nat.le_refl _, Nat.le_refl _⟩ (fun r h1 hq => ?_)
                    obtain ⟨rfl, rfl⟩ := hq
                    refine z_iconst (pc := 137) (1) dX4_readsTie_137 rfl ?_
                    refine z_ret (pc := 138) (r := some (.int _)) rfl dX4_readsTie_138 (by first | exact Or.inl rfl | exact Or.inr rfl | assumption) rfl rfl ?_
                    have eR : ztiC b n T a v = (0, a2 + 1, upd (upd (upd v (24 + T) (nI q1)) (34 + T) (nI q2)) 4 (nI (T + 1))) := by
                      unfold ztiC zti
                      rw [if_pos h0, if_neg hT10]
                      rw [zbd_ok (znm_yes e1), zbd_ok (zsg_yes h2), zbd_ok (znm_yes e2), if_pos hw, zsg_yes h4]
                    rw [eR]
                    refine ⟨rfl, _, rfl, fun _ => ⟨fun x y g1 g2 => ?_, ?_, hl4, ⟨⟨hv.1.1, by omega⟩, ⟨?_, ?_, ?_⟩, ⟨?_, ?_⟩, fun d hd => ⟨?_, ?_, ?_⟩, fun k hk => ⟨?_, ?_⟩, fun q hq => ?_⟩⟩, fun z => absurd rfl z⟩
                    · repeat rw [zup_no (by omega)]
                      exact hs x y g1 (by omega)
                    · show _ = nI (a2 + 1)
                      repeat (first | rw [zup_on] | rw [zup_no (by omega)])
                    · show _ = upd (upd (upd v (24 + T) (nI q1)) (34 + T) (nI q2)) 4 (nI (T + 1)) 0
                      rw [pk_un (by omega), pk_un (by omega), pk_un (by omega)]
                      repeat rw [zup_no (by omega)]
                      exact hv.2.1.1
                    · show _ = upd (upd (upd v (24 + T) (nI q1)) (34 + T) (nI q2)) 4 (nI (T + 1)) 1
                      rw [pk_un (by omega), pk_un (by omega), pk_un (by omega)]
                      repeat rw [zup_no (by omega)]
                      exact hv.2.1.2.1
                    · show _ = upd (upd (upd v (24 + T) (nI q1)) (34 + T) (nI q2)) 4 (nI (T + 1)) 2
                      rw [pk_un (by omega), pk_un (by omega), pk_un (by omega)]
                      repeat rw [zup_no (by omega)]
                      exact hv.2.1.2.2
                    · repeat rw [zup_no (by omega)]
                      exact hv.2.2.1.1
                    · rw [zup_on]
                    · show _ = upd _ _ _ (6 + d)
                      rw [pk_un (by omega), pk_un (by omega), pk_un (by omega)]
                      repeat rw [zup_no (by omega)]
                      exact (hv.2.2.2.1 d hd).1
                    · show _ = upd _ _ _ (12 + d)
                      rw [pk_un (by omega), pk_un (by omega), pk_un (by omega)]
                      repeat rw [zup_no (by omega)]
                      exact (hv.2.2.2.1 d hd).2.1
                    · show _ = upd _ _ _ (18 + d)
                      rw [pk_un (by omega), pk_un (by omega), pk_un (by omega)]
                      repeat rw [zup_no (by omega)]
                      exact (hv.2.2.2.1 d hd).2.2
                    · show _ = upd _ _ _ (24 + k)
                      rw [pk_un (by omega), pk_un (by omega), zup_no (by omega), zup_no (by omega)]
                      by_cases z : k = T
                      · subst z; rw [zup_on, pk_us]
                      · rw [zup_no (Or.inr z), pk_un (by omega)]
                        repeat rw [zup_no (by omega)]
                        exact (hv.2.2.2.2.1 k (by omega)).1
                    · show _ = upd _ _ _ (34 + k)
                      rw [pk_un (by omega), zup_no (by omega)]
                      by_cases z : k = T
                      · subst z; rw [zup_on, pk_us]
                      · rw [zup_no (Or.inr z), pk_un (by omega), pk_un (by omega)]
                        repeat rw [zup_no (by omega)]
                        exact (hv.2.2.2.2.1 k (by omega)).2
                    · repeat rw [zup_no (by omega)]
                      exact hv.2.2.2.2.2 q hq
                  · skip
                    refine z_iconst (pc := 128) (0) dX4_readsTie_128 rfl ?_
                    refine z_ret (pc := 129) (r := some (.int _)) rfl dX4_readsTie_129 (by first | exact Or.inl rfl | exact Or.inr rfl | assumption) rfl rfl ?_
                    have hn : ¬ b a2 = 59 := of_decide_eq_false ((zbb0 _).mp c125)
                    rw [if_neg hn]
                    have eR : ∃ w, ztiC b n T a v = (1, a2, w) := ⟨_, by
                      unfold ztiC zti
                      rw [if_pos h0, if_neg hT10]
                      rw [zbd_ok (znm_yes e1), zbd_ok (zsg_yes h2), zbd_ok (znm_yes e2), if_pos hw, zsg_nope hn]⟩
                    obtain ⟨w, eR⟩ := eR
                    rw [eR]
                    refine ⟨by rw [decide_eq_false (zr3_no (by decide : ¬ (1 : Nat) = 0))]; rfl, _, rfl, fun z => absurd z (zr3_no (by decide : ¬ (1 : Nat) = 0)), fun _ => ⟨fun x y g1 g2 => ?_, ?_, ?_⟩⟩
                    · repeat rw [zup_no (by omega)]
                      exact hs x y g1 (by omega)
                    · repeat (first | rw [zup_on] | rw [zup_no (by decide)])
                      try rfl
                    · show _ = nI a2
                      repeat (first | rw [zup_on] | rw [zup_no (by decide)])
                      try exact ha
                · skip
                  have hwl := zwl_eq (I := (zup (zup (zup (zup I1 13 2 (nI (a + 1))) 13 2 (nI a1)) 13 2 (nI (a1 + 1))) 13 2 (nI a2))) (v := (upd (upd v (24 + T) (nI q1)) (34 + T) (nI q2))) (B := (fun k => (v (34 + k)).toNatClampNeg)) (T := T) (q1 := q1) (q2 := q2) (fun k hk => by
                    rw [pk_un (by omega), pk_un (by omega)]
                    repeat rw [zup_no (by omega)]
                    exact (hv.2.2.2.2.1 k hk).1) hB3 (by rw [pk_un (by omega), pk_us]) (by rw [pk_us]) hq1 hq2 T (Nat.le_refl _)
                  have hhb : zhear23 (zup (zup (zup (zup I1 13 2 (nI (a + 1))) 13 2 (nI a1)) 13 2 (nI (a1 + 1))) 13 2 (nI a2)) (nI q1) T = nI (bs (zhx (zup (zup (zup (zup I1 13 2 (nI (a + 1))) 13 2 (nI a1)) 13 2 (nI (a1 + 1))) 13 2 (nI a2)) (nI q1) (fun k => (v (34 + k)).toNatClampNeg) T)) := zhear_bs T (fun k hk => by
                    repeat rw [zup_no (by omega)]
                    rw [(hv.2.2.2.2.1 k hk).2]
                    exact hBk k hk)
                  rw [hhb, bs_test _ q2 hq2] at c105
                  have hw : ¬ zwl (upd (upd v (24 + T) (nI q1)) (34 + T) (nI q2)) T T = true := by
                    rw [hwl]
                    by_cases z : zhx (zup (zup (zup (zup I1 13 2 (nI (a + 1))) 13 2 (nI a1)) 13 2 (nI (a1 + 1))) 13 2 (nI a2)) (nI q1) (fun k => (v (34 + k)).toNatClampNeg) T q2 = true
                    · rw [z, Bool.not_true, Bool.and_false]; decide
                    · rw [if_neg z] at c105; exact absurd rfl c105
                  refine z_aload_0 (pc := 108) dX4_readsTie_108 ?_
                  refine z_iload_3 (pc := 109) dX4_readsTie_109 ?_
                  refine y_putI (pc := 110) dX4_readsTie_110 flX4_19 ffX4_19 rfl (by first | rfl | assumption) ⟨rfl, rfl⟩ ?_
                  refine z_aload_0 (pc := 113) dX4_readsTie_113 ?_
                  refine z_iconst (pc := 114) (2) dX4_readsTie_114 rfl ?_
                  refine z_V1 (pc := 115) dX4_readsTie_115 mlX4_65 kX4_fails vX4_fails (by decide) (by decide) (by first | rfl | assumption) (Nat.le_of_ble_eq_true rfl) (qX4_fails) ⟨Nat.le_refl _, Nat.le_refl _⟩ (fun r h1 hq => ?_)
                  obtain ⟨rfl, rfl⟩ := hq
                  refine z_ret (pc := 118) (r := some (.int _)) rfl dX4_readsTie_118 (by first | exact Or.inl rfl | exact Or.inr rfl | assumption) rfl rfl ?_
                  have eR : ∃ w, ztiC b n T a v = (2, a1 + 1, w) := ⟨_, by
                    unfold ztiC zti
                    rw [if_pos h0, if_neg hT10]
                    rw [zbd_ok (znm_yes e1), zbd_ok (zsg_yes h2), zbd_ok (znm_yes e2), if_neg hw]⟩
                  obtain ⟨w, eR⟩ := eR
                  rw [eR]
                  refine ⟨by rw [decide_eq_false (zr3_no (by decide : ¬ (2 : Nat) = 0))]; rfl, _, rfl, fun z => absurd z (zr3_no (by decide : ¬ (2 : Nat) = 0)), fun _ => ⟨fun x y g1 g2 => ?_, ?_, ?_⟩⟩
                  · repeat rw [zup_no (by omega)]
                    exact hs x y g1 (by omega)
                  · repeat (first | rw [zup_on] | rw [zup_no (by decide)])
                    try rfl
                  · show _ = nI (a1 + 1)
                    repeat (first | rw [zup_on] | rw [zup_no (by decide)])
                    try exact ha
            · skip
              refine z_iconst (pc := 87) (0) dX4_readsTie_87 rfl ?_
              refine z_ret (pc := 88) (r := some (.int _)) rfl dX4_readsTie_88 (by first | exact Or.inl rfl | exact Or.inr rfl | assumption) rfl rfl ?_
              have hn : ¬ f2 = 0 := nf_no hz2.1 c84
              rw [if_neg hn]
              have eR : ∃ w, ztiC b n T a v = (f2, (a1 + 1), w) := ⟨_, by
                unfold ztiC zti
                rw [if_pos h0, if_neg hT10]
                rw [zbd_ok (znm_yes e1), zbd_ok (zsg_yes h2), zbd_no (by rw [znm_nope e2 hn]; exact zr3_no hn), znm_nope e2 hn]⟩
              obtain ⟨w, eR⟩ := eR
              rw [eR]
              refine ⟨by rw [decide_eq_false (zr3_no hn)]; rfl, _, rfl, fun z => absurd z (zr3_no hn), fun _ => ⟨fun x y g1 g2 => ?_, ?_, ?_⟩⟩
              · repeat rw [zup_no (by omega)]
                exact hs x y g1 (by omega)
              · repeat (first | rw [zup_on] | rw [zup_no (by decide)])
                try rfl
              · show _ = nI (a1 + 1)
                repeat (first | rw [zup_on] | rw [zup_no (by decide)])
                try exact ha
          · skip
            refine z_iconst (pc := 61) (0) dX4_readsTie_61 rfl ?_
            refine z_ret (pc := 62) (r := some (.int _)) rfl dX4_readsTie_62 (by first | exact Or.inl rfl | exact Or.inr rfl | assumption) rfl rfl ?_
            have hn : ¬ b a1 = 44 := of_decide_eq_false ((zbb0 _).mp c58)
            rw [if_neg hn]
            have eR : ∃ w, ztiC b n T a v = (1, a1, w) := ⟨_, by
              unfold ztiC zti
              rw [if_pos h0, if_neg hT10]
              rw [zbd_ok (znm_yes e1), zbd_no (by rw [zsg_nope hn]; exact zr3_no (by decide)), zsg_nope hn]⟩
            obtain ⟨w, eR⟩ := eR
            rw [eR]
            refine ⟨by rw [decide_eq_false (zr3_no (by decide : ¬ (1 : Nat) = 0))]; rfl, _, rfl, fun z => absurd z (zr3_no (by decide : ¬ (1 : Nat) = 0)), fun _ => ⟨fun x y g1 g2 => ?_, ?_, ?_⟩⟩
            · repeat rw [zup_no (by omega)]
              exact hs x y g1 (by omega)
            · repeat (first | rw [zup_on] | rw [zup_no (by decide)])
              try rfl
            · show _ = nI a1
              repeat (first | rw [zup_on] | rw [zup_no (by decide)])
              try exact ha
      · exact absurd ((zby_is hT1 a (by decide) rfl).mp c6) (of_decide_eq_false ((zbb0 _).mp c30))
    · skip
      refine z_aload_0 (pc := 18) dX4_readsTie_18 ?_
      refine z_iconst (pc := 19) (3) dX4_readsTie_19 rfl ?_
      refine z_V1 (pc := 20) dX4_readsTie_20 mlX4_65 kX4_fails vX4_fails (by decide) (by decide) (by first | rfl | assumption) (Nat.le_of_ble_eq_true rfl) (qX4_fails) ⟨Nat.le_refl _, Nat.le_refl _⟩ (fun r h1 hq => ?_)
      obtain ⟨rfl, rfl⟩ := hq
      refine z_ret (pc := 23) (r := some (.int _)) rfl dX4_readsTie_23 (by first | exact Or.inl rfl | exact Or.inr rfl | assumption) rfl rfl ?_
      have h6 : T = 10 := by
        rcases Nat.lt_or_ge T 10 with z | z
        · exact absurd (nI_lt z (by decide)) c15
        · omega
      have h0 : b a = 116 := (zby_is hT1 a (by decide) rfl).mp c6
      have eR : ztiC b n T a v = (3, a, v) := by unfold ztiC zti; rw [if_pos h0, if_pos h6]
      rw [eR]
      refine ⟨by rw [decide_eq_false (zr3_no (by decide : ¬ (3 : Nat) = 0))]; rfl, _, rfl, fun z => absurd z (zr3_no (by decide : ¬ (3 : Nat) = 0)), fun _ => ⟨fun x y g1 g2 => ?_, ?_, ?_⟩⟩
      · repeat rw [zup_no (by omega)]
        exact hs x y g1 (by omega)
      · repeat (first | rw [zup_on] | rw [zup_no (by decide)])
        try rfl
      · show _ = nI a
        repeat (first | rw [zup_on] | rw [zup_no (by decide)])
        try exact ha
