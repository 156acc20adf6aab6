def zsrt (c : Nat) : Nat := if c = 100 then 1 else if c = 103 then 2 else if c = 119 then 3 else if c = 98 then 4 else if c = 114 then 5 else 0
theorem zsrt_lt (c : Nat) : zsrt c < 6 := by
  unfold zsrt
  by_cases h1 : c = 100
  · rw [if_pos h1]; omega
  · rw [if_neg h1]
    by_cases h2 : c = 103
    · rw [if_pos h2]; omega
    · rw [if_neg h2]
      by_cases h3 : c = 119
      · rw [if_pos h3]; omega
      · rw [if_neg h3]
        by_cases h4 : c = 98
        · rw [if_pos h4]; omega
        · rw [if_neg h4]
          by_cases h5 : c = 114
          · rw [if_pos h5]; omega
          · rw [if_neg h5]; omega
theorem nI_is {q c : Nat} {x : Int32} (hq : q < 2 ^ 31) (hc : c < 2 ^ 31) (hx : x = nI c) : nI q = x ↔ q = c := by rw [hx]; exact nI_eq hq hc
def zdr (b : Nat → Nat) (s n a : Nat) (v : Nat → Int32) : zR3 := if n = 6 then (3, a, v) else zbd (znm b (12 + n) 0 12 (a + 1) (upd (upd v (6 + n) (nI s)) 3 (nI (n + 1)))) (fun a v => zbd (zsg b 44 a v) (fun a v => zbd (znm b (18 + n) 0 5 a v) (fun a v => zsg b 59 a v)))
def zwl (v : Nat → Int32) (T : Nat) : Nat → Bool
  | 0 => !decide (v (34 + T) = v (24 + T))
  | k + 1 => zwl v T k && !(decide (v (24 + k) = v (24 + T)) && decide (v (34 + k) = v (34 + T)))
def zti (b : Nat → Nat) (n T a : Nat) (v : Nat → Int32) : zR3 := if T = 10 then (3, a, v) else zbd (znm b (24 + T) 0 (n - 1) (a + 1) v) (fun a v => zbd (zsg b 44 a v) (fun a2 v => zbd (znm b (34 + T) 0 (n - 1) a2 v) (fun a v => if zwl v T T = true then zsg b 59 a (upd v 4 (nI (T + 1))) else (2, a2, v))))
theorem znm_v {b : Nat → Nat} {pl lo hi a a1 : Nat} {v v1 : Nat → Int32} (h : znm b pl lo hi a v = (0, a1, v1)) : ∃ q, lo ≤ q ∧ q ≤ hi ∧ v1 = upd v pl (nI q) ∧ zPn b a lo hi = (0, q, a1) := by
  unfold znm at h
  by_cases h0 : (zPn b a lo hi).1 = 0
  · rw [if_pos h0] at h
    have h1 : (zPn b a lo hi).2.2 = a1 := congrArg (fun r : zR3 => r.2.1) h
    have h2 : upd v pl (nI (zPn b a lo hi).2.1) = v1 := congrArg (fun r : zR3 => r.2.2) h
    refine ⟨(zPn b a lo hi).2.1, ?_, ?_, h2.symm, ?_⟩
    · unfold zPn at h0 ⊢
      by_cases q1 : znf b a = 1 ∨ znf b a = 2
      · rw [if_pos q1] at h0 ⊢
        by_cases q2 : lo ≤ zvl b a (znf b a) ∧ zvl b a (znf b a) ≤ hi
        · rw [if_pos q2]; exact q2.1
        · rw [if_neg q2] at h0; exact absurd (show (2 : Nat) = 0 from h0) (by decide)
      · rw [if_neg q1] at h0; exact absurd (show (1 : Nat) = 0 from h0) (by decide)
    · unfold zPn at h0 ⊢
      by_cases q1 : znf b a = 1 ∨ znf b a = 2
      · rw [if_pos q1] at h0 ⊢
        by_cases q2 : lo ≤ zvl b a (znf b a) ∧ zvl b a (znf b a) ≤ hi
        · rw [if_pos q2]; exact q2.2
        · rw [if_neg q2] at h0; exact absurd (show (2 : Nat) = 0 from h0) (by decide)
      · rw [if_neg q1] at h0; exact absurd (show (1 : Nat) = 0 from h0) (by decide)
    · exact Prod.ext h0 (Prod.ext rfl h1)
  · rw [if_neg h0] at h
    exact absurd (congrArg (fun r : zR3 => r.1) h) h0
theorem zsg_v {b : Nat → Nat} {c a a1 : Nat} {v v1 : Nat → Int32} (h : zsg b c a v = (0, a1, v1)) : v1 = v ∧ a1 = a + 1 ∧ b a = c := by
  unfold zsg at h
  by_cases q : b a = c
  · rw [if_pos q] at h
    exact ⟨(congrArg (fun r : zR3 => r.2.2) h).symm, (congrArg (fun r : zR3 => r.2.1) h).symm, q⟩
  · rw [if_neg q] at h
    exact absurd (congrArg (fun r : zR3 => r.1) h) (by dsimp only; decide)
set_option maxRecDepth 100000 in
set_option maxHeartbeats 4000000 in
theorem qX9_sortOf {l : zL} {I : Nat → Nat → Int32} {J : Nat → Nat → Int64} {nw : Bool} (q : Nat) (hq : q < 1000) : zP l mX9_sortOf [.int (nI q)] (hh I J nw) (zR (some (.int (nI (zsrt q)))) (hh I J nw)) := by
  refine z_start [.int (nI q)] (by decide +kernel) (Nat.le_of_ble_eq_true rfl) rfl ?_
  refine z_iload_0 (pc := 0) dX9_sortOf_0 ?_
  refine z_bipush (pc := 1) (100) dX9_sortOf_1 rfl ?_
  refine z_icmp_ne (pc := 3) (tgt := 10) dX9_sortOf_3 (by decide) (fun c3 => ?_) (fun c3 => ?_)
  · skip
    refine z_iload_0 (pc := 10) dX9_sortOf_10 ?_
    refine z_bipush (pc := 11) (103) dX9_sortOf_11 rfl ?_
    refine z_icmp_ne (pc := 13) (tgt := 20) dX9_sortOf_13 (by decide) (fun c13 => ?_) (fun c13 => ?_)
    · skip
      refine z_iload_0 (pc := 20) dX9_sortOf_20 ?_
      refine z_bipush (pc := 21) (119) dX9_sortOf_21 rfl ?_
      refine z_icmp_ne (pc := 23) (tgt := 30) dX9_sortOf_23 (by decide) (fun c23 => ?_) (fun c23 => ?_)
      · skip
        refine z_iload_0 (pc := 30) dX9_sortOf_30 ?_
        refine z_bipush (pc := 31) (98) dX9_sortOf_31 rfl ?_
        refine z_icmp_ne (pc := 33) (tgt := 40) dX9_sortOf_33 (by decide) (fun c33 => ?_) (fun c33 => ?_)
        · skip
          refine z_iload_0 (pc := 40) dX9_sortOf_40 ?_
          refine z_bipush (pc := 41) (114) dX9_sortOf_41 rfl ?_
          refine z_icmp_ne (pc := 43) (tgt := 50) dX9_sortOf_43 (by decide) (fun c43 => ?_) (fun c43 => ?_)
          · skip
            refine z_iconst (pc := 50) (0) dX9_sortOf_50 rfl ?_
            refine z_ret (pc := 51) (r := some (.int _)) rfl dX9_sortOf_51 trivial rfl rfl ?_
            refine ⟨?_, rfl⟩
            unfold zsrt
            rw [if_neg (fun z => c3 ((nI_is (c := 100) (by omega) (by decide) rfl).mpr z)), if_neg (fun z => c13 ((nI_is (c := 103) (by omega) (by decide) rfl).mpr z)), if_neg (fun z => c23 ((nI_is (c := 119) (by omega) (by decide) rfl).mpr z)), if_neg (fun z => c33 ((nI_is (c := 98) (by omega) (by decide) rfl).mpr z)), if_neg (fun z => c43 ((nI_is (c := 114) (by omega) (by decide) rfl).mpr z))]
            try rfl
          · skip
            refine z_iconst (pc := 46) (5) dX9_sortOf_46 rfl ?_
            refine z_goto (pc := 47) (tgt := 51) dX9_sortOf_47 (by decide) ?_
            refine z_ret (pc := 51) (r := some (.int _)) rfl dX9_sortOf_51 trivial rfl rfl ?_
            refine ⟨?_, rfl⟩
            unfold zsrt
            rw [if_neg (fun z => c3 ((nI_is (c := 100) (by omega) (by decide) rfl).mpr z)), if_neg (fun z => c13 ((nI_is (c := 103) (by omega) (by decide) rfl).mpr z)), if_neg (fun z => c23 ((nI_is (c := 119) (by omega) (by decide) rfl).mpr z)), if_neg (fun z => c33 ((nI_is (c := 98) (by omega) (by decide) rfl).mpr z)), if_pos ((nI_is (by omega) (by decide) rfl).mp c43)]
            try rfl
        · skip
          refine z_iconst (pc := 36) (4) dX9_sortOf_36 rfl ?_
          refine z_goto (pc := 37) (tgt := 51) dX9_sortOf_37 (by decide) ?_
          refine z_ret (pc := 51) (r := some (.int _)) rfl dX9_sortOf_51 trivial rfl rfl ?_
          refine ⟨?_, rfl⟩
          unfold zsrt
          rw [if_neg (fun z => c3 ((nI_is (c := 100) (by omega) (by decide) rfl).mpr z)), if_neg (fun z => c13 ((nI_is (c := 103) (by omega) (by decide) rfl).mpr z)), if_neg (fun z => c23 ((nI_is (c := 119) (by omega) (by decide) rfl).mpr z)), if_pos ((nI_is (by omega) (by decide) rfl).mp c33)]
          try rfl
      · skip
        refine z_iconst (pc := 26) (3) dX9_sortOf_26 rfl ?_
        refine z_goto (pc := 27) (tgt := 51) dX9_sortOf_27 (by decide) ?_
        refine z_ret (pc := 51) (r := some (.int _)) rfl dX9_sortOf_51 trivial rfl rfl ?_
        refine ⟨?_, rfl⟩
        unfold zsrt
        rw [if_neg (fun z => c3 ((nI_is (c := 100) (by omega) (by decide) rfl).mpr z)), if_neg (fun z => c13 ((nI_is (c := 103) (by omega) (by decide) rfl).mpr z)), if_pos ((nI_is (by omega) (by decide) rfl).mp c23)]
        try rfl
    · skip
      refine z_iconst (pc := 16) (2) dX9_sortOf_16 rfl ?_
      refine z_goto (pc := 17) (tgt := 51) dX9_sortOf_17 (by decide) ?_
      refine z_ret (pc := 51) (r := some (.int _)) rfl dX9_sortOf_51 trivial rfl rfl ?_
      refine ⟨?_, rfl⟩
      unfold zsrt
      rw [if_neg (fun z => c3 ((nI_is (c := 100) (by omega) (by decide) rfl).mpr z)), if_pos ((nI_is (by omega) (by decide) rfl).mp c13)]
      try rfl
  · skip
    refine z_iconst (pc := 6) (1) dX9_sortOf_6 rfl ?_
    refine z_goto (pc := 7) (tgt := 51) dX9_sortOf_7 (by decide) ?_
    refine z_ret (pc := 51) (r := some (.int _)) rfl dX9_sortOf_51 trivial rfl rfl ?_
    refine ⟨?_, rfl⟩
    unfold zsrt
    rw [if_pos ((nI_is (by omega) (by decide) rfl).mp c3)]
    try rfl
set_option maxRecDepth 100000 in
set_option maxHeartbeats 4000000 in
theorem qX9_readsDrinker {l : zL} {I : Nat → Nat → Int32} {J : Nat → Nat → Int64} {nw : Bool} {I1 : Nat → Nat → Int32} {v : Nat → Int32} {b : Nat → Nat} {a L : Nat} (hT : zTp I b L) (hM : zMr I I1 v (a + 1)) (h16 : I1 85 16 = nI a) (s n : Nat) (hn : n ≤ 6) (en : v 3 = nI n) : zP l mX9_readsDrinker [.ref 85, .int (nI s)] (hh I1 J nw) (zMq I J nw (zdr b s n a v)) := by
  have h953 : I1 95 3 = nI n := by rw [hM.2.1 3 (by decide)]; exact en
  refine z_start [.ref 85, .int (nI s), zno] (by decide +kernel) (Nat.le_of_ble_eq_true rfl) rfl ?_
  refine z_aload_0 (pc := 0) dX9_readsDrinker_0 ?_
  refine y_getR (pc := 1) dX9_readsDrinker_1 flX9_38 rfl (by first | rfl | assumption) (by first | rfl | assumption) ?_
  refine z_iconst (pc := 4) (3) dX9_readsDrinker_4 rfl ?_
  refine y_ialdN (pc := 5) (3) dX9_readsDrinker_5 (by first | rfl | assumption) (rfl) (by decide) (by first | decide | omega) ?_
  rw [h953]
  refine z_istore_2 (pc := 6) dX9_readsDrinker_6 (by decide) rfl ?_
  refine z_iload_2 (pc := 7) dX9_readsDrinker_7 ?_
  refine z_bipush (pc := 8) (6) dX9_readsDrinker_8 rfl ?_
  refine z_icmp_ne (pc := 10) (tgt := 19) dX9_readsDrinker_10 (by decide) (fun c10 => ?_) (fun c10 => ?_)
  · skip
    have hn5 : ¬ n = 6 := fun z => c10 (by rw [z]; rfl)
    refine z_aload_0 (pc := 19) dX9_readsDrinker_19 ?_
    refine y_getR (pc := 20) dX9_readsDrinker_20 flX9_38 rfl (by first | rfl | assumption) (by first | rfl | assumption) ?_
    refine z_bipush (pc := 23) (6) dX9_readsDrinker_23 rfl ?_
    refine z_iload_2 (pc := 25) dX9_readsDrinker_25 ?_
    refine z_iadd (pc := 26) dX9_readsDrinker_26 ?_
    refine z_iload_1 (pc := 27) dX9_readsDrinker_27 ?_
    refine y_iastN (pc := 28) (6 + n) dX9_readsDrinker_28 (by first | rfl | assumption) (nI_add 6 n) (by omega) (by first | decide | omega) ?_
    refine z_aload_0 (pc := 29) dX9_readsDrinker_29 ?_
    refine y_getR (pc := 30) dX9_readsDrinker_30 flX9_38 rfl (by first | rfl | assumption) (by first | rfl | assumption) ?_
    refine z_iconst (pc := 33) (3) dX9_readsDrinker_33 rfl ?_
    refine z_dup2 (pc := 34) rfl rfl dX9_readsDrinker_34 ?_
    refine y_ialdN (pc := 35) (3) dX9_readsDrinker_35 (by first | rfl | assumption) (rfl) (by decide) (by first | decide | omega) ?_
    rw [zup_no (Or.inr (by omega)), h953]
    refine z_iconst (pc := 36) (1) dX9_readsDrinker_36 rfl ?_
    refine z_iadd (pc := 37) dX9_readsDrinker_37 ?_
    refine y_iastN (pc := 38) (3) dX9_readsDrinker_38 (by first | rfl | assumption) (rfl) (by decide) (by first | decide | omega) ?_
    have hM0 : zMr I (zup (zup I1 95 (6 + n) (nI s)) 95 3 (nI n + 1)) (upd (upd v (6 + n) (nI s)) 3 (nI (n + 1))) (a + 1) := by
      refine ⟨zMs_95 (zMs_95 hM.1), fun q hq => ?_, ?_, hM.2.2.2⟩
      · by_cases e : q = 3
        · subst e; rw [zup_on, pk_us, nI_1]
        · rw [zup_no (Or.inr e), pk_un e]
          by_cases e2 : q = 6 + n
          · subst e2; rw [zup_on, pk_us]
          · rw [zup_no (Or.inr e2), pk_un e2]; exact hM.2.1 q hq
      · rw [zup_no (Or.inl (by decide)), zup_no (Or.inl (by decide))]; exact hM.2.2.1
    refine z_aload_0 (pc := 39) dX9_readsDrinker_39 ?_
    refine z_bipush (pc := 40) (12) dX9_readsDrinker_40 rfl ?_
    refine z_iload_2 (pc := 42) dX9_readsDrinker_42 ?_
    refine z_iadd (pc := 43) dX9_readsDrinker_43 ?_
    rw [show (12 : Int32) + nI n = nI (12 + n) from nI_add 12 n]
    refine z_iconst (pc := 44) (0) dX9_readsDrinker_44 rfl ?_
    refine z_bipush (pc := 45) (12) dX9_readsDrinker_45 rfl ?_
    refine z_V3 (pc := 47) dX9_readsDrinker_47 mlX9_119 kX9_number vX9_number (by decide) (by decide) (by first | rfl | assumption) (Nat.le_of_ble_eq_true rfl) (qX9_number hT hM0 (12 + n) 0 12 (by omega) (by decide) (by decide)) ⟨Nat.le_refl _, Nat.le_refl _⟩ (fun r h1 hq => ?_)
    obtain ⟨rfl, J0, rfl, hA0, hB0⟩ := hq
    refine z_if_eq (pc := 50) (tgt := 86) dX9_readsDrinker_50 (by decide) (fun c50 => ?_) (fun c50 => ?_)
    · skip
      refine z_iconst (pc := 86) (0) dX9_readsDrinker_86 rfl ?_
      refine z_ret (pc := 87) (r := some (.int _)) rfl dX9_readsDrinker_87 (by first | exact Or.inl rfl | exact Or.inr rfl | assumption) rfl rfl ?_
      have hno : ¬ (_ : zR3).1 = 0 := of_decide_eq_false ((zbb0 _).mp c50)
      unfold zdr
      rw [if_neg hn5]
      rw [zbd_no hno]
      exact ⟨by rw [decide_eq_false hno]; rfl, _, rfl, fun z => absurd z hno, fun _ => hB0 hno⟩
    · skip
      obtain ⟨a1, v1, e1⟩ : ∃ x1 y1, znm b (12 + n) 0 12 (a + 1) (upd (upd v (6 + n) (nI s)) 3 (nI (n + 1))) = (0, x1, y1) := ⟨_, _, zok (of_decide_eq_true ((zbb1 _).mp c50))⟩
      obtain ⟨hN1, hg1⟩ := hA0 (of_decide_eq_true ((zbb1 _).mp c50))
      rw [e1] at hN1
      have hM1 : zMr I J0 v1 a1 := hN1
      refine z_aload_0 (pc := 53) dX9_readsDrinker_53 ?_
      refine z_iconst (pc := 54) (3) dX9_readsDrinker_54 rfl ?_
      refine z_V1 (pc := 55) dX9_readsDrinker_55 mlX9_123 kX9_sign vX9_sign (by decide) (by decide) (by first | rfl | assumption) (Nat.le_of_ble_eq_true rfl) (qX9_sign hT hM1 3 44 (by decide)) ⟨Nat.le_refl _, Nat.le_refl _⟩ (fun r h1 hq => ?_)
      obtain ⟨rfl, J1, rfl, hA1, hB1⟩ := hq
      refine z_if_eq (pc := 58) (tgt := 86) dX9_readsDrinker_58 (by decide) (fun c58 => ?_) (fun c58 => ?_)
      · skip
        refine z_iconst (pc := 86) (0) dX9_readsDrinker_86 rfl ?_
        refine z_ret (pc := 87) (r := some (.int _)) rfl dX9_readsDrinker_87 (by first | exact Or.inl rfl | exact Or.inr rfl | assumption) rfl rfl ?_
        have hno : ¬ (_ : zR3).1 = 0 := of_decide_eq_false ((zbb0 _).mp c58)
        unfold zdr
        rw [if_neg hn5]
        rw [zbd_ok e1, zbd_no hno]
        exact ⟨by rw [decide_eq_false hno]; rfl, _, rfl, fun z => absurd z hno, fun _ => hB1 hno⟩
      · skip
        obtain ⟨a2, v2, e2⟩ : ∃ x1 y1, zsg b 44 a1 v1 = (0, x1, y1) := ⟨_, _, zok (of_decide_eq_true ((zbb1 _).mp c58))⟩
        obtain ⟨hN2, hg2⟩ := hA1 (of_decide_eq_true ((zbb1 _).mp c58))
        rw [e2] at hN2
        have hM2 : zMr I J1 v2 a2 := hN2
        refine z_aload_0 (pc := 61) dX9_readsDrinker_61 ?_
        refine z_bipush (pc := 62) (18) dX9_readsDrinker_62 rfl ?_
        refine z_iload_2 (pc := 64) dX9_readsDrinker_64 ?_
        refine z_iadd (pc := 65) dX9_readsDrinker_65 ?_
        rw [show (18 : Int32) + nI n = nI (18 + n) from nI_add 18 n]
        refine z_iconst (pc := 66) (0) dX9_readsDrinker_66 rfl ?_
        refine z_iconst (pc := 67) (5) dX9_readsDrinker_67 rfl ?_
        refine z_V3 (pc := 68) dX9_readsDrinker_68 mlX9_119 kX9_number vX9_number (by decide) (by decide) (by first | rfl | assumption) (Nat.le_of_ble_eq_true rfl) (qX9_number hT hM2 (18 + n) 0 5 (by omega) (by decide) (by decide)) ⟨Nat.le_refl _, Nat.le_refl _⟩ (fun r h1 hq => ?_)
        obtain ⟨rfl, J2, rfl, hA2, hB2⟩ := hq
        refine z_if_eq (pc := 71) (tgt := 86) dX9_readsDrinker_71 (by decide) (fun c71 => ?_) (fun c71 => ?_)
        · skip
          refine z_iconst (pc := 86) (0) dX9_readsDrinker_86 rfl ?_
          refine z_ret (pc := 87) (r := some (.int _)) rfl dX9_readsDrinker_87 (by first | exact Or.inl rfl | exact Or.inr rfl | assumption) rfl rfl ?_
          have hno : ¬ (_ : zR3).1 = 0 := of_decide_eq_false ((zbb0 _).mp c71)
          unfold zdr
          rw [if_neg hn5]
          rw [zbd_ok e1, zbd_ok e2, zbd_no hno]
          exact ⟨by rw [decide_eq_false hno]; rfl, _, rfl, fun z => absurd z hno, fun _ => hB2 hno⟩
        · skip
          obtain ⟨a3, v3, e3⟩ : ∃ x1 y1, znm b (18 + n) 0 5 a2 v2 = (0, x1, y1) := ⟨_, _, zok (of_decide_eq_true ((zbb1 _).mp c71))⟩
          obtain ⟨hN3, hg3⟩ := hA2 (of_decide_eq_true ((zbb1 _).mp c71))
          rw [e3] at hN3
          have hM3 : zMr I J2 v3 a3 := hN3
          refine z_aload_0 (pc := 74) dX9_readsDrinker_74 ?_
          refine z_iconst (pc := 75) (4) dX9_readsDrinker_75 rfl ?_
          refine z_V1 (pc := 76) dX9_readsDrinker_76 mlX9_123 kX9_sign vX9_sign (by decide) (by decide) (by first | rfl | assumption) (Nat.le_of_ble_eq_true rfl) (qX9_sign hT hM3 4 59 (by decide)) ⟨Nat.le_refl _, Nat.le_refl _⟩ (fun r h1 hq => ?_)
          obtain ⟨rfl, J3, rfl, hA3, hB3⟩ := hq
          refine z_if_eq (pc := 79) (tgt := 86) dX9_readsDrinker_79 (by decide) (fun c79 => ?_) (fun c79 => ?_)
          · skip
            refine z_iconst (pc := 86) (0) dX9_readsDrinker_86 rfl ?_
            refine z_ret (pc := 87) (r := some (.int _)) rfl dX9_readsDrinker_87 (by first | exact Or.inl rfl | exact Or.inr rfl | assumption) rfl rfl ?_
            have hno : ¬ (_ : zR3).1 = 0 := of_decide_eq_false ((zbb0 _).mp c79)
            unfold zdr
            rw [if_neg hn5]
            rw [zbd_ok e1, zbd_ok e2, zbd_ok e3]
            exact ⟨by rw [decide_eq_false hno]; rfl, _, rfl, fun z => absurd z hno, fun _ => hB3 hno⟩
          · skip
            obtain ⟨a4, v4, e4⟩ : ∃ x1 y1, zsg b 59 a3 v3 = (0, x1, y1) := ⟨_, _, zok (of_decide_eq_true ((zbb1 _).mp c79))⟩
            obtain ⟨hN4, hg4⟩ := hA3 (of_decide_eq_true ((zbb1 _).mp c79))
            rw [e4] at hN4
            have hM4 : zMr I J3 v4 a4 := hN4
            refine z_iconst (pc := 82) (1) dX9_readsDrinker_82 rfl ?_
            refine z_goto (pc := 83) (tgt := 87) dX9_readsDrinker_83 (by decide) ?_
            refine z_ret (pc := 87) (r := some (.int _)) rfl dX9_readsDrinker_87 (by first | exact Or.inl rfl | exact Or.inr rfl | assumption) rfl rfl ?_
            unfold zdr
            rw [if_neg hn5]
            rw [zbd_ok e1, zbd_ok e2, zbd_ok e3, e4]
            exact ⟨rfl, _, rfl, fun _ => hM4, fun z => absurd rfl z⟩
  · skip
    refine z_aload_0 (pc := 13) dX9_readsDrinker_13 ?_
    refine z_iconst (pc := 14) (3) dX9_readsDrinker_14 rfl ?_
    refine z_V1 (pc := 15) dX9_readsDrinker_15 mlX9_116 kX9_fails vX9_fails (by decide) (by decide) (by first | rfl | assumption) (Nat.le_of_ble_eq_true rfl) (qX9_fails) ⟨Nat.le_refl _, Nat.le_refl _⟩ (fun r h1 hq => ?_)
    obtain ⟨rfl, rfl⟩ := hq
    refine z_ret (pc := 18) (r := some (.int _)) rfl dX9_readsDrinker_18 (by first | exact Or.inl rfl | exact Or.inr rfl | assumption) rfl rfl ?_
    have h6 : n = 6 := (nI_is (by omega) (by decide) rfl).mp c10
    have eR : zdr b s n a v = (3, a, v) := if_pos h6
    rw [eR]
    exact ⟨rfl, _, rfl, fun z => absurd (show (3 : Nat) = 0 from z) (by decide), fun _ => zMf_of hM.1 h16 rfl⟩
set_option maxRecDepth 100000 in
set_option maxHeartbeats 4000000 in
theorem mtie_loop {l : zL} {I : Nat → Nat → Int32} {J : Nat → Nat → Int64} {nw : Bool} {v : Nat → Int32} (T : Nat) (hT : T < 10) (h95 : ∀ q, q < 66 → I 95 q = v q) {Q : Option Value → zH → Prop} (hQ : ∀ v3 : Value, zW l mX9_readsTie SH.length (zsl SH) 161 [.ref 85, .int (nI T), .int (zbb (zwl v T T)), v3] [] (I, J, RF nw, SH) Q) : ∀ (f k : Nat), k ≤ T → T - k < f →
    zW l mX9_readsTie SH.length (zsl SH) 98 [.ref 85, .int (nI T), .int (zbb (zwl v T k)), .int (nI k)] [] (I, J, RF nw, SH) Q
  | 0, k, _, hf => by omega
  | f + 1, k, hk, hf => by
    refine z_iload_3 (pc := 98) dX9_readsTie_98 ?_
    refine z_iload_1 (pc := 99) dX9_readsTie_99 ?_
    refine z_icmp_ge (pc := 100) (tgt := 161) dX9_readsTie_100 (by decide) (fun c100 => ?_) (fun c100 => ?_)
    · skip
      have hkn : k = T := by
        rcases Nat.lt_or_ge k T with q | q
        · exact absurd c100 (nI_ge (b := T) q (by omega))
        · omega
      rw [hkn]
      exact hQ _
    · skip
      have hlt : k < T := by
        rcases Nat.lt_or_ge k T with q | q
        · exact q
        · exact absurd (nI_le (a := T) q (by omega)) c100
      refine z_iload_2 (pc := 103) dX9_readsTie_103 ?_
      refine z_if_eq (pc := 104) (tgt := 153) dX9_readsTie_104 (by decide) (fun c104 => ?_) (fun c104 => ?_)
      · skip
        refine z_iconst (pc := 153) (0) dX9_readsTie_153 rfl ?_
        refine z_istore_2 (pc := 154) dX9_readsTie_154 (by decide) rfl ?_
        refine z_iinc_3 (pc := 155) (1) dX9_readsTie_155 rfl (by decide) rfl ?_
        refine z_goto (pc := 158) (tgt := 98) dX9_readsTie_158 (by decide) ?_
        have e : (0 : Int32) = zbb (zwl v T (k + 1)) := by rw [zwl, (zbb0 _).mp c104, Bool.false_and]; rfl
        rw [← nI_succ, e]
        exact mtie_loop T hT h95 hQ f (k + 1) (by omega) (by omega)
      · skip
        refine z_aload_0 (pc := 107) dX9_readsTie_107 ?_
        refine y_getR (pc := 108) dX9_readsTie_108 flX9_38 rfl (by first | rfl | assumption) (by first | rfl | assumption) ?_
        refine z_bipush (pc := 111) (24) dX9_readsTie_111 rfl ?_
        refine z_iload_3 (pc := 113) dX9_readsTie_113 ?_
        refine z_iadd (pc := 114) dX9_readsTie_114 ?_
        refine y_ialdN (pc := 115) (24 + k) dX9_readsTie_115 (by first | rfl | assumption) (nI_add 24 k) (by omega) (by first | decide | omega) ?_
        rw [h95 _ (by omega)]
        refine z_aload_0 (pc := 116) dX9_readsTie_116 ?_
        refine y_getR (pc := 117) dX9_readsTie_117 flX9_38 rfl (by first | rfl | assumption) (by first | rfl | assumption) ?_
        refine z_bipush (pc := 120) (24) dX9_readsTie_120 rfl ?_
        refine z_iload_1 (pc := 122) dX9_readsTie_122 ?_
        refine z_iadd (pc := 123) dX9_readsTie_123 ?_
        refine y_ialdN (pc := 124) (24 + T) dX9_readsTie_124 (by first | rfl | assumption) (nI_add 24 T) (by omega) (by first | decide | omega) ?_
        rw [h95 _ (by omega)]
        refine z_icmp_ne (pc := 125) (tgt := 149) dX9_readsTie_125 (by decide) (fun c125 => ?_) (fun c125 => ?_)
        · skip
          refine z_iconst (pc := 149) (1) dX9_readsTie_149 rfl ?_
          refine z_goto (pc := 150) (tgt := 154) dX9_readsTie_150 (by decide) ?_
          refine z_istore_2 (pc := 154) dX9_readsTie_154 (by decide) rfl ?_
          refine z_iinc_3 (pc := 155) (1) dX9_readsTie_155 rfl (by decide) rfl ?_
          refine z_goto (pc := 158) (tgt := 98) dX9_readsTie_158 (by decide) ?_
          have e : (1 : Int32) = zbb (zwl v T (k + 1)) := by rw [zwl, (zbb1 _).mp c104, decide_eq_false c125]; rfl
          rw [← nI_succ, e]
          exact mtie_loop T hT h95 hQ f (k + 1) (by omega) (by omega)
        · skip
          refine z_aload_0 (pc := 128) dX9_readsTie_128 ?_
          refine y_getR (pc := 129) dX9_readsTie_129 flX9_38 rfl (by first | rfl | assumption) (by first | rfl | assumption) ?_
          refine z_bipush (pc := 132) (34) dX9_readsTie_132 rfl ?_
          refine z_iload_3 (pc := 134) dX9_readsTie_134 ?_
          refine z_iadd (pc := 135) dX9_readsTie_135 ?_
          refine y_ialdN (pc := 136) (34 + k) dX9_readsTie_136 (by first | rfl | assumption) (nI_add 34 k) (by omega) (by first | decide | omega) ?_
          rw [h95 _ (by omega)]
          refine z_aload_0 (pc := 137) dX9_readsTie_137 ?_
          refine y_getR (pc := 138) dX9_readsTie_138 flX9_38 rfl (by first | rfl | assumption) (by first | rfl | assumption) ?_
          refine z_bipush (pc := 141) (34) dX9_readsTie_141 rfl ?_
          refine z_iload_1 (pc := 143) dX9_readsTie_143 ?_
          refine z_iadd (pc := 144) dX9_readsTie_144 ?_
          refine y_ialdN (pc := 145) (34 + T) dX9_readsTie_145 (by first | rfl | assumption) (nI_add 34 T) (by omega) (by first | decide | omega) ?_
          rw [h95 _ (by omega)]
          refine z_icmp_eq (pc := 146) (tgt := 153) dX9_readsTie_146 (by decide) (fun c146 => ?_) (fun c146 => ?_)
          · skip
            refine z_iconst (pc := 153) (0) dX9_readsTie_153 rfl ?_
            refine z_istore_2 (pc := 154) dX9_readsTie_154 (by decide) rfl ?_
            refine z_iinc_3 (pc := 155) (1) dX9_readsTie_155 rfl (by decide) rfl ?_
            refine z_goto (pc := 158) (tgt := 98) dX9_readsTie_158 (by decide) ?_
            have e : (0 : Int32) = zbb (zwl v T (k + 1)) := by rw [zwl, decide_eq_true c125, decide_eq_true c146]; cases zwl v T k <;> rfl
            rw [← nI_succ, e]
            exact mtie_loop T hT h95 hQ f (k + 1) (by omega) (by omega)
          · skip
            refine z_iconst (pc := 149) (1) dX9_readsTie_149 rfl ?_
            refine z_goto (pc := 150) (tgt := 154) dX9_readsTie_150 (by decide) ?_
            refine z_istore_2 (pc := 154) dX9_readsTie_154 (by decide) rfl ?_
            refine z_iinc_3 (pc := 155) (1) dX9_readsTie_155 rfl (by decide) rfl ?_
            refine z_goto (pc := 158) (tgt := 98) dX9_readsTie_158 (by decide) ?_
            have e : (1 : Int32) = zbb (zwl v T (k + 1)) := by rw [zwl, (zbb1 _).mp c104, decide_eq_true c125, decide_eq_false c146]; rfl
            rw [← nI_succ, e]
            exact mtie_loop T hT h95 hQ f (k + 1) (by omega) (by omega)
set_option maxRecDepth 100000 in
set_option maxHeartbeats 4000000 in
theorem qX9_readsTie {l : zL} {I : Nat → Nat → Int32} {J : Nat → Nat → Int64} {nw : Bool} {I1 : Nat → Nat → Int32} {v : Nat → Int32} {b : Nat → Nat} {a L : Nat} (hT : zTp I b L) (hM : zMr I I1 v (a + 1)) (h16 : I1 85 16 = nI a) (n T : Nat) (hn : 1 ≤ n ∧ n ≤ 6) (en : v 3 = nI n) (hTt : T ≤ 10) (eT : v 4 = nI T) : zP l mX9_readsTie [.ref 85] (hh I1 J nw) (zMq I J nw (zti b n T a v)) := by
  have h954 : I1 95 4 = nI T := by rw [hM.2.1 4 (by decide)]; exact eT
  refine z_start [.ref 85, zno, zno, zno] (by decide +kernel) (Nat.le_of_ble_eq_true rfl) rfl ?_
  refine z_aload_0 (pc := 0) dX9_readsTie_0 ?_
  refine y_getR (pc := 1) dX9_readsTie_1 flX9_38 rfl (by first | rfl | assumption) (by first | rfl | assumption) ?_
  refine z_iconst (pc := 4) (4) dX9_readsTie_4 rfl ?_
  refine y_ialdN (pc := 5) (4) dX9_readsTie_5 (by first | rfl | assumption) (rfl) (by decide) (by first | decide | omega) ?_
  rw [h954]
  refine z_istore_1 (pc := 6) dX9_readsTie_6 (by decide) rfl ?_
  refine z_iload_1 (pc := 7) dX9_readsTie_7 ?_
  refine z_bipush (pc := 8) (10) dX9_readsTie_8 rfl ?_
  refine z_icmp_ne (pc := 10) (tgt := 19) dX9_readsTie_10 (by decide) (fun c10 => ?_) (fun c10 => ?_)
  · skip
    have hT10 : ¬ T = 10 := fun z => c10 (by rw [z]; rfl)
    have en1 : I1 95 3 = nI n := by rw [hM.2.1 3 (by decide)]; exact en
    have hpr : nI n - 1 = nI (n - 1) := by
      obtain ⟨m, rfl⟩ : ∃ m, n = m + 1 := ⟨n - 1, by omega⟩
      exact nI_pred m
    refine z_aload_0 (pc := 19) dX9_readsTie_19 ?_
    refine z_bipush (pc := 20) (24) dX9_readsTie_20 rfl ?_
    refine z_iload_1 (pc := 22) dX9_readsTie_22 ?_
    refine z_iadd (pc := 23) dX9_readsTie_23 ?_
    rw [show (24 : Int32) + nI T = nI (24 + T) from nI_add 24 T]
    refine z_iconst (pc := 24) (0) dX9_readsTie_24 rfl ?_
    refine z_aload_0 (pc := 25) dX9_readsTie_25 ?_
    refine y_getR (pc := 26) dX9_readsTie_26 flX9_38 rfl (by first | rfl | assumption) (by first | rfl | assumption) ?_
    refine z_iconst (pc := 29) (3) dX9_readsTie_29 rfl ?_
    refine y_ialdN (pc := 30) (3) dX9_readsTie_30 (by first | rfl | assumption) (rfl) (by decide) (by first | decide | omega) ?_
    rw [en1]
    refine z_iconst (pc := 31) (1) dX9_readsTie_31 rfl ?_
    refine z_isub (pc := 32) dX9_readsTie_32 ?_
    rw [hpr]
    refine z_V3 (pc := 33) dX9_readsTie_33 mlX9_119 kX9_number vX9_number (by decide) (by decide) (by first | rfl | assumption) (Nat.le_of_ble_eq_true rfl) (qX9_number hT hM (24 + T) 0 (n - 1) (by omega) (by decide) (by omega)) ⟨Nat.le_refl _, Nat.le_refl _⟩ (fun r h1 hq => ?_)
    obtain ⟨rfl, J0, rfl, hA0, hB0⟩ := hq
    refine z_if_eq (pc := 36) (tgt := 67) dX9_readsTie_36 (by decide) (fun c36 => ?_) (fun c36 => ?_)
    · skip
      refine z_iconst (pc := 67) (0) dX9_readsTie_67 rfl ?_
      refine z_ret (pc := 68) (r := some (.int _)) rfl dX9_readsTie_68 (by first | exact Or.inl rfl | exact Or.inr rfl | assumption) rfl rfl ?_
      have hno : ¬ (_ : zR3).1 = 0 := of_decide_eq_false ((zbb0 _).mp c36)
      unfold zti
      rw [if_neg hT10, zbd_no hno]
      exact ⟨by rw [decide_eq_false hno]; rfl, _, rfl, fun z => absurd z hno, fun _ => hB0 hno⟩
    · skip
      obtain ⟨a1, v1, e1⟩ : ∃ x1 y1, znm b (24 + T) 0 (n - 1) (a + 1) v = (0, x1, y1) := ⟨_, _, zok (of_decide_eq_true ((zbb1 _).mp c36))⟩
      obtain ⟨hN1, hg1⟩ := hA0 (of_decide_eq_true ((zbb1 _).mp c36))
      rw [e1] at hN1
      have hM1 : zMr I J0 v1 a1 := hN1
      refine z_aload_0 (pc := 39) dX9_readsTie_39 ?_
      refine z_iconst (pc := 40) (3) dX9_readsTie_40 rfl ?_
      refine z_V1 (pc := 41) dX9_readsTie_41 mlX9_123 kX9_sign vX9_sign (by decide) (by decide) (by first | rfl | assumption) (Nat.le_of_ble_eq_true rfl) (qX9_sign hT hM1 3 44 (by decide)) ⟨Nat.le_refl _, Nat.le_refl _⟩ (fun r h1 hq => ?_)
      obtain ⟨rfl, J1, rfl, hA1, hB1⟩ := hq
      refine z_if_eq (pc := 44) (tgt := 67) dX9_readsTie_44 (by decide) (fun c44 => ?_) (fun c44 => ?_)
      · skip
        refine z_iconst (pc := 67) (0) dX9_readsTie_67 rfl ?_
        refine z_ret (pc := 68) (r := some (.int _)) rfl dX9_readsTie_68 (by first | exact Or.inl rfl | exact Or.inr rfl | assumption) rfl rfl ?_
        have hno : ¬ (_ : zR3).1 = 0 := of_decide_eq_false ((zbb0 _).mp c44)
        unfold zti
        rw [if_neg hT10, zbd_ok e1, zbd_no hno]
        exact ⟨by rw [decide_eq_false hno]; rfl, _, rfl, fun z => absurd z hno, fun _ => hB1 hno⟩
      · skip
        obtain ⟨a2, v2, e2⟩ : ∃ x1 y1, zsg b 44 a1 v1 = (0, x1, y1) := ⟨_, _, zok (of_decide_eq_true ((zbb1 _).mp c44))⟩
        obtain ⟨hN2, hg2⟩ := hA1 (of_decide_eq_true ((zbb1 _).mp c44))
        rw [e2] at hN2
        have hM2 : zMr I J1 v2 a2 := hN2
        obtain ⟨q1, hq1, hq1b, ev1, -⟩ := znm_v e1
        obtain ⟨ev2, -, -⟩ := zsg_v e2
        have en2 : J1 95 3 = nI n := by rw [hM2.2.1 3 (by decide), ev2, ev1, pk_un (by omega)]; exact en
        refine z_aload_0 (pc := 47) dX9_readsTie_47 ?_
        refine z_bipush (pc := 48) (34) dX9_readsTie_48 rfl ?_
        refine z_iload_1 (pc := 50) dX9_readsTie_50 ?_
        refine z_iadd (pc := 51) dX9_readsTie_51 ?_
        rw [show (34 : Int32) + nI T = nI (34 + T) from nI_add 34 T]
        refine z_iconst (pc := 52) (0) dX9_readsTie_52 rfl ?_
        refine z_aload_0 (pc := 53) dX9_readsTie_53 ?_
        refine y_getR (pc := 54) dX9_readsTie_54 flX9_38 rfl (by first | rfl | assumption) (by first | rfl | assumption) ?_
        refine z_iconst (pc := 57) (3) dX9_readsTie_57 rfl ?_
        refine y_ialdN (pc := 58) (3) dX9_readsTie_58 (by first | rfl | assumption) (rfl) (by decide) (by first | decide | omega) ?_
        rw [en2]
        refine z_iconst (pc := 59) (1) dX9_readsTie_59 rfl ?_
        refine z_isub (pc := 60) dX9_readsTie_60 ?_
        rw [hpr]
        refine z_V3 (pc := 61) dX9_readsTie_61 mlX9_119 kX9_number vX9_number (by decide) (by decide) (by first | rfl | assumption) (Nat.le_of_ble_eq_true rfl) (qX9_number hT hM2 (34 + T) 0 (n - 1) (by omega) (by decide) (by omega)) ⟨Nat.le_refl _, Nat.le_refl _⟩ (fun r h1 hq => ?_)
        obtain ⟨rfl, J2, rfl, hA2, hB2⟩ := hq
        refine z_if_ne (pc := 64) (tgt := 69) dX9_readsTie_64 (by decide) (fun c64 => ?_) (fun c64 => ?_)
        · skip
          obtain ⟨a3, v3, e3⟩ : ∃ x1 y1, znm b (34 + T) 0 (n - 1) a2 v2 = (0, x1, y1) := ⟨_, _, zok (of_decide_eq_true ((zbb1 _).mp c64))⟩
          obtain ⟨hN3, hg3⟩ := hA2 (of_decide_eq_true ((zbb1 _).mp c64))
          rw [e3] at hN3
          have hM3 : zMr I J2 v3 a3 := hN3
          obtain ⟨q2, hq2, hq2b, ev3, -⟩ := znm_v e3
          have eT3 : J2 95 4 = nI T := by rw [hM3.2.1 4 (by decide), ev3, pk_un (by omega), ev2, ev1, pk_un (by omega)]; exact eT
          have h95 := hM3.2.1
          refine z_aload_0 (pc := 69) dX9_readsTie_69 ?_
          refine y_getR (pc := 70) dX9_readsTie_70 flX9_38 rfl (by first | rfl | assumption) (by first | rfl | assumption) ?_
          refine z_bipush (pc := 73) (34) dX9_readsTie_73 rfl ?_
          refine z_iload_1 (pc := 75) dX9_readsTie_75 ?_
          refine z_iadd (pc := 76) dX9_readsTie_76 ?_
          refine y_ialdN (pc := 77) (34 + T) dX9_readsTie_77 (by first | rfl | assumption) (nI_add 34 T) (by omega) (by first | decide | omega) ?_
          rw [h95 _ (by omega)]
          refine z_aload_0 (pc := 78) dX9_readsTie_78 ?_
          refine y_getR (pc := 79) dX9_readsTie_79 flX9_38 rfl (by first | rfl | assumption) (by first | rfl | assumption) ?_
          refine z_bipush (pc := 82) (24) dX9_readsTie_82 rfl ?_
          refine z_iload_1 (pc := 84) dX9_readsTie_84 ?_
          refine z_iadd (pc := 85) dX9_readsTie_85 ?_
          refine y_ialdN (pc := 86) (24 + T) dX9_readsTie_86 (by first | rfl | assumption) (nI_add 24 T) (by omega) (by first | decide | omega) ?_
          rw [h95 _ (by omega)]
          refine z_icmp_eq (pc := 87) (tgt := 94) dX9_readsTie_87 (by decide) (fun c87 => ?_) (fun c87 => ?_)
          · skip
            refine z_iconst (pc := 94) (0) dX9_readsTie_94 rfl ?_
            refine z_istore_2 (pc := 95) dX9_readsTie_95 (by decide) rfl ?_
            refine z_iconst (pc := 96) (0) dX9_readsTie_96 rfl ?_
            refine z_istore_3 (pc := 97) dX9_readsTie_97 (by decide) rfl ?_
            have k161 : ∀ w3 : Value, zW l mX9_readsTie SH.length (zsl SH) 161 [.ref 85, .int (nI T), .int (zbb (zwl v3 T T)), w3] [] (J2, J, RF nw, SH) (zMq I J nw (zti b n T a v)) := by
              intro w3
              refine z_iload_2 (pc := 161) dX9_readsTie_161 ?_
              refine z_if_ne (pc := 162) (tgt := 171) dX9_readsTie_162 (by decide) (fun c162 => ?_) (fun c162 => ?_)
              · skip
                have hw := (zbb1 _).mp c162
                refine z_aload_0 (pc := 171) dX9_readsTie_171 ?_
                refine y_getR (pc := 172) dX9_readsTie_172 flX9_38 rfl (by first | rfl | assumption) (by first | rfl | assumption) ?_
                refine z_iconst (pc := 175) (4) dX9_readsTie_175 rfl ?_
                refine z_dup2 (pc := 176) rfl rfl dX9_readsTie_176 ?_
                refine y_ialdN (pc := 177) (4) dX9_readsTie_177 (by first | rfl | assumption) (rfl) (by decide) (by first | decide | omega) ?_
                rw [eT3]
                refine z_iconst (pc := 178) (1) dX9_readsTie_178 rfl ?_
                refine z_iadd (pc := 179) dX9_readsTie_179 ?_
                refine y_iastN (pc := 180) (4) dX9_readsTie_180 (by first | rfl | assumption) (rfl) (by decide) (by first | decide | omega) ?_
                have hM4 : zMr I (zup J2 95 4 (nI T + 1)) (upd v3 4 (nI (T + 1))) a3 := by
                  refine ⟨zMs_95 hM3.1, fun q hq => ?_, ?_, hM3.2.2.2⟩
                  · by_cases e : q = 4
                    · subst e; rw [zup_on, pk_us, nI_1]
                    · rw [zup_no (Or.inr e), pk_un e]; exact hM3.2.1 q hq
                  · rw [zup_no (Or.inl (by decide))]; exact hM3.2.2.1
                refine z_aload_0 (pc := 181) dX9_readsTie_181 ?_
                refine z_iconst (pc := 182) (4) dX9_readsTie_182 rfl ?_
                refine z_V1 (pc := 183) dX9_readsTie_183 mlX9_123 kX9_sign vX9_sign (by decide) (by decide) (by first | rfl | assumption) (Nat.le_of_ble_eq_true rfl) (qX9_sign hT hM4 4 59 (by decide)) ⟨Nat.le_refl _, Nat.le_refl _⟩ (fun r h1 hq => ?_)
                obtain ⟨rfl, J3, rfl, hA3, hB3⟩ := hq
                refine z_ret (pc := 186) (r := some (.int _)) rfl dX9_readsTie_186 (zbb_01 _) rfl rfl ?_
                have eR : zti b n T a v = zsg b 59 a3 (upd v3 4 (nI (T + 1))) := by
                  unfold zti
                  rw [if_neg hT10, zbd_ok e1, zbd_ok e2, zbd_ok e3, if_pos hw]
                rw [eR]
                exact ⟨rfl, _, rfl, fun z => (hA3 z).1, hB3⟩
              · skip
                refine z_aload_0 (pc := 165) dX9_readsTie_165 ?_
                refine z_iconst (pc := 166) (2) dX9_readsTie_166 rfl ?_
                refine z_V1 (pc := 167) dX9_readsTie_167 mlX9_116 kX9_fails vX9_fails (by decide) (by decide) (by first | rfl | assumption) (Nat.le_of_ble_eq_true rfl) (qX9_fails) ⟨Nat.le_refl _, Nat.le_refl _⟩ (fun r h1 hq => ?_)
                obtain ⟨rfl, rfl⟩ := hq
                refine z_ret (pc := 170) (r := some (.int _)) rfl dX9_readsTie_170 (by first | exact Or.inl rfl | exact Or.inr rfl | assumption) rfl rfl ?_
                have eR : zti b n T a v = (2, a2, v3) := by
                  unfold zti
                  rw [if_neg hT10, zbd_ok e1, zbd_ok e2, zbd_ok e3, if_neg (by rw [(zbb0 _).mp c162]; decide)]
                rw [eR]
                exact ⟨rfl, _, rfl, fun z => absurd (show (2 : Nat) = 0 from z) (by decide), fun _ => zMf_of hM3.1 hg3 rfl⟩
            have e : (0 : Int32) = zbb (zwl v3 T 0) := by rw [zwl, decide_eq_true c87]; rfl
            have kk := mtie_loop T (by omega) h95 k161 (T + 1) 0 (by omega) (by omega)
            rw [← e] at kk
            exact kk
          · skip
            refine z_iconst (pc := 90) (1) dX9_readsTie_90 rfl ?_
            refine z_goto (pc := 91) (tgt := 95) dX9_readsTie_91 (by decide) ?_
            refine z_istore_2 (pc := 95) dX9_readsTie_95 (by decide) rfl ?_
            refine z_iconst (pc := 96) (0) dX9_readsTie_96 rfl ?_
            refine z_istore_3 (pc := 97) dX9_readsTie_97 (by decide) rfl ?_
            have k161 : ∀ w3 : Value, zW l mX9_readsTie SH.length (zsl SH) 161 [.ref 85, .int (nI T), .int (zbb (zwl v3 T T)), w3] [] (J2, J, RF nw, SH) (zMq I J nw (zti b n T a v)) := by
              intro w3
              refine z_iload_2 (pc := 161) dX9_readsTie_161 ?_
              refine z_if_ne (pc := 162) (tgt := 171) dX9_readsTie_162 (by decide) (fun c162 => ?_) (fun c162 => ?_)
              · skip
                have hw := (zbb1 _).mp c162
                refine z_aload_0 (pc := 171) dX9_readsTie_171 ?_
                refine y_getR (pc := 172) dX9_readsTie_172 flX9_38 rfl (by first | rfl | assumption) (by first | rfl | assumption) ?_
                refine z_iconst (pc := 175) (4) dX9_readsTie_175 rfl ?_
                refine z_dup2 (pc := 176) rfl rfl dX9_readsTie_176 ?_
                refine y_ialdN (pc := 177) (4) dX9_readsTie_177 (by first | rfl | assumption) (rfl) (by decide) (by first | decide | omega) ?_
                rw [eT3]
                refine z_iconst (pc := 178) (1) dX9_readsTie_178 rfl ?_
                refine z_iadd (pc := 179) dX9_readsTie_179 ?_
                refine y_iastN (pc := 180) (4) dX9_readsTie_180 (by first | rfl | assumption) (rfl) (by decide) (by first | decide | omega) ?_
                have hM4 : zMr I (zup J2 95 4 (nI T + 1)) (upd v3 4 (nI (T + 1))) a3 := by
                  refine ⟨zMs_95 hM3.1, fun q hq => ?_, ?_, hM3.2.2.2⟩
                  · by_cases e : q = 4
                    · subst e; rw [zup_on, pk_us, nI_1]
                    · rw [zup_no (Or.inr e), pk_un e]; exact hM3.2.1 q hq
                  · rw [zup_no (Or.inl (by decide))]; exact hM3.2.2.1
                refine z_aload_0 (pc := 181) dX9_readsTie_181 ?_
                refine z_iconst (pc := 182) (4) dX9_readsTie_182 rfl ?_
                refine z_V1 (pc := 183) dX9_readsTie_183 mlX9_123 kX9_sign vX9_sign (by decide) (by decide) (by first | rfl | assumption) (Nat.le_of_ble_eq_true rfl) (qX9_sign hT hM4 4 59 (by decide)) ⟨Nat.le_refl _, Nat.le_refl _⟩ (fun r h1 hq => ?_)
                obtain ⟨rfl, J3, rfl, hA3, hB3⟩ := hq
                refine z_ret (pc := 186) (r := some (.int _)) rfl dX9_readsTie_186 (zbb_01 _) rfl rfl ?_
                have eR : zti b n T a v = zsg b 59 a3 (upd v3 4 (nI (T + 1))) := by
                  unfold zti
                  rw [if_neg hT10, zbd_ok e1, zbd_ok e2, zbd_ok e3, if_pos hw]
                rw [eR]
                exact ⟨rfl, _, rfl, fun z => (hA3 z).1, hB3⟩
              · skip
                refine z_aload_0 (pc := 165) dX9_readsTie_165 ?_
                refine z_iconst (pc := 166) (2) dX9_readsTie_166 rfl ?_
                refine z_V1 (pc := 167) dX9_readsTie_167 mlX9_116 kX9_fails vX9_fails (by decide) (by decide) (by first | rfl | assumption) (Nat.le_of_ble_eq_true rfl) (qX9_fails) ⟨Nat.le_refl _, Nat.le_refl _⟩ (fun r h1 hq => ?_)
                obtain ⟨rfl, rfl⟩ := hq
                refine z_ret (pc := 170) (r := some (.int _)) rfl dX9_readsTie_170 (by first | exact Or.inl rfl | exact Or.inr rfl | assumption) rfl rfl ?_
                have eR : zti b n T a v = (2, a2, v3) := by
                  unfold zti
                  rw [if_neg hT10, zbd_ok e1, zbd_ok e2, zbd_ok e3, if_neg (by rw [(zbb0 _).mp c162]; decide)]
                rw [eR]
                exact ⟨rfl, _, rfl, fun z => absurd (show (2 : Nat) = 0 from z) (by decide), fun _ => zMf_of hM3.1 hg3 rfl⟩
            have e : (1 : Int32) = zbb (zwl v3 T 0) := by rw [zwl, decide_eq_false c87]; rfl
            have kk := mtie_loop T (by omega) h95 k161 (T + 1) 0 (by omega) (by omega)
            rw [← e] at kk
            exact kk
        · skip
          refine z_iconst (pc := 67) (0) dX9_readsTie_67 rfl ?_
          refine z_ret (pc := 68) (r := some (.int _)) rfl dX9_readsTie_68 (by first | exact Or.inl rfl | exact Or.inr rfl | assumption) rfl rfl ?_
          have hno : ¬ (_ : zR3).1 = 0 := of_decide_eq_false ((zbb0 _).mp c64)
          unfold zti
          rw [if_neg hT10, zbd_ok e1, zbd_ok e2, zbd_no hno]
          exact ⟨by rw [decide_eq_false hno]; rfl, _, rfl, fun z => absurd z hno, fun _ => hB2 hno⟩
  · skip
    refine z_aload_0 (pc := 13) dX9_readsTie_13 ?_
    refine z_iconst (pc := 14) (3) dX9_readsTie_14 rfl ?_
    refine z_V1 (pc := 15) dX9_readsTie_15 mlX9_116 kX9_fails vX9_fails (by decide) (by decide) (by first | rfl | assumption) (Nat.le_of_ble_eq_true rfl) (qX9_fails) ⟨Nat.le_refl _, Nat.le_refl _⟩ (fun r h1 hq => ?_)
    obtain ⟨rfl, rfl⟩ := hq
    refine z_ret (pc := 18) (r := some (.int _)) rfl dX9_readsTie_18 (by first | exact Or.inl rfl | exact Or.inr rfl | assumption) rfl rfl ?_
    have h6 : T = 10 := (nI_is (by omega) (by decide) rfl).mp c10
    have eR : zti b n T a v = (3, a, v) := if_pos h6
    rw [eR]
    exact ⟨rfl, _, rfl, fun z => absurd (show (3 : Nat) = 0 from z) (by decide), fun _ => zMf_of hM.1 h16 rfl⟩
