def zCz (I : Nat → Nat → Int32) (J : Nat → Nat → Int64) (nw : Bool) (R : zR3) : Option Value → zH → Prop := fun r h1 => r = some (.int (zbb (decide (R.1 = 0)))) ∧ ∃ I2, h1 = (I2, J, RF nw, SH) ∧ (R.1 = 0 → zCs I I2 ∧ ∃ n T, 1 ≤ n ∧ zPv R.2.2 n T ∧ zCv I2 R.2.2 n T) ∧ (¬ R.1 = 0 → zCf I I2 R.1 R.2.1)
theorem zrst_dr {b : Nat → Nat} {f a n : Nat} {v : Nat → Int32} (hP : zPv v n 0) (h : ¬ zsrt (b a) = 0) : zrst b (f + 1) a v = zbd (zdrC b n a v) (fun a v => zrst b f a v) := by
  have hcn : (v 3).toNatClampNeg = n := by rw [hP.2.1]; exact nI_clamp (by have := hP.1; omega)
  have h9 : ¬ b a = 999 := fun z => h (by rw [z]; decide)
  rw [zrst, if_neg h9]
  unfold zitm zdrC
  rw [if_pos ⟨h, hP.2.2.2.1⟩, if_neg h, hcn]
theorem zrst_0 {b : Nat → Nat} {f a : Nat} {v : Nat → Int32} (hP : zPv v 0 0) : zrst b (f + 1) a v = zbd (zdrC b 0 a v) (fun a v => zrst b f a v) := by
  by_cases h : zsrt (b a) = 0
  · have hcn : (v 3).toNatClampNeg = 0 := by rw [hP.2.1]; rfl
    have e1 : zdrC b 0 a v = (1, a, v) := if_pos h
    rw [zrst, e1, hcn]
    by_cases h9 : b a = 999
    · rw [if_pos h9]; rfl
    · rw [if_neg h9]
      unfold zitm
      rw [if_neg (fun z => z.1 h), hcn, if_neg (fun z => absurd z.2 (by decide))]
  · exact zrst_dr hP h
theorem zrst_ti {b : Nat → Nat} {f a n T : Nat} {v : Nat → Int32} (hP : zPv v n T) (hn : 1 ≤ n) (h : 0 < T ∨ zsrt (b a) = 0) (h9 : ¬ b a = 999) : zrst b (f + 1) a v = zbd (ztiC b n T a v) (fun a v => zrst b f a v) := by
  have hcn : (v 3).toNatClampNeg = n := by rw [hP.2.1]; exact nI_clamp (by have := hP.1; omega)
  have hcT : (v 4).toNatClampNeg = T := by rw [hP.2.2.2.1]; exact nI_clamp (by have := hP.2.2.1; omega)
  have hno : ¬ (¬ zsrt (b a) = 0 ∧ v 4 = 0) := fun z => by
    rcases h with q | q
    · have := z.2
      rw [hP.2.2.2.1] at this
      have := (nI_is (q := T) (c := 0) (by have := hP.2.2.1; omega) (by decide) rfl).mp this
      omega
    · exact z.1 q
  rw [zrst, if_neg h9]
  unfold zitm ztiC
  rw [if_neg hno, hcn, hcT]
  by_cases q : b a = 116
  · rw [if_pos ⟨q, hn⟩, if_pos q]
  · rw [if_neg (fun z => q z.1), if_neg q]
theorem zrst_end {b : Nat → Nat} {f a n T : Nat} {v : Nat → Int32} (hP : zPv v n T) (hn : 1 ≤ n) (h9 : b a = 999) : zrst b (f + 1) a v = (0, a, v) := by
  have hcn : (v 3).toNatClampNeg = n := by rw [hP.2.1]; exact nI_clamp (by have := hP.1; omega)
  rw [zrst, if_pos h9, hcn, if_pos (show 0 < n from hn)]
set_option maxRecDepth 100000 in
set_option maxHeartbeats 4000000 in
theorem cti_loop {l : zL} {I : Nat → Nat → Int32} {J : Nat → Nat → Int64} {nw : Bool} {b : Nat → Nat} {L : Nat} (hT : zTc I b L) : ∀ (f a n T : Nat) (v : Nat → Int32) (I1 : Nat → Nat → Int32), zPv v n T → 1 ≤ n → (0 < T ∨ zsrt (b a) = 0) → zCr I I1 v a n T → 17 ≤ f + n + T →
    zW l mX4_reads SH.length (zsl SH) 64 [.ref 13, .ref 23, .int (nI T)] [] (I1, J, RF nw, SH) (zCz I J nw (zrst b f a v))
  | 0, a, n, T, v, I1, hP, _, _, _, hf => by have := hP.1; have := hP.2.2.1; omega
  | f + 1, a, n, T, v, I1, hP, hn1, hd, hR, hf => by
    have hn6 := hP.1
    have hT10 := hP.2.2.1
    have hT1 := zTc_s hT hR.1
    have hL := hT.1
    have hae := hR.2.2.1
    refine z_iload_2 (pc := 64) dX4_reads_64 ?_
    refine z_bipush (pc := 65) (120) dX4_reads_65 rfl ?_
    refine z_icmp_ge (pc := 67) (tgt := 97) dX4_reads_67 (by decide) (fun c67 => ?_) (fun c67 => ?_)
    · exact absurd c67 (nI_ge (b := 120) (by omega) (by decide))
    · skip
      refine z_aload_0 (pc := 70) dX4_reads_70 ?_
      refine y_getI (pc := 71) dX4_reads_71 flX4_19 rfl (by first | rfl | assumption) ?_
      rw [hR.2.1]
      refine z_aload_0 (pc := 74) dX4_reads_74 ?_
      refine y_getI (pc := 75) dX4_reads_75 flX4_15 rfl (by first | rfl | assumption) ?_
      rw [hT1.2.1]
      refine z_icmp_ge (pc := 78) (tgt := 97) dX4_reads_78 (by decide) (fun c78 => ?_) (fun c78 => ?_)
      · skip
        refine z_iconst (pc := 97) (1) dX4_reads_97 rfl ?_
        refine z_ret (pc := 98) (r := some (.int _)) rfl dX4_reads_98 (by first | exact Or.inl rfl | exact Or.inr rfl | assumption) rfl rfl ?_
        have hge : L ≤ a := by
          rcases Nat.lt_or_ge a L with q | q
          · exact absurd c78 (nI_ge (b := L) q (by omega))
          · exact q
        rw [zrst_end hP hn1 (hT.2.2.2 a hge)]
        exact ⟨rfl, _, rfl, fun _ => ⟨hR.1, n, T, hn1, hP, hR.2.2.2⟩, fun z => absurd rfl z⟩
      · skip
        have hlt : a < L := by
          rcases Nat.lt_or_ge a L with q | q
          · exact q
          · exact absurd (nI_le (a := L) q (by omega)) c78
        have h9 : ¬ b a = 999 := fun z => by
          have := zTp_b (zTc_tp hT) a
          omega
        refine z_aload_0 (pc := 81) dX4_reads_81 ?_
        refine z_aload_1 (pc := 82) dX4_reads_82 ?_
        refine z_V1 (pc := 83) dX4_reads_83 mlX4_45 kX4_readsTie vX4_readsTie (by decide) (by decide) (by first | rfl | assumption) (Nat.le_of_ble_eq_true rfl) (qX4_readsTie hT hR hP hn1) ⟨Nat.le_refl _, Nat.le_refl _⟩ (fun r h1 hq => ?_)
        obtain ⟨rfl, J1, rfl, hA, hB⟩ := hq
        refine z_if_ne (pc := 86) (tgt := 91) dX4_reads_86 (by decide) (fun c86 => ?_) (fun c86 => ?_)
        · skip
          refine z_iinc_2 (pc := 91) (1) dX4_reads_91 rfl (by decide) rfl ?_
          refine z_goto (pc := 94) (tgt := 64) dX4_reads_94 (by decide) ?_
          rw [← nI_succ]
          have hok : (_ : zR3).1 = 0 := of_decide_eq_true ((zbb1 _).mp c86)
          obtain ⟨a1, w1, e1⟩ : ∃ x1 y1, ztiC b n T a v = (0, x1, y1) := ⟨_, _, zok hok⟩
          have hR1' := hA hok
          rw [e1] at hR1'
          have hR1 : zCr I J1 w1 a1 n (T + 1) := hR1'
          have h16 : b a = 116 := by
            by_cases z : b a = 116
            · exact z
            · unfold ztiC at e1; rw [if_neg z] at e1; exact absurd (congrArg (fun r : zR3 => r.1) e1) (by dsimp only; decide)
          have hP1 : zPv w1 n (T + 1) := by
            unfold ztiC at e1; rw [if_pos h16] at e1; exact zPv_ti hP hn1 e1
          rw [zrst_ti hP hn1 hd h9, zbd_ok e1]
          exact cti_loop hT f a1 n (T + 1) w1 J1 hP1 hn1 (Or.inl (by omega)) hR1 (by omega)
        · skip
          refine z_iconst (pc := 89) (0) dX4_reads_89 rfl ?_
          refine z_ret (pc := 90) (r := some (.int _)) rfl dX4_reads_90 (by first | exact Or.inl rfl | exact Or.inr rfl | assumption) rfl rfl ?_
          have hno : ¬ (_ : zR3).1 = 0 := of_decide_eq_false ((zbb0 _).mp c86)
          rw [zrst_ti hP hn1 hd h9, zbd_no hno]
          exact ⟨by rw [decide_eq_false hno]; rfl, _, rfl, fun z => absurd z hno, fun _ => hB hno⟩
set_option maxRecDepth 100000 in
set_option maxHeartbeats 4000000 in
theorem cdr_loop {l : zL} {I : Nat → Nat → Int32} {J : Nat → Nat → Int64} {nw : Bool} {b : Nat → Nat} {L : Nat} (hT : zTc I b L) : ∀ (f a n k : Nat) (v : Nat → Int32) (I1 : Nat → Nat → Int32), zPv v n 0 → n = k + 1 → zCr I I1 v a n 0 → 17 ≤ f + n →
    zW l mX4_reads SH.length (zsl SH) 29 [.ref 13, .ref 23, .int (nI k)] [] (I1, J, RF nw, SH) (zCz I J nw (zrst b f a v))
  | 0, a, n, k, v, I1, hP, _, _, hf => by have := hP.1; omega
  | f + 1, a, n, k, v, I1, hP, hk, hR, hf => by
    have hn6 := hP.1
    have hT1 := zTc_s hT hR.1
    refine z_iload_2 (pc := 29) dX4_reads_29 ?_
    refine z_bipush (pc := 30) (120) dX4_reads_30 rfl ?_
    refine z_icmp_ge (pc := 32) (tgt := 62) dX4_reads_32 (by decide) (fun c32 => ?_) (fun c32 => ?_)
    · exact absurd c32 (nI_ge (b := 120) (by omega) (by decide))
    · skip
      refine z_aload_0 (pc := 35) dX4_reads_35 ?_
      refine z_V0 (pc := 36) dX4_reads_36 mlX4_37 kX4_letter vX4_letter (by decide) (by decide) (by first | rfl | assumption) (Nat.le_of_ble_eq_true rfl) (qX4_letter hT1 hR.2.1 hR.2.2.1) ⟨Nat.le_refl _, Nat.le_refl _⟩ (fun r h1 hq => ?_)
      obtain ⟨rfl, rfl⟩ := hq
      refine z_S1 (pc := 39) dX4_reads_39 mlX4_41 kX4_sortOf vX4_sortOf (by decide) (by decide) (Nat.le_of_ble_eq_true rfl) (qX4_sortOf hT1 a) ⟨Nat.le_refl _, Nat.le_refl _⟩ (fun r h1 hq => ?_)
      obtain ⟨rfl, rfl⟩ := hq
      refine z_iconst (pc := 42) (-1) dX4_reads_42 rfl ?_
      refine z_icmp_eq (pc := 43) (tgt := 62) dX4_reads_43 (by decide) (fun c43 => ?_) (fun c43 => ?_)
      · skip
        have hsr : zsrt (b a) = 0 := by
          have := zsrt_lt (b a)
          unfold zsrC at c43
          by_cases z : zsrt (b a) = 0
          · exact z
          · rw [if_neg z] at c43
            have e := congrArg Int32.toInt c43
            rw [nI_toInt (by omega)] at e
            have h2 : (-1 : Int32).toInt = -1 := by decide
            omega
        refine z_iconst (pc := 62) (0) dX4_reads_62 rfl ?_
        refine z_istore_2 (pc := 63) dX4_reads_63 (by decide) rfl ?_
        exact cti_loop hT (f + 1) a n 0 v I1 hP (by omega) (Or.inr hsr) hR (by omega)
      · skip
        have hsr : ¬ zsrt (b a) = 0 := by
          have := zsrt_lt (b a)
          unfold zsrC at c43
          intro z
          rw [if_pos z] at c43; exact absurd rfl c43
        refine z_aload_0 (pc := 46) dX4_reads_46 ?_
        refine z_aload_1 (pc := 47) dX4_reads_47 ?_
        refine z_V1 (pc := 48) dX4_reads_48 mlX4_34 kX4_readsDrinker vX4_readsDrinker (by decide) (by decide) (by first | rfl | assumption) (Nat.le_of_ble_eq_true rfl) (qX4_readsDrinker hT hR) ⟨Nat.le_refl _, Nat.le_refl _⟩ (fun r h1 hq => ?_)
        obtain ⟨rfl, J1, rfl, hA, hB⟩ := hq
        refine z_if_ne (pc := 51) (tgt := 56) dX4_reads_51 (by decide) (fun c51 => ?_) (fun c51 => ?_)
        · skip
          refine z_iinc_2 (pc := 56) (1) dX4_reads_56 rfl (by decide) rfl ?_
          refine z_goto (pc := 59) (tgt := 29) dX4_reads_59 (by decide) ?_
          rw [← nI_succ]
          have hok : (_ : zR3).1 = 0 := of_decide_eq_true ((zbb1 _).mp c51)
          obtain ⟨a1, w1, e1⟩ : ∃ x1 y1, zdrC b n a v = (0, x1, y1) := ⟨_, _, zok hok⟩
          have hR1' := hA hok
          rw [e1] at hR1'
          have hR1 : zCr I J1 w1 a1 (n + 1) 0 := hR1'
          have hP1 : zPv w1 (n + 1) 0 := by
            unfold zdrC at e1; rw [if_neg hsr] at e1; exact zPv_dr hP (by have := zsrt_lt (b a); omega) e1
          rw [zrst_dr hP hsr, zbd_ok e1]
          exact cdr_loop hT f a1 (n + 1) (k + 1) w1 J1 hP1 (by omega) hR1 (by omega)
        · skip
          refine z_iconst (pc := 54) (0) dX4_reads_54 rfl ?_
          refine z_ret (pc := 55) (r := some (.int _)) rfl dX4_reads_55 (by first | exact Or.inl rfl | exact Or.inr rfl | assumption) rfl rfl ?_
          have hno : ¬ (_ : zR3).1 = 0 := of_decide_eq_false ((zbb0 _).mp c51)
          rw [zrst_dr hP hsr, zbd_no hno]
          exact ⟨by rw [decide_eq_false hno]; rfl, _, rfl, fun z => absurd z hno, fun _ => hB hno⟩
set_option maxRecDepth 100000 in
set_option maxHeartbeats 4000000 in
theorem qX4_reads {l : zL} {I : Nat → Nat → Int32} {J : Nat → Nat → Int64} {nw : Bool} {b : Nat → Nat} {L : Nat} (hT : zTc I b L) : zP l mX4_reads [.ref 13, .ref 23] (hh I J nw) (zCz I J nw (zprs b)) := by
  refine z_start [.ref 13, .ref 23, zno] (by decide +kernel) (Nat.le_of_ble_eq_true rfl) rfl ?_
  refine z_aload_1 (pc := 0) dX4_reads_0 ?_
  refine z_V0 (pc := 1) dX4_reads_1 mlX4_25 kX7_empty vX7_empty (by decide) (by decide) (by first | rfl | assumption) (Nat.le_of_ble_eq_true rfl) (qX7_empty) ⟨Nat.le_refl _, Nat.le_refl _⟩ (fun r h1 hq => ?_)
  obtain ⟨rfl, rfl⟩ := hq
  refine z_aload_0 (pc := 4) dX4_reads_4 ?_
  refine z_iconst (pc := 5) (0) dX4_reads_5 rfl ?_
  refine y_putI (pc := 6) dX4_reads_6 flX4_19 ffX4_19 rfl (by first | rfl | assumption) ⟨rfl, rfl⟩ ?_
  have hfil : ∀ x y, x ≠ 30 → zfill (zup (zup I 23 3 0) 23 7 0) 30 19 0 x y = zup (zup I 23 3 0) 23 7 0 x y := fun x y h => by unfold zfill; rw [if_neg (fun z => h z.1)]
  have hI0 : ∀ x y, x ≠ 30 → ¬ (x = 23 ∧ (y = 3 ∨ y = 7)) → ¬ (x = 13 ∧ y = 2) → (zup (zfill (zup (zup I 23 3 0) 23 7 0) 30 19 0) 13 2 0) x y = I x y := fun x y h1 h2 h3 => by
    rw [zup_no (by omega), hfil x y h1, zup_no (by omega), zup_no (by omega)]
  have hT0 : zTc (zup (zfill (zup (zup I 23 3 0) 23 7 0) 30 19 0) 13 2 0) b L := ⟨hT.1, by rw [hI0 13 1 (by omega) (by omega) (by omega)]; exact hT.2.1, fun i hi => by rw [hI0 14 i (by omega) (by omega) (by omega)]; exact hT.2.2.1 i hi, hT.2.2.2⟩
  refine z_aload_0 (pc := 9) dX4_reads_9 ?_
  refine z_aload_1 (pc := 10) dX4_reads_10 ?_
  refine z_V1 (pc := 11) dX4_reads_11 mlX4_30 kX4_readsLaw vX4_readsLaw (by decide) (by decide) (by first | rfl | assumption) (Nat.le_of_ble_eq_true rfl) (qX4_readsLaw (v := zemp) (a := 0) hT0 zup_on (by decide)) ⟨Nat.le_refl _, Nat.le_refl _⟩ (fun r h1 hq => ?_)
  obtain ⟨rfl, J1, rfl, hA, hB⟩ := hq
  refine z_if_eq (pc := 14) (tgt := 25) dX4_reads_14 (by decide) (fun c14 => ?_) (fun c14 => ?_)
  · skip
    refine z_iconst (pc := 25) (0) dX4_reads_25 rfl ?_
    refine z_ret (pc := 26) (r := some (.int _)) rfl dX4_reads_26 (by first | exact Or.inl rfl | exact Or.inr rfl | assumption) rfl rfl ?_
    have hno : ¬ (_ : zR3).1 = 0 := of_decide_eq_false ((zbb0 _).mp c14)
    unfold zprs
    rw [zbd_no hno]
    have hb := hB hno
    refine ⟨by rw [decide_eq_false hno]; rfl, _, rfl, fun z => absurd z hno, fun _ => ⟨fun x y g1 g2 => ?_, hb.2⟩⟩
    rw [hb.1 x y g1 g2, hI0 x y (by omega) (by omega) (by omega)]
  · skip
    have hok : (_ : zR3).1 = 0 := of_decide_eq_true ((zbb1 _).mp c14)
    obtain ⟨a1, w1, e1⟩ : ∃ x1 y1, zlaw b 0 zemp = (0, x1, y1) := ⟨_, _, zok hok⟩
    have hC' := hA hok
    rw [e1] at hC'
    have hC : zCl (zup (zfill (zup (zup I 23 3 0) 23 7 0) 30 19 0) 13 2 0) J1 w1 a1 := hC'
    have hP1 := zPv_law e1
    have hR1 : zCr I J1 w1 a1 0 0 := by
      refine ⟨fun x y g1 g2 => ?_, hC.2.1, hC.2.2.1, ⟨by omega, hC.2.2.2, ⟨?_, ?_⟩, fun d hd => by omega, fun k hk => by omega, fun q hq => ?_⟩⟩
      · rw [hC.1 x y (by omega) g2, hI0 x y (by omega) (by omega) g2]
      · rw [hC.1 23 3 (by omega) (by omega), zup_no (by omega), hfil 23 3 (by omega), zup_no (by omega), zup_on]; rfl
      · rw [hC.1 23 7 (by omega) (by omega), zup_no (by omega), hfil 23 7 (by omega), zup_on]; rfl
      · rw [hC.1 30 q (by omega) (by omega), zup_no (by omega)]; unfold zfill; rw [if_pos ⟨rfl, hq⟩]
    have eR : zprs b = zbd (zdrC b 0 a1 w1) (fun a v => zrst b 16 a v) := by unfold zprs; rw [zbd_ok e1, zrst_0 hP1]
    refine z_aload_0 (pc := 17) dX4_reads_17 ?_
    refine z_aload_1 (pc := 18) dX4_reads_18 ?_
    refine z_V1 (pc := 19) dX4_reads_19 mlX4_34 kX4_readsDrinker vX4_readsDrinker (by decide) (by decide) (by first | rfl | assumption) (Nat.le_of_ble_eq_true rfl) (qX4_readsDrinker hT hR1) ⟨Nat.le_refl _, Nat.le_refl _⟩ (fun r h1 hq => ?_)
    obtain ⟨rfl, J2, rfl, hA2, hB2⟩ := hq
    refine z_if_ne (pc := 22) (tgt := 27) dX4_reads_22 (by decide) (fun c22 => ?_) (fun c22 => ?_)
    · skip
      have hok2 : (_ : zR3).1 = 0 := of_decide_eq_true ((zbb1 _).mp c22)
      obtain ⟨a2, w2, e2⟩ : ∃ x1 y1, zdrC b 0 a1 w1 = (0, x1, y1) := ⟨_, _, zok hok2⟩
      have hR2' := hA2 hok2
      rw [e2] at hR2'
      have hR2 : zCr I J2 w2 a2 1 0 := hR2'
      have hsr : ¬ zsrt (b a1) = 0 := fun z => by
        unfold zdrC at e2; rw [if_pos z] at e2; exact absurd (congrArg (fun r : zR3 => r.1) e2) (by dsimp only; decide)
      have hP2 : zPv w2 1 0 := by
        unfold zdrC at e2; rw [if_neg hsr] at e2; exact zPv_dr hP1 (by have := zsrt_lt (b a1); omega) e2
      refine z_iconst (pc := 27) (0) dX4_reads_27 rfl ?_
      refine z_istore_2 (pc := 28) dX4_reads_28 (by decide) rfl ?_
      rw [eR, zbd_ok e2]
      exact cdr_loop hT 16 a2 1 0 w2 J2 hP2 rfl hR2 (by omega)
    · skip
      refine z_iconst (pc := 25) (0) dX4_reads_25 rfl ?_
      refine z_ret (pc := 26) (r := some (.int _)) rfl dX4_reads_26 (by first | exact Or.inl rfl | exact Or.inr rfl | assumption) rfl rfl ?_
      have hno : ¬ (_ : zR3).1 = 0 := of_decide_eq_false ((zbb0 _).mp c22)
      rw [eR, zbd_no hno]
      exact ⟨by rw [decide_eq_false hno]; rfl, _, rfl, fun z => absurd z hno, fun _ => hB2 hno⟩
/-- a Town at u is told by v -/
def zTv (I : Nat → Nat → Int32) (u : Nat) (v : Nat → Int32) (n T : Nat) : Prop := (n ≤ 6 ∧ T ≤ 10) ∧ (I u 0 = v 0 ∧ I u 1 = v 1 ∧ I u 2 = v 2) ∧ (I u 3 = nI n ∧ I u 7 = nI T) ∧ (∀ d, d < n → I (u + 1) d = v (6 + d) ∧ I (u + 2) d = v (12 + d) ∧ I (u + 3) d = v (18 + d)) ∧ (∀ k, k < T → I (u + 4) k = v (24 + k) ∧ I (u + 5) k = v (34 + k))
theorem zcpy_no {I : Nat → Nat → Int32} {k0 k1 a b n x y : Nat} (h : x ≠ k1) : zcpy I k0 k1 a b n x y = I x y := by unfold zcpy; rw [if_neg h]
theorem zcpy_at {I : Nat → Nat → Int32} {k0 k1 n y : Nat} (h : y < n) : zcpy I k0 k1 0 0 n k1 y = I k0 y := by
  unfold zcpy va_cpy; rw [if_pos rfl, if_pos (by omega)]; congr 1; omega
theorem ztown_ne {I : Nat → Nat → Int32} {t u x y : Nat} (h : x < t ∨ t + 7 < x ∨ x = t + 6) : ztown I t u x y = I x y := by
  unfold ztown
  rw [zcpy_no (by omega), zcpy_no (by omega), zcpy_no (by omega), zup_no (by omega), zcpy_no (by omega), zcpy_no (by omega), zcpy_no (by omega), zup_no (by omega), zup_no (by omega), zup_no (by omega), zup_no (by omega)]
theorem ztown_st {I : Nat → Nat → Int32} {t u y : Nat} (h : t + 7 < u ∨ u + 7 < t) (hy : y < 19) : ztown I t u (t + 7) y = I (u + 7) y := by
  unfold ztown
  rw [zcpy_at hy, zcpy_no (by omega), zcpy_no (by omega), zup_no (by omega), zcpy_no (by omega), zcpy_no (by omega), zcpy_no (by omega), zup_no (by omega), zup_no (by omega), zup_no (by omega), zup_no (by omega)]
theorem ztown_tv {I : Nat → Nat → Int32} {t u n T : Nat} {v : Nat → Int32} (h : t + 7 < u ∨ u + 7 < t) (hv : zTv I u v n T) : zTv (ztown I t u) t v n T := by
  obtain ⟨h1, ⟨h20, h21, h22⟩, ⟨h33, h37⟩, h4, h5⟩ := hv
  refine ⟨h1, ⟨?_, ?_, ?_⟩, ⟨?_, ?_⟩, fun d hd => ⟨?_, ?_, ?_⟩, fun k hk => ⟨?_, ?_⟩⟩ <;> unfold ztown
  · rw [zcpy_no (by omega), zcpy_no (by omega), zcpy_no (by omega), zup_no (by omega), zcpy_no (by omega), zcpy_no (by omega), zcpy_no (by omega), zup_no (by omega), zup_no (by omega), zup_no (by omega), zup_on, h20]
  · rw [zcpy_no (by omega), zcpy_no (by omega), zcpy_no (by omega), zup_no (by omega), zcpy_no (by omega), zcpy_no (by omega), zcpy_no (by omega), zup_no (by omega), zup_no (by omega), zup_on]; first | exact h21 | (rw [zup_no (by omega)]; exact h21)
  · rw [zcpy_no (by omega), zcpy_no (by omega), zcpy_no (by omega), zup_no (by omega), zcpy_no (by omega), zcpy_no (by omega), zcpy_no (by omega), zup_no (by omega), zup_on]; first | exact h22 | (rw [zup_no (by omega), zup_no (by omega)]; exact h22)
  · rw [zcpy_no (by omega), zcpy_no (by omega), zcpy_no (by omega), zup_no (by omega), zcpy_no (by omega), zcpy_no (by omega), zcpy_no (by omega), zup_on]; first | exact h33 | (rw [zup_no (by omega), zup_no (by omega), zup_no (by omega)]; exact h33)
  · rw [zcpy_no (by omega), zcpy_no (by omega), zcpy_no (by omega), zup_on]; first | exact h37 | (rw [zcpy_no (by omega), zcpy_no (by omega), zcpy_no (by omega), zup_no (by omega), zup_no (by omega), zup_no (by omega), zup_no (by omega)]; exact h37)
  · rw [zcpy_no (by omega), zcpy_no (by omega), zcpy_no (by omega), zup_no (by omega), zcpy_no (by omega), zcpy_no (by omega), zcpy_at (by omega), zup_no (by omega), zup_no (by omega), zup_no (by omega), zup_no (by omega)]; exact (h4 d hd).1
  · rw [zcpy_no (by omega), zcpy_no (by omega), zcpy_no (by omega), zup_no (by omega), zcpy_no (by omega), zcpy_at (by omega), zcpy_no (by omega), zup_no (by omega), zup_no (by omega), zup_no (by omega), zup_no (by omega)]; exact (h4 d hd).2.1
  · rw [zcpy_no (by omega), zcpy_no (by omega), zcpy_no (by omega), zup_no (by omega), zcpy_at (by omega), zcpy_no (by omega), zcpy_no (by omega), zup_no (by omega), zup_no (by omega), zup_no (by omega), zup_no (by omega)]; exact (h4 d hd).2.2
  · rw [zcpy_no (by omega), zcpy_no (by omega), zcpy_at (by omega), zup_no (by omega), zcpy_no (by omega), zcpy_no (by omega), zcpy_no (by omega), zup_no (by omega), zup_no (by omega), zup_no (by omega), zup_no (by omega)]; exact (h5 k hk).1
  · rw [zcpy_no (by omega), zcpy_at (by omega), zcpy_no (by omega), zup_no (by omega), zcpy_no (by omega), zcpy_no (by omega), zcpy_no (by omega), zup_no (by omega), zup_no (by omega), zup_no (by omega), zup_no (by omega)]; exact (h5 k hk).2
def zCtn (I : Nat → Nat → Int32) (J : Nat → Nat → Int64) (nw : Bool) (R : zR3) : Option Value → zH → Prop := fun r h1 => ∃ I2, h1 = (I2, J, RF nw, SH) ∧ I2 13 1 = 0 ∧ (∀ x y, ¬ (23 ≤ x ∧ x ≤ 30) → ¬ (x = 13 ∧ 1 ≤ y ∧ y ≤ 3) → ¬ (15 ≤ x ∧ x ≤ 22 ∧ R.1 = 0) → ¬ (x = 48 ∧ y = 2 ∧ R.1 = 0) → I2 x y = I x y) ∧ (R.1 = 0 → r = some (.int (R.2.2 3)) ∧ I2 13 3 = I 13 3 ∧ I2 48 2 = 0 ∧ ∃ n T, 1 ≤ n ∧ zPv R.2.2 n T ∧ zTv I2 15 R.2.2 n T ∧ ∀ q, q < 19 → I2 22 q = 0) ∧ (¬ R.1 = 0 → r = some (.int (-1000100 - nI R.2.1)) ∧ I2 13 3 = nI R.1)
set_option maxRecDepth 100000 in
set_option maxHeartbeats 4000000 in
theorem qX8_town {l : zL} {I : Nat → Nat → Int32} {J : Nat → Nat → Int64} {nw : Bool} {b : Nat → Nat} {L : Nat} (hT : zTc I b L) : zP l mX8_town [.ref 0] (hh I J nw) (zCtn I J nw (zprs b)) := by
  refine z_start [.ref 0, zno] (by decide +kernel) (Nat.le_of_ble_eq_true rfl) rfl ?_
  refine z_aload_0 (pc := 0) dX8_town_0 ?_
  refine y_getR (pc := 1) dX8_town_1 flX8_19 rfl (by first | rfl | assumption) (by first | rfl | assumption) ?_
  refine z_aload_0 (pc := 4) dX8_town_4 ?_
  refine y_getR (pc := 5) dX8_town_5 flX8_30 rfl (by first | rfl | assumption) (by first | rfl | assumption) ?_
  refine z_V1 (pc := 8) dX8_town_8 mlX8_124 kX4_reads vX4_reads (by decide) (by decide) (by first | rfl | assumption) (Nat.le_of_ble_eq_true rfl) (qX4_reads hT) ⟨Nat.le_refl _, Nat.le_refl _⟩ (fun r h1 hq => ?_)
  obtain ⟨rfl, I2, rfl, hA, hB⟩ := hq
  refine z_istore_1 (pc := 11) dX8_town_11 (by decide) rfl ?_
  refine z_aload_0 (pc := 12) dX8_town_12 ?_
  refine y_getR (pc := 13) dX8_town_13 flX8_19 rfl (by first | rfl | assumption) (by first | rfl | assumption) ?_
  refine z_iconst (pc := 16) (0) dX8_town_16 rfl ?_
  refine y_putI (pc := 17) dX8_town_17 flX8_117 ffX8_117 rfl (by first | rfl | assumption) ⟨rfl, rfl⟩ ?_
  refine z_iload_1 (pc := 20) dX8_town_20 ?_
  refine z_if_ne (pc := 21) (tgt := 35) dX8_town_21 (by decide) (fun c21 => ?_) (fun c21 => ?_)
  · skip
    have hok : (zprs b).1 = 0 := of_decide_eq_true ((zbb1 _).mp c21)
    obtain ⟨hs, n, T, hn1, hP, hv⟩ := hA hok
    have htv : zTv (zup I2 13 1 0) 23 (zprs b).2.2 n T := by
      obtain ⟨g1, ⟨g20, g21, g22⟩, ⟨g33, g37⟩, g4, g5, g6⟩ := hv
      refine ⟨g1, ⟨?_, ?_, ?_⟩, ⟨?_, ?_⟩, fun d hd => ⟨?_, ?_, ?_⟩, fun k hk => ⟨?_, ?_⟩⟩ <;> rw [zup_no (by omega)]
      · exact g20
      · exact g21
      · exact g22
      · exact g33
      · exact g37
      · exact (g4 d hd).1
      · exact (g4 d hd).2.1
      · exact (g4 d hd).2.2
      · exact (g5 k hk).1
      · exact (g5 k hk).2
    have htw := ztown_tv (t := 15) (u := 23) (by omega) htv
    refine z_aload_0 (pc := 35) dX8_town_35 ?_
    refine y_getR (pc := 36) dX8_town_36 flX8_26 rfl (by first | rfl | assumption) (by first | rfl | assumption) ?_
    refine z_aload_0 (pc := 39) dX8_town_39 ?_
    refine y_getR (pc := 40) dX8_town_40 flX8_30 rfl (by first | rfl | assumption) (by first | rfl | assumption) ?_
    refine z_V1 (pc := 43) dX8_town_43 mlX8_132 kX7_become vX7_become (by decide) (by decide) (by first | rfl | assumption) (Nat.le_of_ble_eq_true rfl) (qX7_become_15_23) ⟨Nat.le_refl _, Nat.le_refl _⟩ (fun r h1 hq => ?_)
    obtain ⟨rfl, rfl⟩ := hq
    refine z_aload_0 (pc := 46) dX8_town_46 ?_
    refine y_getR (pc := 47) dX8_town_47 flX8_40 rfl (by first | rfl | assumption) (by first | rfl | assumption) ?_
    refine z_V0 (pc := 50) dX8_town_50 mlX8_135 kX0_forget vX0_forget (by decide) (by decide) (by first | rfl | assumption) (Nat.le_of_ble_eq_true rfl) (qX0_forget) ⟨Nat.le_refl _, Nat.le_refl _⟩ (fun r h1 hq => ?_)
    obtain ⟨rfl, rfl⟩ := hq
    refine z_aload_0 (pc := 53) dX8_town_53 ?_
    refine y_getR (pc := 54) dX8_town_54 flX8_26 rfl (by first | rfl | assumption) (by first | rfl | assumption) ?_
    refine y_getI (pc := 57) dX8_town_57 flX8_138 rfl (by first | rfl | assumption) ?_
    refine z_ret (pc := 60) (r := some (.int _)) rfl dX8_town_60 trivial rfl rfl ?_
    have e3 : zup (ztown (zup I2 13 1 0) 15 23) 48 2 0 15 3 = (zprs b).2.2 3 := by rw [zup_no (by omega), htw.2.2.1.1, hP.2.1]
    refine ⟨_, rfl, ?_, fun x y g1 g2 g3 g4 => ?_, fun _ => ⟨by rw [e3], ?_, zup_on, n, T, hn1, hP, ?_, fun q hq => ?_⟩, fun z => absurd hok z⟩
    · rw [zup_no (by omega), ztown_ne (by omega), zup_on]
    · rw [zup_no (by omega), ztown_ne (by omega), zup_no (by omega)]; exact hs x y g1 (by omega)
    · rw [zup_no (by omega), ztown_ne (by omega), zup_no (by omega)]; exact hs 13 3 (by omega) (by omega)
    · obtain ⟨g1, ⟨g20, g21, g22⟩, ⟨g33, g37⟩, g4, g5⟩ := htw
      refine ⟨g1, ⟨?_, ?_, ?_⟩, ⟨?_, ?_⟩, fun d hd => ⟨?_, ?_, ?_⟩, fun k hk => ⟨?_, ?_⟩⟩ <;> rw [zup_no (by omega)]
      · exact g20
      · exact g21
      · exact g22
      · exact g33
      · exact g37
      · exact (g4 d hd).1
      · exact (g4 d hd).2.1
      · exact (g4 d hd).2.2
      · exact (g5 k hk).1
      · exact (g5 k hk).2
    · rw [zup_no (by omega), show (22 : Nat) = 15 + 7 from rfl, ztown_st (by omega) hq, zup_no (by omega)]
      exact hv.2.2.2.2.2 q hq
  · skip
    have hno : ¬ (zprs b).1 = 0 := of_decide_eq_false ((zbb0 _).mp c21)
    have hf := hB hno
    refine z_ldc (pc := 24) dX8_town_24 kcX8_128 ?_
    refine z_aload_0 (pc := 26) dX8_town_26 ?_
    refine y_getR (pc := 27) dX8_town_27 flX8_19 rfl (by first | rfl | assumption) (by first | rfl | assumption) ?_
    refine y_getI (pc := 30) dX8_town_30 flX8_129 rfl (by first | rfl | assumption) ?_
    rw [zup_no (by decide), hf.2.2]
    refine z_isub (pc := 33) dX8_town_33 ?_
    refine z_ret (pc := 34) (r := some (.int _)) rfl dX8_town_34 trivial rfl rfl ?_
    refine ⟨_, rfl, zup_on, fun x y g1 g2 g3 g4 => ?_, fun z => absurd z hno, fun _ => ⟨rfl, ?_⟩⟩
    · rw [zup_no (by omega), hf.1 x y g1 (by omega)]
    · rw [zup_no (by omega)]; exact hf.2.1
