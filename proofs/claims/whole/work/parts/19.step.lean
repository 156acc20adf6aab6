/-- behind the drinkers below i of one step -/
def zMid (I I1 : Nat → Nat → Int32) (nw : Bool) (t : zTn) (cm : Nat → Option Int32) (fs : Nat → Int32) (bl : Nat → Bool) (i j : Nat) : Prop :=
  (∀ a, a ≠ 74 → a ≠ xk nw → I1 a = I a) ∧ (∀ b, b ≠ 7 → I1 74 b = I 74 b) ∧ I1 74 7 = nI (bs (zbl t cm bl i)) ∧ ∀ e, e < 6 → I1 (xk nw) e = (znx t cm fs j e).getD 0
theorem zbl_none {t : zTn} {cm : Nat → Option Int32} {bl : Nat → Bool} {i : Nat} (h : cm i = none) (d : Nat) : zbl t cm bl (i + 1) d = zbl t cm bl i d := by
  unfold zbl
  by_cases hd : d = i
  · subst hd; simp [h]
  · have : d < i + 1 ↔ d < i := by omega
    simp [this]
theorem zbl_some {t : zTn} {cm : Nat → Option Int32} {bl : Nat → Bool} {i : Nat} {s : Int32} (h : cm i = some s) (d : Nat) : zbl t cm bl (i + 1) d = (zbl t cm bl i d || (d == i && zB t i s)) := by
  unfold zbl
  by_cases hd : d = i
  · subst hd; simp [h]
  · have : d < i + 1 ↔ d < i := by omega
    simp [this, hd]
theorem znx_no {t : zTn} {cm : Nat → Option Int32} {fs : Nat → Int32} {i : Nat} (h : ¬ 0 < zon t cm fs i) (e : Nat) : znx t cm fs (i + 1) e = znx t cm fs i e := by
  rw [znx, if_neg (fun q => h q.1)]
theorem zon_none {t : zTn} {cm : Nat → Option Int32} {fs : Nat → Int32} {i : Nat} (h : cm i = none) : zon t cm fs i = 0 := by unfold zon; rw [h]
theorem zon_old {t : zTn} {cm : Nat → Option Int32} {fs : Nat → Int32} {i : Nat} (h : ¬ fs i < 0) : zon t cm fs i = 0 := by
  unfold zon; cases cm i with
  | none => rfl
  | some s => exact if_neg h
theorem zon_new {t : zTn} {cm : Nat → Option Int32} {fs : Nat → Int32} {i : Nat} {s : Int32} (h : cm i = some s) (hf : fs i < 0) : zon t cm fs i = zpas (t.2.1 i) s (zB t i s) := by
  unfold zon; rw [h]; exact if_pos hf
theorem znx_pos {t : zTn} {cm : Nat → Option Int32} {fs : Nat → Int32} : ∀ (i e : Nat) (v : Int32), znx t cm fs i e = some v → 0 < v
  | 0, e, v, h => by cases h
  | i + 1, e, v, h => by
    rw [znx] at h
    by_cases hq : 0 < zon t cm fs i ∧ t.2.2.2.2.2 i e = true
    · rw [if_pos hq] at h
      unfold zmx at h
      cases hz : znx t cm fs i e with
      | none => rw [hz] at h; cases h; exact hq.1
      | some u =>
        rw [hz] at h
        cases h
        by_cases hu : u < zon t cm fs i
        · rw [if_pos hu]; exact hq.1
        · rw [if_neg hu]; exact znx_pos i e u hz
    · rw [if_neg hq] at h
      exact znx_pos i e v h
theorem znx_yes {t : zTn} {cm : Nat → Option Int32} {fs : Nat → Int32} {i : Nat} (h : 0 < zon t cm fs i) (e : Nat) : (znx t cm fs (i + 1) e).getD 0 = if t.2.2.2.2.2 i e = true then (if (znx t cm fs i e).getD 0 < zon t cm fs i then zon t cm fs i else (znx t cm fs i e).getD 0) else (znx t cm fs i e).getD 0 := by
  rw [znx]
  by_cases hq : t.2.2.2.2.2 i e = true
  · rw [if_pos ⟨h, hq⟩, if_pos hq]
    unfold zmx
    cases hz : znx t cm fs i e with
    | none => simp [h]
    | some u => simp
  · rw [if_neg (fun q => hq q.2), if_neg hq]
theorem znx_some {t : zTn} {cm : Nat → Option Int32} {fs : Nat → Int32} {i : Nat} (h : 0 < zon t cm fs i) (e : Nat) : (znx t cm fs (i + 1) e).isSome = ((znx t cm fs i e).isSome || t.2.2.2.2.2 i e) := by
  rw [znx]
  by_cases hq : t.2.2.2.2.2 i e = true
  · rw [if_pos ⟨h, hq⟩, hq]
    unfold zmx
    cases hz : znx t cm fs i e <;> simp
  · rw [if_neg (fun q => hq q.2)]
    simp [hq]
def zrc (fs : Nat → Int32) : Nat → Bool := fun d => !decide (fs d < 0)
set_option maxRecDepth 100000 in
set_option maxHeartbeats 4000000 in
theorem step_loop {l : zL} {I : Nat → Nat → Int32} {J : Nat → Nat → Int64} {nw : Bool} (t : zTn) (ht : zSet I t) (hw : I 74 6 = t.2.2.2.2.1) (hev : I 74 5 = nI (bs (fun e => decide (e < t.1)))) (cm : Nat → Option Int32) (fs : Nat → Int32) (bl : Nat → Bool) (hcm : ∀ d s, d < 6 → cm d = some s → I (nk nw) d = s) : ∀ (f i : Nat) (v5 : Value) (I1 : Nat → Nat → Int32), i ≤ t.1 → t.1 - i < f → v5.category = 1 → zMid I I1 nw t cm fs bl i i →
    zW l mX6_goOneStep SH.length (zsl SH) 22 [.ref 74, .int (nI (bs (zsome cm))), .int (nI (bs (fun e => zsome cm e && !zrc fs e))), .int (nI (bs (zsome (znx t cm fs i)))), .int (nI i), v5] [] (I1, J, RF nw, SH) (fun r h1 => r = some (.int (nI (bs (zsome (znx t cm fs t.1))))) ∧ ∃ I2, h1 = (I2, J, RF (!nw), SH) ∧ (∀ a, a ≠ 74 → a ≠ 77 → a ≠ 78 → I2 a = I a) ∧ I2 74 5 = I 74 5 ∧ I2 74 6 = I 74 6 ∧ I2 74 9 = I 74 9 ∧ I2 74 7 = nI (bs (zbl t cm bl t.1)) ∧ I2 74 8 = I 74 8 ||| nI (bs (zsome cm)) ∧ ∀ e, e < 6 → I2 (nk (!nw)) e = (znx t cm fs t.1 e).getD 0)
  | 0, i, v5, I1, _, hf, _, _ => by omega
  | f + 1, i, v5, I1, hi, hf, hv5, hM => by
    have hn6 := ht.1
    have k113 : i < t.1 → ∀ (I2 : Nat → Nat → Int32) (w5 : Value), w5.category = 1 → zMid I I2 nw t cm fs bl (i + 1) (i + 1) → zW l mX6_goOneStep SH.length (zsl SH) 113 [.ref 74, .int (nI (bs (zsome cm))), .int (nI (bs (fun e => zsome cm e && !zrc fs e))), .int (nI (bs (zsome (znx t cm fs (i + 1))))), .int (nI i), w5] [] (I2, J, RF nw, SH) (fun r h1 => r = some (.int (nI (bs (zsome (znx t cm fs t.1))))) ∧ ∃ I2, h1 = (I2, J, RF (!nw), SH) ∧ (∀ a, a ≠ 74 → a ≠ 77 → a ≠ 78 → I2 a = I a) ∧ I2 74 5 = I 74 5 ∧ I2 74 6 = I 74 6 ∧ I2 74 9 = I 74 9 ∧ I2 74 7 = nI (bs (zbl t cm bl t.1)) ∧ I2 74 8 = I 74 8 ||| nI (bs (zsome cm)) ∧ ∀ e, e < 6 → I2 (nk (!nw)) e = (znx t cm fs t.1 e).getD 0) := by
      intro hlt I2 w5 hw5 hM2
      refine z_iinc_4 (pc := 113) (1) dX6_goOneStep_113 rfl (by decide) rfl ?_
      refine z_goto (pc := 116) (tgt := 22) dX6_goOneStep_116 (by decide) ?_
      rw [← nI_succ]
      exact step_loop t ht hw hev cm fs bl hcm f (i + 1) w5 I2 (by omega) (by omega) hw5 hM2
    have k76 : i < t.1 → ∀ (I2 : Nat → Nat → Int32) (s : Int32), cm i = some s → zMid I I2 nw t cm fs bl (i + 1) i → zW l mX6_goOneStep SH.length (zsl SH) 76 [.ref 74, .int (nI (bs (zsome cm))), .int (nI (bs (fun e => zsome cm e && !zrc fs e))), .int (nI (bs (zsome (znx t cm fs i)))), .int (nI i), .int (if zB t i s = true then 1 else 0)] [] (I2, J, RF nw, SH) (fun r h1 => r = some (.int (nI (bs (zsome (znx t cm fs t.1))))) ∧ ∃ I2, h1 = (I2, J, RF (!nw), SH) ∧ (∀ a, a ≠ 74 → a ≠ 77 → a ≠ 78 → I2 a = I a) ∧ I2 74 5 = I 74 5 ∧ I2 74 6 = I 74 6 ∧ I2 74 9 = I 74 9 ∧ I2 74 7 = nI (bs (zbl t cm bl t.1)) ∧ I2 74 8 = I 74 8 ||| nI (bs (zsome cm)) ∧ ∀ e, e < 6 → I2 (nk (!nw)) e = (znx t cm fs t.1 e).getD 0) := by
      intro hlt I2 s hs hM2
      obtain ⟨m1, m2, m3, m4⟩ := hM2
      obtain ⟨hh1, hh2, hh3, ⟨kk, hk1, hk2, hkk⟩, hh5, hh6, hh7⟩ := ht.2.2 i hlt
      have enow : I2 (nk nw) i = s := by rw [m1 _ (by cases nw <;> decide) (nk_xk nw)]; exact hcm i s (by omega) hs
      have ekd : I2 75 i = t.2.1 i := by rw [m1 75 (by decide) (ne_xk nw (by decide) (by decide))]; exact hh1
      have ht2 : zSet I2 t := zSet_keep ht (fun a ha => m1 a (by omega) (ne_xk nw (by omega) (by omega)))
      refine z_iload_2 (pc := 76) dX6_goOneStep_76 ?_
      refine z_iload_4 (pc := 77) dX6_goOneStep_77 ?_
      refine z_ishr (pc := 79) dX6_goOneStep_79 ?_
      refine z_iconst (pc := 80) (1) dX6_goOneStep_80 rfl ?_
      refine z_iand (pc := 81) dX6_goOneStep_81 ?_
      refine z_if_eq (pc := 82) (tgt := 113) dX6_goOneStep_82 (by decide) (fun c82 => ?_) (fun c82 => ?_)
      · skip
        have hnf : ¬ fs i < 0 := by
          intro q
          rw [bs_test _ i (by omega), show (zsome cm i && !zrc fs i) = true from by simp [zsome, hs, zrc, q]] at c82
          exact absurd c82 (by decide)
        have hz := zon_old (t := t) (cm := cm) hnf
        have e1 : ∀ e, znx t cm fs (i + 1) e = znx t cm fs i e := fun e => znx_no (by rw [hz]; decide) e
        rw [show bs (zsome (znx t cm fs i)) = bs (zsome (znx t cm fs (i + 1))) from bs_congr (fun e _ => by unfold zsome; rw [e1])]
        exact k113 hlt I2 _ rfl ⟨m1, m2, m3, fun e he => by rw [e1]; exact m4 e he⟩
      · skip
        have hnf : fs i < 0 := by
          rcases Decidable.em (fs i < 0) with q | q
          · exact q
          · rw [bs_test _ i (by omega), show (zsome cm i && !zrc fs i) = false from by simp [zsome, hs, zrc, q]] at c82
            exact absurd rfl c82
        have hz := zon_new (t := t) hs hnf
        refine z_iload_3 (pc := 85) dX6_goOneStep_85 ?_
        refine z_aload_0 (pc := 86) dX6_goOneStep_86 ?_
        refine z_iload_4 (pc := 87) dX6_goOneStep_87 ?_
        refine z_aload_0 (pc := 89) dX6_goOneStep_89 ?_
        refine y_getR (pc := 90) dX6_goOneStep_90 flX6_9 rfl (by first | rfl | assumption | exact SH_xk nw | exact SH_nk nw) (by first | rfl | assumption | exact SH_xk nw | exact SH_nk nw) ?_
        refine z_iload_4 (pc := 93) dX6_goOneStep_93 ?_
        refine y_ialdN (pc := 95) (i) dX6_goOneStep_95 (by first | rfl | assumption | exact SH_xk nw | exact SH_nk nw) (rfl) (by omega) (by first | decide | omega) ?_
        refine z_aload_0 (pc := 96) dX6_goOneStep_96 ?_
        refine y_getR (pc := 97) dX6_goOneStep_97 flX6_18 rfl (by first | rfl | assumption | exact SH_xk nw | exact SH_nk nw) (by first | rfl | assumption | exact SH_xk nw | exact SH_nk nw) ?_
        refine z_iload_4 (pc := 100) dX6_goOneStep_100 ?_
        refine y_ialdN (pc := 102) (i) dX6_goOneStep_102 (by first | rfl | assumption | exact SH_xk nw | exact SH_nk nw) (rfl) (by omega) (by first | decide | omega) ?_
        rw [ekd, show I2 (if nw = true then 77 else 78) i = s from enow]
        refine z_iload_5 (pc := 103) dX6_goOneStep_103 ?_
        refine z_S3 (pc := 105) dX6_goOneStep_105 mlX6_127 kX6_passedOn vX6_passedOn (by decide) (by decide) (Nat.le_of_ble_eq_true rfl) (qX6_passedOn kk ⟨hk1, hk2⟩ hkk (zB t i s) rfl) ⟨Nat.le_refl _, Nat.le_refl _⟩ (fun r h1 hq => ?_)
        obtain ⟨rfl, rfl⟩ := hq
        by_cases hon : 0 < zpas (t.2.1 i) s (zB t i s)
        · refine z_V2 (pc := 108) dX6_goOneStep_108 mlX6_131 kX6_passOn vX6_passOn (by decide) (by decide) rfl (Nat.le_of_ble_eq_true rfl) (qX6_passOn t ht2 ((m2 5 (by decide)).trans hev) i hlt rfl hon) ⟨Nat.le_refl _, Nat.le_refl _⟩ (fun r h1 hq => ?_)
          obtain ⟨rfl, g2, rfl, hg2⟩ := hq
          refine z_ior (pc := 111) dX6_goOneStep_111 ?_
          refine z_istore_3 (pc := 112) dX6_goOneStep_112 (by decide) rfl ?_
          have hon2 : 0 < zon t cm fs i := by rw [hz]; exact hon
          rw [show nI (bs (zsome (znx t cm fs i))) ||| nI (bs (t.2.2.2.2.2 i)) = nI (bs (zsome (znx t cm fs (i + 1)))) from by
            rw [bs_or]; exact congrArg nI (bs_congr (fun e _ => by unfold zsome; rw [znx_some hon2]))]
          refine k113 hlt _ _ rfl ⟨fun a h1 h2 => ?_, fun b hb => ?_, ?_, fun e he => ?_⟩
          · funext b; rw [zrow_ne _ _ _ h2, m1 a h1 h2]
          · rw [zrow_ne _ _ _ (ne_xk nw (by decide) (by decide))]; exact m2 b hb
          · rw [zrow_ne _ _ _ (ne_xk nw (by decide) (by decide))]; exact m3
          · rw [zrow_at, hg2 e he, m4 e he, znx_yes hon2, hz]
        · refine z_V2 (pc := 108) dX6_goOneStep_108 mlX6_131 kX6_passOn vX6_passOn (by decide) (by decide) rfl (Nat.le_of_ble_eq_true rfl) (qX6_passOn_no hon) ⟨Nat.le_refl _, Nat.le_refl _⟩ (fun r h1 hq => ?_)
          obtain ⟨rfl, rfl⟩ := hq
          refine z_ior (pc := 111) dX6_goOneStep_111 ?_
          refine z_istore_3 (pc := 112) dX6_goOneStep_112 (by decide) rfl ?_
          have e1 : ∀ e, znx t cm fs (i + 1) e = znx t cm fs i e := fun e => znx_no (by rw [hz]; exact hon) e
          rw [show nI (bs (zsome (znx t cm fs i))) ||| 0 = nI (bs (zsome (znx t cm fs (i + 1)))) from by
            have q : nI (bs (zsome (znx t cm fs i))) ||| nI (bs (fun _ => false)) = nI (bs (zsome (znx t cm fs (i + 1)))) := by
              rw [bs_or]; exact congrArg nI (bs_congr (fun e _ => by unfold zsome; rw [e1]; simp))
            exact q]
          exact k113 hlt I2 _ rfl ⟨m1, m2, m3, fun e he => by rw [e1]; exact m4 e he⟩
    obtain ⟨m1, m2, m3, m4⟩ := hM
    have ht1 : zSet I1 t := zSet_keep ht (fun a ha => m1 a (by omega) (ne_xk nw (by omega) (by omega)))
    refine z_iload_4 (pc := 22) dX6_goOneStep_22 ?_
    refine z_aload_0 (pc := 24) dX6_goOneStep_24 ?_
    refine y_getR (pc := 25) dX6_goOneStep_25 flX6_40 rfl (by first | rfl | assumption | exact SH_xk nw | exact SH_nk nw) (by first | rfl | assumption | exact SH_xk nw | exact SH_nk nw) ?_
    refine y_getI (pc := 28) dX6_goOneStep_28 flX6_120 rfl (by first | rfl | assumption | exact SH_xk nw | exact SH_nk nw) ?_
    refine z_icmp_ge (pc := 31) (tgt := 119) dX6_goOneStep_31 (by decide) (fun c31 => ?_) (fun c31 => ?_)
    · skip
      refine z_aload_0 (pc := 119) dX6_goOneStep_119 ?_
      refine z_dup (pc := 120) rfl dX6_goOneStep_120 ?_
      refine y_getI (pc := 121) dX6_goOneStep_121 flX6_34 rfl (by first | rfl | assumption | exact SH_xk nw | exact SH_nk nw) ?_
      refine z_iload_1 (pc := 124) dX6_goOneStep_124 ?_
      refine z_ior (pc := 125) dX6_goOneStep_125 ?_
      refine y_putI (pc := 126) dX6_goOneStep_126 flX6_34 ffX6_34 rfl (by first | rfl | assumption | exact SH_xk nw | exact SH_nk nw) ⟨rfl, rfl⟩ ?_
      refine z_aload_0 (pc := 129) dX6_goOneStep_129 ?_
      refine y_getR (pc := 130) dX6_goOneStep_130 flX6_18 rfl (by first | rfl | assumption | exact SH_xk nw | exact SH_nk nw) (by first | rfl | assumption | exact SH_xk nw | exact SH_nk nw) ?_
      refine z_astore_4 (pc := 133) dX6_goOneStep_133 (by decide) rfl ?_
      refine z_aload_0 (pc := 135) dX6_goOneStep_135 ?_
      refine z_aload_0 (pc := 136) dX6_goOneStep_136 ?_
      refine y_getR (pc := 137) dX6_goOneStep_137 flX6_21 rfl (by first | rfl | assumption | exact SH_xk nw | exact SH_nk nw) (by first | rfl | assumption | exact SH_xk nw | exact SH_nk nw) ?_
      refine y_putR (pc := 140) dX6_goOneStep_140 flX6_18 (Or.inl ffX6_18) rfl (by first | rfl | assumption | exact SH_xk nw | exact SH_nk nw) (fun a => ⟨rfl, rfl⟩) ?_
      refine z_aload_0 (pc := 143) dX6_goOneStep_143 ?_
      refine z_aload_4 (pc := 144) dX6_goOneStep_144 ?_
      refine y_putR (pc := 146) dX6_goOneStep_146 flX6_21 (Or.inl ffX6_21) rfl (by first | rfl | assumption | exact SH_xk nw | exact SH_nk nw) (fun a => ⟨rfl, rfl⟩) ?_
      refine z_iload_3 (pc := 149) dX6_goOneStep_149 ?_
      refine z_ret (pc := 150) (r := some (.int _)) rfl dX6_goOneStep_150 trivial rfl rfl ?_
      have hin : i = t.1 := by
        rcases Nat.lt_or_ge i t.1 with q | q
        · rw [ht1.2.1] at c31
          exact absurd c31 (nI_ge q (by omega))
        · omega
      subst hin
      refine ⟨rfl, _, by rw [RF_swap], fun a h1 h2 h3 => ?_, ?_, ?_, ?_, ?_, ?_, fun e he => ?_⟩
      · funext b; rw [zup_nk _ _ h1, m1 a h1 (ne_xk nw h2 h3)]
      · rw [zup_nj _ _ (by decide)]; exact m2 5 (by decide)
      · rw [zup_nj _ _ (by decide)]; exact m2 6 (by decide)
      · rw [zup_nj _ _ (by decide)]; exact m2 9 (by decide)
      · rw [zup_nj _ _ (by decide)]; exact m3
      · rw [zup_same, m2 8 (by decide)]
      · rw [zup_nk _ _ (by cases nw <;> decide), show nk (!nw) = xk nw from by cases nw <;> rfl]; exact m4 e he
    · skip
      have hlt : i < t.1 := by
        rcases Nat.lt_or_ge i t.1 with q | q
        · exact q
        · exact absurd (by rw [ht1.2.1]; exact nI_le q (by omega)) c31
      refine z_iload_1 (pc := 34) dX6_goOneStep_34 ?_
      refine z_iload_4 (pc := 35) dX6_goOneStep_35 ?_
      refine z_ishr (pc := 37) dX6_goOneStep_37 ?_
      refine z_iconst (pc := 38) (1) dX6_goOneStep_38 rfl ?_
      refine z_iand (pc := 39) dX6_goOneStep_39 ?_
      refine z_if_eq (pc := 40) (tgt := 113) dX6_goOneStep_40 (by decide) (fun c40 => ?_) (fun c40 => ?_)
      · skip
        have hs : cm i = none := by
          rw [bs_test _ i (by omega)] at c40
          cases hq : cm i with
          | none => rfl
          | some s => rw [show zsome cm i = true from by unfold zsome; rw [hq]; rfl] at c40; exact absurd c40 (by decide)
        have e1 : ∀ e, znx t cm fs (i + 1) e = znx t cm fs i e := fun e => znx_no (by rw [zon_none hs]; decide) e
        rw [show bs (zsome (znx t cm fs i)) = bs (zsome (znx t cm fs (i + 1))) from bs_congr (fun e _ => by unfold zsome; rw [e1])]
        exact k113 hlt I1 v5 hv5 ⟨m1, m2, by rw [m3]; exact congrArg nI (bs_congr (fun e _ => (zbl_none hs e).symm)), fun e he => by rw [e1]; exact m4 e he⟩
      · skip
        obtain ⟨s, hs⟩ : ∃ s, cm i = some s := by
          rw [bs_test _ i (by omega)] at c40
          cases hq : cm i with
          | none => rw [show zsome cm i = false from by unfold zsome; rw [hq]; rfl] at c40; exact absurd rfl c40
          | some s => exact ⟨s, rfl⟩
        have enow : I1 (if nw = true then 77 else 78) i = s := by
          rw [m1 _ (by cases nw <;> decide) (nk_xk nw)]
          exact hcm i s (by omega) hs
        refine z_aload_0 (pc := 43) dX6_goOneStep_43 ?_
        refine z_iload_4 (pc := 44) dX6_goOneStep_44 ?_
        refine z_aload_0 (pc := 46) dX6_goOneStep_46 ?_
        refine y_getR (pc := 47) dX6_goOneStep_47 flX6_18 rfl (by first | rfl | assumption | exact SH_xk nw | exact SH_nk nw) (by first | rfl | assumption | exact SH_xk nw | exact SH_nk nw) ?_
        refine z_iload_4 (pc := 50) dX6_goOneStep_50 ?_
        refine y_ialdN (pc := 52) (i) dX6_goOneStep_52 (by first | rfl | assumption | exact SH_xk nw | exact SH_nk nw) (rfl) (by omega) (by first | decide | omega) ?_
        rw [enow]
        refine z_V2 (pc := 53) dX6_goOneStep_53 mlX6_123 kX6_isBelieved vX6_isBelieved (by decide) (by decide) (by first | rfl | assumption | exact SH_xk nw | exact SH_nk nw) (Nat.le_of_ble_eq_true rfl) (qX6_isBelieved i rfl (by omega)) ⟨Nat.le_refl _, Nat.le_refl _⟩ (fun r h1 hq => ?_)
        obtain ⟨rfl, rfl⟩ := hq
        refine z_istore_5 (pc := 56) dX6_goOneStep_56 (by decide) rfl ?_
        refine z_iload_5 (pc := 58) dX6_goOneStep_58 ?_
        refine z_if_eq (pc := 60) (tgt := 76) dX6_goOneStep_60 (by decide) (fun c60 => ?_) (fun c60 => ?_)
        · skip
          have ht0 := ht.2.2 i hlt
          have eB : zbel (I1 75 i) (I1 17 i) (I1 18 i) (I1 74 6) (nI i) s = zB t i s := by
            rw [m1 75 (by decide) (ne_xk nw (by decide) (by decide)), m1 17 (by decide) (ne_xk nw (by decide) (by decide)), m1 18 (by decide) (ne_xk nw (by decide) (by decide)), m2 6 (by decide), ht0.1, ht0.2.1, ht0.2.2.1, hw]
            rfl
          rw [eB] at c60 ⊢
          have hb : zB t i s = false := by
            cases hq : zB t i s
            · rfl
            · rw [hq] at c60; exact absurd c60 (by decide)
          refine k76 hlt I1 s hs ⟨m1, m2, ?_, m4⟩
          rw [m3]
          exact congrArg nI (bs_congr (fun e _ => by rw [zbl_some hs, hb]; simp))
        · skip
          refine z_aload_0 (pc := 63) dX6_goOneStep_63 ?_
          refine z_dup (pc := 64) rfl dX6_goOneStep_64 ?_
          refine y_getI (pc := 65) dX6_goOneStep_65 flX6_31 rfl (by first | rfl | assumption | exact SH_xk nw | exact SH_nk nw) ?_
          refine z_iconst (pc := 68) (1) dX6_goOneStep_68 rfl ?_
          refine z_iload_4 (pc := 69) dX6_goOneStep_69 ?_
          refine z_ishl (pc := 71) dX6_goOneStep_71 ?_
          refine z_ior (pc := 72) dX6_goOneStep_72 ?_
          refine y_putI (pc := 73) dX6_goOneStep_73 flX6_31 ffX6_31 rfl (by first | rfl | assumption | exact SH_xk nw | exact SH_nk nw) ⟨rfl, rfl⟩ ?_
          have ht0 := ht.2.2 i hlt
          have eB : zbel (I1 75 i) (I1 17 i) (I1 18 i) (I1 74 6) (nI i) s = zB t i s := by
            rw [m1 75 (by decide) (ne_xk nw (by decide) (by decide)), m1 17 (by decide) (ne_xk nw (by decide) (by decide)), m1 18 (by decide) (ne_xk nw (by decide) (by decide)), m2 6 (by decide), ht0.1, ht0.2.1, ht0.2.2.1, hw]
            rfl
          rw [eB] at c60 ⊢
          have hb : zB t i s = true := by
            cases hq : zB t i s
            · rw [hq] at c60; exact absurd rfl c60
            · rfl
          refine k76 hlt _ s hs ⟨fun a h1 h2 => ?_, fun b hb => ?_, ?_, fun e he => ?_⟩
          · funext b; rw [zup_nk _ _ h1, m1 a h1 h2]
          · rw [zup_nj _ _ hb]; exact m2 b hb
          · rw [zup_same, m3, bs_set _ i (by omega)]
            exact congrArg nI (bs_congr (fun e _ => by rw [zbl_some hs, hb]; simp))
          · rw [zup_nk _ _ (Ne.symm (ne_xk nw (by decide) (by decide)))]; exact m4 e he
