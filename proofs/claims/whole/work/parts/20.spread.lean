set_option maxRecDepth 100000 in
set_option maxHeartbeats 4000000 in
theorem qX6_goOneStep {l : zL} {I : Nat → Nat → Int32} {J : Nat → Nat → Int64} {nw : Bool} (t : zTn) (ht : zSet I t) (hw : I 74 6 = t.2.2.2.2.1) (hev : I 74 5 = nI (bs (fun e => decide (e < t.1)))) (cm : Nat → Option Int32) (fs : Nat → Int32) (bl : Nat → Bool) (hcm : ∀ d s, d < 6 → cm d = some s → I (nk nw) d = s) (hb : I 74 7 = nI (bs bl)) (hr : I 74 8 = nI (bs (zrc fs))) {x : Int32} (hx : x = nI (bs (zsome cm))) : zP l mX6_goOneStep [.ref 74, .int x] (hh I J nw) (fun r h1 => r = some (.int (nI (bs (zsome (znx t cm fs t.1))))) ∧ ∃ I2, h1 = (I2, J, RF (!nw), SH) ∧ (∀ a, a ≠ 74 → a ≠ 77 → a ≠ 78 → I2 a = I a) ∧ I2 74 5 = I 74 5 ∧ I2 74 6 = I 74 6 ∧ I2 74 9 = I 74 9 ∧ I2 74 7 = nI (bs (zbl t cm bl t.1)) ∧ I2 74 8 = I 74 8 ||| nI (bs (zsome cm)) ∧ ∀ e, e < 6 → I2 (nk (!nw)) e = (znx t cm fs t.1 e).getD 0) := by
  refine z_start [.ref 74, .int x, zno, zno, zno, zno] (by decide +kernel) (Nat.le_of_ble_eq_true rfl) rfl ?_
  refine z_iload_1 (pc := 0) dX6_goOneStep_0 ?_
  refine z_aload_0 (pc := 1) dX6_goOneStep_1 ?_
  refine y_getI (pc := 2) dX6_goOneStep_2 flX6_34 rfl (by first | rfl | assumption) ?_
  refine z_iconst (pc := 5) (-1) dX6_goOneStep_5 rfl ?_
  refine z_ixor (pc := 6) dX6_goOneStep_6 ?_
  refine z_iand (pc := 7) dX6_goOneStep_7 ?_
  refine z_istore_2 (pc := 8) dX6_goOneStep_8 (by decide) rfl ?_
  refine z_iconst (pc := 9) (0) dX6_goOneStep_9 rfl ?_
  refine z_istore_3 (pc := 10) dX6_goOneStep_10 (by decide) rfl ?_
  refine z_aload_0 (pc := 11) dX6_goOneStep_11 ?_
  refine y_getR (pc := 12) dX6_goOneStep_12 flX6_21 rfl (by first | rfl | assumption) (by first | rfl | assumption) ?_
  refine z_iconst (pc := 15) (0) dX6_goOneStep_15 rfl ?_
  refine z_S2 (pc := 16) dX6_goOneStep_16 mlX6_57 kJ7_fill_53178 vJ7_fill_53178 (by decide) (by decide) (Nat.le_of_ble_eq_true rfl) (qJ7_fill_53178 (sh := SH) (k := xk nw) (n := 6) (SH_xk nw) (by decide)) ⟨Nat.le_refl _, Nat.le_refl _⟩ (fun r h1 hq => ?_)
  obtain ⟨rfl, rfl⟩ := hq
  refine z_iconst (pc := 19) (0) dX6_goOneStep_19 rfl ?_
  refine z_istore_4 (pc := 20) dX6_goOneStep_20 (by decide) rfl ?_
  subst hx
  rw [show (I 74 8 ^^^ -1) = (nI (bs (zrc fs)) ^^^ -1) from by rw [hr], bs_diff, zrow_fill]
  have k := step_loop (l := l) (J := J) t ht hw hev cm fs bl hcm (t.1 + 1) 0 zno (zrow I (xk nw) (fun b => if b < 6 then 0 else I (xk nw) b)) (by omega) (by omega) rfl ⟨fun a h1 h2 => by funext b; exact zrow_ne _ _ _ h2, fun b _ => zrow_ne _ _ _ (ne_xk nw (by decide) (by decide)), by rw [zrow_ne _ _ _ (ne_xk nw (by decide) (by decide)), hb]; exact congrArg nI (bs_congr (fun e _ => by unfold zbl; simp)), fun e he => by rw [zrow_at, if_pos he]; rfl⟩
  rw [nI_0, show nI (bs (zsome (znx t cm fs 0))) = 0 from rfl] at k
  exact k
def zst7 (fs : Nat → Int32) (st : Nat) : Prop := (∀ d, d < 6 → ∀ q, q < 8 → fs d = nI q → q ≤ st) ∧ (st = 0 ∨ ∃ d, d < 6 ∧ fs d = nI st)
theorem znx_dom {t : zTn} {cm : Nat → Option Int32} {fs : Nat → Int32} {n e : Nat} : ∀ i, (∀ d, d < i → t.2.2.2.2.2 d e = true → e < n) → (znx t cm fs i e).isSome = true → e < n
  | 0, _, h => by cases h
  | i + 1, hd, h => by
    rw [znx] at h
    by_cases hq : 0 < zon t cm fs i ∧ t.2.2.2.2.2 i e = true
    · exact hd i (by omega) hq.2
    · rw [if_neg hq] at h
      exact znx_dom i (fun d h1 h2 => hd d (by omega) h2) h
theorem nI_n0 {q : Nat} (h : q < 8) : ¬ nI q < 0 := nI_pos (by omega)
theorem zrc_zfi {cm : Nat → Option Int32} {fs : Nat → Int32} {j n e : Nat} (hj : j < 8) (hn : (cm e).isSome = true → e < n) : zrc (zfi cm fs j n) e = (zrc fs e || zsome cm e) := by
  unfold zrc zfi zsome
  by_cases h1 : (cm e).isSome = true
  · by_cases h2 : fs e < 0
    · rw [if_pos ⟨hn h1, h1, h2⟩]; simp [h1, nI_n0 hj]
    · rw [if_neg (fun q => h2 q.2.2)]; simp [h1, h2]
  · rw [if_neg (fun q => h1 q.2.1)]; simp [h1]
/-- what is known ahead of step j -/
def zSp (I I1 : Nat → Nat → Int32) (nw : Bool) (t : zTn) (cm : Nat → Option Int32) (fs : Nat → Int32) (bl : Nat → Bool) (j st : Nat) : Prop :=
  (∀ a, a ≠ 74 → a ≠ 77 → a ≠ 78 → I1 a = I a) ∧ I1 74 5 = nI (bs (fun e => decide (e < t.1))) ∧ I1 74 6 = t.2.2.2.2.1 ∧ I1 74 7 = nI (bs bl) ∧ I1 74 8 = nI (bs (zrc fs)) ∧ I1 74 9 = nI st ∧ (∀ d s, d < 6 → cm d = some s → I1 (nk nw) d = s) ∧ (∀ d, d < 6 → fs d = -1 ∨ ∃ q, q < j ∧ fs d = nI q) ∧ zst7 fs st ∧ ∀ d, (cm d).isSome = true → d < t.1
def zSpQ (I : Nat → Nat → Int32) (J : Nat → Nat → Int64) (t : zTn) (z : (Nat → Int32) × (Nat → Bool)) : Option Value → zH → Prop := fun r h1 => r = none ∧ ∃ I2 nw2, h1 = (I2, J, RF nw2, SH) ∧ (∀ a, a ≠ 74 → a ≠ 77 → a ≠ 78 → I2 a = I a) ∧ I2 74 6 = t.2.2.2.2.1 ∧ I2 74 7 = nI (bs z.2) ∧ I2 74 8 = nI (bs (zrc z.1)) ∧ (∀ d, d < 6 → z.1 d = -1 ∨ ∃ q, q < 8 ∧ z.1 d = nI q) ∧ ∃ st, I2 74 9 = nI st ∧ zst7 z.1 st ∧ st < 8
set_option maxRecDepth 100000 in
set_option maxHeartbeats 4000000 in
theorem spread_loop {l : zL} {I : Nat → Nat → Int32} {J : Nat → Nat → Int64} (t : zTn) (ht : zSet I t) {a1 a2 a3 : Int32} : ∀ (f j : Nat) (I1 : Nat → Nat → Int32) (nw : Bool) (cm : Nat → Option Int32) (fs : Nat → Int32) (bl : Nat → Bool) (st : Nat), f + j = 7 → st < 8 → zSp I I1 nw t cm fs bl j st →
    zW l mX6_spread SH.length (zsl SH) 45 [.ref 74, .int a1, .int a2, .int a3, .int (nI (bs (zsome cm))), .int (nI j)] [] (I1, J, RF nw, SH) (zSpQ I J t (zit t f j cm fs bl))
  | 0, j, I1, nw, cm, fs, bl, st, hf, hst, hS => by
    obtain ⟨s1, s0, s2, s3, s4, s5, s6, s7, s8, s9⟩ := hS
    obtain rfl : j = 7 := by omega
    refine z_iload_5 (pc := 45) dX6_spread_45 ?_
    refine z_bipush (pc := 47) (6) dX6_spread_47 rfl ?_
    refine z_icmp_gt (pc := 49) (tgt := 89) dX6_spread_49 (by decide) (fun c49 => ?_) (fun c49 => ?_)
    · skip
      refine z_ret (pc := 89) (r := none) rfl dX6_spread_89 trivial rfl rfl ?_
      exact ⟨rfl, I1, nw, rfl, s1, s2, s3, s4, fun d hd => (s7 d hd).imp id (fun ⟨q, h1, h2⟩ => ⟨q, by omega, h2⟩), st, s5, s8, hst⟩
    · exact absurd (by decide) c49
  | f + 1, j, I1, nw, cm, fs, bl, st, hf, hst, hS => by
    obtain ⟨s1, s0, s2, s3, s4, s5, s6, s7, s8, s9⟩ := hS
    have ht1 : zSet I1 t := zSet_keep ht (fun a ha => s1 a (by omega) (by omega) (by omega))
    have hn6 := ht.1
    refine z_iload_5 (pc := 45) dX6_spread_45 ?_
    refine z_bipush (pc := 47) (6) dX6_spread_47 rfl ?_
    refine z_icmp_gt (pc := 49) (tgt := 89) dX6_spread_49 (by decide) (fun c49 => ?_) (fun c49 => ?_)
    · exact absurd c49 (nI_nlt (b := j) (a := 6) (by omega) (by decide))
    · skip
      refine z_iload_4 (pc := 52) dX6_spread_52 ?_
      refine z_if_eq (pc := 54) (tgt := 89) dX6_spread_54 (by decide) (fun c54 => ?_) (fun c54 => ?_)
      · skip
        refine z_ret (pc := 89) (r := none) rfl dX6_spread_89 trivial rfl rfl ?_
        have h0 : bs (zsome cm) = 0 := (nI_eq (a := bs (zsome cm)) (b := 0) (by have := bs_lt (zsome cm); omega) (by decide)).mp c54
        rw [zit, if_pos h0]
        exact ⟨rfl, I1, nw, rfl, s1, s2, s3, s4, fun d hd => (s7 d hd).imp id (fun ⟨q, h1, h2⟩ => ⟨q, by omega, h2⟩), st, s5, s8, hst⟩
      · skip
        have hne : ¬ bs (zsome cm) = 0 := fun q => c54 (by rw [q]; rfl)
        refine z_iload_4 (pc := 57) dX6_spread_57 ?_
        refine z_aload_0 (pc := 59) dX6_spread_59 ?_
        refine y_getI (pc := 60) dX6_spread_60 flX6_34 rfl (by first | rfl | assumption) ?_
        refine z_iconst (pc := 63) (-1) dX6_spread_63 rfl ?_
        refine z_ixor (pc := 64) dX6_spread_64 ?_
        refine z_iand (pc := 65) dX6_spread_65 ?_
        refine z_if_eq (pc := 66) (tgt := 75) dX6_spread_66 (by decide) (fun c66 => ?_) (fun c66 => ?_)
        · skip
          refine z_aload_0 (pc := 75) dX6_spread_75 ?_
          refine z_iload_4 (pc := 76) dX6_spread_76 ?_
          refine z_V1 (pc := 78) dX6_spread_78 mlX6_117 kX6_goOneStep vX6_goOneStep (by decide) (by decide) (by first | rfl | assumption) (Nat.le_of_ble_eq_true rfl) (qX6_goOneStep t ht1 s2 s0 cm fs bl s6 s3 s4 rfl) ⟨Nat.le_refl _, Nat.le_refl _⟩ (fun r h1 hq => ?_)
          obtain ⟨rfl, I2, rfl, q1, q0, q2, q3, q4, q5, q6⟩ := hq
          refine z_istore_4 (pc := 81) dX6_spread_81 (by decide) rfl ?_
          refine z_iinc_5 (pc := 83) (1) dX6_spread_83 rfl (by decide) rfl ?_
          refine z_goto (pc := 86) (tgt := 45) dX6_spread_86 (by decide) ?_
          rw [zit, if_neg hne, ← nI_succ]
          rw [s4, bs_diff, bs_zero] at c66
          have esame : ∀ d, d < 6 → zfi cm fs j t.1 d = fs d := by
            intro d hd
            unfold zfi
            rw [if_neg]
            intro hz
            have := c66 d hd
            simp [zsome, zrc, hz.2.1, hz.2.2] at this
          refine spread_loop t ht f (j + 1) I2 (!nw) _ _ _ st (by omega) hst ⟨fun a h1 h2 h3 => ?_, ?_, ?_, q4, ?_, ?_, fun d s h1 h2 => ?_, fun d hd => ?_, ⟨fun d hd q hq8 hq => ?_, ?_⟩, fun e he => znx_dom (n := t.1) t.1 (fun d h1 h2 => (ht.2.2 d h1).2.2.2.2.2.2 e h2) he⟩
          · rw [q1 a h1 h2 h3, s1 a h1 h2 h3]
          · rw [q0]; exact s0
          · rw [q2]; exact s2
          · rw [q5, s4, bs_or]
            exact congrArg nI (bs_congr (fun e _ => (zrc_zfi (by omega) (s9 e)).symm))
          · rw [q3]; exact s5
          · rw [q6 d h1, h2]; rfl
          · rw [esame d hd]; exact (s7 d hd).imp id (fun ⟨q, h1, h2⟩ => ⟨q, by omega, h2⟩)
          · rw [esame d hd] at hq; exact s8.1 d hd q hq8 hq
          · exact s8.2.imp id (fun ⟨d, h1, h2⟩ => ⟨d, h1, by rw [esame d h1]; exact h2⟩)
        · skip
          refine z_aload_0 (pc := 69) dX6_spread_69 ?_
          refine z_iload_5 (pc := 70) dX6_spread_70 ?_
          refine y_putI (pc := 72) dX6_spread_72 flX6_37 ffX6_37 rfl (by first | rfl | assumption) ⟨rfl, rfl⟩ ?_
          refine z_aload_0 (pc := 75) dX6_spread_75 ?_
          refine z_iload_4 (pc := 76) dX6_spread_76 ?_
          refine z_V1 (pc := 78) dX6_spread_78 mlX6_117 kX6_goOneStep vX6_goOneStep (by decide) (by decide) (by first | rfl | assumption) (Nat.le_of_ble_eq_true rfl) (qX6_goOneStep t (zSet_keep ht1 (fun a ha => by funext b; exact zup_nk _ _ (by omega))) (by rw [zup_nj _ _ (by decide)]; exact s2) (by rw [zup_nj _ _ (by decide)]; exact s0) cm fs bl (fun d s h1 h2 => by rw [zup_nk _ _ (by cases nw <;> decide)]; exact s6 d s h1 h2) (by rw [zup_nj _ _ (by decide)]; exact s3) (by rw [zup_nj _ _ (by decide)]; exact s4) rfl) ⟨Nat.le_refl _, Nat.le_refl _⟩ (fun r h1 hq => ?_)
          obtain ⟨rfl, I2, rfl, q1, q0, q2, q3, q4, q5, q6⟩ := hq
          refine z_istore_4 (pc := 81) dX6_spread_81 (by decide) rfl ?_
          refine z_iinc_5 (pc := 83) (1) dX6_spread_83 rfl (by decide) rfl ?_
          refine z_goto (pc := 86) (tgt := 45) dX6_spread_86 (by decide) ?_
          rw [zit, if_neg hne, ← nI_succ]
          refine spread_loop t ht f (j + 1) I2 (!nw) _ _ _ j (by omega) (by omega) ⟨fun a h1 h2 h3 => ?_, ?_, ?_, q4, ?_, ?_, fun d s h1 h2 => ?_, fun d hd => ?_, ⟨fun d hd q hq8 hq => ?_, ?_⟩, fun e he => znx_dom (n := t.1) t.1 (fun d h1 h2 => (ht.2.2 d h1).2.2.2.2.2.2 e h2) he⟩
          · rw [q1 a h1 h2 h3]; funext b; rw [zup_nk _ _ h1, s1 a h1 h2 h3]
          · rw [q0, zup_nj _ _ (by decide)]; exact s0
          · rw [q2, zup_nj _ _ (by decide)]; exact s2
          · rw [q5, zup_nj _ _ (by decide), s4, bs_or]
            exact congrArg nI (bs_congr (fun e _ => (zrc_zfi (by omega) (s9 e)).symm))
          · rw [q3, zup_same]
          · rw [q6 d h1, h2]; rfl
          · unfold zfi
            by_cases hz : d < t.1 ∧ (cm d).isSome = true ∧ fs d < 0
            · rw [if_pos hz]; exact Or.inr ⟨j, by omega, rfl⟩
            · rw [if_neg hz]; exact (s7 d hd).imp id (fun ⟨q, h1, h2⟩ => ⟨q, by omega, h2⟩)
          · unfold zfi at hq
            by_cases hz : d < t.1 ∧ (cm d).isSome = true ∧ fs d < 0
            · rw [if_pos hz] at hq
              have := (nI_eq (by omega) (by omega)).mp hq
              omega
            · rw [if_neg hz] at hq
              rcases s7 d hd with h | ⟨q', h1, h2⟩
              · rw [h] at hq
                exact absurd (by rw [← hq]; decide : nI q < 0) (nI_n0 hq8)
              · have := (nI_eq (by omega) (by omega)).mp (h2.symm.trans hq)
                omega
          · right
            rw [s4, bs_diff, bs_zero] at c66
            have hex : ∃ d, d < 6 ∧ (zsome cm d && !zrc fs d) = true := by
              rcases Classical.em (∃ d, d < 6 ∧ (zsome cm d && !zrc fs d) = true) with h | h
              · exact h
              · exact absurd (fun d hd => by cases hv : (zsome cm d && !zrc fs d); rfl; exact absurd ⟨d, hd, hv⟩ h) c66
            obtain ⟨d, hd, hv⟩ := hex
            simp only [zsome, zrc, Bool.and_eq_true, Bool.not_not, decide_eq_true_eq] at hv
            refine ⟨d, hd, ?_⟩
            unfold zfi
            rw [if_pos ⟨s9 d hv.1, hv.1, hv.2⟩]
def zc0 (sm : Nat → Bool) (s : Int32) : Nat → Option Int32 := fun d => if sm d = true then some s else none
theorem zsome_c0 (sm : Nat → Bool) (s : Int32) : zsome (zc0 sm s) = sm := by funext d; unfold zsome zc0; cases sm d <;> simp
set_option maxRecDepth 100000 in
set_option maxHeartbeats 4000000 in
theorem qX6_spread {l : zL} {I : Nat → Nat → Int32} {J : Nat → Nat → Int64} {nw : Bool} (t : zTn) (ht : zSet I t) {s m : Int32} (sm : Nat → Bool) (hm : m = nI (bs sm)) (hsm : ∀ d, sm d = true → d < t.1) : zP l mX6_spread [.ref 74, .int t.2.2.2.2.1, .int s, .int m] (hh I J nw) (zSpQ I J t (zit t 7 0 (zc0 sm s) (fun _ => -1) (fun _ => false))) := by
  refine z_start [.ref 74, .int t.2.2.2.2.1, .int s, .int m, zno, zno] (by decide +kernel) (Nat.le_of_ble_eq_true rfl) rfl ?_
  refine z_aload_0 (pc := 0) dX6_spread_0 ?_
  refine z_aload_0 (pc := 1) dX6_spread_1 ?_
  refine y_getR (pc := 2) dX6_spread_2 flX6_40 rfl (by first | rfl | assumption) (by first | rfl | assumption) ?_
  refine z_V0 (pc := 5) dX6_spread_5 mlX6_114 kX7_everybody vX7_everybody (by decide) (by decide) (by first | rfl | assumption) (Nat.le_of_ble_eq_true rfl) (qX7_everybody) ⟨Nat.le_refl _, Nat.le_refl _⟩ (fun r h1 hq => ?_)
  obtain ⟨rfl, rfl⟩ := hq
  refine y_putI (pc := 8) dX6_spread_8 flX6_24 ffX6_24 rfl (by first | rfl | assumption) ⟨rfl, rfl⟩ ?_
  refine z_aload_0 (pc := 11) dX6_spread_11 ?_
  refine z_iload_1 (pc := 12) dX6_spread_12 ?_
  refine y_putI (pc := 13) dX6_spread_13 flX6_28 ffX6_28 rfl (by first | rfl | assumption) ⟨rfl, rfl⟩ ?_
  refine z_aload_0 (pc := 16) dX6_spread_16 ?_
  refine z_iconst (pc := 17) (0) dX6_spread_17 rfl ?_
  refine y_putI (pc := 18) dX6_spread_18 flX6_31 ffX6_31 rfl (by first | rfl | assumption) ⟨rfl, rfl⟩ ?_
  refine z_aload_0 (pc := 21) dX6_spread_21 ?_
  refine z_iconst (pc := 22) (0) dX6_spread_22 rfl ?_
  refine y_putI (pc := 23) dX6_spread_23 flX6_34 ffX6_34 rfl (by first | rfl | assumption) ⟨rfl, rfl⟩ ?_
  refine z_aload_0 (pc := 26) dX6_spread_26 ?_
  refine z_iconst (pc := 27) (0) dX6_spread_27 rfl ?_
  refine y_putI (pc := 28) dX6_spread_28 flX6_37 ffX6_37 rfl (by first | rfl | assumption) ⟨rfl, rfl⟩ ?_
  refine z_aload_0 (pc := 31) dX6_spread_31 ?_
  refine y_getR (pc := 32) dX6_spread_32 flX6_18 rfl (by first | rfl | assumption) (by first | rfl | assumption) ?_
  refine z_iload_2 (pc := 35) dX6_spread_35 ?_
  refine z_S2 (pc := 36) dX6_spread_36 mlX6_57 kJ7_fill_53178 vJ7_fill_53178 (by decide) (by decide) (Nat.le_of_ble_eq_true rfl) (qJ7_fill_53178 (sh := SH) (k := nk nw) (n := 6) (SH_nk nw) (by decide)) ⟨Nat.le_refl _, Nat.le_refl _⟩ (fun r h1 hq => ?_)
  obtain ⟨rfl, rfl⟩ := hq
  refine z_iload_3 (pc := 39) dX6_spread_39 ?_
  refine z_istore_4 (pc := 40) dX6_spread_40 (by decide) rfl ?_
  refine z_iconst (pc := 42) (0) dX6_spread_42 rfl ?_
  refine z_istore_5 (pc := 43) dX6_spread_43 (by decide) rfl ?_
  rw [zrow_fill, hm]
  have k := spread_loop (l := l) (I := I) (J := J) t ht (a1 := t.2.2.2.2.1) (a2 := s) (a3 := nI (bs sm)) 7 0 (zrow (zup (zup (zup (zup (zup I 74 5 ((1 : Int32) <<< (I 15 3 &&& 31) - 1)) 74 6 t.2.2.2.2.1) 74 7 0) 74 8 0) 74 9 0) (nk nw) (fun b => if b < 6 then s else zup (zup (zup (zup (zup I 74 5 ((1 : Int32) <<< (I 15 3 &&& 31) - 1)) 74 6 t.2.2.2.2.1) 74 7 0) 74 8 0) 74 9 0 (nk nw) b)) nw (zc0 sm s) (fun _ => -1) (fun _ => false) 0 (by omega) (by omega) ⟨fun a h1 h2 h3 => ?_, ?_, ?_, ?_, ?_, ?_, fun d s1 h1 h2 => ?_, fun d _ => Or.inl rfl, ⟨fun d _ q hq8 hq => ?_, Or.inl rfl⟩, fun d hd => ?_⟩
  · rw [zsome_c0, nI_0] at k
    exact k
  · funext b; rw [zrow_ne _ _ _ (ne_nk nw h2 h3), zup_nk _ _ h1, zup_nk _ _ h1, zup_nk _ _ h1, zup_nk _ _ h1, zup_nk _ _ h1]
  · rw [zrow_ne _ _ _ (ne_nk nw (by decide) (by decide)), zup_nj _ _ (by decide), zup_nj _ _ (by decide), zup_nj _ _ (by decide), zup_nj _ _ (by decide), zup_same, ht.2.1]; exact bs_all t.1 ht.1
  · rw [zrow_ne _ _ _ (ne_nk nw (by decide) (by decide)), zup_nj _ _ (by decide), zup_nj _ _ (by decide), zup_nj _ _ (by decide), zup_same]
  · rw [zrow_ne _ _ _ (ne_nk nw (by decide) (by decide)), zup_nj _ _ (by decide), zup_nj _ _ (by decide), zup_same]; rfl
  · rw [zrow_ne _ _ _ (ne_nk nw (by decide) (by decide)), zup_nj _ _ (by decide), zup_same]; rfl
  · rw [zrow_ne _ _ _ (ne_nk nw (by decide) (by decide)), zup_same]; rfl
  · rw [zrow_at, if_pos h1]
    unfold zc0 at h2
    by_cases hq : sm d = true
    · rw [if_pos hq] at h2; cases h2; rfl
    · rw [if_neg hq] at h2; cases h2
  · exact absurd (by rw [← hq]; show (-1 : Int32) < 0; decide : nI q < 0) (nI_n0 hq8)
  · exact hsm d (by rw [← zsome_c0 sm s]; exact hd)
