theorem znx_ex {t : zTn} {cm : Nat → Option Int32} {fs : Nat → Int32} : ∀ (i e : Nat), ¬ znx t cm fs i e = none → ∃ d, d < i ∧ 0 < zon t cm fs d
  | 0, e, h => absurd rfl h
  | i + 1, e, h => by
    by_cases hq : 0 < zon t cm fs i ∧ t.2.2.2.2.2 i e = true
    · exact ⟨i, by omega, hq.1⟩
    · rw [znx, if_neg hq] at h
      obtain ⟨d, h1, h2⟩ := znx_ex i e h
      exact ⟨d, by omega, h2⟩
theorem zon_ex {t : zTn} {cm : Nat → Option Int32} {fs : Nat → Int32} {d : Nat} (h : 0 < zon t cm fs d) : (cm d).isSome = true ∧ fs d < 0 := by
  refine ⟨?_, ?_⟩
  · cases hz : cm d with
    | none => rw [zon_none hz] at h; exact absurd h (by decide)
    | some v => rfl
  · rcases Decidable.em (fs d < 0) with q | q
    · exact q
    · rw [zon_old q] at h; exact absurd h (by decide)
def zcnt (fs : Nat → Int32) : Nat → Nat
  | 0 => 0
  | d + 1 => zcnt fs d + (if fs d < 0 then 1 else 0)
theorem zcnt_n (fs : Nat → Int32) : ∀ n, zcnt fs n ≤ n
  | 0 => Nat.le_refl _
  | n + 1 => by
    have := zcnt_n fs n
    rw [zcnt]
    by_cases h : fs n < 0
    · rw [if_pos h]; omega
    · rw [if_neg h]; omega
theorem zcnt_le {fs gs : Nat → Int32} : ∀ n, (∀ d, d < n → gs d < 0 → fs d < 0) → zcnt gs n ≤ zcnt fs n
  | 0, _ => Nat.le_refl _
  | n + 1, h => by
    have h1 := zcnt_le n (fun d hd => h d (by omega))
    have h2 := h n (by omega)
    rw [zcnt, zcnt]
    by_cases hg : gs n < 0
    · rw [if_pos hg, if_pos (h2 hg)]; omega
    · rw [if_neg hg]; omega
theorem zcnt_lt {fs gs : Nat → Int32} : ∀ n, (∀ d, d < n → gs d < 0 → fs d < 0) → (∃ d, d < n ∧ fs d < 0 ∧ ¬ gs d < 0) → zcnt gs n < zcnt fs n
  | 0, _, ⟨d, hd, _⟩ => by omega
  | n + 1, h, ⟨d, hd, hf, hg⟩ => by
    have h0 := zcnt_le n (fun e he => h e (by omega))
    rw [zcnt, zcnt]
    by_cases hdn : d = n
    · subst hdn; rw [if_neg hg, if_pos hf]; omega
    · have h1 := zcnt_lt n (fun e he => h e (by omega)) ⟨d, by omega, hf, hg⟩
      have h2 := h n (by omega)
      by_cases hg2 : gs n < 0
      · rw [if_pos hg2, if_pos (h2 hg2)]; omega
      · rw [if_neg hg2]; omega
theorem zcnt_fi {t : zTn} {cm : Nat → Option Int32} {fs : Nat → Int32} {j n e : Nat} (hj : j < 100) (h : ¬ znx t cm fs n e = none) : zcnt (zfi cm fs j n) n < zcnt fs n := by
  have hnn : ¬ nI j < 0 := by
    have : ∀ j, j < 100 → ¬ nI j < 0 := by decide +kernel
    exact this j hj
  obtain ⟨d, h1, h2⟩ := znx_ex n e h
  obtain ⟨h3, h4⟩ := zon_ex h2
  refine zcnt_lt n (fun a ha q => ?_) ⟨d, h1, h4, ?_⟩
  · unfold zfi at q
    by_cases hz : a < n ∧ (cm a).isSome = true ∧ fs a < 0
    · exact hz.2.2
    · rw [if_neg hz] at q; exact q
  · unfold zfi; rw [if_pos ⟨h1, h3, h4⟩]; exact hnn
theorem zsome_done {cm : Nat → Option Int32} : bs (zsome cm) = 0 ↔ zdone cm := by
  constructor
  · intro h d hd
    have := bs_inj (g := fun _ => false) (by rw [h]; rfl) d hd
    unfold zsome at this
    cases hz : cm d with
    | none => rfl
    | some v => rw [hz] at this; cases this
  · intro h
    rw [bs_congr (g := fun _ => false) (fun d hd => by unfold zsome; rw [h d hd]; rfl)]; rfl
theorem znx_done {t : zTn} {cm : Nat → Option Int32} {fs : Nat → Int32} (h : zdone cm) : ∀ n, n ≤ 6 → ∀ e, znx t cm fs n e = none
  | 0, _, _ => rfl
  | n + 1, hn, e => by
    rw [znx_no (by rw [zon_none (h n (by omega))]; decide)]; exact znx_done h n (by omega) e
theorem zit_done {t : zTn} {cm : Nat → Option Int32} {fs : Nat → Int32} {bl : Nat → Bool} (h : zdone cm) : ∀ f j, zit t f j cm fs bl = (fs, bl)
  | 0, _ => rfl
  | f + 1, j => by rw [zit, if_pos (zsome_done.mpr h)]
theorem zit_go {t : zTn} (ht : t.1 ≤ 6) {cm : Nat → Option Int32} {fs : Nat → Int32} {bl : Nat → Bool} (f j : Nat) : zit t (f + 1) j cm fs bl = zit t f (j + 1) (znx t cm fs t.1) (zfi cm fs j t.1) (zbl t cm bl t.1) := by
  by_cases h : bs (zsome cm) = 0
  · have hd := zsome_done.mp h
    rw [zit_done hd, zit_done (fun d _ => znx_done hd t.1 ht d)]
    have e1 : zfi cm fs j t.1 = fs := by
      funext d; unfold zfi
      rw [if_neg]
      intro q
      rw [hd d (by omega)] at q
      cases q.2.1
    have e2 : zbl t cm bl t.1 = bl := by
      funext d; unfold zbl
      by_cases hq : d < t.1
      · rw [hd d (by omega)]; simp
      · simp [hq]
    rw [e1, e2]
  · rw [zit, if_neg h]
theorem zmT_keep {I I2 : Nat → Nat → Int32} {K n T : Nat} {A B : Nat → Nat} {w : Nat → Bool} {wh : Int32} (h : I2 K = I K) : zmT I2 K n T A B w wh = zmT I K n T A B w wh := by
  unfold zmT; rw [h]
def zan (g : Nat → Int32) : Nat → Bool
  | 0 => false
  | k + 1 => zan g k || !decide (g k = -1000)
theorem zan_no {g : Nat → Int32} : ∀ k, zan g k = false → ∀ e, e < k → g e = -1000
  | 0, _, e, he => by omega
  | k + 1, h, e, he => by
    rw [zan, Bool.or_eq_false_iff] at h
    by_cases hk : e = k
    · subst hk; simpa using h.2
    · exact zan_no k h.1 e (by omega)
theorem zan_yes {g : Nat → Int32} : ∀ k, zan g k = true → ∃ e, e < k ∧ ¬ g e = -1000
  | 0, h => by cases h
  | k + 1, h => by
    rw [zan, Bool.or_eq_true] at h
    rcases h with q | q
    · obtain ⟨e, h1, h2⟩ := zan_yes k q
      exact ⟨e, by omega, h2⟩
    · exact ⟨k, by omega, by simpa using q⟩
set_option maxRecDepth 100000 in
set_option maxHeartbeats 4000000 in
theorem mclear_loop {l : zL} {I : Nat → Nat → Int32} {J : Nat → Nat → Int64} {nw : Bool} {wh s m x : Int32} {K : Nat} {c6 c7 : Int32} {v9 v10 : Value} (h9 : v9.category = 1) (h10 : v10.category = 1) {Q : Option Value → zH → Prop} (hQ : ∀ (g : Nat → Int32) (v8 : Value), v8.category = 1 → (∀ e, e < 6 → g e = -1000) → zW l mX9_tells SH.length (zsl SH) 90 [.ref 85, .ref K, .int wh, .int s, .int m, .int x, .int c6, .int c7, v8, v9, v10] [] (zrow I 97 g, J, RF nw, SH) Q) : ∀ (f k : Nat) (g : Nat → Int32), k ≤ 6 → 6 - k < f → (∀ e, e < k → g e = -1000) →
    zW l mX9_tells SH.length (zsl SH) 67 [.ref 85, .ref K, .int wh, .int s, .int m, .int x, .int c6, .int c7, .int (nI k), v9, v10] [] (zrow I 97 g, J, RF nw, SH) Q
  | 0, k, g, _, hf, _ => by omega
  | f + 1, k, g, hk, hf, hg => by
    refine z_iload_8 (pc := 67) dX9_tells_67 ?_
    refine z_bipush (pc := 69) (6) dX9_tells_69 rfl ?_
    refine z_icmp_ge (pc := 71) (tgt := 90) dX9_tells_71 (by decide) (fun c71 => ?_) (fun c71 => ?_)
    · skip
      have hk6 : k = 6 := by
        rcases Nat.lt_or_ge k 6 with q | q
        · exact absurd c71 (nI_ge (b := 6) q (by omega))
        · omega
      subst hk6
      exact hQ g _ rfl hg
    · skip
      have hlt : k < 6 := by
        rcases Nat.lt_or_ge k 6 with q | q
        · exact q
        · exact absurd (nI_le (a := 6) q (by omega)) c71
      refine z_aload_0 (pc := 74) dX9_tells_74 ?_
      refine y_getR (pc := 75) dX9_tells_75 flX9_44 rfl (by first | rfl | assumption) (by first | rfl | assumption) ?_
      refine z_iload_8 (pc := 78) dX9_tells_78 ?_
      refine z_sipush (pc := 80) (-1000) dX9_tells_80 rfl ?_
      refine y_iastN (pc := 83) (k) dX9_tells_83 (by first | rfl | assumption) (rfl) (by omega) (by first | decide | omega) ?_
      refine z_iinc_8 (pc := 84) (1) dX9_tells_84 rfl (by decide) rfl ?_
      refine z_goto (pc := 87) (tgt := 67) dX9_tells_87 (by decide) ?_
      rw [← nI_succ, zrow_up]
      refine mclear_loop h9 h10 hQ f (k + 1) _ (by omega) (by omega) (fun e he => ?_)
      unfold upd
      by_cases hb : e = k
      · rw [if_pos hb]
      · rw [if_neg hb]; exact hg e (by omega)
set_option maxRecDepth 100000 in
set_option maxHeartbeats 4000000 in
theorem mcopy_loop {l : zL} {I : Nat → Nat → Int32} {J : Nat → Nat → Int64} {nw : Bool} {wh s m x : Int32} {K : Nat} {c7 : Int32} {v9 v10 : Value} (h9 : v9.category = 1) (h10 : v10.category = 1) {Q : Option Value → zH → Prop} (hQ : ∀ (g : Nat → Int32) (v8 : Value), v8.category = 1 → (∀ e, e < 6 → g e = I 97 e) → zW l mX9_tells SH.length (zsl SH) 296 [.ref 85, .ref K, .int wh, .int s, .int m, .int x, .int (zbb (zan (I 97) 6)), .int c7, v8, v9, v10] [] (zrow I 96 g, J, RF nw, SH) Q) : ∀ (f k : Nat) (g : Nat → Int32), k ≤ 6 → 6 - k < f → (∀ e, e < k → g e = I 97 e) →
    zW l mX9_tells SH.length (zsl SH) 244 [.ref 85, .ref K, .int wh, .int s, .int m, .int x, .int (zbb (zan (I 97) k)), .int c7, .int (nI k), v9, v10] [] (zrow I 96 g, J, RF nw, SH) Q
  | 0, k, g, _, hf, _ => by omega
  | f + 1, k, g, hk, hf, hg => by
    refine z_iload_8 (pc := 244) dX9_tells_244 ?_
    refine z_bipush (pc := 246) (6) dX9_tells_246 rfl ?_
    refine z_icmp_ge (pc := 248) (tgt := 296) dX9_tells_248 (by decide) (fun c248 => ?_) (fun c248 => ?_)
    · skip
      have hk6 : k = 6 := by
        rcases Nat.lt_or_ge k 6 with q | q
        · exact absurd c248 (nI_ge (b := 6) q (by omega))
        · omega
      subst hk6
      exact hQ g _ rfl hg
    · skip
      have hlt : k < 6 := by
        rcases Nat.lt_or_ge k 6 with q | q
        · exact q
        · exact absurd (nI_le (a := 6) q (by omega)) c248
      refine z_aload_0 (pc := 251) dX9_tells_251 ?_
      refine y_getR (pc := 252) dX9_tells_252 flX9_41 rfl (by first | rfl | assumption) (by first | rfl | assumption) ?_
      refine z_iload_8 (pc := 255) dX9_tells_255 ?_
      refine z_aload_0 (pc := 257) dX9_tells_257 ?_
      refine y_getR (pc := 258) dX9_tells_258 flX9_44 rfl (by first | rfl | assumption) (by first | rfl | assumption) ?_
      refine z_iload_8 (pc := 261) dX9_tells_261 ?_
      refine y_ialdN (pc := 263) (k) dX9_tells_263 (by first | rfl | assumption) (rfl) (by omega) (by first | decide | omega) ?_
      refine y_iastN (pc := 264) (k) dX9_tells_264 (by first | rfl | assumption) (rfl) (by omega) (by first | decide | omega) ?_
      refine z_iload_6 (pc := 265) dX9_tells_265 ?_
      refine z_if_ne (pc := 267) (tgt := 283) dX9_tells_267 (by decide) (fun c267 => ?_) (fun c267 => ?_)
      · skip
        refine z_iconst (pc := 283) (1) dX9_tells_283 rfl ?_
        refine z_goto (pc := 284) (tgt := 288) dX9_tells_284 (by decide) ?_
        refine z_istore_6 (pc := 288) dX9_tells_288 (by decide) rfl ?_
        refine z_iinc_8 (pc := 290) (1) dX9_tells_290 rfl (by decide) rfl ?_
        refine z_goto (pc := 293) (tgt := 244) dX9_tells_293 (by decide) ?_
        have hz : zan (I 97) (k + 1) = true := by
          rw [zan]
          cases hq : zan (I 97) k
          · rw [hq] at c267; exact absurd rfl c267
          · rfl
        rw [← nI_succ, zrow_up, show (1 : Int32) = zbb (zan (I 97) (k + 1)) from by rw [hz]; rfl]
        refine mcopy_loop h9 h10 hQ f (k + 1) _ (by omega) (by omega) (fun e he => ?_)
        unfold upd
        by_cases hb : e = k
        · rw [if_pos hb, zrow_ne _ _ _ (by decide), hb]
        · rw [if_neg hb]; exact hg e (by omega)
      · skip
        refine z_aload_0 (pc := 270) dX9_tells_270 ?_
        refine y_getR (pc := 271) dX9_tells_271 flX9_41 rfl (by first | rfl | assumption) (by first | rfl | assumption) ?_
        refine z_iload_8 (pc := 274) dX9_tells_274 ?_
        refine y_ialdN (pc := 276) (k) dX9_tells_276 (by first | rfl | assumption) (rfl) (by omega) (by first | decide | omega) ?_
        refine z_sipush (pc := 277) (-1000) dX9_tells_277 rfl ?_
        refine z_icmp_eq (pc := 280) (tgt := 287) dX9_tells_280 (by decide) (fun c280 => ?_) (fun c280 => ?_)
        · skip
          refine z_iconst (pc := 287) (0) dX9_tells_287 rfl ?_
          refine z_istore_6 (pc := 288) dX9_tells_288 (by decide) rfl ?_
          refine z_iinc_8 (pc := 290) (1) dX9_tells_290 rfl (by decide) rfl ?_
          refine z_goto (pc := 293) (tgt := 244) dX9_tells_293 (by decide) ?_
          rw [zup_on, zrow_ne _ _ _ (by decide)] at c280
          have hz : zan (I 97) (k + 1) = false := by
            rw [zan, decide_eq_true c280]
            cases hq : zan (I 97) k
            · rfl
            · rw [hq] at c267; exact absurd c267 (by decide)
          rw [← nI_succ, zrow_up, show (0 : Int32) = zbb (zan (I 97) (k + 1)) from by rw [hz]; rfl]
          refine mcopy_loop h9 h10 hQ f (k + 1) _ (by omega) (by omega) (fun e he => ?_)
          unfold upd
          by_cases hb : e = k
          · rw [if_pos hb, zrow_ne _ _ _ (by decide), hb]
          · rw [if_neg hb]; exact hg e (by omega)
        · skip
          refine z_iconst (pc := 283) (1) dX9_tells_283 rfl ?_
          refine z_goto (pc := 284) (tgt := 288) dX9_tells_284 (by decide) ?_
          refine z_istore_6 (pc := 288) dX9_tells_288 (by decide) rfl ?_
          refine z_iinc_8 (pc := 290) (1) dX9_tells_290 rfl (by decide) rfl ?_
          refine z_goto (pc := 293) (tgt := 244) dX9_tells_293 (by decide) ?_
          rw [zup_on, zrow_ne _ _ _ (by decide)] at c280
          have hz : zan (I 97) (k + 1) = true := by rw [zan, decide_eq_false c280]; simp
          rw [← nI_succ, zrow_up, show (1 : Int32) = zbb (zan (I 97) (k + 1)) from by rw [hz]; rfl]
          refine mcopy_loop h9 h10 hQ f (k + 1) _ (by omega) (by omega) (fun e he => ?_)
          unfold upd
          by_cases hb : e = k
          · rw [if_pos hb, zrow_ne _ _ _ (by decide), hb]
          · rw [if_neg hb]; exact hg e (by omega)
set_option maxRecDepth 100000 in
set_option maxHeartbeats 4000000 in
theorem minit_loop {l : zL} {I : Nat → Nat → Int32} {J : Nat → Nat → Int64} {nw : Bool} {wh s m x : Int32} {K : Nat} {v7 v8 v9 v10 : Value} (h7 : v7.category = 1) (h8 : v8.category = 1) (h9 : v9.category = 1) (h10 : v10.category = 1) (sm : Nat → Bool) (hm : ∀ k, k < 6 → ((m >>> (nI k &&& 31)) &&& 1 = 1 ↔ sm k = true)) {Q : Option Value → zH → Prop} (hQ : ∀ (I2 : Nat → Nat → Int32) (v6 : Value), v6.category = 1 → (∀ a, a ≠ 96 → a ≠ 98 → I2 a = I a) → (∀ e, e < 6 → I2 98 e = -1 ∧ I2 96 e = zne (zc0 sm s e)) → zW l mX9_tells SH.length (zsl SH) 53 [.ref 85, .ref K, .int wh, .int s, .int m, .int x, v6, v7, v8, v9, v10] [] (I2, J, RF nw, SH) Q) : ∀ (f k : Nat) (I1 : Nat → Nat → Int32), k ≤ 6 → 6 - k < f → (∀ a, a ≠ 96 → a ≠ 98 → I1 a = I a) → (∀ e, e < k → I1 98 e = -1 ∧ I1 96 e = zne (zc0 sm s e)) →
    zW l mX9_tells SH.length (zsl SH) 8 [.ref 85, .ref K, .int wh, .int s, .int m, .int x, .int (nI k), v7, v8, v9, v10] [] (I1, J, RF nw, SH) Q
  | 0, k, I1, _, hf, _, _ => by omega
  | f + 1, k, I1, hk, hf, n1, n2 => by
    refine z_iload_6 (pc := 8) dX9_tells_8 ?_
    refine z_bipush (pc := 10) (6) dX9_tells_10 rfl ?_
    refine z_icmp_ge (pc := 12) (tgt := 53) dX9_tells_12 (by decide) (fun c12 => ?_) (fun c12 => ?_)
    · skip
      have hk6 : k = 6 := by
        rcases Nat.lt_or_ge k 6 with q | q
        · exact absurd c12 (nI_ge (b := 6) q (by omega))
        · omega
      subst hk6
      exact hQ I1 _ rfl n1 n2
    · skip
      have hlt : k < 6 := by
        rcases Nat.lt_or_ge k 6 with q | q
        · exact q
        · exact absurd (nI_le (a := 6) q (by omega)) c12
      refine z_aload_0 (pc := 15) dX9_tells_15 ?_
      refine y_getR (pc := 16) dX9_tells_16 flX9_47 rfl (by first | rfl | assumption) (by first | rfl | assumption) ?_
      refine z_iload_6 (pc := 19) dX9_tells_19 ?_
      refine z_iconst (pc := 21) (-1) dX9_tells_21 rfl ?_
      refine y_iastN (pc := 22) (k) dX9_tells_22 (by first | rfl | assumption) (rfl) (by omega) (by first | decide | omega) ?_
      refine z_aload_0 (pc := 23) dX9_tells_23 ?_
      refine y_getR (pc := 24) dX9_tells_24 flX9_41 rfl (by first | rfl | assumption) (by first | rfl | assumption) ?_
      refine z_iload_6 (pc := 27) dX9_tells_27 ?_
      refine z_iload_4 (pc := 29) dX9_tells_29 ?_
      refine z_iload_6 (pc := 31) dX9_tells_31 ?_
      refine z_S2 (pc := 33) dX9_tells_33 mlX9_164 kX9_has vX9_has (by decide) (by decide) (Nat.le_of_ble_eq_true rfl) (qX9_has) ⟨Nat.le_refl _, Nat.le_refl _⟩ (fun r h1 hq => ?_)
      obtain ⟨rfl, rfl⟩ := hq
      refine z_if_eq (pc := 36) (tgt := 43) dX9_tells_36 (by decide) (fun c36 => ?_) (fun c36 => ?_)
      · skip
        refine z_sipush (pc := 43) (-1000) dX9_tells_43 rfl ?_
        refine y_iastN (pc := 46) (k) dX9_tells_46 (by first | rfl | assumption) (rfl) (by omega) (by first | decide | omega) ?_
        refine z_iinc_6 (pc := 47) (1) dX9_tells_47 rfl (by decide) rfl ?_
        refine z_goto (pc := 50) (tgt := 8) dX9_tells_50 (by decide) ?_
        have hz : zc0 sm s k = none := by
          unfold zc0
          rw [if_neg]
          rw [zbb0, decide_eq_false_iff_not, hm k (by omega)] at c36
          exact c36
        rw [← nI_succ]
        refine minit_loop h7 h8 h9 h10 sm hm hQ f (k + 1) _ (by omega) (by omega) (fun a h1 h2 => ?_) (fun e he => ?_)
        · funext b; rw [zup_no (Or.inl h1), zup_no (Or.inl h2), n1 a h1 h2]
        · by_cases hb : e = k
          · subst hb
            rw [zup_no (Or.inl (by decide)), zup_on, zup_on, hz]; exact ⟨rfl, rfl⟩
          · rw [zup_no (Or.inr hb), zup_no (Or.inr hb), zup_no (Or.inr hb)]; exact n2 e (by omega)
      · skip
        refine z_iload_3 (pc := 39) dX9_tells_39 ?_
        refine z_goto (pc := 40) (tgt := 46) dX9_tells_40 (by decide) ?_
        refine y_iastN (pc := 46) (k) dX9_tells_46 (by first | rfl | assumption) (rfl) (by omega) (by first | decide | omega) ?_
        refine z_iinc_6 (pc := 47) (1) dX9_tells_47 rfl (by decide) rfl ?_
        refine z_goto (pc := 50) (tgt := 8) dX9_tells_50 (by decide) ?_
        have hz : zc0 sm s k = some s := by
          unfold zc0
          rw [if_pos]
          rw [zbb1, decide_eq_true_eq, hm k (by omega)] at c36
          exact c36
        rw [← nI_succ]
        refine minit_loop h7 h8 h9 h10 sm hm hQ f (k + 1) _ (by omega) (by omega) (fun a h1 h2 => ?_) (fun e he => ?_)
        · funext b; rw [zup_no (Or.inl h1), zup_no (Or.inl h2), n1 a h1 h2]
        · by_cases hb : e = k
          · subst hb
            rw [zup_no (Or.inl (by decide)), zup_on, zup_on, hz]; exact ⟨rfl, rfl⟩
          · rw [zup_no (Or.inr hb), zup_no (Or.inr hb), zup_no (Or.inr hb)]; exact n2 e (by omega)
def zTO (I I1 : Nat → Nat → Int32) (fs : Nat → Int32) (bl : Nat → Bool) : Prop := (∀ a, a ≠ 85 → a ≠ 96 → a ≠ 97 → a ≠ 98 → I1 a = I a) ∧ (∀ b, b ≠ 24 → I1 85 b = I 85 b) ∧ I1 85 24 = nI (bs bl) ∧ ∀ e, e < 6 → I1 98 e = fs e
def zTQ (I : Nat → Nat → Int32) (J : Nat → Nat → Int64) (nw : Bool) (o : (Nat → Int32) × (Nat → Bool)) : Option Value → zH → Prop := fun r h1 => r = none ∧ ∃ I2, h1 = (I2, J, RF nw, SH) ∧ zTO I I2 o.1 o.2
set_option maxRecDepth 100000 in
set_option maxHeartbeats 4000000 in
theorem mouter_loop {l : zL} {I : Nat → Nat → Int32} {J : Nat → Nat → Int64} {nw : Bool} (K : Nat) (hK : SH[K]? = some (10, 66)) (hK2 : K ≠ 85 ∧ K ≠ 96 ∧ K ≠ 97 ∧ K ≠ 98) (n T : Nat) (A B : Nat → Nat) (ht : zRT I K n T A B) {wh s m : Int32} {x : Int32} (w : Nat → Bool) (hw : ∀ k, k < 10 → ((x >>> (nI k &&& 31)) &&& 1 = 1 ↔ w k = true)) : ∀ (f j : Nat) (cm : Nat → Option Int32) (fs : Nat → Int32) (bl : Nat → Bool) (I1 : Nat → Nat → Int32) (c6 : Int32) (v8 v9 v10 : Value), j + f ≤ 7 → v8.category = 1 → v9.category = 1 → v10.category = 1 → zTO I I1 fs bl → (∀ e, e < 6 → I1 96 e = zne (cm e)) → (∀ d v, cm d = some v → -1000 < v) → ((c6 = 0 ∧ zdone cm) ∨ (¬ c6 = 0 ∧ zcnt fs n + 1 ≤ f)) →
    zW l mX9_tells SH.length (zsl SH) 59 [.ref 85, .ref K, .int wh, .int s, .int m, .int x, .int c6, .int (nI j), v8, v9, v10] [] (I1, J, RF nw, SH) (zTQ I J nw (zit (zmT I K n T A B w wh) f j cm fs bl))
  | 0, j, cm, fs, bl, I1, c6, v8, v9, v10, hj, h8, h9, h10, hO, hcm, hps, hc => by
    refine z_iload_6 (pc := 59) dX9_tells_59 ?_
    refine z_if_eq (pc := 61) (tgt := 302) dX9_tells_61 (by decide) (fun c61 => ?_) (fun c61 => ?_)
    · skip
      refine z_ret (pc := 302) (r := none) rfl dX9_tells_302 trivial rfl rfl ?_
      have hd : zdone cm := by
        rcases hc with q | q
        · exact q.2
        · exact absurd c61 q.1
      rw [zit_done hd]
      exact ⟨rfl, I1, rfl, hO⟩
    · exact absurd (hc.elim (fun q => q.1) (fun q => by omega)) c61
  | f + 1, j, cm, fs, bl, I1, c6, v8, v9, v10, hj, h8, h9, h10, hO, hcm, hps, hc => by
    have hn6 := ht.1
    have k296 : zcnt fs n + 1 ≤ f + 1 → ∀ (I3 : Nat → Nat → Int32) (g : Nat → Int32) (w8 w9 w10 : Value), w8.category = 1 → w9.category = 1 → w10.category = 1 → (zTO I I3 (zfi cm fs j n) (zbl (zmT I K n T A B w wh) cm bl n)) → (∀ e, e < 6 → I3 97 e = zne (znx (zmT I K n T A B w wh) cm fs n e)) → (∀ e, e < 6 → g e = I3 97 e) → zW l mX9_tells SH.length (zsl SH) 296 [.ref 85, .ref K, .int wh, .int s, .int m, .int x, .int (zbb (zan (I3 97) 6)), .int (nI j), w8, w9, w10] [] (zrow I3 96 g, J, RF nw, SH) (zTQ I J nw (zit (zmT I K n T A B w wh) (f + 1) j cm fs bl)) := by
      intro hct I3 g w8 w9 w10 hw8 hw9 hw10 hO3 h97 hg
      refine z_iinc_7 (pc := 296) (1) dX9_tells_296 rfl (by decide) rfl ?_
      refine z_goto (pc := 299) (tgt := 59) dX9_tells_299 (by decide) ?_
      rw [← nI_succ, zit_go (t := (zmT I K n T A B w wh)) hn6]
      refine mouter_loop K hK hK2 n T A B ht w hw f (j + 1) _ _ _ _ _ w8 w9 w10 (by omega) hw8 hw9 hw10 ⟨fun a h1 h2 h3 h4 => ?_, fun b hb => ?_, ?_, fun e he => ?_⟩ (fun e he => ?_) (fun d v hv => Int32.lt_trans (by decide) (znx_pos _ _ _ hv)) ?_
      · funext b; rw [zrow_ne _ _ _ h2, hO3.1 a h1 h2 h3 h4]
      · rw [zrow_ne _ _ _ (by decide)]; exact hO3.2.1 b hb
      · rw [zrow_ne _ _ _ (by decide)]; exact hO3.2.2.1
      · rw [zrow_ne _ _ _ (by decide)]; exact hO3.2.2.2 e he
      · rw [zrow_at, hg e he]; exact h97 e he
      · cases hz : zan (I3 97) 6
        · refine Or.inl ⟨rfl, fun e he => ?_⟩
          have h1 := zan_no 6 hz e he
          rw [h97 e he] at h1
          exact (zne_eq (fun v hv => Int32.lt_trans (by decide) (znx_pos _ _ _ hv))).mp h1
        · refine Or.inr ⟨by decide, ?_⟩
          obtain ⟨e, he, h1⟩ := zan_yes 6 hz
          rw [h97 e he] at h1
          have h2 := zcnt_fi (t := (zmT I K n T A B w wh)) (cm := cm) (fs := fs) (j := j) (n := n) (e := e) (by omega) (fun q => h1 (by rw [q]; rfl))
          show zcnt (zfi cm fs j n) n + 1 ≤ f
          omega
    have k238 : zcnt fs n + 1 ≤ f + 1 → ∀ (I3 : Nat → Nat → Int32) (w8 w9 w10 : Value), w8.category = 1 → w9.category = 1 → w10.category = 1 → (zTO I I3 (zfi cm fs j n) (zbl (zmT I K n T A B w wh) cm bl n)) → (∀ e, e < 6 → I3 97 e = zne (znx (zmT I K n T A B w wh) cm fs n e)) → zW l mX9_tells SH.length (zsl SH) 238 [.ref 85, .ref K, .int wh, .int s, .int m, .int x, .int c6, .int (nI j), w8, w9, w10] [] (I3, J, RF nw, SH) (zTQ I J nw (zit (zmT I K n T A B w wh) (f + 1) j cm fs bl)) := by
      intro hct I3 w8 w9 w10 hw8 hw9 hw10 hO3 h97
      refine z_iconst (pc := 238) (0) dX9_tells_238 rfl ?_
      refine z_istore_6 (pc := 239) dX9_tells_239 (by decide) rfl ?_
      refine z_iconst (pc := 241) (0) dX9_tells_241 rfl ?_
      refine z_istore_8 (pc := 242) dX9_tells_242 (by decide) rfl ?_
      have k := mcopy_loop (l := l) (I := I3) (J := J) (nw := nw) (wh := wh) (s := s) (m := m) (x := x) (K := K) (c7 := nI j) hw9 hw10 (Q := (zTQ I J nw (zit (zmT I K n T A B w wh) (f + 1) j cm fs bl))) (fun g u8 hu8 hg => k296 hct I3 g u8 w9 w10 hu8 hw9 hw10 hO3 h97 hg) 7 0 (I3 96) (by omega) (by omega) (fun e he => by omega)
      have ez : zbb (zan (I3 97) 0) = 0 := rfl
      rw [zrow_self, nI_0, ez] at k
      exact k
    have k90 : zcnt fs n + 1 ≤ f + 1 → ∀ (g : Nat → Int32) (w8 : Value), w8.category = 1 → (∀ e, e < 6 → g e = -1000) → zW l mX9_tells SH.length (zsl SH) 90 [.ref 85, .ref K, .int wh, .int s, .int m, .int x, .int c6, .int (nI j), w8, v9, v10] [] (zrow I1 97 g, J, RF nw, SH) (zTQ I J nw (zit (zmT I K n T A B w wh) (f + 1) j cm fs bl)) := by
      intro hct g w8 hw8 hg
      have eK : zrow I1 97 g K = I K := by funext b; rw [zrow_ne _ _ _ hK2.2.2.1, hO.1 K hK2.1 hK2.2.1 hK2.2.2.1 hK2.2.2.2]
      refine z_iconst (pc := 90) (0) dX9_tells_90 rfl ?_
      refine z_istore_8 (pc := 91) dX9_tells_91 (by decide) rfl ?_
      have k := mstep_loop (l := l) (I := zrow I1 97 g) (J := J) (nw := nw) K hK hK2 n T A B (ht.keep eK) (wh := wh) (s := s) (m := m) (c6 := c6) w hw cm fs bl j (fun d hd => by rw [zrow_ne _ _ _ (by decide)]; exact hcm d hd) hps (Q := (zTQ I J nw (zit (zmT I K n T A B w wh) (f + 1) j cm fs bl))) (fun I3 u8 u9 u10 a8 a9 a10 hM => by
        rw [zmT_keep eK] at hM
        obtain ⟨m1, m2, m3, m4, m5⟩ := hM
        refine k238 hct I3 u8 u9 u10 a8 a9 a10 ⟨fun a h1 h2 h3 h4 => ?_, fun b hb => ?_, m3, m5⟩ m4
        · rw [m1 a h1 h3 h4]; funext b; rw [zrow_ne _ _ _ h3, hO.1 a h1 h2 h3 h4]
        · rw [m2 b hb, zrow_ne _ _ _ (by decide)]; exact hO.2.1 b hb) (n + 1) 0 v9 v10 (zrow I1 97 g) (by omega) (by omega) h9 h10 ⟨fun _ _ _ _ => rfl, fun _ _ => rfl, by rw [zrow_ne _ _ _ (by decide), hO.2.2.1]; exact congrArg nI (bs_congr (fun d _ => by simp [zbl])), fun e he => by rw [zrow_at, hg e he]; rfl, fun e he => by rw [zrow_ne _ _ _ (by decide), hO.2.2.2 e he]; unfold zfi; rw [if_neg (by omega)]⟩
      rw [nI_0] at k
      exact k
    refine z_iload_6 (pc := 59) dX9_tells_59 ?_
    refine z_if_eq (pc := 61) (tgt := 302) dX9_tells_61 (by decide) (fun c61 => ?_) (fun c61 => ?_)
    · skip
      refine z_ret (pc := 302) (r := none) rfl dX9_tells_302 trivial rfl rfl ?_
      have hd : zdone cm := by
        rcases hc with q | q
        · exact q.2
        · exact absurd c61 q.1
      rw [zit_done hd]
      exact ⟨rfl, I1, rfl, hO⟩
    · skip
      refine z_iconst (pc := 64) (0) dX9_tells_64 rfl ?_
      refine z_istore_8 (pc := 65) dX9_tells_65 (by decide) rfl ?_
      have hct : zcnt fs n + 1 ≤ f + 1 := by
        rcases hc with q | q
        · exact absurd q.1 c61
        · exact q.2
      have k := mclear_loop (l := l) (I := I1) (J := J) (nw := nw) (wh := wh) (s := s) (m := m) (x := x) (K := K) (c6 := c6) (c7 := nI j) h9 h10 (Q := (zTQ I J nw (zit (zmT I K n T A B w wh) (f + 1) j cm fs bl))) (fun g u8 hu8 hg => k90 hct g u8 hu8 hg) 7 0 (I1 97) (by omega) (by omega) (fun e he => by omega)
      rw [zrow_self, nI_0] at k
      exact k
set_option maxRecDepth 100000 in
set_option maxHeartbeats 4000000 in
theorem qX9_tells {l : zL} {I : Nat → Nat → Int32} {J : Nat → Nat → Int64} {nw : Bool} (K : Nat) (hK : SH[K]? = some (10, 66)) (hK2 : K ≠ 85 ∧ K ≠ 96 ∧ K ≠ 97 ∧ K ≠ 98) (n T : Nat) (A B : Nat → Nat) (ht : zRT I K n T A B) {wh s m : Int32} {x : Int32} (w : Nat → Bool) (hw : ∀ k, k < 10 → ((x >>> (nI k &&& 31)) &&& 1 = 1 ↔ w k = true)) (sm : Nat → Bool) (hm : ∀ k, k < 6 → ((m >>> (nI k &&& 31)) &&& 1 = 1 ↔ sm k = true)) (hs : -1000 < s) : zP l mX9_tells [.ref 85, .ref K, .int wh, .int s, .int m, .int x] (hh I J nw) (zTQ I J nw (zgo (zmT I K n T A B w wh) sm s)) := by
  have hn6 := ht.1
  refine z_start [.ref 85, .ref K, .int wh, .int s, .int m, .int x, zno, zno, zno, zno, zno] (by decide +kernel) (Nat.le_of_ble_eq_true rfl) rfl ?_
  refine z_aload_0 (pc := 0) dX9_tells_0 ?_
  refine z_iconst (pc := 1) (0) dX9_tells_1 rfl ?_
  refine y_putI (pc := 2) dX9_tells_2 flX9_168 ffX9_168 rfl (by first | rfl | assumption) ⟨rfl, rfl⟩ ?_
  refine z_iconst (pc := 5) (0) dX9_tells_5 rfl ?_
  refine z_istore_6 (pc := 6) dX9_tells_6 (by decide) rfl ?_
  have k53 : ∀ (I2 : Nat → Nat → Int32) (v6 : Value), v6.category = 1 → (∀ a, a ≠ 96 → a ≠ 98 → I2 a = zup I 85 24 0 a) → (∀ e, e < 6 → I2 98 e = -1 ∧ I2 96 e = zne (zc0 sm s e)) → zW l mX9_tells SH.length (zsl SH) 53 [.ref 85, .ref K, .int wh, .int s, .int m, .int x, v6, zno, zno, zno, zno] [] (I2, J, RF nw, SH) (zTQ I J nw (zgo (zmT I K n T A B w wh) sm s)) := by
    intro I2 v6 hv6 n1 n2
    refine z_iconst (pc := 53) (1) dX9_tells_53 rfl ?_
    refine z_istore_6 (pc := 54) dX9_tells_54 (by decide) rfl ?_
    refine z_iconst (pc := 56) (0) dX9_tells_56 rfl ?_
    refine z_istore_7 (pc := 57) dX9_tells_57 (by decide) rfl ?_
    have k := mouter_loop (l := l) (I := I) (J := J) (nw := nw) K hK hK2 n T A B ht (wh := wh) (s := s) (m := m) w hw 7 0 (zc0 sm s) (fun _ => -1) (fun _ => false) I2 1 zno zno zno (by omega) rfl rfl rfl ⟨fun a h1 h2 h3 h4 => by rw [n1 a h2 h4]; exact zup_other I 24 0 h1, fun b hb => by rw [n1 85 (by decide) (by decide), zup_no (Or.inr hb)], by rw [n1 85 (by decide) (by decide), zup_on]; rfl, fun e he => (n2 e he).1⟩ (fun e he => (n2 e he).2) (fun d v hv => by
      unfold zc0 at hv
      by_cases hq : sm d = true
      · rw [if_pos hq] at hv; cases hv; exact hs
      · rw [if_neg hq] at hv; cases hv) (Or.inr ⟨by decide, by have := zcnt_n (fun _ => -1) n; omega⟩)
    rw [nI_0] at k
    exact k
  have k := minit_loop (l := l) (I := zup I 85 24 0) (J := J) (nw := nw) (wh := wh) (s := s) (m := m) (x := x) (K := K) (v7 := zno) (v8 := zno) (v9 := zno) (v10 := zno) rfl rfl rfl rfl sm hm (Q := zTQ I J nw (zgo (zmT I K n T A B w wh) sm s)) k53 7 0 (zup I 85 24 0) (by omega) (by omega) (fun _ _ _ => rfl) (fun e he => by omega)
  rw [nI_0] at k
  exact k
