-- ===== blend, tap, days, undo =====
theorem z_both2 : ∀ q, q ≤ 20 → ∀ r, r ≤ 20 → (if nI q + nI r < 20 then nI q + nI r else 20) = nI (if q + r < 20 then q + r else 20) := by decide +kernel
theorem zRc_blend {n : Nat} {c t : Nat → Int32} (h : zRc n c t) {i j w q : Nat} (hi : i < 4) (hj : j < 4) (hij : i ≠ j) (hw : w < n) (hq : q ≤ 20) (cj : c (1 + j) = nI (w + 1)) (hn : n ≤ 6) {t' : Nat → Int32} (ht : ∀ b, t' b = if b = 52 + j then nI q else if b = 44 + i ∨ b = 48 + i ∨ b = 52 + i ∨ b = 56 + i then 0 else t b) : zRc n (upd (upd c (5 + j) (nI q)) (1 + i) 0) t' := by
  have hcn : ¬ c (1 + j) = 0 := by rw [cj]; exact nI_ne0 (by omega) (by omega)
  have e2 : ∀ b, b ≠ 52 + j → b ≠ 44 + i → b ≠ 48 + i → b ≠ 52 + i → b ≠ 56 + i → t' b = t b := fun b h0 h1 h2 h3 h4 => by rw [ht, if_neg h0, if_neg (by omega)]
  refine ⟨?_, fun k hk => ?_, fun d hd => ?_⟩
  · rw [pk_un (by omega), pk_un (by omega), e2 5 (by omega) (by omega) (by omega) (by omega) (by omega)]; exact h.1
  · by_cases z : k = i
    · subst z
      refine Or.inl ⟨?_, ?_, ?_, ?_, ?_⟩
      · rw [pk_us]
      · rw [ht, if_neg (by omega), if_pos (by omega)]
      · rw [ht, if_neg (by omega), if_pos (by omega)]
      · rw [ht, if_neg (by omega), if_pos (by omega)]
      · rw [ht, if_neg (by omega), if_pos (by omega)]
    · by_cases y : k = j
      · subst y
        obtain ⟨w2, hw2, f1, f2, f3, f4, f5, -⟩ := zRc_is h hk hcn
        refine Or.inr ⟨w2, hw2, ?_, ?_, ?_, ?_, ?_, q, hq, ?_⟩
        · rw [pk_un (by omega), pk_un (by omega)]; exact f1
        · rw [e2 _ (by omega) (by omega) (by omega) (by omega) (by omega)]; exact f2
        · rw [e2 _ (by omega) (by omega) (by omega) (by omega) (by omega)]; exact f3
        · rw [ht, if_pos rfl, pk_un (by omega), pk_us]
        · rw [e2 _ (by omega) (by omega) (by omega) (by omega) (by omega), pk_un (by omega), pk_un (by omega)]; exact f5
        · rw [pk_un (by omega), pk_us]
      · have e1 : ∀ b, b ≠ 5 + j → b ≠ 1 + i → upd (upd c (5 + j) (nI q)) (1 + i) 0 b = c b := fun b h1 h2 => by rw [pk_un h2, pk_un h1]
        unfold zCk
        rw [e1 (1 + k) (by omega) (by omega), e1 (5 + k) (by omega) (by omega), e1 (9 + k) (by omega) (by omega), e2 (44 + k) (by omega) (by omega) (by omega) (by omega) (by omega), e2 (48 + k) (by omega) (by omega) (by omega) (by omega) (by omega), e2 (52 + k) (by omega) (by omega) (by omega) (by omega) (by omega), e2 (56 + k) (by omega) (by omega) (by omega) (by omega) (by omega)]
        exact h.2.1 k hk
  · rw [pk_un (by omega), pk_un (by omega), e2 (60 + d) (by omega) (by omega) (by omega) (by omega) (by omega)]; exact h.2.2 d hd
theorem r_blend {C M : Nat → Nat → Int32} {n T : Nat} {A B : Nat → Nat} {nx kp L : Nat} (h : Rel2 C M n T A B nx kp L) (x y : Int32) : (pBlend C nx kp x y).1 = (mBlend M kp x y).1 ∧ Rel (pBlend C nx kp x y).2 (mBlend M kp x y).2 := by
  unfold pBlend mBlend
  have hRT := h.2.2.2.2.1.1
  have hAC := h.2.2.2.2.2.1
  have hn := hRT.1.1
  by_cases g : zlt x 4 = true ∧ zlt y 4 = true ∧ ¬ x = y
  · rw [if_pos g, if_pos g]
    obtain ⟨i, hi, rfl⟩ := zlt_nI (by decide) g.1
    obtain ⟨j, hj, rfl⟩ := zlt_nI (by decide) g.2.1
    have hij : i ≠ j := fun z => g.2.2 (by rw [z])
    rw [nI_clamp (n := i) (by omega), nI_clamp (n := j) (by omega)]
    by_cases c : C 22 (1 + i) = 0 ∨ C 22 (1 + j) = 0
    · rw [if_pos c, if_pos (c.imp (zRc_th hRT.2.2 hi hn).mpr (zRc_th hRT.2.2 hj hn).mpr)]; exact ⟨rfl, n, T, A, B, nx, kp, L, h⟩
    · have cm : ¬ (M 90 (44 + i) = 0 ∨ M 90 (44 + j) = 0) := fun z => c (z.imp (zRc_th hRT.2.2 hi hn).mp (zRc_th hRT.2.2 hj hn).mp)
      rw [if_neg c, if_neg cm]
      obtain ⟨u1, hu1, a1, a2, a3, a4, a5, q1, hq1, a6⟩ := zRc_is hRT.2.2 hi (fun z => c (Or.inl z))
      obtain ⟨u2, hu2, b1, b2, b3, b4, b5, q2, hq2, b6⟩ := zRc_is hRT.2.2 hj (fun z => c (Or.inr z))
      have em : zblm C i j = nI (if q1 + q2 < 20 then q1 + q2 else 20) := by
        unfold zblm
        rw [show C 22 (5 + i) = nI q1 from a6, show C 22 (5 + j) = nI q2 from b6, z_both2 q1 hq1 q2 hq2]
      have hz : ∀ b, zBl (zrem M kp) 90 i j 90 b = if b = 52 + j then nI (if q1 + q2 < 20 then q1 + q2 else 20) else if b = 44 + i ∨ b = 48 + i ∨ b = 52 + i ∨ b = 56 + i then 0 else M 90 b := by
        intro b
        rw [zBl_at hij hi hj, zrem_90, a4, b4, a6, b6, z_both q1 hq1 q2 hq2, z_both2 q1 hq1 q2 hq2]
      have hq20 : (if q1 + q2 < 20 then q1 + q2 else 20) ≤ 20 := by
        by_cases z : q1 + q2 < 20
        · rw [if_pos z]; omega
        · rw [if_neg z]; omega
      rw [hz (52 + j), if_pos rfl, em]
      refine ⟨rfl, n, T, A, B, _, _, L, Rel2_kept h ?_ (fun b h1 h2 => ?_) (fun a ha => ?_) (fun a ha => ?_)⟩
      · dsimp only
        rw [zup_row, zup_row, pKeep_22 hAC.1]
        exact zRc_blend hRT.2.2 hi hj hij hu2 hq20 b1 hn hz
      · show zBl (zrem M kp) 90 i j 90 b = M 90 b
        rw [hz b, if_neg (by omega), if_neg (by omega)]
      · dsimp only
        rw [zup_other _ _ _ ha, zup_other _ _ _ ha]
      · show zBl (zrem M kp) 90 i j a = zrem M kp a
        unfold zBl
        rw [zup_other _ _ _ ha, zup_other _ _ _ ha, zup_other _ _ _ ha, zup_other _ _ _ ha, zup_other _ _ _ ha]
  · rw [if_neg g, if_neg g]; exact ⟨rfl, n, T, A, B, nx, kp, L, h⟩
theorem r_tap {C M : Nat → Nat → Int32} {n T : Nat} {A B : Nat → Nat} {nx kp L : Nat} (h : Rel2 C M n T A B nx kp L) (x y : Int32) : (pTap C n T A B nx kp x y).1 = (mTap M kp n T A B x y).1 ∧ Rel (pTap C n T A B nx kp x y).2 (mTap M kp n T A B x y).2 := by
  unfold pTap mTap
  have hRT := h.2.2.2.2.1.1
  have hAC := h.2.2.2.2.2.1
  have hn := hRT.1.1
  by_cases g : zlt x 4 = true ∧ zlt y n = true
  · rw [if_pos g, if_pos g]
    obtain ⟨i, hi, rfl⟩ := zlt_nI (by decide) g.1
    rw [nI_clamp (n := i) (by omega)]
    by_cases c : C 22 (1 + i) = 0
    · rw [if_pos c, if_pos ((zRc_th hRT.2.2 hi hn).mpr c)]; exact ⟨rfl, n, T, A, B, nx, kp, L, h⟩
    · rw [if_neg c, if_neg (fun z => c ((zRc_th hRT.2.2 hi hn).mp z))]
      obtain ⟨w, hw, e1, e2, e3, e4, e5, q, hq, e6⟩ := zRc_is hRT.2.2 hi c
      have eb : mTb M n T A B i y.toNatClampNeg = zbelT C n T A B i y.toNatClampNeg := by
        unfold mTb zbelT
        rw [(RT_sc hRT hi c).1, (RT_sc hRT hi c).2, zgo_congr (RT_TA hRT (fun _ => false) _)]
      have ew : (C 22 (1 + i) - 1).toNatClampNeg = w := by rw [show C 22 (1 + i) = nI (w + 1) from e1, nI_pred, nI_clamp (by omega)]
      rw [eb, ew, e3, nI_clamp (n := w) (by omega)]
      refine ⟨rfl, n, T, A, B, _, _, L, Rel2_kept h ?_ (fun b h1 h2 => ?_) (fun a ha => ?_) (fun a ha => ?_)⟩
      · dsimp only
        rw [zup_row, zup_row, zup_row, zup_row, pKeep_22 hAC.1, zrem_90]
        exact zRc_tap hn hRT.2.2 hi hw e1 _
      · dsimp only
        rw [zup_no (by omega), zup_no (by omega), zrem_90]
      · dsimp only
        rw [zup_other _ _ _ ha, zup_other _ _ _ ha]
      · dsimp only
        rw [zup_other _ _ _ ha, zup_other _ _ _ ha]
  · rw [if_neg g, if_neg g]; exact ⟨rfl, n, T, A, B, nx, kp, L, h⟩
-- days
theorem zday_row (C : Nat → Nat → Int32) : zday C 22 22 = zwday (C 22) := by
  funext b
  unfold zday zwday
  by_cases q : b = 0 ∨ (9 ≤ b ∧ b < 13)
  · rw [if_pos ⟨rfl, q⟩, if_pos q]
  · rw [if_neg (fun z => q z.2), if_neg q]
theorem zDg_row (M : Nat → Nat → Int32) : zDg M 90 90 = mwday (M 90) := by
  funext b
  unfold zDg mwday
  rw [if_pos rfl]
theorem r_day1 {C M : Nat → Nat → Int32} {n T : Nat} {A B : Nat → Nat} {nx kp L : Nat} (h : Rel2 C M n T A B nx kp L) : Rel2 (zday (pKeep C nx kp) 22) (zDg (zrem M kp) 90) n T A B ((nx + 1) % 24) (min 24 (kp + 1)) L := by
  have hRT := h.2.2.2.2.1.1
  have hAC := h.2.2.2.2.2.1
  refine Rel2_kept h ?_ (fun b h1 h2 => ?_) (fun a ha => ?_) (fun a ha => zDg_ne _ ha)
  · rw [zday_row, zDg_row, pKeep_22 hAC.1, zrem_90]; exact zRc_day hRT.2.2
  · rw [zDg_row, zrem_90]; unfold mwday; rw [if_neg (by omega), if_neg h2]
  · funext b; unfold zday; rw [if_neg (fun z => ha z.1)]
theorem r_dys {C M : Nat → Nat → Int32} {n T : Nat} {A B : Nat → Nat} {nx kp L : Nat} (h : Rel2 C M n T A B nx kp L) : ∀ k, Rel2 (zdys C nx kp k) (mdys M kp k) n T A B ((nx + k) % 24) (min 24 (kp + k)) L
  | 0 => by
    rw [show (nx + 0) % 24 = nx from by have := h.2.2.2.2.2.1.1; omega, show min 24 (kp + 0) = kp from by have := h.2.2.2.2.2.1.2.1; omega]
    exact h
  | k + 1 => by
    have h1 := r_day1 (r_dys h k)
    rw [show ((nx + k) % 24 + 1) % 24 = (nx + (k + 1)) % 24 by omega, show min 24 (min 24 (kp + k) + 1) = min 24 (kp + (k + 1)) by omega] at h1
    exact h1
theorem v_offs {C M : Nat → Nat → Int32} {n T : Nat} {A B : Nat → Nat} (h : RT C 15 (M 90) n T A B) : ∀ k, k ≤ 4 → zoff C k = moff M k
  | 0, _ => rfl
  | k + 1, hk => by
    rw [zoff, moff, v_offs h k (by omega)]
    by_cases c : C 22 (1 + k) = 0
    · rw [if_pos c, if_neg (fun z => by
        have := (zRc_th h.2.2 (show k < 4 by omega) h.1.1).mpr c
        rw [z.1] at this; exact absurd this (by decide)), Int32.or_zero]
    · obtain ⟨w, hw, e1, e2, e3, e4, e5, -⟩ := zRc_is h.2.2 (show k < 4 by omega) c
      have e5' : M 90 (56 + k) = C 22 (9 + k) := e5
      rw [if_neg c, ← e5', (RT_law h).2.1]
      by_cases z : M 90 (56 + k) ≤ M 90 1
      · rw [if_pos z, if_neg (fun y => y.2 z), Int32.or_zero]
      · rw [if_neg z, if_pos ⟨e2, z⟩]
theorem r_days {C M : Nat → Nat → Int32} {n T : Nat} {A B : Nat → Nat} {nx kp L : Nat} (h : Rel2 C M n T A B nx kp L) (x : Int32) : (pDays C n nx kp x).1 = (mDays M kp x).1 ∧ Rel (pDays C n nx kp x).2 (mDays M kp x).2 := by
  unfold pDays mDays
  have hRT := h.2.2.2.2.1.1
  have h7 := h.2.2.2.2.1.2
  by_cases h0 : 0 < n
  · have h85 : ¬ M 85 7 = 0 := by rw [h7, decide_eq_true h0]; decide
    rw [if_pos h0, if_neg h85]
    by_cases g : ¬ x < 1 ∧ x ≤ 24
    · rw [if_pos g, if_pos g, show C 22 0 = M 90 5 from hRT.2.2.1]
      by_cases c : M 90 5 + x ≤ 999
      · rw [if_pos c, if_pos c]
        have h1 := r_dys h x.toNatClampNeg
        exact ⟨v_offs h1.2.2.2.2.1.1 4 (by omega), n, T, A, B, _, _, L, h1⟩
      · rw [if_neg c, if_neg c]; exact ⟨rfl, n, T, A, B, nx, kp, L, h⟩
    · rw [if_neg g, if_neg g]; exact ⟨rfl, n, T, A, B, nx, kp, L, h⟩
  · have h85 : M 85 7 = 0 := by rw [h7, decide_eq_false h0]; rfl
    rw [if_neg h0, if_pos h85]; exact ⟨rfl, n, T, A, B, nx, kp, L, h⟩
theorem r_undo {C M : Nat → Nat → Int32} {n T : Nat} {A B : Nat → Nat} {nx kp L : Nat} (h : Rel2 C M n T A B nx kp L) : (pUndo C nx kp).1 = (mUndo M kp).1 ∧ Rel (pUndo C nx kp).2 (mUndo M kp).2 := by
  unfold pUndo mUndo
  by_cases g : kp = 0
  · rw [if_pos g, if_pos g]; exact ⟨rfl, n, T, A, B, nx, kp, L, h⟩
  · rw [if_neg g, if_neg g]
    obtain ⟨a1, a2, a3, a4, a5, a6⟩ := h.2.2.2.2.2.1
    have hix : (nx + 24 - kp + (kp - 1)) % 24 = (nx + 23) % 24 := by omega
    have h90 : ∀ b, b < 66 → zcpy (zup M 85 9 (nI (kp - 1))) 91 90 (66 * (kp - 1)) 0 66 90 b = M 91 (66 * (kp - 1) + b) := by
      intro b hb
      unfold zcpy va_cpy
      rw [if_pos rfl, if_pos (by omega), zup_no (by omega), Nat.sub_zero]
    have hst : ∀ b, b < 44 → b ≠ 5 → zcpy (zup M 85 9 (nI (kp - 1))) 91 90 (66 * (kp - 1)) 0 66 90 b = M 90 b := fun b h1 h2 => by rw [h90 b (by omega)]; exact (a6 (kp - 1) (by omega)).2 b h1 h2
    refine ⟨rfl, n, T, A, B, (nx + 23) % 24, kp - 1, L, Rel2_act h ⟨by omega, by omega, ?_, ?_, ?_, fun j hj => ⟨?_, fun b h1 h2 => ?_⟩⟩ ?_ hst (fun a h1 h2 h3 => ?_) (fun a h1 h2 h3 => ?_) (fun y hy => ?_)⟩
    · dsimp only
      rw [zcpy_no (by omega), zup_no (by omega), zup_on]
    · dsimp only
      rw [zcpy_no (by omega), zup_on]
    · dsimp only
      rw [zcpy_no (by omega), zup_on]
    · refine zRc_congr (a6 j (by omega)).1 (fun b hb => ?_) (fun b hb => ?_)
      · dsimp only
        rw [zcpy_no (by omega), zup_no (by omega), zup_no (by omega), show ((nx + 23) % 24 + 24 - (kp - 1) + j) % 24 = (nx + 24 - kp + j) % 24 by omega]
      · dsimp only
        rw [zcpy_no (by omega), zup_no (by omega)]
    · dsimp only
      rw [zcpy_no (by omega), zup_no (by omega), hst b h1 h2]
      exact (a6 j (by omega)).2 b h1 h2
    · refine zRc_congr (a6 (kp - 1) (by omega)).1 (fun b hb => ?_) (fun b hb => h90 b hb)
      dsimp only
      rw [zcpy_at hb, zup_no (by omega), zup_no (by omega), hix]
    · funext b
      dsimp only
      rw [zcpy_no h1, zup_no (by omega), zup_no (by omega)]
    · funext b
      dsimp only
      rw [zcpy_no h2, zup_no (by omega)]
    · dsimp only
      rw [zcpy_no (by omega), zup_no (by omega)]
