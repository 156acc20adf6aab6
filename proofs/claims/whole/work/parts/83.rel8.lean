-- ===== image, restore, town =====
theorem zPk_cg {t t' : Nat → Int32} {n T : Nat} {A B : Nat → Nat} (h : zPk t n T A B) (ht : ∀ b, b < 66 → t' b = t b) : zPk t' n T A B := by
  obtain ⟨p1, p2, p3, p4, p5, p6, p7⟩ := h
  refine ⟨p1, by rw [ht 3 (by omega)]; exact p2, p3, by rw [ht 4 (by omega)]; exact p4, fun k q => ?_, fun k q => ?_, fun d q => ?_⟩
  · rw [ht (24 + k) (by omega)]; exact p5 k q
  · rw [ht (34 + k) (by omega)]; exact p6 k q
  · rw [ht (6 + d) (by omega)]; exact p7 d q
theorem zTv_cg {C C' : Nat → Nat → Int32} {u : Nat} {t t' : Nat → Int32} {n T : Nat} (h : zTv C u t n T) (hC : ∀ a, u ≤ a → a ≤ u + 5 → C' a = C a) (ht : ∀ b, b < 66 → t' b = t b) : zTv C' u t' n T := by
  obtain ⟨v1, ⟨v20, v21, v22⟩, v3, v4, v5⟩ := h
  refine ⟨v1, ?_, ?_, fun d hd => ?_, fun k hk => ?_⟩
  · rw [hC u (by omega) (by omega), ht 0 (by omega), ht 1 (by omega), ht 2 (by omega)]; exact ⟨v20, v21, v22⟩
  · rw [hC u (by omega) (by omega)]; exact v3
  · rw [hC (u + 1) (by omega) (by omega), hC (u + 2) (by omega) (by omega), hC (u + 3) (by omega) (by omega), ht (6 + d) (by omega), ht (12 + d) (by omega), ht (18 + d) (by omega)]; exact v4 d hd
  · rw [hC (u + 4) (by omega) (by omega), hC (u + 5) (by omega) (by omega), ht (24 + k) (by omega), ht (34 + k) (by omega)]; exact v5 k hk
theorem RT_cg {C C' : Nat → Nat → Int32} {u : Nat} {t t' : Nat → Int32} {n T : Nat} {A B : Nat → Nat} (h : RT C u t n T A B) (hC : ∀ a, u ≤ a → a ≤ u + 7 → C' a = C a) (ht : ∀ b, b < 66 → t' b = t b) : RT C' u t' n T A B :=
  ⟨zPk_cg h.1 ht, zTv_cg h.2.1 (fun a h1 h2 => hC a h1 (by omega)) ht, zRc_congr h.2.2 (fun b _ => by rw [hC (u + 7) (by omega) (by omega)]) ht⟩
theorem RT_town2 {C : Nat → Nat → Int32} {s u : Nat} {t t' : Nat → Int32} {n T : Nat} {A B : Nat → Nat} (h : RT C u t n T A B) (hd : s + 7 < u ∨ u + 7 < s) (ht : ∀ b, b < 66 → t' b = t b) : RT (ztown C s u) s t' n T A B :=
  ⟨zPk_cg h.1 ht, zTv_cg (ztown_tv hd h.2.1) (fun _ _ _ => rfl) ht, zRc_congr h.2.2 (fun b hb => ztown_st hd hb) ht⟩
theorem r_img1 {C M : Nat → Nat → Int32} {n T : Nat} {A B : Nat → Nat} {nx kp L : Nat} (h : Rel2 C M n T A B nx kp L) (h0 : 0 < n) {k : Nat} (hk : k < 2) : Rel (ztown C (32 + 8 * k) 15) (zup (zcpy M 90 92 0 (66 * k) 66) 93 k 1) := by
  obtain ⟨r1, r2, r3, r4, r5, r6, r7, r8⟩ := h
  have hC : ∀ a, a < 32 + 8 * k ∨ 32 + 8 * k + 7 < a → ztown C (32 + 8 * k) 15 a = C a := fun a ha => funext (fun b => ztown_ne (by omega))
  have hM : ∀ a, a ≠ 92 → a ≠ 93 → zup (zcpy M 90 92 0 (66 * k) 66) 93 k 1 a = M a := fun a h1 h2 => funext (fun b => by rw [zup_no (by omega), zcpy_no h1])
  have h92 : ∀ j b, j < 2 → b < 66 → zup (zcpy M 90 92 0 (66 * k) 66) 93 k 1 92 (66 * j + b) = if j = k then M 90 b else M 92 (66 * j + b) := by
    intro j b hj hb
    rw [zup_no (by omega)]
    unfold zcpy va_cpy
    rw [if_pos rfl]
    by_cases z : j = k
    · rw [if_pos z, if_pos (by omega), show 0 + (66 * j + b - 66 * k) = b by subst z; omega]
    · rw [if_neg z, if_neg (by omega)]
  refine ⟨n, T, A, B, nx, kp, L, RW_congr r1 (fun a h1 h2 => hC a (by omega)) (fun a h1 h2 => hM a (by omega) (by omega)), ?_, ?_, ?_, ⟨?_, ?_⟩, ?_, fun j hj => ⟨?_, fun _ => h0⟩, ?_⟩
  · rw [hC 0 (by omega), hM 85 (by omega) (by omega)]; exact r2
  · exact TP_congr r3 (by rw [hC 13 (by omega)]) (hC 14 (by omega)) (by rw [hM 85 (by omega) (by omega)]) (hM 89 (by omega) (by omega))
  · rw [hC 13 (by omega), hM 85 (by omega) (by omega)]; exact r4
  · exact RT_congr r5.1 (fun a h1 h2 => hC a (by omega)) (hM 90 (by omega) (by omega))
  · rw [hM 85 (by omega) (by omega)]; exact r5.2
  · exact AC_congr r6 (by rw [hC 48 (by omega)]) (by rw [hC 48 (by omega)]) (fun a h1 h2 => hC a (by omega)) (by rw [hM 85 (by omega) (by omega)]) (hM 91 (by omega) (by omega)) (fun b _ _ => by rw [hM 90 (by omega) (by omega)])
  · by_cases z : j = k
    · subst z
      refine Or.inr ⟨zup_on, n, T, A, B, h0, ?_⟩
      exact RT_town2 r5.1 (by omega) (fun b hb => by rw [h92 j b hj hb, if_pos rfl])
    · have e93 : zup (zcpy M 90 92 0 (66 * k) 66) 93 k 1 93 j = M 93 j := by rw [zup_no (by omega), zcpy_no (by omega)]
      rcases (r7 j hj).1 with ⟨q1, q2⟩ | ⟨q1, n2, T2, A2, B2, hn2, hr2⟩
      · exact Or.inl ⟨by rw [e93]; exact q1, by rw [hC (32 + 8 * j) (by omega)]; exact q2⟩
      · refine Or.inr ⟨by rw [e93]; exact q1, n2, T2, A2, B2, hn2, RT_cg hr2 (fun a h1 h2 => hC a (by omega)) (fun b hb => ?_)⟩
        rw [h92 j b hj hb, if_neg z]
  · exact TR_congr r8 (by rw [hC 83 (by omega)]) (hC 84 (by omega)) (by rw [hM 85 (by omega) (by omega)]) (hM 94 (by omega) (by omega))
theorem r_img {C M : Nat → Nat → Int32} {n T : Nat} {A B : Nat → Nat} {nx kp L : Nat} (h : Rel2 C M n T A B nx kp L) (x : Int32) : (pImg C n x).1 = (mImg M x).1 ∧ Rel (pImg C n x).2 (mImg M x).2 := by
  unfold pImg mImg
  have h7 := h.2.2.2.2.1.2
  by_cases g : zlt x 2 = true
  · rw [if_pos g, if_pos g]
    by_cases h0 : 0 < n
    · have h85 : ¬ M 85 7 = 0 := by rw [h7, decide_eq_true h0]; decide
      rw [if_pos h0, if_neg h85]
      obtain ⟨k, hk, rfl⟩ := zlt_nI (by decide) g
      have hk2 : k = 0 ∨ k = 1 := by omega
      rcases hk2 with rfl | rfl
      · exact ⟨rfl, r_img1 h h0 (k := 0) (by omega)⟩
      · exact ⟨rfl, r_img1 h h0 (k := 1) (by omega)⟩
    · have h85 : M 85 7 = 0 := by rw [h7, decide_eq_false h0]; rfl
      rw [if_neg h0, if_pos h85]; exact ⟨rfl, n, T, A, B, nx, kp, L, h⟩
  · rw [if_neg g, if_neg g]; exact ⟨rfl, n, T, A, B, nx, kp, L, h⟩
/-- a new town in the place of the old: no act is kept -/
theorem Rel2_new {C M C' M' : Nat → Nat → Int32} {n T : Nat} {A B : Nat → Nat} {nx kp L n' T' L' : Nat} {A' B' : Nat → Nat} (h : Rel2 C M n T A B nx kp L) (hn : 0 < n') (hR : RT C' 15 (M' 90) n' T' A' B') (h7 : M' 85 7 = 1) (hTP : TP C' M' L') (hf : C' 13 3 = M' 85 6) (hC : ∀ a, (a < 13 ∨ (31 ≤ a ∧ a < 85)) → a ≠ 48 → C' a = C a) (h48 : C' 48 1 = C 48 1) (h482 : C' 48 2 = 0) (hM : ∀ a, 86 ≤ a → a ≠ 90 → a ≠ 95 → M' a = M a) (h3 : M' 85 3 = M 85 3) (h9 : M' 85 9 = 0) (h13 : M' 85 13 = M 85 13) : Rel C' M' := by
  obtain ⟨r1, r2, r3, r4, r5, r6, r7, r8⟩ := h
  refine ⟨n', T', A', B', nx, 0, L', RW_congr r1 (fun a h1 h2 => hC a (by omega) (by omega)) (fun a h1 h2 => hM a h1 (by omega) (by omega)), ?_, hTP, hf, ⟨hR, ?_⟩, ⟨r6.1, by omega, by rw [h48]; exact r6.2.2.1, h482, h9, fun j hj => by omega⟩, fun k hk => ⟨?_, fun _ => hn⟩, ?_⟩
  · rw [hC 0 (by omega) (by omega), h3]; exact r2
  · rw [h7, decide_eq_true hn]; rfl
  · exact IM_congr hk (r7 k hk).1 (fun a h1 h2 => hC a (by omega) (by omega)) (hM 92 (by omega) (by omega) (by omega)) (hM 93 (by omega) (by omega) (by omega))
  · exact TR_congr r8 (by rw [hC 83 (by omega) (by omega)]) (hC 84 (by omega) (by omega)) h13 (hM 94 (by omega) (by omega) (by omega))
theorem r_res1 {C M : Nat → Nat → Int32} {n T : Nat} {A B : Nat → Nat} {nx kp L : Nat} (h : Rel2 C M n T A B nx kp L) {k : Nat} (hk : k < 2) (h93 : M 93 k = 1) {n2 T2 : Nat} {A2 B2 : Nat → Nat} (hn2 : 1 ≤ n2) (hr2 : RT C (32 + 8 * k) (fun b => M 92 (66 * k + b)) n2 T2 A2 B2) : Rel (zup (ztown C 15 (32 + 8 * k)) 48 2 0) (zup (zcpy M 92 90 (66 * k) 0 66) 85 9 0) := by
  have h7 := h.2.2.2.2.1.2
  have h0 := (h.2.2.2.2.2.2.1 k hk).2 h93
  rw [decide_eq_true h0] at h7
  have hC : ∀ a, a < 15 ∨ 22 < a → a ≠ 48 → zup (ztown C 15 (32 + 8 * k)) 48 2 0 a = C a := fun a h1 h2 => funext (fun b => by rw [zup_no (by omega), ztown_ne (by omega)])
  have hM : ∀ a, a ≠ 85 → a ≠ 90 → zup (zcpy M 92 90 (66 * k) 0 66) 85 9 0 a = M a := fun a h1 h2 => funext (fun b => by rw [zup_no (by omega), zcpy_no h2])
  have h85 : ∀ y, y ≠ 9 → zup (zcpy M 92 90 (66 * k) 0 66) 85 9 0 85 y = M 85 y := fun y hy => by rw [zup_no (by omega), zcpy_no (by omega)]
  refine Rel2_new h hn2 (RT_cg (RT_town2 hr2 (s := 15) (by omega) (t' := fun b => M 92 (66 * k + b)) (fun _ _ => rfl)) (fun a h1 h2 => ?_) (fun b hb => ?_)) (by rw [h85 7 (by omega), h7]; rfl) (TP_congr h.2.2.1 (by rw [hC 13 (by omega) (by omega)]) (hC 14 (by omega) (by omega)) (h85 5 (by omega)) (hM 89 (by omega) (by omega))) (by rw [hC 13 (by omega) (by omega), h85 6 (by omega)]; exact h.2.2.2.1) (fun a h1 h2 => hC a (by omega) h2) ?_ zup_on (fun a h1 h2 h3 => hM a (by omega) h2) (h85 3 (by omega)) zup_on (h85 13 (by omega))
  · exact zup_other _ _ _ (by omega)
  · rw [zup_no (by omega)]
    unfold zcpy va_cpy
    rw [if_pos rfl, if_pos (by omega), Nat.sub_zero]
  · rw [zup_no (by omega), ztown_ne (by omega)]
theorem r_res {C M : Nat → Nat → Int32} {n T : Nat} {A B : Nat → Nat} {nx kp L : Nat} (h : Rel2 C M n T A B nx kp L) (x : Int32) : (pRes C x).1 = (mRes M x).1 ∧ Rel (pRes C x).2 (mRes M x).2 := by
  unfold pRes mRes
  by_cases g : zlt x 2 = true
  · rw [if_pos g, if_pos g]
    obtain ⟨k, hk, rfl⟩ := zlt_nI (by decide) g
    rw [nI_clamp (by omega)]
    have key : (C (32 + 8 * k) 3 = 0 ∧ M 93 k = 0) ∨ (¬ C (32 + 8 * k) 3 = 0 ∧ ¬ M 93 k = 0 ∧ Rel (zup (ztown C 15 (32 + 8 * k)) 48 2 0) (zup (zcpy M 92 90 (66 * k) 0 66) 85 9 0)) := by
      rcases (h.2.2.2.2.2.2.1 k hk).1 with ⟨q1, q2⟩ | ⟨q1, n2, T2, A2, B2, hn2, hr2⟩
      · exact Or.inl ⟨q2, q1⟩
      · refine Or.inr ⟨?_, by rw [q1]; decide, r_res1 h hk q1 hn2 hr2⟩
        rw [hr2.2.1.2.2.1.1]
        exact nI_ne0 hn2 (by have := hr2.1.1; omega)
    have hk2 : k = 0 ∨ k = 1 := by omega
    rcases hk2 with rfl | rfl
    · rw [if_pos (show nI 0 = 0 from rfl)]
      rcases key with ⟨q1, q2⟩ | ⟨q1, q2, q3⟩
      · rw [if_pos q1, if_pos q2]; exact ⟨rfl, n, T, A, B, nx, kp, L, h⟩
      · rw [if_neg q1, if_neg q2]; exact ⟨rfl, q3⟩
    · rw [if_neg (show ¬ nI 1 = 0 from by decide), if_neg (show ¬ nI 1 = 0 from by decide)]
      rcases key with ⟨q1, q2⟩ | ⟨q1, q2, q3⟩
      · rw [if_pos q1, if_pos q2]; exact ⟨rfl, n, T, A, B, nx, kp, L, h⟩
      · rw [if_neg q1, if_neg q2]; exact ⟨rfl, q3⟩
  · rw [if_neg g, if_neg g]; exact ⟨rfl, n, T, A, B, nx, kp, L, h⟩
-- ===== a call on both sides =====
def zStep (l : zL) (mc mm : zMd) (as : List Value) (I : Nat → Nat → Int32) (J : Nat → Nat → Int64) (nw : Bool) : Prop := zP l mc (.ref 0 :: as) (hh I J nw) (fun r h1 => ∃ v I2 J2 nw2, r = some (.int v) ∧ h1 = (I2, J2, RF nw2, SH) ∧ zP l mm (.ref 85 :: as) (hh I2 J2 nw2) (fun r h2 => r = some (.int v) ∧ ∃ I3 J3 nw3, h2 = (I3, J3, RF nw3, SH) ∧ Rel I3 I3))
theorem zPM_e {l : zL} {mm : zMd} {as : List Value} {h : zH} {P : Int32 × (Nat → Nat → Int32)} {J : Nat → Nat → Int64} {nw : Bool} (k : zP l mm as h (zPM P J nw)) : zP l mm as h (zPMe P J nw) := zMet.mono k (fun r h1 q => by
  obtain ⟨rfl, rfl⟩ := q
  exact ⟨rfl, _, rfl, fun _ _ _ => rfl⟩)
theorem step_of {l : zL} {mc mm : zMd} {as : List Value} {I : Nat → Nat → Int32} {J : Nat → Nat → Int64} {nw : Bool} {P : Int32 × (Nat → Nat → Int32)} {n T : Nat} {A B : Nat → Nat} {nx kp L : Nat} (h : Rel2 I I n T A B nx kp L) (hc : zP l mc (.ref 0 :: as) (hh I J nw) (zPub P)) (hP : ∀ a b, 85 ≤ a → P.2 a b = I a b) (Mf : (Nat → Nat → Int32) → Int32 × (Nat → Nat → Int32)) (hm : ∀ I2 J2 nw2, Rel2 I I2 n T A B nx kp L → zP l mm (.ref 85 :: as) (hh I2 J2 nw2) (zPMe (Mf I2) J2 nw2)) (hv : ∀ I2, Rel2 I I2 n T A B nx kp L → P.1 = (Mf I2).1 ∧ Rel P.2 (Mf I2).2) (hM : ∀ I2 a b, a < 85 → (Mf I2).2 a b = I2 a b) : zStep l mc mm as I J nw := by
  refine zMet.mono hc (fun r h1 q => ?_)
  obtain ⟨rfl, I2, J2, nw2, rfl, hE⟩ := q
  have hR2 : Rel2 I I2 n T A B nx kp L := Rel2_congr h (fun _ _ => rfl) (fun a h1 h2 => by rw [hE a (by omega) (by omega)]; exact funext (fun b => hP a b (by omega))) (fun y _ => by rw [hE 85 (by omega) (by omega)]; exact hP 85 y (by omega))
  obtain ⟨e1, n', T', A', B', nx', kp', L', e2⟩ := hv I2 hR2
  refine ⟨P.1, I2, J2, nw2, rfl, rfl, zMet.mono (hm I2 J2 nw2 hR2) (fun r h2 q => ?_)⟩
  obtain ⟨rfl, I3, rfl, hE3⟩ := q
  refine ⟨by rw [e1], I3, J2, nw2, rfl, n', T', A', B', nx', kp', L', Rel2_congr e2 (fun a ha => ?_) (fun a h1 h2 => ?_) (fun y hy => ?_)⟩
  · unfold zKC at ha
    funext b
    rw [hE3 a b (by omega), hM I2 a b (by omega), hE a (by omega) (by omega)]
  · funext b
    exact hE3 a b (by omega)
  · exact hE3 85 y (by omega)
