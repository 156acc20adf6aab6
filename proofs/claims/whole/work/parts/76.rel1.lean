-- ===== the relation between the class (cells below 85 of C) and the model (cells from 85 on of M) =====
def zPk (t : Nat → Int32) (n T : Nat) (A B : Nat → Nat) : Prop := n ≤ 6 ∧ t 3 = nI n ∧ T ≤ 10 ∧ t 4 = nI T ∧ (∀ k, k < T → t (24 + k) = nI (A k) ∧ A k < n) ∧ (∀ k, k < T → t (34 + k) = nI (B k) ∧ B k < n) ∧ ∀ d, d < n → ∃ k, 1 ≤ k ∧ k ≤ 5 ∧ t (6 + d) = nI k
/-- one cask: missing, or the same on both sides -/
def zCk (n : Nat) (c t : Nat → Int32) (i : Nat) : Prop := (c (1 + i) = 0 ∧ t (44 + i) = 0 ∧ t (48 + i) = 0 ∧ t (52 + i) = 0 ∧ t (56 + i) = 0) ∨ ∃ w, w < n ∧ c (1 + i) = nI (w + 1) ∧ t (44 + i) = 1 ∧ t (48 + i) = nI w ∧ t (52 + i) = c (5 + i) ∧ t (56 + i) = c (9 + i) ∧ ∃ q, q ≤ 20 ∧ c (5 + i) = nI q
def zRc (n : Nat) (c t : Nat → Int32) : Prop := c 0 = t 5 ∧ (∀ i, i < 4 → zCk n c t i) ∧ ∀ d, d < 6 → c (13 + d) = t (60 + d) ∧ ∃ z, z < 64 ∧ c (13 + d) = nI z
def RT (C : Nat → Nat → Int32) (u : Nat) (t : Nat → Int32) (n T : Nat) (A B : Nat → Nat) : Prop := zPk t n T A B ∧ zTv C u t n T ∧ zRc n (C (u + 7)) t
def RW (C M : Nat → Nat → Int32) : Prop := ∀ r, r < 8 → C 11 r = M 86 r ∧ C 12 r = M 87 r ∧ (C 12 r = -1 ∨ ∃ q, q ≤ 40 ∧ C 12 r = nI q) ∧ ∀ j, j < 40 → C (3 + r) j = M 88 (40 * r + j)
def TP (C M : Nat → Nat → Int32) (L : Nat) : Prop := L ≤ 120 ∧ C 13 1 = nI L ∧ M 85 5 = nI L ∧ ∀ i, i < L → C 14 i = M 89 i ∧ ∃ q, q < 256 ∧ C 14 i = nI q
def AC (C M : Nat → Nat → Int32) (n nx kp : Nat) : Prop := nx < 24 ∧ kp ≤ 24 ∧ C 48 1 = nI nx ∧ C 48 2 = nI kp ∧ M 85 9 = nI kp ∧ ∀ j, j < kp → zRc n (C (50 + (nx + 24 - kp + j) % 24)) (fun b => M 91 (66 * j + b)) ∧ ∀ b, b < 44 → b ≠ 5 → M 91 (66 * j + b) = M 90 b
def IM (C M : Nat → Nat → Int32) (k : Nat) : Prop := (M 93 k = 0 ∧ C (32 + 8 * k) 3 = 0) ∨ (M 93 k = 1 ∧ ∃ n T A B, 1 ≤ n ∧ RT C (32 + 8 * k) (fun b => M 92 (66 * k + b)) n T A B)
def TR (C M : Nat → Nat → Int32) : Prop := ∃ c, c ≤ 16 ∧ C 83 2 = nI c ∧ M 85 13 = nI c ∧ ∀ i, i < c → C 84 i = M 94 i
def Rel2 (C M : Nat → Nat → Int32) (n T : Nat) (A B : Nat → Nat) (nx kp L : Nat) : Prop := RW C M ∧ C 0 9 = M 85 3 ∧ TP C M L ∧ C 13 3 = M 85 6 ∧ (RT C 15 (M 90) n T A B ∧ M 85 7 = zbb (decide (0 < n))) ∧ AC C M n nx kp ∧ (∀ k, k < 2 → IM C M k ∧ (M 93 k = 1 → 0 < n)) ∧ TR C M
theorem RW_congr {C M C' M' : Nat → Nat → Int32} (h : RW C M) (hC : ∀ a, 3 ≤ a → a ≤ 12 → C' a = C a) (hM : ∀ a, 86 ≤ a → a ≤ 88 → M' a = M a) : RW C' M' := by
  intro r hr
  rw [hC 11 (by omega) (by omega), hC 12 (by omega) (by omega), hC (3 + r) (by omega) (by omega), hM 86 (by omega) (by omega), hM 87 (by omega) (by omega), hM 88 (by omega) (by omega)]
  exact h r hr
theorem TP_congr {C M C' M' : Nat → Nat → Int32} {L : Nat} (h : TP C M L) (h1 : C' 13 1 = C 13 1) (h2 : C' 14 = C 14) (h3 : M' 85 5 = M 85 5) (h4 : M' 89 = M 89) : TP C' M' L := by
  unfold TP; rw [h1, h2, h3, h4]; exact h
theorem RT_congr {C C' : Nat → Nat → Int32} {u n T : Nat} {t t' : Nat → Int32} {A B : Nat → Nat} (h : RT C u t n T A B) (hC : ∀ a, u ≤ a → a ≤ u + 7 → C' a = C a) (ht : t' = t) : RT C' u t' n T A B := by
  subst ht
  unfold RT zTv
  rw [hC u (by omega) (by omega), hC (u + 1) (by omega) (by omega), hC (u + 2) (by omega) (by omega), hC (u + 3) (by omega) (by omega), hC (u + 4) (by omega) (by omega), hC (u + 5) (by omega) (by omega), hC (u + 7) (by omega) (by omega)]
  exact h
theorem AC_congr {C M C' M' : Nat → Nat → Int32} {n nx kp : Nat} (h : AC C M n nx kp) (h1 : C' 48 1 = C 48 1) (h2 : C' 48 2 = C 48 2) (h3 : ∀ a, 50 ≤ a → a < 74 → C' a = C a) (h4 : M' 85 9 = M 85 9) (h5 : M' 91 = M 91) (h6 : ∀ b, b < 44 → b ≠ 5 → M' 90 b = M 90 b) : AC C' M' n nx kp := by
  obtain ⟨a1, a2, a3, a4, a5, a6⟩ := h
  refine ⟨a1, a2, by rw [h1]; exact a3, by rw [h2]; exact a4, by rw [h4]; exact a5, fun j hj => ⟨?_, fun b hb hb2 => ?_⟩⟩
  · rw [h3 _ (by omega) (by omega), h5]; exact (a6 j hj).1
  · rw [h5, h6 b hb hb2]; exact (a6 j hj).2 b hb hb2
theorem IM_congr {C M C' M' : Nat → Nat → Int32} {k : Nat} (hk : k < 2) (h : IM C M k) (hC : ∀ a, 32 ≤ a → a < 48 → C' a = C a) (h2 : M' 92 = M 92) (h3 : M' 93 = M 93) : IM C' M' k := by
  unfold IM
  rw [h2, h3, hC (32 + 8 * k) (by omega) (by omega)]
  rcases h with h | ⟨h, n, T, A, B, hn, hr⟩
  · exact Or.inl h
  · exact Or.inr ⟨h, n, T, A, B, hn, RT_congr hr (fun a h1 h2 => hC a (by omega) (by omega)) rfl⟩
theorem TR_congr {C M C' M' : Nat → Nat → Int32} (h : TR C M) (h1 : C' 83 2 = C 83 2) (h2 : C' 84 = C 84) (h3 : M' 85 13 = M 85 13) (h4 : M' 94 = M 94) : TR C' M' := by
  unfold TR; rw [h1, h2, h3, h4]; exact h
/-- the cells that the relation speaks of -/
def zKC (x : Nat) : Prop := x < 23 ∨ (31 ≤ x ∧ x < 74) ∨ x = 83 ∨ x = 84
theorem Rel2_congr {C M C' M' : Nat → Nat → Int32} {n T : Nat} {A B : Nat → Nat} {nx kp L : Nat} (h : Rel2 C M n T A B nx kp L) (hC : ∀ a, zKC a → C' a = C a) (hM : ∀ a, 86 ≤ a → a < 95 → M' a = M a) (h85 : ∀ y, y < 15 → M' 85 y = M 85 y) : Rel2 C' M' n T A B nx kp L := by
  obtain ⟨r1, r2, r3, r4, r5, r6, r7, r8⟩ := h
  refine ⟨RW_congr r1 (fun a h1 h2 => hC a (by unfold zKC; omega)) (fun a h1 h2 => hM a h1 (by omega)), ?_, ?_, ?_, ⟨?_, ?_⟩, ?_, fun k hk => ?_, ?_⟩
  · rw [hC 0 (by unfold zKC; omega), h85 3 (by omega)]; exact r2
  · exact TP_congr r3 (by rw [hC 13 (by unfold zKC; omega)]) (hC 14 (by unfold zKC; omega)) (h85 5 (by omega)) (hM 89 (by omega) (by omega))
  · rw [hC 13 (by unfold zKC; omega), h85 6 (by omega)]; exact r4
  · exact RT_congr r5.1 (fun a h1 h2 => hC a (by unfold zKC; omega)) (hM 90 (by omega) (by omega))
  · rw [h85 7 (by omega)]; exact r5.2
  · exact AC_congr r6 (by rw [hC 48 (by unfold zKC; omega)]) (by rw [hC 48 (by unfold zKC; omega)]) (fun a h1 h2 => hC a (by unfold zKC; omega)) (h85 9 (by omega)) (hM 91 (by omega) (by omega)) (fun b _ _ => by rw [hM 90 (by omega) (by omega)])
  · exact ⟨IM_congr hk (r7 k hk).1 (fun a h1 h2 => hC a (by unfold zKC; omega)) (hM 92 (by omega) (by omega)) (hM 93 (by omega) (by omega)), by rw [hM 93 (by omega) (by omega)]; exact (r7 k hk).2⟩
  · exact TR_congr r8 (by rw [hC 83 (by unfold zKC; omega)]) (hC 84 (by unfold zKC; omega)) (h85 13 (by omega)) (hM 94 (by omega) (by omega))
theorem Rel2_status {C M : Nat → Nat → Int32} {n T : Nat} {A B : Nat → Nat} {nx kp L : Nat} {s : Int32} (h : Rel2 C M n T A B nx kp L) : Rel2 (zup C 0 9 s) (zup M 85 3 s) n T A B nx kp L := by
  obtain ⟨r1, r2, r3, r4, r5, r6, r7, r8⟩ := h
  have hC : ∀ a, 0 < a → zup C 0 9 s a = C a := fun a ha => zup_other _ _ _ (by omega)
  have hM : ∀ a, 85 < a → zup M 85 3 s a = M a := fun a ha => zup_other _ _ _ (by omega)
  have h85 : ∀ y, y ≠ 3 → zup M 85 3 s 85 y = M 85 y := fun y hy => zup_no (Or.inr hy)
  refine ⟨RW_congr r1 (fun a h1 h2 => hC a (by omega)) (fun a h1 h2 => hM a (by omega)), ?_, ?_, ?_, ⟨?_, ?_⟩, ?_, fun k hk => ?_, ?_⟩
  · rw [zup_on, zup_on]
  · exact TP_congr r3 (by rw [hC 13 (by omega)]) (hC 14 (by omega)) (h85 5 (by omega)) (hM 89 (by omega))
  · rw [hC 13 (by omega), h85 6 (by omega)]; exact r4
  · exact RT_congr r5.1 (fun a h1 h2 => hC a (by omega)) (hM 90 (by omega))
  · rw [h85 7 (by omega)]; exact r5.2
  · exact AC_congr r6 (by rw [hC 48 (by omega)]) (by rw [hC 48 (by omega)]) (fun a h1 h2 => hC a (by omega)) (h85 9 (by omega)) (hM 91 (by omega)) (fun b _ _ => by rw [hM 90 (by omega)])
  · exact ⟨IM_congr hk (r7 k hk).1 (fun a h1 h2 => hC a (by omega)) (hM 92 (by omega)) (hM 93 (by omega)), by rw [hM 93 (by omega)]; exact (r7 k hk).2⟩
  · exact TR_congr r8 (by rw [hC 83 (by omega)]) (hC 84 (by omega)) (h85 13 (by omega)) (hM 94 (by omega))
-- what the contracts want
theorem RT_town {C : Nat → Nat → Int32} {t : Nat → Int32} {n T : Nat} {A B : Nat → Nat} (h : RT C 15 t n T A B) : zTown C n T A B := by
  obtain ⟨⟨p1, p2, p3, p4, p5, p6, p7⟩, ⟨-, -, ⟨v3, v7⟩, v4, v5⟩, -⟩ := h
  refine ⟨p1, v3, p3, v7, fun k hk => ⟨?_, (p5 k hk).2⟩, fun k hk => ⟨?_, (p6 k hk).2⟩, fun d hd => ?_⟩
  · rw [show C 19 k = t (24 + k) from (v5 k hk).1]; exact (p5 k hk).1
  · rw [show C 20 k = t (34 + k) from (v5 k hk).2]; exact (p6 k hk).1
  · rw [show C 16 d = t (6 + d) from (v4 d hd).1]; exact p7 d hd
theorem RT_rt {C M : Nat → Nat → Int32} {u n T : Nat} {A B : Nat → Nat} (h : RT C u (M 90) n T A B) : zRT M 90 n T A B := h.1
theorem zRc_wh {n : Nat} {c t : Nat → Int32} (h : zRc n c t) : ∀ i, i < 4 → c (1 + i) = 0 ∨ ∃ w, w < n ∧ c (1 + i) = nI (w + 1) := by
  intro i hi
  rcases h.2.1 i hi with z | ⟨w, hw, e, -⟩
  · exact Or.inl z.1
  · exact Or.inr ⟨w, hw, e⟩
theorem zRc_th {n : Nat} {c t : Nat → Int32} (h : zRc n c t) {i : Nat} (hi : i < 4) (hn : n ≤ 6) : t (44 + i) = 0 ↔ c (1 + i) = 0 := by
  rcases h.2.1 i hi with z | ⟨w, hw, e, e2, -⟩
  · exact ⟨fun _ => z.1, fun _ => z.2.1⟩
  · rw [e, e2]
    exact ⟨fun q => absurd q (by decide), fun q => absurd q (nI_ne0 (by omega) (by omega))⟩
theorem zRc_is {n : Nat} {c t : Nat → Int32} (h : zRc n c t) {i : Nat} (hi : i < 4) (hc : ¬ c (1 + i) = 0) : ∃ w, w < n ∧ c (1 + i) = nI (w + 1) ∧ t (44 + i) = 1 ∧ t (48 + i) = nI w ∧ t (52 + i) = c (5 + i) ∧ t (56 + i) = c (9 + i) ∧ ∃ q, q ≤ 20 ∧ c (5 + i) = nI q := by
  rcases h.2.1 i hi with z | z
  · exact absurd z.1 hc
  · exact z
theorem zRc_malt {n : Nat} {c t : Nat → Int32} (h : zRc n c t) {i : Nat} (hi : i < 4) : ∃ q, q ≤ 20 ∧ t (52 + i) = nI q := by
  rcases h.2.1 i hi with z | ⟨w, hw, e, e2, e3, e4, e5, q, hq, e6⟩
  · exact ⟨0, by omega, z.2.2.2.1⟩
  · exact ⟨q, hq, e4.trans e6⟩
theorem zRc_zst {n : Nat} {c t : Nat → Int32} (h : zRc n c t) {i : Nat} (hi : i < 4) (o k g : Int32) : -1000 < zst o k (t (52 + i)) g := by
  obtain ⟨q, hq, e⟩ := zRc_malt h hi
  rw [e]; exact zst_malt hq _ _ _
theorem zRc_u {n : Nat} {c t : Nat → Int32} (h : zRc n c t) (hn : n ≤ 6) {i : Nat} (hi : i < 4) (ht : ¬ t (44 + i) = 0) : ∃ u, u < 6 ∧ t (48 + i) = nI u := by
  obtain ⟨w, hw, e, e2, e3, -⟩ := zRc_is h hi (fun z => ht ((zRc_th h hi hn).mpr z))
  exact ⟨w, by omega, e3⟩
/-- the town is the same for a saying -/
theorem RT_TA {C M : Nat → Nat → Int32} {n T : Nat} {A B : Nat → Nat} (h : RT C 15 (M 90) n T A B) (w : Nat → Bool) (wh : Int32) : zTA (zTe C (C 16) n T A B w wh) (zmT M 90 n T A B w wh) := by
  obtain ⟨-, ⟨-, -, -, v4, -⟩, -⟩ := h
  refine ⟨rfl, rfl, fun d hd => ?_⟩
  have hd : d < n := hd
  refine ⟨(v4 d hd).1, (v4 d hd).2.1, (v4 d hd).2.2, fun e => ?_⟩
  show (if C 16 d = 5 then _ else _) = (if M 90 (6 + d) = 5 then _ else _)
  rw [show C 16 d = M 90 (6 + d) from (v4 d hd).1]
theorem RT_TAk {C M : Nat → Nat → Int32} {n T : Nat} {A B : Nat → Nat} (h : RT C 15 (M 90) n T A B) {k1 k2 : Nat → Int32} (hk : ∀ d, d < n → k1 d = k2 d) (wh : Int32) : zTA (zTe C k1 n T A B (fun _ => false) wh) (zmTk M k2 n T A B wh) := by
  obtain ⟨-, ⟨-, -, -, v4, -⟩, -⟩ := h
  refine ⟨rfl, rfl, fun d hd => ?_⟩
  have hd : d < n := hd
  refine ⟨hk d hd, (v4 d hd).2.1, (v4 d hd).2.2, fun e => ?_⟩
  show (if k1 d = 5 then _ else _) = (if k2 d = 5 then _ else _)
  rw [hk d hd]
theorem RT_law {C : Nat → Nat → Int32} {t : Nat → Int32} {n T : Nat} {A B : Nat → Nat} (h : RT C 15 t n T A B) : C 15 0 = t 0 ∧ C 15 1 = t 1 ∧ C 15 2 = t 2 := h.2.1.2.1
theorem RT_sc {C M : Nat → Nat → Int32} {n T : Nat} {A B : Nat → Nat} (h : RT C 15 (M 90) n T A B) {i : Nat} (hi : i < 4) (hc : ¬ C 22 (1 + i) = 0) : zst (M 90 0) (M 90 1) (M 90 (52 + i)) (M 90 (56 + i)) = zsc C i ∧ M 90 (48 + i) = C 22 (1 + i) - 1 := by
  obtain ⟨w, hw, e, e2, e3, e4, e5, -⟩ := zRc_is h.2.2 hi hc
  unfold zsc
  rw [(RT_law h).1, (RT_law h).2.1, e4, e5, e3, show C 22 (1 + i) = nI (w + 1) from e, nI_pred]
  exact ⟨rfl, rfl⟩
theorem RT_go {C M : Nat → Nat → Int32} {n T : Nat} {A B : Nat → Nat} (h : RT C 15 (M 90) n T A B) {i : Nat} (hi : i < 4) (hc : ¬ C 22 (1 + i) = 0) (w sm : Nat → Bool) : zgW M n T A B i w sm = zgo (ztE C n T A B w i) sm (zsc C i) := by
  unfold zgW ztE
  rw [(RT_sc h hi hc).1, (RT_sc h hi hc).2, zgo_congr (RT_TA h w _)]
theorem RT_goK {C M : Nat → Nat → Int32} {n T : Nat} {A B : Nat → Nat} (h : RT C 15 (M 90) n T A B) {i : Nat} (hi : i < 4) (hc : ¬ C 22 (1 + i) = 0) (sm : Nat → Bool) : zgK M 90 n T A B i sm = zgo (ztE C n T A B (fun _ => false) i) sm (zsc C i) := RT_go h hi hc _ sm
