-- ===== acts =====
theorem zRc_congr {n : Nat} {c c' t t' : Nat → Int32} (h : zRc n c t) (hc : ∀ b, b < 19 → c' b = c b) (ht : ∀ b, b < 66 → t' b = t b) : zRc n c' t' := by
  refine ⟨by rw [hc 0 (by omega), ht 5 (by omega)]; exact h.1, fun i hi => ?_, fun d hd => ?_⟩
  · unfold zCk
    rw [hc (1 + i) (by omega), hc (5 + i) (by omega), hc (9 + i) (by omega), ht (44 + i) (by omega), ht (48 + i) (by omega), ht (52 + i) (by omega), ht (56 + i) (by omega)]
    exact h.2.1 i hi
  · rw [hc (13 + d) (by omega), ht (60 + d) (by omega)]; exact h.2.2 d hd
theorem pKeep_48 (C : Nat → Nat → Int32) (nx kp : Nat) : pKeep C nx kp 48 1 = nI ((nx + 1) % 24) ∧ pKeep C nx kp 48 2 = nI (min 24 (kp + 1)) := pKeep_nx C nx kp
theorem pKeep_ring {C : Nat → Nat → Int32} {nx kp r : Nat} (hn : nx < 24) (hr : r < 24) : ∀ b, b < 19 → pKeep C nx kp (50 + r) b = if r = nx then C 22 b else C (50 + r) b := by
  intro b hb
  unfold pKeep
  rw [zup_no (by omega), zup_no (by omega)]
  by_cases z : r = nx
  · subst z; rw [if_pos rfl, zcpy_at hb]
  · rw [if_neg z, zcpy_no (by omega)]
theorem zrem_85 (M : Nat → Nat → Int32) {c y : Nat} (hy : y ≠ 9) : zrem M c 85 y = M 85 y := by
  unfold zrem
  by_cases h : c = 24
  · rw [if_pos h, zup_no (by omega), zcpy_no (by omega), zup_no (by omega), zrow_ne _ _ _ (by omega)]
  · rw [if_neg h, zup_no (by omega), zcpy_no (by omega)]
theorem zrem_ne (M : Nat → Nat → Int32) {c a : Nat} (h1 : a ≠ 85) (h2 : a ≠ 91) : zrem M c a = M a := by
  funext y
  unfold zrem
  by_cases h : c = 24
  · rw [if_pos h, zup_no (by omega), zcpy_no (by omega), zup_no (by omega), zrow_ne _ _ _ (by omega)]
  · rw [if_neg h, zup_no (by omega), zcpy_no (by omega)]
theorem zrem_91 (M : Nat → Nat → Int32) {c j b : Nat} (hc : c ≤ 24) (hj : j < min 24 (c + 1)) (hb : b < 66) : zrem M c 91 (66 * j + b) = if j = min 24 (c + 1) - 1 then M 90 b else if c = 24 then M 91 (66 * (j + 1) + b) else M 91 (66 * j + b) := by
  unfold zrem
  by_cases h : c = 24
  · subst h
    rw [if_pos rfl, if_pos rfl, zup_no (by omega)]
    unfold zcpy va_cpy
    rw [if_pos rfl]
    by_cases z : j = min 24 (24 + 1) - 1
    · rw [if_pos z, if_pos (by omega), zup_no (by omega), zrow_ne _ _ _ (by omega), show 0 + (66 * j + b - 1518) = b by omega]
    · rw [if_neg z, if_neg (by omega), zup_no (by omega), zrow_at]
      unfold zshf
      rw [if_pos (by omega), show 66 * j + b + 66 = 66 * (j + 1) + b by omega]
  · rw [if_neg h, if_neg h, zup_no (by omega)]
    unfold zcpy va_cpy
    rw [if_pos rfl]
    by_cases z : j = min 24 (c + 1) - 1
    · rw [if_pos z, if_pos (by omega), show 0 + (66 * j + b - 66 * c) = b by omega]
    · rw [if_neg z, if_neg (by omega)]
theorem AC_keep {C M : Nat → Nat → Int32} {n nx kp : Nat} (h : AC C M n nx kp) (hr : zRc n (C 22) (M 90)) : AC (pKeep C nx kp) (zrem M kp) n ((nx + 1) % 24) (min 24 (kp + 1)) := by
  obtain ⟨a1, a2, a3, a4, a5, a6⟩ := h
  refine ⟨by omega, by omega, (pKeep_48 C nx kp).1, (pKeep_48 C nx kp).2, zrem_9 M a2, fun j hj => ⟨?_, fun b hb hb2 => ?_⟩⟩
  · have hk := pKeep_ring (C := C) (kp := kp) a1 (r := ((nx + 1) % 24 + 24 - min 24 (kp + 1) + j) % 24) (by omega)
    by_cases z : j = min 24 (kp + 1) - 1
    · have hix : ((nx + 1) % 24 + 24 - min 24 (kp + 1) + j) % 24 = nx := by omega
      refine zRc_congr hr (fun b hb => ?_) (fun b hb => ?_)
      · rw [hk b hb, if_pos hix]
      · rw [zrem_91 M a2 hj hb, if_pos z]
    · have hix : ¬ ((nx + 1) % 24 + 24 - min 24 (kp + 1) + j) % 24 = nx := by omega
      by_cases y : kp = 24
      · refine zRc_congr (a6 (j + 1) (by omega)).1 (fun b hb => ?_) (fun b hb => ?_)
        · rw [hk b hb, if_neg hix, show ((nx + 1) % 24 + 24 - min 24 (kp + 1) + j) % 24 = (nx + 24 - kp + (j + 1)) % 24 by omega]
        · rw [zrem_91 M a2 hj hb, if_neg z, if_pos y]
      · refine zRc_congr (a6 j (by omega)).1 (fun b hb => ?_) (fun b hb => ?_)
        · rw [hk b hb, if_neg hix, show ((nx + 1) % 24 + 24 - min 24 (kp + 1) + j) % 24 = (nx + 24 - kp + j) % 24 by omega]
        · rw [zrem_91 M a2 hj hb, if_neg z, if_neg y]
  · rw [zrem_91 M a2 hj (by omega), zrem_90]
    by_cases z : j = min 24 (kp + 1) - 1
    · rw [if_pos z]
    · rw [if_neg z]
      by_cases y : kp = 24
      · rw [if_pos y]; exact (a6 (j + 1) (by omega)).2 b hb hb2
      · rw [if_neg y]; exact (a6 j (by omega)).2 b hb hb2
theorem Rel2_act {C M C' M' : Nat → Nat → Int32} {n T : Nat} {A B : Nat → Nat} {nx kp L nx' kp' : Nat} (h : Rel2 C M n T A B nx kp L) (hA : AC C' M' n nx' kp') (hR : zRc n (C' 22) (M' 90)) (hst : ∀ b, b < 44 → b ≠ 5 → M' 90 b = M 90 b) (hC : ∀ a, a ≠ 22 → a ≠ 48 → (a < 50 ∨ 74 ≤ a) → C' a = C a) (hM : ∀ a, a ≠ 85 → a ≠ 90 → a ≠ 91 → M' a = M a) (h85 : ∀ y, y ≠ 9 → M' 85 y = M 85 y) : Rel2 C' M' n T A B nx' kp' L := by
  obtain ⟨r1, r2, r3, r4, r5, r6, r7, r8⟩ := h
  refine ⟨RW_congr r1 (fun a h1 h2 => hC a (by omega) (by omega) (by omega)) (fun a h1 h2 => hM a (by omega) (by omega) (by omega)), ?_, ?_, ?_, ⟨⟨?_, ?_, hR⟩, ?_⟩, hA, fun k hk => ?_, ?_⟩
  · rw [hC 0 (by omega) (by omega) (by omega), h85 3 (by omega)]; exact r2
  · exact TP_congr r3 (by rw [hC 13 (by omega) (by omega) (by omega)]) (hC 14 (by omega) (by omega) (by omega)) (h85 5 (by omega)) (hM 89 (by omega) (by omega) (by omega))
  · rw [hC 13 (by omega) (by omega) (by omega), h85 6 (by omega)]; exact r4
  · obtain ⟨p1, p2, p3, p4, p5, p6, p7⟩ := r5.1.1
    refine ⟨p1, by rw [hst 3 (by omega) (by omega)]; exact p2, p3, by rw [hst 4 (by omega) (by omega)]; exact p4, fun k q => ?_, fun k q => ?_, fun d q => ?_⟩
    · rw [hst (24 + k) (by omega) (by omega)]; exact p5 k q
    · rw [hst (34 + k) (by omega) (by omega)]; exact p6 k q
    · rw [hst (6 + d) (by omega) (by omega)]; exact p7 d q
  · obtain ⟨v1, ⟨v20, v21, v22⟩, v3, v4, v5⟩ := r5.1.2.1
    refine ⟨v1, ?_, ?_, fun d hd => ?_, fun k hk => ?_⟩
    · rw [hC 15 (by omega) (by omega) (by omega), hst 0 (by omega) (by omega), hst 1 (by omega) (by omega), hst 2 (by omega) (by omega)]; exact ⟨v20, v21, v22⟩
    · rw [hC 15 (by omega) (by omega) (by omega)]; exact v3
    · rw [hC (15 + 1) (by omega) (by omega) (by omega), hC (15 + 2) (by omega) (by omega) (by omega), hC (15 + 3) (by omega) (by omega) (by omega), hst (6 + d) (by omega) (by omega), hst (12 + d) (by omega) (by omega), hst (18 + d) (by omega) (by omega)]; exact v4 d hd
    · rw [hC (15 + 4) (by omega) (by omega) (by omega), hC (15 + 5) (by omega) (by omega) (by omega), hst (24 + k) (by omega) (by omega), hst (34 + k) (by omega) (by omega)]; exact v5 k hk
  · rw [h85 7 (by omega)]; exact r5.2
  · exact ⟨IM_congr hk (r7 k hk).1 (fun a h1 h2 => hC a (by omega) (by omega) (by omega)) (hM 92 (by omega) (by omega) (by omega)) (hM 93 (by omega) (by omega) (by omega)), by rw [hM 93 (by omega) (by omega) (by omega)]; exact (r7 k hk).2⟩
  · exact TR_congr r8 (by rw [hC 83 (by omega) (by omega) (by omega)]) (hC 84 (by omega) (by omega) (by omega)) (h85 13 (by omega)) (hM 94 (by omega) (by omega) (by omega))
/-- an act: the cellars are kept, then changed in the casks alone -/
theorem Rel2_kept {C M C' M' : Nat → Nat → Int32} {n T : Nat} {A B : Nat → Nat} {nx kp L : Nat} (h : Rel2 C M n T A B nx kp L) (hR : zRc n (C' 22) (M' 90)) (hst : ∀ b, b < 44 → b ≠ 5 → M' 90 b = M 90 b) (hC : ∀ a, a ≠ 22 → C' a = pKeep C nx kp a) (hM : ∀ a, a ≠ 90 → M' a = zrem M kp a) : Rel2 C' M' n T A B ((nx + 1) % 24) (min 24 (kp + 1)) L := by
  have hAC := h.2.2.2.2.2.1
  refine Rel2_act h (AC_congr (AC_keep hAC h.2.2.2.2.1.1.2.2) (by rw [hC 48 (by omega)]) (by rw [hC 48 (by omega)]) (fun a h1 h2 => hC a (by omega)) (by rw [hM 85 (by omega)]) (hM 91 (by omega)) (fun b h1 h2 => by rw [hst b h1 h2, zrem_90])) hR hst (fun a h1 h2 h3 => ?_) (fun a h1 h2 h3 => ?_) (fun y hy => ?_)
  · rw [hC a h1, pKeep_ne C hAC.1 h2 h3]
  · rw [hM a h2, zrem_ne M h1 h3]
  · rw [hM 85 (by omega), zrem_85 M hy]
theorem pKeep_22 {C : Nat → Nat → Int32} {nx kp : Nat} (h : nx < 24) : pKeep C nx kp 22 = C 22 := pKeep_ne C h (by omega) (by omega)
theorem half20 : ∀ q, q ≤ 20 → nI q / 2 = nI (q / 2) := by decide +kernel
theorem r_water {C M : Nat → Nat → Int32} {n T : Nat} {A B : Nat → Nat} {nx kp L : Nat} (h : Rel2 C M n T A B nx kp L) (x : Int32) : (pWater C nx kp x).1 = (mWater M kp x).1 ∧ Rel (pWater C nx kp x).2 (mWater M kp x).2 := by
  unfold pWater mWater
  have hRT := h.2.2.2.2.1.1
  have hAC := h.2.2.2.2.2.1
  by_cases g : zlt x 4 = true
  · rw [if_pos g, if_pos g]
    obtain ⟨i, hi, rfl⟩ := zlt_nI (by decide) g
    rw [nI_clamp (n := i) (by omega)]
    by_cases c : C 22 (1 + i) = 0
    · rw [if_pos c, if_pos ((zRc_th hRT.2.2 hi hRT.1.1).mpr c)]; exact ⟨rfl, n, T, A, B, nx, kp, L, h⟩
    · rw [if_neg c, if_neg (fun z => c ((zRc_th hRT.2.2 hi hRT.1.1).mp z)), zrem_90]
      obtain ⟨w, hw, e1, e2, e3, e4, e5, q, hq, e6⟩ := zRc_is hRT.2.2 hi c
      have e4' : M 90 (52 + i) = C 22 (5 + i) := e4
      have e6' : C 22 (5 + i) = nI q := e6
      rw [e4', e6', half20 q hq]
      refine ⟨rfl, n, T, A, B, _, _, L, Rel2_kept h ?_ (fun b h1 h2 => ?_) (fun a ha => ?_) (fun a ha => ?_)⟩
      · dsimp only
        rw [zup_row, zup_row, pKeep_22 hAC.1, zrem_90]
        refine ⟨?_, fun j hj => ?_, fun d hd => ?_⟩
        · rw [pk_un (by omega), pk_un (by omega)]; exact hRT.2.2.1
        · by_cases z : j = i
          · subst z
            refine Or.inr ⟨w, hw, ?_, ?_, ?_, ?_, ?_, q / 2, by omega, ?_⟩
            · rw [pk_un (by omega)]; exact e1
            · rw [pk_un (by omega)]; exact e2
            · rw [pk_un (by omega)]; exact e3
            · rw [pk_us, pk_us]
            · rw [pk_un (by omega), pk_un (by omega)]; exact e5
            · rw [pk_us]
          · unfold zCk
            rw [pk_un (by omega), pk_un (by omega), pk_un (by omega), pk_un (by omega), pk_un (by omega), pk_un (by omega), pk_un (by omega)]
            exact hRT.2.2.2.1 j hj
        · rw [pk_un (by omega), pk_un (by omega)]; exact hRT.2.2.2.2 d hd
      · show zup (zrem M kp) 90 (52 + i) (nI (q / 2)) 90 b = M 90 b
        rw [zup_no (by omega), zrem_90]
      · exact zup_other _ _ _ ha
      · exact zup_other _ _ _ ha
  · rw [if_neg g, if_neg g]; exact ⟨rfl, n, T, A, B, nx, kp, L, h⟩
theorem zRc_brew {n : Nat} {c t : Nat → Int32} (h : zRc n c t) {i w q : Nat} (hi : i < 4) (hw : w < n) (hq : q ≤ 20) : zRc n (upd (upd (upd c (1 + i) (nI (w + 1))) (5 + i) (nI q)) (9 + i) 0) (upd (upd (upd (upd t (44 + i) 1) (48 + i) (nI w)) (52 + i) (nI q)) (56 + i) 0) := by
  refine ⟨?_, fun j hj => ?_, fun d hd => ?_⟩
  · rw [pk_un (by omega), pk_un (by omega), pk_un (by omega), pk_un (by omega), pk_un (by omega), pk_un (by omega), pk_un (by omega)]; exact h.1
  · by_cases z : j = i
    · subst z
      refine Or.inr ⟨w, hw, ?_, ?_, ?_, ?_, ?_, q, hq, ?_⟩
      · rw [pk_un (by omega), pk_un (by omega), pk_us]
      · rw [pk_un (by omega), pk_un (by omega), pk_un (by omega), pk_us]
      · rw [pk_un (by omega), pk_un (by omega), pk_us]
      · rw [pk_un (by omega), pk_us, pk_un (by omega), pk_us]
      · rw [pk_us, pk_us]
      · rw [pk_un (by omega), pk_us]
    · have e1 : ∀ b, b < 13 → b ≠ 1 + i → b ≠ 5 + i → b ≠ 9 + i → upd (upd (upd c (1 + i) (nI (w + 1))) (5 + i) (nI q)) (9 + i) 0 b = c b := fun b _ h1 h2 h3 => by rw [pk_un h3, pk_un h2, pk_un h1]
      have e2 : ∀ b, b ≠ 44 + i → b ≠ 48 + i → b ≠ 52 + i → b ≠ 56 + i → upd (upd (upd (upd t (44 + i) 1) (48 + i) (nI w)) (52 + i) (nI q)) (56 + i) 0 b = t b := fun b h1 h2 h3 h4 => by rw [pk_un h4, pk_un h3, pk_un h2, pk_un h1]
      unfold zCk
      rw [e1 (1 + j) (by omega) (by omega) (by omega) (by omega), e1 (5 + j) (by omega) (by omega) (by omega) (by omega), e1 (9 + j) (by omega) (by omega) (by omega) (by omega), e2 (44 + j) (by omega) (by omega) (by omega) (by omega), e2 (48 + j) (by omega) (by omega) (by omega) (by omega), e2 (52 + j) (by omega) (by omega) (by omega) (by omega), e2 (56 + j) (by omega) (by omega) (by omega) (by omega)]
      exact h.2.1 j hj
  · rw [pk_un (by omega), pk_un (by omega), pk_un (by omega), pk_un (by omega), pk_un (by omega), pk_un (by omega), pk_un (by omega)]; exact h.2.2 d hd
theorem r_brew1 {C M : Nat → Nat → Int32} {n T : Nat} {A B : Nat → Nat} {nx kp L : Nat} (h : Rel2 C M n T A B nx kp L) {i w q : Nat} (hi : i < 4) (hw : w < n) (hq : q ≤ 20) : Rel (zup (zup (zup (pKeep C nx kp) 22 (1 + i) (nI w + 1)) 22 (5 + i) (nI q)) 22 (9 + i) 0) (zfil (zrem M kp) i (nI w) (nI q)) := by
  have hRT := h.2.2.2.2.1.1
  have hAC := h.2.2.2.2.2.1
  unfold zfil
  refine ⟨n, T, A, B, _, _, L, Rel2_kept h ?_ (fun b h1 h2 => ?_) (fun a ha => ?_) (fun a ha => ?_)⟩
  · rw [zup_row, zup_row, zup_row, zup_row, zup_row, zup_row, zup_row, pKeep_22 hAC.1, zrem_90, nI_1]
    exact zRc_brew hRT.2.2 hi hw hq
  · rw [zup_no (by omega), zup_no (by omega), zup_no (by omega), zup_no (by omega), zrem_90]
  · rw [zup_other _ _ _ ha, zup_other _ _ _ ha, zup_other _ _ _ ha]
  · rw [zup_other _ _ _ ha, zup_other _ _ _ ha, zup_other _ _ _ ha, zup_other _ _ _ ha]
theorem r_brew {C M : Nat → Nat → Int32} {n T : Nat} {A B : Nat → Nat} {nx kp L : Nat} (h : Rel2 C M n T A B nx kp L) (x m : Int32) : (pBrew C n nx kp x m).1 = (mBrew M kp n x m).1 ∧ Rel (pBrew C n nx kp x m).2 (mBrew M kp n x m).2 := by
  unfold pBrew mBrew
  have hRT := h.2.2.2.2.1.1
  have hn := hRT.1.1
  have th := fun i (hi : i < 4) => zRc_th hRT.2.2 hi hn
  by_cases g : zlt x n = true ∧ zlt m 21 = true
  · rw [if_pos g, if_pos g]
    obtain ⟨w, hw, rfl⟩ := zlt_nI (by omega) g.1
    obtain ⟨q, hq, rfl⟩ := zlt_nI (by decide) g.2
    unfold zleast
    by_cases c0 : C 22 1 = 0
    · rw [if_pos c0, if_pos ((th 0 (by omega)).mpr c0), if_neg (by decide)]
      exact ⟨rfl, r_brew1 h (i := 0) (by omega) hw (by omega)⟩
    · rw [if_neg c0, if_neg (fun z => c0 ((th 0 (by omega)).mp z))]
      by_cases c1 : C 22 2 = 0
      · rw [if_pos c1, if_pos ((th 1 (by omega)).mpr c1), if_neg (by decide)]
        exact ⟨rfl, r_brew1 h (i := 1) (by omega) hw (by omega)⟩
      · rw [if_neg c1, if_neg (fun z => c1 ((th 1 (by omega)).mp z))]
        by_cases c2 : C 22 3 = 0
        · rw [if_pos c2, if_pos ((th 2 (by omega)).mpr c2), if_neg (by decide)]
          exact ⟨rfl, r_brew1 h (i := 2) (by omega) hw (by omega)⟩
        · rw [if_neg c2, if_neg (fun z => c2 ((th 2 (by omega)).mp z))]
          by_cases c3 : C 22 4 = 0
          · rw [if_pos c3, if_pos ((th 3 (by omega)).mpr c3), if_neg (by decide)]
            exact ⟨rfl, r_brew1 h (i := 3) (by omega) hw (by omega)⟩
          · rw [if_neg c3, if_neg (fun z => c3 ((th 3 (by omega)).mp z)), if_pos rfl]; exact ⟨rfl, n, T, A, B, nx, kp, L, h⟩
  · rw [if_neg g, if_neg g]; exact ⟨rfl, n, T, A, B, nx, kp, L, h⟩
