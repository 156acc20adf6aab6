-- ===== feed, ask, acts =====
def Rel (C M : Nat → Nat → Int32) : Prop := ∃ n T A B nx kp L, Rel2 C M n T A B nx kp L
theorem r_feed {C M : Nat → Nat → Int32} {n T : Nat} {A B : Nat → Nat} {nx kp L : Nat} (h : Rel2 C M n T A B nx kp L) (x : Int32) : (pFeed C L x).1 = (mFeed M L x).1 ∧ Rel (pFeed C L x).2 (mFeed M L x).2 := by
  unfold pFeed mFeed
  obtain ⟨r1, r2, r3, r4, r5, r6, r7, r8⟩ := id h
  by_cases g : zlt x 256 = true
  · rw [if_pos g, if_pos g]
    by_cases c : L < 120
    · rw [if_pos c, if_neg (by omega)]
      refine ⟨rfl, n, T, A, B, nx, kp, L + 1, ?_⟩
      show Rel2 (zup (zup C 14 L x) 13 1 (nI (L + 1))) (zup (zup M 89 L x) 85 5 (nI (L + 1))) n T A B nx kp (L + 1)
      have hC : ∀ a, a ≠ 13 → a ≠ 14 → zup (zup C 14 L x) 13 1 (nI (L + 1)) a = C a := fun a h1 h2 => by rw [zup_other _ _ _ h1, zup_other _ _ _ h2]
      have hM : ∀ a, a ≠ 85 → a ≠ 89 → zup (zup M 89 L x) 85 5 (nI (L + 1)) a = M a := fun a h1 h2 => by rw [zup_other _ _ _ h1, zup_other _ _ _ h2]
      have h85 : ∀ y, y ≠ 5 → zup (zup M 89 L x) 85 5 (nI (L + 1)) 85 y = M 85 y := fun y hy => by rw [zup_no (by omega), zup_no (by omega)]
      refine ⟨RW_congr r1 (fun a h1 h2 => hC a (by omega) (by omega)) (fun a h1 h2 => hM a (by omega) (by omega)), ?_, ?_, ?_, ⟨?_, ?_⟩, ?_, fun k hk => ?_, ?_⟩
      · rw [hC 0 (by omega) (by omega), h85 3 (by omega)]; exact r2
      · refine ⟨by omega, zup_on, zup_on, fun i hi => ?_⟩
        rw [show zup (zup C 14 L x) 13 1 (nI (L + 1)) 14 i = zup C 14 L x 14 i from zup_no (by omega), show zup (zup M 89 L x) 85 5 (nI (L + 1)) 89 i = zup M 89 L x 89 i from zup_no (by omega)]
        by_cases z : i = L
        · subst z
          rw [zup_on, zup_on]
          obtain ⟨q, hq, e⟩ := zlt_nI (by decide) g
          exact ⟨rfl, q, hq, e⟩
        · rw [zup_no (by omega), zup_no (by omega)]; exact r3.2.2.2 i (by omega)
      · rw [zup_no (by omega), zup_no (by omega), h85 6 (by omega)]; exact r4
      · exact RT_congr r5.1 (fun a h1 h2 => hC a (by omega) (by omega)) (hM 90 (by omega) (by omega))
      · rw [h85 7 (by omega)]; exact r5.2
      · exact AC_congr r6 (by rw [hC 48 (by omega) (by omega)]) (by rw [hC 48 (by omega) (by omega)]) (fun a h1 h2 => hC a (by omega) (by omega)) (h85 9 (by omega)) (hM 91 (by omega) (by omega)) (fun b _ _ => by rw [hM 90 (by omega) (by omega)])
      · exact ⟨IM_congr hk (r7 k hk).1 (fun a h1 h2 => hC a (by omega) (by omega)) (hM 92 (by omega) (by omega)) (hM 93 (by omega) (by omega)), by rw [hM 93 (by omega) (by omega)]; exact (r7 k hk).2⟩
      · exact TR_congr r8 (by rw [hC 83 (by omega) (by omega)]) (hC 84 (by omega) (by omega)) (h85 13 (by omega)) (hM 94 (by omega) (by omega))
    · rw [if_neg c, if_pos (by have := r3.1; omega)]; exact ⟨rfl, n, T, A, B, nx, kp, L, h⟩
  · rw [if_neg g, if_neg g]; exact ⟨rfl, n, T, A, B, nx, kp, L, h⟩
-- ask
def TRc (C M : Nat → Nat → Int32) (c : Nat) : Prop := C 83 2 = nI c ∧ M 85 13 = nI c ∧ ∀ i, i < c → C 84 i = M 94 i
def zTk (C C' M M' : Nat → Nat → Int32) : Prop := (∀ a, a ≠ 83 → a ≠ 84 → C' a = C a) ∧ (∀ a, a ≠ 85 → a ≠ 94 → M' a = M a) ∧ ∀ y, y ≠ 13 → M' 85 y = M 85 y
theorem TR_step {C C1 M M1 : Nat → Nat → Int32} {c : Nat} {b : Int32} {ws : List Int32} (h : TRc C1 M1 c ∧ zTk C C1 M M1) : TRc (ztr C1 c b) (zup (zup M1 94 c b) 85 13 (nI (c + 1))) (c + 1) ∧ zTk C (ztr C1 c b) M (zup (zup M1 94 c b) 85 13 (nI (c + 1))) := by
  obtain ⟨⟨h1, h2, h3⟩, k1, k2, k3⟩ := h
  refine ⟨⟨ztr_len _ _ _, zup_on, fun i hi => ?_⟩, fun a g1 g2 => ?_, fun a g1 g2 => ?_, fun y hy => ?_⟩
  · unfold ztr
    rw [show zup (zup C1 84 c b) 83 2 (nI (c + 1)) 84 i = zup C1 84 c b 84 i from zup_no (by omega), show zup (zup M1 94 c b) 85 13 (nI (c + 1)) 94 i = zup M1 94 c b 94 i from zup_no (by omega)]
    by_cases z : i = c
    · subst z; rw [zup_on, zup_on]
    · rw [zup_no (by omega), zup_no (by omega)]; exact h3 i (by omega)
  · unfold ztr; rw [zup_other _ _ _ g1, zup_other _ _ _ g2]; exact k1 a g1 g2
  · rw [zup_other _ _ _ g1, zup_other _ _ _ g2]; exact k2 a g1 g2
  · rw [zup_no (by omega), zup_no (by omega)]; exact k3 y hy
theorem Rel2_trace {C M C' M' : Nat → Nat → Int32} {n T : Nat} {A B : Nat → Nat} {nx kp L c : Nat} (h : Rel2 C M n T A B nx kp L) (hc : c ≤ 16) (hk : TRc C' M' c ∧ zTk C C' M M') : Rel2 C' M' n T A B nx kp L := by
  obtain ⟨r1, r2, r3, r4, r5, r6, r7, r8⟩ := h
  obtain ⟨ht, hC, hM, h85⟩ := hk
  refine ⟨RW_congr r1 (fun a h1 h2 => hC a (by omega) (by omega)) (fun a h1 h2 => hM a (by omega) (by omega)), ?_, ?_, ?_, ⟨?_, ?_⟩, ?_, fun k hk => ?_, c, hc, ht⟩
  · rw [hC 0 (by omega) (by omega), h85 3 (by omega)]; exact r2
  · exact TP_congr r3 (by rw [hC 13 (by omega) (by omega)]) (hC 14 (by omega) (by omega)) (h85 5 (by omega)) (hM 89 (by omega) (by omega))
  · rw [hC 13 (by omega) (by omega), h85 6 (by omega)]; exact r4
  · exact RT_congr r5.1 (fun a h1 h2 => hC a (by omega) (by omega)) (hM 90 (by omega) (by omega))
  · rw [h85 7 (by omega)]; exact r5.2
  · exact AC_congr r6 (by rw [hC 48 (by omega) (by omega)]) (by rw [hC 48 (by omega) (by omega)]) (fun a h1 h2 => hC a (by omega) (by omega)) (h85 9 (by omega)) (hM 91 (by omega) (by omega)) (fun b _ _ => by rw [hM 90 (by omega) (by omega)])
  · exact ⟨IM_congr hk (r7 k hk).1 (fun a h1 h2 => hC a (by omega) (by omega)) (hM 92 (by omega) (by omega)) (hM 93 (by omega) (by omega)), by rw [hM 93 (by omega) (by omega)]; exact (r7 k hk).2⟩
theorem TR_begin (C M : Nat → Nat → Int32) : TRc (zup C 83 2 0) (zup M 85 13 0) 0 ∧ zTk C (zup C 83 2 0) M (zup M 85 13 0) := ⟨⟨zup_on, zup_on, fun i hi => by omega⟩, fun a h1 h2 => zup_other _ _ _ h1, fun a h1 h2 => zup_other _ _ _ h1, fun y hy => zup_no (Or.inr hy)⟩
theorem r_ask {C M : Nat → Nat → Int32} {n T : Nat} {A B : Nat → Nat} {nx kp L : Nat} (h : Rel2 C M n T A B nx kp L) (x w : Int32) : (pAsk C n x w).1 = (mAsk M n x w).1 ∧ Rel2 (pAsk C n x w).2 (mAsk M n x w).2 n T A B nx kp L := by
  unfold pAsk mAsk
  by_cases g : zlt x n = true ∧ zlt w 2 = true
  · rw [if_pos g, if_pos g]
    have hRT := h.2.2.2.2.1.1
    have hn := hRT.1.1
    obtain ⟨d, hd, rfl⟩ := zlt_nI (by omega) g.1
    obtain ⟨q, hq, rfl⟩ := zlt_nI (by decide) g.2
    obtain ⟨k, h1, h5, ek⟩ := hRT.1.2.2.2.2.2.2 d hd
    have v4 := hRT.2.1.2.2.2.1 d hd
    rw [nI_clamp (by omega), show C 16 d = M 90 (6 + d) from v4.1, ek, ← show C 17 d = M 90 (12 + d) from v4.2.1, ← show C 18 d = M 90 (18 + d) from v4.2.2]
    have hq2 : q = 0 ∨ q = 1 := by omega
    have hk5 : k = 1 ∨ k = 2 ∨ k = 3 ∨ k = 4 ∨ k = 5 := by omega
    have hb := TR_begin C M
    rcases hk5 with rfl | rfl | rfl | rfl | rfl <;> rcases hq2 with rfl | rfl
    · unfold pAskV zav zat
      rw [if_pos (by decide)]
      rw [if_pos (by decide)]
      rw [if_pos (by decide)]
      exact ⟨rfl, Rel2_trace h (c := 4) (by decide) (TR_step (ws := []) (b := 20) (TR_step (ws := []) (b := 21) (TR_step (ws := []) (b := 10) (TR_step (ws := []) (b := 11) hb))))⟩
    · unfold pAskV zav zat
      rw [if_neg (by decide), if_pos (by decide)]
      rw [if_neg (by decide), if_pos (by decide)]
      rw [if_neg (by decide), if_pos (by decide)]
      exact ⟨rfl, Rel2_trace h (c := 2) (by decide) (TR_step (ws := []) (b := 20) (TR_step (ws := []) (b := 21) hb))⟩
    · unfold pAskV zav zat
      rw [if_neg (by decide), if_neg (by decide), if_pos (by decide)]
      rw [if_neg (by decide), if_neg (by decide), if_pos (by decide)]
      rw [if_neg (by decide), if_neg (by decide), if_pos (by decide)]
      exact ⟨rfl, Rel2_trace h (c := 6) (by decide) (TR_step (ws := []) (b := 20) (TR_step (ws := []) (b := 21) (TR_step (ws := []) (b := 24) (TR_step (ws := []) (b := 10) (TR_step (ws := []) (b := 11) (TR_step (ws := []) (b := 12) hb))))))⟩
    · unfold pAskV zav zat
      rw [if_neg (by decide), if_neg (by decide), if_neg (by decide), if_pos (by decide)]
      rw [if_neg (by decide), if_neg (by decide), if_neg (by decide), if_pos (by decide)]
      rw [if_neg (by decide), if_neg (by decide), if_neg (by decide), if_pos (by decide)]
      exact ⟨rfl, Rel2_trace h (c := 3) (by decide) (TR_step (ws := []) (b := 20) (TR_step (ws := []) (b := 21) (TR_step (ws := []) (b := 24) hb)))⟩
    · unfold pAskV zav zat
      rw [if_neg (by decide), if_neg (by decide), if_neg (by decide), if_neg (by decide), if_pos (by decide)]
      rw [if_neg (by decide), if_neg (by decide), if_neg (by decide), if_neg (by decide), if_pos (by decide)]
      rw [if_neg (by decide), if_neg (by decide), if_neg (by decide), if_neg (by decide), if_pos (by decide)]
      exact ⟨rfl, Rel2_trace h (c := 5) (by decide) (TR_step (ws := []) (b := 20) (TR_step (ws := []) (b := 21) (TR_step (ws := []) (b := 22) (TR_step (ws := []) (b := 10) (TR_step (ws := []) (b := 11) hb)))))⟩
    · unfold pAskV zav zat
      rw [if_neg (by decide), if_neg (by decide), if_neg (by decide), if_neg (by decide), if_neg (by decide), if_pos (by decide)]
      rw [if_neg (by decide), if_neg (by decide), if_neg (by decide), if_neg (by decide), if_neg (by decide), if_pos (by decide)]
      rw [if_neg (by decide), if_neg (by decide), if_neg (by decide), if_neg (by decide), if_neg (by decide), if_pos (by decide)]
      exact ⟨rfl, Rel2_trace h (c := 3) (by decide) (TR_step (ws := []) (b := 20) (TR_step (ws := []) (b := 21) (TR_step (ws := []) (b := 22) hb)))⟩
    · unfold pAskV zav zat
      rw [if_neg (by decide), if_neg (by decide), if_neg (by decide), if_neg (by decide), if_neg (by decide), if_neg (by decide), if_pos (by decide)]
      rw [if_neg (by decide), if_neg (by decide), if_neg (by decide), if_neg (by decide), if_neg (by decide), if_neg (by decide), if_pos (by decide)]
      rw [if_neg (by decide), if_neg (by decide), if_neg (by decide), if_neg (by decide), if_neg (by decide), if_neg (by decide), if_pos (by decide)]
      exact ⟨rfl, Rel2_trace h (c := 2) (by decide) (TR_step (ws := []) (b := 10) (TR_step (ws := []) (b := 13) hb))⟩
    · unfold pAskV zav zat
      rw [if_neg (by decide), if_neg (by decide), if_neg (by decide), if_neg (by decide), if_neg (by decide), if_neg (by decide), if_neg (by decide), if_pos (by decide)]
      rw [if_neg (by decide), if_neg (by decide), if_neg (by decide), if_neg (by decide), if_neg (by decide), if_neg (by decide), if_neg (by decide), if_pos (by decide)]
      rw [if_neg (by decide), if_neg (by decide), if_neg (by decide), if_neg (by decide), if_neg (by decide), if_neg (by decide), if_neg (by decide), if_pos (by decide)]
      exact ⟨rfl, Rel2_trace h (c := 4) (by decide) (TR_step (ws := []) (b := 10) (TR_step (ws := []) (b := 13) (TR_step (ws := []) (b := 20) (TR_step (ws := []) (b := 23) hb))))⟩
    · unfold pAskV zav zat
      rw [if_neg (by decide), if_neg (by decide), if_neg (by decide), if_neg (by decide), if_neg (by decide), if_neg (by decide), if_neg (by decide), if_neg (by decide), if_pos (by decide)]
      rw [if_neg (by decide), if_neg (by decide), if_neg (by decide), if_neg (by decide), if_neg (by decide), if_neg (by decide), if_neg (by decide), if_neg (by decide), if_pos (by decide)]
      rw [if_neg (by decide), if_neg (by decide), if_neg (by decide), if_neg (by decide), if_neg (by decide), if_neg (by decide), if_neg (by decide), if_neg (by decide), if_pos (by decide)]
      exact ⟨rfl, Rel2_trace h (c := 3) (by decide) (TR_step (ws := []) (b := 10) (TR_step (ws := []) (b := 13) (TR_step (ws := []) (b := 14) hb)))⟩
    · unfold pAskV zav zat
      rw [if_neg (by decide), if_neg (by decide), if_neg (by decide), if_neg (by decide), if_neg (by decide), if_neg (by decide), if_neg (by decide), if_neg (by decide), if_neg (by decide), if_pos (by decide)]
      rw [if_neg (by decide), if_neg (by decide), if_neg (by decide), if_neg (by decide), if_neg (by decide), if_neg (by decide), if_neg (by decide), if_neg (by decide), if_neg (by decide), if_pos (by decide)]
      rw [if_neg (by decide), if_neg (by decide), if_neg (by decide), if_neg (by decide), if_neg (by decide), if_neg (by decide), if_neg (by decide), if_neg (by decide), if_neg (by decide), if_pos (by decide)]
      exact ⟨rfl, Rel2_trace h (c := 5) (by decide) (TR_step (ws := []) (b := 10) (TR_step (ws := []) (b := 13) (TR_step (ws := []) (b := 14) (TR_step (ws := []) (b := 20) (TR_step (ws := []) (b := 23) hb)))))⟩
  · rw [if_neg g, if_neg g]; exact ⟨rfl, h⟩
