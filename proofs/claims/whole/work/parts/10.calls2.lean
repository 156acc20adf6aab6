-- ===== contracts of methods that make nothing; calls by number of arguments =====
abbrev zP (l : zL) (M : zMd) (as : List Value) (h : zH) (Q : Option Value → zH → Prop) : Prop := zMet l M h.2.2.2.length (zsl h.2.2.2) as h Q
abbrev zR (r : Option Value) (h1 : zH) : Option Value → zH → Prop := fun r2 h2 => r2 = r ∧ h2 = h1
theorem zMet.mono {l : zL} {M : zMd} {N S : Nat} {as : List Value} {h : zH} {Q Q2 : Option Value → zH → Prop} (hm : zMet l M N S as h Q) (hq : ∀ r h1, Q r h1 → Q2 r h1) : zMet l M N S as h Q2 := by
  intro h1 h2 h3 E
  have a := hm h1 h2 h3 E
  intro p e ha hc hk s m args below hf happ hp hK
  obtain ⟨t, o, b1, b2, b3, ⟨⟨r, h4, c1, c2, c3⟩, c4⟩, b5⟩ := a p e ha hc hk s m args below hf happ hp hK
  exact ⟨t, o, b1, b2, b3, ⟨⟨r, h4, c1, hq r h4 c2, c3⟩, c4⟩, b5⟩
theorem zW.mono {l : zL} {M : zMd} {N S pc : Nat} {L st : List Value} {h : zH} {Q Q2 : Option Value → zH → Prop} (k : zW l M N S pc L st h Q) (hq : ∀ r h1, Q r h1 → Q2 r h1) : zW l M N S pc L st h Q2 := by
  intro p e s m args below meth c E n0 z0 H locs cells slots ls R Z C A hl hR K
  exact k p e s m args below meth c E n0 z0 H locs cells slots ls R Z C A hl hR (fun r h1 H1 locs1 cells1 slots1 pc1 ls1 q => K r h1 H1 locs1 cells1 slots1 pc1 ls1 (hq r h1 q))
section ZC
variable {l : zL} {M : zMd} {N S pc : Nat} {L st : List Value} {h : zH} {Q : Option Value → zH → Prop} {M1 : zMd} {idx ci b w : Nat} {Q1 : Option Value → zH → Prop} {a1 a2 a3 a4 a5 : Value}
theorem z_V0 (hd : decode M.2.1 pc = .ok (.invokevirtual idx, 3)) (hlk : zML M.1.cls idx M1) (hk : zMk M1 0) (hv : zVirt M1 ci) (hd1 : M1.2.2.2.2 + 1 ≤ M.2.2.2.2) (hd2 : 8 + (M1.2.2.1 + 11) + 64 * M1.2.2.2.2 ≤ 64 * M.2.2.2.2) (hs : h.2.2.2[b]? = some (ci, w)) (hst : (st.map Value.category).sum ≤ 8) (hm : zP l M1 (.ref b :: []) h Q1) (hN : h.2.2.2.length ≤ N ∧ zsl h.2.2.2 ≤ S)
    (kk : ∀ (r : Option Value) (h1 : zH), Q1 r h1 → zW l M N S (pc + 3) L (r.toList ++ st) h1 Q) : zW l M N S pc L (.ref b :: st) h Q := z_callV (As := []) hd hlk hk hv hd1 hd2 hs rfl hst hm ⟨hN.1, hN.2, Nat.le_refl _, Nat.le_refl _⟩ kk
theorem z_V1 (hd : decode M.2.1 pc = .ok (.invokevirtual idx, 3)) (hlk : zML M.1.cls idx M1) (hk : zMk M1 1) (hv : zVirt M1 ci) (hd1 : M1.2.2.2.2 + 1 ≤ M.2.2.2.2) (hd2 : 8 + (M1.2.2.1 + 11) + 64 * M1.2.2.2.2 ≤ 64 * M.2.2.2.2) (hs : h.2.2.2[b]? = some (ci, w)) (hst : (st.map Value.category).sum ≤ 8) (hm : zP l M1 (.ref b :: [a1]) h Q1) (hN : h.2.2.2.length ≤ N ∧ zsl h.2.2.2 ≤ S)
    (kk : ∀ (r : Option Value) (h1 : zH), Q1 r h1 → zW l M N S (pc + 3) L (r.toList ++ st) h1 Q) : zW l M N S pc L (a1 :: .ref b :: st) h Q := z_callV (As := [a1]) hd hlk hk hv hd1 hd2 hs rfl hst hm ⟨hN.1, hN.2, Nat.le_refl _, Nat.le_refl _⟩ kk
theorem z_V2 (hd : decode M.2.1 pc = .ok (.invokevirtual idx, 3)) (hlk : zML M.1.cls idx M1) (hk : zMk M1 2) (hv : zVirt M1 ci) (hd1 : M1.2.2.2.2 + 1 ≤ M.2.2.2.2) (hd2 : 8 + (M1.2.2.1 + 11) + 64 * M1.2.2.2.2 ≤ 64 * M.2.2.2.2) (hs : h.2.2.2[b]? = some (ci, w)) (hst : (st.map Value.category).sum ≤ 8) (hm : zP l M1 (.ref b :: [a1, a2]) h Q1) (hN : h.2.2.2.length ≤ N ∧ zsl h.2.2.2 ≤ S)
    (kk : ∀ (r : Option Value) (h1 : zH), Q1 r h1 → zW l M N S (pc + 3) L (r.toList ++ st) h1 Q) : zW l M N S pc L (a2 :: a1 :: .ref b :: st) h Q := z_callV (As := [a1, a2]) hd hlk hk hv hd1 hd2 hs rfl hst hm ⟨hN.1, hN.2, Nat.le_refl _, Nat.le_refl _⟩ kk
theorem z_V3 (hd : decode M.2.1 pc = .ok (.invokevirtual idx, 3)) (hlk : zML M.1.cls idx M1) (hk : zMk M1 3) (hv : zVirt M1 ci) (hd1 : M1.2.2.2.2 + 1 ≤ M.2.2.2.2) (hd2 : 8 + (M1.2.2.1 + 11) + 64 * M1.2.2.2.2 ≤ 64 * M.2.2.2.2) (hs : h.2.2.2[b]? = some (ci, w)) (hst : (st.map Value.category).sum ≤ 8) (hm : zP l M1 (.ref b :: [a1, a2, a3]) h Q1) (hN : h.2.2.2.length ≤ N ∧ zsl h.2.2.2 ≤ S)
    (kk : ∀ (r : Option Value) (h1 : zH), Q1 r h1 → zW l M N S (pc + 3) L (r.toList ++ st) h1 Q) : zW l M N S pc L (a3 :: a2 :: a1 :: .ref b :: st) h Q := z_callV (As := [a1, a2, a3]) hd hlk hk hv hd1 hd2 hs rfl hst hm ⟨hN.1, hN.2, Nat.le_refl _, Nat.le_refl _⟩ kk
theorem z_V4 (hd : decode M.2.1 pc = .ok (.invokevirtual idx, 3)) (hlk : zML M.1.cls idx M1) (hk : zMk M1 4) (hv : zVirt M1 ci) (hd1 : M1.2.2.2.2 + 1 ≤ M.2.2.2.2) (hd2 : 8 + (M1.2.2.1 + 11) + 64 * M1.2.2.2.2 ≤ 64 * M.2.2.2.2) (hs : h.2.2.2[b]? = some (ci, w)) (hst : (st.map Value.category).sum ≤ 8) (hm : zP l M1 (.ref b :: [a1, a2, a3, a4]) h Q1) (hN : h.2.2.2.length ≤ N ∧ zsl h.2.2.2 ≤ S)
    (kk : ∀ (r : Option Value) (h1 : zH), Q1 r h1 → zW l M N S (pc + 3) L (r.toList ++ st) h1 Q) : zW l M N S pc L (a4 :: a3 :: a2 :: a1 :: .ref b :: st) h Q := z_callV (As := [a1, a2, a3, a4]) hd hlk hk hv hd1 hd2 hs rfl hst hm ⟨hN.1, hN.2, Nat.le_refl _, Nat.le_refl _⟩ kk
theorem z_V5 (hd : decode M.2.1 pc = .ok (.invokevirtual idx, 3)) (hlk : zML M.1.cls idx M1) (hk : zMk M1 5) (hv : zVirt M1 ci) (hd1 : M1.2.2.2.2 + 1 ≤ M.2.2.2.2) (hd2 : 8 + (M1.2.2.1 + 11) + 64 * M1.2.2.2.2 ≤ 64 * M.2.2.2.2) (hs : h.2.2.2[b]? = some (ci, w)) (hst : (st.map Value.category).sum ≤ 8) (hm : zP l M1 (.ref b :: [a1, a2, a3, a4, a5]) h Q1) (hN : h.2.2.2.length ≤ N ∧ zsl h.2.2.2 ≤ S)
    (kk : ∀ (r : Option Value) (h1 : zH), Q1 r h1 → zW l M N S (pc + 3) L (r.toList ++ st) h1 Q) : zW l M N S pc L (a5 :: a4 :: a3 :: a2 :: a1 :: .ref b :: st) h Q := z_callV (As := [a1, a2, a3, a4, a5]) hd hlk hk hv hd1 hd2 hs rfl hst hm ⟨hN.1, hN.2, Nat.le_refl _, Nat.le_refl _⟩ kk
theorem z_S0 (hd : decode M.2.1 pc = .ok (.invokestatic idx, 3)) (hlk : zML M.1.cls idx M1) (hk : zMk M1 0) (hv : Cond.static M1.1 ∈ zTs) (hd1 : M1.2.2.2.2 + 1 ≤ M.2.2.2.2) (hd2 : 8 + (M1.2.2.1 + 11) + 64 * M1.2.2.2.2 ≤ 64 * M.2.2.2.2) (hst : (st.map Value.category).sum ≤ 8) (hm : zP l M1 [] h Q1) (hN : h.2.2.2.length ≤ N ∧ zsl h.2.2.2 ≤ S)
    (kk : ∀ (r : Option Value) (h1 : zH), Q1 r h1 → zW l M N S (pc + 3) L (r.toList ++ st) h1 Q) : zW l M N S pc L (st) h Q := z_callS (As := []) hd hlk hk hv hd1 hd2 rfl hst hm ⟨hN.1, hN.2, Nat.le_refl _, Nat.le_refl _⟩ kk
theorem z_S1 (hd : decode M.2.1 pc = .ok (.invokestatic idx, 3)) (hlk : zML M.1.cls idx M1) (hk : zMk M1 1) (hv : Cond.static M1.1 ∈ zTs) (hd1 : M1.2.2.2.2 + 1 ≤ M.2.2.2.2) (hd2 : 8 + (M1.2.2.1 + 11) + 64 * M1.2.2.2.2 ≤ 64 * M.2.2.2.2) (hst : (st.map Value.category).sum ≤ 8) (hm : zP l M1 [a1] h Q1) (hN : h.2.2.2.length ≤ N ∧ zsl h.2.2.2 ≤ S)
    (kk : ∀ (r : Option Value) (h1 : zH), Q1 r h1 → zW l M N S (pc + 3) L (r.toList ++ st) h1 Q) : zW l M N S pc L (a1 :: st) h Q := z_callS (As := [a1]) hd hlk hk hv hd1 hd2 rfl hst hm ⟨hN.1, hN.2, Nat.le_refl _, Nat.le_refl _⟩ kk
theorem z_S2 (hd : decode M.2.1 pc = .ok (.invokestatic idx, 3)) (hlk : zML M.1.cls idx M1) (hk : zMk M1 2) (hv : Cond.static M1.1 ∈ zTs) (hd1 : M1.2.2.2.2 + 1 ≤ M.2.2.2.2) (hd2 : 8 + (M1.2.2.1 + 11) + 64 * M1.2.2.2.2 ≤ 64 * M.2.2.2.2) (hst : (st.map Value.category).sum ≤ 8) (hm : zP l M1 [a1, a2] h Q1) (hN : h.2.2.2.length ≤ N ∧ zsl h.2.2.2 ≤ S)
    (kk : ∀ (r : Option Value) (h1 : zH), Q1 r h1 → zW l M N S (pc + 3) L (r.toList ++ st) h1 Q) : zW l M N S pc L (a2 :: a1 :: st) h Q := z_callS (As := [a1, a2]) hd hlk hk hv hd1 hd2 rfl hst hm ⟨hN.1, hN.2, Nat.le_refl _, Nat.le_refl _⟩ kk
theorem z_S3 (hd : decode M.2.1 pc = .ok (.invokestatic idx, 3)) (hlk : zML M.1.cls idx M1) (hk : zMk M1 3) (hv : Cond.static M1.1 ∈ zTs) (hd1 : M1.2.2.2.2 + 1 ≤ M.2.2.2.2) (hd2 : 8 + (M1.2.2.1 + 11) + 64 * M1.2.2.2.2 ≤ 64 * M.2.2.2.2) (hst : (st.map Value.category).sum ≤ 8) (hm : zP l M1 [a1, a2, a3] h Q1) (hN : h.2.2.2.length ≤ N ∧ zsl h.2.2.2 ≤ S)
    (kk : ∀ (r : Option Value) (h1 : zH), Q1 r h1 → zW l M N S (pc + 3) L (r.toList ++ st) h1 Q) : zW l M N S pc L (a3 :: a2 :: a1 :: st) h Q := z_callS (As := [a1, a2, a3]) hd hlk hk hv hd1 hd2 rfl hst hm ⟨hN.1, hN.2, Nat.le_refl _, Nat.le_refl _⟩ kk
theorem z_S4 (hd : decode M.2.1 pc = .ok (.invokestatic idx, 3)) (hlk : zML M.1.cls idx M1) (hk : zMk M1 4) (hv : Cond.static M1.1 ∈ zTs) (hd1 : M1.2.2.2.2 + 1 ≤ M.2.2.2.2) (hd2 : 8 + (M1.2.2.1 + 11) + 64 * M1.2.2.2.2 ≤ 64 * M.2.2.2.2) (hst : (st.map Value.category).sum ≤ 8) (hm : zP l M1 [a1, a2, a3, a4] h Q1) (hN : h.2.2.2.length ≤ N ∧ zsl h.2.2.2 ≤ S)
    (kk : ∀ (r : Option Value) (h1 : zH), Q1 r h1 → zW l M N S (pc + 3) L (r.toList ++ st) h1 Q) : zW l M N S pc L (a4 :: a3 :: a2 :: a1 :: st) h Q := z_callS (As := [a1, a2, a3, a4]) hd hlk hk hv hd1 hd2 rfl hst hm ⟨hN.1, hN.2, Nat.le_refl _, Nat.le_refl _⟩ kk
theorem z_S5 (hd : decode M.2.1 pc = .ok (.invokestatic idx, 3)) (hlk : zML M.1.cls idx M1) (hk : zMk M1 5) (hv : Cond.static M1.1 ∈ zTs) (hd1 : M1.2.2.2.2 + 1 ≤ M.2.2.2.2) (hd2 : 8 + (M1.2.2.1 + 11) + 64 * M1.2.2.2.2 ≤ 64 * M.2.2.2.2) (hst : (st.map Value.category).sum ≤ 8) (hm : zP l M1 [a1, a2, a3, a4, a5] h Q1) (hN : h.2.2.2.length ≤ N ∧ zsl h.2.2.2 ≤ S)
    (kk : ∀ (r : Option Value) (h1 : zH), Q1 r h1 → zW l M N S (pc + 3) L (r.toList ++ st) h1 Q) : zW l M N S pc L (a5 :: a4 :: a3 :: a2 :: a1 :: st) h Q := z_callS (As := [a1, a2, a3, a4, a5]) hd hlk hk hv hd1 hd2 rfl hst hm ⟨hN.1, hN.2, Nat.le_refl _, Nat.le_refl _⟩ kk
theorem z_S6 {a6 : Value} (hd : decode M.2.1 pc = .ok (.invokestatic idx, 3)) (hlk : zML M.1.cls idx M1) (hk : zMk M1 6) (hv : Cond.static M1.1 ∈ zTs) (hd1 : M1.2.2.2.2 + 1 ≤ M.2.2.2.2) (hd2 : 8 + (M1.2.2.1 + 11) + 64 * M1.2.2.2.2 ≤ 64 * M.2.2.2.2) (hst : (st.map Value.category).sum ≤ 8) (hm : zP l M1 [a1, a2, a3, a4, a5, a6] h Q1) (hN : h.2.2.2.length ≤ N ∧ zsl h.2.2.2 ≤ S)
    (kk : ∀ (r : Option Value) (h1 : zH), Q1 r h1 → zW l M N S (pc + 3) L (r.toList ++ st) h1 Q) : zW l M N S pc L (a6 :: a5 :: a4 :: a3 :: a2 :: a1 :: st) h Q := z_callS (As := [a1, a2, a3, a4, a5, a6]) hd hlk hk hv hd1 hd2 rfl hst hm ⟨hN.1, hN.2, Nat.le_refl _, Nat.le_refl _⟩ kk
end ZC
/-- places by natural numbers -/
theorem vp_at {i : Int32} {j n : Nat} (hi : i = nI j) (hj : j < n) (hn : n < 2 ^ 31) : vp_in i n ∧ i.toNatClampNeg = j := by
  subst hi
  exact ⟨vp_in_nI hj hn, nI_clamp (by omega)⟩
section ZI
variable {l : zL} {M : zMd} {N S pc : Nat} {L st : List Value} {h : zH} {Q : Option Value → zH → Prop}
theorem z_ialdN {k n : Nat} {i : Int32} (j : Nat) (hd : decode M.2.1 pc = .ok (.iaload, 1)) (hs : h.2.2.2[k]? = some (10, n)) (hi : i = nI j) (hj : j < n) (hn : n < 2 ^ 31) (kk : zW l M N S (pc + 1) L (.int (h.1 k j) :: st) h Q) : zW l M N S pc L (.int i :: .ref k :: st) h Q := by
  obtain ⟨a, b⟩ := vp_at hi hj hn
  exact z_iald hd hs a (by rw [b]; exact kk)
theorem z_iastN {k n : Nat} {i v : Int32} (j : Nat) (hd : decode M.2.1 pc = .ok (.iastore, 1)) (hs : h.2.2.2[k]? = some (10, n)) (hi : i = nI j) (hj : j < n) (hn : n < 2 ^ 31) (kk : zW l M N S (pc + 1) L st (zup h.1 k j v, h.2) Q) : zW l M N S pc L (.int v :: .int i :: .ref k :: st) h Q := by
  obtain ⟨a, b⟩ := vp_at hi hj hn
  exact z_iast hd hs a (by rw [b]; exact kk)
theorem z_laldN {k n : Nat} {i : Int32} (j : Nat) (hd : decode M.2.1 pc = .ok (.laload, 1)) (hs : h.2.2.2[k]? = some (11, n)) (hi : i = nI j) (hj : j < n) (hn : n < 2 ^ 31) (kk : zW l M N S (pc + 1) L (.long (h.2.1 k j) :: st) h Q) : zW l M N S pc L (.int i :: .ref k :: st) h Q := by
  obtain ⟨a, b⟩ := vp_at hi hj hn
  exact z_lald hd hs a (by rw [b]; exact kk)
theorem z_lastN {k n : Nat} {i : Int32} {v : Int64} (j : Nat) (hd : decode M.2.1 pc = .ok (.lastore, 1)) (hs : h.2.2.2[k]? = some (11, n)) (hi : i = nI j) (hj : j < n) (hn : n < 2 ^ 31) (kk : zW l M N S (pc + 1) L st (h.1, zupJ h.2.1 k j v, h.2.2) Q) : zW l M N S pc L (.long v :: .int i :: .ref k :: st) h Q := by
  obtain ⟨a, b⟩ := vp_at hi hj hn
  exact z_last hd hs a (by rw [b]; exact kk)
theorem z_aaldIN {k n k1 : Nat} {i : Int32} (j : Nat) (hd : decode M.2.1 pc = .ok (.aaload, 1)) (hs : h.2.2.2[k]? = some (14, n)) (hi : i = nI j) (hj : j < n) (hn : n < 2 ^ 31) (hr : h.2.2.1 k j = some k1) (kk : zW l M N S (pc + 1) L (.ref k1 :: st) h Q) : zW l M N S pc L (.int i :: .ref k :: st) h Q := by
  obtain ⟨a, b⟩ := vp_at hi hj hn
  exact z_aaldI hd hs a (by rw [b]; exact hr) kk
theorem z_aaldTN {k n k1 : Nat} {i : Int32} (j : Nat) (hd : decode M.2.1 pc = .ok (.aaload, 1)) (hs : h.2.2.2[k]? = some (13, n)) (hi : i = nI j) (hj : j < n) (hn : n < 2 ^ 31) (hr : h.2.2.1 k j = some k1) (kk : zW l M N S (pc + 1) L (.ref k1 :: st) h Q) : zW l M N S pc L (.int i :: .ref k :: st) h Q := by
  obtain ⟨a, b⟩ := vp_at hi hj hn
  exact z_aaldT hd hs a (by rw [b]; exact hr) kk
theorem z_nm {x y : Int32} (e : x = y) (k : zW l M N S pc L (.int y :: st) h Q) : zW l M N S pc L (.int x :: st) h Q := e ▸ k
end ZI
theorem zup_same (I : Nat → Nat → Int32) (k j : Nat) (v : Int32) : zup I k j v k j = v := if_pos ⟨rfl, rfl⟩
theorem zup_ne (I : Nat → Nat → Int32) {k j a b : Nat} (v : Int32) (h : a ≠ k ∨ b ≠ j) : zup I k j v a b = I a b := if_neg (fun q => h.elim (fun z => z q.1) (fun z => z q.2))
theorem zup_nj (I : Nat → Nat → Int32) {k j a b : Nat} (v : Int32) (h : b ≠ j) : zup I k j v a b = I a b := zup_ne I v (Or.inr h)
theorem zup_nk (I : Nat → Nat → Int32) {k j a b : Nat} (v : Int32) (h : a ≠ k) : zup I k j v a b = I a b := zup_ne I v (Or.inl h)
-- the same rules over a heap that is written out
section ZY
variable {l : zL} {M : zMd} {N S pc : Nat} {L st : List Value} {I : Nat → Nat → Int32} {J : Nat → Nat → Int64} {r : Nat → Nat → Option Nat} {sh : List zSh} {Q : Option Value → zH → Prop}
theorem y_getI {idx ci j k n : Nat} (hd : decode M.2.1 pc = .ok (.getfield idx, 3)) (hf : zFL M.1.cls idx ci j) (ht : (zft ci)[j]? = some false) (hs : sh[k]? = some (ci, n)) (kk : zW l M N S (pc + 3) L (.int (I k j) :: st) (I, J, r, sh) Q) : zW l M N S pc L (.ref k :: st) (I, J, r, sh) Q := z_getI (h := (I, J, r, sh)) hd hf ht hs kk
theorem y_getR {idx ci j k n k1 : Nat} (hd : decode M.2.1 pc = .ok (.getfield idx, 3)) (hf : zFL M.1.cls idx ci j) (ht : (zft ci)[j]? = some true) (hs : sh[k]? = some (ci, n)) (hr : r k j = some k1) (kk : zW l M N S (pc + 3) L (.ref k1 :: st) (I, J, r, sh) Q) : zW l M N S pc L (.ref k :: st) (I, J, r, sh) Q := z_getR (h := (I, J, r, sh)) hd hf ht hs hr kk
theorem y_putI {idx ci j k n : Nat} {v : Int32} (hd : decode M.2.1 pc = .ok (.putfield idx, 3)) (hf : zFL M.1.cls idx ci j) (hfin : zFin ci j false) (ht : (zft ci)[j]? = some false) (hs : sh[k]? = some (ci, n)) (hfit : narrow (zty ci j) (.int v) = .int v ∧ fits (zty ci j) (.int v) = true) (kk : zW l M N S (pc + 3) L st (zup I k j v, J, r, sh) Q) : zW l M N S pc L (.int v :: .ref k :: st) (I, J, r, sh) Q := z_putI (h := (I, J, r, sh)) hd hf hfin ht hs hfit kk
theorem y_putR {idx ci j k n k1 : Nat} (hd : decode M.2.1 pc = .ok (.putfield idx, 3)) (hf : zFL M.1.cls idx ci j) (hfin : zFin ci j false ∨ (zFin ci j true ∧ M.1.name = "<init>" ∧ ∃ q : vw_C, vwCl[ci]? = some q ∧ (q.2.1 j).1 = M.1.cls ∧ Cond.fieldLink M.1.cls idx (q.2.1 j).1 (q.2.1 j).2.1 (q.2.1 j).2.2.1 ∈ zTs)) (ht : (zft ci)[j]? = some true) (hs : sh[k]? = some (ci, n)) (hfit : ∀ a : Nat, narrow (zty ci j) (.ref a) = .ref a ∧ fits (zty ci j) (.ref a) = true) (kk : zW l M N S (pc + 3) L st (I, J, zupR r k j (some k1), sh) Q) : zW l M N S pc L (.ref k1 :: .ref k :: st) (I, J, r, sh) Q := z_putR (h := (I, J, r, sh)) hd hf hfin ht hs hfit kk
theorem y_iald {k n : Nat} {i : Int32} (hd : decode M.2.1 pc = .ok (.iaload, 1)) (hs : sh[k]? = some (10, n)) (hi : vp_in i n) (kk : zW l M N S (pc + 1) L (.int (I k i.toNatClampNeg) :: st) (I, J, r, sh) Q) : zW l M N S pc L (.int i :: .ref k :: st) (I, J, r, sh) Q := z_iald (h := (I, J, r, sh)) hd hs hi kk
theorem y_ialdN {k n : Nat} {i : Int32} (j : Nat) (hd : decode M.2.1 pc = .ok (.iaload, 1)) (hs : sh[k]? = some (10, n)) (hi : i = nI j) (hj : j < n) (hn : n < 2 ^ 31) (kk : zW l M N S (pc + 1) L (.int (I k j) :: st) (I, J, r, sh) Q) : zW l M N S pc L (.int i :: .ref k :: st) (I, J, r, sh) Q := by
  obtain ⟨a, b⟩ := vp_at hi hj hn
  exact y_iald hd hs a (by rw [b]; exact kk)
theorem y_lald {k n : Nat} {i : Int32} (hd : decode M.2.1 pc = .ok (.laload, 1)) (hs : sh[k]? = some (11, n)) (hi : vp_in i n) (kk : zW l M N S (pc + 1) L (.long (J k i.toNatClampNeg) :: st) (I, J, r, sh) Q) : zW l M N S pc L (.int i :: .ref k :: st) (I, J, r, sh) Q := z_lald (h := (I, J, r, sh)) hd hs hi kk
theorem y_laldN {k n : Nat} {i : Int32} (j : Nat) (hd : decode M.2.1 pc = .ok (.laload, 1)) (hs : sh[k]? = some (11, n)) (hi : i = nI j) (hj : j < n) (hn : n < 2 ^ 31) (kk : zW l M N S (pc + 1) L (.long (J k j) :: st) (I, J, r, sh) Q) : zW l M N S pc L (.int i :: .ref k :: st) (I, J, r, sh) Q := by
  obtain ⟨a, b⟩ := vp_at hi hj hn
  exact y_lald hd hs a (by rw [b]; exact kk)
theorem y_bald {k n : Nat} {i : Int32} (hd : decode M.2.1 pc = .ok (.baload, 1)) (hs : sh[k]? = some (12, n)) (hi : vp_in i n) (kk : zW l M N S (pc + 1) L (.int (I k i.toNatClampNeg) :: st) (I, J, r, sh) Q) : zW l M N S pc L (.int i :: .ref k :: st) (I, J, r, sh) Q := z_bald (h := (I, J, r, sh)) hd hs hi kk
theorem y_baldN {k n : Nat} {i : Int32} (j : Nat) (hd : decode M.2.1 pc = .ok (.baload, 1)) (hs : sh[k]? = some (12, n)) (hi : i = nI j) (hj : j < n) (hn : n < 2 ^ 31) (kk : zW l M N S (pc + 1) L (.int (I k j) :: st) (I, J, r, sh) Q) : zW l M N S pc L (.int i :: .ref k :: st) (I, J, r, sh) Q := by
  obtain ⟨a, b⟩ := vp_at hi hj hn
  exact y_bald hd hs a (by rw [b]; exact kk)
theorem y_aaldT {k n k1 : Nat} {i : Int32} (hd : decode M.2.1 pc = .ok (.aaload, 1)) (hs : sh[k]? = some (13, n)) (hi : vp_in i n) (hr : r k i.toNatClampNeg = some k1) (kk : zW l M N S (pc + 1) L (.ref k1 :: st) (I, J, r, sh) Q) : zW l M N S pc L (.int i :: .ref k :: st) (I, J, r, sh) Q := z_aaldT (h := (I, J, r, sh)) hd hs hi hr kk
theorem y_aaldTN {k n k1 : Nat} {i : Int32} (j : Nat) (hd : decode M.2.1 pc = .ok (.aaload, 1)) (hs : sh[k]? = some (13, n)) (hi : i = nI j) (hj : j < n) (hn : n < 2 ^ 31) (hr : r k j = some k1) (kk : zW l M N S (pc + 1) L (.ref k1 :: st) (I, J, r, sh) Q) : zW l M N S pc L (.int i :: .ref k :: st) (I, J, r, sh) Q := by
  obtain ⟨a, b⟩ := vp_at hi hj hn
  exact y_aaldT hd hs a (by rw [b]; exact hr) kk
theorem y_aaldI {k n k1 : Nat} {i : Int32} (hd : decode M.2.1 pc = .ok (.aaload, 1)) (hs : sh[k]? = some (14, n)) (hi : vp_in i n) (hr : r k i.toNatClampNeg = some k1) (kk : zW l M N S (pc + 1) L (.ref k1 :: st) (I, J, r, sh) Q) : zW l M N S pc L (.int i :: .ref k :: st) (I, J, r, sh) Q := z_aaldI (h := (I, J, r, sh)) hd hs hi hr kk
theorem y_aaldIN {k n k1 : Nat} {i : Int32} (j : Nat) (hd : decode M.2.1 pc = .ok (.aaload, 1)) (hs : sh[k]? = some (14, n)) (hi : i = nI j) (hj : j < n) (hn : n < 2 ^ 31) (hr : r k j = some k1) (kk : zW l M N S (pc + 1) L (.ref k1 :: st) (I, J, r, sh) Q) : zW l M N S pc L (.int i :: .ref k :: st) (I, J, r, sh) Q := by
  obtain ⟨a, b⟩ := vp_at hi hj hn
  exact y_aaldI hd hs a (by rw [b]; exact hr) kk
theorem y_iast {k n : Nat} {i : Int32} {v : Int32} (hd : decode M.2.1 pc = .ok (.iastore, 1)) (hs : sh[k]? = some (10, n)) (hi : vp_in i n) (kk : zW l M N S (pc + 1) L st (zup I k i.toNatClampNeg v, J, r, sh) Q) : zW l M N S pc L (.int v :: .int i :: .ref k :: st) (I, J, r, sh) Q := z_iast (h := (I, J, r, sh)) hd hs hi kk
theorem y_iastN {k n : Nat} {i : Int32} {v : Int32} (j : Nat) (hd : decode M.2.1 pc = .ok (.iastore, 1)) (hs : sh[k]? = some (10, n)) (hi : i = nI j) (hj : j < n) (hn : n < 2 ^ 31) (kk : zW l M N S (pc + 1) L st (zup I k j v, J, r, sh) Q) : zW l M N S pc L (.int v :: .int i :: .ref k :: st) (I, J, r, sh) Q := by
  obtain ⟨a, b⟩ := vp_at hi hj hn
  exact y_iast hd hs a (by rw [b]; exact kk)
theorem y_last {k n : Nat} {i : Int32} {v : Int64} (hd : decode M.2.1 pc = .ok (.lastore, 1)) (hs : sh[k]? = some (11, n)) (hi : vp_in i n) (kk : zW l M N S (pc + 1) L st (I, zupJ J k i.toNatClampNeg v, r, sh) Q) : zW l M N S pc L (.long v :: .int i :: .ref k :: st) (I, J, r, sh) Q := z_last (h := (I, J, r, sh)) hd hs hi kk
theorem y_lastN {k n : Nat} {i : Int32} {v : Int64} (j : Nat) (hd : decode M.2.1 pc = .ok (.lastore, 1)) (hs : sh[k]? = some (11, n)) (hi : i = nI j) (hj : j < n) (hn : n < 2 ^ 31) (kk : zW l M N S (pc + 1) L st (I, zupJ J k j v, r, sh) Q) : zW l M N S pc L (.long v :: .int i :: .ref k :: st) (I, J, r, sh) Q := by
  obtain ⟨a, b⟩ := vp_at hi hj hn
  exact y_last hd hs a (by rw [b]; exact kk)
theorem y_bast {k n : Nat} {i : Int32} {v : Int32} (hd : decode M.2.1 pc = .ok (.bastore, 1)) (hs : sh[k]? = some (12, n)) (hi : vp_in i n) (hv : vp_nar .boolean v = v) (kk : zW l M N S (pc + 1) L st (zup I k i.toNatClampNeg v, J, r, sh) Q) : zW l M N S pc L (.int v :: .int i :: .ref k :: st) (I, J, r, sh) Q := z_bast (h := (I, J, r, sh)) hd hs hi hv kk
theorem y_bastN {k n : Nat} {i : Int32} {v : Int32} (j : Nat) (hd : decode M.2.1 pc = .ok (.bastore, 1)) (hs : sh[k]? = some (12, n)) (hi : i = nI j) (hj : j < n) (hn : n < 2 ^ 31) (hv : vp_nar .boolean v = v) (kk : zW l M N S (pc + 1) L st (zup I k j v, J, r, sh) Q) : zW l M N S pc L (.int v :: .int i :: .ref k :: st) (I, J, r, sh) Q := by
  obtain ⟨a, b⟩ := vp_at hi hj hn
  exact y_bast hd hs a hv (by rw [b]; exact kk)
theorem y_alen {k n : Nat} (hd : decode M.2.1 pc = .ok (.arraylength, 1)) (hs : sh[k]? = some (10, n)) (kk : zW l M N S (pc + 1) L (.int (Int32.ofNat n) :: st) (I, J, r, sh) Q) : zW l M N S pc L (.ref k :: st) (I, J, r, sh) Q := z_alen (h := (I, J, r, sh)) hd hs kk
theorem y_copy {idx k0 k1 n0 n1 : Nat} {sp dp n : Int32} (hd : decode M.2.1 pc = .ok (.invokestatic idx, 3)) (hlk : Cond.methodLink M.1.cls idx arraycopyName ∈ zTs) (hnat : Cond.native arraycopyName ∈ zTs) (hstat : Cond.static arraycopyName ∈ zTs) (hini : Cond.initialized "java/lang/System" ∈ zTs) (a b c : Nat) (hs0 : sh[k0]? = some (10, n0)) (hs1 : sh[k1]? = some (10, n1)) (h1 : sp = nI a) (h2 : dp = nI b) (h3 : n = nI c) (hb : a < 2 ^ 31 ∧ b < 2 ^ 31 ∧ c < 2 ^ 31) (h4 : a + c ≤ n0) (h5 : b + c ≤ n1) (hfr : 1 ≤ M.2.2.2.2) (hst : (st.map Value.category).sum + (nativeFrameWords "java/lang/System" "arraycopy" 5 + 11) ≤ 64 * M.2.2.2.2) (kk : zW l M N S (pc + 3) L st (zcpy I k0 k1 a b c, J, r, sh) Q) : zW l M N S pc L (.int n :: .int dp :: .ref k1 :: .int sp :: .ref k0 :: st) (I, J, r, sh) Q := by
  subst h1; subst h2; subst h3
  have e1 := nI_clamp hb.1
  have e2 := nI_clamp hb.2.1
  have e3 := nI_clamp hb.2.2
  refine z_copy (h := (I, J, r, sh)) hd hlk hnat hstat hini hs0 hs1 (nI_pos hb.1) (nI_pos hb.2.1) (nI_pos hb.2.2) (by rw [e1, e3]; exact h4) (by rw [e2, e3]; exact h5) hfr hst ?_
  rw [e1, e2, e3]
  exact kk
end ZY
