-- ===== contracts of methods that make nothing; calls by number of arguments =====
abbrev zP (l : zL) (M : zMd) (as : List Value) (h : zH) (Q : Option Value → zH → Prop) : Prop := zMet l M h.2.2.2.length (zsl h.2.2.2) as h Q
abbrev zR (r : Option Value) (h1 : zH) : Option Value → zH → Prop := fun r2 h2 => r2 = r ∧ h2 = h1
theorem zMet.mono {l : zL} {M : zMd} {N S : Nat} {as : List Value} {h : zH} {Q Q2 : Option Value → zH → Prop} (hm : zMet l M N S as h Q) (hq : ∀ r h1, Q r h1 → Q2 r h1) : zMet l M N S as h Q2 := by
  intro h1 h2 h3 E
  have a := hm h1 h2 h3 E
  intro p e ha hc hk s m args below hf happ hp hK
  obtain ⟨t, o, b1, b2, b3, ⟨⟨r, h4, c1, c2, c3⟩, c4⟩, b5⟩ := a p e ha hc hk s m args below hf happ hp hK
  exact ⟨t, o, b1, b2, b3, ⟨⟨r, h4, c1, hq r h4 c2, c3⟩, c4⟩, b5⟩
theorem zW.mono {l : zL} {M : zMd} {N S pc : Nat} {L st : List Value} {h : zH} {Q Q2 : Option Value → zH → Prop} (k : zW l M N S pc L st h Q) (hq : ∀ r h1, Q r h1 → Q2 r h1) : zW l M N S pc L st h Q2 := by
  intro p e s m args below meth c E n0 z0 H locs cells slots ls R Z C A hl hR K
  exact k p e s m args below meth c E n0 z0 H locs cells slots ls R Z C A hl hR (fun r h1 H1 locs1 cells1 slots1 pc1 ls1 q => K r h1 H1 locs1 cells1 slots1 pc1 ls1 (hq r h1 q))
section ZC
variable {l : zL} {M : zMd} {N S pc : Nat} {L st : List Value} {h : zH} {Q : Option Value → zH → Prop} {M1 : zMd} {idx ci b w : Nat} {Q1 : Option Value → zH → Prop} {a1 a2 a3 a4 a5 : Value}
theorem z_V0 (hd : decode M.2.1 pc = .ok (.invokevirtual idx, 3)) (hlk : zML M.1.cls idx M1) (hk : zMk M1 0) (hv : zVirt M1 ci) (hd1 : M1.2.2.2.2 + 1 ≤ M.2.2.2.2) (hd2 : 8 + (M1.2.2.1 + 11) + 64 * M1.2.2.2.2 ≤ 64 * M.2.2.2.2) (hs : h.2.2.2[b]? = some (ci, w)) (hst : (st.map Value.category).sum ≤ 8) (hm : zP l M1 (.ref b :: []) h Q1) (hN : h.2.2.2.length ≤ N ∧ zsl h.2.2.2 ≤ S)
    (kk : ∀ (r : Option Value) (h1 : zH), Q1 r h1 → zW l M N S (pc + 3) L (r.toList ++ st) h1 Q) : zW l M N S pc L (.ref b :: st) h Q := z_callV (As := []) hd hlk hk hv hd1 hd2 hs rfl hst hm ⟨hN.1, hN.2, Nat.le_refl _, Nat.le_refl _⟩ kk
theorem z_V1 (hd : decode M.2.1 pc = .ok (.invokevirtual idx, 3)) (hlk : zML M.1.cls idx M1) (hk : zMk M1 1) (hv : zVirt M1 ci) (hd1 : M1.2.2.2.2 + 1 ≤ M.2.2.2.2) (hd2 : 8 + (M1.2.2.1 + 11) + 64 * M1.2.2.2.2 ≤ 64 * M.2.2.2.2) (hs : h.2.2.2[b]? = some (ci, w)) (hst : (st.map Value.category).sum ≤ 8) (hm : zP l M1 (.ref b :: [a1]) h Q1) (hN : h.2.2.2.length ≤ N ∧ zsl h.2.2.2 ≤ S)
    (kk : ∀ (r : Option Value) (h1 : zH), Q1 r h1 → zW l M N S (pc + 3) L (r.toList ++ st) h1 Q) : zW l M N S pc L (a1 :: .ref b :: st) h Q := z_callV (As := [a1]) hd hlk hk hv hd1 hd2 hs rfl hst hm ⟨hN.1, hN.2, Nat.le_refl _, Nat.le_refl _⟩ kk
theorem z_V2 (hd : decode M.2.1 pc = .ok (.invokevirtual idx, 3)) (hlk : zML M.1.cls idx M1) (hk : zMk M1 2) (hv : zVirt M1 ci) (hd1 : M1.2.2.2.2 + 1 ≤ M.2.2.2.2) (hd2 : 8 + (M1.2.2.1 + 11) + 64 * M1.2.2.2.2 ≤ 64 * M.2.2.2.2) (hs : h.2.2.2[b]? = some (ci, w)) (hst : (st.map Value.category).sum ≤ 8) (hm : zP l M1 (.ref b :: [a1, a2]) h Q1) (hN : h.2.2.2.length ≤ N ∧ zsl h.2.2.2 ≤ S)
    (kk : ∀ (r : Option Value) (h1 : zH), Q1 r h1 → zW l M N S (pc + 3) L (r.toList ++ st) h1 Q) : zW l M N S pc L (a2 :: a1 :: .ref b :: st) h Q := z_callV (As := [a1, a2]) hd hlk hk hv hd1 hd2 hs rfl hst hm ⟨hN.1, hN.2, Nat.le_refl _, Nat.le_refl _⟩ kk
theorem z_V3 (hd : decode M.2.1 pc = .ok (.invokevirtual idx, 3)) (hlk : zML M.1.cls idx M1) (hk : zMk M1 3) (hv : zVirt M1 ci) (hd1 : M1.2.2.2.2 + 1 ≤ M.2.2.2.2) (hd2 : 8 + (M1.2.2.1 + 11) + 64 * M1.2.2.2.2 ≤ 64 * M.2.2.2.2) (hs : h.2.2.2[b]? = some (ci, w)) (hst : (st.map Value.category).sum ≤ 8) (hm : zP l M1 (.ref b :: [a1, a2, a3]) h Q1) (hN : h.2.2.2.length ≤ N ∧ zsl h.2.2.2 ≤ S)
    (kk : ∀ (r : Option Value) (h1 : zH), Q1 r h1 → zW l M N S (pc + 3) L (r.toList ++ st) h1 Q) : zW l M N S pc L (a3 :: a2 :: a1 :: .ref b :: st) h Q := z_callV (As := [a1, a2, a3]) hd hlk hk hv hd1 hd2 hs rfl hst hm ⟨hN.1, hN.2, Nat.le_refl _, Nat.le_refl _⟩ kk
theorem z_V4 (hd : decode M.2.1 pc = .ok (.invokevirtual idx, 3)) (hlk : zML M.1.cls idx M1) (hk : zMk M1 4) (hv : zVirt M1 ci) (hd1 : M1.2.2.2.2 + 1 ≤ M.2.2.2.2) (hd2 : 8 + (M1.2.2.1 + 11) + 64 * M1.2.2.2.2 ≤ 64 * M.2.2.2.2) (hs : h.2.2.2[b]? = some (ci, w)) (hst : (st.map Value.category).sum ≤ 8) (hm : zP l M1 (.ref b :: [a1, a2, a3, a4]) h Q1) (hN : h.2.2.2.length ≤ N ∧ zsl h.2.2.2 ≤ S)
    (kk : ∀ (r : Option Value) (h1 : zH), Q1 r h1 → zW l M N S (pc + 3) L (r.toList ++ st) h1 Q) : zW l M N S pc L (a4 :: a3 :: a2 :: a1 :: .ref b :: st) h Q := z_callV (As := [a1, a2, a3, a4]) hd hlk hk hv hd1 hd2 hs rfl hst hm ⟨hN.1, hN.2, Nat.le_refl _, Nat.le_refl _⟩ kk
theorem z_V5 (hd : decode M.2.1 pc = .ok (.invokevirtual idx, 3)) (hlk : zML M.1.cls idx M1) (hk : zMk M1 5) (hv : zVirt M1 ci) (hd1 : M1.2.2.2.2 + 1 ≤ M.2.2.2.2) (hd2 : 8 + (M1.2.2.1 + 11) + 64 * M1.2.2.2.2 ≤ 64 * M.2.2.2.2) (hs : h.2.2.2[b]? = some (ci, w)) (hst : (st.map Value.category).sum ≤ 8) (hm : zP l M1 (.ref b :: [a1, a2, a3, a4, a5]) h Q1) (hN : h.2.2.2.length ≤ N ∧ zsl h.2.2.2 ≤ S)
    (kk : ∀ (r : Option Value) (h1 : zH), Q1 r h1 → zW l M N S (pc + 3) L (r.toList ++ st) h1 Q) : zW l M N S pc L (a5 :: a4 :: a3 :: a2 :: a1 :: .ref b :: st) h Q := z_callV (As := [a1, a2, a3, a4, a5]) hd hlk hk hv hd1 hd2 hs rfl hst hm ⟨hN.1, hN.2, Nat.le_refl _, Nat.le_refl _⟩ kk
theorem z_S0 (hd : decode M.2.1 pc = .ok (.invokestatic idx, 3)) (hlk : zML M.1.cls idx M1) (hk : zMk M1 0) (hv : Cond.static M1.1 ∈ zTs) (hd1 : M1.2.2.2.2 + 1 ≤ M.2.2.2.2) (hd2 : 8 + (M1.2.2.1 + 11) + 64 * M1.2.2.2.2 ≤ 64 * M.2.2.2.2) (hst : (st.map Value.category).sum ≤ 8) (hm : zP l M1 [] h Q1) (hN : h.2.2.2.length ≤ N ∧ zsl h.2.2.2 ≤ S)
    (kk : ∀ (r : Option Value) (h1 : zH), Q1 r h1 → zW l M N S (pc + 3) L (r.toList ++ st) h1 Q) : zW l M N S pc L (st) h Q := z_callS (As := []) hd hlk hk hv hd1 hd2 rfl hst hm ⟨hN.1, hN.2, Nat.le_refl _, Nat.le_refl _⟩ kk
theorem z_S1 (hd : decode M.2.1 pc = .ok (.invokestatic idx, 3)) (hlk : zML M.1.cls idx M1) (hk : zMk M1 1) (hv : Cond.static M1.1 ∈ zTs) (hd1 : M1.2.2.2.2 + 1 ≤ M.2.2.2.2) (hd2 : 8 + (M1.2.2.1 + 11) + 64 * M1.2.2.2.2 ≤ 64 * M.2.2.2.2) (hst : (st.map Value.category).sum ≤ 8) (hm : zP l M1 [a1] h Q1) (hN : h.2.2.2.length ≤ N ∧ zsl h.2.2.2 ≤ S)
    (kk : ∀ (r : Option Value) (h1 : zH), Q1 r h1 → zW l M N S (pc + 3) L (r.toList ++ st) h1 Q) : zW l M N S pc L (a1 :: st) h Q := z_callS (As := [a1]) hd hlk hk hv hd1 hd2 rfl hst hm ⟨hN.1, hN.2, Nat.le_refl _, Nat.le_refl _⟩ kk
theorem z_S2 (hd : decode M.2.1 pc = .ok (.invokestatic idx, 3)) (hlk : zML M.1.cls idx M1) (hk : zMk M1 2) (hv : Cond.static M1.1 ∈ zTs) (hd1 : M1.2.2.2.2 + 1 ≤ M.2.2.2.2) (hd2 : 8 + (M1.2.2.1 + 11) + 64 * M1.2.2.2.2 ≤ 64 * M.2.2.2.2) (hst : (st.map Value.category).sum ≤ 8) (hm : zP l M1 [a1, a2] h Q1) (hN : h.2.2.2.length ≤ N ∧ zsl h.2.2.2 ≤ S)
    (kk : ∀ (r : Option Value) (h1 : zH), Q1 r h1 → zW l M N S (pc + 3) L (r.toList ++ st) h1 Q) : zW l M N S pc L (a2 :: a1 :: st) h Q := z_callS (As := [a1, a2]) hd hlk hk hv hd1 hd2 rfl hst hm ⟨hN.1, hN.2, Nat.le_refl _, Nat.le_refl _⟩ kk
theorem z_S3 (hd : decode M.2.1 pc = .ok (.invokestatic idx, 3)) (hlk : zML M.1.cls idx M1) (hk : zMk M1 3) (hv : Cond.static M1.1 ∈ zTs) (hd1 : M1.2.2.2.2 + 1 ≤ M.2.2.2.2) (hd2 : 8 + (M1.2.2.1 + 11) + 64 * M1.2.2.2.2 ≤ 64 * M.2.2.2.2) (hst : (st.map Value.category).sum ≤ 8) (hm : zP l M1 [a1, a2, a3] h Q1) (hN : h.2.2.2.length ≤ N ∧ zsl h.2.2.2 ≤ S)
    (kk : ∀ (r : Option Value) (h1 : zH), Q1 r h1 → zW l M N S (pc + 3) L (r.toList ++ st) h1 Q) : zW l M N S pc L (a3 :: a2 :: a1 :: st) h Q := z_callS (As := [a1, a2, a3]) hd hlk hk hv hd1 hd2 rfl hst hm ⟨hN.1, hN.2, Nat.le_refl _, Nat.le_refl _⟩ kk
theorem z_S4 (hd : decode M.2.1 pc = .ok (.invokestatic idx, 3)) (hlk : zML M.1.cls idx M1) (hk : zMk M1 4) (hv : Cond.static M1.1 ∈ zTs) (hd1 : M1.2.2.2.2 + 1 ≤ M.2.2.2.2) (hd2 : 8 + (M1.2.2.1 + 11) + 64 * M1.2.2.2.2 ≤ 64 * M.2.2.2.2) (hst : (st.map Value.category).sum ≤ 8) (hm : zP l M1 [a1, a2, a3, a4] h Q1) (hN : h.2.2.2.length ≤ N ∧ zsl h.2.2.2 ≤ S)
    (kk : ∀ (r : Option Value) (h1 : zH), Q1 r h1 → zW l M N S (pc + 3) L (r.toList ++ st) h1 Q) : zW l M N S pc L (a4 :: a3 :: a2 :: a1 :: st) h Q := z_callS (As := [a1, a2, a3, a4]) hd hlk hk hv hd1 hd2 rfl hst hm ⟨hN.1, hN.2, Nat.le_refl _, Nat.le_refl _⟩ kk
theorem z_S5 (hd : decode M.2.1 pc = .ok (.invokestatic idx, 3)) (hlk : zML M.1.cls idx M1) (hk : zMk M1 5) (hv : Cond.static M1.1 ∈ zTs) (hd1 : M1.2.2.2.2 + 1 ≤ M.2.2.2.2) (hd2 : 8 + (M1.2.2.1 + 11) + 64 * M1.2.2.2.2 ≤ 64 * M.2.2.2.2) (hst : (st.map Value.category).sum ≤ 8) (hm : zP l M1 [a1, a2, a3, a4, a5] h Q1) (hN : h.2.2.2.length ≤ N ∧ zsl h.2.2.2 ≤ S)
    (kk : ∀ (r : Option Value) (h1 : zH), Q1 r h1 → zW l M N S (pc + 3) L (r.toList ++ st) h1 Q) : zW l M N S pc L (a5 :: a4 :: a3 :: a2 :: a1 :: st) h Q := z_callS (As := [a1, a2, a3, a4, a5]) hd hlk hk hv hd1 hd2 rfl hst hm ⟨hN.1, hN.2, Nat.le_refl _, Nat.le_refl _⟩ kk
theorem z_S6 {a6 : Value} (hd : decode M.2.1 pc = .ok (.invokestatic idx, 3)) (hlk : zML M.1.cls idx M1) (hk : zMk M1 6) (hv : Cond.static M1.1 ∈ zTs) (hd1 : M1.2.2.2.2 + 1 ≤ M.2.2.2.2) (hd2 : 8 + (M1.2.2.1 + 11) + 64 * M1.2.2.2.2 ≤ 64 * M.2.2.2.2) (hst : (st.map Value.category).sum ≤ 8) (hm : zP l M1 [a1, a2, a3, a4, a5, a6] h Q1) (hN : h.2.2.2.length ≤ N ∧ zsl h.2.2.2 ≤ S)
    (kk : ∀ (r : Option Value) (h1 : zH), Q1 r h1 → zW l M N S (pc + 3) L (r.toList ++ st) h1 Q) : zW l M N S pc L (a6 :: a5 :: a4 :: a3 :: a2 :: a1 :: st) h Q := z_callS (As := [a1, a2, a3, a4, a5, a6]) hd hlk hk hv hd1 hd2 rfl hst hm ⟨hN.1, hN.2, Nat.le_refl _, Nat.le_refl _⟩ kk
end ZC
/-- places by natural numbers -/
theorem vp_at {i : Int32} {j n : Nat} (hi : i = nI j) (hj : j < n) (hn : n < 2 ^ 31) : vp_in i n ∧ i.toNatClampNeg = j := by
  subst hi
  exact ⟨vp_in_nI hj hn, nI_clamp (by omega)⟩
section ZI
variable {l : zL} {M : zMd} {N S pc : Nat} {L st : List Value} {h : zH} {Q : Option Value → zH → Prop}
theorem z_ialdN {k n : Nat} {i : Int32} (j : Nat) (hd : decode M.2.1 pc = .ok (.iaload, 1)) (hs : h.2.2.2[k]? = some (10, n)) (hi : i = nI j) (hj : j < n) (hn : n < 2 ^ 31) (kk : zW l M N S (pc + 1) L (.int (h.1 k j) :: st) h Q) : zW l M N S pc L (.int i :: .ref k :: st) h Q := by
  obtain ⟨a, b⟩ := vp_at hi hj hn
  exact z_iald hd hs a (by rw [b]; exact kk)
theorem z_iastN {k n : Nat} {i v : Int32} (j : Nat) (hd : decode M.2.1 pc = .ok (.iastore, 1)) (hs : h.2.2.2[k]? = some (10, n)) (hi : i = nI j) (hj : j < n) (hn : n < 2 ^ 31) (kk : zW l M N S (pc + 1) L st (zup h.1 k j v, h.2) Q) : zW l M N S pc L (.int v :: .int i :: .ref k :: st) h Q := by
  obtain ⟨a, b⟩ := vp_at hi hj hn
  exact z_iast hd hs a (by rw [b]; exact kk)
theorem z_laldN {k n : Nat} {i : Int32} (j : Nat) (hd : decode M.2.1 pc = .ok (.laload, 1)) (hs : h.2.2.2[k]? = some (11, n)) (hi : i = nI j) (hj : j < n) (hn : n < 2 ^ 31) (kk : zW l M N S (pc + 1) L (.long (h.2.1 k j) :: st) h Q) : zW l M N S pc L (.int i :: .ref k :: st) h Q := by
  obtain ⟨a, b⟩ := vp_at hi hj hn
  exact z_lald hd hs a (by rw [b]; exact kk)
theorem z_lastN {k n : Nat} {i : Int32} {v : Int64} (j : Nat) (hd : decode M.2.1 pc = .ok (.lastore, 1)) (hs : h.2.2.2[k]? = some (11, n)) (hi : i = nI j) (hj : j < n) (hn : n < 2 ^ 31) (kk : zW l M N S (pc + 1) L st (h.1, zupJ h.2.1 k j v, h.2.2) Q) : zW l M N S pc L (.long v :: .int i :: .ref k :: st) h Q := by
  obtain ⟨a, b⟩ := vp_at hi hj hn
  exact z_last hd hs a (by rw [b]; exact kk)
theorem z_aaldIN {k n k1 : Nat} {i : Int32} (j : Nat) (hd : decode M.2.1 pc = .ok (.aaload, 1)) (hs : h.2.2.2[k]? = some (14, n)) (hi : i = nI j) (hj : j < n) (hn : n < 2 ^ 31) (hr : h.2.2.1 k j = some k1) (kk : zW l M N S (pc + 1) L (.ref k1 :: st) h Q) : zW l M N S pc L (.int i :: .ref k :: st) h Q := by
  obtain ⟨a, b⟩ := vp_at hi hj hn
  exact z_aaldI hd hs a (by rw [b]; exact hr) kk
theorem z_aaldTN {k n k1 : Nat} {i : Int32} (j : Nat) (hd : decode M.2.1 pc = .ok (.aaload, 1)) (hs : h.2.2.2[k]? = some (13, n)) (hi : i = nI j) (hj : j < n) (hn : n < 2 ^ 31) (hr : h.2.2.1 k j = some k1) (kk : zW l M N S (pc + 1) L (.ref k1 :: st) h Q) : zW l M N S pc L (.int i :: .ref k :: st) h Q := by
  obtain ⟨a, b⟩ := vp_at hi hj hn
  exact z_aaldT hd hs a (by rw [b]; exact hr) kk
theorem z_nm {x y : Int32} (e : x = y) (k : zW l M N S pc L (.int y :: st) h Q) : zW l M N S pc L (.int x :: st) h Q := e ▸ k
end ZI
theorem zup_same (I : Nat → Nat → Int32) (k j : Nat) (v : Int32) : zup I k j v k j = v := if_pos ⟨rfl, rfl⟩
theorem zup_ne (I : Nat → Nat → Int32) {k j a b : Nat} (v : Int32) (h : a ≠ k ∨ b ≠ j) : zup I k j v a b = I a b := if_neg (fun q => h.elim (fun z => z q.1) (fun z => z q.2))
theorem zup_nj (I : Nat → Nat → Int32) {k j a b : Nat} (v : Int32) (h : b ≠ j) : zup I k j v a b = I a b := zup_ne I v (Or.inr h)
theorem zup_nk (I : Nat → Nat → Int32) {k j a b : Nat} (v : Int32) (h : a ≠ k) : zup I k j v a b = I a b := zup_ne I v (Or.inl h)
