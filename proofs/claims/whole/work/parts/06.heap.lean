-- ===== the heap's rules =====
def zup (I : Nat → Nat → Int32) (k j : Nat) (v : Int32) : Nat → Nat → Int32 := fun a b => if a = k ∧ b = j then v else I a b
def zupJ (I : Nat → Nat → Int64) (k j : Nat) (v : Int64) : Nat → Nat → Int64 := fun a b => if a = k ∧ b = j then v else I a b
def zupR (I : Nat → Nat → Option Nat) (k j : Nat) (v : Option Nat) : Nat → Nat → Option Nat := fun a b => if a = k ∧ b = j then v else I a b
theorem zup_row (I : Nat → Nat → Int32) (k j : Nat) (v : Int32) : zup I k j v k = upd (I k) j v := by
  funext b; by_cases hb : b = j <;> simp [zup, upd, hb]
theorem zup_other (I : Nat → Nat → Int32) {k i : Nat} (j : Nat) (v : Int32) (h : i ≠ k) : zup I k j v i = I i := by
  funext b; simp [zup, h]
theorem zupJ_row (I : Nat → Nat → Int64) (k j : Nat) (v : Int64) : zupJ I k j v k = vp_updL (I k) j v := by
  funext b; by_cases hb : b = j <;> simp [zupJ, vp_updL, hb]
theorem zupJ_other (I : Nat → Nat → Int64) {k i : Nat} (j : Nat) (v : Int64) (h : i ≠ k) : zupJ I k j v i = I i := by
  funext b; simp [zupJ, h]
theorem zupR_row (I : Nat → Nat → Option Nat) (k j : Nat) (v : Option Nat) : zupR I k j v k = va_up (I k) j v := by
  funext b; by_cases hb : b = j <;> simp [zupR, va_up, hb]
theorem zupR_other (I : Nat → Nat → Option Nat) {k i : Nat} (j : Nat) (v : Option Nat) (h : i ≠ k) : zupR I k j v i = I i := by
  funext b; simp [zupR, h]
/-- a change of one cell -/
theorem zws_set {E : zEn} {h h1 : zH} {k : Nat} {q : zSh} {x : va_E} (hs : h.2.2.2[k]? = some q) (hsh : h1.2.2.2 = h.2.2.2) (ho : ∀ i, i ≠ k → h1.1 i = h.1 i ∧ h1.2.1 i = h.2.1 i ∧ h1.2.2.1 i = h.2.2.1 i)
    (hx : zcell E (h1.1 k) (h1.2.1 k) (h1.2.2.1 k) q = x) : (zws E h).set k (zad E k, x) = zws E h1 := by
  apply List.ext_getElem?
  intro i
  have hk : k < (zws E h).length := by rw [zws_len]; exact (List.getElem?_eq_some_iff.mp hs).1
  by_cases hi : k = i
  · subst hi
    rw [List.getElem?_set_self hk, zws_get, hsh, hs, ← hx]
    rfl
  · rw [List.getElem?_set_ne hi, zws_get, zws_get, hsh]
    obtain ⟨a, b, c⟩ := ho i (fun q => hi q.symm)
    rw [a, b, c]
theorem zcell_obj {E : zEn} {i : Nat → Int32} {g : Nat → Int64} {r : Nat → Option Nat} {ci n : Nat} (h : ci < 10) : zcell E i g r (ci, n) = .inr (ci, zfs E i r ci) := if_pos h
theorem zfs_get {E : zEn} {i : Nat → Int32} {r : Nat → Option Nat} {ci j : Nat} {b : Bool} (h : (zft ci)[j]? = some b) : (zfs E i r ci)[j]? = some (zfv E i r j b) := by
  unfold zfs; rw [List.getElem?_mapIdx, h]; rfl
theorem zfs_len (E : zEn) (i : Nat → Int32) (r : Nat → Option Nat) (ci : Nat) : (zfs E i r ci).length = (zft ci).length := by unfold zfs; rw [List.length_mapIdx]
theorem zfs_setI {E : zEn} {i : Nat → Int32} {r : Nat → Option Nat} {ci j : Nat} {v : Int32} (h : (zft ci)[j]? = some false) : zfs E (upd i j v) r ci = (zfs E i r ci).set j (.int v) := by
  apply List.ext_getElem?
  intro a
  have hj : j < (zfs E i r ci).length := by rw [zfs_len]; exact (List.getElem?_eq_some_iff.mp h).1
  by_cases ha : j = a
  · subst ha
    rw [List.getElem?_set_self hj, zfs_get h]
    simp [zfv, upd]
  · rw [List.getElem?_set_ne ha]
    unfold zfs
    rw [List.getElem?_mapIdx, List.getElem?_mapIdx]
    have : ∀ b, zfv E (upd i j v) r a b = zfv E i r a b := fun b => by have hn : ¬ a = j := fun q => ha q.symm; cases b <;> simp [zfv, upd, hn]
    simp only [this]
theorem zfs_setR {E : zEn} {i : Nat → Int32} {r : Nat → Option Nat} {ci j k : Nat} (h : (zft ci)[j]? = some true) : zfs E i (va_up r j (some k)) ci = (zfs E i r ci).set j (.ref (zad E k)) := by
  apply List.ext_getElem?
  intro a
  have hj : j < (zfs E i r ci).length := by rw [zfs_len]; exact (List.getElem?_eq_some_iff.mp h).1
  by_cases ha : j = a
  · subst ha
    rw [List.getElem?_set_self hj, zfs_get h]
    simp [zfv, va_up, va_rf]
  · rw [List.getElem?_set_ne ha]
    unfold zfs
    rw [List.getElem?_mapIdx, List.getElem?_mapIdx]
    have : ∀ b, zfv E i (va_up r j (some k)) a b = zfv E i r a b := fun b => by have hn : ¬ a = j := fun q => ha q.symm; cases b <;> simp [zfv, va_up, hn]
    simp only [this]
theorem zrf_up (E : zEn) (r : Nat → Option Nat) (j k : Nat) : zrf E (va_up r j (some k)) = va_up (zrf E r) j (some (zad E k)) := by
  funext b; by_cases hb : b = j <;> simp [zrf, va_up, hb]
/-- the classes' own words -/
theorem zin : ∀ (ci : Nat) (q : vw_C), vwCl[ci]? = some q → ∀ w ∈ u_ws q.1 q.2.1 q.2.2, w ∈ zTs := by
  intro ci q hq
  match ci, hq with
  | 0, hq => cases hq; decide +kernel
  | 1, hq => cases hq; decide +kernel
  | 2, hq => cases hq; decide +kernel
  | 3, hq => cases hq; decide +kernel
  | 4, hq => cases hq; decide +kernel
  | 5, hq => cases hq; decide +kernel
  | 6, hq => cases hq; decide +kernel
  | 7, hq => cases hq; decide +kernel
  | 8, hq => cases hq; decide +kernel
  | 9, hq => cases hq; decide +kernel
  | k + 10, hq => simp [vwCl] at hq
theorem ztyok : ∀ (ci : Nat) (q : vw_C), vwCl[ci]? = some q → ∀ k, k < q.2.2 → parseFieldDescriptor (q.2.1 k).2.2.1 = some (zty ci k) := by
  intro ci q hq
  match ci, hq with
  | 0, hq => cases hq; exact tyX0_ok
  | 1, hq => cases hq; exact tyX1_ok
  | 2, hq => cases hq; exact tyX2_ok
  | 3, hq => cases hq; exact tyX3_ok
  | 4, hq => cases hq; exact tyX4_ok
  | 5, hq => cases hq; exact tyX5_ok
  | 6, hq => cases hq; exact tyX6_ok
  | 7, hq => cases hq; exact tyX7_ok
  | 8, hq => cases hq; exact tyX8_ok
  | 9, hq => cases hq; exact tyX9_ok
  | k + 10, hq => simp [vwCl] at hq
theorem znmok : ∀ (ci : Nat) (q : vw_C), vwCl[ci]? = some q → ∀ a, a < q.2.2 → ∀ b, b < q.2.2 → a ≠ b → (q.2.1 a).2.1 ≠ (q.2.1 b).2.1 := by
  intro ci q hq
  match ci, hq with
  | 0, hq => cases hq; exact nmX0
  | 1, hq => cases hq; exact nmX1
  | 2, hq => cases hq; exact nmX2
  | 3, hq => cases hq; exact nmX3
  | 4, hq => cases hq; exact nmX4
  | 5, hq => cases hq; exact nmX5
  | 6, hq => cases hq; exact nmX6
  | 7, hq => cases hq; exact nmX7
  | 8, hq => cases hq; exact nmX8
  | 9, hq => cases hq; exact nmX9
  | k + 10, hq => simp [vwCl] at hq
theorem zlt10 {ci : Nat} {q : vw_C} (h : vwCl[ci]? = some q) : ci < 10 := (List.getElem?_eq_some_iff.mp h).1
/-- entry idx of a class's constants is field j of class ci -/
def zFL (own : String) (idx ci j : Nat) : Prop := ∃ q : vw_C, vwCl[ci]? = some q ∧ j < q.2.2 ∧ (Cond.fieldLink own idx (q.2.1 j).1 (q.2.1 j).2.1 (q.2.1 j).2.2.1 ∈ zTs ∨ ∃ host, Cond.fieldLinkNest own idx (q.2.1 j).1 (q.2.1 j).2.1 (q.2.1 j).2.2.1 host ∈ zTs)
/-- .. and may be written outside a constructor, or is a final one of the class itself -/
def zFin (ci j : Nat) (b : Bool) : Prop := ∃ q : vw_C, vwCl[ci]? = some q ∧ (q.2.1 j).2.2.2 = b
section ZH
variable {l : zL} {M : zMd} {N S pc : Nat} {L st : List Value} {h : zH} {Q : Option Value → zH → Prop}
theorem z_getV {idx ci j k n : Nat} {b : Bool} {v : Value} (hd : decode M.2.1 pc = .ok (.getfield idx, 3)) (hf : zFL M.1.cls idx ci j) (ht : (zft ci)[j]? = some b) (hs : h.2.2.2[k]? = some (ci, n)) (hv : ∀ E, zfv E (h.1 k) (h.2.2.1 k) j b = ze E v)
    (kk : zW l M N S (pc + 3) L (v :: st) h Q) : zW l M N S pc L (.ref k :: st) h Q := by
  intro p e s m args below meth c E n0 z0 H locs cells slots ls R Z C A hl hR K
  obtain ⟨⟨nm, T, N'⟩, hc, hj, hw⟩ := hf
  have hts := zTb_arg C.2.2.2.2.2.2.1 args
  have he : (zws E h)[k]? = some (zad E k, .inr (ci, zfs E (h.1 k) (h.2.2.1 k) ci)) := by rw [zws_at hs, zcell_obj (zlt10 hc)]
  have hg : (zfs E (h.1 k) (h.2.2.1 k) ci)[j]? = some (ze E v) := by rw [zfs_get ht, hv E]
  rcases hw with hw | ⟨host, hw⟩
  · exact va_get C.1 C.2.1 hts (zin ci _ hc) C.2.2.2.2.2.1 C.2.2.2.2.2.2.2.1 A.1 k he hc j hj (hts _ hw) (fun _ h9 => h9) hg hd (kk p e s m args below meth c E n0 z0 H locs cells slots ls R Z C A hl hR K)
  · exact va_getN C.1 C.2.1 hts (zin ci _ hc) C.2.2.2.2.2.1 C.2.2.2.2.2.2.2.1 A.1 k he hc j hj (hts _ hw) (fun _ h9 => h9) hg hd (kk p e s m args below meth c E n0 z0 H locs cells slots ls R Z C A hl hR K)
theorem z_getI {idx ci j k n : Nat} (hd : decode M.2.1 pc = .ok (.getfield idx, 3)) (hf : zFL M.1.cls idx ci j) (ht : (zft ci)[j]? = some false) (hs : h.2.2.2[k]? = some (ci, n))
    (kk : zW l M N S (pc + 3) L (.int (h.1 k j) :: st) h Q) : zW l M N S pc L (.ref k :: st) h Q := z_getV hd hf ht hs (fun E => rfl) kk
theorem z_getR {idx ci j k n k1 : Nat} (hd : decode M.2.1 pc = .ok (.getfield idx, 3)) (hf : zFL M.1.cls idx ci j) (ht : (zft ci)[j]? = some true) (hs : h.2.2.2[k]? = some (ci, n)) (hr : h.2.2.1 k j = some k1)
    (kk : zW l M N S (pc + 3) L (.ref k1 :: st) h Q) : zW l M N S pc L (.ref k :: st) h Q := z_getV hd hf ht hs (fun E => by unfold zfv; rw [if_pos rfl, hr]; rfl) kk
theorem zAt_set {E : zEn} {n0 z0 : Nat} {s : State} {H H1 : Heap} {locs locs1 : List Loc} {cells slots : Nat} {h1 : zH} (A : zAt M N S E n0 z0 s H locs cells slots h) (hsh : h1.2.2.2 = h.2.2.2) (hP : va_P E.1 vwCl (zws E h1) H1) (hS : va_S (zA E) s.heap H1 locs1) : zAt M N S E n0 z0 s H1 locs1 cells slots h1 := by
  obtain ⟨-, -, a3, a4, a5, a6, a7⟩ := A
  exact ⟨hP, hS, by rw [hsh]; exact a3, by rw [hsh]; exact a4, by rw [hsh]; exact a5, by rw [hsh]; exact a6, a7⟩
theorem z_putV {idx ci j k n : Nat} {v : Value} {h1 : zH} (hd : decode M.2.1 pc = .ok (.putfield idx, 3)) (hf : zFL M.1.cls idx ci j) (hfin : zFin ci j false ∨ (zFin ci j true ∧ M.1.name = "<init>" ∧ ∃ q : vw_C, vwCl[ci]? = some q ∧ (q.2.1 j).1 = M.1.cls ∧ Cond.fieldLink M.1.cls idx (q.2.1 j).1 (q.2.1 j).2.1 (q.2.1 j).2.2.1 ∈ zTs)) (hlen : j < (zft ci).length) (hs : h.2.2.2[k]? = some (ci, n))
    (hfit : ∀ E, narrow (zty ci j) (ze E v) = ze E v ∧ fits (zty ci j) (ze E v) = true) (hsh : h1.2.2.2 = h.2.2.2) (ho : ∀ i, i ≠ k → h1.1 i = h.1 i ∧ h1.2.1 i = h.2.1 i ∧ h1.2.2.1 i = h.2.2.1 i)
    (hx : ∀ E, zfs E (h1.1 k) (h1.2.2.1 k) ci = (zfs E (h.1 k) (h.2.2.1 k) ci).set j (ze E v))
    (kk : zW l M N S (pc + 3) L st h1 Q) : zW l M N S pc L (v :: .ref k :: st) h Q := by
  intro p e s m args below meth c E n0 z0 H locs cells slots ls R Z C A hl hR K
  obtain ⟨⟨nm, T, N'⟩, hc, hj, hw⟩ := hf
  have hts := zTb_arg C.2.2.2.2.2.2.1 args
  have he : (zws E h)[k]? = some (zad E k, .inr (ci, zfs E (h.1 k) (h.2.2.1 k) ci)) := by rw [zws_at hs, zcell_obj (zlt10 hc)]
  have hset : (zws E h).set k (zad E k, .inr (ci, (zfs E (h.1 k) (h.2.2.1 k) ci).set j (ze E v))) = zws E h1 := zws_set hs hsh ho (by rw [zcell_obj (zlt10 hc), hx E])
  have hgo : ∀ (H1 : Heap) (locs1 : List Loc), va_P E.1 vwCl ((zws E h).set k (zad E k, .inr (ci, (zfs E (h.1 k) (h.2.2.1 k) ci).set j (ze E v)))) H1 → va_D (zA E) ((zws E h).set k (zad E k, .inr (ci, (zfs E (h.1 k) (h.2.2.1 k) ci).set j (ze E v)))) → va_S (zA E) s.heap H1 locs1 → W p l.1 e R s m args below meth c H1 locs1 cells slots Z (F0 m (pc + 3) ls (st.map (ze E))) := by
    intro H1 locs1 hP1 _ hS1
    rw [hset] at hP1
    exact kk p e s m args below meth c E n0 z0 H1 locs1 cells slots ls R Z C (zAt_set A hsh hP1 hS1) hl hR K
  have hl' : j < (zfs E (h.1 k) (h.2.2.1 k) ci).length := by rw [zfs_len]; exact hlen
  rcases hfin with ⟨q, hq, hf0⟩ | ⟨⟨q, hq, hf1⟩, hin, q2, hq2, hown, hw2⟩
  · cases hc.symm.trans hq
    rcases hw with hw | ⟨host, hw⟩
    · exact va_put C.1 C.2.1 hts (zin ci _ hc) (zty ci) (ztyok ci _ hc) (znmok ci _ hc) C.2.2.2.2.2.1 C.2.2.2.2.2.2.2.1 A.1 (zD A.2.2.2.2.1 A.2.2.2.2.2.2) A.2.1 k he hc j hj (hts _ hw) (fun _ h9 => h9) hf0 (ztyok ci _ hc j hj) (hfit E).1 (hfit E).2 hl' hd hgo
    · exact va_putN C.1 C.2.1 hts (zin ci _ hc) (zty ci) (ztyok ci _ hc) (znmok ci _ hc) C.2.2.2.2.2.1 C.2.2.2.2.2.2.2.1 A.1 (zD A.2.2.2.2.1 A.2.2.2.2.2.2) A.2.1 k he hc j hj (hts _ hw) (fun _ h9 => h9) hf0 (ztyok ci _ hc j hj) (hfit E).1 (hfit E).2 hl' hd hgo
  · cases hc.symm.trans hq
    cases hc.symm.trans hq2
    exact va_putF C.1 C.2.1 hts (zin ci _ hc) (zty ci) (ztyok ci _ hc) (znmok ci _ hc) C.2.2.2.2.2.1 C.2.2.2.2.2.2.2.1 A.1 (zD A.2.2.2.2.1 A.2.2.2.2.2.2) A.2.1 k he hc j hj (hts _ hw2) (fun _ h9 => h9) hf1 (C.2.2.2.2.2.2.2.2.2.2.trans hin) hown (ztyok ci _ hc j hj) (hfit E).1 (hfit E).2 hl' hd hgo
theorem z_putI {idx ci j k n : Nat} {v : Int32} (hd : decode M.2.1 pc = .ok (.putfield idx, 3)) (hf : zFL M.1.cls idx ci j) (hfin : zFin ci j false) (ht : (zft ci)[j]? = some false) (hs : h.2.2.2[k]? = some (ci, n)) (hfit : narrow (zty ci j) (.int v) = .int v ∧ fits (zty ci j) (.int v) = true)
    (kk : zW l M N S (pc + 3) L st (zup h.1 k j v, h.2) Q) : zW l M N S pc L (.int v :: .ref k :: st) h Q :=
  z_putV (h1 := (zup h.1 k j v, h.2)) hd hf (Or.inl hfin) (List.getElem?_eq_some_iff.mp ht).1 hs (fun _ => hfit) rfl (fun i hi => ⟨zup_other _ _ _ hi, rfl, rfl⟩) (fun E => by show zfs E (zup h.1 k j v k) _ _ = _; rw [zup_row, zfs_setI ht]; rfl) kk
theorem z_putR {idx ci j k n k1 : Nat} (hd : decode M.2.1 pc = .ok (.putfield idx, 3)) (hf : zFL M.1.cls idx ci j) (hfin : zFin ci j false ∨ (zFin ci j true ∧ M.1.name = "<init>" ∧ ∃ q : vw_C, vwCl[ci]? = some q ∧ (q.2.1 j).1 = M.1.cls ∧ Cond.fieldLink M.1.cls idx (q.2.1 j).1 (q.2.1 j).2.1 (q.2.1 j).2.2.1 ∈ zTs)) (ht : (zft ci)[j]? = some true) (hs : h.2.2.2[k]? = some (ci, n)) (hfit : ∀ a : Nat, narrow (zty ci j) (.ref a) = .ref a ∧ fits (zty ci j) (.ref a) = true)
    (kk : zW l M N S (pc + 3) L st (h.1, h.2.1, zupR h.2.2.1 k j (some k1), h.2.2.2) Q) : zW l M N S pc L (.ref k1 :: .ref k :: st) h Q :=
  z_putV (h1 := (h.1, h.2.1, zupR h.2.2.1 k j (some k1), h.2.2.2)) hd hf hfin (List.getElem?_eq_some_iff.mp ht).1 hs (fun E => hfit _) rfl (fun i hi => ⟨rfl, rfl, zupR_other _ _ _ hi⟩) (fun E => by show zfs E _ (zupR h.2.2.1 k j (some k1) k) _ = _; rw [zupR_row, zfs_setR ht]; rfl) kk
-- arrays
theorem z_iald {k n : Nat} {i : Int32} (hd : decode M.2.1 pc = .ok (.iaload, 1)) (hs : h.2.2.2[k]? = some (10, n)) (hi : vp_in i n) (kk : zW l M N S (pc + 1) L (.int (h.1 k i.toNatClampNeg) :: st) h Q) : zW l M N S pc L (.int i :: .ref k :: st) h Q := by
  intro p e s m args below meth c E n0 z0 H locs cells slots ls R Z C A hl hR K
  exact va_iald C.1 C.2.1 C.2.2.2.2.2.2.2.1 A.1 k 0 (zws_at hs) rfl hi hd (kk p e s m args below meth c E n0 z0 H locs cells slots ls R Z C A hl hR K)
theorem z_lald {k n : Nat} {i : Int32} (hd : decode M.2.1 pc = .ok (.laload, 1)) (hs : h.2.2.2[k]? = some (11, n)) (hi : vp_in i n) (kk : zW l M N S (pc + 1) L (.long (h.2.1 k i.toNatClampNeg) :: st) h Q) : zW l M N S pc L (.int i :: .ref k :: st) h Q := by
  intro p e s m args below meth c E n0 z0 H locs cells slots ls R Z C A hl hR K
  exact va_lald C.1 C.2.1 C.2.2.2.2.2.2.2.1 A.1 k 1 (zws_at hs) rfl hi hd (kk p e s m args below meth c E n0 z0 H locs cells slots ls R Z C A hl hR K)
theorem z_bald {k n : Nat} {i : Int32} (hd : decode M.2.1 pc = .ok (.baload, 1)) (hs : h.2.2.2[k]? = some (12, n)) (hi : vp_in i n) (kk : zW l M N S (pc + 1) L (.int (h.1 k i.toNatClampNeg) :: st) h Q) : zW l M N S pc L (.int i :: .ref k :: st) h Q := by
  intro p e s m args below meth c E n0 z0 H locs cells slots ls R Z C A hl hR K
  exact va_zald C.1 C.2.1 C.2.2.2.2.2.2.2.1 A.1 k 2 (zws_at hs) rfl hi hd (kk p e s m args below meth c E n0 z0 H locs cells slots ls R Z C A hl hR K)
theorem z_aaldT {k n k1 : Nat} {i : Int32} (hd : decode M.2.1 pc = .ok (.aaload, 1)) (hs : h.2.2.2[k]? = some (13, n)) (hi : vp_in i n) (hr : h.2.2.1 k i.toNatClampNeg = some k1) (kk : zW l M N S (pc + 1) L (.ref k1 :: st) h Q) : zW l M N S pc L (.int i :: .ref k :: st) h Q := by
  intro p e s m args below meth c E n0 z0 H locs cells slots ls R Z C A hl hR K
  have q := kk p e s m args below meth c E n0 z0 H locs cells slots ls R Z C A hl hR K
  have e1 : va_rf (zrf E (h.2.2.1 k) i.toNatClampNeg) = ze E (.ref k1) := by unfold zrf; rw [hr]; rfl
  exact va_aldq C.1 C.2.1 C.2.2.2.2.2.2.2.1 A.1 k 3 (zws_at hs) rfl hi hd (by rw [e1]; exact q)
theorem z_aaldI {k n k1 : Nat} {i : Int32} (hd : decode M.2.1 pc = .ok (.aaload, 1)) (hs : h.2.2.2[k]? = some (14, n)) (hi : vp_in i n) (hr : h.2.2.1 k i.toNatClampNeg = some k1) (kk : zW l M N S (pc + 1) L (.ref k1 :: st) h Q) : zW l M N S pc L (.int i :: .ref k :: st) h Q := by
  intro p e s m args below meth c E n0 z0 H locs cells slots ls R Z C A hl hR K
  have q := kk p e s m args below meth c E n0 z0 H locs cells slots ls R Z C A hl hR K
  have e1 : va_rf (zrf E (h.2.2.1 k) i.toNatClampNeg) = ze E (.ref k1) := by unfold zrf; rw [hr]; rfl
  have hlt : i.toNatClampNeg < n := Nat.not_le.mp fun q => hi (Or.inr q)
  exact W.aald (v := ze E (.ref k1)) (ty := .array .int) C.1 C.2.1 (A.1 k _ (zws_at hs)) ((C.2.2.2.2.2.2.2.1.2 4 _ rfl).1 n (fun j => va_rf (zrf E (h.2.2.1 k) j))) rfl (fun q => by cases q) (by show ¬ (i < 0 ∨ (arrV _ _ _).slots.size ≤ _); rw [arrV_size]; exact hi) (by show (arrV _ _ _).slots[_]? = _; rw [arrV_read _ _ hlt, e1]) rfl rfl hd q
theorem z_iast {k n : Nat} {i v : Int32} (hd : decode M.2.1 pc = .ok (.iastore, 1)) (hs : h.2.2.2[k]? = some (10, n)) (hi : vp_in i n) (kk : zW l M N S (pc + 1) L st (zup h.1 k i.toNatClampNeg v, h.2) Q) : zW l M N S pc L (.int v :: .int i :: .ref k :: st) h Q := by
  intro p e s m args below meth c E n0 z0 H locs cells slots ls R Z C A hl hR K
  refine va_iast C.1 C.2.1 C.2.2.2.2.2.2.2.1 A.1 (zD A.2.2.2.2.1 A.2.2.2.2.2.2) A.2.1 k 0 (zws_at hs) rfl hi hd (fun H1 locs1 hP1 _ hS1 => ?_)
  rw [zws_set (h1 := (zup h.1 k i.toNatClampNeg v, h.2)) hs rfl (fun i hi => ⟨zup_other _ _ _ hi, rfl, rfl⟩) (by show zcell E (zup h.1 k _ v k) _ _ _ = _; rw [zup_row]; rfl)] at hP1
  exact kk p e s m args below meth c E n0 z0 H1 locs1 cells slots ls R Z C (zAt_set A rfl hP1 hS1) hl hR K
theorem z_bast {k n : Nat} {i v : Int32} (hd : decode M.2.1 pc = .ok (.bastore, 1)) (hs : h.2.2.2[k]? = some (12, n)) (hi : vp_in i n) (hv : vp_nar .boolean v = v) (kk : zW l M N S (pc + 1) L st (zup h.1 k i.toNatClampNeg v, h.2) Q) : zW l M N S pc L (.int v :: .int i :: .ref k :: st) h Q := by
  intro p e s m args below meth c E n0 z0 H locs cells slots ls R Z C A hl hR K
  refine va_zast C.1 C.2.1 C.2.2.2.2.2.2.2.1 A.1 (zD A.2.2.2.2.1 A.2.2.2.2.2.2) A.2.1 k 2 (zws_at hs) rfl hi hd (fun H1 locs1 hP1 _ hS1 => ?_)
  rw [hv, zws_set (h1 := (zup h.1 k i.toNatClampNeg v, h.2)) hs rfl (fun i hi => ⟨zup_other _ _ _ hi, rfl, rfl⟩) (by show zcell E (zup h.1 k _ v k) _ _ _ = _; rw [zup_row]; rfl)] at hP1
  exact kk p e s m args below meth c E n0 z0 H1 locs1 cells slots ls R Z C (zAt_set A rfl hP1 hS1) hl hR K
theorem z_last {k n : Nat} {i : Int32} {v : Int64} (hd : decode M.2.1 pc = .ok (.lastore, 1)) (hs : h.2.2.2[k]? = some (11, n)) (hi : vp_in i n) (kk : zW l M N S (pc + 1) L st (h.1, zupJ h.2.1 k i.toNatClampNeg v, h.2.2) Q) : zW l M N S pc L (.long v :: .int i :: .ref k :: st) h Q := by
  intro p e s m args below meth c E n0 z0 H locs cells slots ls R Z C A hl hR K
  refine va_last C.1 C.2.1 C.2.2.2.2.2.2.2.1 A.1 (zD A.2.2.2.2.1 A.2.2.2.2.2.2) A.2.1 k 1 (zws_at hs) rfl hi hd (fun H1 locs1 hP1 _ hS1 => ?_)
  rw [zws_set (h1 := (h.1, zupJ h.2.1 k i.toNatClampNeg v, h.2.2)) hs rfl (fun i hi => ⟨rfl, zupJ_other _ _ _ hi, rfl⟩) (by show zcell E _ (zupJ h.2.1 k _ v k) _ _ = _; rw [zupJ_row]; rfl)] at hP1
  exact kk p e s m args below meth c E n0 z0 H1 locs1 cells slots ls R Z C (zAt_set A rfl hP1 hS1) hl hR K
theorem z_aast {k k1 n n1 : Nat} {i : Int32} (hd : decode M.2.1 pc = .ok (.aastore, 1)) (hs : h.2.2.2[k]? = some (13, n)) (hs1 : h.2.2.2[k1]? = some (7, n1)) (hi : vp_in i n) (kk : zW l M N S (pc + 1) L st (h.1, h.2.1, zupR h.2.2.1 k i.toNatClampNeg (some k1), h.2.2.2) Q) : zW l M N S pc L (.ref k1 :: .int i :: .ref k :: st) h Q := by
  intro p e s m args below meth c E n0 z0 H locs cells slots ls R Z C A hl hR K
  refine va_astq (r := (RX7, TX7, 11)) C.1 C.2.1 C.2.2.2.2.2.2.2.1 A.1 (zD A.2.2.2.2.1 A.2.2.2.2.2.2) A.2.1 k 3 k1 7 (zws_at hs) rfl (zws_at hs1) rfl hi hd (fun H1 locs1 hP1 _ hS1 => ?_)
  rw [zws_set (h1 := (h.1, h.2.1, zupR h.2.2.1 k i.toNatClampNeg (some k1), h.2.2.2)) hs rfl (fun i hi => ⟨rfl, rfl, zupR_other _ _ _ hi⟩) (by show zcell E _ _ (zupR h.2.2.1 k _ (some k1) k) _ = _; rw [zupR_row]; show Sum.inl (_, _, Sum.inr (Sum.inr (Sum.inr (Sum.inr (zrf E _))))) = _; rw [zrf_up])] at hP1
  exact kk p e s m args below meth c E n0 z0 H1 locs1 cells slots ls R Z C (zAt_set A rfl hP1 hS1) hl hR K
theorem z_alen {k n : Nat} (hd : decode M.2.1 pc = .ok (.arraylength, 1)) (hs : h.2.2.2[k]? = some (10, n)) (kk : zW l M N S (pc + 1) L (.int (Int32.ofNat n) :: st) h Q) : zW l M N S pc L (.ref k :: st) h Q := by
  intro p e s m args below meth c E n0 z0 H locs cells slots ls R Z C A hl hR K
  exact va_alen C.1 C.2.1 C.2.2.2.2.2.2.2.1 A.1 k 0 (zws_at hs) rfl rfl hd (kk p e s m args below meth c E n0 z0 H locs cells slots ls R Z C A hl hR K)
end ZH
