-- ===== arraycopy, what is only read, new cells =====
def zcpy (I : Nat → Nat → Int32) (k0 k1 sp dp n : Nat) : Nat → Nat → Int32 := fun a b => if a = k1 then va_cpy (I k0) (I k1) sp dp n b else I a b
section ZN
variable {l : zL} {M : zMd} {N S pc : Nat} {L st : List Value} {h : zH} {Q : Option Value → zH → Prop}
theorem z_copy {idx k0 k1 n0 n1 : Nat} {sp dp n : Int32} (hd : decode M.2.1 pc = .ok (.invokestatic idx, 3)) (hlk : Cond.methodLink M.1.cls idx arraycopyName ∈ zTs) (hnat : Cond.native arraycopyName ∈ zTs) (hstat : Cond.static arraycopyName ∈ zTs) (hini : Cond.initialized "java/lang/System" ∈ zTs)
    (hs0 : h.2.2.2[k0]? = some (10, n0)) (hs1 : h.2.2.2[k1]? = some (10, n1)) (h1 : ¬ sp < 0) (h2 : ¬ dp < 0) (h3 : ¬ n < 0) (h4 : sp.toNatClampNeg + n.toNatClampNeg ≤ n0) (h5 : dp.toNatClampNeg + n.toNatClampNeg ≤ n1) (hfr : 1 ≤ M.2.2.2.2) (hst : (st.map Value.category).sum + (nativeFrameWords "java/lang/System" "arraycopy" 5 + 11) ≤ 64 * M.2.2.2.2)
    (kk : zW l M N S (pc + 3) L st (zcpy h.1 k0 k1 sp.toNatClampNeg dp.toNatClampNeg n.toNatClampNeg, h.2) Q) : zW l M N S pc L (.int n :: .int dp :: .ref k1 :: .int sp :: .ref k0 :: st) h Q := by
  intro p e s m args below meth c E n0 z0 H locs cells slots ls R Z C A hl hR K
  have hts := zTb_arg C.2.2.2.2.2.2.1 args
  refine va_copyi C.1 C.2.1 (C.2.2.1.trans hl.1.symm) C.2.2.2.2.2.1 (hts _ hlk) (hts _ hnat) (hts _ hstat) (hts _ hini) C.2.2.2.2.2.2.2.1 A.1 (zD A.2.2.2.2.1 A.2.2.2.2.2.2) A.2.1 k0 k1 0 0 (zws_at hs0) (zws_at hs1) rfl rfl rfl h1 h2 h3 h4 h5 (fun _ _ => rfl) (Nat.le_trans hfr hR.1) (by
    rw [List.map_map, show ((fun v : Value => v.category) ∘ ze E) = Value.category from funext (fun v => zcat E v)]; exact Nat.le_trans hst hR.2.1) hd (fun H1 locs1 hP1 _ hS1 => ?_)
  rw [zws_set (h1 := (zcpy h.1 k0 k1 sp.toNatClampNeg dp.toNatClampNeg n.toNatClampNeg, h.2)) hs1 rfl (fun i hi => ⟨by funext b; simp [zcpy, hi], rfl, rfl⟩) (by
    show zcell E (zcpy h.1 k0 k1 _ _ _ k1) _ _ _ = _
    rw [show zcpy h.1 k0 k1 sp.toNatClampNeg dp.toNatClampNeg n.toNatClampNeg k1 = va_cpy (h.1 k0) (h.1 k1) sp.toNatClampNeg dp.toNatClampNeg n.toNatClampNeg from by funext b; simp [zcpy]]
    rfl)] at hP1
  exact kk p e s m args below meth c E _ z0 H1 locs1 cells slots ls R Z C (zAt_set A rfl hP1 hS1) hl hR K
theorem z_gets0 {idx : Nat} (hd : decode M.2.1 pc = .ok (.getstatic idx, 3)) (hlk : Cond.fieldLink M.1.cls idx RX1 "SIZE_BODIES" "[I" ∈ zTs) (kk : zW l M N S (pc + 3) L (.ref 10000 :: st) h Q) : zW l M N S pc L st h Q := by
  intro p e s m args below meth c E n0 z0 H locs cells slots ls R Z C A hl hR K
  have hO := C.2.2.2.2.2.2.2.2.2.1
  exact va_gets C.1 C.2.1 hO.1 A.2.1 C.2.2.2.2.2.1 (zTb_arg C.2.2.2.2.2.2.1 args _ hlk) (fun _ h9 => h9) hd (kk p e s m args below meth c E n0 z0 H locs cells slots ls R Z C A hl hR K)
theorem z_gets1 {idx : Nat} (hd : decode M.2.1 pc = .ok (.getstatic idx, 3)) (hlk : Cond.fieldLink M.1.cls idx RX1 "MARK_BODIES" "[I" ∈ zTs) (kk : zW l M N S (pc + 3) L (.ref 10001 :: st) h Q) : zW l M N S pc L st h Q := by
  intro p e s m args below meth c E n0 z0 H locs cells slots ls R Z C A hl hR K
  have hO := C.2.2.2.2.2.2.2.2.2.1
  exact va_gets C.1 C.2.1 hO.2.2.1 A.2.1 C.2.2.2.2.2.1 (zTb_arg C.2.2.2.2.2.2.1 args _ hlk) (fun _ h9 => h9) hd (kk p e s m args below meth c E n0 z0 H locs cells slots ls R Z C A hl hR K)
theorem z_tab0 {i : Int32} (hd : decode M.2.1 pc = .ok (.iaload, 1)) (hi : vp_in i 6) (kk : zW l M N S (pc + 1) L (.int (ztab0 i.toNatClampNeg) :: st) h Q) : zW l M N S pc L (.int i :: .ref 10000 :: st) h Q := by
  intro p e s m args below meth c E n0 z0 H locs cells slots ls R Z C A hl hR K
  have hO := C.2.2.2.2.2.2.2.2.2.1
  exact va_ti C.1 C.2.1 hO.2.1 A.2.1 hi rfl hd (kk p e s m args below meth c E n0 z0 H locs cells slots ls R Z C A hl hR K)
theorem z_tab1 {i : Int32} (hd : decode M.2.1 pc = .ok (.iaload, 1)) (hi : vp_in i 6) (kk : zW l M N S (pc + 1) L (.int (ztab1 i.toNatClampNeg) :: st) h Q) : zW l M N S pc L (.int i :: .ref 10001 :: st) h Q := by
  intro p e s m args below meth c E n0 z0 H locs cells slots ls R Z C A hl hR K
  have hO := C.2.2.2.2.2.2.2.2.2.1
  exact va_ti C.1 C.2.1 hO.2.2.2.1 A.2.1 hi rfl hd (kk p e s m args below meth c E n0 z0 H locs cells slots ls R Z C A hl hR K)
theorem z_sld {i : Int32} (hd : decode M.2.1 pc = .ok (.iaload, 1)) (hi : vp_in i l.2.1) (kk : zW l M N S (pc + 1) L (.int (l.2.2 i.toNatClampNeg) :: st) h Q) : zW l M N S pc L (.int i :: .ref 10002 :: st) h Q := by
  intro p e s m args below meth c E n0 z0 H locs cells slots ls R Z C A hl hR K
  have hO := C.2.2.2.2.2.2.2.2.2.1
  have hz := C.2.2.2.2.2.2.2.2.1
  have h6 := hO.2.2.2.2.2
  exact va_sld (b := E.2.2.2 2) C.1 C.2.1 hO.2.2.2.2.1 (by omega) (by unfold zA; omega) A.2.1 hi hd (kk p e s m args below meth c E n0 z0 H locs cells slots ls R Z C A hl hR K)
theorem z_slen (hd : decode M.2.1 pc = .ok (.arraylength, 1)) (kk : zW l M N S (pc + 1) L (.int (Int32.ofNat l.2.1) :: st) h Q) : zW l M N S pc L (.ref 10002 :: st) h Q := by
  intro p e s m args below meth c E n0 z0 H locs cells slots ls R Z C A hl hR K
  have hO := C.2.2.2.2.2.2.2.2.2.1
  have hz := C.2.2.2.2.2.2.2.2.1
  have h6 := hO.2.2.2.2.2
  exact va_slen (b := E.2.2.2 2) C.1 C.2.1 hO.2.2.2.2.1 (by omega) (by unfold zA; omega) A.2.1 hd (kk p e s m args below meth c E n0 z0 H locs cells slots ls R Z C A hl hR K)
theorem z_objInit {idx k : Nat} (hd : decode M.2.1 pc = .ok (.invokespecial idx, 3)) (h1 : Cond.methodLink M.1.cls idx objectInit ∈ zTs) (h2 : Cond.instanceMethod objectInit ∈ zTs) (h3 : Cond.code objectInit ⟨#[0xb1]⟩ 1 none ∈ zTs) (hfr : 1 ≤ M.2.2.2.2) (hst : (st.map Value.category).sum + 12 ≤ 64 * M.2.2.2.2) (kk : zW l M N S (pc + 3) L st h Q) : zW l M N S pc L (.ref k :: st) h Q := by
  intro p e s m args below meth c E n0 z0 H locs cells slots ls R Z C A hl hR K
  have hts := zTb_arg C.2.2.2.2.2.2.1 args
  refine W.objInit C.1 C.2.1 C.2.2.2.2.2.1 (hts _ h1) (hts _ h2) (hts _ h3) rfl (hl.1.trans C.2.2.1.symm) rfl hd (Nat.le_trans hfr hR.1) ?_ (kk p e s m args below meth c E n0 z0 H locs cells slots ls R Z C A hl hR K)
  rw [List.map_map, show ((fun v : Value => v.category) ∘ ze E) = Value.category from funext (fun v => zcat E v)]
  have h9 := hR.2.1
  show 2 * 0 + _ + 12 ≤ _
  omega
-- new cells
theorem zws_push (E : zEn) (I : Nat → Nat → Int32) (J : Nat → Nat → Int64) (r : Nat → Nat → Option Nat) (sh : List zSh) (q : zSh) : zws E (I, J, r, sh ++ [q]) = zws E (I, J, r, sh) ++ [(zad E sh.length, zcell E (I sh.length) (J sh.length) (r sh.length) q)] := by
  show (sh ++ [q]).mapIdx _ = sh.mapIdx _ ++ _
  rw [List.mapIdx_append]
  simp
theorem zsl_push (sh : List zSh) (q : zSh) : zsl (sh ++ [q]) = zsl sh + zslot q := by
  unfold zsl; rw [List.map_append, List.sum_append]; simp
/-- the new cell's address is the next -/
theorem zfresh {E : zEn} {n0 z0 : Nat} {s : State} {H H1 : Heap} {locs : List Loc} {cells slots q : Nat} {x : va_E} (hz : s.heap.size = E.2.2.1 + n0) (A : zAt M N S E n0 z0 s H locs cells slots h) (hP : va_P E.1 vwCl (zws E h ++ [(q, x)]) H1) (hD : va_D (zA E) (zws E h ++ [(q, x)])) (hc : H1.size ≤ s.heap.size + (cells + 1)) : q = zad E h.2.2.2.length ∨ 10000 ≤ h.2.2.2.length := by
  obtain ⟨-, hS, a3, a4, a5, a6, a7⟩ := A
  by_cases hb : 10000 ≤ h.2.2.2.length
  · exact Or.inr hb
  · left
    have hlast : (zws E h ++ [(q, x)])[h.2.2.2.length]? = some (q, x) := by rw [List.getElem?_append_right (by rw [zws_len]; exact Nat.le_refl _), zws_len, Nat.sub_self]; rfl
    have hlt : q < H1.size := (hP _ _ hlast).lt
    have hge : E.2.2.1 ≤ q := hD.2 _ _ hlast
    rw [zad_lo (by omega)]
    rcases Nat.lt_or_ge (q - E.2.2.1) h.2.2.2.length with hk | hk
    · exfalso
      have h1 : (zws E h ++ [(q, x)])[q - E.2.2.1]? = some (zad E (q - E.2.2.1), zcell E (h.1 (q - E.2.2.1)) (h.2.1 (q - E.2.2.1)) (h.2.2.1 (q - E.2.2.1)) h.2.2.2[q - E.2.2.1]) := by
        rw [List.getElem?_append_left (by rw [zws_len]; exact hk)]
        exact zws_at (List.getElem?_eq_getElem hk)
      have := hD.1 _ _ _ _ h1 hlast (by rw [zad_lo (by omega)]; show E.2.2.1 + (q - E.2.2.1) = q; omega)
      omega
    · omega
/-- what every new cell does -/
theorem z_newG {p : Program} {e : Env} {R : Room} {s : State} {m : MethodId} {args : Array Value} {below : List Frame} {meth : Method} {c : Code} {E : zEn} {n0 z0 pc1 q : Nat} {H H1 : Heap} {locs : List Loc} {cells slots w : Nat} {ls : Array Slot} {Z : State → Prop} (sq : zSh) (hw : zslot sq = w) (hb : h.2.2.2.length + 1 ≤ N) (hsb : zsl h.2.2.2 + w ≤ S) (C : zCx l M E n0 p s m meth c) (A : zAt M N S E n0 z0 s H locs cells slots h) (hl : zlv E ls M.2.2.1 L) (hR : M.2.2.2.2 ≤ R.frames ∧ 64 * M.2.2.2.2 ≤ R.locals ∧ N ≤ R.cells + n0 ∧ S ≤ R.slots + z0)
    (K : ∀ (r : Option Value) (h1 : zH) (H1 : Heap) (locs1 : List Loc) (cells1 slots1 pc1 : Nat) (ls1 : Array Slot), Q r h1 → zfit M.2.2.2.1 r → zAt M N S E n0 z0 s H1 locs1 cells1 slots1 h1 → h1.2.2.2.length = N → zsl h1.2.2.2 = S → decode M.2.1 pc1 = .ok (zRi M.2.2.2.1, 1) →
      W p l.1 e R s m args below meth c H1 locs1 cells1 slots1 Z (F0 m pc1 ls1 (r.toList.map (ze E))))
    (kk : zW l M N S pc1 L (.ref h.2.2.2.length :: st) (h.1, h.2.1, h.2.2.1, h.2.2.2 ++ [sq]) Q) (hP : va_P E.1 vwCl (zws E h ++ [(q, zcell E (h.1 h.2.2.2.length) (h.2.1 h.2.2.2.length) (h.2.2.1 h.2.2.2.length) sq)]) H1) (hD : va_D (zA E) (zws E h ++ [(q, zcell E (h.1 h.2.2.2.length) (h.2.1 h.2.2.2.length) (h.2.2.1 h.2.2.2.length) sq)])) (hS : va_S (zA E) s.heap H1 locs) :
    W p l.1 e R s m args below meth c H1 locs (cells + 1) (slots + w) Z (F0 m pc1 ls (.ref q :: st.map (ze E))) := by
  refine W.sized (fun hsz => ?_)
  have a3 := A.2.2.1
  have a4 := A.2.2.2.1
  have a7 := A.2.2.2.2.2.2
  rcases zfresh C.2.2.2.2.2.2.2.2.1 A hP hD hsz with rfl | hbig
  · have hP2 : va_P E.1 vwCl (zws E (h.1, h.2.1, h.2.2.1, h.2.2.2 ++ [sq])) H1 := by rw [zws_push]; exact hP
    exact kk p e s m args below meth c E n0 z0 H1 locs (cells + 1) (slots + w) ls R Z C ⟨hP2, hS, by rw [List.length_append]; show cells + 1 + n0 = h.2.2.2.length + 1; omega, by rw [zsl_push]; omega, by rw [List.length_append]; exact hb, by rw [zsl_push, hw]; exact hsb, a7⟩ hl hR K
  · omega
theorem zhA {E : zEn} {n0 : Nat} {s : State} (hz : s.heap.size = E.2.2.1 + n0) : ∀ q : Nat, s.heap.size ≤ q → zA E q := fun q hq => by unfold zA; omega
theorem z_new {idx ci : Nat} {q : vw_C} (w0 : Nat) (hd : decode M.2.1 pc = .ok (.new idx, 3)) (hc : vwCl[ci]? = some q) (hlk : Cond.classLink M.1.cls idx q.1 ∈ zTs) (hinst : Cond.instantiable q.1 q.2.2 ∈ zTs) (hini : Cond.initialized q.1 ∈ zTs) (hdf : (zft ci).length = q.2.2 ∧ ∀ j, j < q.2.2 → defaultValue (zty ci j) = if (zft ci).getD j false = true then .null else .int 0)
    (hz1 : ∀ j, h.1 h.2.2.2.length j = 0) (hz2 : ∀ j, h.2.2.1 h.2.2.2.length j = none) (hb : h.2.2.2.length + 1 ≤ N) (hsb : zsl h.2.2.2 + q.2.2 ≤ S)
    (kk : zW l M N S (pc + 3) L (.ref h.2.2.2.length :: st) (h.1, h.2.1, h.2.2.1, h.2.2.2 ++ [(ci, w0)]) Q) : zW l M N S pc L st h Q := by
  intro p e s m args below meth c E n0 z0 H locs cells slots ls R Z C A hl hR K
  have hts := zTb_arg C.2.2.2.2.2.2.1 args
  obtain ⟨nm, T, N'⟩ := q
  have a3 := A.2.2.1
  have a4 := A.2.2.2.1
  refine va_new (fs := zfs E (h.1 h.2.2.2.length) (h.2.2.1 h.2.2.2.length) ci) C.1 C.2.1 hts (zin ci _ hc) (zty ci) (ztyok ci _ hc) C.2.2.2.2.2.1 (hts _ hlk) (hts _ hinst) (hts _ hini) C.2.2.2.2.2.2.2.1 A.1 (zD A.2.2.2.2.1 A.2.2.2.2.2.2) A.2.1 (zhA C.2.2.2.2.2.2.2.2.1) hc (fun j hj => ?_) (by omega) (by have := hsb; have : N' = (nm, T, N').2.2 := rfl; omega) hd (fun q H1 hP hD hS => ?_)
  · have hj2 : j < (zft ci).length := by rw [hdf.1]; exact hj
    rw [hdf.2 j hj]
    unfold vp_V
    rw [List.getD_eq_getElem?_getD, List.getD_eq_getElem?_getD, zfs_get (List.getElem?_eq_getElem hj2), Option.getD_some, List.getElem?_eq_getElem hj2, Option.getD_some]
    unfold zfv
    rw [hz1 j, hz2 j]
    rfl
  · rw [← zcell_obj (g := h.2.1 h.2.2.2.length) (n := w0) (zlt10 hc)] at hP hD
    refine z_newG (ci, w0) ?_ hb hsb C A hl hR K kk hP hD hS
    unfold zslot
    rw [if_pos (zlt10 hc)]
    exact hdf.1
theorem zcy {E : zEn} {s : State} {cA : ClassId} {ty : FieldType} {i : Nat} (h1 : va_K E.1 vwCl (ztys E) s) (h2 : va_K E.1 vwCl (ztys E ++ [(cA, ty)]) s) (hi : (ztys E)[i]? = some (E.2.1 i, ty)) : cA = E.2.1 i := by
  have a := (h1.2 i _ hi).2
  have b := (h2.2 5 (cA, ty) rfl).2
  cases ty with
  | object C =>
    obtain ⟨kA, comp, h1, h2, h3, h4⟩ := a
    obtain ⟨kB, comp', g1, g2, g3, g4⟩ := b
    exact Option.some.inj (g4.symm.trans h4)
  | _ => exact Option.some.inj (Eq.trans (Eq.symm b) a)
theorem z_newI {n : Int32} {w : Nat} (hd : decode M.2.1 pc = .ok (.newarray .int, 2)) (hcw : Cond.arrayClass .int ∈ zTs) (hn : ¬ n < 0) (hw : n.toNatClampNeg = w) (hw2 : w ≤ 10000) (hz1 : ∀ j, h.1 h.2.2.2.length j = 0) (hb : h.2.2.2.length + 1 ≤ N) (hsb : zsl h.2.2.2 + w ≤ S)
    (kk : zW l M N S (pc + 2) L (.ref h.2.2.2.length :: st) (h.1, h.2.1, h.2.2.1, h.2.2.2 ++ [(10, w)]) Q) : zW l M N S pc L (.int n :: st) h Q := by
  intro p e s m args below meth c E n0 z0 H locs cells slots ls R Z C A hl hR K
  have hts := zTb_arg C.2.2.2.2.2.2.1 args
  have a3 := A.2.2.1
  have a4 := A.2.2.2.1
  refine va_newa (atype := .int) (a0 := (w, .inl (h.1 h.2.2.2.length))) C.1 C.2.1 (hts _ hcw) rfl C.2.2.2.2.2.2.2.1 A.1 (zD A.2.2.2.2.1 A.2.2.2.2.2.2) A.2.1 (zhA C.2.2.2.2.2.2.2.2.1) (fun cA => ?_) hn hw (by show w * 4 ≤ _; omega) (by omega) (by omega) hd (fun q cA H1 hK hP hD hS => ?_)
  · show arrV cA w (fun j => .int (h.1 h.2.2.2.length j)) = _
    simp only [hz1]
    rfl
  · have hcy := zcy (i := 0) C.2.2.2.2.2.2.2.1 hK rfl
    subst hcy
    exact z_newG (10, w) rfl hb hsb C A hl hR K kk hP hD hS
theorem z_newJ {n : Int32} {w : Nat} (hd : decode M.2.1 pc = .ok (.newarray .long, 2)) (hcw : Cond.arrayClass .long ∈ zTs) (hn : ¬ n < 0) (hw : n.toNatClampNeg = w) (hw2 : w ≤ 10000) (hz1 : ∀ j, h.2.1 h.2.2.2.length j = 0) (hb : h.2.2.2.length + 1 ≤ N) (hsb : zsl h.2.2.2 + w ≤ S)
    (kk : zW l M N S (pc + 2) L (.ref h.2.2.2.length :: st) (h.1, h.2.1, h.2.2.1, h.2.2.2 ++ [(11, w)]) Q) : zW l M N S pc L (.int n :: st) h Q := by
  intro p e s m args below meth c E n0 z0 H locs cells slots ls R Z C A hl hR K
  have hts := zTb_arg C.2.2.2.2.2.2.1 args
  have a3 := A.2.2.1
  have a4 := A.2.2.2.1
  refine va_newa (atype := .long) (a0 := (w, .inr (.inl (h.2.1 h.2.2.2.length)))) C.1 C.2.1 (hts _ hcw) rfl C.2.2.2.2.2.2.2.1 A.1 (zD A.2.2.2.2.1 A.2.2.2.2.2.2) A.2.1 (zhA C.2.2.2.2.2.2.2.2.1) (fun cA => ?_) hn hw (by show w * 8 ≤ _; omega) (by omega) (by omega) hd (fun q cA H1 hK hP hD hS => ?_)
  · show arrV cA w (fun j => .long (h.2.1 h.2.2.2.length j)) = _
    simp only [hz1]
    rfl
  · have hcy := zcy (i := 1) C.2.2.2.2.2.2.2.1 hK rfl
    subst hcy
    exact z_newG (11, w) rfl hb hsb C A hl hR K kk hP hD hS
theorem z_newZ {n : Int32} {w : Nat} (hd : decode M.2.1 pc = .ok (.newarray .boolean, 2)) (hcw : Cond.arrayClass .boolean ∈ zTs) (hn : ¬ n < 0) (hw : n.toNatClampNeg = w) (hw2 : w ≤ 10000) (hz1 : ∀ j, h.1 h.2.2.2.length j = 0) (hb : h.2.2.2.length + 1 ≤ N) (hsb : zsl h.2.2.2 + w ≤ S)
    (kk : zW l M N S (pc + 2) L (.ref h.2.2.2.length :: st) (h.1, h.2.1, h.2.2.1, h.2.2.2 ++ [(12, w)]) Q) : zW l M N S pc L (.int n :: st) h Q := by
  intro p e s m args below meth c E n0 z0 H locs cells slots ls R Z C A hl hR K
  have hts := zTb_arg C.2.2.2.2.2.2.1 args
  have a3 := A.2.2.1
  have a4 := A.2.2.2.1
  refine va_newa (atype := .boolean) (a0 := (w, .inl (h.1 h.2.2.2.length))) C.1 C.2.1 (hts _ hcw) rfl C.2.2.2.2.2.2.2.1 A.1 (zD A.2.2.2.2.1 A.2.2.2.2.2.2) A.2.1 (zhA C.2.2.2.2.2.2.2.2.1) (fun cA => ?_) hn hw (by show w * 1 ≤ _; omega) (by omega) (by omega) hd (fun q cA H1 hK hP hD hS => ?_)
  · show arrV cA w (fun j => .int (h.1 h.2.2.2.length j)) = _
    simp only [hz1]
    rfl
  · have hcy := zcy (i := 2) C.2.2.2.2.2.2.2.1 hK rfl
    subst hcy
    exact z_newG (12, w) rfl hb hsb C A hl hR K kk hP hD hS
theorem z_newT {n : Int32} {w idx : Nat} (hd : decode M.2.1 pc = .ok (.anewarray idx, 3)) (hcw : Cond.arrayOver (.object "RumourBrew$Town") ∈ zTs) (hlk : Cond.classLink M.1.cls idx "RumourBrew$Town" ∈ zTs) (hn : ¬ n < 0) (hw : n.toNatClampNeg = w) (hw2 : w ≤ 10000) (hz1 : ∀ j, h.2.2.1 h.2.2.2.length j = none) (hb : h.2.2.2.length + 1 ≤ N) (hsb : zsl h.2.2.2 + w ≤ S)
    (kk : zW l M N S (pc + 3) L (.ref h.2.2.2.length :: st) (h.1, h.2.1, h.2.2.1, h.2.2.2 ++ [(13, w)]) Q) : zW l M N S pc L (.int n :: st) h Q := by
  intro p e s m args below meth c E n0 z0 H locs cells slots ls R Z C A hl hR K
  have hts := zTb_arg C.2.2.2.2.2.2.1 args
  have a3 := A.2.2.1
  have a4 := A.2.2.2.1
  refine va_newq C.1 C.2.1 C.2.2.2.2.2.1 (hts _ hlk) (va_AO.of (hts _ hcw)) C.2.2.2.2.2.2.2.1 A.1 (zD A.2.2.2.2.1 A.2.2.2.2.2.2) A.2.1 (zhA C.2.2.2.2.2.2.2.2.1) hn hw (by omega) (by omega) (by omega) hd (fun q cA H1 hK hP hD hS => ?_)
  have hcy := zcy (i := 3) C.2.2.2.2.2.2.2.1 hK rfl
  subst hcy
  have e1 : (fun _ => none : Nat → Option Nat) = zrf E (h.2.2.1 h.2.2.2.length) := by funext j; unfold zrf; rw [hz1 j]; rfl
  rw [e1] at hP hD
  exact z_newG (13, w) rfl hb hsb C A hl hR K kk hP hD hS
end ZN
