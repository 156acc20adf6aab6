-- ===== a method's start, returns, calls =====
def zlay : List Value → List Value
  | [] => []
  | v :: vs => if v.category = 2 then v :: zno :: zlay vs else v :: zlay vs
theorem zlay_in (E : zEn) (r : Nat) : ∀ (as : List Value) (off i : Nat) (v : Value), (zlay as ++ List.replicate r zno)[i]? = some v → v ≠ zno → (off + i, ze E v) ∈ lv_args off (as.map (ze E))
  | [], off, i, v, h, hv => by
    rw [zlay, List.nil_append] at h
    exact absurd (List.eq_of_mem_replicate (List.mem_of_getElem? h)) hv
  | a :: as, off, i, v, h, hv => by
    rw [List.map_cons, lv_args, zcat]
    unfold zlay at h
    by_cases hc : a.category = 2
    · rw [if_pos hc] at h
      rw [if_pos hc]
      match i, h with
      | 0, h => cases h; exact List.mem_cons_self
      | 1, h => exact absurd (Option.some.inj h).symm hv
      | i + 2, h =>
        have q := zlay_in E r as (off + 2) i v h hv
        rw [show off + (i + 2) = off + 2 + i by omega]
        exact List.mem_cons_of_mem _ q
    · rw [if_neg hc] at h
      rw [if_neg hc]
      match i, h with
      | 0, h => cases h; exact List.mem_cons_self
      | i + 1, h =>
        have q := zlay_in E r as (off + 1) i v h hv
        rw [show off + (i + 1) = off + 1 + i by omega]
        exact List.mem_cons_of_mem _ q
def zln (as : List Value) : Nat := (as.map Value.category).sum
theorem zsl_len (E : zEn) : ∀ as : List Value, (lg_sl (as.map (ze E))).length = zln as
  | [] => rfl
  | a :: as => by
    have ih := zsl_len E as
    unfold lg_sl at ih ⊢
    rw [List.map_cons, List.flatMap_cons, List.length_append, ih, zcat]
    unfold zln
    rw [List.map_cons, List.sum_cons]
    rcases lv_cat a with h | h <;> simp [h]
section ZM
variable {l : zL} {M : zMd} {N S pc : Nat} {L st : List Value} {h : zH} {Q : Option Value → zH → Prop}
set_option maxHeartbeats 4000000 in
theorem z_start (L0 : List Value) {as : List Value} (hn : plainName M.1.cls = true) (hl : zln as ≤ M.2.2.1) (hL : zlay as ++ List.replicate (M.2.2.1 - zln as) zno = L0) (k : zW l M N S 0 L0 [] h Q) : zMet l M N S as h Q := by
  intro h1 h2 h3 E
  refine Met.ofW (cc := M.2.1) (maxL := M.2.2.1) (ret := M.2.2.2.1) hn rfl ?_
  intro p e s m args below meth c s₁ B hml hv
  obtain ⟨rfl, hz, hP, hK, hT, hO⟩ := hv
  have hlocks := B.notSynchronized
  have hl0 := lv_entry (as.map (ze E)) (n := M.2.2.1) (by rw [zsl_len]; exact hl)
  rw [lg_entry_eq]
  generalize (lg_sl (as.map (ze E)) ++ List.replicate (M.2.2.1 - (lg_sl (as.map (ze E))).length) Slot.unset).toArray = ls at hl0 ⊢
  have hlv : zlv E ls M.2.2.1 L0 := ⟨hl0.1, hl0.2.1, fun i v hi hv => hl0.2.2 (i, ze E v) (by
    rw [← hL] at hi
    have q := zlay_in E _ as 0 i v hi hv
    rw [Nat.zero_add] at q
    exact q)⟩
  have hr := B.returns
  refine k p e s m _ below meth c E h.2.2.2.length (zsl h.2.2.2) s.heap [] 0 0 ls _ _ ⟨B.exec, B.bytes, hml, B.returns, B.notSynchronized, findClass_of_methodNamed B.named, hT, hK, hz, hO, (name_of_methodNamed B.named B.method).1⟩
    ⟨hP, va_S.rf, Nat.zero_add _, Nat.zero_add _, h1, h2, h3⟩ hlv ⟨Nat.le_refl _, Nat.le_refl _, Nat.le_of_eq (Nat.sub_add_cancel h1).symm, Nat.le_of_eq (Nat.sub_add_cancel h2).symm⟩ ?_
  intro r h4 H1 locs1 cells1 slots1 pc1 ls1 hQ hfit A hN hS hd
  have e1 : cells1 = N - h.2.2.2.length := by have := A.2.2.1; omega
  have e2 : slots1 = S - zsl h.2.2.2 := by have := A.2.2.2.1; omega
  subst e1; subst e2
  have hq : ∀ t : State, t.heap = H1 → zQc E N S Q (as.map (ze E)).toArray s (.returned (r.map (ze E))) t := fun t ht => ⟨⟨r, h4, rfl, hQ, by rw [ht]; exact A.1, hN, hS⟩, A.2.1.F ht⟩
  have hf : ∀ q ∈ locs1, zA E q.base := A.2.1.2.2
  generalize M.2.2.2.1 = rt at hfit hd hr
  match rt, r, hfit with
  | none, none, _ => exact W.vret B.exec B.bytes hr (fun t ht _ => hq t ht) hf hd
  | some .int, some (.int v), _ => exact W.iret (v := v) B.exec B.bytes hr (fun t ht _ => hq t ht) hf hd
  | some .boolean, some (.int v), hv => exact W.zret (v := v) B.exec B.bytes hr (by rcases hv with rfl | rfl <;> rfl) (fun t ht _ => hq t ht) hf hd
  | some .long, some (.long v), _ => exact W.lret (v := v) B.exec B.bytes hr (fun t ht _ => hq t ht) hf hd
  | some (.object o), some (.ref v), _ => exact W.aret (v := .ref (zad E v)) B.exec B.bytes hr (Or.inl ⟨_, rfl⟩) (Or.inr ⟨_, rfl⟩) (fun t ht _ => hq t ht) hf hd
/-- a return -/
theorem z_ret {r : Option Value} (hr : r.toList = st) (hd : decode M.2.1 pc = .ok (zRi M.2.2.2.1, 1)) (hf : zfit M.2.2.2.1 r) (hN : h.2.2.2.length = N) (hS : zsl h.2.2.2 = S) (hQ : Q r h) : zW l M N S pc L st h Q := by
  subst hr
  intro p e s m args below meth c E n0 z0 H locs cells slots ls R Z C A hl hR K
  exact K r h H locs cells slots pc ls hQ hf A hN hS hd
theorem W.sized {p : Program} {e : Env} {R : Room} {s : State} {m : MethodId} {args : Array Value} {below : List Frame} {meth : Method} {c : Code} {H : Heap} {locs : List Loc} {cells slots : Nat} {Z : State → Prop} {g : JFrame} (k : H.size ≤ s.heap.size + cells → W p l.1 e R s m args below meth c H locs cells slots Z g) : W p l.1 e R s m args below meth c H locs cells slots Z g :=
  fun T hT X => k (hT ▸ X.heapSize) T hT X
theorem zsize {E : zEn} {n0 z0 : Nat} {s : State} {H : Heap} {locs : List Loc} {cells slots : Nat} (hz : s.heap.size = E.2.2.1 + n0) (A : zAt M N S E n0 z0 s H locs cells slots h) (hc : H.size ≤ s.heap.size + cells) : H.size = E.2.2.1 + h.2.2.2.length := by
  obtain ⟨hP, hS, a3, a4, a5, a6, a7⟩ := A
  have h0 := hS.1
  by_cases hn : h.2.2.2.length = 0
  · omega
  · have hk : h.2.2.2.length - 1 < h.2.2.2.length := by omega
    have hq := (hP _ _ (zws_at (List.getElem?_eq_getElem hk))).lt
    have e1 : (zad E (h.2.2.2.length - 1)) = E.2.2.1 + (h.2.2.2.length - 1) := zad_lo (by omega)
    have hq2 : zad E (h.2.2.2.length - 1) < H.size := hq
    omega
theorem zFB {E : zEn} {as : List Value} : FrameBlind (va_Pc (as.map (ze E)) (zIn l E h)) := by
  intro a U g mk hp
  obtain ⟨ha, z, P, K, T, o1, o2, o3, o4, o5, o6⟩ := hp
  have r := Vm.Alike.refl U.vm
  exact ⟨ha, z, P, va_K.moved (u := U) (U := U.calling g mk a) r K, zTb_vm (U := U.calling g mk a) T rfl, o1.moved (U := U.calling g mk a) r, o2.moved (U := U.calling g mk a) r, o3.moved (U := U.calling g mk a) r, o4.moved (U := U.calling g mk a) r, o5.moved (U := U.calling g mk a) r, o6⟩
theorem zIn_at {E : zEn} {n0 z0 : Nat} {p : Program} {s : State} {m : MethodId} {meth : Method} {c : Code} {H : Heap} {locs : List Loc} {cells slots : Nat} (C : zCx l M E n0 p s m meth c) (A : zAt M N S E n0 z0 s H locs cells slots h) (hc : H.size ≤ s.heap.size + cells) : ∀ U : State, U.heap = H → s.WarmedH U.vm → zIn l E h U := by
  intro U hU hW
  obtain ⟨-, -, -, -, -, -, hT, hK, hz, hO, -⟩ := C
  exact ⟨by rw [hU]; exact zsize hz A hc, by rw [hU]; exact A.1, va_K.moved hW.alike hK, zTb_moved hT hW, by rw [hU]; exact zRO_kept hO hz A.2.1 hW.alike⟩
/-- behind a call -/
theorem z_run {p : Program} {e : Env} {R : Room} {s : State} {m : MethodId} {args : Array Value} {below : List Frame} {meth : Method} {c : Code} {H : Heap} {locs : List Loc} {cells slots : Nat} {Z : State → Prop} {ls : Array Slot} {st0 rest : List Value} {E : zEn} {N1 S1 mc ms n0 : Nat} {a : Array Value} {Q1 : Option Value → zH → Prop}
    (hr : va_Run p l.1 e R s m args below meth c H locs cells slots mc ms (F0 m pc ls st0) rest (zQc E N1 S1 Q1 a) (zA E)) (hS : va_S (zA E) s.heap H locs)
    (kk : ∀ (r : Option Value) (h1 : zH) (H1 : Heap) (locs1 : List Loc), Q1 r h1 → va_P E.1 vwCl (zws E h1) H1 → h1.2.2.2.length = N1 → zsl h1.2.2.2 = S1 → va_S (zA E) s.heap H1 locs1 → W p l.1 e R s m args below meth c H1 locs1 (cells + mc) (slots + ms) Z (F0 m (pc + 3) ls ((r.map (ze E)).toList ++ rest))) : W p l.1 e R s m args below meth c H locs cells slots Z (F0 m pc ls st0) := by
  intro T hT X
  obtain ⟨v, st₀, t, T', L, h0, X', hL, e1, e2, ⟨⟨r, h1, hv, hq, hP1, hN1, hS1⟩, hz, hk⟩, st⟩ := hr T hT X
  have hv2 : v = r.map (ze E) := by cases hv; rfl
  subst hv2
  rw [h0] at hz hk
  obtain ⟨t2, a1, b1⟩ := kk r h1 T'.heap (locs ++ L) hq (by rw [e1]; exact hP1) hN1 hS1
    ⟨Nat.le_trans hS.1 (by rw [e1]; exact hz), fun q h1 h2 => by rw [e1, hk q (Nat.lt_of_lt_of_le h1 hS.1) h2]; exact hS.2.1 q h1 h2, fun q hq => by
      rcases List.mem_append.mp hq with h | h
      · exact hS.2.2 q h
      · exact hL q h⟩ T' rfl X'
  exact ⟨t2, st t2 a1, b1⟩
/-- what an entry of a class's constants says of a method -/
def zMk (M1 : zMd) (n : Nat) : Prop := Cond.code M1.1 M1.2.1 M1.2.2.1 M1.2.2.2.1 ∈ zTs ∧ Cond.initialized M1.1.cls ∈ zTs ∧ (M1.1.cls ≠ "java/lang/invoke/MethodHandle" ∧ M1.1.cls ≠ "java/lang/invoke/VarHandle" ∧ (parseMethodDescriptor M1.1.desc).map (fun d => d.parameters.length) = some n)
def zML (own : String) (idx : Nat) (M1 : zMd) : Prop := Cond.methodLink own idx M1.1 ∈ zTs ∨ ∃ host, Cond.methodLinkNest own idx M1.1 host ∈ zTs
def zVirt (M1 : zMd) (ci : Nat) : Prop := Cond.instanceMethod M1.1 ∈ zTs ∧ Cond.selects M1.1.cls M1.1 M1.1 ∈ zTs ∧ ∃ q : vw_C, vwCl[ci]? = some q ∧ q.1 = M1.1.cls
theorem zGood {M1 : zMd} {n : Nat} (h : zMk M1 n) : GoodIn zTs [.code M1.1 M1.2.1 M1.2.2.1 M1.2.2.2.1] := by
  intro w hw
  rw [List.mem_singleton] at hw
  subst hw
  exact ⟨h.1, Or.inl rfl⟩
theorem zwW {E : zEn} {st : List Value} (h : (st.map Value.category).sum ≤ 8) : ((st.map (ze E)).map fun v => v.category).sum ≤ 8 := by
  rw [List.map_map, show ((fun v : Value => v.category) ∘ ze E) = Value.category from funext (fun v => zcat E v)]
  exact h
set_option maxHeartbeats 4000000 in
/-- what every call does -/
theorem z_callG {M1 : zMd} {N1 S1 n : Nat} {As : List Value} {Q1 : Option Value → zH → Prop} (stk : List Value) (hm : zMet l M1 N1 S1 As h Q1) (hNS : N1 ≤ N ∧ S1 ≤ S ∧ h.2.2.2.length ≤ N1 ∧ zsl h.2.2.2 ≤ S1) (hk : zMk M1 n) (hd1 : M1.2.2.2.2 + 1 ≤ M.2.2.2.2) (hd2 : 8 + (M1.2.2.1 + 11) + 64 * M1.2.2.2.2 ≤ 64 * M.2.2.2.2)
    (hrun : ∀ (p : Program) (e : Env) (s : State) (m : MethodId) (args : Array Value) (below : List Frame) (meth : Method) (c : Code) (E : zEn) (n0 : Nat) (H : Heap) (locs : List Loc) (cells slots : Nat) (ls : Array Slot) (R : Room), zCx l M E n0 p s m meth c → va_P E.1 vwCl (zws E h) H → ls.size = M.2.2.1 →
      Met l.1 M1.1 [.code M1.1 M1.2.1 M1.2.2.1 M1.2.2.2.1] (zRm M1.2.2.2.2 (N1 - h.2.2.2.length) (S1 - zsl h.2.2.2)) (va_Pc (As.map (ze E)) (zIn l E h)) (zQc E N1 S1 Q1) (N1 - h.2.2.2.length) (S1 - zsl h.2.2.2) (zA E) →
      FrameBlind (va_Pc (As.map (ze E)) (zIn l E h)) → (∀ U : State, U.heap = H → s.WarmedH U.vm → zIn l E h U) → (cells + (N1 - h.2.2.2.length) ≤ R.cells ∧ slots + (S1 - zsl h.2.2.2) ≤ R.slots) → ((zRm M1.2.2.2.2 (N1 - h.2.2.2.length) (S1 - zsl h.2.2.2)).frames + 1 ≤ R.frames ∧ 8 + (M1.2.2.1 + 11) + (zRm M1.2.2.2.2 (N1 - h.2.2.2.length) (S1 - zsl h.2.2.2)).locals ≤ R.locals) →
      va_Run p l.1 e R s m args below meth c H locs cells slots (N1 - h.2.2.2.length) (S1 - zsl h.2.2.2) (F0 m pc ls (stk.map (ze E))) (st.map (ze E)) (zQc E N1 S1 Q1 (As.map (ze E)).toArray) (zA E))
    (kk : ∀ (r : Option Value) (h1 : zH), Q1 r h1 → zW l M N S (pc + 3) L (r.toList ++ st) h1 Q) : zW l M N S pc L stk h Q := by
  intro p e s m args below meth c E n0 z0 H locs cells slots ls R Z C A hl hR K
  refine W.sized (fun hsz => ?_)
  obtain ⟨b1, b2, b3, b4⟩ := hNS
  obtain ⟨r1, r2, r3, r4⟩ := hR
  have a3 := A.2.2.1
  have a4 := A.2.2.2.1
  have a7 := A.2.2.2.2.2.2
  have hM := hm b3 b4 (by omega) E
  refine z_run (hrun p e s m args below meth c E n0 H locs cells slots ls R C A.1 hl.1 hM zFB (zIn_at C A hsz) ⟨by omega, by omega⟩ ⟨Nat.le_trans hd1 r1, Nat.le_trans hd2 r2⟩) A.2.1 (n0 := n0) (fun r h1 H1 locs1 hq hP1 hN1 hS1 hSS => ?_)
  have q := kk r h1 hq p e s m args below meth c E n0 z0 H1 locs1 (cells + (N1 - h.2.2.2.length)) (slots + (S1 - zsl h.2.2.2)) ls R Z C ⟨hP1, hSS, by omega, by omega, by omega, by omega, a7⟩ hl ⟨r1, r2, r3, r4⟩ K
  rw [List.map_append] at q
  cases r <;> exact q
set_option maxHeartbeats 4000000 in
theorem z_callV {M1 : zMd} {N1 S1 idx n ci b w : Nat} {As : List Value} {Q1 : Option Value → zH → Prop} (hd : decode M.2.1 pc = .ok (.invokevirtual idx, 3)) (hlk : zML M.1.cls idx M1) (hk : zMk M1 n) (hv : zVirt M1 ci) (hd1 : M1.2.2.2.2 + 1 ≤ M.2.2.2.2) (hd2 : 8 + (M1.2.2.1 + 11) + 64 * M1.2.2.2.2 ≤ 64 * M.2.2.2.2) (hs : h.2.2.2[b]? = some (ci, w)) (hn : As.length = n) (hst : (st.map Value.category).sum ≤ 8)
    (hm : zMet l M1 N1 S1 (.ref b :: As) h Q1) (hNS : N1 ≤ N ∧ S1 ≤ S ∧ h.2.2.2.length ≤ N1 ∧ zsl h.2.2.2 ≤ S1)
    (kk : ∀ (r : Option Value) (h1 : zH), Q1 r h1 → zW l M N S (pc + 3) L (r.toList ++ st) h1 Q) : zW l M N S pc L (As.reverse ++ .ref b :: st) h Q := by
  refine z_callG (As.reverse ++ .ref b :: st) hm hNS hk hd1 hd2 (fun p e s m args below meth c E n0 H locs cells slots ls R C hP hsz hM hbl hin hroom hroom2 => ?_) kk
  obtain ⟨hcode, hini, hd3⟩ := hk
  obtain ⟨hi, hsel, ⟨nm, T, N'⟩, hci, hnm⟩ := hv
  have hts := zTb_arg C.2.2.2.2.2.2.1 args
  have he : (zws E h)[b]? = some (zad E b, .inr (ci, zfs E (h.1 b) (h.2.2.1 b) ci)) := by rw [zws_at hs, zcell_obj (zlt10 hci)]
  have hrecv := va_recv C.2.2.2.2.2.2.2.1 hP hci he
  have hstk : ((As.reverse ++ Value.ref b :: st).map (ze E)) = (As.map (ze E)).reverse ++ Value.ref (zad E b) :: st.map (ze E) := by rw [List.map_append, List.map_reverse]; rfl
  rw [show (nm, T, N').1 = M1.1.cls from hnm] at hrecv
  have hpre : PreV s H M1.1.cls (zad E b) (va_Pc ((Value.ref b :: As).map (ze E)) (zIn l E h)) (As.map (ze E)) := ⟨hbl, hrecv, fun U hU hW => ⟨rfl, hin U hU hW⟩⟩
  rcases hlk with hlk | ⟨host, hlk⟩
  · exact va_runV ⟨C.1, C.2.1, C.2.2.1, C.2.2.2.2.2.1, hts⟩ hM ⟨callB_of n hts (zGood ⟨hcode, hini, hd3⟩) rfl rfl rfl (hts _ hini) (hts _ hlk) hd3 hroom2, hts _ hi, hts _ hsel⟩ hpre rfl ((List.length_map _).trans hn) hsz hstk (lv_room (zwW hst)) hd hroom
  · exact va_runVN ⟨C.1, C.2.1, C.2.2.1, C.2.2.2.2.2.1, hts⟩ hM ⟨va_cnB n hts (zGood ⟨hcode, hini, hd3⟩) rfl rfl rfl (va_Nw.of rfl (hts _ hlk)) (hts _ hini) hd3 hroom2, hts _ hi, hts _ hsel⟩ hpre rfl ((List.length_map _).trans hn) hsz hstk (lv_room (zwW hst)) hd hroom
set_option maxHeartbeats 4000000 in
theorem z_callS {M1 : zMd} {N1 S1 idx n : Nat} {As : List Value} {Q1 : Option Value → zH → Prop} (hd : decode M.2.1 pc = .ok (.invokestatic idx, 3)) (hlk : zML M.1.cls idx M1) (hk : zMk M1 n) (hv : Cond.static M1.1 ∈ zTs) (hd1 : M1.2.2.2.2 + 1 ≤ M.2.2.2.2) (hd2 : 8 + (M1.2.2.1 + 11) + 64 * M1.2.2.2.2 ≤ 64 * M.2.2.2.2) (hn : As.length = n) (hst : (st.map Value.category).sum ≤ 8)
    (hm : zMet l M1 N1 S1 As h Q1) (hNS : N1 ≤ N ∧ S1 ≤ S ∧ h.2.2.2.length ≤ N1 ∧ zsl h.2.2.2 ≤ S1)
    (kk : ∀ (r : Option Value) (h1 : zH), Q1 r h1 → zW l M N S (pc + 3) L (r.toList ++ st) h1 Q) : zW l M N S pc L (As.reverse ++ st) h Q := by
  refine z_callG (As.reverse ++ st) hm hNS hk hd1 hd2 (fun p e s m args below meth c E n0 H locs cells slots ls R C hP hsz hM hbl hin hroom hroom2 => ?_) kk
  obtain ⟨hcode, hini, hd3⟩ := hk
  have hts := zTb_arg C.2.2.2.2.2.2.1 args
  have hstk : ((As.reverse ++ st).map (ze E)) = (As.map (ze E)).reverse ++ st.map (ze E) := by rw [List.map_append, List.map_reverse]
  have hpre : PreS s H (va_Pc (As.map (ze E)) (zIn l E h)) (As.map (ze E)) := ⟨hbl, fun U hU hW => ⟨rfl, hin U hU hW⟩⟩
  rcases hlk with hlk | ⟨host, hlk⟩
  · exact va_runS ⟨C.1, C.2.1, C.2.2.1, C.2.2.2.2.2.1, hts⟩ hM ⟨callB_of n hts (zGood ⟨hcode, hini, hd3⟩) rfl rfl rfl (hts _ hini) (hts _ hlk) hd3 hroom2, hts _ hv⟩ hpre rfl ((List.length_map _).trans hn) hsz hstk (lv_room (zwW hst)) hd hroom
  · exact va_runSN ⟨C.1, C.2.1, C.2.2.1, C.2.2.2.2.2.1, hts⟩ hM ⟨va_cnB n hts (zGood ⟨hcode, hini, hd3⟩) rfl rfl rfl (va_Nw.of rfl (hts _ hlk)) (hts _ hini) hd3 hroom2, hts _ hv, trivial⟩ hpre rfl ((List.length_map _).trans hn) hsz hstk (lv_room (zwW hst)) hd hroom
set_option maxHeartbeats 4000000 in
theorem z_callI {y1 : MethodName} {c1 : ByteArray} {nl1 d1 : Nat} {N1 S1 idx n b : Nat} {As : List Value} {Q1 : Option Value → zH → Prop} (hd : decode M.2.1 pc = .ok (.invokespecial idx, 3)) (hlk : zML M.1.cls idx (y1, c1, nl1, none, d1)) (hk : zMk (y1, c1, nl1, none, d1) n) (hv : Cond.instanceMethod y1 ∈ zTs ∧ y1.name = "<init>") (hd1 : d1 + 1 ≤ M.2.2.2.2) (hd2 : 8 + (nl1 + 11) + 64 * d1 ≤ 64 * M.2.2.2.2) (hn : As.length = n) (hst : (st.map Value.category).sum ≤ 8)
    (hm : zMet l (y1, c1, nl1, none, d1) N1 S1 (.ref b :: As) h Q1) (hNS : N1 ≤ N ∧ S1 ≤ S ∧ h.2.2.2.length ≤ N1 ∧ zsl h.2.2.2 ≤ S1)
    (kk : ∀ (r : Option Value) (h1 : zH), Q1 r h1 → zW l M N S (pc + 3) L (r.toList ++ st) h1 Q) : zW l M N S pc L (As.reverse ++ .ref b :: st) h Q := by
  refine z_callG (As.reverse ++ .ref b :: st) hm hNS hk hd1 hd2 (fun p e s m args below meth c E n0 H locs cells slots ls R C hP hsz hM hbl hin hroom hroom2 => ?_) kk
  obtain ⟨hcode, hini, hd3⟩ := hk
  have hts := zTb_arg C.2.2.2.2.2.2.1 args
  have hstk : ((As.reverse ++ Value.ref b :: st).map (ze E)) = (As.map (ze E)).reverse ++ Value.ref (zad E b) :: st.map (ze E) := by rw [List.map_append, List.map_reverse]; rfl
  have hpre : PreS s H (va_Pc ((Value.ref b :: As).map (ze E)) (zIn l E h)) (.ref (zad E b) :: As.map (ze E)) := ⟨hbl, fun U hU hW => ⟨rfl, hin U hU hW⟩⟩
  rcases hlk with hlk | ⟨host, hlk⟩
  · exact va_runI ⟨C.1, C.2.1, C.2.2.1, C.2.2.2.2.2.1, hts⟩ hM ⟨callB_of n hts (zGood ⟨hcode, hini, hd3⟩) rfl rfl rfl (hts _ hini) (hts _ hlk) hd3 hroom2, hv.2, hts _ hv.1⟩ hpre rfl ((List.length_map _).trans hn) hsz hstk (lv_room (zwW hst)) hd hroom
  · exact va_runIN ⟨C.1, C.2.1, C.2.2.1, C.2.2.2.2.2.1, hts⟩ hM ⟨va_cnB n hts (zGood ⟨hcode, hini, hd3⟩) rfl rfl rfl (va_Nw.of rfl (hts _ hlk)) (hts _ hini) hd3 hroom2, hv.2, hts _ hv.1⟩ hpre rfl ((List.length_map _).trans hn) hsz hstk (lv_room (zwW hst)) hd hroom
end ZM
