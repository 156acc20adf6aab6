-- ===== a table of ints made in one: multianewarray over two lengths =====
/-- the outer array while its rows are being made: i of them stand -/
def zgA (b i : Nat) : Nat → Value := fun j => if j < i then .ref (b + 1 + j) else .null
/-- the machine's state after i rows -/
def zgF (T : State) (cA cB : ClassId) (n k : Nat) : Nat → State
  | 0 => T.pushCell (arrV cA n (zgA T.heap.size 0))
  | i + 1 => ((zgF T cA cB n k i).pushCell (arrV cB k (fun _ => .int 0))).setCell T.heap.size ((arrV cA n (zgA T.heap.size i)).setSlot i (.ref (zgF T cA cB n k i).heap.size))
theorem zgA_up (b i : Nat) : updV (zgA b i) i (.ref (b + 1 + i)) = zgA b (i + 1) := by
  funext j
  unfold updV zgA
  by_cases h : j = i
  · subst h
    rw [if_pos rfl, if_pos (Nat.lt_succ_self _)]
  · rw [if_neg h]
    by_cases h2 : j < i
    · rw [if_pos h2, if_pos (by omega)]
    · rw [if_neg h2, if_neg (by omega)]
/-- what holds of it -/
def zgP (T U : State) (cA cB : ClassId) (n k i : Nat) : Prop :=
  U.heap.size = T.heap.size + 1 + i ∧ U.slotsUsed = T.slotsUsed + n + i * k ∧ U.vm = T.vm ∧ U.heap[T.heap.size]? = some (arrV cA n (zgA T.heap.size i)) ∧ (∀ a, a < T.heap.size → U.heap[a]? = T.heap[a]?) ∧ ∀ j, j < i → U.heap[T.heap.size + 1 + j]? = some (arrV cB k (fun _ => .int 0))
theorem zgF_P (T : State) (cA cB : ClassId) (n k : Nat) (i : Nat) : zgP T (zgF T cA cB n k i) cA cB n k i := by
  induction i with
  | zero =>
    refine ⟨by simp [zgF], by simp [zgF, arrV_size], rfl, ?_, fun a ha => State.heap_pushCell_of_lt _ _ ha, fun j hj => absurd hj (Nat.not_lt_zero _)⟩
    exact State.heap_pushCell_size _ _
  | succ i ih =>
    obtain ⟨h1, h2, h3, h4, h5, h6⟩ := ih
    have old : ∀ a, a < T.heap.size + 1 + i → ((zgF T cA cB n k i).pushCell (arrV cB k (fun _ => .int 0))).heap[a]? = (zgF T cA cB n k i).heap[a]? := fun a ha => State.heap_pushCell_of_lt _ _ (by rw [h1]; exact ha)
    refine ⟨?_, ?_, h3, ?_, fun a ha => ?_, fun j hj => ?_⟩
    · show (State.setCell _ _ _).heap.size = _
      simp [State.setCell, h1]; omega
    · simp [zgF, h2, arrV_size, Nat.succ_mul]; omega
    · have := State.heap_setCell_self (x := (arrV cA n (zgA T.heap.size i)).setSlot i (.ref (zgF T cA cB n k i).heap.size)) ((old T.heap.size (by omega)).trans h4)
      rw [arrV_store, h1, zgA_up] at this
      show (State.setCell _ _ _).heap[_]? = _
      rw [arrV_store, h1, zgA_up]
      exact this
    · exact ((State.heap_setCell_other (Nat.ne_of_gt ha)).trans (old a (by omega))).trans (h5 a ha)
    · refine (State.heap_setCell_other (show T.heap.size ≠ T.heap.size + 1 + j by omega)).trans ?_
      rcases Nat.lt_or_ge j i with hji | hji
      · exact (old _ (by omega)).trans (h6 j hji)
      · have e : T.heap.size + 1 + j = (zgF T cA cB n k i).heap.size := by rw [h1]; omega
        rw [e]
        exact State.heap_pushCell_size _ _
theorem zgF_top (T : State) (f : JFrame) (cA cB : ClassId) (n k : Nat) (i : Nat) : zgF (T.setTop f) cA cB n k i = (zgF T cA cB n k i).setTop f := by
  induction i with
  | zero => rfl
  | succ i ih =>
    unfold zgF
    rw [ih]
    rfl
theorem zgF_X {p : Program} {l : Launch} {e : Env} {R : Room} {s : State} {m : MethodId} {args : Array Value} {below : List Frame} {meth : Method} {c : Code} {T : State} {locs : List Loc} {cells slots : Nat} (X : Stand p l e R s m args below meth c T locs cells slots) (cA cB : ClassId) (n k : Nat) (i : Nat) :
    ∃ ps : List Loc, Stand p l e R s m args below meth c (zgF T cA cB n k i) (locs ++ ps) (cells + 1 + i) (slots + n + i * k) ∧ ∀ x ∈ ps, x.base = T.heap.size := by
  induction i with
  | zero =>
    refine ⟨[], ?_, fun x hx => absurd hx List.not_mem_nil⟩
    have h := X.pushed (arrV cA n (zgA T.heap.size 0))
    rw [arrV_size] at h
    rw [List.append_nil, Nat.zero_mul, Nat.add_zero, Nat.add_zero]
    exact h
  | succ i ih =>
    obtain ⟨ps, Y, hb⟩ := ih
    obtain ⟨h1, -, -, h4, -, -⟩ := zgF_P T cA cB n k i
    have hc : ((zgF T cA cB n k i).pushCell (arrV cB k (fun _ => .int 0))).heap[T.heap.size]? = some (arrV cA n (zgA T.heap.size i)) := (State.heap_pushCell_of_lt _ _ (show T.heap.size < (zgF T cA cB n k i).heap.size by rw [h1]; omega)).trans h4
    have h := (Y.pushed (arrV cB k (fun _ => .int 0))).stored hc i (.ref (zgF T cA cB n k i).heap.size)
    rw [arrV_size] at h
    refine ⟨ps ++ [⟨T.heap.size, i⟩], ?_, fun x hx => ?_⟩
    · rw [← List.append_assoc, Nat.succ_mul, ← Nat.add_assoc, ← Nat.add_assoc]
      exact h
    · rcases List.mem_append.mp hx with hx | hx
      · exact hb x hx
      · rw [List.mem_singleton.mp hx]
/-- the machine's own words of it -/
theorem zg_make {B : CtlPost} {e : Env} {d : Bool} {acts : List Action} {T : State} {cA cB cI : ClassId} {kA kB : Class} {n k : Int32} (hA : T.vm.classes[cA]? = some kA) (hA2 : kA.kind = .array cB (.array .int)) (hB : T.vm.classes[cB]? = some kB) (hB2 : kB.kind = .array cI .int) (hn : ¬ n < 0) (hk : ¬ k < 0)
    (hnl : n.toNatClampNeg ≤ e.platform.arrayLengthLimit) (hnh : n.toNatClampNeg * 4 ≤ e.platform.maxHeapBytes) (hkl : k.toNatClampNeg ≤ e.platform.arrayLengthLimit) (hkh : k.toNatClampNeg * 4 ≤ e.platform.maxHeapBytes)
    (hc : T.heap.size + 1 + n.toNatClampNeg ≤ e.platform.maxCells) (hs : T.slotsUsed + n.toNatClampNeg + n.toNatClampNeg * k.toNatClampNeg ≤ e.platform.maxSlots) {Q : Addr → Pre}
    (kk : ∀ d1 acts1, Q T.heap.size d1 acts1 (zgF T cA cB n.toNatClampNeg k.toNatClampNeg n.toNatClampNeg)) : wp (multianewarray.make cA [n, k]) Q B e d acts T := by
  have hno : List.find? (fun x : Int32 => decide (x < 0)) [k] = none := by simp [hk]
  rw [multianewarray.make]
  simp only [wp_bind', W.ite, hn, if_false, wp_pure', W.theClass, hA, hA2, Option.some.injEq, exists_eq_left']
  generalize hv : n.toNatClampNeg = v at *
  generalize hw : k.toNatClampNeg = w at *
  refine W.newArray_of hA hA2 (Nat.not_lt.mpr hnl) (Nat.not_lt.mpr hnh) (by omega) (by have := Nat.zero_le (v * w); omega) rfl (fun acts1 => ?_)
  have e0 : T.pushCell { cls := cA, slots := Array.replicate v .null } = zgF T cA cB v w 0 := by
    show _ = T.pushCell _
    rw [show zgA T.heap.size 0 = fun _ => .null from funext fun j => if_neg (Nat.not_lt_zero j), ← arrV_new]
  rw [e0]
  simp only [hno]
  rw [ite_self, wp_bind', Std.Legacy.Range.forIn_eq_forIn_range']
  have hsz : ([:v] : Std.Legacy.Range).size = v := by simp [Std.Legacy.Range.size]
  rw [hsz]
  have one : ∀ (i : Nat), i < v → ∀ (d2 : Bool) (acts2 : List Action) (Q2 : ForInStep PUnit → Pre), (∀ d3 acts3, Q2 (.yield PUnit.unit) d3 acts3 (zgF T cA cB v w (i + 1))) →
      wp (do let a ← multianewarray.make cB [k]; writeLoc T.heap.size i (.ref a); Pure.pure (ForInStep.yield PUnit.unit)) Q2 B e d2 acts2 (zgF T cA cB v w i) := by
    intro i hi d2 acts2 Q2 hQ
    obtain ⟨h1, h2, h3, h4, -, -⟩ := zgF_P T cA cB v w i
    have hroom : i * w + w ≤ v * w := by rw [← Nat.succ_mul]; exact Nat.mul_le_mul_right w hi
    rw [wp_bind', multianewarray.make]
    simp only [wp_bind', W.ite, hk, if_false, wp_pure', W.theClass, h3, hB, hB2, Option.some.injEq, exists_eq_left', hw]
    refine W.newArray_of (by rw [h3]; exact hB) hB2 (Nat.not_lt.mpr hkl) (Nat.not_lt.mpr hkh) (by rw [h1]; omega) (by rw [h2]; omega) rfl (fun acts4 => ?_)
    have e1 : ({ cls := cB, slots := Array.replicate w (defaultValue .int) } : Cell) = arrV cB w (fun _ => .int 0) := arrV_new cB w _
    rw [e1]
    simp only [wp_bind', W.writeLoc, wp_pure']
    refine ⟨arrV cA v (zgA T.heap.size i), (State.heap_pushCell_of_lt _ _ (show T.heap.size < (zgF T cA cB v w i).heap.size by rw [h1]; omega)).trans h4, by simp [arrV], by rw [arrV_size]; exact hi, ?_, hQ _ _⟩
    simp [arrV, State.fitsSlot, State.slotType?, h3, hA, hA2]
    rfl
  show wp (forIn (List.range' 0 v 1) PUnit.unit _) _ B e d acts1 _
  refine wp_forIn_inv (fun todo U => ∃ i, i ≤ v ∧ todo = List.range' i (v - i) ∧ U = zgF T cA cB v w i) _ _ ⟨0, Nat.zero_le _, rfl, rfl⟩ ?_ ?_
  · rintro x todo U d2 acts2 Q2 ⟨i, hi, ht, rfl⟩ next
    obtain ⟨z, hz⟩ : ∃ z, v - i = z + 1 := ⟨v - i - 1, by
      rcases Nat.eq_zero_or_pos (v - i) with h | h
      · rw [h] at ht; cases ht
      · omega⟩
    rw [hz, List.range'_succ] at ht
    cases ht
    exact one x (by omega) d2 acts2 Q2 (fun d3 acts3 => next _ _ _ ⟨x + 1, by omega, by rw [show v - (x + 1) = z by omega], rfl⟩)
  · rintro U d2 acts2 ⟨i, hi, ht, rfl⟩
    have hz : v - i = 0 := by
      rcases Nat.eq_zero_or_pos (v - i) with h | h
      · exact h
      · obtain ⟨z, hz⟩ : ∃ z, v - i = z + 1 := ⟨v - i - 1, by omega⟩
        rw [hz, List.range'_succ] at ht
        cases ht
    rw [show i = v by omega, wp_pure']
    exact kk _ _
theorem zg_W {p : Program} {l : Launch} {e : Env} {R : Room} {s : State} {m : MethodId} {args : Array Value} {below : List Frame} {meth : Method} {c : Code} {H : Heap} {locs : List Loc} {cells slots : Nat} {Q : State → Prop} {cc : ByteArray} {pc : Nat} {ls : Array Slot} {rest : List Value} {own : String} {idx : Nat} {n k : Int32}
    (hexec : p.tables.exec = Jvm.exec) (hb : c.code = cc) (hown : s.vm.findClass own = some m.cls) (hlk : (Cond.classLink own idx "[[I").before args s = true) (hover : (Cond.arrayOver (.array .int)).before args s = true) (harr : (Cond.arrayClass .int).before args s = true)
    (hd : decode cc pc = .ok (.multianewarray idx 2, 4)) (hn : ¬ n < 0) (hk : ¬ k < 0) (hn2 : n.toNatClampNeg ≤ 10000) (hk2 : k.toNatClampNeg ≤ 10000) (hcells : cells + (1 + n.toNatClampNeg) ≤ R.cells) (hslots : slots + (n.toNatClampNeg + n.toNatClampNeg * k.toNatClampNeg) ≤ R.slots)
    (kk : ∀ (cA cB : ClassId) (H1 : Heap) (ps : List Loc), s.vm.findClass "[[I" = some cA → s.vm.findClass "[I" = some cB → (∀ x ∈ ps, x.base = H.size) → H1.size = H.size + 1 + n.toNatClampNeg → H1[H.size]? = some (arrV cA n.toNatClampNeg (zgA H.size n.toNatClampNeg)) → (∀ a, a < H.size → H1[a]? = H[a]?) → (∀ j, j < n.toNatClampNeg → H1[H.size + 1 + j]? = some (arrV cB k.toNatClampNeg (fun _ => .int 0))) →
      W p l e R s m args below meth c H1 (locs ++ ps) (cells + 1 + n.toNatClampNeg) (slots + n.toNatClampNeg + n.toNatClampNeg * k.toNatClampNeg) Q (F0 m (pc + 4) ls (.ref H.size :: rest))) :
    W p l e R s m args below meth c H locs cells slots Q (F0 m pc ls (.int k :: .int n :: rest)) := by
  intro T hT X
  subst hT; subst hb
  have hpl : e.platform.magicAccessors = ({} : Platform).magicAccessors := by rw [X.admits.platform]
  obtain ⟨cB, cA, kA, b1, -, a1, a2, a3⟩ := arrayOverA_spec hover
  obtain ⟨cB', kB, cI, b2, b3, b4⟩ := Cond.arrayClass_spec harr
  cases b2.symm.trans b1
  obtain ⟨cA', a4, hcl⟩ := Cond.classLink_spec hown hlk e.platform hpl
  cases (show s.vm.findClass "[[I" = some cA from a3).symm.trans a4
  obtain ⟨g1, g2, g3⟩ := State.classEntry (e := e) X.warmed hcl
  generalize T.vm.noted m.cls idx (.cls cA) = vm at g1 g2 g3
  obtain ⟨kA', c1, c2⟩ := g2.alike.2.2 _ _ a1
  obtain ⟨kB', c3, c4⟩ := g2.alike.2.2 _ _ b3
  have c5 : kA'.kind = .array cB (.array .int) := by rw [c2]; exact a2
  have c6 : kB'.kind = .array cI .int := by rw [c4]; exact b4
  have X1 := X.noted g2
  obtain ⟨r1, r2⟩ := X.roomAbove hcells hslots
  obtain ⟨ps, X2, hps⟩ := zgF_X X1 cA cB n.toNatClampNeg k.toNatClampNeg n.toNatClampNeg
  obtain ⟨h1, h2, h3, h4, h5, h6⟩ := zgF_P (T.setVm vm) cA cB n.toNatClampNeg k.toNatClampNeg n.toNatClampNeg
  obtain ⟨t, st, hQ⟩ := kk cA cB _ ps a4 b1 hps h1 h4 h5 h6 _ rfl X2
  refine ⟨t, ?_, hQ⟩
  have p1 := Launch.admits_arrayLengthLimit X.admits
  have p2 := Launch.admits_maxHeapBytes X.admits
  jvm_step X.here [hexec, hd]
  simp only [multianewarray.sem, wp_bind', W.resolveClassAt_links (State.method?_setTop (F0 m pc ls (.int k :: .int n :: rest)) X.here.top) g1]
  rw [W.popN, if_neg (by decide)]
  refine ⟨F0 m pc ls (.int k :: .int n :: rest), State.topJava?_setTop' (s := T.setVm vm) _ X.here.top, [.int n, .int k], rest, rfl, rfl, ?_⟩
  simp only [List.mapM_cons, List.mapM_nil, wp_bind', wp_pure']
  have eT : ((T.setTop (F0 m pc ls (.int k :: .int n :: rest))).setVm vm).setTop { F0 m pc ls (.int k :: .int n :: rest) with stack := rest } = (T.setVm vm).setTop (F0 m pc ls rest) := by
    show ((T.setVm vm).setTop _).setTop _ = _
    rw [State.setTop_setTop]
  rw [eT]
  refine zg_make c1 c5 c3 c6 hn hk (by rw [p1]; omega) (by rw [p2]; omega) (by rw [p1]; omega) (by rw [p2]; omega) (by show T.heap.size + 1 + _ ≤ _; omega) (by show T.slotsUsed + _ + _ ≤ _; omega) (fun d1 acts1 => ?_)
  rw [zgF_top]
  simp only [wp_bind', W.mark, W.pushRef, State.topJava?_setTop' _ X2.here.top, Option.some.injEq, exists_eq_left', State.setTop_setTop, State.heap_setTop]
  intro acts2
  simp [jvm, X2.here.top]
  exact st
