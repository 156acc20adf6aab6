-- ===== THE SMALL MACHINE: the machine's walk over one fixed world of numbered cells =====
/-- a cell's shape: its kind (0 .. 9 an object of vwCl; 10 int[], 11 long[], 12 boolean[], 13 Town[], 14 int[][]), its length -/
abbrev zSh : Type := Nat × Nat
/-- a heap: ints, longs, references, by cell and place; the shapes -/
abbrev zH : Type := (Nat → Nat → Int32) × (Nat → Nat → Int64) × (Nat → Nat → Option Nat) × List zSh
/-- where it stands: slots of the classes, the array classes, the first address, the read-only arrays, the script -/
abbrev zEn : Type := va_G × (Nat → ClassId) × Nat × (Nat → Nat)
/-- the launch, and the script: its length, its ints -/
abbrev zL : Type := Launch × Nat × (Nat → Int32)
/-- a method: name, bytes, locals, what it returns, its height -/
abbrev zMd : Type := MethodName × ByteArray × Nat × Option FieldType × Nat
def zad (E : zEn) (k : Nat) : Nat := if k < 10000 then E.2.2.1 + k else E.2.2.2 (k - 10000)
def ze (E : zEn) : Value → Value
  | .ref k => .ref (zad E k)
  | v => v
/-- which fields of a class are references -/
def zft : Nat → List Bool
  | 0 => [true, false, false]
  | 1 => [true, true, false]
  | 2 => [true]
  | 3 => [true, true, true, true]
  | 4 => [true, false, false, false]
  | 5 => [true, true, true]
  | 6 => [true, true, true, true, true, false, false, false, false, false]
  | 7 => [false, false, false, false, true, true, true, false, true, true, true]
  | 8 => [true, true, true, true, true, true, true, true, true, false]
  | 9 => [true, true, true, false, true, false, false, false, true, false, true, true, true, false, true, false, false, false, false, false, true, true, true, true, false, true]
  | _ => []
def zty : Nat → Nat → FieldType
  | 0 => tyX0 | 1 => tyX1 | 2 => tyX2 | 3 => tyX3 | 4 => tyX4 | 5 => tyX5 | 6 => tyX6 | 7 => tyX7 | 8 => tyX8 | 9 => tyX9
  | _ => fun _ => .int
def zfv (E : zEn) (i : Nat → Int32) (r : Nat → Option Nat) (j : Nat) (b : Bool) : Value := if b = true then va_rf ((r j).map (zad E)) else .int (i j)
def zfs (E : zEn) (i : Nat → Int32) (r : Nat → Option Nat) (ci : Nat) : List Value := (zft ci).mapIdx (fun j b => zfv E i r j b)
def zrf (E : zEn) (r : Nat → Option Nat) : Nat → Option Nat := fun j => (r j).map (zad E)
def zcell (E : zEn) (i : Nat → Int32) (g : Nat → Int64) (r : Nat → Option Nat) (q : zSh) : va_E :=
  if q.1 < 10 then .inr (q.1, zfs E i r q.1)
  else if q.1 = 10 then .inl (E.2.1 0, q.2, .inl i)
  else if q.1 = 11 then .inl (E.2.1 1, q.2, .inr (.inl g))
  else if q.1 = 12 then .inl (E.2.1 2, q.2, .inl i)
  else if q.1 = 13 then .inl (E.2.1 3, q.2, .inr (.inr (.inr (.inr (zrf E r)))))
  else .inl (E.2.1 4, q.2, .inr (.inr (.inr (.inr (zrf E r)))))
def zws (E : zEn) (h : zH) : va_W := h.2.2.2.mapIdx (fun k q => (zad E k, zcell E (h.1 k) (h.2.1 k) (h.2.2.1 k) q))
def zslot (q : zSh) : Nat := if q.1 < 10 then (zft q.1).length else q.2
def zsl (sh : List zSh) : Nat := (sh.map zslot).sum
def zA (E : zEn) : Nat → Prop := fun q => E.2.2.1 ≤ q
abbrev ztys (E : zEn) : List (ClassId × FieldType) := [(E.2.1 0, .int), (E.2.1 1, .long), (E.2.1 2, .boolean), (E.2.1 3, .object "RumourBrew$Town"), (E.2.1 4, .array .int)]
def zOkW (w : Cond) : Bool := goodWord w || (match w with
  | .fieldLinkNest _ _ _ _ _ _ => true
  | .methodLinkNest _ _ _ _ => true
  | .arrayOver _ => true
  | _ => false)
def zTs : List Cond := lw_tbl.filter zOkW
def zTb (U : State) : Prop := ∀ w ∈ zTs, w.before #[] U = true
def ztab0 : Nat → Int32 := fun j => [10, 11, 12, 11, 13, 14].getD j 0
def ztab1 : Nat → Int32 := fun j => [20, 21, 24, 22, 23, 23].getD j 0
/-- what is only read: the two tables of Asking, the script -/
def zRO (l : zL) (E : zEn) (U : State) (H : Heap) : Prop :=
  va_Z RX1 "SIZE_BODIES" "[I" (.ref (E.2.2.2 0)) (zA E) U H ∧ va_T .int (E.2.2.2 0) 6 (fun j => .int (ztab0 j)) (zA E) U H ∧
  va_Z RX1 "MARK_BODIES" "[I" (.ref (E.2.2.2 1)) (zA E) U H ∧ va_T .int (E.2.2.2 1) 6 (fun j => .int (ztab1 j)) (zA E) U H ∧
  va_X (E.2.2.2 2) l.2.1 l.2.2 U H ∧ E.2.2.2 2 < E.2.2.1
/-- locals: a list by place, .retAddr 0 where nothing is known -/
abbrev zno : Value := .retAddr 0
def zlv (E : zEn) (ls : Array Slot) (nL : Nat) (L : List Value) : Prop := ls.size = nL ∧ lv_wf ls ∧ ∀ (i : Nat) (v : Value), L[i]? = some v → v ≠ zno → ls[i]? = some (.val (ze E v))
def zRm (d mc ms : Nat) : Room := { frames := d, cells := mc, slots := ms, locals := 64 * d }
def zCx (l : zL) (M : zMd) (E : zEn) (n0 : Nat) (p : Program) (s : State) (m : MethodId) (meth : Method) (c : Code) : Prop :=
  p.tables.exec = Jvm.exec ∧ c.code = M.2.1 ∧ c.maxLocals = M.2.2.1 ∧ meth.sig.returnType = M.2.2.2.1 ∧ meth.locks = false ∧ s.vm.findClass M.1.cls = some m.cls ∧ zTb s ∧ va_K E.1 vwCl (ztys E) s ∧ s.heap.size = E.2.2.1 + n0 ∧ zRO l E s s.heap ∧ meth.name = M.1.name
def zRi : Option FieldType → Instr
  | none => .return_
  | some .long => .lreturn
  | some .int => .ireturn
  | some .boolean => .ireturn
  | _ => .areturn
def zfit : Option FieldType → Option Value → Prop
  | none, none => True
  | some .int, some (.int _) => True
  | some .boolean, some (.int v) => v = 0 ∨ v = 1
  | some .long, some (.long _) => True
  | some (.object _), some (.ref _) => True
  | _, _ => False
/-- the world at one point of the walk -/
def zAt (M : zMd) (N S : Nat) (E : zEn) (n0 z0 : Nat) (s : State) (H : Heap) (locs : List Loc) (cells slots : Nat) (h : zH) : Prop :=
  va_P E.1 vwCl (zws E h) H ∧ va_S (zA E) s.heap H locs ∧ cells + n0 = h.2.2.2.length ∧ slots + z0 = zsl h.2.2.2 ∧ h.2.2.2.length ≤ N ∧ zsl h.2.2.2 ≤ S ∧ N ≤ 10000
def zW (l : zL) (M : zMd) (N S pc : Nat) (L st : List Value) (h : zH) (Q : Option Value → zH → Prop) : Prop :=
  ∀ (p : Program) (e : Env) (s : State) (m : MethodId) (args : Array Value) (below : List Frame) (meth : Method) (c : Code) (E : zEn) (n0 z0 : Nat) (H : Heap) (locs : List Loc) (cells slots : Nat) (ls : Array Slot) (R : Room) (Z : State → Prop),
    zCx l M E n0 p s m meth c → zAt M N S E n0 z0 s H locs cells slots h → zlv E ls M.2.2.1 L →
    (M.2.2.2.2 ≤ R.frames ∧ 64 * M.2.2.2.2 ≤ R.locals ∧ N ≤ R.cells + n0 ∧ S ≤ R.slots + z0) →
    (∀ (r : Option Value) (h1 : zH) (H1 : Heap) (locs1 : List Loc) (cells1 slots1 pc1 : Nat) (ls1 : Array Slot), Q r h1 → zfit M.2.2.2.1 r → zAt M N S E n0 z0 s H1 locs1 cells1 slots1 h1 → h1.2.2.2.length = N → zsl h1.2.2.2 = S → decode M.2.1 pc1 = .ok (zRi M.2.2.2.1, 1) →
      W p l.1 e R s m args below meth c H1 locs1 cells1 slots1 Z (F0 m pc1 ls1 (r.toList.map (ze E)))) →
    W p l.1 e R s m args below meth c H locs cells slots Z (F0 m pc ls (st.map (ze E)))
/-- a method's contract -/
def zIn (l : zL) (E : zEn) (h : zH) (U : State) : Prop := U.heap.size = E.2.2.1 + h.2.2.2.length ∧ va_P E.1 vwCl (zws E h) U.heap ∧ va_K E.1 vwCl (ztys E) U ∧ zTb U ∧ zRO l E U U.heap
def zQc (E : zEn) (N S : Nat) (Q : Option Value → zH → Prop) : Array Value → State → Outcome → State → Prop := fun _ st o t =>
  (∃ (r : Option Value) (h1 : zH), o = .returned (r.map (ze E)) ∧ Q r h1 ∧ va_P E.1 vwCl (zws E h1) t.heap ∧ h1.2.2.2.length = N ∧ zsl h1.2.2.2 = S) ∧ va_F (zA E) st t
def zMet (l : zL) (M : zMd) (N S : Nat) (as : List Value) (h : zH) (Q : Option Value → zH → Prop) : Prop :=
  h.2.2.2.length ≤ N → zsl h.2.2.2 ≤ S → N ≤ 10000 → ∀ E : zEn, Met l.1 M.1 [.code M.1 M.2.1 M.2.2.1 M.2.2.2.1] (zRm M.2.2.2.2 (N - h.2.2.2.length) (S - zsl h.2.2.2)) (va_Pc (as.map (ze E)) (zIn l E h)) (zQc E N S Q) (N - h.2.2.2.length) (S - zsl h.2.2.2) (zA E)
-- what every proof below uses of the world
theorem zws_get (E : zEn) (h : zH) (k : Nat) : (zws E h)[k]? = (h.2.2.2[k]?).map (fun q => (zad E k, zcell E (h.1 k) (h.2.1 k) (h.2.2.1 k) q)) := by
  unfold zws
  rw [List.getElem?_mapIdx]
theorem zws_at {E : zEn} {h : zH} {k : Nat} {q : zSh} (hs : h.2.2.2[k]? = some q) : (zws E h)[k]? = some (zad E k, zcell E (h.1 k) (h.2.1 k) (h.2.2.1 k) q) := by
  rw [zws_get, hs]; rfl
theorem zws_len (E : zEn) (h : zH) : (zws E h).length = h.2.2.2.length := by unfold zws; rw [List.length_mapIdx]
theorem zad_lo {E : zEn} {k : Nat} (h : k < 10000) : zad E k = E.2.2.1 + k := if_pos h
theorem zD {E : zEn} {h : zH} {N : Nat} (h1 : h.2.2.2.length ≤ N) (h2 : N ≤ 10000) : va_D (zA E) (zws E h) := by
  have key : ∀ (k : Nat) (q : Nat × va_E), (zws E h)[k]? = some q → k < h.2.2.2.length ∧ q.1 = E.2.2.1 + k := by
    intro k q hk
    have hl := (List.getElem?_eq_some_iff.mp hk).1
    rw [zws_len] at hl
    rw [zws_get] at hk
    cases hq : h.2.2.2[k]? with
    | none => rw [hq] at hk; cases hk
    | some x =>
      rw [hq] at hk
      cases hk
      exact ⟨hl, zad_lo (by omega)⟩
  refine ⟨fun i j p q hi hj hpq => ?_, fun k q hk => ?_⟩
  · have a := key i p hi
    have b := key j q hj
    omega
  · have a := key k q hk
    show E.2.2.1 ≤ q.1
    omega
theorem zRO_kept {l : zL} {E : zEn} {s U : State} {H : Heap} {locs : List Loc} {n0 : Nat} (h : zRO l E s s.heap) (hz : s.heap.size = E.2.2.1 + n0) (hS : va_S (zA E) s.heap H locs) (hvm : s.vm.Alike U.vm) : zRO l E U H := by
  obtain ⟨a1, a2, a3, a4, a5, a6⟩ := h
  have hq : ∀ a : Nat, a < s.heap.size → ¬ zA E a → H[a]? = s.heap[a]? := fun a h1 h2 => hS.2.1 a h1 h2
  exact ⟨(a1.kept hq).moved hvm, (a2.kept hq).moved hvm, (a3.kept hq).moved hvm, (a4.kept hq).moved hvm, (a5.kept (hq _ (by omega) (by unfold zA; omega))).moved hvm, a6⟩
theorem zAO_moved {ty : FieldType} {a a' : Array Value} {u U : State} (hvm : u.vm.Alike U.vm) (h : (Cond.arrayOver ty).before a u = true) : (Cond.arrayOver ty).before a' U = true := by
  have hb : U.vm.bare = u.vm.bare := by first | exact hvm.bare_eq | exact hvm.bare_eq.symm
  have key : ∀ (tn tn' : Option ClassId) (nm : String), tn' = tn → (tn.bind fun comp => (u.vm.classes.findIdx? fun (x : Class) => match x.kind with | .array component _ => component == comp | _ => false).bind fun c => (u.vm.classes[c]?).map fun (k : Class) => match k.kind with | .array _ t => decide (t = ty) && decide (u.vm.findClass nm = some c) | _ => false) = some true → (tn'.bind fun comp => (U.vm.classes.findIdx? fun (x : Class) => match x.kind with | .array component _ => component == comp | _ => false).bind fun c => (U.vm.classes[c]?).map fun (k : Class) => match k.kind with | .array _ t => decide (t = ty) && decide (U.vm.findClass nm = some c) | _ => false) = some true := by
    intro tn tn' nm hn h
    subst hn
    cases tn' with
    | none => cases h
    | some comp =>
      rw [Option.bind_some] at h ⊢
      have e1 := va_idx_bare U.vm comp
      have e2 := va_idx_bare u.vm comp
      rw [hb] at e1
      have e3 := e1.symm.trans e2
      cases hi : (u.vm.classes.findIdx? fun (x : Class) => match x.kind with | .array component _ => component == comp | _ => false) with
      | none => rw [hi] at h; cases h
      | some c =>
        have e4 : (U.vm.classes.findIdx? fun (x : Class) => match x.kind with | .array component _ => component == comp | _ => false) = some c := e3.trans hi
        rw [hi, Option.bind_some] at h
        rw [e4, Option.bind_some]
        cases hk : u.vm.classes[c]? with
        | none => rw [hk] at h; cases h
        | some x =>
          obtain ⟨y, hy, he⟩ := hvm.2.2 _ _ hk
          rw [hk] at h
          rw [hy, he, hvm.findClass]
          exact h
  unfold Cond.before Cond.holds at h ⊢
  rw [beq_iff_eq] at h ⊢
  simp only [Cond.value] at h ⊢
  cases ty with
  | object n => exact key (u.vm.findClass n) (U.vm.findClass n) _ (by rw [hvm.findClass]) h
  | array t => exact key (u.vm.findClass _) (U.vm.findClass _) _ (by rw [hvm.findClass]) h
  | _ => cases h
theorem zTb_moved {s U : State} (h : zTb s) (hW : s.WarmedH U.vm) : zTb U := by
  intro w hw
  have h1 := (List.mem_filter.mp hw).2
  unfold zOkW at h1
  rw [Bool.or_eq_true] at h1
  rcases h1 with h1 | h1
  · exact word_at hW (good_of_word h1) (h w hw)
  · have h2 := h w hw
    cases w <;> first | exact Bool.noConfusion h1 | exact va_Nw.warmF hW h2 | exact va_Nw.warmM hW h2 | exact zAO_moved hW.alike h2
theorem zTb_arg {s : State} (h : zTb s) (args : Array Value) : ∀ w ∈ zTs, w.before args s = true := by
  intro w hw
  have h1 := (List.mem_filter.mp hw).2
  unfold zOkW at h1
  rw [Bool.or_eq_true] at h1
  rcases h1 with h1 | h1
  · exact word_at (State.WarmedH.refl s) (good_of_word h1) (h w hw)
  · have h2 := h w hw
    cases w <;> first | exact Bool.noConfusion h1 | exact va_Nw.use rfl h2 | exact zAO_moved (Vm.Alike.refl s.vm) h2
theorem zTb_vm {s U : State} (h : zTb s) (he : s.vm = U.vm) : zTb U := zTb_moved h (by rw [← he]; exact State.WarmedH.refl s)
