-- ===== what a telling is, in plain words: sets of the six drinkers as bits, and one step of a saying =====
def bs (f : Nat → Bool) : Nat := (f 0).toNat + 2 * (f 1).toNat + 4 * (f 2).toNat + 8 * (f 3).toNat + 16 * (f 4).toNat + 32 * (f 5).toNat
theorem bs_lt (f : Nat → Bool) : bs f < 64 := by
  unfold bs
  generalize f 0 = a, f 1 = b, f 2 = c, f 3 = d, f 4 = e, f 5 = g
  revert a b c d e g; decide
theorem bs_congr {f g : Nat → Bool} (h : ∀ d, d < 6 → f d = g d) : bs f = bs g := by
  unfold bs; rw [h 0 (by decide), h 1 (by decide), h 2 (by decide), h 3 (by decide), h 4 (by decide), h 5 (by decide)]
theorem bs_inj {f g : Nat → Bool} (h : bs f = bs g) : ∀ d, d < 6 → f d = g d := by
  unfold bs at h
  have e : ∀ a b c d e i a' b' c' d' e' i' : Bool, a.toNat + 2 * b.toNat + 4 * c.toNat + 8 * d.toNat + 16 * e.toNat + 32 * i.toNat = a'.toNat + 2 * b'.toNat + 4 * c'.toNat + 8 * d'.toNat + 16 * e'.toNat + 32 * i'.toNat → a = a' ∧ b = b' ∧ c = c' ∧ d = d' ∧ e = e' ∧ i = i' := by
    intro a b c d e i a' b' c' d' e' i' h
    cases a <;> cases b <;> cases c <;> cases d <;> cases e <;> cases i <;> cases a' <;> cases b' <;> cases c' <;> cases d' <;> cases e' <;> cases i' <;> first | exact ⟨rfl, rfl, rfl, rfl, rfl, rfl⟩ | (simp at h; done)
  obtain ⟨h0, h1, h2, h3, h4, h5⟩ := e _ _ _ _ _ _ _ _ _ _ _ _ h
  intro d hd
  match d, hd with
  | 0, _ => exact h0
  | 1, _ => exact h1
  | 2, _ => exact h2
  | 3, _ => exact h3
  | 4, _ => exact h4
  | 5, _ => exact h5
theorem six {P : Nat → Prop} (h0 : P 0) (h1 : P 1) (h2 : P 2) (h3 : P 3) (h4 : P 4) (h5 : P 5) : ∀ d, d < 6 → P d := by
  intro d hd
  match d, hd with
  | 0, _ => exact h0
  | 1, _ => exact h1
  | 2, _ => exact h2
  | 3, _ => exact h3
  | 4, _ => exact h4
  | 5, _ => exact h5
theorem bs_set (f : Nat → Bool) : ∀ d, d < 6 → nI (bs f) ||| ((1 : Int32) <<< (nI d &&& 31)) = nI (bs (fun e => f e || e == d)) := by
  apply six <;> (dsimp only [bs]; generalize f 0 = a, f 1 = b, f 2 = c, f 3 = d, f 4 = e, f 5 = g; revert a b c d e g; decide +kernel)
theorem bs_one : ∀ d, d < 6 → ((1 : Int32) <<< (nI d &&& 31)) = nI (bs (fun e => e == d)) := by decide +kernel
theorem bs_test (f : Nat → Bool) : ∀ d, d < 6 → (nI (bs f) >>> (nI d &&& 31)) &&& 1 = if f d = true then 1 else 0 := by
  apply six <;> (dsimp only [bs]; generalize f 0 = a, f 1 = b, f 2 = c, f 3 = d, f 4 = e, f 5 = g; revert a b c d e g; decide +kernel)
theorem bs_or (f g : Nat → Bool) : nI (bs f) ||| nI (bs g) = nI (bs (fun e => f e || g e)) := by
  dsimp only [bs]
  generalize f 0 = a, f 1 = b, f 2 = c, f 3 = d, f 4 = e, f 5 = i, g 0 = a', g 1 = b', g 2 = c', g 3 = d', g 4 = e', g 5 = i'
  revert a b c d e i a' b' c' d' e' i'; decide +kernel
theorem bs_and (f g : Nat → Bool) : nI (bs f) &&& nI (bs g) = nI (bs (fun e => f e && g e)) := by
  dsimp only [bs]
  generalize f 0 = a, f 1 = b, f 2 = c, f 3 = d, f 4 = e, f 5 = i, g 0 = a', g 1 = b', g 2 = c', g 3 = d', g 4 = e', g 5 = i'
  revert a b c d e i a' b' c' d' e' i'; decide +kernel
theorem bs_diff (f g : Nat → Bool) : nI (bs f) &&& (nI (bs g) ^^^ -1) = nI (bs (fun e => f e && !g e)) := by
  dsimp only [bs]
  generalize f 0 = a, f 1 = b, f 2 = c, f 3 = d, f 4 = e, f 5 = i, g 0 = a', g 1 = b', g 2 = c', g 3 = d', g 4 = e', g 5 = i'
  revert a b c d e i a' b' c' d' e' i'; decide +kernel
theorem bs_zero (f : Nat → Bool) : nI (bs f) = 0 ↔ ∀ d, d < 6 → f d = false := by
  constructor
  · intro h
    have h2 : bs f = bs (fun _ => false) := by
      have := (nI_eq (a := bs f) (b := 0) (by have := bs_lt f; omega) (by decide)).mp h
      rw [this]; rfl
    exact bs_inj h2
  · intro h
    rw [bs_congr (g := fun _ => false) h]; rfl
theorem bs_all : ∀ n, n ≤ 6 → (1 : Int32) <<< (nI n &&& 31) - 1 = nI (bs (fun d => decide (d < n))) := by decide +kernel
theorem bs_others : ∀ n, n ≤ 6 → ∀ d, d < 6 → nI (bs (fun d => decide (d < n))) &&& (((1 : Int32) <<< (nI d &&& 31)) ^^^ -1) = nI (bs (fun e => decide (e < n) && !(e == d))) := by decide +kernel
/-- does it believe; what does it pass on -/
def zbel (k db dl wh d s : Int32) : Bool := !(decide (k = 4) || decide (k = 5)) && decide (db ≤ (if d = wh then (if k = 3 then s / 2 else s) - 5 else if dl = wh then (if k = 3 then s / 2 else s) + 3 else (if k = 3 then s / 2 else s)))
def zpas (k s : Int32) (is : Bool) : Int32 := if k = 2 then (if is = true then s + 1 else 0) else if k = 4 then s - 2 else if k = 5 then s / 2 else if is = true then s - 1 else 0
/-- a town for a saying: how many, kinds, doubts, dislikes, about whom, who hears whom -/
abbrev zTn : Type := Nat × (Nat → Int32) × (Nat → Int32) × (Nat → Int32) × Int32 × (Nat → Nat → Bool)
def zB (t : zTn) (d : Nat) (s : Int32) : Bool := zbel (t.2.1 d) (t.2.2.1 d) (t.2.2.2.1 d) t.2.2.2.2.1 (nI d) s
def zon (t : zTn) (cm : Nat → Option Int32) (fs : Nat → Int32) (d : Nat) : Int32 := match cm d with
  | none => 0
  | some s => if fs d < 0 then zpas (t.2.1 d) s (zB t d s) else 0
def zmx (o : Option Int32) (v : Int32) : Option Int32 := match o with
  | none => some v
  | some u => some (if u < v then v else u)
def znx (t : zTn) (cm : Nat → Option Int32) (fs : Nat → Int32) : Nat → Nat → Option Int32
  | 0, _ => none
  | d + 1, e => if 0 < zon t cm fs d ∧ t.2.2.2.2.2 d e = true then zmx (znx t cm fs d e) (zon t cm fs d) else znx t cm fs d e
def zbl (t : zTn) (cm : Nat → Option Int32) (bl : Nat → Bool) (n d : Nat) : Bool := bl d || (decide (d < n) && match cm d with
  | none => false
  | some s => zB t d s)
def zfi (cm : Nat → Option Int32) (fs : Nat → Int32) (step n d : Nat) : Int32 := if d < n ∧ (cm d).isSome = true ∧ fs d < 0 then nI step else fs d
def zsome (cm : Nat → Option Int32) : Nat → Bool := fun d => (cm d).isSome
def zdone (cm : Nat → Option Int32) : Prop := ∀ d, d < 6 → cm d = none
/-- all steps: when it first came to each, who believes -/
def zit (t : zTn) : Nat → Nat → (Nat → Option Int32) → (Nat → Int32) → (Nat → Bool) → (Nat → Int32) × (Nat → Bool)
  | 0, _, _, fs, bl => (fs, bl)
  | f + 1, step, cm, fs, bl => if bs (zsome cm) = 0 then (fs, bl) else zit t f (step + 1) (znx t cm fs t.1) (zfi cm fs step t.1) (zbl t cm bl t.1)
def zrow (I : Nat → Nat → Int32) (k : Nat) (f : Nat → Int32) : Nat → Nat → Int32 := fun a b => if a = k then f b else I a b
theorem zrow_up (I : Nat → Nat → Int32) (k : Nat) (f : Nat → Int32) (j : Nat) (v : Int32) : zup (zrow I k f) k j v = zrow I k (upd f j v) := by
  funext a b; unfold zup zrow upd; by_cases ha : a = k <;> by_cases hb : b = j <;> simp [ha, hb]
theorem zrow_fill (I : Nat → Nat → Int32) (k n : Nat) (v : Int32) : zfill I k n v = zrow I k (fun b => if b < n then v else I k b) := by
  funext a b; unfold zfill zrow; by_cases ha : a = k
  · subst ha; by_cases hb : b < n <;> simp [hb]
  · simp [ha]
theorem zrow_self (I : Nat → Nat → Int32) (k : Nat) : zrow I k (I k) = I := by
  funext a b; unfold zrow; by_cases ha : a = k <;> simp [ha]
theorem zrow_at (I : Nat → Nat → Int32) (k : Nat) (f : Nat → Int32) (b : Nat) : zrow I k f k b = f b := if_pos rfl
theorem zrow_ne (I : Nat → Nat → Int32) {k a : Nat} (f : Nat → Int32) (b : Nat) (h : a ≠ k) : zrow I k f a b = I a b := if_neg h
def ztl (A B : Nat → Nat) (w : Nat → Bool) : Nat → Nat → Nat → Bool
  | 0, _, _ => false
  | k + 1, d, e => ztl A B w k d e || (!w k && (d == A k && e == B k))
/-- the town as a telling finds it -/
def zSet (I : Nat → Nat → Int32) (t : zTn) : Prop := t.1 ≤ 6 ∧ I 15 3 = nI t.1 ∧ ∀ d, d < t.1 → I 75 d = t.2.1 d ∧ I 17 d = t.2.2.1 d ∧ I 18 d = t.2.2.2.1 d ∧ (∃ k, 1 ≤ k ∧ k ≤ 5 ∧ t.2.1 d = nI k) ∧
  (t.2.1 d = 5 → ∀ e, t.2.2.2.2.2 d e = (decide (e < t.1) && !(e == d))) ∧ (¬ t.2.1 d = 5 → I 76 d = nI (bs (t.2.2.2.2.2 d))) ∧ ∀ e, t.2.2.2.2.2 d e = true → e < t.1
theorem zSet_keep {I I' : Nat → Nat → Int32} {t : zTn} (h : zSet I t) (hk : ∀ a, a = 15 ∨ a = 17 ∨ a = 18 ∨ a = 75 ∨ a = 76 → I' a = I a) : zSet I' t := by
  obtain ⟨h1, h2, h3⟩ := h
  rw [zSet, hk 15 (by omega), hk 17 (by omega), hk 18 (by omega), hk 75 (by omega), hk 76 (by omega)]
  exact ⟨h1, h2, h3⟩
