/-- the town is remembered -/
def zrem (I : Nat → Nat → Int32) (c : Nat) : Nat → Nat → Int32 := if c = 24 then zup (zcpy (zup (zrow I 91 (zshf I 1518)) 85 9 23) 90 91 0 1518 66) 85 9 24 else zup (zcpy I 90 91 0 (66 * c) 66) 85 9 (nI (c + 1))
theorem qX9_remember {l : zL} {I : Nat → Nat → Int32} {J : Nat → Nat → Int64} {nw : Bool} (c : Nat) (hc : I 85 9 = nI c) (hl : c ≤ 24) : zP l mX9_remember [.ref 85] (hh I J nw) (zR none (zrem I c, J, RF nw, SH)) := by
  unfold zrem
  by_cases h : c = 24
  · subst h
    rw [if_pos rfl]
    exact qX9_remember_full hc
  · rw [if_neg h]
    exact qX9_remember_lt c hc (by omega)
/-- a cask is filled -/
def zfil (I : Nat → Nat → Int32) (i : Nat) (x m : Int32) : Nat → Nat → Int32 := zup (zup (zup (zup I 90 (44 + i) 1) 90 (48 + i) x) 90 (52 + i) m) 90 (56 + i) 0
