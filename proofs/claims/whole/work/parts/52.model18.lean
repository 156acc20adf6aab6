theorem zrem_90 (I : Nat → Nat → Int32) (c : Nat) : zrem I c 90 = I 90 := by
  funext b
  unfold zrem
  by_cases h : c = 24
  · rw [if_pos h]; rfl
  · rw [if_neg h]; rfl
