theorem mul66 : ∀ c, c < 24 → 66 * nI c = nI (66 * c) := by decide +kernel
/-- the oldest is dropped -/
def zshf (I : Nat → Nat → Int32) (k : Nat) : Nat → Int32 := fun b => if b < k then I 91 (b + 66) else I 91 b
theorem zshf_0 (I : Nat → Nat → Int32) : zshf I 0 = I 91 := by funext b; unfold zshf; rw [if_neg (by omega)]
theorem zshf_up (I : Nat → Nat → Int32) (k : Nat) : upd (zshf I k) k (zshf I k (k + 66)) = zshf I (k + 1) := by
  funext b
  unfold upd zshf
  by_cases hb : b = k
  · subst hb; rw [if_pos rfl, if_neg (by omega), if_pos (by omega)]
  · rw [if_neg hb]
    have : b < k + 1 ↔ b < k := by omega
    simp only [this]
set_option maxRecDepth 100000 in
set_option maxHeartbeats 4000000 in
theorem rem_loop {l : zL} {I : Nat → Nat → Int32} {J : Nat → Nat → Int64} {nw : Bool} {Q : Option Value → zH → Prop} (hQ : ∀ v1 : Value, v1.category = 1 → zW l mX9_remember SH.length (zsl SH) 39 [.ref 85, v1] [] (zrow I 91 (zshf I 1518), J, RF nw, SH) Q) : ∀ (f k : Nat), k ≤ 1518 → 1518 - k < f →
    zW l mX9_remember SH.length (zsl SH) 11 [.ref 85, .int (nI k)] [] (zrow I 91 (zshf I k), J, RF nw, SH) Q
  | 0, k, _, hf => by omega
  | f + 1, k, hk, hf => by
    refine z_iload_1 (pc := 11) dX9_remember_11 ?_
    refine z_sipush (pc := 12) (1518) dX9_remember_12 rfl ?_
    refine z_icmp_ge (pc := 15) (tgt := 39) dX9_remember_15 (by decide) (fun c15 => ?_) (fun c15 => ?_)
    · skip
      have hk6 : k = 1518 := by
        rcases Nat.lt_or_ge k 1518 with q | q
        · exact absurd c15 (nI_ge (b := 1518) q (by omega))
        · omega
      subst hk6
      exact hQ _ rfl
    · skip
      have hlt : k < 1518 := by
        rcases Nat.lt_or_ge k 1518 with q | q
        · exact q
        · exact absurd (nI_le (a := 1518) q (by omega)) c15
      refine z_aload_0 (pc := 18) dX9_remember_18 ?_
      refine y_getR (pc := 19) dX9_remember_19 flX9_25 rfl (by first | rfl | assumption) (by first | rfl | assumption) ?_
      refine z_iload_1 (pc := 22) dX9_remember_22 ?_
      refine z_aload_0 (pc := 23) dX9_remember_23 ?_
      refine y_getR (pc := 24) dX9_remember_24 flX9_25 rfl (by first | rfl | assumption) (by first | rfl | assumption) ?_
      refine z_iload_1 (pc := 27) dX9_remember_27 ?_
      refine z_bipush (pc := 28) (66) dX9_remember_28 rfl ?_
      refine z_iadd (pc := 30) dX9_remember_30 ?_
      refine y_ialdN (pc := 31) (k + 66) dX9_remember_31 (by first | rfl | assumption) (nI_add k 66) (by omega) (by first | decide | omega) ?_
      refine y_iastN (pc := 32) (k) dX9_remember_32 (by first | rfl | assumption) (rfl) (by omega) (by first | decide | omega) ?_
      refine z_iinc_1 (pc := 33) (1) dX9_remember_33 rfl (by decide) rfl ?_
      refine z_goto (pc := 36) (tgt := 11) dX9_remember_36 (by decide) ?_
      rw [← nI_succ, zrow_up, zrow_at, zshf_up]
      exact rem_loop hQ f (k + 1) (by omega) (by omega)
set_option maxRecDepth 100000 in
set_option maxHeartbeats 4000000 in
theorem qX9_remember_lt {l : zL} {I : Nat → Nat → Int32} {J : Nat → Nat → Int64} {nw : Bool} (c : Nat) (hc : I 85 9 = nI c) (hl : c < 24) : zP l mX9_remember [.ref 85] (hh I J nw) (zR none (zup (zcpy I 90 91 0 (66 * c) 66) 85 9 (nI (c + 1)), J, RF nw, SH)) := by
  refine z_start [.ref 85, zno] (by decide +kernel) (Nat.le_of_ble_eq_true rfl) rfl ?_
  refine z_aload_0 (pc := 0) dX9_remember_0 ?_
  refine y_getI (pc := 1) dX9_remember_1 flX9_147 rfl (by first | rfl | assumption) ?_
  refine z_bipush (pc := 4) (24) dX9_remember_4 rfl ?_
  refine z_icmp_ne (pc := 6) (tgt := 49) dX9_remember_6 (by decide) (fun c6 => ?_) (fun c6 => ?_)
  · skip
    refine z_aload_0 (pc := 49) dX9_remember_49 ?_
    refine y_getR (pc := 50) dX9_remember_50 flX9_22 rfl (by first | rfl | assumption) (by first | rfl | assumption) ?_
    refine z_iconst (pc := 53) (0) dX9_remember_53 rfl ?_
    refine z_aload_0 (pc := 54) dX9_remember_54 ?_
    refine y_getR (pc := 55) dX9_remember_55 flX9_25 rfl (by first | rfl | assumption) (by first | rfl | assumption) ?_
    refine z_bipush (pc := 58) (66) dX9_remember_58 rfl ?_
    refine z_aload_0 (pc := 60) dX9_remember_60 ?_
    refine y_getI (pc := 61) dX9_remember_61 flX9_147 rfl (by first | rfl | assumption) ?_
    refine z_imul (pc := 64) dX9_remember_64 ?_
    refine z_S4 (pc := 65) dX9_remember_65 mlX9_150 kX9_copies vX9_copies (by decide) (by decide) (Nat.le_of_ble_eq_true rfl) (qX9_copies 90 91 66 1584 0 (66 * c) rfl rfl (by decide) (by omega) (by omega) (by decide) rfl (by rw [hc]; exact mul66 c hl)) ⟨Nat.le_refl _, Nat.le_refl _⟩ (fun r h1 hq => ?_)
    obtain ⟨rfl, rfl⟩ := hq
    refine z_aload_0 (pc := 68) dX9_remember_68 ?_
    refine z_dup (pc := 69) rfl dX9_remember_69 ?_
    refine y_getI (pc := 70) dX9_remember_70 flX9_147 rfl (by first | rfl | assumption) ?_
    refine z_iconst (pc := 73) (1) dX9_remember_73 rfl ?_
    refine z_iadd (pc := 74) dX9_remember_74 ?_
    refine y_putI (pc := 75) dX9_remember_75 flX9_147 ffX9_147 rfl (by first | rfl | assumption) ⟨rfl, rfl⟩ ?_
    refine z_ret (pc := 78) (r := none) rfl dX9_remember_78 trivial rfl rfl ?_
    refine ⟨rfl, ?_⟩
    rw [show zcpy I 90 91 0 (66 * c) 66 85 9 + 1 = nI (c + 1) from by rw [show zcpy I 90 91 0 (66 * c) 66 85 9 = I 85 9 from rfl, hc, nI_succ]]
  · exact absurd ((nI_eq (a := c) (b := 24) (by omega) (by decide)).mp (hc.symm.trans c6)) (by omega)
set_option maxRecDepth 100000 in
set_option maxHeartbeats 4000000 in
theorem qX9_remember_full {l : zL} {I : Nat → Nat → Int32} {J : Nat → Nat → Int64} {nw : Bool} (hc : I 85 9 = 24) : zP l mX9_remember [.ref 85] (hh I J nw) (zR none (zup (zcpy (zup (zrow I 91 (zshf I 1518)) 85 9 23) 90 91 0 1518 66) 85 9 24, J, RF nw, SH)) := by
  refine z_start [.ref 85, zno] (by decide +kernel) (Nat.le_of_ble_eq_true rfl) rfl ?_
  refine z_aload_0 (pc := 0) dX9_remember_0 ?_
  refine y_getI (pc := 1) dX9_remember_1 flX9_147 rfl (by first | rfl | assumption) ?_
  refine z_bipush (pc := 4) (24) dX9_remember_4 rfl ?_
  refine z_icmp_ne (pc := 6) (tgt := 49) dX9_remember_6 (by decide) (fun c6 => ?_) (fun c6 => ?_)
  · exact absurd hc c6
  · skip
    refine z_iconst (pc := 9) (0) dX9_remember_9 rfl ?_
    refine z_istore_1 (pc := 10) dX9_remember_10 (by decide) rfl ?_
    have k39 : ∀ v1 : Value, v1.category = 1 → zW l mX9_remember SH.length (zsl SH) 39 [.ref 85, v1] [] (zrow I 91 (zshf I 1518), J, RF nw, SH) (zR none (zup (zcpy (zup (zrow I 91 (zshf I 1518)) 85 9 23) 90 91 0 1518 66) 85 9 24, J, RF nw, SH)) := by
      intro v1 hv1
      refine z_aload_0 (pc := 39) dX9_remember_39 ?_
      refine z_dup (pc := 40) rfl dX9_remember_40 ?_
      refine y_getI (pc := 41) dX9_remember_41 flX9_147 rfl (by first | rfl | assumption) ?_
      refine z_iconst (pc := 44) (1) dX9_remember_44 rfl ?_
      refine z_isub (pc := 45) dX9_remember_45 ?_
      refine y_putI (pc := 46) dX9_remember_46 flX9_147 ffX9_147 rfl (by first | rfl | assumption) ⟨rfl, rfl⟩ ?_
      rw [show zrow I 91 (zshf I 1518) 85 9 - 1 = 23 from by rw [zrow_ne _ _ _ (by decide), hc]; rfl]
      refine z_aload_0 (pc := 49) dX9_remember_49 ?_
      refine y_getR (pc := 50) dX9_remember_50 flX9_22 rfl (by first | rfl | assumption) (by first | rfl | assumption) ?_
      refine z_iconst (pc := 53) (0) dX9_remember_53 rfl ?_
      refine z_aload_0 (pc := 54) dX9_remember_54 ?_
      refine y_getR (pc := 55) dX9_remember_55 flX9_25 rfl (by first | rfl | assumption) (by first | rfl | assumption) ?_
      refine z_bipush (pc := 58) (66) dX9_remember_58 rfl ?_
      refine z_aload_0 (pc := 60) dX9_remember_60 ?_
      refine y_getI (pc := 61) dX9_remember_61 flX9_147 rfl (by first | rfl | assumption) ?_
      refine z_imul (pc := 64) dX9_remember_64 ?_
      refine z_S4 (pc := 65) dX9_remember_65 mlX9_150 kX9_copies vX9_copies (by decide) (by decide) (Nat.le_of_ble_eq_true rfl) (qX9_copies 90 91 66 1584 0 (66 * 23) rfl rfl (by decide) (by omega) (by omega) (by decide) rfl (rfl)) ⟨Nat.le_refl _, Nat.le_refl _⟩ (fun r h1 hq => ?_)
      obtain ⟨rfl, rfl⟩ := hq
      refine z_aload_0 (pc := 68) dX9_remember_68 ?_
      refine z_dup (pc := 69) rfl dX9_remember_69 ?_
      refine y_getI (pc := 70) dX9_remember_70 flX9_147 rfl (by first | rfl | assumption) ?_
      refine z_iconst (pc := 73) (1) dX9_remember_73 rfl ?_
      refine z_iadd (pc := 74) dX9_remember_74 ?_
      refine y_putI (pc := 75) dX9_remember_75 flX9_147 ffX9_147 rfl (by first | rfl | assumption) ⟨rfl, rfl⟩ ?_
      refine z_ret (pc := 78) (r := none) rfl dX9_remember_78 trivial rfl rfl ?_
      exact ⟨rfl, rfl⟩
    have k := rem_loop (l := l) (I := I) (J := J) (nw := nw) k39 1519 0 (by omega) (by omega)
    rw [zshf_0, zrow_self, nI_0] at k
    exact k
