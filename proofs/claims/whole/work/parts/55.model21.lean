/-- the same but for the model's scratch -/
def zEm (I I2 : Nat → Nat → Int32) : Prop := ∀ x y, ¬ (x = 96 ∨ x = 97 ∨ x = 98 ∨ x = 99 ∨ (x = 85 ∧ y = 24)) → I2 x y = I x y
def zPMe (P : Int32 × (Nat → Nat → Int32)) (J : Nat → Nat → Int64) (nw : Bool) : Option Value → zH → Prop := fun r h1 => r = some (.int P.1) ∧ ∃ I2, h1 = (I2, J, RF nw, SH) ∧ zEm P.2 I2
theorem zPMe_of {P : Int32 × (Nat → Nat → Int32)} {v : Int32} {I1 : Nat → Nat → Int32} {J : Nat → Nat → Int64} {nw : Bool} (e : P = (v, I1)) : zPMe P J nw (some (.int v)) (I1, J, RF nw, SH) := by
  subst e; exact ⟨rfl, I1, rfl, fun _ _ _ => rfl⟩
theorem zTO_em {I I2 : Nat → Nat → Int32} {fs : Nat → Int32} {bl : Nat → Bool} (h : zTO I I2 fs bl) : zEm I I2 := by
  intro x y hn
  by_cases h85 : x = 85
  · subst h85; exact h.2.1 y (fun q => hn (by simp [q]))
  · rw [h.1 x h85 (fun q => hn (by simp [q])) (fun q => hn (by simp [q])) (fun q => hn (by simp [q]))]
theorem zEm_up {I I2 : Nat → Nat → Int32} {k j : Nat} {v : Int32} (h : zEm I I2) : zEm (zup I k j v) (zup I2 k j v) := by
  intro x y hn
  unfold zup
  by_cases hq : x = k ∧ y = j
  · rw [if_pos hq, if_pos hq]
  · rw [if_neg hq, if_neg hq]; exact h x y hn
def mTb (I : Nat → Nat → Int32) (n T : Nat) (A B : Nat → Nat) (i d : Nat) : Int32 := nI (bs (zgo (zmT I 90 n T A B (fun _ => false) (I 90 (48 + i))) (fun e => e == d) (zst (I 90 0) (I 90 1) (I 90 (52 + i)) (I 90 (56 + i)))).2)
def mTap (I : Nat → Nat → Int32) (c n T : Nat) (A B : Nat → Nat) (x y : Int32) : Int32 × (Nat → Nat → Int32) := if zlt x 4 = true ∧ zlt y n = true then (if I 90 (44 + x.toNatClampNeg) = 0 then (-1000002, I) else (mTb I n T A B x.toNatClampNeg y.toNatClampNeg, zup (zup (zrem I c) 90 (60 + (I 90 (48 + x.toNatClampNeg)).toNatClampNeg) (I 90 (60 + (I 90 (48 + x.toNatClampNeg)).toNatClampNeg) ||| mTb I n T A B x.toNatClampNeg y.toNatClampNeg)) 90 (52 + x.toNatClampNeg) (I 90 (52 + x.toNatClampNeg) - (if ¬ I 90 (52 + x.toNatClampNeg) ≤ 0 then 1 else 0)))) else (-1000001, I)
set_option maxRecDepth 100000 in
set_option maxHeartbeats 4000000 in
theorem qX9_tap {l : zL} {I : Nat → Nat → Int32} {J : Nat → Nat → Int64} {nw : Bool} (n T : Nat) (A B : Nat → Nat) (ht : zRT I 90 n T A B) (hs : ∀ i, i < 4 → -1000 < zst (I 90 0) (I 90 1) (I 90 (52 + i)) (I 90 (56 + i))) (hw : ∀ i, i < 4 → ¬ I 90 (44 + i) = 0 → ∃ u, u < 6 ∧ I 90 (48 + i) = nI u) (c : Nat) (hc : I 85 9 = nI c) (hl : c ≤ 24) {x y : Int32} : zP l mX9_tap [.ref 85, .int x, .int y] (hh I J nw) (zPMe (mTap I c n T A B x y) J nw) := by
  have hn6 := ht.1
  refine z_start [.ref 85, .int x, .int y] (by decide +kernel) (Nat.le_of_ble_eq_true rfl) rfl ?_
  refine z_iload_1 (pc := 0) dX9_tap_0 ?_
  refine z_S1 (pc := 1) dX9_tap_1 mlX9_216 kX9_isCask vX9_isCask (by decide) (by decide) (Nat.le_of_ble_eq_true rfl) (qX9_isCask) ⟨Nat.le_refl _, Nat.le_refl _⟩ (fun r h1 hq => ?_)
  obtain ⟨rfl, rfl⟩ := hq
  refine z_if_eq (pc := 4) (tgt := 15) dX9_tap_4 (by decide) (fun c4 => ?_) (fun c4 => ?_)
  · skip
    refine z_ldc (pc := 15) dX9_tap_15 kcX9_70 ?_
    refine z_ret (pc := 17) (r := some (.int _)) rfl dX9_tap_17 trivial rfl rfl ?_
    refine zPMe_of ?_
    unfold mTap
    rw [if_neg (fun q => by rw [(zbb0 _).mp c4] at q; exact absurd q.1 (by decide))]
  · skip
    refine z_aload_0 (pc := 7) dX9_tap_7 ?_
    refine z_iload_2 (pc := 8) dX9_tap_8 ?_
    refine z_V1 (pc := 9) dX9_tap_9 mlX9_199 kX9_isDrinker vX9_isDrinker (by decide) (by decide) (by first | rfl | assumption) (Nat.le_of_ble_eq_true rfl) (qX9_isDrinker n hn6 ht.2.1) ⟨Nat.le_refl _, Nat.le_refl _⟩ (fun r h1 hq => ?_)
    obtain ⟨rfl, rfl⟩ := hq
    refine z_if_ne (pc := 12) (tgt := 18) dX9_tap_12 (by decide) (fun c12 => ?_) (fun c12 => ?_)
    · skip
      obtain ⟨i, hi, rfl⟩ := zlt_nI (by decide) ((zbb1 _).mp c4)
      obtain ⟨d, hd, rfl⟩ := zlt_nI (by omega) ((zbb1 _).mp c12)
      have hcl : (nI i).toNatClampNeg = i := nI_clamp (by omega)
      have hcl2 : (nI d).toNatClampNeg = d := nI_clamp (by omega)
      have hq2 : zlt (nI i) 4 = true ∧ zlt (nI d) n = true := ⟨zlt_of hi (by decide), zlt_of hd (by omega)⟩
      refine z_aload_0 (pc := 18) dX9_tap_18 ?_
      refine y_getR (pc := 19) dX9_tap_19 flX9_22 rfl (by first | rfl | assumption) (by first | rfl | assumption) ?_
      refine z_bipush (pc := 22) (44) dX9_tap_22 rfl ?_
      refine z_iload_1 (pc := 24) dX9_tap_24 ?_
      refine z_iadd (pc := 25) dX9_tap_25 ?_
      refine y_ialdN (pc := 26) (44 + i) dX9_tap_26 (by first | rfl | assumption) (nI_add 44 i) (by omega) (by first | decide | omega) ?_
      refine z_if_ne (pc := 27) (tgt := 33) dX9_tap_27 (by decide) (fun c27 => ?_) (fun c27 => ?_)
      · skip
        obtain ⟨u, hu, eu⟩ := hw i hi c27
        refine z_aload_0 (pc := 33) dX9_tap_33 ?_
        refine z_V0 (pc := 34) dX9_tap_34 mlX9_204 kX9_remember vX9_remember (by decide) (by decide) (by first | rfl | assumption) (Nat.le_of_ble_eq_true rfl) (qX9_remember c hc hl) ⟨Nat.le_refl _, Nat.le_refl _⟩ (fun r h1 hq => ?_)
        obtain ⟨rfl, rfl⟩ := hq
        refine z_aload_0 (pc := 37) dX9_tap_37 ?_
        refine z_aload_0 (pc := 38) dX9_tap_38 ?_
        refine y_getR (pc := 39) dX9_tap_39 flX9_22 rfl (by first | rfl | assumption) (by first | rfl | assumption) ?_
        refine z_iload_1 (pc := 42) dX9_tap_42 ?_
        refine z_iload_2 (pc := 43) dX9_tap_43 ?_
        refine z_V3 (pc := 44) dX9_tap_44 mlX9_219 kX9_taps vX9_taps (by decide) (by decide) (by first | rfl | assumption) (Nat.le_of_ble_eq_true rfl) (qX9_taps 90 rfl (by decide) n T A B (ht.keep (zrem_90 I c)) i rfl hi (by rw [zrem_90]; exact hs i hi) d rfl (by omega) u hu (by rw [zrem_90]; exact eu)) ⟨Nat.le_refl _, Nat.le_refl _⟩ (fun r h1 hq => ?_)
        obtain ⟨I2, rfl, hO, rfl⟩ := hq
        rw [zmT_keep (zrem_90 I c), zrem_90] at hO
        refine z_ret (pc := 47) (r := some (.int _)) rfl dX9_tap_47 trivial rfl rfl ?_
        have eb : mTap I c n T A B (nI i) (nI d) = (mTb I n T A B i d, zup (zup (zrem I c) 90 (60 + u) (I 90 (60 + u) ||| mTb I n T A B i d)) 90 (52 + i) (I 90 (52 + i) - (if ¬ I 90 (52 + i) ≤ 0 then 1 else 0))) := by
          unfold mTap
          rw [if_pos hq2, hcl, hcl2, if_neg c27, eu, nI_clamp (by omega)]
        rw [eb]
        rw [zmT_keep (zrem_90 I c), zrem_90]
        exact ⟨rfl, _, rfl, zEm_up (zEm_up (zTO_em hO))⟩
      · skip
        refine z_ldc (pc := 30) dX9_tap_30 kcX9_198 ?_
        refine z_ret (pc := 32) (r := some (.int _)) rfl dX9_tap_32 trivial rfl rfl ?_
        refine zPMe_of ?_
        unfold mTap
        rw [if_pos hq2, hcl, if_pos c27]
    · skip
      refine z_ldc (pc := 15) dX9_tap_15 kcX9_70 ?_
      refine z_ret (pc := 17) (r := some (.int _)) rfl dX9_tap_17 trivial rfl rfl ?_
      refine zPMe_of ?_
      unfold mTap
      rw [if_neg (fun q => by rw [(zbb0 _).mp c12] at q; exact absurd q.2 (by decide))]
