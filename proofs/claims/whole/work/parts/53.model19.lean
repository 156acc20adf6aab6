def mBlend (I : Nat → Nat → Int32) (c : Nat) (x y : Int32) : Int32 × (Nat → Nat → Int32) := if zlt x 4 = true ∧ zlt y 4 = true ∧ ¬ x = y then (if I 90 (44 + x.toNatClampNeg) = 0 ∨ I 90 (44 + y.toNatClampNeg) = 0 then (-1000002, I) else (zBl (zrem I c) 90 x.toNatClampNeg y.toNatClampNeg 90 (52 + y.toNatClampNeg), zBl (zrem I c) 90 x.toNatClampNeg y.toNatClampNeg)) else (-1000001, I)
set_option maxRecDepth 100000 in
set_option maxHeartbeats 4000000 in
theorem qX9_blend {l : zL} {I : Nat → Nat → Int32} {J : Nat → Nat → Int64} {nw : Bool} (c : Nat) (hc : I 85 9 = nI c) (hl : c ≤ 24) {x y : Int32} : zP l mX9_blend [.ref 85, .int x, .int y] (hh I J nw) (zPM (mBlend I c x y) J nw) := by
  refine z_start [.ref 85, .int x, .int y] (by decide +kernel) (Nat.le_of_ble_eq_true rfl) rfl ?_
  refine z_iload_1 (pc := 0) dX9_blend_0 ?_
  refine z_iload_2 (pc := 1) dX9_blend_1 ?_
  refine z_S2 (pc := 2) dX9_blend_2 mlX9_222 kX9_areCasks vX9_areCasks (by decide) (by decide) (Nat.le_of_ble_eq_true rfl) (qX9_areCasks) ⟨Nat.le_refl _, Nat.le_refl _⟩ (fun r h1 hq => ?_)
  obtain ⟨rfl, rfl⟩ := hq
  refine z_if_ne (pc := 5) (tgt := 11) dX9_blend_5 (by decide) (fun c5 => ?_) (fun c5 => ?_)
  · skip
    have hq := of_decide_eq_true ((zbb1 _).mp c5)
    obtain ⟨i, hi, rfl⟩ := zlt_nI (by decide) hq.1
    obtain ⟨j, hj, rfl⟩ := zlt_nI (by decide) hq.2.1
    have hcl : (nI i).toNatClampNeg = i := nI_clamp (by omega)
    have hcl2 : (nI j).toNatClampNeg = j := nI_clamp (by omega)
    refine z_aload_0 (pc := 11) dX9_blend_11 ?_
    refine y_getR (pc := 12) dX9_blend_12 flX9_22 rfl (by first | rfl | assumption) (by first | rfl | assumption) ?_
    refine z_bipush (pc := 15) (44) dX9_blend_15 rfl ?_
    refine z_iload_1 (pc := 17) dX9_blend_17 ?_
    refine z_iadd (pc := 18) dX9_blend_18 ?_
    refine y_ialdN (pc := 19) (44 + i) dX9_blend_19 (by first | rfl | assumption) (nI_add 44 i) (by omega) (by first | decide | omega) ?_
    refine z_if_eq (pc := 20) (tgt := 35) dX9_blend_20 (by decide) (fun c20 => ?_) (fun c20 => ?_)
    · skip
      refine z_ldc (pc := 35) dX9_blend_35 kcX9_198 ?_
      refine z_ret (pc := 37) (r := some (.int _)) rfl dX9_blend_37 trivial rfl rfl ?_
      refine zPM_of ?_
      unfold mBlend
      rw [if_pos hq, hcl, hcl2, if_pos (Or.inl c20)]
    · skip
      refine z_aload_0 (pc := 23) dX9_blend_23 ?_
      refine y_getR (pc := 24) dX9_blend_24 flX9_22 rfl (by first | rfl | assumption) (by first | rfl | assumption) ?_
      refine z_bipush (pc := 27) (44) dX9_blend_27 rfl ?_
      refine z_iload_2 (pc := 29) dX9_blend_29 ?_
      refine z_iadd (pc := 30) dX9_blend_30 ?_
      refine y_ialdN (pc := 31) (44 + j) dX9_blend_31 (by first | rfl | assumption) (nI_add 44 j) (by omega) (by first | decide | omega) ?_
      refine z_if_ne (pc := 32) (tgt := 38) dX9_blend_32 (by decide) (fun c32 => ?_) (fun c32 => ?_)
      · skip
        refine z_aload_0 (pc := 38) dX9_blend_38 ?_
        refine z_V0 (pc := 39) dX9_blend_39 mlX9_204 kX9_remember vX9_remember (by decide) (by decide) (by first | rfl | assumption) (Nat.le_of_ble_eq_true rfl) (qX9_remember c hc hl) ⟨Nat.le_refl _, Nat.le_refl _⟩ (fun r h1 hq => ?_)
        obtain ⟨rfl, rfl⟩ := hq
        refine z_aload_0 (pc := 42) dX9_blend_42 ?_
        refine y_getR (pc := 43) dX9_blend_43 flX9_22 rfl (by first | rfl | assumption) (by first | rfl | assumption) ?_
        refine z_iload_1 (pc := 46) dX9_blend_46 ?_
        refine z_iload_2 (pc := 47) dX9_blend_47 ?_
        refine z_S3 (pc := 48) dX9_blend_48 mlX9_225 kX9_blends vX9_blends (by decide) (by decide) (Nat.le_of_ble_eq_true rfl) (qX9_blends 90 rfl i rfl hi j rfl hj) ⟨Nat.le_refl _, Nat.le_refl _⟩ (fun r h1 hq => ?_)
        obtain ⟨rfl, rfl⟩ := hq
        refine z_aload_0 (pc := 51) dX9_blend_51 ?_
        refine y_getR (pc := 52) dX9_blend_52 flX9_22 rfl (by first | rfl | assumption) (by first | rfl | assumption) ?_
        refine z_bipush (pc := 55) (52) dX9_blend_55 rfl ?_
        refine z_iload_2 (pc := 57) dX9_blend_57 ?_
        refine z_iadd (pc := 58) dX9_blend_58 ?_
        refine y_ialdN (pc := 59) (52 + j) dX9_blend_59 (by first | rfl | assumption) (nI_add 52 j) (by omega) (by first | decide | omega) ?_
        refine z_ret (pc := 60) (r := some (.int _)) rfl dX9_blend_60 trivial rfl rfl ?_
        refine zPM_of ?_
        unfold mBlend
        rw [if_pos hq, hcl, hcl2, if_neg (fun q => q.elim c20 c32)]
      · skip
        refine z_ldc (pc := 35) dX9_blend_35 kcX9_198 ?_
        refine z_ret (pc := 37) (r := some (.int _)) rfl dX9_blend_37 trivial rfl rfl ?_
        refine zPM_of ?_
        unfold mBlend
        rw [if_pos hq, hcl, hcl2, if_pos (Or.inr c32)]
  · skip
    refine z_ldc (pc := 8) dX9_blend_8 kcX9_70 ?_
    refine z_ret (pc := 10) (r := some (.int _)) rfl dX9_blend_10 trivial rfl rfl ?_
    refine zPM_of ?_
    unfold mBlend
    rw [if_neg (of_decide_eq_false ((zbb0 _).mp c5))]
