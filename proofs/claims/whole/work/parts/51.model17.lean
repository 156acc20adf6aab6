def mWater (I : Nat → Nat → Int32) (c : Nat) (x : Int32) : Int32 × (Nat → Nat → Int32) := if zlt x 4 = true then (if I 90 (44 + x.toNatClampNeg) = 0 then (-1000002, I) else (zrem I c 90 (52 + x.toNatClampNeg) / 2, zup (zrem I c) 90 (52 + x.toNatClampNeg) (zrem I c 90 (52 + x.toNatClampNeg) / 2))) else (-1000001, I)
set_option maxRecDepth 100000 in
set_option maxHeartbeats 4000000 in
theorem qX9_water {l : zL} {I : Nat → Nat → Int32} {J : Nat → Nat → Int64} {nw : Bool} (c : Nat) (hc : I 85 9 = nI c) (hl : c ≤ 24) {x : Int32} : zP l mX9_water [.ref 85, .int x] (hh I J nw) (zPM (mWater I c x) J nw) := by
  refine z_start [.ref 85, .int x] (by decide +kernel) (Nat.le_of_ble_eq_true rfl) rfl ?_
  refine z_iload_1 (pc := 0) dX9_water_0 ?_
  refine z_S1 (pc := 1) dX9_water_1 mlX9_216 kX9_isCask vX9_isCask (by decide) (by decide) (Nat.le_of_ble_eq_true rfl) (qX9_isCask) ⟨Nat.le_refl _, Nat.le_refl _⟩ (fun r h1 hq => ?_)
  obtain ⟨rfl, rfl⟩ := hq
  refine z_if_ne (pc := 4) (tgt := 10) dX9_water_4 (by decide) (fun c4 => ?_) (fun c4 => ?_)
  · skip
    obtain ⟨i, hi, rfl⟩ := zlt_nI (by decide) ((zbb1 _).mp c4)
    have hcl : (nI i).toNatClampNeg = i := nI_clamp (by omega)
    refine z_aload_0 (pc := 10) dX9_water_10 ?_
    refine y_getR (pc := 11) dX9_water_11 flX9_22 rfl (by first | rfl | assumption) (by first | rfl | assumption) ?_
    refine z_bipush (pc := 14) (44) dX9_water_14 rfl ?_
    refine z_iload_1 (pc := 16) dX9_water_16 ?_
    refine z_iadd (pc := 17) dX9_water_17 ?_
    refine y_ialdN (pc := 18) (44 + i) dX9_water_18 (by first | rfl | assumption) (nI_add 44 i) (by omega) (by first | decide | omega) ?_
    refine z_if_ne (pc := 19) (tgt := 25) dX9_water_19 (by decide) (fun c19 => ?_) (fun c19 => ?_)
    · skip
      refine z_aload_0 (pc := 25) dX9_water_25 ?_
      refine z_V0 (pc := 26) dX9_water_26 mlX9_204 kX9_remember vX9_remember (by decide) (by decide) (by first | rfl | assumption) (Nat.le_of_ble_eq_true rfl) (qX9_remember c hc hl) ⟨Nat.le_refl _, Nat.le_refl _⟩ (fun r h1 hq => ?_)
      obtain ⟨rfl, rfl⟩ := hq
      refine z_aload_0 (pc := 29) dX9_water_29 ?_
      refine y_getR (pc := 30) dX9_water_30 flX9_22 rfl (by first | rfl | assumption) (by first | rfl | assumption) ?_
      refine z_bipush (pc := 33) (52) dX9_water_33 rfl ?_
      refine z_iload_1 (pc := 35) dX9_water_35 ?_
      refine z_iadd (pc := 36) dX9_water_36 ?_
      refine z_dup2 (pc := 37) rfl rfl dX9_water_37 ?_
      refine y_ialdN (pc := 38) (52 + i) dX9_water_38 (by first | rfl | assumption) (nI_add 52 i) (by omega) (by first | decide | omega) ?_
      refine z_iconst (pc := 39) (2) dX9_water_39 rfl ?_
      refine z_idiv (pc := 40) (by decide) dX9_water_40 ?_
      refine y_iastN (pc := 41) (52 + i) dX9_water_41 (by first | rfl | assumption) (nI_add 52 i) (by omega) (by first | decide | omega) ?_
      refine z_aload_0 (pc := 42) dX9_water_42 ?_
      refine y_getR (pc := 43) dX9_water_43 flX9_22 rfl (by first | rfl | assumption) (by first | rfl | assumption) ?_
      refine z_bipush (pc := 46) (52) dX9_water_46 rfl ?_
      refine z_iload_1 (pc := 48) dX9_water_48 ?_
      refine z_iadd (pc := 49) dX9_water_49 ?_
      refine y_ialdN (pc := 50) (52 + i) dX9_water_50 (by first | rfl | assumption) (nI_add 52 i) (by omega) (by first | decide | omega) ?_
      refine z_ret (pc := 51) (r := some (.int _)) rfl dX9_water_51 trivial rfl rfl ?_
      refine zPM_of ?_
      unfold mWater
      rw [if_pos (zlt_of hi (by decide)), hcl, if_neg c19, zup_on]
    · skip
      refine z_ldc (pc := 22) dX9_water_22 kcX9_198 ?_
      refine z_ret (pc := 24) (r := some (.int _)) rfl dX9_water_24 trivial rfl rfl ?_
      refine zPM_of ?_
      unfold mWater
      rw [if_pos (zlt_of hi (by decide)), hcl, if_pos c19]
  · skip
    refine z_ldc (pc := 7) dX9_water_7 kcX9_70 ?_
    refine z_ret (pc := 9) (r := some (.int _)) rfl dX9_water_9 trivial rfl rfl ?_
    refine zPM_of ?_
    unfold mWater
    rw [if_neg (by rw [(zbb0 _).mp c4]; decide)]
