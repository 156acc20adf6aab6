/-- what a public method of the model answers, and the ints behind it -/
def zPM (P : Int32 × (Nat → Nat → Int32)) (J : Nat → Nat → Int64) (nw : Bool) : Option Value → zH → Prop := zR (some (.int P.1)) (P.2, J, RF nw, SH)
theorem zPM_of {P : Int32 × (Nat → Nat → Int32)} {v : Int32} {I1 : Nat → Nat → Int32} {J : Nat → Nat → Int64} {nw : Bool} (e : P = (v, I1)) : zPM P J nw (some (.int v)) (I1, J, RF nw, SH) := by
  subst e; exact ⟨rfl, rfl⟩
def mDrop (I : Nat → Nat → Int32) (x : Int32) : Int32 × (Nat → Nat → Int32) := if zlt x 8 = true then (if I 87 x.toNatClampNeg < 0 then (-1000011, zup I 85 3 1) else (I 87 x.toNatClampNeg, zup (zup I 87 x.toNatClampNeg (-1)) 85 3 0)) else (-1000001, I)
set_option maxRecDepth 100000 in
set_option maxHeartbeats 4000000 in
theorem qX9_drop {l : zL} {I : Nat → Nat → Int32} {J : Nat → Nat → Int64} {nw : Bool} {x : Int32} : zP l mX9_drop [.ref 85, .int x] (hh I J nw) (zPM (mDrop I x) J nw) := by
  refine z_start [.ref 85, .int x, zno] (by decide +kernel) (Nat.le_of_ble_eq_true rfl) rfl ?_
  refine z_iload_1 (pc := 0) dX9_drop_0 ?_
  refine z_S1 (pc := 1) dX9_drop_1 mlX9_64 kX9_isRow vX9_isRow (by decide) (by decide) (Nat.le_of_ble_eq_true rfl) (qX9_isRow) ⟨Nat.le_refl _, Nat.le_refl _⟩ (fun r h1 hq => ?_)
  obtain ⟨rfl, rfl⟩ := hq
  refine z_if_ne (pc := 4) (tgt := 10) dX9_drop_4 (by decide) (fun c4 => ?_) (fun c4 => ?_)
  · skip
    obtain ⟨i, hi, rfl⟩ := zlt_nI (by decide) ((zbb1 _).mp c4)
    have hcl : (nI i).toNatClampNeg = i := nI_clamp (by omega)
    refine z_aload_0 (pc := 10) dX9_drop_10 ?_
    refine y_getR (pc := 11) dX9_drop_11 flX9_13 rfl (by first | rfl | assumption) (by first | rfl | assumption) ?_
    refine z_iload_1 (pc := 14) dX9_drop_14 ?_
    refine y_ialdN (pc := 15) (i) dX9_drop_15 (by first | rfl | assumption) (rfl) (by omega) (by first | decide | omega) ?_
    refine z_if_ge (pc := 16) (tgt := 25) dX9_drop_16 (by decide) (fun c16 => ?_) (fun c16 => ?_)
    · skip
      refine z_aload_0 (pc := 25) dX9_drop_25 ?_
      refine y_getR (pc := 26) dX9_drop_26 flX9_13 rfl (by first | rfl | assumption) (by first | rfl | assumption) ?_
      refine z_iload_1 (pc := 29) dX9_drop_29 ?_
      refine y_ialdN (pc := 30) (i) dX9_drop_30 (by first | rfl | assumption) (rfl) (by omega) (by first | decide | omega) ?_
      refine z_istore_2 (pc := 31) dX9_drop_31 (by decide) rfl ?_
      refine z_aload_0 (pc := 32) dX9_drop_32 ?_
      refine y_getR (pc := 33) dX9_drop_33 flX9_13 rfl (by first | rfl | assumption) (by first | rfl | assumption) ?_
      refine z_iload_1 (pc := 36) dX9_drop_36 ?_
      refine z_iconst (pc := 37) (-1) dX9_drop_37 rfl ?_
      refine y_iastN (pc := 38) (i) dX9_drop_38 (by first | rfl | assumption) (rfl) (by omega) (by first | decide | omega) ?_
      refine z_aload_0 (pc := 39) dX9_drop_39 ?_
      refine z_iload_2 (pc := 40) dX9_drop_40 ?_
      refine z_V1 (pc := 41) dX9_drop_41 mlX9_75 kX9_well vX9_well (by decide) (by decide) (by first | rfl | assumption) (Nat.le_of_ble_eq_true rfl) (qX9_well) ⟨Nat.le_refl _, Nat.le_refl _⟩ (fun r h1 hq => ?_)
      obtain ⟨rfl, rfl⟩ := hq
      refine z_ret (pc := 44) (r := some (.int _)) rfl dX9_drop_44 trivial rfl rfl ?_
      refine zPM_of ?_
      unfold mDrop
      rw [if_pos (zlt_of hi (by decide)), hcl, if_neg (Int32.not_lt.mpr c16)]
    · skip
      refine z_aload_0 (pc := 19) dX9_drop_19 ?_
      refine z_iconst (pc := 20) (1) dX9_drop_20 rfl ?_
      refine z_V1 (pc := 21) dX9_drop_21 mlX9_71 kX9_found vX9_found (by decide) (by decide) (by first | rfl | assumption) (Nat.le_of_ble_eq_true rfl) (qX9_found) ⟨Nat.le_refl _, Nat.le_refl _⟩ (fun r h1 hq => ?_)
      obtain ⟨rfl, rfl⟩ := hq
      refine z_ret (pc := 24) (r := some (.int _)) rfl dX9_drop_24 trivial rfl rfl ?_
      refine zPM_of ?_
      unfold mDrop
      rw [if_pos (zlt_of hi (by decide)), hcl, if_pos (Int32.not_le.mp c16)]
      rfl
  · skip
    refine z_ldc (pc := 7) dX9_drop_7 kcX9_70 ?_
    refine z_ret (pc := 9) (r := some (.int _)) rfl dX9_drop_9 trivial rfl rfl ?_
    refine zPM_of ?_
    unfold mDrop
    rw [if_neg (by rw [(zbb0 _).mp c4]; decide)]
set_option maxRecDepth 100000 in
set_option maxHeartbeats 4000000 in
theorem qX9_fault {l : zL} {I : Nat → Nat → Int32} {J : Nat → Nat → Int64} {nw : Bool}  : zP l mX9_fault [.ref 85] (hh I J nw) (zPM (I 85 6, I) J nw) := by
  refine z_start [.ref 85] (by decide +kernel) (Nat.le_of_ble_eq_true rfl) rfl ?_
  refine z_aload_0 (pc := 0) dX9_fault_0 ?_
  refine y_getI (pc := 1) dX9_fault_1 flX9_110 rfl (by first | rfl | assumption) ?_
  refine z_ret (pc := 4) (r := some (.int _)) rfl dX9_fault_4 trivial rfl rfl ?_
  exact zPM_of rfl
set_option maxRecDepth 100000 in
set_option maxHeartbeats 4000000 in
theorem qX9_status {l : zL} {I : Nat → Nat → Int32} {J : Nat → Nat → Int64} {nw : Bool}  : zP l mX9_status [.ref 85] (hh I J nw) (zPM (I 85 3, I) J nw) := by
  refine z_start [.ref 85] (by decide +kernel) (Nat.le_of_ble_eq_true rfl) rfl ?_
  refine z_aload_0 (pc := 0) dX9_status_0 ?_
  refine y_getI (pc := 1) dX9_status_1 flX9_53 rfl (by first | rfl | assumption) ?_
  refine z_ret (pc := 4) (r := some (.int _)) rfl dX9_status_4 trivial rfl rfl ?_
  exact zPM_of rfl
set_option maxRecDepth 100000 in
set_option maxHeartbeats 4000000 in
theorem qX9_kind {l : zL} {I : Nat → Nat → Int32} {J : Nat → Nat → Int64} {nw : Bool} (n : Nat) (hn : n ≤ 6) (en : I 90 3 = nI n) {x : Int32} : zP l mX9_kind [.ref 85, .int x] (hh I J nw) (zPM (if zlt x n = true then I 90 (6 + x.toNatClampNeg) else -1000001, I) J nw) := by
  refine z_start [.ref 85, .int x] (by decide +kernel) (Nat.le_of_ble_eq_true rfl) rfl ?_
  refine z_aload_0 (pc := 0) dX9_kind_0 ?_
  refine z_iload_1 (pc := 1) dX9_kind_1 ?_
  refine z_V1 (pc := 2) dX9_kind_2 mlX9_199 kX9_isDrinker vX9_isDrinker (by decide) (by decide) (by first | rfl | assumption) (Nat.le_of_ble_eq_true rfl) (qX9_isDrinker n hn en) ⟨Nat.le_refl _, Nat.le_refl _⟩ (fun r h1 hq => ?_)
  obtain ⟨rfl, rfl⟩ := hq
  refine z_if_eq (pc := 5) (tgt := 20) dX9_kind_5 (by decide) (fun c5 => ?_) (fun c5 => ?_)
  · skip
    refine z_ldc (pc := 20) dX9_kind_20 kcX9_70 ?_
    refine z_ret (pc := 22) (r := some (.int _)) rfl dX9_kind_22 trivial rfl rfl ?_
    refine zPM_of ?_
    rw [if_neg (by rw [(zbb0 _).mp c5]; decide)]
  · skip
    obtain ⟨i, hi, rfl⟩ := zlt_nI (by omega) ((zbb1 _).mp c5)
    have hcl : (nI i).toNatClampNeg = i := nI_clamp (by omega)
    refine z_aload_0 (pc := 8) dX9_kind_8 ?_
    refine y_getR (pc := 9) dX9_kind_9 flX9_22 rfl (by first | rfl | assumption) (by first | rfl | assumption) ?_
    refine z_bipush (pc := 12) (6) dX9_kind_12 rfl ?_
    refine z_iload_1 (pc := 14) dX9_kind_14 ?_
    refine z_iadd (pc := 15) dX9_kind_15 ?_
    refine y_ialdN (pc := 16) (6 + i) dX9_kind_16 (by first | rfl | assumption) (nI_add 6 i) (by omega) (by first | decide | omega) ?_
    refine z_goto (pc := 17) (tgt := 22) dX9_kind_17 (by decide) ?_
    refine z_ret (pc := 22) (r := some (.int _)) rfl dX9_kind_22 trivial rfl rfl ?_
    refine zPM_of ?_
    rw [if_pos (zlt_of hi (by omega)), hcl]
