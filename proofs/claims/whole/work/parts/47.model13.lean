theorem nm16 : ∀ n, n ≤ 16 → ((nI n - 1).toInt64).toInt = (n : Int) - 1 := by decide +kernel
set_option maxRecDepth 100000 in
set_option maxHeartbeats 4000000 in
theorem qX9_trace {l : zL} {I : Nat → Nat → Int32} {J : Nat → Nat → Int64} {nw : Bool} (c : Nat) (hc : I 85 13 = nI c) (hl : c ≤ 16) {x : Int32} : zP l mX9_trace [.ref 85, .int x] (hh I J nw) (zPM (if zlt x c = true then I 94 x.toNatClampNeg else -1000000, I) J nw) := by
  refine z_start [.ref 85, .int x] (by decide +kernel) (Nat.le_of_ble_eq_true rfl) rfl ?_
  refine z_iload_1 (pc := 0) dX9_trace_0 ?_
  refine z_i2l (pc := 1) dX9_trace_1 ?_
  refine z_lconst (pc := 2) 0 dX9_trace_2 rfl ?_
  refine z_aload_0 (pc := 3) dX9_trace_3 ?_
  refine y_getI (pc := 4) dX9_trace_4 flX9_279 rfl (by first | rfl | assumption) ?_
  refine z_iconst (pc := 7) (1) dX9_trace_7 rfl ?_
  refine z_isub (pc := 8) dX9_trace_8 ?_
  refine z_i2l (pc := 9) dX9_trace_9 ?_
  refine z_S3 (pc := 10) dX9_trace_10 mlX9_60 kX9_in vX9_in (by decide) (by decide) (Nat.le_of_ble_eq_true rfl) (qX9_in) ⟨Nat.le_refl _, Nat.le_refl _⟩ (fun r h1 hq => ?_)
  obtain ⟨rfl, rfl⟩ := hq
  refine z_if_eq (pc := 13) (tgt := 25) dX9_trace_13 (by decide) (fun c13 => ?_) (fun c13 => ?_)
  · skip
    rw [in_zlt (m := c) (by rw [hc]; exact nm16 c hl)] at c13
    refine z_ldc (pc := 25) dX9_trace_25 kcX9_231 ?_
    refine z_ret (pc := 27) (r := some (.int _)) rfl dX9_trace_27 trivial rfl rfl ?_
    refine zPM_of ?_
    rw [if_neg (by rw [(zbb0 _).mp c13]; decide)]
  · skip
    rw [in_zlt (m := c) (by rw [hc]; exact nm16 c hl)] at c13
    obtain ⟨i, hi, rfl⟩ := zlt_nI (by omega) ((zbb1 _).mp c13)
    have hcl : (nI i).toNatClampNeg = i := nI_clamp (by omega)
    refine z_aload_0 (pc := 16) dX9_trace_16 ?_
    refine y_getR (pc := 17) dX9_trace_17 flX9_35 rfl (by first | rfl | assumption) (by first | rfl | assumption) ?_
    refine z_iload_1 (pc := 20) dX9_trace_20 ?_
    refine y_ialdN (pc := 21) (i) dX9_trace_21 (by first | rfl | assumption) (rfl) (by omega) (by first | decide | omega) ?_
    refine z_goto (pc := 22) (tgt := 27) dX9_trace_22 (by decide) ?_
    refine z_ret (pc := 27) (r := some (.int _)) rfl dX9_trace_27 trivial rfl rfl ?_
    refine zPM_of ?_
    rw [if_pos (zlt_of hi (by omega)), hcl]
