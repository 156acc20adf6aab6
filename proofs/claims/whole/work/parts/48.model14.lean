def mFeed (I : Nat → Nat → Int32) (c : Nat) (x : Int32) : Int32 × (Nat → Nat → Int32) := if zlt x 256 = true then (if c = 120 then (-1000003, I) else (nI (c + 1), zup (zup I 89 c x) 85 5 (nI (c + 1)))) else (-1000001, I)
set_option maxRecDepth 100000 in
set_option maxHeartbeats 4000000 in
theorem qX9_feed {l : zL} {I : Nat → Nat → Int32} {J : Nat → Nat → Int64} {nw : Bool} (c : Nat) (hc : I 85 5 = nI c) (hl : c ≤ 120) {x : Int32} : zP l mX9_feed [.ref 85, .int x] (hh I J nw) (zPM (mFeed I c x) J nw) := by
  refine z_start [.ref 85, .int x] (by decide +kernel) (Nat.le_of_ble_eq_true rfl) rfl ?_
  refine z_iload_1 (pc := 0) dX9_feed_0 ?_
  refine z_i2l (pc := 1) dX9_feed_1 ?_
  refine z_lconst (pc := 2) 0 dX9_feed_2 rfl ?_
  refine z_ldc2 (pc := 3) dX9_feed_3 kcX9_78 ?_
  refine z_S3 (pc := 6) dX9_feed_6 mlX9_60 kX9_in vX9_in (by decide) (by decide) (Nat.le_of_ble_eq_true rfl) (qX9_in) ⟨Nat.le_refl _, Nat.le_refl _⟩ (fun r h1 hq => ?_)
  obtain ⟨rfl, rfl⟩ := hq
  refine z_if_ne (pc := 9) (tgt := 15) dX9_feed_9 (by decide) (fun c9 => ?_) (fun c9 => ?_)
  · skip
    have hx : zlt x 256 = true := by rw [in_zlt (m := 256) (by decide)] at c9; exact (zbb1 _).mp c9
    refine z_aload_0 (pc := 15) dX9_feed_15 ?_
    refine y_getI (pc := 16) dX9_feed_16 flX9_80 rfl (by first | rfl | assumption) ?_
    refine z_bipush (pc := 19) (120) dX9_feed_19 rfl ?_
    refine z_icmp_ne (pc := 21) (tgt := 27) dX9_feed_21 (by decide) (fun c21 => ?_) (fun c21 => ?_)
    · skip
      have hne : ¬ c = 120 := fun z => c21 (by rw [hc, z]; rfl)
      refine z_aload_0 (pc := 27) dX9_feed_27 ?_
      refine y_getR (pc := 28) dX9_feed_28 flX9_19 rfl (by first | rfl | assumption) (by first | rfl | assumption) ?_
      refine z_aload_0 (pc := 31) dX9_feed_31 ?_
      refine y_getI (pc := 32) dX9_feed_32 flX9_80 rfl (by first | rfl | assumption) ?_
      refine z_iload_1 (pc := 35) dX9_feed_35 ?_
      refine y_iastN (pc := 36) (c) dX9_feed_36 (by first | rfl | assumption) (hc) (by omega) (by first | decide | omega) ?_
      refine z_aload_0 (pc := 37) dX9_feed_37 ?_
      refine z_dup (pc := 38) rfl dX9_feed_38 ?_
      refine y_getI (pc := 39) dX9_feed_39 flX9_80 rfl (by first | rfl | assumption) ?_
      refine z_iconst (pc := 42) (1) dX9_feed_42 rfl ?_
      refine z_iadd (pc := 43) dX9_feed_43 ?_
      refine y_putI (pc := 44) dX9_feed_44 flX9_80 ffX9_80 rfl (by first | rfl | assumption) ⟨rfl, rfl⟩ ?_
      refine z_aload_0 (pc := 47) dX9_feed_47 ?_
      refine y_getI (pc := 48) dX9_feed_48 flX9_80 rfl (by first | rfl | assumption) ?_
      refine z_ret (pc := 51) (r := some (.int _)) rfl dX9_feed_51 trivial rfl rfl ?_
      refine zPM_of ?_
      unfold mFeed
      rw [if_pos hx, if_neg hne, zup_on, zup_no (Or.inl (by decide)), hc, nI_succ]
    · skip
      refine z_ldc (pc := 24) dX9_feed_24 kcX9_83 ?_
      refine z_ret (pc := 26) (r := some (.int _)) rfl dX9_feed_26 trivial rfl rfl ?_
      refine zPM_of ?_
      unfold mFeed
      have h120 : c = 120 := (nI_eq (a := c) (b := 120) (by omega) (by decide)).mp (hc.symm.trans c21)
      rw [if_pos hx, if_pos h120]
  · skip
    refine z_ldc (pc := 12) dX9_feed_12 kcX9_70 ?_
    refine z_ret (pc := 14) (r := some (.int _)) rfl dX9_feed_14 trivial rfl rfl ?_
    refine zPM_of ?_
    unfold mFeed
    rw [in_zlt (m := 256) (by decide)] at c9
    rw [if_neg (by rw [(zbb0 _).mp c9]; decide)]
