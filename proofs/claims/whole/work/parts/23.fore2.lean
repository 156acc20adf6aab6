set_option maxRecDepth 100000 in
set_option maxHeartbeats 4000000 in
theorem few_loop {l : zL} {I : Nat → Nat → Int32} {J : Nat → Nat → Int64} (n T : Nat) (A B : Nat → Nat) (ht : zTown I n T A B) {x : Int32} (i : Nat) (hx : x = nI i) (hi : i < 4) (w : Nat) (ew : I 22 (1 + i) - 1 = nI w) {a b : Int32} : ∀ (f s : Nat) (I1 : Nat → Nat → Int32) (nw : Bool), s ≤ 2 ^ n → 2 ^ n - s < f → zTold I I1 n T A B (I 16) (fun _ => false) →
    zW l mX3_fewestTold SH.length (zsl SH) 14 [.ref 79, .int x, .int a, .int b, .int (zfew (fun s => decide (nI (bs (zgo (zTe I (I 16) n T A B (fun _ => false) (nI w)) (zbt s) (zsc I i)).2) &&& (a ||| b) = a)) s), .int (nI s)] [] (I1, J, RF nw, SH) (zKeep I J (.int (zfew (fun s => decide (nI (bs (zgo (zTe I (I 16) n T A B (fun _ => false) (nI w)) (zbt s) (zsc I i)).2) &&& (a ||| b) = a)) (2 ^ n))))
  | 0, s, I1, nw, _, hf, _ => by omega
  | f + 1, s, I1, nw, hs, hf, hT => by
    refine z_iload_5 (pc := 14) dX3_fewestTold_14 ?_
    refine z_aload_0 (pc := 16) dX3_fewestTold_16 ?_
    refine y_getR (pc := 17) dX3_fewestTold_17 flX3_22 rfl (by first | rfl | assumption) (by first | rfl | assumption) ?_
    refine z_V0 (pc := 20) dX3_fewestTold_20 mlX3_36 kX7_everybody vX7_everybody (by decide) (by decide) (by first | rfl | assumption) (Nat.le_of_ble_eq_true rfl) (qX7_everybody) ⟨Nat.le_refl _, Nat.le_refl _⟩ (fun r h1 hq => ?_)
    obtain ⟨rfl, rfl⟩ := hq
    refine z_icmp_gt (pc := 23) (tgt := 81) dX3_fewestTold_23 (by decide) (fun c23 => ?_) (fun c23 => ?_)
    · skip
      refine z_iload_4 (pc := 81) dX3_fewestTold_81 ?_
      refine z_ret (pc := 83) (r := some (.int _)) rfl dX3_fewestTold_83 trivial rfl rfl ?_
      have : s = 2 ^ n := by
        rw [hT.1 15 (by omega), ht.2.1, bs_all n ht.1] at c23
        have e := bs_all2 n ht.1
        have e2 := pow6 n ht.1
        rcases Nat.lt_or_ge s (2 ^ n) with q | q
        · exact absurd c23 (nI_nlt (by omega) (by omega))
        · omega
      subst this
      exact ⟨rfl, I1, nw, rfl, hT.1⟩
    · skip
      have hlt : s < 2 ^ n := by
        rw [hT.1 15 (by omega), ht.2.1, bs_all n ht.1] at c23
        have e := bs_all2 n ht.1
        have e2 := pow6 n ht.1
        rcases Nat.lt_or_ge s (2 ^ n) with q | q
        · exact q
        · exact absurd (nI_lt (by omega) (by omega)) c23
      refine z_iload_4 (pc := 26) dX3_fewestTold_26 ?_
      refine z_ldc (pc := 28) dX3_fewestTold_28 kcX3_30 ?_
      refine z_icmp_eq (pc := 30) (tgt := 46) dX3_fewestTold_30 (by decide) (fun c30 => ?_) (fun c30 => ?_)
      · skip
        refine z_aload_0 (pc := 46) dX3_fewestTold_46 ?_
        refine y_getR (pc := 47) dX3_fewestTold_47 flX3_26 rfl (by first | rfl | assumption) (by first | rfl | assumption) ?_
        refine z_iload_1 (pc := 50) dX3_fewestTold_50 ?_
        refine z_iload_5 (pc := 51) dX3_fewestTold_51 ?_
        refine z_V2 (pc := 53) dX3_fewestTold_53 mlX3_48 kX6_spreadCask vX6_spreadCask (by decide) (by decide) (by first | rfl | assumption) (Nat.le_of_ble_eq_true rfl) (qX6_spreadCask (zTe I (I 16) n T A B (fun _ => false) (nI w)) (hT.set ht) i hx hi (by rw [hT.1 22 (by omega)]; exact ew.symm) (zbt s) (by rw [bs_bits s (by have := pow6 n ht.1; omega)]) (zbt_lt hlt)) ⟨Nat.le_refl _, Nat.le_refl _⟩ (fun r h1 hq => ?_)
        obtain ⟨I2, nw2, rfl, rfl, z1, z2, z3, z5, z6, z7, st, z8, z9, z10⟩ := zSpQ_fr hq
        rw [zsc_keep hT.1] at z6
        refine z_aload_0 (pc := 56) dX3_fewestTold_56 ?_
        refine y_getR (pc := 57) dX3_fewestTold_57 flX3_26 rfl (by first | rfl | assumption) (by first | rfl | assumption) ?_
        refine y_getI (pc := 60) dX3_fewestTold_60 flX3_52 rfl (by first | rfl | assumption) ?_
        refine z_iload_2 (pc := 63) dX3_fewestTold_63 ?_
        refine z_iload_3 (pc := 64) dX3_fewestTold_64 ?_
        refine z_ior (pc := 65) dX3_fewestTold_65 ?_
        refine z_iand (pc := 66) dX3_fewestTold_66 ?_
        refine z_iload_2 (pc := 67) dX3_fewestTold_67 ?_
        refine z_icmp_ne (pc := 68) (tgt := 75) dX3_fewestTold_68 (by decide) (fun c68 => ?_) (fun c68 => ?_)
        · skip
          refine z_iinc_5 (pc := 75) (1) dX3_fewestTold_75 rfl (by decide) rfl ?_
          refine z_goto (pc := 78) (tgt := 14) dX3_fewestTold_78 (by decide) ?_
          have k := few_loop (l := l) (J := J) (a := a) (b := b) n T A B ht i hx hi w ew f (s + 1) I2 nw2 (by omega) (by omega) (hT.keep z1 z2 z3)
          rw [show zfew (fun s => decide (nI (bs (zgo (zTe I (I 16) n T A B (fun _ => false) (nI w)) (zbt s) (zsc I i)).2) &&& (a ||| b) = a)) (s + 1) = zfew (fun s => decide (nI (bs (zgo (zTe I (I 16) n T A B (fun _ => false) (nI w)) (zbt s) (zsc I i)).2) &&& (a ||| b) = a)) s from by rw [zfew, if_neg (fun q => c68 (by rw [z6]; exact of_decide_eq_true q.2))], nI_succ] at k
          exact k
        · skip
          refine z_iload_5 (pc := 71) dX3_fewestTold_71 ?_
          refine z_istore_4 (pc := 73) dX3_fewestTold_73 (by decide) rfl ?_
          refine z_iinc_5 (pc := 75) (1) dX3_fewestTold_75 rfl (by decide) rfl ?_
          refine z_goto (pc := 78) (tgt := 14) dX3_fewestTold_78 (by decide) ?_
          have k := few_loop (l := l) (J := J) (a := a) (b := b) n T A B ht i hx hi w ew f (s + 1) I2 nw2 (by omega) (by omega) (hT.keep z1 z2 z3)
          rw [show zfew (fun s => decide (nI (bs (zgo (zTe I (I 16) n T A B (fun _ => false) (nI w)) (zbt s) (zsc I i)).2) &&& (a ||| b) = a)) (s + 1) = nI s from by rw [zfew, if_pos ⟨Or.inl c30, decide_eq_true (by rw [← z6]; exact c68)⟩], nI_succ] at k
          exact k
      · skip
        refine z_iload_5 (pc := 33) dX3_fewestTold_33 ?_
        refine z_S1 (pc := 35) dX3_fewestTold_35 mlX3_42 kJ6_bitCount_0f7a4 vJ6_bitCount_0f7a4 (by decide) (by decide) (Nat.le_of_ble_eq_true rfl) (qJ6_bitCount_0f7a4) ⟨Nat.le_refl _, Nat.le_refl _⟩ (fun r h1 hq => ?_)
        obtain ⟨rfl, rfl⟩ := hq
        refine z_iload_4 (pc := 38) dX3_fewestTold_38 ?_
        refine z_S1 (pc := 40) dX3_fewestTold_40 mlX3_42 kJ6_bitCount_0f7a4 vJ6_bitCount_0f7a4 (by decide) (by decide) (Nat.le_of_ble_eq_true rfl) (qJ6_bitCount_0f7a4) ⟨Nat.le_refl _, Nat.le_refl _⟩ (fun r h1 hq => ?_)
        obtain ⟨rfl, rfl⟩ := hq
        refine z_icmp_ge (pc := 43) (tgt := 75) dX3_fewestTold_43 (by decide) (fun c43 => ?_) (fun c43 => ?_)
        · skip
          refine z_iinc_5 (pc := 75) (1) dX3_fewestTold_75 rfl (by decide) rfl ?_
          refine z_goto (pc := 78) (tgt := 14) dX3_fewestTold_78 (by decide) ?_
          have k := few_loop (l := l) (J := J) (a := a) (b := b) n T A B ht i hx hi w ew f (s + 1) I1 nw (by omega) (by omega) hT
          rw [show zfew (fun s => decide (nI (bs (zgo (zTe I (I 16) n T A B (fun _ => false) (nI w)) (zbt s) (zsc I i)).2) &&& (a ||| b) = a)) (s + 1) = zfew (fun s => decide (nI (bs (zgo (zTe I (I 16) n T A B (fun _ => false) (nI w)) (zbt s) (zsc I i)).2) &&& (a ||| b) = a)) s from by rw [zfew, if_neg (fun q => q.1.elim c30 (fun z => absurd z (Int32.not_lt.mpr c43)))], nI_succ] at k
          exact k
        · skip
          refine z_aload_0 (pc := 46) dX3_fewestTold_46 ?_
          refine y_getR (pc := 47) dX3_fewestTold_47 flX3_26 rfl (by first | rfl | assumption) (by first | rfl | assumption) ?_
          refine z_iload_1 (pc := 50) dX3_fewestTold_50 ?_
          refine z_iload_5 (pc := 51) dX3_fewestTold_51 ?_
          refine z_V2 (pc := 53) dX3_fewestTold_53 mlX3_48 kX6_spreadCask vX6_spreadCask (by decide) (by decide) (by first | rfl | assumption) (Nat.le_of_ble_eq_true rfl) (qX6_spreadCask (zTe I (I 16) n T A B (fun _ => false) (nI w)) (hT.set ht) i hx hi (by rw [hT.1 22 (by omega)]; exact ew.symm) (zbt s) (by rw [bs_bits s (by have := pow6 n ht.1; omega)]) (zbt_lt hlt)) ⟨Nat.le_refl _, Nat.le_refl _⟩ (fun r h1 hq => ?_)
          obtain ⟨I2, nw2, rfl, rfl, z1, z2, z3, z5, z6, z7, st, z8, z9, z10⟩ := zSpQ_fr hq
          rw [zsc_keep hT.1] at z6
          refine z_aload_0 (pc := 56) dX3_fewestTold_56 ?_
          refine y_getR (pc := 57) dX3_fewestTold_57 flX3_26 rfl (by first | rfl | assumption) (by first | rfl | assumption) ?_
          refine y_getI (pc := 60) dX3_fewestTold_60 flX3_52 rfl (by first | rfl | assumption) ?_
          refine z_iload_2 (pc := 63) dX3_fewestTold_63 ?_
          refine z_iload_3 (pc := 64) dX3_fewestTold_64 ?_
          refine z_ior (pc := 65) dX3_fewestTold_65 ?_
          refine z_iand (pc := 66) dX3_fewestTold_66 ?_
          refine z_iload_2 (pc := 67) dX3_fewestTold_67 ?_
          refine z_icmp_ne (pc := 68) (tgt := 75) dX3_fewestTold_68 (by decide) (fun c68 => ?_) (fun c68 => ?_)
          · skip
            refine z_iinc_5 (pc := 75) (1) dX3_fewestTold_75 rfl (by decide) rfl ?_
            refine z_goto (pc := 78) (tgt := 14) dX3_fewestTold_78 (by decide) ?_
            have k := few_loop (l := l) (J := J) (a := a) (b := b) n T A B ht i hx hi w ew f (s + 1) I2 nw2 (by omega) (by omega) (hT.keep z1 z2 z3)
            rw [show zfew (fun s => decide (nI (bs (zgo (zTe I (I 16) n T A B (fun _ => false) (nI w)) (zbt s) (zsc I i)).2) &&& (a ||| b) = a)) (s + 1) = zfew (fun s => decide (nI (bs (zgo (zTe I (I 16) n T A B (fun _ => false) (nI w)) (zbt s) (zsc I i)).2) &&& (a ||| b) = a)) s from by rw [zfew, if_neg (fun q => c68 (by rw [z6]; exact of_decide_eq_true q.2))], nI_succ] at k
            exact k
          · skip
            refine z_iload_5 (pc := 71) dX3_fewestTold_71 ?_
            refine z_istore_4 (pc := 73) dX3_fewestTold_73 (by decide) rfl ?_
            refine z_iinc_5 (pc := 75) (1) dX3_fewestTold_75 rfl (by decide) rfl ?_
            refine z_goto (pc := 78) (tgt := 14) dX3_fewestTold_78 (by decide) ?_
            have k := few_loop (l := l) (J := J) (a := a) (b := b) n T A B ht i hx hi w ew f (s + 1) I2 nw2 (by omega) (by omega) (hT.keep z1 z2 z3)
            rw [show zfew (fun s => decide (nI (bs (zgo (zTe I (I 16) n T A B (fun _ => false) (nI w)) (zbt s) (zsc I i)).2) &&& (a ||| b) = a)) (s + 1) = nI s from by rw [zfew, if_pos ⟨Or.inr (Int32.not_le.mp c43), decide_eq_true (by rw [← z6]; exact c68)⟩], nI_succ] at k
            exact k
set_option maxRecDepth 100000 in
set_option maxHeartbeats 4000000 in
theorem qX3_fewestTold {l : zL} {I : Nat → Nat → Int32} {J : Nat → Nat → Int64} {nw : Bool} (n T : Nat) (A B : Nat → Nat) (ht : zTown I n T A B) {x : Int32} (i : Nat) (hx : x = nI i) (hi : i < 4) (w : Nat) (ew : I 22 (1 + i) - 1 = nI w) {a b : Int32} : zP l mX3_fewestTold [.ref 79, .int x, .int a, .int b] (hh I J nw) (zKeep I J (.int (zfew (fun s => decide (nI (bs (zgo (zTe I (I 16) n T A B (fun _ => false) (nI w)) (zbt s) (zsc I i)).2) &&& (a ||| b) = a)) (2 ^ n)))) := by
  refine z_start [.ref 79, .int x, .int a, .int b, zno, zno] (by decide +kernel) (Nat.le_of_ble_eq_true rfl) rfl ?_
  refine z_ldc (pc := 0) dX3_fewestTold_0 kcX3_30 ?_
  refine z_istore_4 (pc := 2) dX3_fewestTold_2 (by decide) rfl ?_
  refine z_aload_0 (pc := 4) dX3_fewestTold_4 ?_
  refine y_getR (pc := 5) dX3_fewestTold_5 flX3_26 rfl (by first | rfl | assumption) (by first | rfl | assumption) ?_
  refine z_V0 (pc := 8) dX3_fewestTold_8 mlX3_31 kX6_beAsTold vX6_beAsTold (by decide) (by decide) (by first | rfl | assumption) (Nat.le_of_ble_eq_true rfl) (qX6_beAsTold T ht.2.2.1 ht.2.2.2.1 A B (fun k hk => ⟨(ht.2.2.2.2.1 k hk).1, by have := (ht.2.2.2.2.1 k hk).2; have := ht.1; omega⟩) (fun k hk => ⟨(ht.2.2.2.2.2.1 k hk).1, by have := (ht.2.2.2.2.2.1 k hk).2; have := ht.1; omega⟩)) ⟨Nat.le_refl _, Nat.le_refl _⟩ (fun r h1 hq => ?_)
  obtain ⟨rfl, g2, rfl, hg2⟩ := hq
  have hT := zTold.first ht hg2
  refine z_iconst (pc := 11) (0) dX3_fewestTold_11 rfl ?_
  refine z_istore_5 (pc := 12) dX3_fewestTold_12 (by decide) rfl ?_
  have k := few_loop (l := l) (J := J) (a := a) (b := b) n T A B ht i hx hi w ew (2 ^ n + 1) 0 _ nw (Nat.zero_le _) (Nat.lt_succ_of_le (Nat.sub_le _ _)) hT
  exact k
theorem sh_bits : ∀ s, s < 1024 → ∀ k, k < 10 → ((nI s >>> (nI k &&& 31)) &&& 1 = 0 ↔ zbt s k = false) := by decide +kernel
theorem pow10 : ∀ T, T ≤ 10 → 2 ^ T ≤ 1024 ∧ (1 : Int32) <<< (nI T &&& 31) = nI (2 ^ T) := by decide +kernel
set_option maxRecDepth 100000 in
set_option maxHeartbeats 4000000 in
theorem out_loop {l : zL} {I : Nat → Nat → Int32} {J : Nat → Nat → Int64} (n T : Nat) (A B : Nat → Nat) (ht : zTown I n T A B) {x : Int32} (i : Nat) (hx : x = nI i) (hi : i < 4) (w : Nat) (ew : I 22 (1 + i) - 1 = nI w) {y z : Int32} (a : Nat) (hy : y = nI a) (ha : a < n) (b : Nat) (hz : z = nI b) (hb : b < n) : ∀ (f s : Nat) (I1 : Nat → Nat → Int32) (nw : Bool) (w0 : Nat → Bool), s ≤ 2 ^ T → 2 ^ T - s < f → zTold I I1 n T A B (I 16) w0 →
    zW l mX3_fewestWithout SH.length (zsl SH) 14 [.ref 79, .int x, .int y, .int z, .int (zfew (fun s => !zrc (zgo (zTe I (I 16) n T A B (zbt s) (nI w)) (fun e => e == a) (zsc I i)).1 b) s), .int (nI s)] [] (I1, J, RF nw, SH) (zKeep I J (.int (zfew (fun s => !zrc (zgo (zTe I (I 16) n T A B (zbt s) (nI w)) (fun e => e == a) (zsc I i)).1 b) (2 ^ T))))
  | 0, s, I1, nw, w0, _, hf, _ => by omega
  | f + 1, s, I1, nw, w0, hs, hf, hT => by
    obtain ⟨p1, p2⟩ := pow10 T ht.2.2.1
    have hn6 := ht.1
    have hed : ∀ e, (e == a) = true → e < n := fun e he => by rw [beq_iff_eq.mp he]; exact ha
    refine z_iload_5 (pc := 14) dX3_fewestWithout_14 ?_
    refine z_iconst (pc := 16) (1) dX3_fewestWithout_16 rfl ?_
    refine z_aload_0 (pc := 17) dX3_fewestWithout_17 ?_
    refine y_getR (pc := 18) dX3_fewestWithout_18 flX3_22 rfl (by first | rfl | assumption) (by first | rfl | assumption) ?_
    refine y_getI (pc := 21) dX3_fewestWithout_21 flX3_56 rfl (by first | rfl | assumption) ?_
    refine z_ishl (pc := 24) dX3_fewestWithout_24 ?_
    refine z_icmp_ge (pc := 25) (tgt := 92) dX3_fewestWithout_25 (by decide) (fun c25 => ?_) (fun c25 => ?_)
    · skip
      refine z_iload_4 (pc := 92) dX3_fewestWithout_92 ?_
      refine z_ret (pc := 94) (r := some (.int _)) rfl dX3_fewestWithout_94 trivial rfl rfl ?_
      have : s = 2 ^ T := by
        rw [hT.1 15 (by omega), ht.2.2.2.1, p2] at c25
        rcases Nat.lt_or_ge s (2 ^ T) with q | q
        · exact absurd c25 (nI_ge q (by omega))
        · omega
      subst this
      exact ⟨rfl, I1, nw, rfl, hT.1⟩
    · skip
      have hlt : s < 2 ^ T := by
        rw [hT.1 15 (by omega), ht.2.2.2.1, p2] at c25
        rcases Nat.lt_or_ge s (2 ^ T) with q | q
        · exact q
        · exact absurd (nI_le q (by omega)) c25
      refine z_iload_4 (pc := 28) dX3_fewestWithout_28 ?_
      refine z_ldc (pc := 30) dX3_fewestWithout_30 kcX3_30 ?_
      refine z_icmp_eq (pc := 32) (tgt := 48) dX3_fewestWithout_32 (by decide) (fun c32 => ?_) (fun c32 => ?_)
      · skip
        refine z_aload_0 (pc := 48) dX3_fewestWithout_48 ?_
        refine y_getR (pc := 49) dX3_fewestWithout_49 flX3_26 rfl (by first | rfl | assumption) (by first | rfl | assumption) ?_
        refine z_iload_5 (pc := 52) dX3_fewestWithout_52 ?_
        have htt := ht.keep hT.1
        refine z_V1 (pc := 54) dX3_fewestWithout_54 mlX3_59 kX6_leaveOut vX6_leaveOut (by decide) (by decide) (by first | rfl | assumption) (Nat.le_of_ble_eq_true rfl) (qX6_leaveOut T htt.2.2.1 htt.2.2.2.1 A B (fun k hk => ⟨(htt.2.2.2.2.1 k hk).1, by have := (htt.2.2.2.2.1 k hk).2; have := htt.1; omega⟩) (fun k hk => ⟨(htt.2.2.2.2.2.1 k hk).1, by have := (htt.2.2.2.2.2.1 k hk).2; have := htt.1; omega⟩) (zbt s) (sh_bits s (by omega))) ⟨Nat.le_refl _, Nat.le_refl _⟩ (fun r h1 hq => ?_)
        obtain ⟨rfl, g2, rfl, hg2⟩ := hq
        have hT2 : zTold I (zrow I1 76 g2) n T A B (I 16) (zbt s) := ⟨fun q hq => by funext b; rw [zrow_ne _ _ _ (by omega), hT.1 q hq], fun d hd => by rw [zrow_ne _ _ _ (by decide)]; exact hT.2.1 d hd, fun d hd => by rw [zrow_at]; exact hg2 d hd⟩
        refine z_aload_0 (pc := 57) dX3_fewestWithout_57 ?_
        refine y_getR (pc := 58) dX3_fewestWithout_58 flX3_26 rfl (by first | rfl | assumption) (by first | rfl | assumption) ?_
        refine z_iload_1 (pc := 61) dX3_fewestWithout_61 ?_
        refine z_iconst (pc := 62) (1) dX3_fewestWithout_62 rfl ?_
        refine z_iload_2 (pc := 63) dX3_fewestWithout_63 ?_
        refine z_ishl (pc := 64) dX3_fewestWithout_64 ?_
        refine z_V2 (pc := 65) dX3_fewestWithout_65 mlX3_48 kX6_spreadCask vX6_spreadCask (by decide) (by decide) (by first | rfl | assumption) (Nat.le_of_ble_eq_true rfl) (qX6_spreadCask (zTe I (I 16) n T A B (zbt s) (nI w)) (hT2.set ht) i hx hi (by rw [hT2.1 22 (by omega)]; exact ew.symm) (fun e => e == a) (by rw [hy]; exact bs_one a (by omega)) hed) ⟨Nat.le_refl _, Nat.le_refl _⟩ (fun r h1 hq => ?_)
        obtain ⟨I2, nw2, rfl, rfl, z1, z2, z3, z5, z6, z7, st, z8, z9, z10⟩ := zSpQ_fr hq
        rw [zsc_keep hT2.1] at z7
        have hbit : (I2 74 8 >>> (z &&& 31)) &&& 1 = 0 ↔ (!zrc (zgo (zTe I (I 16) n T A B (zbt s) (nI w)) (fun e => e == a) (zsc I i)).1 b) = true := by
          rw [z7, hz, bs_test _ b (by omega)]
          cases zrc (zgo (zTe I (I 16) n T A B (zbt s) (nI w)) (fun e => e == a) (zsc I i)).1 b <;> decide
        refine z_aload_0 (pc := 68) dX3_fewestWithout_68 ?_
        refine y_getR (pc := 69) dX3_fewestWithout_69 flX3_26 rfl (by first | rfl | assumption) (by first | rfl | assumption) ?_
        refine y_getI (pc := 72) dX3_fewestWithout_72 flX3_63 rfl (by first | rfl | assumption) ?_
        refine z_iload_3 (pc := 75) dX3_fewestWithout_75 ?_
        refine z_ishr (pc := 76) dX3_fewestWithout_76 ?_
        refine z_iconst (pc := 77) (1) dX3_fewestWithout_77 rfl ?_
        refine z_iand (pc := 78) dX3_fewestWithout_78 ?_
        refine z_if_ne (pc := 79) (tgt := 86) dX3_fewestWithout_79 (by decide) (fun c79 => ?_) (fun c79 => ?_)
        · skip
          refine z_iinc_5 (pc := 86) (1) dX3_fewestWithout_86 rfl (by decide) rfl ?_
          refine z_goto (pc := 89) (tgt := 14) dX3_fewestWithout_89 (by decide) ?_
          have k := out_loop (l := l) (J := J) n T A B ht i hx hi w ew a hy ha b hz hb f (s + 1) I2 nw2 (zbt s) (by omega) (by omega) (hT2.keep z1 z2 z3)
          rw [show zfew (fun s => !zrc (zgo (zTe I (I 16) n T A B (zbt s) (nI w)) (fun e => e == a) (zsc I i)).1 b) (s + 1) = zfew (fun s => !zrc (zgo (zTe I (I 16) n T A B (zbt s) (nI w)) (fun e => e == a) (zsc I i)).1 b) s from by rw [zfew, if_neg (fun q => c79 (hbit.mpr q.2))], nI_succ] at k
          exact k
        · skip
          refine z_iload_5 (pc := 82) dX3_fewestWithout_82 ?_
          refine z_istore_4 (pc := 84) dX3_fewestWithout_84 (by decide) rfl ?_
          refine z_iinc_5 (pc := 86) (1) dX3_fewestWithout_86 rfl (by decide) rfl ?_
          refine z_goto (pc := 89) (tgt := 14) dX3_fewestWithout_89 (by decide) ?_
          have k := out_loop (l := l) (J := J) n T A B ht i hx hi w ew a hy ha b hz hb f (s + 1) I2 nw2 (zbt s) (by omega) (by omega) (hT2.keep z1 z2 z3)
          rw [show zfew (fun s => !zrc (zgo (zTe I (I 16) n T A B (zbt s) (nI w)) (fun e => e == a) (zsc I i)).1 b) (s + 1) = nI s from by rw [zfew, if_pos ⟨Or.inl c32, hbit.mp c79⟩], nI_succ] at k
          exact k
      · skip
        refine z_iload_5 (pc := 35) dX3_fewestWithout_35 ?_
        refine z_S1 (pc := 37) dX3_fewestWithout_37 mlX3_42 kJ6_bitCount_0f7a4 vJ6_bitCount_0f7a4 (by decide) (by decide) (Nat.le_of_ble_eq_true rfl) (qJ6_bitCount_0f7a4) ⟨Nat.le_refl _, Nat.le_refl _⟩ (fun r h1 hq => ?_)
        obtain ⟨rfl, rfl⟩ := hq
        refine z_iload_4 (pc := 40) dX3_fewestWithout_40 ?_
        refine z_S1 (pc := 42) dX3_fewestWithout_42 mlX3_42 kJ6_bitCount_0f7a4 vJ6_bitCount_0f7a4 (by decide) (by decide) (Nat.le_of_ble_eq_true rfl) (qJ6_bitCount_0f7a4) ⟨Nat.le_refl _, Nat.le_refl _⟩ (fun r h1 hq => ?_)
        obtain ⟨rfl, rfl⟩ := hq
        refine z_icmp_ge (pc := 45) (tgt := 86) dX3_fewestWithout_45 (by decide) (fun c45 => ?_) (fun c45 => ?_)
        · skip
          refine z_iinc_5 (pc := 86) (1) dX3_fewestWithout_86 rfl (by decide) rfl ?_
          refine z_goto (pc := 89) (tgt := 14) dX3_fewestWithout_89 (by decide) ?_
          have k := out_loop (l := l) (J := J) n T A B ht i hx hi w ew a hy ha b hz hb f (s + 1) I1 nw w0 (by omega) (by omega) hT
          rw [show zfew (fun s => !zrc (zgo (zTe I (I 16) n T A B (zbt s) (nI w)) (fun e => e == a) (zsc I i)).1 b) (s + 1) = zfew (fun s => !zrc (zgo (zTe I (I 16) n T A B (zbt s) (nI w)) (fun e => e == a) (zsc I i)).1 b) s from by rw [zfew, if_neg (fun q => q.1.elim c32 (fun z => absurd z (Int32.not_lt.mpr c45)))], nI_succ] at k
          exact k
        · skip
          refine z_aload_0 (pc := 48) dX3_fewestWithout_48 ?_
          refine y_getR (pc := 49) dX3_fewestWithout_49 flX3_26 rfl (by first | rfl | assumption) (by first | rfl | assumption) ?_
          refine z_iload_5 (pc := 52) dX3_fewestWithout_52 ?_
          have htt := ht.keep hT.1
          refine z_V1 (pc := 54) dX3_fewestWithout_54 mlX3_59 kX6_leaveOut vX6_leaveOut (by decide) (by decide) (by first | rfl | assumption) (Nat.le_of_ble_eq_true rfl) (qX6_leaveOut T htt.2.2.1 htt.2.2.2.1 A B (fun k hk => ⟨(htt.2.2.2.2.1 k hk).1, by have := (htt.2.2.2.2.1 k hk).2; have := htt.1; omega⟩) (fun k hk => ⟨(htt.2.2.2.2.2.1 k hk).1, by have := (htt.2.2.2.2.2.1 k hk).2; have := htt.1; omega⟩) (zbt s) (sh_bits s (by omega))) ⟨Nat.le_refl _, Nat.le_refl _⟩ (fun r h1 hq => ?_)
          obtain ⟨rfl, g2, rfl, hg2⟩ := hq
          have hT2 : zTold I (zrow I1 76 g2) n T A B (I 16) (zbt s) := ⟨fun q hq => by funext b; rw [zrow_ne _ _ _ (by omega), hT.1 q hq], fun d hd => by rw [zrow_ne _ _ _ (by decide)]; exact hT.2.1 d hd, fun d hd => by rw [zrow_at]; exact hg2 d hd⟩
          refine z_aload_0 (pc := 57) dX3_fewestWithout_57 ?_
          refine y_getR (pc := 58) dX3_fewestWithout_58 flX3_26 rfl (by first | rfl | assumption) (by first | rfl | assumption) ?_
          refine z_iload_1 (pc := 61) dX3_fewestWithout_61 ?_
          refine z_iconst (pc := 62) (1) dX3_fewestWithout_62 rfl ?_
          refine z_iload_2 (pc := 63) dX3_fewestWithout_63 ?_
          refine z_ishl (pc := 64) dX3_fewestWithout_64 ?_
          refine z_V2 (pc := 65) dX3_fewestWithout_65 mlX3_48 kX6_spreadCask vX6_spreadCask (by decide) (by decide) (by first | rfl | assumption) (Nat.le_of_ble_eq_true rfl) (qX6_spreadCask (zTe I (I 16) n T A B (zbt s) (nI w)) (hT2.set ht) i hx hi (by rw [hT2.1 22 (by omega)]; exact ew.symm) (fun e => e == a) (by rw [hy]; exact bs_one a (by omega)) hed) ⟨Nat.le_refl _, Nat.le_refl _⟩ (fun r h1 hq => ?_)
          obtain ⟨I2, nw2, rfl, rfl, z1, z2, z3, z5, z6, z7, st, z8, z9, z10⟩ := zSpQ_fr hq
          rw [zsc_keep hT2.1] at z7
          have hbit : (I2 74 8 >>> (z &&& 31)) &&& 1 = 0 ↔ (!zrc (zgo (zTe I (I 16) n T A B (zbt s) (nI w)) (fun e => e == a) (zsc I i)).1 b) = true := by
            rw [z7, hz, bs_test _ b (by omega)]
            cases zrc (zgo (zTe I (I 16) n T A B (zbt s) (nI w)) (fun e => e == a) (zsc I i)).1 b <;> decide
          refine z_aload_0 (pc := 68) dX3_fewestWithout_68 ?_
          refine y_getR (pc := 69) dX3_fewestWithout_69 flX3_26 rfl (by first | rfl | assumption) (by first | rfl | assumption) ?_
          refine y_getI (pc := 72) dX3_fewestWithout_72 flX3_63 rfl (by first | rfl | assumption) ?_
          refine z_iload_3 (pc := 75) dX3_fewestWithout_75 ?_
          refine z_ishr (pc := 76) dX3_fewestWithout_76 ?_
          refine z_iconst (pc := 77) (1) dX3_fewestWithout_77 rfl ?_
          refine z_iand (pc := 78) dX3_fewestWithout_78 ?_
          refine z_if_ne (pc := 79) (tgt := 86) dX3_fewestWithout_79 (by decide) (fun c79 => ?_) (fun c79 => ?_)
          · skip
            refine z_iinc_5 (pc := 86) (1) dX3_fewestWithout_86 rfl (by decide) rfl ?_
            refine z_goto (pc := 89) (tgt := 14) dX3_fewestWithout_89 (by decide) ?_
            have k := out_loop (l := l) (J := J) n T A B ht i hx hi w ew a hy ha b hz hb f (s + 1) I2 nw2 (zbt s) (by omega) (by omega) (hT2.keep z1 z2 z3)
            rw [show zfew (fun s => !zrc (zgo (zTe I (I 16) n T A B (zbt s) (nI w)) (fun e => e == a) (zsc I i)).1 b) (s + 1) = zfew (fun s => !zrc (zgo (zTe I (I 16) n T A B (zbt s) (nI w)) (fun e => e == a) (zsc I i)).1 b) s from by rw [zfew, if_neg (fun q => c79 (hbit.mpr q.2))], nI_succ] at k
            exact k
          · skip
            refine z_iload_5 (pc := 82) dX3_fewestWithout_82 ?_
            refine z_istore_4 (pc := 84) dX3_fewestWithout_84 (by decide) rfl ?_
            refine z_iinc_5 (pc := 86) (1) dX3_fewestWithout_86 rfl (by decide) rfl ?_
            refine z_goto (pc := 89) (tgt := 14) dX3_fewestWithout_89 (by decide) ?_
            have k := out_loop (l := l) (J := J) n T A B ht i hx hi w ew a hy ha b hz hb f (s + 1) I2 nw2 (zbt s) (by omega) (by omega) (hT2.keep z1 z2 z3)
            rw [show zfew (fun s => !zrc (zgo (zTe I (I 16) n T A B (zbt s) (nI w)) (fun e => e == a) (zsc I i)).1 b) (s + 1) = nI s from by rw [zfew, if_pos ⟨Or.inr (Int32.not_le.mp c45), hbit.mp c79⟩], nI_succ] at k
            exact k
set_option maxRecDepth 100000 in
set_option maxHeartbeats 4000000 in
theorem qX3_fewestWithout {l : zL} {I : Nat → Nat → Int32} {J : Nat → Nat → Int64} {nw : Bool} (n T : Nat) (A B : Nat → Nat) (ht : zTown I n T A B) {x : Int32} (i : Nat) (hx : x = nI i) (hi : i < 4) (w : Nat) (ew : I 22 (1 + i) - 1 = nI w) {y z : Int32} (a : Nat) (hy : y = nI a) (ha : a < n) (b : Nat) (hz : z = nI b) (hb : b < n) : zP l mX3_fewestWithout [.ref 79, .int x, .int y, .int z] (hh I J nw) (zKeep I J (.int (zfew (fun s => !zrc (zgo (zTe I (I 16) n T A B (zbt s) (nI w)) (fun e => e == a) (zsc I i)).1 b) (2 ^ T)))) := by
  refine z_start [.ref 79, .int x, .int y, .int z, zno, zno] (by decide +kernel) (Nat.le_of_ble_eq_true rfl) rfl ?_
  refine z_ldc (pc := 0) dX3_fewestWithout_0 kcX3_30 ?_
  refine z_istore_4 (pc := 2) dX3_fewestWithout_2 (by decide) rfl ?_
  refine z_aload_0 (pc := 4) dX3_fewestWithout_4 ?_
  refine y_getR (pc := 5) dX3_fewestWithout_5 flX3_26 rfl (by first | rfl | assumption) (by first | rfl | assumption) ?_
  refine z_V0 (pc := 8) dX3_fewestWithout_8 mlX3_31 kX6_beAsTold vX6_beAsTold (by decide) (by decide) (by first | rfl | assumption) (Nat.le_of_ble_eq_true rfl) (qX6_beAsTold T ht.2.2.1 ht.2.2.2.1 A B (fun k hk => ⟨(ht.2.2.2.2.1 k hk).1, by have := (ht.2.2.2.2.1 k hk).2; have := ht.1; omega⟩) (fun k hk => ⟨(ht.2.2.2.2.2.1 k hk).1, by have := (ht.2.2.2.2.2.1 k hk).2; have := ht.1; omega⟩)) ⟨Nat.le_refl _, Nat.le_refl _⟩ (fun r h1 hq => ?_)
  obtain ⟨rfl, g2, rfl, hg2⟩ := hq
  have hT := zTold.first ht hg2
  refine z_iconst (pc := 11) (0) dX3_fewestWithout_11 rfl ?_
  refine z_istore_5 (pc := 12) dX3_fewestWithout_12 (by decide) rfl ?_
  have k := out_loop (l := l) (J := J) n T A B ht i hx hi w ew a hy ha b hz hb (2 ^ T + 1) 0 _ nw _ (Nat.zero_le _) (Nat.lt_succ_of_le (Nat.sub_le _ _)) hT
  exact k
