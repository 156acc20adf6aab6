def zhrM (I : Nat → Nat → Int32) (d : Int32) : Nat → Int32
  | 0 => 0
  | k + 1 => zhrM I d k ||| (if I 90 (24 + k) = d then (1 : Int32) <<< (I 90 (34 + k) &&& 31) else 0)
def mDrk (I : Nat → Nat → Int32) (n T : Nat) (x w : Int32) : Int32 := if zlt x n = true ∧ zlt w 3 = true then (if w = 2 then zhrM I x T else I 90 (12 + 6 * w.toNatClampNeg + x.toNatClampNeg)) else -1000001
theorem nI_126 (j i : Nat) : (12 : Int32) + 6 * nI j + nI i = nI (12 + 6 * j + i) := by
  rw [show (6 : Int32) * nI j = nI (6 * j) from pk_mul 6 j, show (12 : Int32) + nI (6 * j) = nI (12 + 6 * j) from nI_add 12 (6 * j)]; exact nI_add _ _
theorem nI_484 (j i : Nat) : (48 : Int32) + 4 * nI j + nI i = nI (48 + 4 * j + i) := by
  rw [show (4 : Int32) * nI j = nI (4 * j) from pk_mul 4 j, show (48 : Int32) + nI (4 * j) = nI (48 + 4 * j) from nI_add 48 (4 * j)]; exact nI_add _ _
set_option maxRecDepth 100000 in
set_option maxHeartbeats 4000000 in
theorem mdrk_loop {l : zL} {I : Nat → Nat → Int32} {J : Nat → Nat → Int64} {nw : Bool} (T : Nat) (hT : T ≤ 10) (eT : I 90 4 = nI T) {x w : Int32} {Q : Option Value → zH → Prop} (hQ : ∀ v : Value, v.category = 1 → zW l mX9_drinker SH.length (zsl SH) 78 [.ref 85, .int x, .int w, .int (zhrM I x T), v] [] (I, J, RF nw, SH) Q) : ∀ (f k : Nat), k ≤ T → T - k < f →
    zW l mX9_drinker SH.length (zsl SH) 28 [.ref 85, .int x, .int w, .int (zhrM I x k), .int (nI k)] [] (I, J, RF nw, SH) Q
  | 0, k, _, hf => by omega
  | f + 1, k, hk, hf => by
    refine z_iload_4 (pc := 28) dX9_drinker_28 ?_
    refine z_aload_0 (pc := 30) dX9_drinker_30 ?_
    refine y_getR (pc := 31) dX9_drinker_31 flX9_22 rfl (by first | rfl | assumption) (by first | rfl | assumption) ?_
    refine z_iconst (pc := 34) (4) dX9_drinker_34 rfl ?_
    refine y_ialdN (pc := 35) (4) dX9_drinker_35 (by first | rfl | assumption) (rfl) (by decide) (by first | decide | omega) ?_
    refine z_icmp_ge (pc := 36) (tgt := 78) dX9_drinker_36 (by decide) (fun c36 => ?_) (fun c36 => ?_)
    · skip
      rw [eT] at c36
      have hkn : k = T := by
        rcases Nat.lt_or_ge k T with q | q
        · exact absurd c36 (nI_ge (b := T) q (by omega))
        · omega
      rw [hkn]
      exact hQ _ rfl
    · skip
      rw [eT] at c36
      have hlt : k < T := by
        rcases Nat.lt_or_ge k T with q | q
        · exact q
        · exact absurd (nI_le (a := T) q (by omega)) c36
      refine z_iload_3 (pc := 39) dX9_drinker_39 ?_
      refine z_aload_0 (pc := 40) dX9_drinker_40 ?_
      refine y_getR (pc := 41) dX9_drinker_41 flX9_22 rfl (by first | rfl | assumption) (by first | rfl | assumption) ?_
      refine z_bipush (pc := 44) (24) dX9_drinker_44 rfl ?_
      refine z_iload_4 (pc := 46) dX9_drinker_46 ?_
      refine z_iadd (pc := 48) dX9_drinker_48 ?_
      refine y_ialdN (pc := 49) (24 + k) dX9_drinker_49 (by first | rfl | assumption) (nI_add 24 k) (by omega) (by first | decide | omega) ?_
      refine z_iload_1 (pc := 50) dX9_drinker_50 ?_
      refine z_icmp_ne (pc := 51) (tgt := 69) dX9_drinker_51 (by decide) (fun c51 => ?_) (fun c51 => ?_)
      · skip
        refine z_iconst (pc := 69) (0) dX9_drinker_69 rfl ?_
        refine z_ior (pc := 70) dX9_drinker_70 ?_
        refine z_istore_3 (pc := 71) dX9_drinker_71 (by decide) rfl ?_
        refine z_iinc_4 (pc := 72) (1) dX9_drinker_72 rfl (by decide) rfl ?_
        refine z_goto (pc := 75) (tgt := 28) dX9_drinker_75 (by decide) ?_
        rw [← nI_succ]
        have kk := mdrk_loop T hT eT hQ f (k + 1) (by omega) (by omega)
        rw [zhrM, if_neg c51] at kk
        exact kk
      · skip
        refine z_iconst (pc := 54) (1) dX9_drinker_54 rfl ?_
        refine z_aload_0 (pc := 55) dX9_drinker_55 ?_
        refine y_getR (pc := 56) dX9_drinker_56 flX9_22 rfl (by first | rfl | assumption) (by first | rfl | assumption) ?_
        refine z_bipush (pc := 59) (34) dX9_drinker_59 rfl ?_
        refine z_iload_4 (pc := 61) dX9_drinker_61 ?_
        refine z_iadd (pc := 63) dX9_drinker_63 ?_
        refine y_ialdN (pc := 64) (34 + k) dX9_drinker_64 (by first | rfl | assumption) (nI_add 34 k) (by omega) (by first | decide | omega) ?_
        refine z_ishl (pc := 65) dX9_drinker_65 ?_
        refine z_goto (pc := 66) (tgt := 70) dX9_drinker_66 (by decide) ?_
        refine z_ior (pc := 70) dX9_drinker_70 ?_
        refine z_istore_3 (pc := 71) dX9_drinker_71 (by decide) rfl ?_
        refine z_iinc_4 (pc := 72) (1) dX9_drinker_72 rfl (by decide) rfl ?_
        refine z_goto (pc := 75) (tgt := 28) dX9_drinker_75 (by decide) ?_
        rw [← nI_succ]
        have kk := mdrk_loop T hT eT hQ f (k + 1) (by omega) (by omega)
        rw [zhrM, if_pos c51] at kk
        exact kk
set_option maxRecDepth 100000 in
set_option maxHeartbeats 4000000 in
theorem qX9_drinker {l : zL} {I : Nat → Nat → Int32} {J : Nat → Nat → Int64} {nw : Bool} (n T : Nat) (hn : n ≤ 6) (en : I 90 3 = nI n) (hT : T ≤ 10) (eT : I 90 4 = nI T) {x w : Int32} : zP l mX9_drinker [.ref 85, .int x, .int w] (hh I J nw) (zPM (mDrk I n T x w, I) J nw) := by
  refine z_start [.ref 85, .int x, .int w, zno, zno] (by decide +kernel) (Nat.le_of_ble_eq_true rfl) rfl ?_
  refine z_aload_0 (pc := 0) dX9_drinker_0 ?_
  refine z_iload_1 (pc := 1) dX9_drinker_1 ?_
  refine z_V1 (pc := 2) dX9_drinker_2 mlX9_199 kX9_isDrinker vX9_isDrinker (by decide) (by decide) (by first | rfl | assumption) (Nat.le_of_ble_eq_true rfl) (qX9_isDrinker n hn en) ⟨Nat.le_refl _, Nat.le_refl _⟩ (fun r h1 hq => ?_)
  obtain ⟨rfl, rfl⟩ := hq
  refine z_if_eq (pc := 5) (tgt := 20) dX9_drinker_5 (by decide) (fun c5 => ?_) (fun c5 => ?_)
  · skip
    refine z_ldc (pc := 20) dX9_drinker_20 kcX9_70 ?_
    refine z_ret (pc := 22) (r := some (.int _)) rfl dX9_drinker_22 trivial rfl rfl ?_
    refine zPM_of (Prod.ext ?_ rfl)
    show mDrk _ _ _ _ _ = _
    unfold mDrk
    rw [if_neg (fun q => by rw [(zbb0 _).mp c5] at q; exact absurd q.1 (by decide))]
  · skip
    refine z_iload_2 (pc := 8) dX9_drinker_8 ?_
    refine z_i2l (pc := 9) dX9_drinker_9 ?_
    refine z_lconst (pc := 10) 0 dX9_drinker_10 rfl ?_
    refine z_ldc2 (pc := 11) dX9_drinker_11 kcX9_68 ?_
    refine z_S3 (pc := 14) dX9_drinker_14 mlX9_60 kX9_in vX9_in (by decide) (by decide) (Nat.le_of_ble_eq_true rfl) (qX9_in) ⟨Nat.le_refl _, Nat.le_refl _⟩ (fun r h1 hq => ?_)
    obtain ⟨rfl, rfl⟩ := hq
    refine z_if_ne (pc := 17) (tgt := 23) dX9_drinker_17 (by decide) (fun c17 => ?_) (fun c17 => ?_)
    · skip
      rw [in_zlt (m := 3) (by decide)] at c17
      obtain ⟨i, hi, rfl⟩ := zlt_nI (by omega) ((zbb1 _).mp c5)
      obtain ⟨j, hj, rfl⟩ := zlt_nI (by decide) ((zbb1 _).mp c17)
      have hcl : (nI i).toNatClampNeg = i := nI_clamp (by omega)
      have hcl2 : (nI j).toNatClampNeg = j := nI_clamp (by omega)
      refine z_iconst (pc := 23) (0) dX9_drinker_23 rfl ?_
      refine z_istore_3 (pc := 24) dX9_drinker_24 (by decide) rfl ?_
      refine z_iconst (pc := 25) (0) dX9_drinker_25 rfl ?_
      refine z_istore_4 (pc := 26) dX9_drinker_26 (by decide) rfl ?_
      have k78 : ∀ v : Value, v.category = 1 → zW l mX9_drinker SH.length (zsl SH) 78 [.ref 85, .int (nI i), .int (nI j), .int (zhrM I (nI i) T), v] [] (I, J, RF nw, SH) (zPM (mDrk I n T (nI i) (nI j), I) J nw) := by
        intro v hv
        refine z_iload_2 (pc := 78) dX9_drinker_78 ?_
        refine z_iconst (pc := 79) (2) dX9_drinker_79 rfl ?_
        refine z_icmp_ne (pc := 80) (tgt := 87) dX9_drinker_80 (by decide) (fun c80 => ?_) (fun c80 => ?_)
        · skip
          have hj2 : ¬ j = 2 := fun q => c80 (by rw [q]; rfl)
          refine z_aload_0 (pc := 87) dX9_drinker_87 ?_
          refine y_getR (pc := 88) dX9_drinker_88 flX9_22 rfl (by first | rfl | assumption) (by first | rfl | assumption) ?_
          refine z_bipush (pc := 91) (12) dX9_drinker_91 rfl ?_
          refine z_bipush (pc := 93) (6) dX9_drinker_93 rfl ?_
          refine z_iload_2 (pc := 95) dX9_drinker_95 ?_
          refine z_imul (pc := 96) dX9_drinker_96 ?_
          refine z_iadd (pc := 97) dX9_drinker_97 ?_
          refine z_iload_1 (pc := 98) dX9_drinker_98 ?_
          refine z_iadd (pc := 99) dX9_drinker_99 ?_
          refine y_ialdN (pc := 100) (12 + 6 * j + i) dX9_drinker_100 (by first | rfl | assumption) (nI_126 j i) (by omega) (by first | decide | omega) ?_
          refine z_ret (pc := 101) (r := some (.int _)) rfl dX9_drinker_101 trivial rfl rfl ?_
          refine zPM_of (Prod.ext ?_ rfl)
          show mDrk _ _ _ _ _ = _
          unfold mDrk
          rw [if_pos ⟨zlt_of hi (by omega), zlt_of hj (by decide)⟩, hcl, hcl2, if_neg c80]
        · skip
          refine z_iload_3 (pc := 83) dX9_drinker_83 ?_
          refine z_goto (pc := 84) (tgt := 101) dX9_drinker_84 (by decide) ?_
          refine z_ret (pc := 101) (r := some (.int _)) rfl dX9_drinker_101 trivial rfl rfl ?_
          refine zPM_of (Prod.ext ?_ rfl)
          show mDrk _ _ _ _ _ = _
          unfold mDrk
          rw [if_pos ⟨zlt_of hi (by omega), zlt_of hj (by decide)⟩, hcl, hcl2, if_pos c80]
      exact mdrk_loop T hT eT k78 (T + 1) 0 (by omega) (by omega)
    · skip
      refine z_ldc (pc := 20) dX9_drinker_20 kcX9_70 ?_
      refine z_ret (pc := 22) (r := some (.int _)) rfl dX9_drinker_22 trivial rfl rfl ?_
      refine zPM_of (Prod.ext ?_ rfl)
      show mDrk _ _ _ _ _ = _
      unfold mDrk
      rw [in_zlt (m := 3) (by decide)] at c17
      rw [if_neg (fun q => by rw [(zbb0 _).mp c17] at q; exact absurd q.2 (by decide))]
def mCask (I : Nat → Nat → Int32) (x w : Int32) : Int32 := if zlt x 4 = true ∧ zlt w 5 = true then (if I 90 (44 + x.toNatClampNeg) = 0 then -1000000 else if w = 3 then zst (I 90 0) (I 90 1) (I 90 (52 + x.toNatClampNeg)) (I 90 (56 + x.toNatClampNeg)) else if w = 4 then zbb (decide (I 90 (44 + x.toNatClampNeg) = 1 ∧ ¬ I 90 (56 + x.toNatClampNeg) ≤ I 90 1)) else I 90 (48 + 4 * w.toNatClampNeg + x.toNatClampNeg)) else -1000001
set_option maxRecDepth 100000 in
set_option maxHeartbeats 4000000 in
theorem qX9_cask {l : zL} {I : Nat → Nat → Int32} {J : Nat → Nat → Int64} {nw : Bool} {x w : Int32} : zP l mX9_cask [.ref 85, .int x, .int w] (hh I J nw) (zPM (mCask I x w, I) J nw) := by
  refine z_start [.ref 85, .int x, .int w] (by decide +kernel) (Nat.le_of_ble_eq_true rfl) rfl ?_
  refine z_iload_1 (pc := 0) dX9_cask_0 ?_
  refine z_S1 (pc := 1) dX9_cask_1 mlX9_216 kX9_isCask vX9_isCask (by decide) (by decide) (Nat.le_of_ble_eq_true rfl) (qX9_isCask) ⟨Nat.le_refl _, Nat.le_refl _⟩ (fun r h1 hq => ?_)
  obtain ⟨rfl, rfl⟩ := hq
  refine z_if_eq (pc := 4) (tgt := 19) dX9_cask_4 (by decide) (fun c4 => ?_) (fun c4 => ?_)
  · skip
    refine z_ldc (pc := 19) dX9_cask_19 kcX9_70 ?_
    refine z_ret (pc := 21) (r := some (.int _)) rfl dX9_cask_21 trivial rfl rfl ?_
    refine zPM_of (Prod.ext ?_ rfl)
    show mCask _ _ _ = _
    unfold mCask
    rw [if_neg (fun q => by rw [(zbb0 _).mp c4] at q; exact absurd q.1 (by decide))]
  · skip
    refine z_iload_2 (pc := 7) dX9_cask_7 ?_
    refine z_i2l (pc := 8) dX9_cask_8 ?_
    refine z_lconst (pc := 9) 0 dX9_cask_9 rfl ?_
    refine z_ldc2 (pc := 10) dX9_cask_10 kcX9_229 ?_
    refine z_S3 (pc := 13) dX9_cask_13 mlX9_60 kX9_in vX9_in (by decide) (by decide) (Nat.le_of_ble_eq_true rfl) (qX9_in) ⟨Nat.le_refl _, Nat.le_refl _⟩ (fun r h1 hq => ?_)
    obtain ⟨rfl, rfl⟩ := hq
    refine z_if_ne (pc := 16) (tgt := 22) dX9_cask_16 (by decide) (fun c16 => ?_) (fun c16 => ?_)
    · skip
      rw [in_zlt (m := 5) (by decide)] at c16
      obtain ⟨i, hi, rfl⟩ := zlt_nI (by decide) ((zbb1 _).mp c4)
      obtain ⟨j, hj, rfl⟩ := zlt_nI (by decide) ((zbb1 _).mp c16)
      have hcl : (nI i).toNatClampNeg = i := nI_clamp (by omega)
      have hcl2 : (nI j).toNatClampNeg = j := nI_clamp (by omega)
      have hqq : zlt (nI i) 4 = true ∧ zlt (nI j) 5 = true := ⟨zlt_of hi (by decide), zlt_of hj (by decide)⟩
      refine z_aload_0 (pc := 22) dX9_cask_22 ?_
      refine y_getR (pc := 23) dX9_cask_23 flX9_22 rfl (by first | rfl | assumption) (by first | rfl | assumption) ?_
      refine z_bipush (pc := 26) (44) dX9_cask_26 rfl ?_
      refine z_iload_1 (pc := 28) dX9_cask_28 ?_
      refine z_iadd (pc := 29) dX9_cask_29 ?_
      refine y_ialdN (pc := 30) (44 + i) dX9_cask_30 (by first | rfl | assumption) (nI_add 44 i) (by omega) (by first | decide | omega) ?_
      refine z_if_ne (pc := 31) (tgt := 37) dX9_cask_31 (by decide) (fun c31 => ?_) (fun c31 => ?_)
      · skip
        refine z_iload_2 (pc := 37) dX9_cask_37 ?_
        have hc : j = 0 ∨ j = 1 ∨ j = 2 ∨ j = 3 ∨ j = 4 := by omega
        rcases hc with rfl | rfl | rfl | rfl | rfl
        · skip
          refine z_lookup (pc := 38) (tgt := 87) dX9_cask_38 (by decide) rfl (by decide) ?_
          refine z_aload_0 (pc := 87) dX9_cask_87 ?_
          refine y_getR (pc := 88) dX9_cask_88 flX9_22 rfl (by first | rfl | assumption) (by first | rfl | assumption) ?_
          refine z_bipush (pc := 91) (48) dX9_cask_91 rfl ?_
          refine z_iconst (pc := 93) (4) dX9_cask_93 rfl ?_
          refine z_iload_2 (pc := 94) dX9_cask_94 ?_
          refine z_imul (pc := 95) dX9_cask_95 ?_
          refine z_iadd (pc := 96) dX9_cask_96 ?_
          refine z_iload_1 (pc := 97) dX9_cask_97 ?_
          refine z_iadd (pc := 98) dX9_cask_98 ?_
          refine y_ialdN (pc := 99) (48 + 4 * 0 + i) dX9_cask_99 (by first | rfl | assumption) (nI_484 0 i) (by omega) (by first | decide | omega) ?_
          refine z_ret (pc := 100) (r := some (.int _)) rfl dX9_cask_100 trivial rfl rfl ?_
          refine zPM_of (Prod.ext ?_ rfl)
          show mCask _ _ _ = _
          unfold mCask
          rw [if_pos hqq, hcl, hcl2, if_neg c31, if_neg (by decide), if_neg (by decide)]
        · skip
          refine z_lookup (pc := 38) (tgt := 87) dX9_cask_38 (by decide) rfl (by decide) ?_
          refine z_aload_0 (pc := 87) dX9_cask_87 ?_
          refine y_getR (pc := 88) dX9_cask_88 flX9_22 rfl (by first | rfl | assumption) (by first | rfl | assumption) ?_
          refine z_bipush (pc := 91) (48) dX9_cask_91 rfl ?_
          refine z_iconst (pc := 93) (4) dX9_cask_93 rfl ?_
          refine z_iload_2 (pc := 94) dX9_cask_94 ?_
          refine z_imul (pc := 95) dX9_cask_95 ?_
          refine z_iadd (pc := 96) dX9_cask_96 ?_
          refine z_iload_1 (pc := 97) dX9_cask_97 ?_
          refine z_iadd (pc := 98) dX9_cask_98 ?_
          refine y_ialdN (pc := 99) (48 + 4 * 1 + i) dX9_cask_99 (by first | rfl | assumption) (nI_484 1 i) (by omega) (by first | decide | omega) ?_
          refine z_ret (pc := 100) (r := some (.int _)) rfl dX9_cask_100 trivial rfl rfl ?_
          refine zPM_of (Prod.ext ?_ rfl)
          show mCask _ _ _ = _
          unfold mCask
          rw [if_pos hqq, hcl, hcl2, if_neg c31, if_neg (by decide), if_neg (by decide)]
        · skip
          refine z_lookup (pc := 38) (tgt := 87) dX9_cask_38 (by decide) rfl (by decide) ?_
          refine z_aload_0 (pc := 87) dX9_cask_87 ?_
          refine y_getR (pc := 88) dX9_cask_88 flX9_22 rfl (by first | rfl | assumption) (by first | rfl | assumption) ?_
          refine z_bipush (pc := 91) (48) dX9_cask_91 rfl ?_
          refine z_iconst (pc := 93) (4) dX9_cask_93 rfl ?_
          refine z_iload_2 (pc := 94) dX9_cask_94 ?_
          refine z_imul (pc := 95) dX9_cask_95 ?_
          refine z_iadd (pc := 96) dX9_cask_96 ?_
          refine z_iload_1 (pc := 97) dX9_cask_97 ?_
          refine z_iadd (pc := 98) dX9_cask_98 ?_
          refine y_ialdN (pc := 99) (48 + 4 * 2 + i) dX9_cask_99 (by first | rfl | assumption) (nI_484 2 i) (by omega) (by first | decide | omega) ?_
          refine z_ret (pc := 100) (r := some (.int _)) rfl dX9_cask_100 trivial rfl rfl ?_
          refine zPM_of (Prod.ext ?_ rfl)
          show mCask _ _ _ = _
          unfold mCask
          rw [if_pos hqq, hcl, hcl2, if_neg c31, if_neg (by decide), if_neg (by decide)]
        · skip
          refine z_lookup (pc := 38) (tgt := 64) dX9_cask_38 (by decide) rfl (by decide) ?_
          refine z_aload_0 (pc := 64) dX9_cask_64 ?_
          refine y_getR (pc := 65) dX9_cask_65 flX9_22 rfl (by first | rfl | assumption) (by first | rfl | assumption) ?_
          refine z_iload_1 (pc := 68) dX9_cask_68 ?_
          refine z_S2 (pc := 69) dX9_cask_69 mlX9_183 kX9_strongOf vX9_strongOf (by decide) (by decide) (Nat.le_of_ble_eq_true rfl) (qX9_strongOf 90 rfl i rfl hi) ⟨Nat.le_refl _, Nat.le_refl _⟩ (fun r h1 hq => ?_)
          obtain ⟨rfl, rfl⟩ := hq
          refine z_ret (pc := 72) (r := some (.int _)) rfl dX9_cask_72 trivial rfl rfl ?_
          refine zPM_of (Prod.ext ?_ rfl)
          show mCask _ _ _ = _
          unfold mCask
          rw [if_pos hqq, hcl, if_neg c31, if_pos (by decide)]
        · skip
          refine z_lookup (pc := 38) (tgt := 73) dX9_cask_38 (by decide) rfl (by decide) ?_
          refine z_aload_0 (pc := 73) dX9_cask_73 ?_
          refine z_iload_1 (pc := 74) dX9_cask_74 ?_
          refine z_V1 (pc := 75) dX9_cask_75 mlX9_213 kX9_isOff vX9_isOff (by decide) (by decide) (by first | rfl | assumption) (Nat.le_of_ble_eq_true rfl) (qX9_isOff i rfl hi) ⟨Nat.le_refl _, Nat.le_refl _⟩ (fun r h1 hq => ?_)
          obtain ⟨rfl, rfl⟩ := hq
          refine z_if_eq (pc := 78) (tgt := 85) dX9_cask_78 (by decide) (fun c78 => ?_) (fun c78 => ?_)
          · skip
            refine z_iconst (pc := 85) (0) dX9_cask_85 rfl ?_
            refine z_ret (pc := 86) (r := some (.int _)) rfl dX9_cask_86 trivial rfl rfl ?_
            refine zPM_of (Prod.ext ?_ rfl)
            show mCask _ _ _ = _
            unfold mCask
            rw [if_pos hqq, hcl, if_neg c31, if_neg (by decide), if_pos (by decide)]
            rw [(zbb0 _).mp c78]
            rfl
          · skip
            refine z_iconst (pc := 81) (1) dX9_cask_81 rfl ?_
            refine z_goto (pc := 82) (tgt := 86) dX9_cask_82 (by decide) ?_
            refine z_ret (pc := 86) (r := some (.int _)) rfl dX9_cask_86 trivial rfl rfl ?_
            refine zPM_of (Prod.ext ?_ rfl)
            show mCask _ _ _ = _
            unfold mCask
            rw [if_pos hqq, hcl, if_neg c31, if_neg (by decide), if_pos (by decide)]
            rw [(zbb1 _).mp c78]
            rfl
      · skip
        refine z_ldc (pc := 34) dX9_cask_34 kcX9_231 ?_
        refine z_ret (pc := 36) (r := some (.int _)) rfl dX9_cask_36 trivial rfl rfl ?_
        refine zPM_of (Prod.ext ?_ rfl)
        show mCask _ _ _ = _
        unfold mCask
        rw [if_pos hqq, hcl, if_pos c31]
    · skip
      refine z_ldc (pc := 19) dX9_cask_19 kcX9_70 ?_
      refine z_ret (pc := 21) (r := some (.int _)) rfl dX9_cask_21 trivial rfl rfl ?_
      refine zPM_of (Prod.ext ?_ rfl)
      show mCask _ _ _ = _
      unfold mCask
      rw [in_zlt (m := 5) (by decide)] at c16
      rw [if_neg (fun q => by rw [(zbb0 _).mp c16] at q; exact absurd q.2 (by decide))]
theorem zcase8 (w : Int32) : w = nI 0 ∨ w = nI 1 ∨ w = nI 2 ∨ w = nI 3 ∨ w = nI 4 ∨ w = nI 5 ∨ w = nI 6 ∨ w = nI 7 ∨ ¬ zlt w 8 = true := by
  by_cases hw : zlt w 8 = true
  · obtain ⟨j, hj, rfl⟩ := zlt_nI (by decide) hw
    match j, hj with
    | 0, _ => exact Or.inl rfl
    | 1, _ => exact Or.inr (Or.inl rfl)
    | 2, _ => exact Or.inr (Or.inr (Or.inl rfl))
    | 3, _ => exact Or.inr (Or.inr (Or.inr (Or.inl rfl)))
    | 4, _ => exact Or.inr (Or.inr (Or.inr (Or.inr (Or.inl rfl))))
    | 5, _ => exact Or.inr (Or.inr (Or.inr (Or.inr (Or.inr (Or.inl rfl)))))
    | 6, _ => exact Or.inr (Or.inr (Or.inr (Or.inr (Or.inr (Or.inr (Or.inl rfl))))))
    | 7, _ => exact Or.inr (Or.inr (Or.inr (Or.inr (Or.inr (Or.inr (Or.inr (Or.inl rfl)))))))
  · exact Or.inr (Or.inr (Or.inr (Or.inr (Or.inr (Or.inr (Or.inr (Or.inr hw)))))))
def zrwM (I : Nat → Nat → Int32) : Nat → Int32
  | 0 => 0
  | k + 1 => zrwM I k + (if I 87 k < 0 then 0 else 1)
def mCount (I : Nat → Nat → Int32) (w : Int32) : Int32 := if w = 0 then zrwM I 8 else if w = 1 then I 90 3 else if w = 2 then I 90 4 else if w = 3 then 0 + I 90 44 + I 90 45 + I 90 46 + I 90 47 else if w = 4 then I 90 5 else if w = 5 then 0 + zbc (I 90 60) + zbc (I 90 61) + zbc (I 90 62) + zbc (I 90 63) + zbc (I 90 64) + zbc (I 90 65) else if w = 6 then I 85 9 else if w = 7 then I 85 5 else -1000001
set_option maxRecDepth 100000 in
set_option maxHeartbeats 4000000 in
theorem mcnt_loop {l : zL} {I : Nat → Nat → Int32} {J : Nat → Nat → Int64} {nw : Bool} {w : Int32} {Q : Option Value → zH → Prop} (hQ : ∀ v : Value, v.category = 1 → zW l mX9_count SH.length (zsl SH) 33 [.ref 85, .int w, .int (zrwM I 8), v, zno] [] (I, J, RF nw, SH) Q) : ∀ (f k : Nat), k ≤ 8 → 8 - k < f →
    zW l mX9_count SH.length (zsl SH) 4 [.ref 85, .int w, .int (zrwM I k), .int (nI k), zno] [] (I, J, RF nw, SH) Q
  | 0, k, _, hf => by omega
  | f + 1, k, hk, hf => by
    refine z_iload_3 (pc := 4) dX9_count_4 ?_
    refine z_bipush (pc := 5) (8) dX9_count_5 rfl ?_
    refine z_icmp_ge (pc := 7) (tgt := 33) dX9_count_7 (by decide) (fun c7 => ?_) (fun c7 => ?_)
    · skip
      have hkn : k = 8 := by
        rcases Nat.lt_or_ge k 8 with q | q
        · exact absurd c7 (nI_ge (b := 8) q (by omega))
        · omega
      rw [hkn]
      exact hQ _ rfl
    · skip
      have hlt : k < 8 := by
        rcases Nat.lt_or_ge k 8 with q | q
        · exact q
        · exact absurd (nI_le (a := 8) q (by omega)) c7
      refine z_iload_2 (pc := 10) dX9_count_10 ?_
      refine z_aload_0 (pc := 11) dX9_count_11 ?_
      refine y_getR (pc := 12) dX9_count_12 flX9_13 rfl (by first | rfl | assumption) (by first | rfl | assumption) ?_
      refine z_iload_3 (pc := 15) dX9_count_15 ?_
      refine y_ialdN (pc := 16) (k) dX9_count_16 (by first | rfl | assumption) (rfl) (by omega) (by first | decide | omega) ?_
      refine z_if_ge (pc := 17) (tgt := 24) dX9_count_17 (by decide) (fun c17 => ?_) (fun c17 => ?_)
      · skip
        refine z_iconst (pc := 24) (1) dX9_count_24 rfl ?_
        refine z_iadd (pc := 25) dX9_count_25 ?_
        refine z_istore_2 (pc := 26) dX9_count_26 (by decide) rfl ?_
        refine z_iinc_3 (pc := 27) (1) dX9_count_27 rfl (by decide) rfl ?_
        refine z_goto (pc := 30) (tgt := 4) dX9_count_30 (by decide) ?_
        rw [← nI_succ]
        have kk := mcnt_loop hQ f (k + 1) (by omega) (by omega)
        rw [zrwM, if_neg (Int32.not_lt.mpr c17)] at kk
        exact kk
      · skip
        refine z_iconst (pc := 20) (0) dX9_count_20 rfl ?_
        refine z_goto (pc := 21) (tgt := 25) dX9_count_21 (by decide) ?_
        refine z_iadd (pc := 25) dX9_count_25 ?_
        refine z_istore_2 (pc := 26) dX9_count_26 (by decide) rfl ?_
        refine z_iinc_3 (pc := 27) (1) dX9_count_27 rfl (by decide) rfl ?_
        refine z_goto (pc := 30) (tgt := 4) dX9_count_30 (by decide) ?_
        rw [← nI_succ]
        have kk := mcnt_loop hQ f (k + 1) (by omega) (by omega)
        rw [zrwM, if_pos (Int32.not_le.mp c17)] at kk
        exact kk
set_option maxRecDepth 100000 in
set_option maxHeartbeats 4000000 in
theorem qX9_count {l : zL} {I : Nat → Nat → Int32} {J : Nat → Nat → Int64} {nw : Bool} (z : Nat → Nat) (hz : ∀ k, k < 6 → z k < 1024 ∧ I 90 (60 + k) = nI (z k)) {w : Int32} : zP l mX9_count [.ref 85, .int w] (hh I J nw) (zPM (mCount I w, I) J nw) := by
  refine z_start [.ref 85, .int w, zno, zno, zno] (by decide +kernel) (Nat.le_of_ble_eq_true rfl) rfl ?_
  refine z_iconst (pc := 0) (0) dX9_count_0 rfl ?_
  refine z_istore_2 (pc := 1) dX9_count_1 (by decide) rfl ?_
  refine z_iconst (pc := 2) (0) dX9_count_2 rfl ?_
  refine z_istore_3 (pc := 3) dX9_count_3 (by decide) rfl ?_
  have k33 : ∀ v : Value, v.category = 1 → zW l mX9_count SH.length (zsl SH) 33 [.ref 85, .int w, .int (zrwM I 8), v, zno] [] (I, J, RF nw, SH) (zPM (mCount I w, I) J nw) := by
    intro v hv
    refine z_iconst (pc := 33) (0) dX9_count_33 rfl ?_
    refine z_istore_3 (pc := 34) dX9_count_34 (by decide) rfl ?_
    refine z_iconst (pc := 35) (0) dX9_count_35 rfl ?_
    refine z_istore_4 (pc := 36) dX9_count_36 (by decide) rfl ?_
    refine z_iload_4 (pc := 38) dX9_count_38 ?_
    refine z_iconst (pc := 40) (4) dX9_count_40 rfl ?_
    refine z_icmp_ge (pc := 41) (tgt := 63) dX9_count_41 (by decide) (fun c41 => ?_) (fun c41 => ?_)
    · exact absurd c41 (by decide)
    · skip
      refine z_iload_3 (pc := 44) dX9_count_44 ?_
      refine z_aload_0 (pc := 45) dX9_count_45 ?_
      refine y_getR (pc := 46) dX9_count_46 flX9_22 rfl (by first | rfl | assumption) (by first | rfl | assumption) ?_
      refine z_bipush (pc := 49) (44) dX9_count_49 rfl ?_
      refine z_iload_4 (pc := 51) dX9_count_51 ?_
      refine z_iadd (pc := 53) dX9_count_53 ?_
      refine y_ialdN (pc := 54) (44) dX9_count_54 (by first | rfl | assumption) (rfl) (by decide) (by first | decide | omega) ?_
      refine z_iadd (pc := 55) dX9_count_55 ?_
      refine z_istore_3 (pc := 56) dX9_count_56 (by decide) rfl ?_
      refine z_iinc_4 (pc := 57) (1) dX9_count_57 rfl (by decide) rfl ?_
      refine z_goto (pc := 60) (tgt := 38) dX9_count_60 (by decide) ?_
      refine z_iload_4 (pc := 38) dX9_count_38 ?_
      refine z_iconst (pc := 40) (4) dX9_count_40 rfl ?_
      refine z_icmp_ge (pc := 41) (tgt := 63) dX9_count_41 (by decide) (fun c41_2 => ?_) (fun c41_2 => ?_)
      · exact absurd c41_2 (by decide)
      · skip
        refine z_iload_3 (pc := 44) dX9_count_44 ?_
        refine z_aload_0 (pc := 45) dX9_count_45 ?_
        refine y_getR (pc := 46) dX9_count_46 flX9_22 rfl (by first | rfl | assumption) (by first | rfl | assumption) ?_
        refine z_bipush (pc := 49) (44) dX9_count_49 rfl ?_
        refine z_iload_4 (pc := 51) dX9_count_51 ?_
        refine z_iadd (pc := 53) dX9_count_53 ?_
        refine y_ialdN (pc := 54) (45) dX9_count_54 (by first | rfl | assumption) (rfl) (by decide) (by first | decide | omega) ?_
        refine z_iadd (pc := 55) dX9_count_55 ?_
        refine z_istore_3 (pc := 56) dX9_count_56 (by decide) rfl ?_
        refine z_iinc_4 (pc := 57) (1) dX9_count_57 rfl (by decide) rfl ?_
        refine z_goto (pc := 60) (tgt := 38) dX9_count_60 (by decide) ?_
        refine z_iload_4 (pc := 38) dX9_count_38 ?_
        refine z_iconst (pc := 40) (4) dX9_count_40 rfl ?_
        refine z_icmp_ge (pc := 41) (tgt := 63) dX9_count_41 (by decide) (fun c41_3 => ?_) (fun c41_3 => ?_)
        · exact absurd c41_3 (by decide)
        · skip
          refine z_iload_3 (pc := 44) dX9_count_44 ?_
          refine z_aload_0 (pc := 45) dX9_count_45 ?_
          refine y_getR (pc := 46) dX9_count_46 flX9_22 rfl (by first | rfl | assumption) (by first | rfl | assumption) ?_
          refine z_bipush (pc := 49) (44) dX9_count_49 rfl ?_
          refine z_iload_4 (pc := 51) dX9_count_51 ?_
          refine z_iadd (pc := 53) dX9_count_53 ?_
          refine y_ialdN (pc := 54) (46) dX9_count_54 (by first | rfl | assumption) (rfl) (by decide) (by first | decide | omega) ?_
          refine z_iadd (pc := 55) dX9_count_55 ?_
          refine z_istore_3 (pc := 56) dX9_count_56 (by decide) rfl ?_
          refine z_iinc_4 (pc := 57) (1) dX9_count_57 rfl (by decide) rfl ?_
          refine z_goto (pc := 60) (tgt := 38) dX9_count_60 (by decide) ?_
          refine z_iload_4 (pc := 38) dX9_count_38 ?_
          refine z_iconst (pc := 40) (4) dX9_count_40 rfl ?_
          refine z_icmp_ge (pc := 41) (tgt := 63) dX9_count_41 (by decide) (fun c41_4 => ?_) (fun c41_4 => ?_)
          · exact absurd c41_4 (by decide)
          · skip
            refine z_iload_3 (pc := 44) dX9_count_44 ?_
            refine z_aload_0 (pc := 45) dX9_count_45 ?_
            refine y_getR (pc := 46) dX9_count_46 flX9_22 rfl (by first | rfl | assumption) (by first | rfl | assumption) ?_
            refine z_bipush (pc := 49) (44) dX9_count_49 rfl ?_
            refine z_iload_4 (pc := 51) dX9_count_51 ?_
            refine z_iadd (pc := 53) dX9_count_53 ?_
            refine y_ialdN (pc := 54) (47) dX9_count_54 (by first | rfl | assumption) (rfl) (by decide) (by first | decide | omega) ?_
            refine z_iadd (pc := 55) dX9_count_55 ?_
            refine z_istore_3 (pc := 56) dX9_count_56 (by decide) rfl ?_
            refine z_iinc_4 (pc := 57) (1) dX9_count_57 rfl (by decide) rfl ?_
            refine z_goto (pc := 60) (tgt := 38) dX9_count_60 (by decide) ?_
            refine z_iload_4 (pc := 38) dX9_count_38 ?_
            refine z_iconst (pc := 40) (4) dX9_count_40 rfl ?_
            refine z_icmp_ge (pc := 41) (tgt := 63) dX9_count_41 (by decide) (fun c41_5 => ?_) (fun c41_5 => ?_)
            · skip
              refine z_iload_1 (pc := 63) dX9_count_63 ?_
              rcases zcase8 w with rfl | rfl | rfl | rfl | rfl | rfl | rfl | rfl | hw
              · skip
                refine z_tableIn (pc := 64) (tgt := 112) dX9_count_64 (by decide) (by decide) rfl (by decide) ?_
                refine z_iload_2 (pc := 112) dX9_count_112 ?_
                refine z_ret (pc := 113) (r := some (.int _)) rfl dX9_count_113 trivial rfl rfl ?_
                exact zPM_of rfl
              · skip
                refine z_tableIn (pc := 64) (tgt := 114) dX9_count_64 (by decide) (by decide) rfl (by decide) ?_
                refine z_aload_0 (pc := 114) dX9_count_114 ?_
                refine y_getR (pc := 115) dX9_count_115 flX9_22 rfl (by first | rfl | assumption) (by first | rfl | assumption) ?_
                refine z_iconst (pc := 118) (3) dX9_count_118 rfl ?_
                refine y_ialdN (pc := 119) (3) dX9_count_119 (by first | rfl | assumption) (rfl) (by decide) (by first | decide | omega) ?_
                refine z_ret (pc := 120) (r := some (.int _)) rfl dX9_count_120 trivial rfl rfl ?_
                exact zPM_of rfl
              · skip
                refine z_tableIn (pc := 64) (tgt := 121) dX9_count_64 (by decide) (by decide) rfl (by decide) ?_
                refine z_aload_0 (pc := 121) dX9_count_121 ?_
                refine y_getR (pc := 122) dX9_count_122 flX9_22 rfl (by first | rfl | assumption) (by first | rfl | assumption) ?_
                refine z_iconst (pc := 125) (4) dX9_count_125 rfl ?_
                refine y_ialdN (pc := 126) (4) dX9_count_126 (by first | rfl | assumption) (rfl) (by decide) (by first | decide | omega) ?_
                refine z_ret (pc := 127) (r := some (.int _)) rfl dX9_count_127 trivial rfl rfl ?_
                exact zPM_of rfl
              · skip
                refine z_tableIn (pc := 64) (tgt := 128) dX9_count_64 (by decide) (by decide) rfl (by decide) ?_
                refine z_iload_3 (pc := 128) dX9_count_128 ?_
                refine z_ret (pc := 129) (r := some (.int _)) rfl dX9_count_129 trivial rfl rfl ?_
                exact zPM_of rfl
              · skip
                refine z_tableIn (pc := 64) (tgt := 130) dX9_count_64 (by decide) (by decide) rfl (by decide) ?_
                refine z_aload_0 (pc := 130) dX9_count_130 ?_
                refine y_getR (pc := 131) dX9_count_131 flX9_22 rfl (by first | rfl | assumption) (by first | rfl | assumption) ?_
                refine z_iconst (pc := 134) (5) dX9_count_134 rfl ?_
                refine y_ialdN (pc := 135) (5) dX9_count_135 (by first | rfl | assumption) (rfl) (by decide) (by first | decide | omega) ?_
                refine z_ret (pc := 136) (r := some (.int _)) rfl dX9_count_136 trivial rfl rfl ?_
                exact zPM_of rfl
              · skip
                refine z_tableIn (pc := 64) (tgt := 137) dX9_count_64 (by decide) (by decide) rfl (by decide) ?_
                refine z_aload_0 (pc := 137) dX9_count_137 ?_
                refine y_getR (pc := 138) dX9_count_138 flX9_22 rfl (by first | rfl | assumption) (by first | rfl | assumption) ?_
                refine z_S1 (pc := 141) dX9_count_141 mlX9_268 kX9_notesOf vX9_notesOf (by decide) (by decide) (Nat.le_of_ble_eq_true rfl) (qX9_notesOf 90 rfl z hz) ⟨Nat.le_refl _, Nat.le_refl _⟩ (fun r h1 hq => ?_)
                obtain ⟨rfl, rfl⟩ := hq
                refine z_ret (pc := 144) (r := some (.int _)) rfl dX9_count_144 trivial rfl rfl ?_
                exact zPM_of rfl
              · skip
                refine z_tableIn (pc := 64) (tgt := 145) dX9_count_64 (by decide) (by decide) rfl (by decide) ?_
                refine z_aload_0 (pc := 145) dX9_count_145 ?_
                refine y_getI (pc := 146) dX9_count_146 flX9_147 rfl (by first | rfl | assumption) ?_
                refine z_ret (pc := 149) (r := some (.int _)) rfl dX9_count_149 trivial rfl rfl ?_
                exact zPM_of rfl
              · skip
                refine z_tableIn (pc := 64) (tgt := 150) dX9_count_64 (by decide) (by decide) rfl (by decide) ?_
                refine z_aload_0 (pc := 150) dX9_count_150 ?_
                refine y_getI (pc := 151) dX9_count_151 flX9_80 rfl (by first | rfl | assumption) ?_
                refine z_ret (pc := 154) (r := some (.int _)) rfl dX9_count_154 trivial rfl rfl ?_
                exact zPM_of rfl
              · skip
                refine z_tableOut (pc := 64) (tgt := 155) dX9_count_64 ?_ (by decide) ?_
                · unfold zlt at hw
                  rw [decide_eq_true_eq] at hw
                  omega
                refine z_ldc (pc := 155) dX9_count_155 kcX9_70 ?_
                refine z_ret (pc := 157) (r := some (.int _)) rfl dX9_count_157 trivial rfl rfl ?_
                refine zPM_of (Prod.ext ?_ rfl)
                show mCount _ _ = _
                unfold mCount
                have hne : ∀ j, j < 8 → ¬ w = nI j := fun j hj q => hw (by rw [q]; exact zlt_of hj (by decide))
                rw [if_neg (show ¬ w = 0 from hne 0 (by decide)), if_neg (show ¬ w = 1 from hne 1 (by decide)), if_neg (show ¬ w = 2 from hne 2 (by decide)), if_neg (show ¬ w = 3 from hne 3 (by decide)), if_neg (show ¬ w = 4 from hne 4 (by decide)), if_neg (show ¬ w = 5 from hne 5 (by decide)), if_neg (show ¬ w = 6 from hne 6 (by decide)), if_neg (show ¬ w = 7 from hne 7 (by decide))]
            · exact absurd (by decide) c41_5
  exact mcnt_loop k33 9 0 (by omega) (by omega)
