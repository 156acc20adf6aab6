theorem nm40 : ∀ n, n ≤ 40 → ((nI n - 1).toInt64).toInt = (n : Int) - 1 := by decide +kernel
theorem nI_40 (i j : Nat) : 40 * nI i + nI j = nI (40 * i + j) := by
  rw [show (40 : Int32) * nI i = nI (40 * i) from pk_mul 40 i]; exact nI_add _ _
def mSet (I : Nat → Nat → Int32) (x a v : Int32) : Int32 × (Nat → Nat → Int32) := if zlt x 8 = true then (if I 87 x.toNatClampNeg < 0 then (-1000011, zup I 85 3 1) else if zlt a (I 87 x.toNatClampNeg).toNatClampNeg = true then (zcut (I 86 x.toNatClampNeg) v, zup (zup I 88 (40 * x.toNatClampNeg + a.toNatClampNeg) (zcut (I 86 x.toNatClampNeg) v)) 85 3 0) else (-1000012, zup I 85 3 2)) else (-1000001, I)
set_option maxRecDepth 100000 in
set_option maxHeartbeats 4000000 in
theorem qX9_set {l : zL} {I : Nat → Nat → Int32} {J : Nat → Nat → Int64} {nw : Bool} (hR : ∀ r, r < 8 → I 87 r = -1 ∨ ∃ q, q ≤ 40 ∧ I 87 r = nI q) {x a v : Int32} : zP l mX9_set [.ref 85, .int x, .int a, .int v] (hh I J nw) (zPM (mSet I x a v) J nw) := by
  refine z_start [.ref 85, .int x, .int a, .int v] (by decide +kernel) (Nat.le_of_ble_eq_true rfl) rfl ?_
  refine z_iload_1 (pc := 0) dX9_set_0 ?_
  refine z_S1 (pc := 1) dX9_set_1 mlX9_64 kX9_isRow vX9_isRow (by decide) (by decide) (Nat.le_of_ble_eq_true rfl) (qX9_isRow) ⟨Nat.le_refl _, Nat.le_refl _⟩ (fun r h1 hq => ?_)
  obtain ⟨rfl, rfl⟩ := hq
  refine z_if_ne (pc := 4) (tgt := 10) dX9_set_4 (by decide) (fun c4 => ?_) (fun c4 => ?_)
  · skip
    obtain ⟨i, hi, rfl⟩ := zlt_nI (by decide) ((zbb1 _).mp c4)
    have hcl : (nI i).toNatClampNeg = i := nI_clamp (by omega)
    refine z_aload_0 (pc := 10) dX9_set_10 ?_
    refine y_getR (pc := 11) dX9_set_11 flX9_13 rfl (by first | rfl | assumption) (by first | rfl | assumption) ?_
    refine z_iload_1 (pc := 14) dX9_set_14 ?_
    refine y_ialdN (pc := 15) (i) dX9_set_15 (by first | rfl | assumption) (rfl) (by omega) (by first | decide | omega) ?_
    refine z_if_ge (pc := 16) (tgt := 25) dX9_set_16 (by decide) (fun c16 => ?_) (fun c16 => ?_)
    · skip
      obtain ⟨q, hq40, eq⟩ : ∃ q, q ≤ 40 ∧ I 87 i = nI q := by
        rcases hR i hi with z | z
        · rw [z] at c16; exact absurd c16 (by decide)
        · exact z
      have hql : (nI q).toNatClampNeg = q := nI_clamp (by omega)
      have ein : (decide ((0 : Int64) ≤ a.toInt64) && decide (a.toInt64 ≤ (I 87 i - 1).toInt64)) = zlt a q := in_zlt (m := q) (by rw [eq]; exact nm40 q hq40)
      refine z_iload_2 (pc := 25) dX9_set_25 ?_
      refine z_i2l (pc := 26) dX9_set_26 ?_
      refine z_lconst (pc := 27) 0 dX9_set_27 rfl ?_
      refine z_aload_0 (pc := 28) dX9_set_28 ?_
      refine y_getR (pc := 29) dX9_set_29 flX9_13 rfl (by first | rfl | assumption) (by first | rfl | assumption) ?_
      refine z_iload_1 (pc := 32) dX9_set_32 ?_
      refine y_ialdN (pc := 33) (i) dX9_set_33 (by first | rfl | assumption) (rfl) (by omega) (by first | decide | omega) ?_
      refine z_iconst (pc := 34) (1) dX9_set_34 rfl ?_
      refine z_isub (pc := 35) dX9_set_35 ?_
      refine z_i2l (pc := 36) dX9_set_36 ?_
      refine z_S3 (pc := 37) dX9_set_37 mlX9_60 kX9_in vX9_in (by decide) (by decide) (Nat.le_of_ble_eq_true rfl) (qX9_in) ⟨Nat.le_refl _, Nat.le_refl _⟩ (fun r h1 hq => ?_)
      obtain ⟨rfl, rfl⟩ := hq
      refine z_if_ne (pc := 40) (tgt := 49) dX9_set_40 (by decide) (fun c40 => ?_) (fun c40 => ?_)
      · skip
        rw [ein] at c40
        obtain ⟨j, hj, rfl⟩ := zlt_nI (by omega) ((zbb1 _).mp c40)
        have hcl2 : (nI j).toNatClampNeg = j := nI_clamp (by omega)
        refine z_aload_0 (pc := 49) dX9_set_49 ?_
        refine y_getR (pc := 50) dX9_set_50 flX9_16 rfl (by first | rfl | assumption) (by first | rfl | assumption) ?_
        refine z_bipush (pc := 53) (40) dX9_set_53 rfl ?_
        refine z_iload_1 (pc := 55) dX9_set_55 ?_
        refine z_imul (pc := 56) dX9_set_56 ?_
        refine z_iload_2 (pc := 57) dX9_set_57 ?_
        refine z_iadd (pc := 58) dX9_set_58 ?_
        refine z_aload_0 (pc := 59) dX9_set_59 ?_
        refine y_getR (pc := 60) dX9_set_60 flX9_7 rfl (by first | rfl | assumption) (by first | rfl | assumption) ?_
        refine z_iload_1 (pc := 63) dX9_set_63 ?_
        refine y_ialdN (pc := 64) (i) dX9_set_64 (by first | rfl | assumption) (rfl) (by omega) (by first | decide | omega) ?_
        refine z_if_ne (pc := 65) (tgt := 73) dX9_set_65 (by decide) (fun c65 => ?_) (fun c65 => ?_)
        · skip
          refine z_aload_0 (pc := 73) dX9_set_73 ?_
          refine y_getR (pc := 74) dX9_set_74 flX9_7 rfl (by first | rfl | assumption) (by first | rfl | assumption) ?_
          refine z_iload_1 (pc := 77) dX9_set_77 ?_
          refine y_ialdN (pc := 78) (i) dX9_set_78 (by first | rfl | assumption) (rfl) (by omega) (by first | decide | omega) ?_
          refine z_iconst (pc := 79) (1) dX9_set_79 rfl ?_
          refine z_icmp_ne (pc := 80) (tgt := 88) dX9_set_80 (by decide) (fun c80 => ?_) (fun c80 => ?_)
          · skip
            refine z_iload_3 (pc := 88) dX9_set_88 ?_
            refine y_iastN (pc := 89) (40 * i + j) dX9_set_89 (by first | rfl | assumption) (nI_40 i j) (by omega) (by first | decide | omega) ?_
            refine z_aload_0 (pc := 90) dX9_set_90 ?_
            refine z_aload_0 (pc := 91) dX9_set_91 ?_
            refine y_getR (pc := 92) dX9_set_92 flX9_16 rfl (by first | rfl | assumption) (by first | rfl | assumption) ?_
            refine z_bipush (pc := 95) (40) dX9_set_95 rfl ?_
            refine z_iload_1 (pc := 97) dX9_set_97 ?_
            refine z_imul (pc := 98) dX9_set_98 ?_
            refine z_iload_2 (pc := 99) dX9_set_99 ?_
            refine z_iadd (pc := 100) dX9_set_100 ?_
            refine y_ialdN (pc := 101) (40 * i + j) dX9_set_101 (by first | rfl | assumption) (nI_40 i j) (by omega) (by first | decide | omega) ?_
            refine z_V1 (pc := 102) dX9_set_102 mlX9_75 kX9_well vX9_well (by decide) (by decide) (by first | rfl | assumption) (Nat.le_of_ble_eq_true rfl) (qX9_well) ⟨Nat.le_refl _, Nat.le_refl _⟩ (fun r h1 hq => ?_)
            obtain ⟨rfl, rfl⟩ := hq
            refine z_ret (pc := 105) (r := some (.int _)) rfl dX9_set_105 trivial rfl rfl ?_
            refine zPM_of ?_
            unfold mSet
            rw [if_pos (zlt_of hi (by decide)), hcl, if_neg (Int32.not_lt.mpr c16), eq, hql, if_pos (zlt_of hj (by omega)), hcl2]
            unfold zcut
            rw [if_neg c65, if_neg c80, zup_on]
          · skip
            refine z_iload_3 (pc := 83) dX9_set_83 ?_
            refine z_i2s (pc := 84) dX9_set_84 ?_
            refine z_goto (pc := 85) (tgt := 89) dX9_set_85 (by decide) ?_
            refine y_iastN (pc := 89) (40 * i + j) dX9_set_89 (by first | rfl | assumption) (nI_40 i j) (by omega) (by first | decide | omega) ?_
            refine z_aload_0 (pc := 90) dX9_set_90 ?_
            refine z_aload_0 (pc := 91) dX9_set_91 ?_
            refine y_getR (pc := 92) dX9_set_92 flX9_16 rfl (by first | rfl | assumption) (by first | rfl | assumption) ?_
            refine z_bipush (pc := 95) (40) dX9_set_95 rfl ?_
            refine z_iload_1 (pc := 97) dX9_set_97 ?_
            refine z_imul (pc := 98) dX9_set_98 ?_
            refine z_iload_2 (pc := 99) dX9_set_99 ?_
            refine z_iadd (pc := 100) dX9_set_100 ?_
            refine y_ialdN (pc := 101) (40 * i + j) dX9_set_101 (by first | rfl | assumption) (nI_40 i j) (by omega) (by first | decide | omega) ?_
            refine z_V1 (pc := 102) dX9_set_102 mlX9_75 kX9_well vX9_well (by decide) (by decide) (by first | rfl | assumption) (Nat.le_of_ble_eq_true rfl) (qX9_well) ⟨Nat.le_refl _, Nat.le_refl _⟩ (fun r h1 hq => ?_)
            obtain ⟨rfl, rfl⟩ := hq
            refine z_ret (pc := 105) (r := some (.int _)) rfl dX9_set_105 trivial rfl rfl ?_
            refine zPM_of ?_
            unfold mSet
            rw [if_pos (zlt_of hi (by decide)), hcl, if_neg (Int32.not_lt.mpr c16), eq, hql, if_pos (zlt_of hj (by omega)), hcl2]
            unfold zcut
            rw [if_neg c65, if_pos c80, zup_on]
        · skip
          refine z_iload_3 (pc := 68) dX9_set_68 ?_
          refine z_i2b (pc := 69) dX9_set_69 ?_
          refine z_goto (pc := 70) (tgt := 89) dX9_set_70 (by decide) ?_
          refine y_iastN (pc := 89) (40 * i + j) dX9_set_89 (by first | rfl | assumption) (nI_40 i j) (by omega) (by first | decide | omega) ?_
          refine z_aload_0 (pc := 90) dX9_set_90 ?_
          refine z_aload_0 (pc := 91) dX9_set_91 ?_
          refine y_getR (pc := 92) dX9_set_92 flX9_16 rfl (by first | rfl | assumption) (by first | rfl | assumption) ?_
          refine z_bipush (pc := 95) (40) dX9_set_95 rfl ?_
          refine z_iload_1 (pc := 97) dX9_set_97 ?_
          refine z_imul (pc := 98) dX9_set_98 ?_
          refine z_iload_2 (pc := 99) dX9_set_99 ?_
          refine z_iadd (pc := 100) dX9_set_100 ?_
          refine y_ialdN (pc := 101) (40 * i + j) dX9_set_101 (by first | rfl | assumption) (nI_40 i j) (by omega) (by first | decide | omega) ?_
          refine z_V1 (pc := 102) dX9_set_102 mlX9_75 kX9_well vX9_well (by decide) (by decide) (by first | rfl | assumption) (Nat.le_of_ble_eq_true rfl) (qX9_well) ⟨Nat.le_refl _, Nat.le_refl _⟩ (fun r h1 hq => ?_)
          obtain ⟨rfl, rfl⟩ := hq
          refine z_ret (pc := 105) (r := some (.int _)) rfl dX9_set_105 trivial rfl rfl ?_
          refine zPM_of ?_
          unfold mSet
          rw [if_pos (zlt_of hi (by decide)), hcl, if_neg (Int32.not_lt.mpr c16), eq, hql, if_pos (zlt_of hj (by omega)), hcl2]
          unfold zcut
          rw [if_pos c65, zup_on]
      · skip
        refine z_aload_0 (pc := 43) dX9_set_43 ?_
        refine z_iconst (pc := 44) (2) dX9_set_44 rfl ?_
        refine z_V1 (pc := 45) dX9_set_45 mlX9_71 kX9_found vX9_found (by decide) (by decide) (by first | rfl | assumption) (Nat.le_of_ble_eq_true rfl) (qX9_found) ⟨Nat.le_refl _, Nat.le_refl _⟩ (fun r h1 hq => ?_)
        obtain ⟨rfl, rfl⟩ := hq
        refine z_ret (pc := 48) (r := some (.int _)) rfl dX9_set_48 trivial rfl rfl ?_
        refine zPM_of ?_
        unfold mSet
        rw [ein] at c40
        rw [if_pos (zlt_of hi (by decide)), hcl, if_neg (Int32.not_lt.mpr c16), eq, hql, if_neg (by rw [(zbb0 _).mp c40]; decide)]
        rfl
    · skip
      refine z_aload_0 (pc := 19) dX9_set_19 ?_
      refine z_iconst (pc := 20) (1) dX9_set_20 rfl ?_
      refine z_V1 (pc := 21) dX9_set_21 mlX9_71 kX9_found vX9_found (by decide) (by decide) (by first | rfl | assumption) (Nat.le_of_ble_eq_true rfl) (qX9_found) ⟨Nat.le_refl _, Nat.le_refl _⟩ (fun r h1 hq => ?_)
      obtain ⟨rfl, rfl⟩ := hq
      refine z_ret (pc := 24) (r := some (.int _)) rfl dX9_set_24 trivial rfl rfl ?_
      refine zPM_of ?_
      unfold mSet
      rw [if_pos (zlt_of hi (by decide)), hcl, if_pos (Int32.not_le.mp c16)]
      rfl
  · skip
    refine z_ldc (pc := 7) dX9_set_7 kcX9_70 ?_
    refine z_ret (pc := 9) (r := some (.int _)) rfl dX9_set_9 trivial rfl rfl ?_
    refine zPM_of ?_
    unfold mSet
    rw [if_neg (by rw [(zbb0 _).mp c4]; decide)]
