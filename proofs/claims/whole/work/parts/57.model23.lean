set_option maxRecDepth 100000 in
set_option maxHeartbeats 4000000 in
theorem qX9_isOf {l : zL} {I : Nat → Nat → Int32} {J : Nat → Nat → Int64} {nw : Bool} {x y : Int32} : zP l mX9_isOf [.int x, .int y] (hh I J nw) (zR (some (.int (zbb (zkof x y)))) (hh I J nw)) := by
  refine z_start [.int x, .int y] (by decide +kernel) (Nat.le_of_ble_eq_true rfl) rfl ?_
  refine z_iload_1 (pc := 0) dX9_isOf_0 ?_
  refine z_if_eq (pc := 1) (tgt := 34) dX9_isOf_1 (by decide) (fun c1 => ?_) (fun c1 => ?_)
  · skip
    refine z_iconst (pc := 34) (1) dX9_isOf_34 rfl ?_
    refine z_goto (pc := 35) (tgt := 39) dX9_isOf_35 (by decide) ?_
    refine z_ret (pc := 39) (r := some (.int _)) rfl dX9_isOf_39 (by first | exact Or.inl rfl | exact Or.inr rfl | assumption) rfl rfl ?_
    refine ⟨?_, rfl⟩
    first | (have c6b : ¬ y = x := fun q => c6 q.symm; simp_all [zbb, zkof]; done) | (simp [zbb, zkof, *]; done) | (subst c6; simp [zbb, zkof, *]; done)
  · skip
    refine z_iload_0 (pc := 4) dX9_isOf_4 ?_
    refine z_iload_1 (pc := 5) dX9_isOf_5 ?_
    refine z_icmp_eq (pc := 6) (tgt := 34) dX9_isOf_6 (by decide) (fun c6 => ?_) (fun c6 => ?_)
    · skip
      refine z_iconst (pc := 34) (1) dX9_isOf_34 rfl ?_
      refine z_goto (pc := 35) (tgt := 39) dX9_isOf_35 (by decide) ?_
      refine z_ret (pc := 39) (r := some (.int _)) rfl dX9_isOf_39 (by first | exact Or.inl rfl | exact Or.inr rfl | assumption) rfl rfl ?_
      refine ⟨?_, rfl⟩
      first | (have c6b : ¬ y = x := fun q => c6 q.symm; simp_all [zbb, zkof]; done) | (simp [zbb, zkof, *]; done) | (subst c6; simp [zbb, zkof, *]; done)
    · skip
      refine z_iload_1 (pc := 9) dX9_isOf_9 ?_
      refine z_iconst (pc := 10) (1) dX9_isOf_10 rfl ?_
      refine z_icmp_ne (pc := 11) (tgt := 24) dX9_isOf_11 (by decide) (fun c11 => ?_) (fun c11 => ?_)
      · skip
        refine z_iload_1 (pc := 24) dX9_isOf_24 ?_
        refine z_iconst (pc := 25) (4) dX9_isOf_25 rfl ?_
        refine z_icmp_ne (pc := 26) (tgt := 38) dX9_isOf_26 (by decide) (fun c26 => ?_) (fun c26 => ?_)
        · skip
          refine z_iconst (pc := 38) (0) dX9_isOf_38 rfl ?_
          refine z_ret (pc := 39) (r := some (.int _)) rfl dX9_isOf_39 (by first | exact Or.inl rfl | exact Or.inr rfl | assumption) rfl rfl ?_
          refine ⟨?_, rfl⟩
          first | (have c6b : ¬ y = x := fun q => c6 q.symm; simp_all [zbb, zkof]; done) | (simp [zbb, zkof, *]; done) | (subst c6; simp [zbb, zkof, *]; done)
        · skip
          refine z_iload_0 (pc := 29) dX9_isOf_29 ?_
          refine z_iconst (pc := 30) (5) dX9_isOf_30 rfl ?_
          refine z_icmp_ne (pc := 31) (tgt := 38) dX9_isOf_31 (by decide) (fun c31 => ?_) (fun c31 => ?_)
          · skip
            refine z_iconst (pc := 38) (0) dX9_isOf_38 rfl ?_
            refine z_ret (pc := 39) (r := some (.int _)) rfl dX9_isOf_39 (by first | exact Or.inl rfl | exact Or.inr rfl | assumption) rfl rfl ?_
            refine ⟨?_, rfl⟩
            first | (have c6b : ¬ y = x := fun q => c6 q.symm; simp_all [zbb, zkof]; done) | (simp [zbb, zkof, *]; done) | (subst c6; simp [zbb, zkof, *]; done)
          · skip
            refine z_iconst (pc := 34) (1) dX9_isOf_34 rfl ?_
            refine z_goto (pc := 35) (tgt := 39) dX9_isOf_35 (by decide) ?_
            refine z_ret (pc := 39) (r := some (.int _)) rfl dX9_isOf_39 (by first | exact Or.inl rfl | exact Or.inr rfl | assumption) rfl rfl ?_
            refine ⟨?_, rfl⟩
            first | (have c6b : ¬ y = x := fun q => c6 q.symm; simp_all [zbb, zkof]; done) | (simp [zbb, zkof, *]; done) | (subst c6; simp [zbb, zkof, *]; done)
      · skip
        refine z_iload_0 (pc := 14) dX9_isOf_14 ?_
        refine z_iconst (pc := 15) (2) dX9_isOf_15 rfl ?_
        refine z_icmp_eq (pc := 16) (tgt := 34) dX9_isOf_16 (by decide) (fun c16 => ?_) (fun c16 => ?_)
        · skip
          refine z_iconst (pc := 34) (1) dX9_isOf_34 rfl ?_
          refine z_goto (pc := 35) (tgt := 39) dX9_isOf_35 (by decide) ?_
          refine z_ret (pc := 39) (r := some (.int _)) rfl dX9_isOf_39 (by first | exact Or.inl rfl | exact Or.inr rfl | assumption) rfl rfl ?_
          refine ⟨?_, rfl⟩
          first | (have c6b : ¬ y = x := fun q => c6 q.symm; simp_all [zbb, zkof]; done) | (simp [zbb, zkof, *]; done) | (subst c6; simp [zbb, zkof, *]; done)
        · skip
          refine z_iload_0 (pc := 19) dX9_isOf_19 ?_
          refine z_iconst (pc := 20) (3) dX9_isOf_20 rfl ?_
          refine z_icmp_eq (pc := 21) (tgt := 34) dX9_isOf_21 (by decide) (fun c21 => ?_) (fun c21 => ?_)
          · skip
            refine z_iconst (pc := 34) (1) dX9_isOf_34 rfl ?_
            refine z_goto (pc := 35) (tgt := 39) dX9_isOf_35 (by decide) ?_
            refine z_ret (pc := 39) (r := some (.int _)) rfl dX9_isOf_39 (by first | exact Or.inl rfl | exact Or.inr rfl | assumption) rfl rfl ?_
            refine ⟨?_, rfl⟩
            first | (have c6b : ¬ y = x := fun q => c6 q.symm; simp_all [zbb, zkof]; done) | (simp [zbb, zkof, *]; done) | (subst c6; simp [zbb, zkof, *]; done)
          · skip
            refine z_iload_1 (pc := 24) dX9_isOf_24 ?_
            refine z_iconst (pc := 25) (4) dX9_isOf_25 rfl ?_
            refine z_icmp_ne (pc := 26) (tgt := 38) dX9_isOf_26 (by decide) (fun c26 => ?_) (fun c26 => ?_)
            · skip
              refine z_iconst (pc := 38) (0) dX9_isOf_38 rfl ?_
              refine z_ret (pc := 39) (r := some (.int _)) rfl dX9_isOf_39 (by first | exact Or.inl rfl | exact Or.inr rfl | assumption) rfl rfl ?_
              refine ⟨?_, rfl⟩
              first | (have c6b : ¬ y = x := fun q => c6 q.symm; simp_all [zbb, zkof]; done) | (simp [zbb, zkof, *]; done) | (subst c6; simp [zbb, zkof, *]; done)
            · skip
              refine z_iload_0 (pc := 29) dX9_isOf_29 ?_
              refine z_iconst (pc := 30) (5) dX9_isOf_30 rfl ?_
              refine z_icmp_ne (pc := 31) (tgt := 38) dX9_isOf_31 (by decide) (fun c31 => ?_) (fun c31 => ?_)
              · skip
                refine z_iconst (pc := 38) (0) dX9_isOf_38 rfl ?_
                refine z_ret (pc := 39) (r := some (.int _)) rfl dX9_isOf_39 (by first | exact Or.inl rfl | exact Or.inr rfl | assumption) rfl rfl ?_
                refine ⟨?_, rfl⟩
                first | (have c6b : ¬ y = x := fun q => c6 q.symm; simp_all [zbb, zkof]; done) | (simp [zbb, zkof, *]; done) | (subst c6; simp [zbb, zkof, *]; done)
              · skip
                refine z_iconst (pc := 34) (1) dX9_isOf_34 rfl ?_
                refine z_goto (pc := 35) (tgt := 39) dX9_isOf_35 (by decide) ?_
                refine z_ret (pc := 39) (r := some (.int _)) rfl dX9_isOf_39 (by first | exact Or.inl rfl | exact Or.inr rfl | assumption) rfl rfl ?_
                refine ⟨?_, rfl⟩
                first | (have c6b : ¬ y = x := fun q => c6 q.symm; simp_all [zbb, zkof]; done) | (simp [zbb, zkof, *]; done) | (subst c6; simp [zbb, zkof, *]; done)
def mAs (I : Nat → Nat → Int32) (n : Nat) (x k : Int32) : Int32 × (Nat → Nat → Int32) := if zlt x n = true ∧ zlt k 6 = true then (if zkof (I 90 (6 + x.toNatClampNeg)) k = true then (x, zup I 85 3 0) else (-1000013, zup I 85 3 3)) else (-1000001, I)
set_option maxRecDepth 100000 in
set_option maxHeartbeats 4000000 in
theorem qX9_as {l : zL} {I : Nat → Nat → Int32} {J : Nat → Nat → Int64} {nw : Bool} (n : Nat) (hn : n ≤ 6) (en : I 90 3 = nI n) {x k : Int32} : zP l mX9_as [.ref 85, .int x, .int k] (hh I J nw) (zPM (mAs I n x k) J nw) := by
  refine z_start [.ref 85, .int x, .int k] (by decide +kernel) (Nat.le_of_ble_eq_true rfl) rfl ?_
  refine z_aload_0 (pc := 0) dX9_as_0 ?_
  refine z_iload_1 (pc := 1) dX9_as_1 ?_
  refine z_V1 (pc := 2) dX9_as_2 mlX9_199 kX9_isDrinker vX9_isDrinker (by decide) (by decide) (by first | rfl | assumption) (Nat.le_of_ble_eq_true rfl) (qX9_isDrinker n hn en) ⟨Nat.le_refl _, Nat.le_refl _⟩ (fun r h1 hq => ?_)
  obtain ⟨rfl, rfl⟩ := hq
  refine z_if_eq (pc := 5) (tgt := 20) dX9_as_5 (by decide) (fun c5 => ?_) (fun c5 => ?_)
  · skip
    refine z_ldc (pc := 20) dX9_as_20 kcX9_70 ?_
    refine z_ret (pc := 22) (r := some (.int _)) rfl dX9_as_22 trivial rfl rfl ?_
    refine zPM_of ?_
    unfold mAs
    rw [if_neg (fun q => by rw [(zbb0 _).mp c5] at q; exact absurd q.1 (by decide))]
  · skip
    refine z_iload_2 (pc := 8) dX9_as_8 ?_
    refine z_i2l (pc := 9) dX9_as_9 ?_
    refine z_lconst (pc := 10) 0 dX9_as_10 rfl ?_
    refine z_ldc2 (pc := 11) dX9_as_11 kcX9_272 ?_
    refine z_S3 (pc := 14) dX9_as_14 mlX9_60 kX9_in vX9_in (by decide) (by decide) (Nat.le_of_ble_eq_true rfl) (qX9_in) ⟨Nat.le_refl _, Nat.le_refl _⟩ (fun r h1 hq => ?_)
    obtain ⟨rfl, rfl⟩ := hq
    refine z_if_ne (pc := 17) (tgt := 23) dX9_as_17 (by decide) (fun c17 => ?_) (fun c17 => ?_)
    · skip
      rw [in_zlt (m := 6) (by decide)] at c17
      have hq2 := (zbb1 _).mp c17
      obtain ⟨i, hi, rfl⟩ := zlt_nI (by omega) ((zbb1 _).mp c5)
      have hcl : (nI i).toNatClampNeg = i := nI_clamp (by omega)
      refine z_aload_0 (pc := 23) dX9_as_23 ?_
      refine y_getR (pc := 24) dX9_as_24 flX9_22 rfl (by first | rfl | assumption) (by first | rfl | assumption) ?_
      refine z_bipush (pc := 27) (6) dX9_as_27 rfl ?_
      refine z_iload_1 (pc := 29) dX9_as_29 ?_
      refine z_iadd (pc := 30) dX9_as_30 ?_
      refine y_ialdN (pc := 31) (6 + i) dX9_as_31 (by first | rfl | assumption) (nI_add 6 i) (by omega) (by first | decide | omega) ?_
      refine z_iload_2 (pc := 32) dX9_as_32 ?_
      refine z_S2 (pc := 33) dX9_as_33 mlX9_274 kX9_isOf vX9_isOf (by decide) (by decide) (Nat.le_of_ble_eq_true rfl) (qX9_isOf) ⟨Nat.le_refl _, Nat.le_refl _⟩ (fun r h1 hq => ?_)
      obtain ⟨rfl, rfl⟩ := hq
      refine z_if_eq (pc := 36) (tgt := 47) dX9_as_36 (by decide) (fun c36 => ?_) (fun c36 => ?_)
      · skip
        refine z_aload_0 (pc := 47) dX9_as_47 ?_
        refine z_iconst (pc := 48) (3) dX9_as_48 rfl ?_
        refine z_V1 (pc := 49) dX9_as_49 mlX9_71 kX9_found vX9_found (by decide) (by decide) (by first | rfl | assumption) (Nat.le_of_ble_eq_true rfl) (qX9_found) ⟨Nat.le_refl _, Nat.le_refl _⟩ (fun r h1 hq => ?_)
        obtain ⟨rfl, rfl⟩ := hq
        refine z_ret (pc := 52) (r := some (.int _)) rfl dX9_as_52 trivial rfl rfl ?_
        refine zPM_of ?_
        unfold mAs
        rw [if_pos ⟨zlt_of hi (by omega), hq2⟩, hcl, if_neg (by rw [(zbb0 _).mp c36]; decide)]
        rfl
      · skip
        refine z_aload_0 (pc := 39) dX9_as_39 ?_
        refine z_iload_1 (pc := 40) dX9_as_40 ?_
        refine z_V1 (pc := 41) dX9_as_41 mlX9_75 kX9_well vX9_well (by decide) (by decide) (by first | rfl | assumption) (Nat.le_of_ble_eq_true rfl) (qX9_well) ⟨Nat.le_refl _, Nat.le_refl _⟩ (fun r h1 hq => ?_)
        obtain ⟨rfl, rfl⟩ := hq
        refine z_goto (pc := 44) (tgt := 52) dX9_as_44 (by decide) ?_
        refine z_ret (pc := 52) (r := some (.int _)) rfl dX9_as_52 trivial rfl rfl ?_
        refine zPM_of ?_
        unfold mAs
        rw [if_pos ⟨zlt_of hi (by omega), hq2⟩, hcl, if_pos ((zbb1 _).mp c36)]
    · skip
      refine z_ldc (pc := 20) dX9_as_20 kcX9_70 ?_
      refine z_ret (pc := 22) (r := some (.int _)) rfl dX9_as_22 trivial rfl rfl ?_
      refine zPM_of ?_
      unfold mAs
      rw [in_zlt (m := 6) (by decide)] at c17
      rw [if_neg (fun q => by rw [(zbb0 _).mp c17] at q; exact absurd q.2 (by decide))]
def zclr (f : Nat → Int32) (i k : Nat) : Nat → Int32 := fun b => if 40 * i ≤ b ∧ b < 40 * i + k then 0 else f b
theorem zclr_0 (f : Nat → Int32) (i : Nat) : zclr f i 0 = f := by
  funext b; unfold zclr; rw [if_neg (by omega)]
theorem zclr_up (f : Nat → Int32) (i k : Nat) : upd (zclr f i k) (40 * i + k) 0 = zclr f i (k + 1) := by
  funext b
  unfold upd zclr
  by_cases h : b = 40 * i + k
  · rw [if_pos h, if_pos (by omega)]
  · rw [if_neg h]
    by_cases h2 : 40 * i ≤ b ∧ b < 40 * i + k
    · rw [if_pos h2, if_pos (by omega)]
    · rw [if_neg h2, if_neg (by omega)]
def mRow (I : Nat → Nat → Int32) (x y n : Int32) : Int32 × (Nat → Nat → Int32) := if zlt x 8 = true ∧ zlt y 3 = true ∧ n ≤ 40 then (if n < 0 then (-1000014, zup I 85 3 4) else (n, zup (zrow (zup (zup I 86 x.toNatClampNeg y) 87 x.toNatClampNeg n) 88 (zclr (I 88) x.toNatClampNeg 40)) 85 3 0)) else (-1000001, I)
set_option maxRecDepth 100000 in
set_option maxHeartbeats 4000000 in
theorem mrow_loop {l : zL} {I : Nat → Nat → Int32} {J : Nat → Nat → Int64} {nw : Bool} (i : Nat) (hi : i < 8) {y n : Int32} {Q : Option Value → zH → Prop} (hQ : ∀ v : Value, v.category = 1 → zW l mX9_row SH.length (zsl SH) 81 [.ref 85, .int (nI i), .int y, .int n, v] [] (zrow I 88 (zclr (I 88) i 40), J, RF nw, SH) Q) : ∀ (f k : Nat), k ≤ 40 → 40 - k < f →
    zW l mX9_row SH.length (zsl SH) 55 [.ref 85, .int (nI i), .int y, .int n, .int (nI k)] [] (zrow I 88 (zclr (I 88) i k), J, RF nw, SH) Q
  | 0, k, _, hf => by omega
  | f + 1, k, hk, hf => by
    refine z_iload_4 (pc := 55) dX9_row_55 ?_
    refine z_bipush (pc := 57) (40) dX9_row_57 rfl ?_
    refine z_icmp_ge (pc := 59) (tgt := 81) dX9_row_59 (by decide) (fun c59 => ?_) (fun c59 => ?_)
    · skip
      have hkn : k = 40 := by
        rcases Nat.lt_or_ge k 40 with q | q
        · exact absurd c59 (nI_ge (b := 40) q (by omega))
        · omega
      subst hkn
      exact hQ _ rfl
    · skip
      have hlt : k < 40 := by
        rcases Nat.lt_or_ge k 40 with q | q
        · exact q
        · exact absurd (nI_le (a := 40) q (by omega)) c59
      refine z_aload_0 (pc := 62) dX9_row_62 ?_
      refine y_getR (pc := 63) dX9_row_63 flX9_16 rfl (by first | rfl | assumption) (by first | rfl | assumption) ?_
      refine z_bipush (pc := 66) (40) dX9_row_66 rfl ?_
      refine z_iload_1 (pc := 68) dX9_row_68 ?_
      refine z_imul (pc := 69) dX9_row_69 ?_
      refine z_iload_4 (pc := 70) dX9_row_70 ?_
      refine z_iadd (pc := 72) dX9_row_72 ?_
      refine z_iconst (pc := 73) (0) dX9_row_73 rfl ?_
      refine y_iastN (pc := 74) (40 * i + k) dX9_row_74 (by first | rfl | assumption) (nI_40 i k) (by omega) (by first | decide | omega) ?_
      refine z_iinc_4 (pc := 75) (1) dX9_row_75 rfl (by decide) rfl ?_
      refine z_goto (pc := 78) (tgt := 55) dX9_row_78 (by decide) ?_
      rw [zrow_up, zclr_up, ← nI_succ]
      exact mrow_loop i hi hQ f (k + 1) (by omega) (by omega)
set_option maxRecDepth 100000 in
set_option maxHeartbeats 4000000 in
theorem qX9_row {l : zL} {I : Nat → Nat → Int32} {J : Nat → Nat → Int64} {nw : Bool} {x y n : Int32} : zP l mX9_row [.ref 85, .int x, .int y, .int n] (hh I J nw) (zPM (mRow I x y n) J nw) := by
  refine z_start [.ref 85, .int x, .int y, .int n, zno] (by decide +kernel) (Nat.le_of_ble_eq_true rfl) rfl ?_
  refine z_iload_1 (pc := 0) dX9_row_0 ?_
  refine z_S1 (pc := 1) dX9_row_1 mlX9_64 kX9_isRow vX9_isRow (by decide) (by decide) (Nat.le_of_ble_eq_true rfl) (qX9_isRow) ⟨Nat.le_refl _, Nat.le_refl _⟩ (fun r h1 hq => ?_)
  obtain ⟨rfl, rfl⟩ := hq
  refine z_if_eq (pc := 4) (tgt := 25) dX9_row_4 (by decide) (fun c4 => ?_) (fun c4 => ?_)
  · skip
    refine z_ldc (pc := 25) dX9_row_25 kcX9_70 ?_
    refine z_ret (pc := 27) (r := some (.int _)) rfl dX9_row_27 trivial rfl rfl ?_
    refine zPM_of ?_
    unfold mRow
    rw [if_neg (fun q => by rw [(zbb0 _).mp c4] at q; exact absurd q.1 (by decide))]
  · skip
    refine z_iload_2 (pc := 7) dX9_row_7 ?_
    refine z_i2l (pc := 8) dX9_row_8 ?_
    refine z_lconst (pc := 9) 0 dX9_row_9 rfl ?_
    refine z_ldc2 (pc := 10) dX9_row_10 kcX9_68 ?_
    refine z_S3 (pc := 13) dX9_row_13 mlX9_60 kX9_in vX9_in (by decide) (by decide) (Nat.le_of_ble_eq_true rfl) (qX9_in) ⟨Nat.le_refl _, Nat.le_refl _⟩ (fun r h1 hq => ?_)
    obtain ⟨rfl, rfl⟩ := hq
    refine z_if_eq (pc := 16) (tgt := 25) dX9_row_16 (by decide) (fun c16 => ?_) (fun c16 => ?_)
    · skip
      refine z_ldc (pc := 25) dX9_row_25 kcX9_70 ?_
      refine z_ret (pc := 27) (r := some (.int _)) rfl dX9_row_27 trivial rfl rfl ?_
      refine zPM_of ?_
      unfold mRow
      rw [in_zlt (m := 3) (by decide)] at c16
      rw [if_neg (fun q => by rw [(zbb0 _).mp c16] at q; exact absurd q.2.1 (by decide))]
    · skip
      refine z_iload_3 (pc := 19) dX9_row_19 ?_
      refine z_bipush (pc := 20) (40) dX9_row_20 rfl ?_
      refine z_icmp_le (pc := 22) (tgt := 28) dX9_row_22 (by decide) (fun c22 => ?_) (fun c22 => ?_)
      · skip
        obtain ⟨i, hi, rfl⟩ := zlt_nI (by decide) ((zbb1 _).mp c4)
        have hcl : (nI i).toNatClampNeg = i := nI_clamp (by omega)
        rw [in_zlt (m := 3) (by decide)] at c16
        have hy := (zbb1 _).mp c16
        have hqq : zlt (nI i) 8 = true ∧ zlt y 3 = true ∧ n ≤ 40 := ⟨zlt_of hi (by decide), hy, c22⟩
        refine z_iload_3 (pc := 28) dX9_row_28 ?_
        refine z_if_ge (pc := 29) (tgt := 38) dX9_row_29 (by decide) (fun c29 => ?_) (fun c29 => ?_)
        · skip
          refine z_aload_0 (pc := 38) dX9_row_38 ?_
          refine y_getR (pc := 39) dX9_row_39 flX9_7 rfl (by first | rfl | assumption) (by first | rfl | assumption) ?_
          refine z_iload_1 (pc := 42) dX9_row_42 ?_
          refine z_iload_2 (pc := 43) dX9_row_43 ?_
          refine y_iastN (pc := 44) (i) dX9_row_44 (by first | rfl | assumption) (rfl) (by omega) (by first | decide | omega) ?_
          refine z_aload_0 (pc := 45) dX9_row_45 ?_
          refine y_getR (pc := 46) dX9_row_46 flX9_13 rfl (by first | rfl | assumption) (by first | rfl | assumption) ?_
          refine z_iload_1 (pc := 49) dX9_row_49 ?_
          refine z_iload_3 (pc := 50) dX9_row_50 ?_
          refine y_iastN (pc := 51) (i) dX9_row_51 (by first | rfl | assumption) (rfl) (by omega) (by first | decide | omega) ?_
          refine z_iconst (pc := 52) (0) dX9_row_52 rfl ?_
          refine z_istore_4 (pc := 53) dX9_row_53 (by decide) rfl ?_
          have k81 : ∀ v : Value, v.category = 1 → zW l mX9_row SH.length (zsl SH) 81 [.ref 85, .int (nI i), .int y, .int n, v] [] (zrow (zup (zup I 86 i y) 87 i n) 88 (zclr (I 88) i 40), J, RF nw, SH) (zPM (mRow I (nI i) y n) J nw) := by
            intro v hv
            refine z_aload_0 (pc := 81) dX9_row_81 ?_
            refine z_iload_3 (pc := 82) dX9_row_82 ?_
            refine z_V1 (pc := 83) dX9_row_83 mlX9_75 kX9_well vX9_well (by decide) (by decide) (by first | rfl | assumption) (Nat.le_of_ble_eq_true rfl) (qX9_well) ⟨Nat.le_refl _, Nat.le_refl _⟩ (fun r h1 hq => ?_)
            obtain ⟨rfl, rfl⟩ := hq
            refine z_ret (pc := 86) (r := some (.int _)) rfl dX9_row_86 trivial rfl rfl ?_
            refine zPM_of ?_
            unfold mRow
            rw [if_pos hqq, if_neg (Int32.not_lt.mpr c29), hcl]
          have k := mrow_loop (l := l) (I := zup (zup I 86 i y) 87 i n) (J := J) (nw := nw) i hi k81 41 0 (by omega) (by omega)
          rw [zclr_0, zrow_self] at k
          exact k
        · skip
          refine z_aload_0 (pc := 32) dX9_row_32 ?_
          refine z_iconst (pc := 33) (4) dX9_row_33 rfl ?_
          refine z_V1 (pc := 34) dX9_row_34 mlX9_71 kX9_found vX9_found (by decide) (by decide) (by first | rfl | assumption) (Nat.le_of_ble_eq_true rfl) (qX9_found) ⟨Nat.le_refl _, Nat.le_refl _⟩ (fun r h1 hq => ?_)
          obtain ⟨rfl, rfl⟩ := hq
          refine z_ret (pc := 37) (r := some (.int _)) rfl dX9_row_37 trivial rfl rfl ?_
          refine zPM_of ?_
          unfold mRow
          rw [if_pos hqq, if_pos (Int32.not_le.mp c29)]
          rfl
      · skip
        refine z_ldc (pc := 25) dX9_row_25 kcX9_70 ?_
        refine z_ret (pc := 27) (r := some (.int _)) rfl dX9_row_27 trivial rfl rfl ?_
        refine zPM_of ?_
        unfold mRow
        rw [if_neg (fun q => c22 q.2.2)]
def mImg (I : Nat → Nat → Int32) (x : Int32) : Int32 × (Nat → Nat → Int32) := if zlt x 2 = true then (if I 85 7 = 0 then (-1000002, I) else (1, zup (zcpy I 90 92 0 (66 * x.toNatClampNeg) 66) 93 x.toNatClampNeg 1)) else (-1000001, I)
def mRes (I : Nat → Nat → Int32) (x : Int32) : Int32 × (Nat → Nat → Int32) := if zlt x 2 = true then (if I 93 x.toNatClampNeg = 0 then (-1000002, I) else (1, zup (zcpy I 92 90 (66 * x.toNatClampNeg) 0 66) 85 9 0)) else (-1000001, I)
set_option maxRecDepth 100000 in
set_option maxHeartbeats 4000000 in
theorem qX9_image {l : zL} {I : Nat → Nat → Int32} {J : Nat → Nat → Int64} {nw : Bool} {x : Int32} : zP l mX9_image [.ref 85, .int x] (hh I J nw) (zPM (mImg I x) J nw) := by
  refine z_start [.ref 85, .int x] (by decide +kernel) (Nat.le_of_ble_eq_true rfl) rfl ?_
  refine z_iload_1 (pc := 0) dX9_image_0 ?_
  refine z_S1 (pc := 1) dX9_image_1 mlX9_242 kX9_isTwo vX9_isTwo (by decide) (by decide) (Nat.le_of_ble_eq_true rfl) (qX9_isTwo) ⟨Nat.le_refl _, Nat.le_refl _⟩ (fun r h1 hq => ?_)
  obtain ⟨rfl, rfl⟩ := hq
  refine z_if_ne (pc := 4) (tgt := 10) dX9_image_4 (by decide) (fun c4 => ?_) (fun c4 => ?_)
  · skip
    obtain ⟨i, hi, rfl⟩ := zlt_nI (by decide) ((zbb1 _).mp c4)
    have hcl : (nI i).toNatClampNeg = i := nI_clamp (by omega)
    refine z_aload_0 (pc := 10) dX9_image_10 ?_
    refine y_getI (pc := 11) dX9_image_11 flX9_143 rfl (by first | rfl | assumption) ?_
    refine z_if_ne (pc := 14) (tgt := 20) dX9_image_14 (by decide) (fun c14 => ?_) (fun c14 => ?_)
    · skip
      refine z_aload_0 (pc := 20) dX9_image_20 ?_
      refine y_getR (pc := 21) dX9_image_21 flX9_22 rfl (by first | rfl | assumption) (by first | rfl | assumption) ?_
      refine z_iconst (pc := 24) (0) dX9_image_24 rfl ?_
      refine z_aload_0 (pc := 25) dX9_image_25 ?_
      refine y_getR (pc := 26) dX9_image_26 flX9_28 rfl (by first | rfl | assumption) (by first | rfl | assumption) ?_
      refine z_bipush (pc := 29) (66) dX9_image_29 rfl ?_
      refine z_iload_1 (pc := 31) dX9_image_31 ?_
      refine z_imul (pc := 32) dX9_image_32 ?_
      refine z_S4 (pc := 33) dX9_image_33 mlX9_150 kX9_copies vX9_copies (by decide) (by decide) (Nat.le_of_ble_eq_true rfl) (qX9_copies 90 92 66 132 0 (66 * i) rfl rfl (by decide) (by omega) (by omega) (by decide) rfl (mul66 i (by omega))) ⟨Nat.le_refl _, Nat.le_refl _⟩ (fun r h1 hq => ?_)
      obtain ⟨rfl, rfl⟩ := hq
      refine z_aload_0 (pc := 36) dX9_image_36 ?_
      refine y_getR (pc := 37) dX9_image_37 flX9_31 rfl (by first | rfl | assumption) (by first | rfl | assumption) ?_
      refine z_iload_1 (pc := 40) dX9_image_40 ?_
      refine z_iconst (pc := 41) (1) dX9_image_41 rfl ?_
      refine y_bastN (pc := 42) i dX9_image_42 rfl rfl hi (by decide) (by decide) ?_
      refine z_iconst (pc := 43) (1) dX9_image_43 rfl ?_
      refine z_ret (pc := 44) (r := some (.int _)) rfl dX9_image_44 trivial rfl rfl ?_
      refine zPM_of ?_
      unfold mImg
      rw [if_pos (zlt_of hi (by decide)), hcl, if_neg c14]
    · skip
      refine z_ldc (pc := 17) dX9_image_17 kcX9_198 ?_
      refine z_ret (pc := 19) (r := some (.int _)) rfl dX9_image_19 trivial rfl rfl ?_
      refine zPM_of ?_
      unfold mImg
      rw [if_pos (zlt_of hi (by decide)), if_pos c14]
  · skip
    refine z_ldc (pc := 7) dX9_image_7 kcX9_70 ?_
    refine z_ret (pc := 9) (r := some (.int _)) rfl dX9_image_9 trivial rfl rfl ?_
    refine zPM_of ?_
    unfold mImg
    rw [if_neg (by rw [(zbb0 _).mp c4]; decide)]
set_option maxRecDepth 100000 in
set_option maxHeartbeats 4000000 in
theorem qX9_restore {l : zL} {I : Nat → Nat → Int32} {J : Nat → Nat → Int64} {nw : Bool} {x : Int32} : zP l mX9_restore [.ref 85, .int x] (hh I J nw) (zPM (mRes I x) J nw) := by
  refine z_start [.ref 85, .int x] (by decide +kernel) (Nat.le_of_ble_eq_true rfl) rfl ?_
  refine z_iload_1 (pc := 0) dX9_restore_0 ?_
  refine z_S1 (pc := 1) dX9_restore_1 mlX9_242 kX9_isTwo vX9_isTwo (by decide) (by decide) (Nat.le_of_ble_eq_true rfl) (qX9_isTwo) ⟨Nat.le_refl _, Nat.le_refl _⟩ (fun r h1 hq => ?_)
  obtain ⟨rfl, rfl⟩ := hq
  refine z_if_ne (pc := 4) (tgt := 10) dX9_restore_4 (by decide) (fun c4 => ?_) (fun c4 => ?_)
  · skip
    obtain ⟨i, hi, rfl⟩ := zlt_nI (by decide) ((zbb1 _).mp c4)
    have hcl : (nI i).toNatClampNeg = i := nI_clamp (by omega)
    refine z_aload_0 (pc := 10) dX9_restore_10 ?_
    refine y_getR (pc := 11) dX9_restore_11 flX9_31 rfl (by first | rfl | assumption) (by first | rfl | assumption) ?_
    refine z_iload_1 (pc := 14) dX9_restore_14 ?_
    refine y_baldN (pc := 15) i dX9_restore_15 rfl rfl hi (by decide) ?_
    refine z_if_ne (pc := 16) (tgt := 22) dX9_restore_16 (by decide) (fun c16 => ?_) (fun c16 => ?_)
    · skip
      refine z_aload_0 (pc := 22) dX9_restore_22 ?_
      refine y_getR (pc := 23) dX9_restore_23 flX9_28 rfl (by first | rfl | assumption) (by first | rfl | assumption) ?_
      refine z_bipush (pc := 26) (66) dX9_restore_26 rfl ?_
      refine z_iload_1 (pc := 28) dX9_restore_28 ?_
      refine z_imul (pc := 29) dX9_restore_29 ?_
      refine z_aload_0 (pc := 30) dX9_restore_30 ?_
      refine y_getR (pc := 31) dX9_restore_31 flX9_22 rfl (by first | rfl | assumption) (by first | rfl | assumption) ?_
      refine z_iconst (pc := 34) (0) dX9_restore_34 rfl ?_
      refine z_S4 (pc := 35) dX9_restore_35 mlX9_150 kX9_copies vX9_copies (by decide) (by decide) (Nat.le_of_ble_eq_true rfl) (qX9_copies 92 90 132 66 (66 * i) 0 rfl rfl (by decide) (by omega) (by omega) (by decide) (mul66 i (by omega)) rfl) ⟨Nat.le_refl _, Nat.le_refl _⟩ (fun r h1 hq => ?_)
      obtain ⟨rfl, rfl⟩ := hq
      refine z_aload_0 (pc := 38) dX9_restore_38 ?_
      refine z_iconst (pc := 39) (0) dX9_restore_39 rfl ?_
      refine y_putI (pc := 40) dX9_restore_40 flX9_147 ffX9_147 rfl (by first | rfl | assumption) ⟨rfl, rfl⟩ ?_
      refine z_iconst (pc := 43) (1) dX9_restore_43 rfl ?_
      refine z_ret (pc := 44) (r := some (.int _)) rfl dX9_restore_44 trivial rfl rfl ?_
      refine zPM_of ?_
      unfold mRes
      rw [if_pos (zlt_of hi (by decide)), hcl, if_neg c16]
    · skip
      refine z_ldc (pc := 19) dX9_restore_19 kcX9_198 ?_
      refine z_ret (pc := 21) (r := some (.int _)) rfl dX9_restore_21 trivial rfl rfl ?_
      refine zPM_of ?_
      unfold mRes
      rw [if_pos (zlt_of hi (by decide)), hcl, if_pos c16]
  · skip
    refine z_ldc (pc := 7) dX9_restore_7 kcX9_70 ?_
    refine z_ret (pc := 9) (r := some (.int _)) rfl dX9_restore_9 trivial rfl rfl ?_
    refine zPM_of ?_
    unfold mRes
    rw [if_neg (by rw [(zbb0 _).mp c4]; decide)]
