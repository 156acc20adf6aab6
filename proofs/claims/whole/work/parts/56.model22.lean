theorem zRT_map {I I2 : Nat → Nat → Int32} {K K2 n T : Nat} {A B : Nat → Nat} (h : zRT I K n T A B) (hk : ∀ b, b < 44 → I2 K2 b = I K b) : zRT I2 K2 n T A B := by
  obtain ⟨h1, h2, h3, h4, h5, h6, h7⟩ := h
  refine ⟨h1, by rw [hk 3 (by omega)]; exact h2, h3, by rw [hk 4 (by omega)]; exact h4, fun k q => ?_, fun k q => ?_, fun d q => ?_⟩
  · rw [hk (24 + k) (by omega)]; exact h5 k q
  · rw [hk (34 + k) (by omega)]; exact h6 k q
  · rw [hk (6 + d) (by omega)]; exact h7 d q
/-- the copy of the town in which two casks are blended -/
def mBl2 (I : Nat → Nat → Int32) (i j : Nat) : Nat → Nat → Int32 := zBl (zcpy I 90 99 0 0 66) 99 i j
theorem mBl2_low (I : Nat → Nat → Int32) (i j : Nat) : ∀ b, b < 44 → mBl2 I i j 99 b = I 90 b := by
  intro b hb
  unfold mBl2 zBl
  rw [zup_no (Or.inr (by omega)), zup_no (Or.inr (by omega)), zup_no (Or.inr (by omega)), zup_no (Or.inr (by omega)), zup_no (Or.inr (by omega))]
  unfold zcpy va_cpy
  simp
  omega
theorem mBl2_ne (I : Nat → Nat → Int32) (i j : Nat) : ∀ a, a ≠ 99 → mBl2 I i j a = I a := by
  intro a ha
  funext b
  unfold mBl2 zBl
  rw [zup_no (Or.inl ha), zup_no (Or.inl ha), zup_no (Or.inl ha), zup_no (Or.inl ha), zup_no (Or.inl ha)]
  unfold zcpy
  rw [if_neg ha]
def zgK (I : Nat → Nat → Int32) (K n T : Nat) (A B : Nat → Nat) (i : Nat) (sm : Nat → Bool) : (Nat → Int32) × (Nat → Bool) := zgo (zmT I K n T A B (fun _ => false) (I K (48 + i))) sm (zst (I K 0) (I K 1) (I K (52 + i)) (I K (56 + i)))
def mBlended (I : Nat → Nat → Int32) (n T : Nat) (A B : Nat → Nat) (x y z : Int32) : Int32 := if (zlt x 4 = true ∧ zlt y 4 = true ∧ ¬ x = y) ∧ zlt z n = true then (if I 90 (44 + x.toNatClampNeg) = 0 ∨ I 90 (44 + y.toNatClampNeg) = 0 then -1000002 else zbc (nI (bs (zgK (mBl2 I x.toNatClampNeg y.toNatClampNeg) 99 n T A B y.toNatClampNeg (fun e => e == z.toNatClampNeg)).2))) else -1000001
set_option maxRecDepth 100000 in
set_option maxHeartbeats 4000000 in
theorem qX9_blended {l : zL} {I : Nat → Nat → Int32} {J : Nat → Nat → Int64} {nw : Bool} (n T : Nat) (A B : Nat → Nat) (ht : zRT I 90 n T A B) (hs : ∀ i j, i < 4 → j < 4 → -1000 < zst (mBl2 I i j 99 0) (mBl2 I i j 99 1) (mBl2 I i j 99 (52 + j)) (mBl2 I i j 99 (56 + j))) {x y z : Int32} : zP l mX9_blended [.ref 85, .int x, .int y, .int z] (hh I J nw) (zPMe (mBlended I n T A B x y z, I) J nw) := by
  have hn6 := ht.1
  refine z_start [.ref 85, .int x, .int y, .int z] (by decide +kernel) (Nat.le_of_ble_eq_true rfl) rfl ?_
  refine z_iload_1 (pc := 0) dX9_blended_0 ?_
  refine z_iload_2 (pc := 1) dX9_blended_1 ?_
  refine z_S2 (pc := 2) dX9_blended_2 mlX9_222 kX9_areCasks vX9_areCasks (by decide) (by decide) (Nat.le_of_ble_eq_true rfl) (qX9_areCasks) ⟨Nat.le_refl _, Nat.le_refl _⟩ (fun r h1 hq => ?_)
  obtain ⟨rfl, rfl⟩ := hq
  refine z_if_eq (pc := 5) (tgt := 16) dX9_blended_5 (by decide) (fun c5 => ?_) (fun c5 => ?_)
  · skip
    refine z_ldc (pc := 16) dX9_blended_16 kcX9_70 ?_
    refine z_ret (pc := 18) (r := some (.int _)) rfl dX9_blended_18 trivial rfl rfl ?_
    refine zPMe_of (Prod.ext ?_ rfl)
    show mBlended _ _ _ _ _ _ _ _ = _
    unfold mBlended
    rw [if_neg (fun q => of_decide_eq_false ((zbb0 _).mp c5) q.1)]
  · skip
    refine z_aload_0 (pc := 8) dX9_blended_8 ?_
    refine z_iload_3 (pc := 9) dX9_blended_9 ?_
    refine z_V1 (pc := 10) dX9_blended_10 mlX9_199 kX9_isDrinker vX9_isDrinker (by decide) (by decide) (by first | rfl | assumption) (Nat.le_of_ble_eq_true rfl) (qX9_isDrinker n hn6 ht.2.1) ⟨Nat.le_refl _, Nat.le_refl _⟩ (fun r h1 hq => ?_)
    obtain ⟨rfl, rfl⟩ := hq
    refine z_if_ne (pc := 13) (tgt := 19) dX9_blended_13 (by decide) (fun c13 => ?_) (fun c13 => ?_)
    · skip
      have hq := of_decide_eq_true ((zbb1 _).mp c5)
      obtain ⟨i, hi, rfl⟩ := zlt_nI (by decide) hq.1
      obtain ⟨j, hj, rfl⟩ := zlt_nI (by decide) hq.2.1
      obtain ⟨d, hd, rfl⟩ := zlt_nI (by omega) ((zbb1 _).mp c13)
      have hcl : (nI i).toNatClampNeg = i := nI_clamp (by omega)
      have hcl2 : (nI j).toNatClampNeg = j := nI_clamp (by omega)
      have hcl3 : (nI d).toNatClampNeg = d := nI_clamp (by omega)
      have hqq : (zlt (nI i) 4 = true ∧ zlt (nI j) 4 = true ∧ ¬ nI i = nI j) ∧ zlt (nI d) n = true := ⟨hq, zlt_of hd (by omega)⟩
      refine z_aload_0 (pc := 19) dX9_blended_19 ?_
      refine y_getR (pc := 20) dX9_blended_20 flX9_22 rfl (by first | rfl | assumption) (by first | rfl | assumption) ?_
      refine z_bipush (pc := 23) (44) dX9_blended_23 rfl ?_
      refine z_iload_1 (pc := 25) dX9_blended_25 ?_
      refine z_iadd (pc := 26) dX9_blended_26 ?_
      refine y_ialdN (pc := 27) (44 + i) dX9_blended_27 (by first | rfl | assumption) (nI_add 44 i) (by omega) (by first | decide | omega) ?_
      refine z_if_eq (pc := 28) (tgt := 43) dX9_blended_28 (by decide) (fun c28 => ?_) (fun c28 => ?_)
      · skip
        refine z_ldc (pc := 43) dX9_blended_43 kcX9_198 ?_
        refine z_ret (pc := 45) (r := some (.int _)) rfl dX9_blended_45 trivial rfl rfl ?_
        refine zPMe_of (Prod.ext ?_ rfl)
        show mBlended _ _ _ _ _ _ _ _ = _
        unfold mBlended
        rw [if_pos hqq, hcl, hcl2, if_pos (Or.inl c28)]
      · skip
        refine z_aload_0 (pc := 31) dX9_blended_31 ?_
        refine y_getR (pc := 32) dX9_blended_32 flX9_22 rfl (by first | rfl | assumption) (by first | rfl | assumption) ?_
        refine z_bipush (pc := 35) (44) dX9_blended_35 rfl ?_
        refine z_iload_2 (pc := 37) dX9_blended_37 ?_
        refine z_iadd (pc := 38) dX9_blended_38 ?_
        refine y_ialdN (pc := 39) (44 + j) dX9_blended_39 (by first | rfl | assumption) (nI_add 44 j) (by omega) (by first | decide | omega) ?_
        refine z_if_ne (pc := 40) (tgt := 46) dX9_blended_40 (by decide) (fun c40 => ?_) (fun c40 => ?_)
        · skip
          refine z_aload_0 (pc := 46) dX9_blended_46 ?_
          refine y_getR (pc := 47) dX9_blended_47 flX9_22 rfl (by first | rfl | assumption) (by first | rfl | assumption) ?_
          refine z_iconst (pc := 50) (0) dX9_blended_50 rfl ?_
          refine z_aload_0 (pc := 51) dX9_blended_51 ?_
          refine y_getR (pc := 52) dX9_blended_52 flX9_50 rfl (by first | rfl | assumption) (by first | rfl | assumption) ?_
          refine z_iconst (pc := 55) (0) dX9_blended_55 rfl ?_
          refine z_S4 (pc := 56) dX9_blended_56 mlX9_150 kX9_copies vX9_copies (by decide) (by decide) (Nat.le_of_ble_eq_true rfl) (qX9_copies 90 99 66 66 0 0 rfl rfl (by decide) (by omega) (by omega) (by decide) rfl rfl) ⟨Nat.le_refl _, Nat.le_refl _⟩ (fun r h1 hq => ?_)
          obtain ⟨rfl, rfl⟩ := hq
          refine z_aload_0 (pc := 59) dX9_blended_59 ?_
          refine y_getR (pc := 60) dX9_blended_60 flX9_50 rfl (by first | rfl | assumption) (by first | rfl | assumption) ?_
          refine z_iload_1 (pc := 63) dX9_blended_63 ?_
          refine z_iload_2 (pc := 64) dX9_blended_64 ?_
          refine z_S3 (pc := 65) dX9_blended_65 mlX9_225 kX9_blends vX9_blends (by decide) (by decide) (Nat.le_of_ble_eq_true rfl) (qX9_blends 99 rfl i rfl hi j rfl hj) ⟨Nat.le_refl _, Nat.le_refl _⟩ (fun r h1 hq => ?_)
          obtain ⟨rfl, rfl⟩ := hq
          rw [show zBl (zcpy I 90 99 0 0 66) 99 i j = mBl2 I i j from rfl]
          refine z_aload_0 (pc := 68) dX9_blended_68 ?_
          refine z_aload_0 (pc := 69) dX9_blended_69 ?_
          refine y_getR (pc := 70) dX9_blended_70 flX9_50 rfl (by first | rfl | assumption) (by first | rfl | assumption) ?_
          refine z_iload_2 (pc := 73) dX9_blended_73 ?_
          refine z_iconst (pc := 74) (1) dX9_blended_74 rfl ?_
          refine z_iload_3 (pc := 75) dX9_blended_75 ?_
          refine z_ishl (pc := 76) dX9_blended_76 ?_
          refine z_iconst (pc := 77) (0) dX9_blended_77 rfl ?_
          refine z_V4 (pc := 78) dX9_blended_78 mlX9_191 kX9_tellsCask vX9_tellsCask (by decide) (by decide) (by first | rfl | assumption) (Nat.le_of_ble_eq_true rfl) (qX9_tellsCask 99 rfl (by decide) n T A B (zRT_map ht (mBl2_low I i j)) (fun _ => false) no_bit (fun e => e == d) (one_bit d (by omega)) j rfl hj (hs i j hi hj)) ⟨Nat.le_refl _, Nat.le_refl _⟩ (fun r h1 hq => ?_)
          obtain ⟨rfl, I2, rfl, hO⟩ := hq
          refine z_aload_0 (pc := 81) dX9_blended_81 ?_
          refine y_getI (pc := 82) dX9_blended_82 flX9_168 rfl (by first | rfl | assumption) ?_
          refine z_S1 (pc := 85) dX9_blended_85 mlX9_239 kX9_bits vX9_bits (by decide) (by decide) (Nat.le_of_ble_eq_true rfl) (qX9_bits _ (Nat.lt_trans (bs_lt _) (by decide)) hO.2.2.1) ⟨Nat.le_refl _, Nat.le_refl _⟩ (fun r h1 hq => ?_)
          obtain ⟨rfl, rfl⟩ := hq
          refine z_ret (pc := 88) (r := some (.int _)) rfl dX9_blended_88 trivial rfl rfl ?_
          have eb : mBlended I n T A B (nI i) (nI j) (nI d) = zbc (I2 85 24) := by
            unfold mBlended
            rw [if_pos hqq, hcl, hcl2, hcl3, if_neg (fun q => q.elim c28 c40), hO.2.2.1]
            rfl
          rw [eb]
          refine ⟨rfl, I2, rfl, fun u v hn => ?_⟩
          rw [zTO_em hO u v hn, mBl2_ne I i j u (fun q => hn (by simp [q]))]
        · skip
          refine z_ldc (pc := 43) dX9_blended_43 kcX9_198 ?_
          refine z_ret (pc := 45) (r := some (.int _)) rfl dX9_blended_45 trivial rfl rfl ?_
          refine zPMe_of (Prod.ext ?_ rfl)
          show mBlended _ _ _ _ _ _ _ _ = _
          unfold mBlended
          rw [if_pos hqq, hcl, hcl2, if_pos (Or.inr c40)]
    · skip
      refine z_ldc (pc := 16) dX9_blended_16 kcX9_70 ?_
      refine z_ret (pc := 18) (r := some (.int _)) rfl dX9_blended_18 trivial rfl rfl ?_
      refine zPMe_of (Prod.ext ?_ rfl)
      show mBlended _ _ _ _ _ _ _ _ = _
      unfold mBlended
      rw [if_neg (fun q => by rw [(zbb0 _).mp c13] at q; exact absurd q.2 (by decide))]
