def mdys (I : Nat → Nat → Int32) (c : Nat) : Nat → (Nat → Nat → Int32)
  | 0 => I
  | k + 1 => zDg (zrem (mdys I c k) (min 24 (c + k))) 90
theorem zrem_9 (I : Nat → Nat → Int32) {c : Nat} (hc : c ≤ 24) : zrem I c 85 9 = nI (min 24 (c + 1)) := by
  unfold zrem
  by_cases h : c = 24
  · rw [if_pos h, zup_on, h]; rfl
  · rw [if_neg h, zup_on, show min 24 (c + 1) = c + 1 by omega]
theorem zDg_ne (I : Nat → Nat → Int32) {K a : Nat} (h : a ≠ K) : zDg I K a = I a := by funext b; unfold zDg; rw [if_neg h]
theorem mdys_9 {I : Nat → Nat → Int32} {c : Nat} (hl : c ≤ 24) (hc : I 85 9 = nI c) : ∀ k, mdys I c k 85 9 = nI (min 24 (c + k))
  | 0 => by rw [mdys, hc, show min 24 (c + 0) = c by omega]
  | k + 1 => by rw [mdys, zDg_ne _ (by decide), zrem_9 _ (by omega), show min 24 (min 24 (c + k) + 1) = min 24 (c + (k + 1)) by omega]
def moff (I : Nat → Nat → Int32) : Nat → Int32
  | 0 => 0
  | k + 1 => moff I k ||| (if I 90 (44 + k) = 1 ∧ ¬ I 90 (56 + k) ≤ I 90 1 then (1 : Int32) <<< (nI k &&& 31) else 0)
def mDays (I : Nat → Nat → Int32) (c : Nat) (x : Int32) : Int32 × (Nat → Nat → Int32) := if I 85 7 = 0 then (-1000002, I) else if ¬ x < 1 ∧ x ≤ 24 then (if I 90 5 + x ≤ 999 then (moff (mdys I c x.toNatClampNeg) 4, mdys I c x.toNatClampNeg) else (-1000003, I)) else (-1000001, I)
set_option maxRecDepth 100000 in
set_option maxHeartbeats 4000000 in
theorem mdays_loop {l : zL} {I : Nat → Nat → Int32} {J : Nat → Nat → Int64} {nw : Bool} (c : Nat) (hc : I 85 9 = nI c) (hl : c ≤ 24) (m : Nat) (hm : m ≤ 24) {Q : Option Value → zH → Prop} (hQ : ∀ v : Value, v.category = 1 → zW l mX9_days SH.length (zsl SH) 66 [.ref 85, .int (nI m), v, zno] [] (mdys I c m, J, RF nw, SH) Q) : ∀ (f k : Nat), k ≤ m → m - k < f →
    zW l mX9_days SH.length (zsl SH) 44 [.ref 85, .int (nI m), .int (nI k), zno] [] (mdys I c k, J, RF nw, SH) Q
  | 0, k, _, hf => by omega
  | f + 1, k, hk, hf => by
    refine z_iload_2 (pc := 44) dX9_days_44 ?_
    refine z_iload_1 (pc := 45) dX9_days_45 ?_
    refine z_icmp_ge (pc := 46) (tgt := 66) dX9_days_46 (by decide) (fun c46 => ?_) (fun c46 => ?_)
    · skip
      have hkn : k = m := by
        rcases Nat.lt_or_ge k m with q | q
        · exact absurd c46 (nI_ge (b := m) q (by omega))
        · omega
      rw [hkn]
      exact hQ _ rfl
    · skip
      have hlt : k < m := by
        rcases Nat.lt_or_ge k m with q | q
        · exact q
        · exact absurd (nI_le (a := m) q (by omega)) c46
      refine z_aload_0 (pc := 49) dX9_days_49 ?_
      refine z_V0 (pc := 50) dX9_days_50 mlX9_204 kX9_remember vX9_remember (by decide) (by decide) (by first | rfl | assumption) (Nat.le_of_ble_eq_true rfl) (qX9_remember (min 24 (c + k)) (mdys_9 hl hc k) (by omega)) ⟨Nat.le_refl _, Nat.le_refl _⟩ (fun r h1 hq => ?_)
      obtain ⟨rfl, rfl⟩ := hq
      refine z_aload_0 (pc := 53) dX9_days_53 ?_
      refine y_getR (pc := 54) dX9_days_54 flX9_22 rfl (by first | rfl | assumption) (by first | rfl | assumption) ?_
      refine z_S1 (pc := 57) dX9_days_57 mlX9_209 kX9_dayGoes vX9_dayGoes (by decide) (by decide) (Nat.le_of_ble_eq_true rfl) (qX9_dayGoes 90 rfl) ⟨Nat.le_refl _, Nat.le_refl _⟩ (fun r h1 hq => ?_)
      obtain ⟨rfl, rfl⟩ := hq
      refine z_iinc_2 (pc := 60) (1) dX9_days_60 rfl (by decide) rfl ?_
      refine z_goto (pc := 63) (tgt := 44) dX9_days_63 (by decide) ?_
      rw [← nI_succ]
      exact mdays_loop c hc hl m hm hQ f (k + 1) (by omega) (by omega)
set_option maxRecDepth 100000 in
set_option maxHeartbeats 4000000 in
theorem moff_loop {l : zL} {I : Nat → Nat → Int32} {J : Nat → Nat → Int64} {nw : Bool} {x : Int32} {Q : Option Value → zH → Prop} (hQ : Q (some (.int (moff I 4))) (I, J, RF nw, SH)) : ∀ (f k : Nat), k ≤ 4 → 4 - k < f →
    zW l mX9_days SH.length (zsl SH) 70 [.ref 85, .int x, .int (moff I k), .int (nI k)] [] (I, J, RF nw, SH) Q
  | 0, k, _, hf => by omega
  | f + 1, k, hk, hf => by
    refine z_iload_3 (pc := 70) dX9_days_70 ?_
    refine z_iconst (pc := 71) (4) dX9_days_71 rfl ?_
    refine z_icmp_ge (pc := 72) (tgt := 99) dX9_days_72 (by decide) (fun c72 => ?_) (fun c72 => ?_)
    · skip
      have hkn : k = 4 := by
        rcases Nat.lt_or_ge k 4 with q | q
        · exact absurd c72 (nI_ge (b := 4) q (by omega))
        · omega
      rw [hkn]
      refine z_iload_2 (pc := 99) dX9_days_99 ?_
      refine z_ret (pc := 100) (r := some (.int _)) rfl dX9_days_100 trivial rfl rfl ?_
      exact hQ
    · skip
      have hlt : k < 4 := by
        rcases Nat.lt_or_ge k 4 with q | q
        · exact q
        · exact absurd (nI_le (a := 4) q (by omega)) c72
      refine z_iload_2 (pc := 75) dX9_days_75 ?_
      refine z_aload_0 (pc := 76) dX9_days_76 ?_
      refine z_iload_3 (pc := 77) dX9_days_77 ?_
      refine z_V1 (pc := 78) dX9_days_78 mlX9_213 kX9_isOff vX9_isOff (by decide) (by decide) (by first | rfl | assumption) (Nat.le_of_ble_eq_true rfl) (qX9_isOff k rfl hlt) ⟨Nat.le_refl _, Nat.le_refl _⟩ (fun r h1 hq => ?_)
      obtain ⟨rfl, rfl⟩ := hq
      refine z_if_eq (pc := 81) (tgt := 90) dX9_days_81 (by decide) (fun c81 => ?_) (fun c81 => ?_)
      · skip
        refine z_iconst (pc := 90) (0) dX9_days_90 rfl ?_
        refine z_ior (pc := 91) dX9_days_91 ?_
        refine z_istore_2 (pc := 92) dX9_days_92 (by decide) rfl ?_
        refine z_iinc_3 (pc := 93) (1) dX9_days_93 rfl (by decide) rfl ?_
        refine z_goto (pc := 96) (tgt := 70) dX9_days_96 (by decide) ?_
        rw [← nI_succ]
        have kk := moff_loop (l := l) (x := x) hQ f (k + 1) (by omega) (by omega)
        rw [moff, if_neg (of_decide_eq_false ((zbb0 _).mp c81))] at kk
        exact kk
      · skip
        refine z_iconst (pc := 84) (1) dX9_days_84 rfl ?_
        refine z_iload_3 (pc := 85) dX9_days_85 ?_
        refine z_ishl (pc := 86) dX9_days_86 ?_
        refine z_goto (pc := 87) (tgt := 91) dX9_days_87 (by decide) ?_
        refine z_ior (pc := 91) dX9_days_91 ?_
        refine z_istore_2 (pc := 92) dX9_days_92 (by decide) rfl ?_
        refine z_iinc_3 (pc := 93) (1) dX9_days_93 rfl (by decide) rfl ?_
        refine z_goto (pc := 96) (tgt := 70) dX9_days_96 (by decide) ?_
        rw [← nI_succ]
        have kk := moff_loop (l := l) (x := x) hQ f (k + 1) (by omega) (by omega)
        rw [moff, if_pos (of_decide_eq_true ((zbb1 _).mp c81))] at kk
        exact kk
set_option maxRecDepth 100000 in
set_option maxHeartbeats 4000000 in
theorem qX9_days {l : zL} {I : Nat → Nat → Int32} {J : Nat → Nat → Int64} {nw : Bool} (c : Nat) (hc : I 85 9 = nI c) (hl : c ≤ 24) {x : Int32} : zP l mX9_days [.ref 85, .int x] (hh I J nw) (zPM (mDays I c x) J nw) := by
  refine z_start [.ref 85, .int x, zno, zno] (by decide +kernel) (Nat.le_of_ble_eq_true rfl) rfl ?_
  refine z_aload_0 (pc := 0) dX9_days_0 ?_
  refine y_getI (pc := 1) dX9_days_1 flX9_143 rfl (by first | rfl | assumption) ?_
  refine z_if_ne (pc := 4) (tgt := 10) dX9_days_4 (by decide) (fun c4 => ?_) (fun c4 => ?_)
  · skip
    refine z_iload_1 (pc := 10) dX9_days_10 ?_
    refine z_i2l (pc := 11) dX9_days_11 ?_
    refine z_lconst (pc := 12) 1 dX9_days_12 rfl ?_
    refine z_ldc2 (pc := 13) dX9_days_13 kcX9_207 ?_
    refine z_S3 (pc := 16) dX9_days_16 mlX9_60 kX9_in vX9_in (by decide) (by decide) (Nat.le_of_ble_eq_true rfl) (qX9_in) ⟨Nat.le_refl _, Nat.le_refl _⟩ (fun r h1 hq => ?_)
    obtain ⟨rfl, rfl⟩ := hq
    refine z_if_ne (pc := 19) (tgt := 25) dX9_days_19 (by decide) (fun c19 => ?_) (fun c19 => ?_)
    · skip
      rw [in_dec (a' := 1) (c' := 24) (by decide) (by decide)] at c19
      have hz := of_decide_eq_true ((zbb1 _).mp c19)
      obtain ⟨m, hm, rfl⟩ := nI_of2 (x := x) (M := 24) (n := 24) (by decide) (fun q => hz.1 (Int32.lt_trans q (by decide))) hz.2
      have hcl : (nI m).toNatClampNeg = m := nI_clamp (by omega)
      refine z_aload_0 (pc := 25) dX9_days_25 ?_
      refine y_getR (pc := 26) dX9_days_26 flX9_22 rfl (by first | rfl | assumption) (by first | rfl | assumption) ?_
      refine z_iconst (pc := 29) (5) dX9_days_29 rfl ?_
      refine y_ialdN (pc := 30) (5) dX9_days_30 (by first | rfl | assumption) (rfl) (by decide) (by first | decide | omega) ?_
      refine z_iload_1 (pc := 31) dX9_days_31 ?_
      refine z_iadd (pc := 32) dX9_days_32 ?_
      refine z_sipush (pc := 33) (999) dX9_days_33 rfl ?_
      refine z_icmp_le (pc := 36) (tgt := 42) dX9_days_36 (by decide) (fun c36 => ?_) (fun c36 => ?_)
      · skip
        refine z_iconst (pc := 42) (0) dX9_days_42 rfl ?_
        refine z_istore_2 (pc := 43) dX9_days_43 (by decide) rfl ?_
        have k66 : ∀ v : Value, v.category = 1 → zW l mX9_days SH.length (zsl SH) 66 [.ref 85, .int (nI m), v, zno] [] (mdys I c m, J, RF nw, SH) (zPM (mDays I c (nI m)) J nw) := by
          intro v hv
          refine z_iconst (pc := 66) (0) dX9_days_66 rfl ?_
          refine z_istore_2 (pc := 67) dX9_days_67 (by decide) rfl ?_
          refine z_iconst (pc := 68) (0) dX9_days_68 rfl ?_
          refine z_istore_3 (pc := 69) dX9_days_69 (by decide) rfl ?_
          refine moff_loop ?_ 5 0 (by omega) (by omega)
          refine zPM_of ?_
          unfold mDays
          rw [if_neg c4, if_pos hz, if_pos c36, hcl]
        exact mdays_loop c hc hl m hm k66 (m + 1) 0 (by omega) (by omega)
      · skip
        refine z_ldc (pc := 39) dX9_days_39 kcX9_83 ?_
        refine z_ret (pc := 41) (r := some (.int _)) rfl dX9_days_41 trivial rfl rfl ?_
        refine zPM_of ?_
        unfold mDays
        rw [if_neg c4, if_pos hz, if_neg c36]
    · skip
      refine z_ldc (pc := 22) dX9_days_22 kcX9_70 ?_
      refine z_ret (pc := 24) (r := some (.int _)) rfl dX9_days_24 trivial rfl rfl ?_
      refine zPM_of ?_
      unfold mDays
      rw [in_dec (a' := 1) (c' := 24) (by decide) (by decide)] at c19
      rw [if_neg c4, if_neg (of_decide_eq_false ((zbb0 _).mp c19))]
  · skip
    refine z_ldc (pc := 7) dX9_days_7 kcX9_198 ?_
    refine z_ret (pc := 9) (r := some (.int _)) rfl dX9_days_9 trivial rfl rfl ?_
    refine zPM_of ?_
    unfold mDays
    rw [if_pos c4]
