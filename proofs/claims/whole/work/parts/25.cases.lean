def zpow (b : Int64) : Nat → Int64
  | 0 => 1
  | k + 1 => zpow b k * b
set_option maxRecDepth 100000 in
set_option maxHeartbeats 4000000 in
theorem pow_loop {l : zL} {I : Nat → Nat → Int32} {J : Nat → Nat → Int64} {nw : Bool} {b : Int64} (m : Nat) (hm : m < 2 ^ 31) : ∀ (f k : Nat), k ≤ m → m - k < f →
    zW l mX8_power SH.length (zsl SH) 5 [.long b, zno, .int (nI m), .long (zpow b k), zno, .int (nI k)] [] (hh I J nw) (zR (some (.long (zpow b m))) (hh I J nw))
  | 0, k, _, hf => by omega
  | f + 1, k, hk, hf => by
    refine z_iload_5 (pc := 5) dX8_power_5 ?_
    refine z_iload_2 (pc := 7) dX8_power_7 ?_
    refine z_icmp_ge (pc := 8) (tgt := 21) dX8_power_8 (by decide) (fun c8 => ?_) (fun c8 => ?_)
    · skip
      refine z_lload_3 (pc := 21) dX8_power_21 ?_
      refine z_ret (pc := 22) (r := some (.long _)) rfl dX8_power_22 trivial rfl rfl ?_
      have : k = m := by
        rcases Nat.lt_or_ge k m with q | q
        · exact absurd c8 (nI_ge q hm)
        · omega
      subst this
      exact ⟨rfl, rfl⟩
    · skip
      have hlt : k < m := by
        rcases Nat.lt_or_ge k m with q | q
        · exact q
        · exact absurd (nI_le q (by omega)) c8
      refine z_lload_3 (pc := 11) dX8_power_11 ?_
      refine z_lload_0 (pc := 12) dX8_power_12 ?_
      refine z_lmul (pc := 13) dX8_power_13 ?_
      refine z_lstore_3 (pc := 14) dX8_power_14 (by decide) rfl ?_
      refine z_iinc_5 (pc := 15) (1) dX8_power_15 rfl (by decide) rfl ?_
      refine z_goto (pc := 18) (tgt := 5) dX8_power_18 (by decide) ?_
      rw [← nI_succ]
      exact pow_loop m hm f (k + 1) (by omega) (by omega)
set_option maxRecDepth 100000 in
set_option maxHeartbeats 4000000 in
theorem qX8_power {l : zL} {I : Nat → Nat → Int32} {J : Nat → Nat → Int64} {nw : Bool} {b : Int64} {x : Int32} (m : Nat) (hm : m < 2 ^ 31) (hx : x = nI m) : zP l mX8_power [.long b, .int x] (hh I J nw) (zR (some (.long (zpow b m))) (hh I J nw)) := by
  refine z_start [.long b, zno, .int x, zno, zno, zno] (by decide +kernel) (Nat.le_of_ble_eq_true rfl) rfl ?_
  refine z_lconst (pc := 0) 1 dX8_power_0 rfl ?_
  refine z_lstore_3 (pc := 1) dX8_power_1 (by decide) rfl ?_
  refine z_iconst (pc := 2) (0) dX8_power_2 rfl ?_
  refine z_istore_5 (pc := 3) dX8_power_3 (by decide) rfl ?_
  rw [hx]
  exact pow_loop m hm (m + 1) 0 (by omega) (by omega)
def zwt (p : Int32) (T s : Nat) : Int64 := zpow p.toInt64 s * zpow (10 - p).toInt64 (T - s)
set_option maxRecDepth 100000 in
set_option maxHeartbeats 4000000 in
theorem weigh_loop {l : zL} {I : Nat → Nat → Int32} {nw : Bool} {p : Int32} (T : Nat) (hT : T ≤ 10) (eT : I 15 7 = nI T) : ∀ (f k : Nat) (J1 : Nat → Nat → Int64), k ≤ T + 1 → T + 1 - k < f → (∀ s, s < k → J1 82 s = zwt p T s) →
    zW l mX3_weigh SH.length (zsl SH) 2 [.ref 79, .int p, .int (nI k)] [] (I, J1, RF nw, SH) (fun r h1 => r = none ∧ ∃ J2, h1 = (I, J2, RF nw, SH) ∧ ∀ s, s ≤ T → J2 82 s = zwt p T s)
  | 0, k, J1, _, hf, _ => by omega
  | f + 1, k, J1, hk, hf, hJ => by
    refine z_iload_2 (pc := 2) dX3_weigh_2 ?_
    refine z_aload_0 (pc := 3) dX3_weigh_3 ?_
    refine y_getR (pc := 4) dX3_weigh_4 flX3_22 rfl (by first | rfl | assumption) (by first | rfl | assumption) ?_
    refine y_getI (pc := 7) dX3_weigh_7 flX3_56 rfl (by first | rfl | assumption) ?_
    refine z_icmp_gt (pc := 10) (tgt := 49) dX3_weigh_10 (by decide) (fun c10 => ?_) (fun c10 => ?_)
    · skip
      refine z_ret (pc := 49) (r := none) rfl dX3_weigh_49 trivial rfl rfl ?_
      have : k = T + 1 := by
        rcases Nat.lt_or_ge T k with q | q
        · omega
        · rw [eT] at c10
          exact absurd c10 (nI_nlt q (by omega))
      subst this
      exact ⟨rfl, J1, rfl, fun s hs => hJ s (by omega)⟩
    · skip
      have hlt : k ≤ T := by
        rcases Nat.lt_or_ge T k with q | q
        · exact absurd (by rw [eT]; exact nI_lt q (by omega)) c10
        · exact q
      refine z_aload_0 (pc := 13) dX3_weigh_13 ?_
      refine y_getR (pc := 14) dX3_weigh_14 flX3_18 rfl (by first | rfl | assumption) (by first | rfl | assumption) ?_
      refine z_iload_2 (pc := 17) dX3_weigh_17 ?_
      refine z_iload_1 (pc := 18) dX3_weigh_18 ?_
      refine z_i2l (pc := 19) dX3_weigh_19 ?_
      refine z_iload_2 (pc := 20) dX3_weigh_20 ?_
      refine z_S2 (pc := 21) dX3_weigh_21 mlX3_105 kX8_power vX8_power (by decide) (by decide) (Nat.le_of_ble_eq_true rfl) (qX8_power k (by omega) rfl) ⟨Nat.le_refl _, Nat.le_refl _⟩ (fun r h1 hq => ?_)
      obtain ⟨rfl, rfl⟩ := hq
      refine z_bipush (pc := 24) (10) dX3_weigh_24 rfl ?_
      refine z_iload_1 (pc := 26) dX3_weigh_26 ?_
      refine z_isub (pc := 27) dX3_weigh_27 ?_
      refine z_i2l (pc := 28) dX3_weigh_28 ?_
      refine z_aload_0 (pc := 29) dX3_weigh_29 ?_
      refine y_getR (pc := 30) dX3_weigh_30 flX3_22 rfl (by first | rfl | assumption) (by first | rfl | assumption) ?_
      refine y_getI (pc := 33) dX3_weigh_33 flX3_56 rfl (by first | rfl | assumption) ?_
      refine z_iload_2 (pc := 36) dX3_weigh_36 ?_
      refine z_isub (pc := 37) dX3_weigh_37 ?_
      refine z_S2 (pc := 38) dX3_weigh_38 mlX3_105 kX8_power vX8_power (by decide) (by decide) (Nat.le_of_ble_eq_true rfl) (qX8_power (T - k) (by omega) (by rw [eT]; exact pk_sub hlt)) ⟨Nat.le_refl _, Nat.le_refl _⟩ (fun r h1 hq => ?_)
      obtain ⟨rfl, rfl⟩ := hq
      refine z_lmul (pc := 41) dX3_weigh_41 ?_
      refine y_lastN (pc := 42) (k) dX3_weigh_42 rfl rfl (by omega) (by decide) ?_
      refine z_iinc_2 (pc := 43) (1) dX3_weigh_43 rfl (by decide) rfl ?_
      refine z_goto (pc := 46) (tgt := 2) dX3_weigh_46 (by decide) ?_
      rw [← nI_succ]
      refine weigh_loop T hT eT f (k + 1) _ (by omega) (by omega) (fun s hs => ?_)
      unfold zupJ
      by_cases hq : s = k
      · subst hq; rw [if_pos ⟨rfl, rfl⟩]; rfl
      · rw [if_neg (fun z => hq z.2)]; exact hJ s (by omega)
set_option maxRecDepth 100000 in
set_option maxHeartbeats 4000000 in
theorem qX3_weigh {l : zL} {I : Nat → Nat → Int32} {J : Nat → Nat → Int64} {nw : Bool} {p : Int32} (T : Nat) (hT : T ≤ 10) (eT : I 15 7 = nI T) : zP l mX3_weigh [.ref 79, .int p] (hh I J nw) (fun r h1 => r = none ∧ ∃ J2, h1 = (I, J2, RF nw, SH) ∧ ∀ s, s ≤ T → J2 82 s = zwt p T s) := by
  refine z_start [.ref 79, .int p, zno] (by decide +kernel) (Nat.le_of_ble_eq_true rfl) rfl ?_
  refine z_iconst (pc := 0) (0) dX3_weigh_0 rfl ?_
  refine z_istore_2 (pc := 1) dX3_weigh_1 (by decide) rfl ?_
  exact weigh_loop T hT eT (T + 2) 0 J (by omega) (by omega) (fun s hs => absurd hs (by omega))
def zpc (s : Nat) : Nat := (zbc (nI s)).toNatClampNeg
theorem zpc_ok : ∀ s, s < 1024 → zbc (nI s) = nI (zpc s) := by decide +kernel
theorem zpc_le : ∀ T, T ≤ 10 → ∀ s, s < 2 ^ T → zpc s ≤ T := by decide +kernel
def zcas (g : Nat → Bool) (wt : Nat → Int64) : Nat → Int64
  | 0 => 0
  | s + 1 => if 0 < wt s then zcas g wt s + (if g s = true then (1 : Int32) else 0).toInt64 * wt s else zcas g wt s
set_option maxRecDepth 100000 in
set_option maxHeartbeats 4000000 in
theorem cas_loop {l : zL} {I : Nat → Nat → Int32} {J : Nat → Nat → Int64} (n T : Nat) (A B : Nat → Nat) (ht : zTown I n T A B) {x : Int32} (i : Nat) (hx : x = nI i) (hi : i < 4) (w : Nat) (ew : I 22 (1 + i) - 1 = nI w) {y z p : Int32} (a : Nat) (hy : y = nI a) (ha : a < n) (b : Nat) (hz : z = nI b) (hb : b < n) (hJ : ∀ s, s ≤ T → J 82 s = zwt p T s) : ∀ (f s : Nat) (I1 : Nat → Nat → Int32) (nw : Bool) (w0 : Nat → Bool) (v8 : Value), s ≤ 2 ^ T → 2 ^ T - s < f → zTold I I1 n T A B (I 16) w0 → (v8 = zno ∨ ∃ q, v8 = .long q) →
    zW l mX3_casesOfBelief SH.length (zsl SH) 19 [.ref 79, .int x, .int y, .int z, .int p, .long (zcas (fun s => (zgo (zTe I (I 16) n T A B (zbt s) (nI w)) (fun e => e == a) (zsc I i)).2 b) (fun s => zwt p T (zpc s)) s), zno, .int (nI s), v8, zno] [] (I1, J, RF nw, SH) (fun r h1 => r = some (.long (zcas (fun s => (zgo (zTe I (I 16) n T A B (zbt s) (nI w)) (fun e => e == a) (zsc I i)).2 b) (fun s => zwt p T (zpc s)) (2 ^ T))) ∧ ∃ I2 J2 nw2, h1 = (I2, J2, RF nw2, SH) ∧ zFr I I2)
  | 0, s, I1, nw, w0, v8, _, hf, _, _ => by omega
  | f + 1, s, I1, nw, w0, v8, hs, hf, hT, hv8 => by
    obtain ⟨p1, p2⟩ := pow10 T ht.2.2.1
    have hn6 := ht.1
    have hed : ∀ e, (e == a) = true → e < n := fun e he => by rw [beq_iff_eq.mp he]; exact ha
    refine z_iload_7 (pc := 19) dX3_casesOfBelief_19 ?_
    refine z_iconst (pc := 21) (1) dX3_casesOfBelief_21 rfl ?_
    refine z_aload_0 (pc := 22) dX3_casesOfBelief_22 ?_
    refine y_getR (pc := 23) dX3_casesOfBelief_23 flX3_22 rfl (by first | rfl | assumption) (by first | rfl | assumption) ?_
    refine y_getI (pc := 26) dX3_casesOfBelief_26 flX3_56 rfl (by first | rfl | assumption) ?_
    refine z_ishl (pc := 29) dX3_casesOfBelief_29 ?_
    refine z_icmp_ge (pc := 30) (tgt := 98) dX3_casesOfBelief_30 (by decide) (fun c30 => ?_) (fun c30 => ?_)
    · skip
      refine z_lload_5 (pc := 98) dX3_casesOfBelief_98 ?_
      refine z_ret (pc := 100) (r := some (.long _)) rfl dX3_casesOfBelief_100 trivial rfl rfl ?_
      have : s = 2 ^ T := by
        rw [hT.1 15 (by omega), ht.2.2.2.1, p2] at c30
        rcases Nat.lt_or_ge s (2 ^ T) with q | q
        · exact absurd c30 (nI_ge q (by omega))
        · omega
      subst this
      exact ⟨rfl, I1, J, nw, rfl, hT.1⟩
    · skip
      have hlt : s < 2 ^ T := by
        rw [hT.1 15 (by omega), ht.2.2.2.1, p2] at c30
        rcases Nat.lt_or_ge s (2 ^ T) with q | q
        · exact q
        · exact absurd (nI_le q (by omega)) c30
      refine z_aload_0 (pc := 33) dX3_casesOfBelief_33 ?_
      refine y_getR (pc := 34) dX3_casesOfBelief_34 flX3_18 rfl (by first | rfl | assumption) (by first | rfl | assumption) ?_
      refine z_iload_7 (pc := 37) dX3_casesOfBelief_37 ?_
      refine z_S1 (pc := 39) dX3_casesOfBelief_39 mlX3_42 kJ6_bitCount_0f7a4 vJ6_bitCount_0f7a4 (by decide) (by decide) (Nat.le_of_ble_eq_true rfl) (qJ6_bitCount_0f7a4) ⟨Nat.le_refl _, Nat.le_refl _⟩ (fun r h1 hq => ?_)
      obtain ⟨rfl, rfl⟩ := hq
      refine y_laldN (pc := 42) (zpc s) dX3_casesOfBelief_42 (by first | rfl | assumption) (zpc_ok s (by omega)) (by have := zpc_le T ht.2.2.1 s hlt; have := ht.2.2.1; omega) (by first | decide | omega) ?_
      rw [hJ _ (zpc_le T ht.2.2.1 s hlt)]
      refine z_lstore_8 (pc := 43) dX3_casesOfBelief_43 (by decide) rfl ?_
      refine z_lload_8 (pc := 45) dX3_casesOfBelief_45 ?_
      refine z_lconst (pc := 47) 0 dX3_casesOfBelief_47 rfl ?_
      refine z_lcmp (pc := 48) dX3_casesOfBelief_48 ?_
      refine z_if_le (pc := 49) (tgt := 92) dX3_casesOfBelief_49 (by decide) (fun c49 => ?_) (fun c49 => ?_)
      · skip
        have hpos : ¬ 0 < zwt p T (zpc s) := by
          rw [lg_cmp_le] at c49
          exact Int64.not_lt.mpr c49
        refine z_iinc_7 (pc := 92) (1) dX3_casesOfBelief_92 rfl (by decide) rfl ?_
        refine z_goto (pc := 95) (tgt := 19) dX3_casesOfBelief_95 (by decide) ?_
        have k := cas_loop (l := l) (J := J) (p := p) n T A B ht i hx hi w ew a hy ha b hz hb hJ f (s + 1) I1 nw w0 (.long (zwt p T (zpc s))) (by omega) (by omega) hT (Or.inr ⟨_, rfl⟩)
        rw [show zcas (fun s => (zgo (zTe I (I 16) n T A B (zbt s) (nI w)) (fun e => e == a) (zsc I i)).2 b) (fun s => zwt p T (zpc s)) (s + 1) = zcas (fun s => (zgo (zTe I (I 16) n T A B (zbt s) (nI w)) (fun e => e == a) (zsc I i)).2 b) (fun s => zwt p T (zpc s)) s from if_neg hpos, nI_succ] at k
        exact k
      · skip
        have hpos : 0 < zwt p T (zpc s) := by
          rw [lg_cmp_le] at c49
          exact Int64.not_le.mp c49
        refine z_aload_0 (pc := 52) dX3_casesOfBelief_52 ?_
        refine y_getR (pc := 53) dX3_casesOfBelief_53 flX3_26 rfl (by first | rfl | assumption) (by first | rfl | assumption) ?_
        refine z_iload_7 (pc := 56) dX3_casesOfBelief_56 ?_
        have htt := ht.keep hT.1
        refine z_V1 (pc := 58) dX3_casesOfBelief_58 mlX3_59 kX6_leaveOut vX6_leaveOut (by decide) (by decide) (by first | rfl | assumption) (Nat.le_of_ble_eq_true rfl) (qX6_leaveOut T htt.2.2.1 htt.2.2.2.1 A B (fun k hk => ⟨(htt.2.2.2.2.1 k hk).1, by have := (htt.2.2.2.2.1 k hk).2; have := htt.1; omega⟩) (fun k hk => ⟨(htt.2.2.2.2.2.1 k hk).1, by have := (htt.2.2.2.2.2.1 k hk).2; have := htt.1; omega⟩) (zbt s) (sh_bits s (by omega))) ⟨Nat.le_refl _, Nat.le_refl _⟩ (fun r h1 hq => ?_)
        obtain ⟨rfl, g2, rfl, hg2⟩ := hq
        have hT2 : zTold I (zrow I1 76 g2) n T A B (I 16) (zbt s) := ⟨fun q hq => by funext b; rw [zrow_ne _ _ _ (by omega), hT.1 q hq], fun d hd => by rw [zrow_ne _ _ _ (by decide)]; exact hT.2.1 d hd, fun d hd => by rw [zrow_at]; exact hg2 d hd⟩
        refine z_aload_0 (pc := 61) dX3_casesOfBelief_61 ?_
        refine y_getR (pc := 62) dX3_casesOfBelief_62 flX3_26 rfl (by first | rfl | assumption) (by first | rfl | assumption) ?_
        refine z_iload_1 (pc := 65) dX3_casesOfBelief_65 ?_
        refine z_iconst (pc := 66) (1) dX3_casesOfBelief_66 rfl ?_
        refine z_iload_2 (pc := 67) dX3_casesOfBelief_67 ?_
        refine z_ishl (pc := 68) dX3_casesOfBelief_68 ?_
        refine z_V2 (pc := 69) dX3_casesOfBelief_69 mlX3_48 kX6_spreadCask vX6_spreadCask (by decide) (by decide) (by first | rfl | assumption) (Nat.le_of_ble_eq_true rfl) (qX6_spreadCask (zTe I (I 16) n T A B (zbt s) (nI w)) (hT2.set ht) i hx hi (by rw [hT2.1 22 (by omega)]; exact ew.symm) (fun e => e == a) (by rw [hy]; exact bs_one a (by omega)) hed) ⟨Nat.le_refl _, Nat.le_refl _⟩ (fun r h1 hq => ?_)
        obtain ⟨I2, nw2, rfl, rfl, z1, z2, z3, z5, z6, z7, st, z8, z9, z10⟩ := zSpQ_fr hq
        rw [zsc_keep hT2.1] at z6
        refine z_lload_5 (pc := 72) dX3_casesOfBelief_72 ?_
        refine z_aload_0 (pc := 74) dX3_casesOfBelief_74 ?_
        refine y_getR (pc := 75) dX3_casesOfBelief_75 flX3_26 rfl (by first | rfl | assumption) (by first | rfl | assumption) ?_
        refine y_getI (pc := 78) dX3_casesOfBelief_78 flX3_52 rfl (by first | rfl | assumption) ?_
        refine z_iload_3 (pc := 81) dX3_casesOfBelief_81 ?_
        refine z_ishr (pc := 82) dX3_casesOfBelief_82 ?_
        refine z_iconst (pc := 83) (1) dX3_casesOfBelief_83 rfl ?_
        refine z_iand (pc := 84) dX3_casesOfBelief_84 ?_
        rw [show (I2 74 7 >>> (z &&& 31)) &&& 1 = (if (zgo (zTe I (I 16) n T A B (zbt s) (nI w)) (fun e => e == a) (zsc I i)).2 b = true then (1 : Int32) else 0) from by rw [z6, hz]; exact bs_test _ b (by omega)]
        refine z_i2l (pc := 85) dX3_casesOfBelief_85 ?_
        refine z_lload_8 (pc := 86) dX3_casesOfBelief_86 ?_
        refine z_lmul (pc := 88) dX3_casesOfBelief_88 ?_
        refine z_ladd (pc := 89) dX3_casesOfBelief_89 ?_
        refine z_lstore_5 (pc := 90) dX3_casesOfBelief_90 (by decide) rfl ?_
        refine z_iinc_7 (pc := 92) (1) dX3_casesOfBelief_92 rfl (by decide) rfl ?_
        refine z_goto (pc := 95) (tgt := 19) dX3_casesOfBelief_95 (by decide) ?_
        have k := cas_loop (l := l) (J := J) (p := p) n T A B ht i hx hi w ew a hy ha b hz hb hJ f (s + 1) I2 nw2 (zbt s) (.long (zwt p T (zpc s))) (by omega) (by omega) (hT2.keep z1 z2 z3) (Or.inr ⟨_, rfl⟩)
        rw [show zcas (fun s => (zgo (zTe I (I 16) n T A B (zbt s) (nI w)) (fun e => e == a) (zsc I i)).2 b) (fun s => zwt p T (zpc s)) (s + 1) = zcas (fun s => (zgo (zTe I (I 16) n T A B (zbt s) (nI w)) (fun e => e == a) (zsc I i)).2 b) (fun s => zwt p T (zpc s)) s + (if (zgo (zTe I (I 16) n T A B (zbt s) (nI w)) (fun e => e == a) (zsc I i)).2 b = true then (1 : Int32) else 0).toInt64 * zwt p T (zpc s) from if_pos hpos, nI_succ] at k
        exact k
set_option maxRecDepth 100000 in
set_option maxHeartbeats 4000000 in
theorem qX3_casesOfBelief {l : zL} {I : Nat → Nat → Int32} {J : Nat → Nat → Int64} {nw : Bool} (n T : Nat) (A B : Nat → Nat) (ht : zTown I n T A B) {x : Int32} (i : Nat) (hx : x = nI i) (hi : i < 4) (w : Nat) (ew : I 22 (1 + i) - 1 = nI w) {y z p : Int32} (a : Nat) (hy : y = nI a) (ha : a < n) (b : Nat) (hz : z = nI b) (hb : b < n) : zP l mX3_casesOfBelief [.ref 79, .int x, .int y, .int z, .int p] (hh I J nw) (fun r h1 => r = some (.long (zcas (fun s => (zgo (zTe I (I 16) n T A B (zbt s) (nI w)) (fun e => e == a) (zsc I i)).2 b) (fun s => zwt p T (zpc s)) (2 ^ T))) ∧ ∃ I2 J2 nw2, h1 = (I2, J2, RF nw2, SH) ∧ zFr I I2) := by
  refine z_start [.ref 79, .int x, .int y, .int z, .int p, zno, zno, zno, zno, zno] (by decide +kernel) (Nat.le_of_ble_eq_true rfl) rfl ?_
  refine z_lconst (pc := 0) 0 dX3_casesOfBelief_0 rfl ?_
  refine z_lstore_5 (pc := 1) dX3_casesOfBelief_1 (by decide) rfl ?_
  refine z_aload_0 (pc := 3) dX3_casesOfBelief_3 ?_
  refine z_iload_4 (pc := 4) dX3_casesOfBelief_4 ?_
  refine z_V1 (pc := 6) dX3_casesOfBelief_6 mlX3_102 kX3_weigh vX3_weigh (by decide) (by decide) (by first | rfl | assumption) (Nat.le_of_ble_eq_true rfl) (qX3_weigh T ht.2.2.1 ht.2.2.2.1) ⟨Nat.le_refl _, Nat.le_refl _⟩ (fun r h1 hq => ?_)
  obtain ⟨rfl, J2, rfl, hJ⟩ := hq
  refine z_aload_0 (pc := 9) dX3_casesOfBelief_9 ?_
  refine y_getR (pc := 10) dX3_casesOfBelief_10 flX3_26 rfl (by first | rfl | assumption) (by first | rfl | assumption) ?_
  refine z_V0 (pc := 13) dX3_casesOfBelief_13 mlX3_31 kX6_beAsTold vX6_beAsTold (by decide) (by decide) (by first | rfl | assumption) (Nat.le_of_ble_eq_true rfl) (qX6_beAsTold T ht.2.2.1 ht.2.2.2.1 A B (fun k hk => ⟨(ht.2.2.2.2.1 k hk).1, by have := (ht.2.2.2.2.1 k hk).2; have := ht.1; omega⟩) (fun k hk => ⟨(ht.2.2.2.2.2.1 k hk).1, by have := (ht.2.2.2.2.2.1 k hk).2; have := ht.1; omega⟩)) ⟨Nat.le_refl _, Nat.le_refl _⟩ (fun r h1 hq => ?_)
  obtain ⟨rfl, g2, rfl, hg2⟩ := hq
  have hT := zTold.first ht hg2
  refine z_iconst (pc := 16) (0) dX3_casesOfBelief_16 rfl ?_
  refine z_istore_7 (pc := 17) dX3_casesOfBelief_17 (by decide) rfl ?_
  have k := cas_loop (l := l) (J := J2) (p := p) n T A B ht i hx hi w ew a hy ha b hz hb hJ (2 ^ T + 1) 0 _ nw _ zno (Nat.zero_le _) (Nat.lt_succ_of_le (Nat.sub_le _ _)) hT (Or.inl rfl)
  exact k
