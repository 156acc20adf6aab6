def zgcd : Nat → Int64 → Int64 → Int64
  | 0, x, _ => x
  | f + 1, x, y => if y = 0 then x else zgcd f y (x - x / y * y)
set_option maxRecDepth 100000 in
set_option maxHeartbeats 4000000 in
theorem gcd_loop {l : zL} {I : Nat → Nat → Int32} {J : Nat → Nat → Int64} {nw : Bool} {a b : Int64} : ∀ (f k : Nat) (x y : Int64) (v : Value), f + k = 100 → (v = zno ∨ ∃ q, v = .long q) →
    zW l mX8_commonDivisor SH.length (zsl SH) 9 [.long a, zno, .long b, zno, .long x, zno, .long y, zno, .int (nI k), v, zno] [] (hh I J nw) (zR (some (.long (if zgcd f x y < 1 then 1 else zgcd f x y))) (hh I J nw))
  | 0, k, x, y, v, hf, hv => by
    obtain rfl : k = 100 := by omega
    refine z_iload_8 (pc := 9) dX8_commonDivisor_9 ?_
    refine z_bipush (pc := 11) (100) dX8_commonDivisor_11 rfl ?_
    refine z_icmp_ge (pc := 13) (tgt := 44) dX8_commonDivisor_13 (by decide) (fun c13 => ?_) (fun c13 => ?_)
    · skip
      refine z_lconst (pc := 44) 1 dX8_commonDivisor_44 rfl ?_
      refine z_lload_4 (pc := 45) dX8_commonDivisor_45 ?_
      refine z_mmaxL (pc := 47) dX8_commonDivisor_47 mmX8_363 (by decide) (Nat.le_of_ble_eq_true rfl) ?_
      refine z_ret (pc := 50) (r := some (.long _)) rfl dX8_commonDivisor_50 trivial rfl rfl ?_
      exact ⟨rfl, rfl⟩
    · exact absurd (by decide) c13
  | f + 1, k, x, y, v, hf, hv => by
    refine z_iload_8 (pc := 9) dX8_commonDivisor_9 ?_
    refine z_bipush (pc := 11) (100) dX8_commonDivisor_11 rfl ?_
    refine z_icmp_ge (pc := 13) (tgt := 44) dX8_commonDivisor_13 (by decide) (fun c13 => ?_) (fun c13 => ?_)
    · exact absurd c13 (nI_ge (a := k) (b := 100) (by omega) (by decide))
    · skip
      refine z_lload_6 (pc := 16) dX8_commonDivisor_16 ?_
      refine z_lconst (pc := 18) 0 dX8_commonDivisor_18 rfl ?_
      refine z_lcmp (pc := 19) dX8_commonDivisor_19 ?_
      refine z_if_eq (pc := 20) (tgt := 44) dX8_commonDivisor_20 (by decide) (fun c20 => ?_) (fun c20 => ?_)
      · skip
        refine z_lconst (pc := 44) 1 dX8_commonDivisor_44 rfl ?_
        refine z_lload_4 (pc := 45) dX8_commonDivisor_45 ?_
        refine z_mmaxL (pc := 47) dX8_commonDivisor_47 mmX8_363 (by decide) (Nat.le_of_ble_eq_true rfl) ?_
        refine z_ret (pc := 50) (r := some (.long _)) rfl dX8_commonDivisor_50 trivial rfl rfl ?_
        rw [zgcd, if_pos ((lg_cmp_eq _ _).mp c20)]
        exact ⟨rfl, rfl⟩
      · skip
        have hy : ¬ y = 0 := fun q => c20 ((lg_cmp_eq _ _).mpr q)
        refine z_lload_4 (pc := 23) dX8_commonDivisor_23 ?_
        refine z_lload_6 (pc := 25) dX8_commonDivisor_25 ?_
        refine z_lrem (pc := 27) (by first | assumption | decide) dX8_commonDivisor_27 ?_
        refine z_lstore_9 (pc := 28) dX8_commonDivisor_28 (by decide) rfl ?_
        refine z_lload_6 (pc := 30) dX8_commonDivisor_30 ?_
        refine z_lstore_4 (pc := 32) dX8_commonDivisor_32 (by decide) rfl ?_
        refine z_lload_9 (pc := 34) dX8_commonDivisor_34 ?_
        refine z_lstore_6 (pc := 36) dX8_commonDivisor_36 (by decide) rfl ?_
        refine z_iinc_8 (pc := 38) (1) dX8_commonDivisor_38 rfl (by decide) rfl ?_
        refine z_goto (pc := 41) (tgt := 9) dX8_commonDivisor_41 (by decide) ?_
        rw [← nI_succ, zgcd, if_neg hy]
        exact gcd_loop f (k + 1) _ _ _ (by omega) (Or.inr ⟨_, rfl⟩)
set_option maxRecDepth 100000 in
set_option maxHeartbeats 4000000 in
theorem qX8_commonDivisor {l : zL} {I : Nat → Nat → Int32} {J : Nat → Nat → Int64} {nw : Bool} {a b : Int64} : zP l mX8_commonDivisor [.long a, .long b] (hh I J nw) (zR (some (.long (if zgcd 100 a b < 1 then 1 else zgcd 100 a b))) (hh I J nw)) := by
  refine z_start [.long a, zno, .long b, zno, zno, zno, zno, zno, zno, zno, zno] (by decide +kernel) (Nat.le_of_ble_eq_true rfl) rfl ?_
  refine z_lload_0 (pc := 0) dX8_commonDivisor_0 ?_
  refine z_lstore_4 (pc := 1) dX8_commonDivisor_1 (by decide) rfl ?_
  refine z_lload_2 (pc := 3) dX8_commonDivisor_3 ?_
  refine z_lstore_6 (pc := 4) dX8_commonDivisor_4 (by decide) rfl ?_
  refine z_iconst (pc := 6) (0) dX8_commonDivisor_6 rfl ?_
  refine z_istore_8 (pc := 7) dX8_commonDivisor_7 (by decide) rfl ?_
  exact gcd_loop 100 0 a b zno rfl (Or.inl rfl)
def zwtap (I : Nat → Nat → Int32) (n T : Nat) (A B : Nat → Nat) (c : Nat → Int32) (i d : Nat) : Nat → Int32 :=
  upd (upd c (13 + (c (1 + i) - 1).toNatClampNeg) (c (13 + (c (1 + i) - 1).toNatClampNeg) ||| nI (bs (zgo (zTe I (I 16) n T A B (fun _ => false) (nI (c (1 + i) - 1).toNatClampNeg)) (fun e => e == d) (zst (I 15 0) (I 15 1) (c (5 + i)) (c (9 + i)))).2))) (5 + i) (if 0 < c (5 + i) - 1 then c (5 + i) - 1 else 0)
def zwday (c : Nat → Int32) : Nat → Int32 := fun b => if b = 0 ∨ (9 ≤ b ∧ b < 13) then c b + 1 else c b
def zwst (I : Nat → Nat → Int32) (n T : Nat) (A B : Nat → Nat) (s : Nat × (Nat → Int32)) : Nat × (Nat → Int32) :=
  (s.1 * 16807 % 2147483647, zwday (if s.2 (1 + s.1 * 16807 % 2147483647 % 4) = 0 then s.2 else zwtap I n T A B s.2 (s.1 * 16807 % 2147483647 % 4) (s.1 * 16807 % 2147483647 % n)))
def zwk (I : Nat → Nat → Int32) (n T : Nat) (A B : Nat → Nat) (s : Nat × (Nat → Int32)) : Nat → Nat × (Nat → Int32)
  | 0 => s
  | k + 1 => zwst I n T A B (zwk I n T A B s k)
theorem zwst_lt (I : Nat → Nat → Int32) (n T : Nat) (A B : Nat → Nat) (s : Nat × (Nat → Int32)) : (zwst I n T A B s).1 < 2147483647 := Nat.mod_lt _ (by decide)
theorem zwk_lt (I : Nat → Nat → Int32) (n T : Nat) (A B : Nat → Nat) {s : Nat × (Nat → Int32)} (hs : s.1 < 2147483647) : ∀ k, (zwk I n T A B s k).1 < 2147483647
  | 0 => hs
  | k + 1 => zwst_lt I n T A B _
/-- what is known at the head of the week's loop -/
def zWkI (I I1 : Nat → Nat → Int32) (c : Nat → Int32) : Prop := (∀ a, a ≠ 81 → a < 74 ∨ 78 < a → I1 a = I a) ∧ (∀ b, b < 19 → I1 81 b = c b) ∧ ∀ i, i < 4 → c (1 + i) = I 22 (1 + i)
theorem zwday_19 {I1 : Nat → Nat → Int32} {c : Nat → Int32} (h : ∀ b, b < 19 → I1 81 b = c b) : ∀ b, b < 19 → zday I1 81 81 b = zwday c b := by
  intro b hb
  unfold zday zwday
  rw [h b hb]
  by_cases hq : b = 0 ∨ (9 ≤ b ∧ b < 13) <;> simp [hq]
theorem zwday_low (c : Nat → Int32) {i : Nat} (h : i < 4) : zwday c (1 + i) = c (1 + i) := by
  unfold zwday; rw [if_neg (by omega)]
set_option maxRecDepth 100000 in
set_option maxHeartbeats 4000000 in
theorem week_loop {l : zL} {I : Nat → Nat → Int32} {J : Nat → Nat → Int64} (n T : Nat) (A B : Nat → Nat) (ht : zTown I n T A B) (hn1 : 1 ≤ n) (hWh : ∀ i, i < 4 → I 22 (1 + i) = 0 ∨ ∃ w, w < 6 ∧ I 22 (1 + i) = nI (w + 1)) (m : Nat) (hm : m ≤ 60) (x0 : Nat) (hx0 : x0 < 2147483647) {sd : Int32} : ∀ (f k : Nat) (I1 : Nat → Nat → Int32) (nw : Bool) (v6 : Value), k ≤ m → m - k < f → zWkI I I1 (zwk I n T A B (x0, I 22) k).2 → v6.category = 1 →
    zW l mX3_cellarAfterWeek SH.length (zsl SH) 20 [.ref 79, .int (nI m), .int sd, .long (lN (zwk I n T A B (x0, I 22) k).1), zno, .int (nI k), v6] [] (I1, J, RF nw, SH) (fun r h1 => r = some (.ref 80) ∧ ∃ I2 nw2, h1 = (I2, J, RF nw2, SH) ∧ zWkI I I2 (zwk I n T A B (x0, I 22) m).2)
  | 0, k, I1, nw, v6, _, hf, _, _ => by omega
  | f + 1, k, I1, nw, v6, hk, hf, hI, hv6 => by
    have hxl := zwk_lt I n T A B (s := (x0, I 22)) hx0 k
    have hek : zwk I n T A B (x0, I 22) (k + 1) = zwst I n T A B (zwk I n T A B (x0, I 22) k) := rfl
    generalize hgen : zwk I n T A B (x0, I 22) k = sk at hI hxl hek ⊢
    obtain ⟨xk, c⟩ := sk
    obtain ⟨w1, w2, w3⟩ := hI
    have hn6 := ht.1
    dsimp only at hxl w2 w3 ⊢
    have hl1 : xk * 16807 % 2147483647 < 2147483647 := Nat.mod_lt _ (by decide)
    have hi4 : xk * 16807 % 2147483647 % 4 < 4 := Nat.mod_lt _ (by decide)
    have hdn : xk * 16807 % 2147483647 % n < n := Nat.mod_lt _ (by omega)
    refine z_iload_5 (pc := 20) dX3_cellarAfterWeek_20 ?_
    refine z_iload_1 (pc := 22) dX3_cellarAfterWeek_22 ?_
    refine z_icmp_ge (pc := 23) (tgt := 104) dX3_cellarAfterWeek_23 (by decide) (fun c23 => ?_) (fun c23 => ?_)
    · skip
      refine z_aload_0 (pc := 104) dX3_cellarAfterWeek_104 ?_
      refine y_getR (pc := 105) dX3_cellarAfterWeek_105 flX3_12 rfl (by first | rfl | assumption) (by first | rfl | assumption) ?_
      refine z_ret (pc := 108) (r := some (.ref _)) rfl dX3_cellarAfterWeek_108 trivial rfl rfl ?_
      have hkm : k = m := by
        rcases Nat.lt_or_ge k m with q | q
        · exact absurd c23 (nI_ge q (by omega))
        · omega
      subst hkm
      exact ⟨rfl, I1, nw, rfl, by rw [hgen]; exact ⟨w1, w2, w3⟩⟩
    · skip
      have hlt : k < m := by
        rcases Nat.lt_or_ge k m with q | q
        · exact q
        · exact absurd (nI_le q (by omega)) c23
      refine z_lload_3 (pc := 26) dX3_cellarAfterWeek_26 ?_
      refine z_ldc2 (pc := 27) dX3_cellarAfterWeek_27 kcX3_113 ?_
      refine z_lmul (pc := 30) dX3_cellarAfterWeek_30 ?_
      refine z_ldc2 (pc := 31) dX3_cellarAfterWeek_31 kcX3_115 ?_
      refine z_lrem (pc := 34) (by first | assumption | decide) dX3_cellarAfterWeek_34 ?_
      rw [show lN xk * 16807 - lN xk * 16807 / 2147483647 * 2147483647 = lN (xk * 16807 % 2147483647) from by
        rw [show lN xk * 16807 = lN (xk * 16807) from lN_mul xk 16807]
        exact pk_lRem (a := xk * 16807) (b := 2147483647) (by omega) (by decide) (by decide)]
      refine z_lstore_3 (pc := 35) dX3_cellarAfterWeek_35 (by decide) rfl ?_
      refine z_lload_3 (pc := 36) dX3_cellarAfterWeek_36 ?_
      refine z_ldc2 (pc := 37) dX3_cellarAfterWeek_37 kcX3_117 ?_
      refine z_lrem (pc := 40) (by first | assumption | decide) dX3_cellarAfterWeek_40 ?_
      refine z_l2i (pc := 41) dX3_cellarAfterWeek_41 ?_
      rw [show (lN (xk * 16807 % 2147483647) - lN (xk * 16807 % 2147483647) / 4 * 4).toInt32 = nI (xk * 16807 % 2147483647 % 4) from by
        rw [show lN (xk * 16807 % 2147483647) - lN (xk * 16807 % 2147483647) / 4 * 4 = lN (xk * 16807 % 2147483647 % 4) from pk_lRem (a := xk * 16807 % 2147483647) (b := 4) (by omega) (by decide) (by decide)]
        exact lN_i _]
      refine z_istore_6 (pc := 42) dX3_cellarAfterWeek_42 (by decide) rfl ?_
      refine z_aload_0 (pc := 44) dX3_cellarAfterWeek_44 ?_
      refine y_getR (pc := 45) dX3_cellarAfterWeek_45 flX3_12 rfl (by first | rfl | assumption) (by first | rfl | assumption) ?_
      refine z_iload_6 (pc := 48) dX3_cellarAfterWeek_48 ?_
      refine z_V1 (pc := 50) dX3_cellarAfterWeek_50 mlX3_119 kX2_isMissing vX2_isMissing (by decide) (by decide) (by first | rfl | assumption) (Nat.le_of_ble_eq_true rfl) (qX2_isMissing rfl rfl rfl (xk * 16807 % 2147483647 % 4) rfl hi4) ⟨Nat.le_refl _, Nat.le_refl _⟩ (fun r h1 hq => ?_)
      obtain ⟨rfl, rfl⟩ := hq
      have hz0 := w2 (1 + xk * 16807 % 2147483647 % 4) (by omega)
      refine z_if_ne (pc := 53) (tgt := 91) dX3_cellarAfterWeek_53 (by decide) (fun c53 => ?_) (fun c53 => ?_)
      · skip
        have hz : c (1 + xk * 16807 % 2147483647 % 4) = 0 := by
          rw [zb_ne0] at c53
          rw [← hz0]; exact c53
        refine z_aload_0 (pc := 91) dX3_cellarAfterWeek_91 ?_
        refine y_getR (pc := 92) dX3_cellarAfterWeek_92 flX3_12 rfl (by first | rfl | assumption) (by first | rfl | assumption) ?_
        refine z_V0 (pc := 95) dX3_cellarAfterWeek_95 mlX3_127 kX2_passDay vX2_passDay (by decide) (by decide) (by first | rfl | assumption) (Nat.le_of_ble_eq_true rfl) (qX2_passDay rfl rfl rfl) ⟨Nat.le_refl _, Nat.le_refl _⟩ (fun r h1 hq => ?_)
        obtain ⟨rfl, rfl⟩ := hq
        refine z_iinc_5 (pc := 98) (1) dX3_cellarAfterWeek_98 rfl (by decide) rfl ?_
        refine z_goto (pc := 101) (tgt := 20) dX3_cellarAfterWeek_101 (by decide) ?_
        have k2 := week_loop (l := l) (J := J) (sd := sd) n T A B ht hn1 hWh m hm x0 hx0 f (k + 1) (zday I1 81) nw (.int (nI (xk * 16807 % 2147483647 % 4))) (by omega) (by omega) ?_ rfl
        · rw [hek, nI_succ] at k2
          exact k2
        · rw [hek]
          refine ⟨fun a h1 h2 => ?_, fun b hb => ?_, fun j hj => ?_⟩
          · funext b
            unfold zday
            rw [if_neg (fun q => h1 q.1), w1 a h1 h2]
          · show zday _ 81 81 b = zwday (if c (1 + xk * 16807 % 2147483647 % 4) = 0 then c else _) b
            rw [if_pos hz]
            exact zwday_19 w2 b hb
          · show zwday (if c (1 + xk * 16807 % 2147483647 % 4) = 0 then c else _) (1 + j) = _
            rw [if_pos hz, zwday_low _ hj]
            exact w3 j hj
      · skip
        have hz : ¬ c (1 + xk * 16807 % 2147483647 % 4) = 0 := by
          rw [zb_eq0] at c53
          exact fun q => c53 (hz0.trans q)
        refine z_aload_0 (pc := 56) dX3_cellarAfterWeek_56 ?_
        refine y_getR (pc := 57) dX3_cellarAfterWeek_57 flX3_22 rfl (by first | rfl | assumption) (by first | rfl | assumption) ?_
        refine y_getI (pc := 60) dX3_cellarAfterWeek_60 flX3_93 rfl (by first | rfl | assumption) ?_
        refine z_if_le (pc := 63) (tgt := 91) dX3_cellarAfterWeek_63 (by decide) (fun c63 => ?_) (fun c63 => ?_)
        · exact absurd c63 (by rw [w1 15 (by decide) (by omega), ht.2.1]; exact nI_nle hn1 (by omega))
        · skip
          refine z_aload_0 (pc := 66) dX3_cellarAfterWeek_66 ?_
          refine y_getR (pc := 67) dX3_cellarAfterWeek_67 flX3_26 rfl (by first | rfl | assumption) (by first | rfl | assumption) ?_
          refine z_aload_0 (pc := 70) dX3_cellarAfterWeek_70 ?_
          refine y_getR (pc := 71) dX3_cellarAfterWeek_71 flX3_12 rfl (by first | rfl | assumption) (by first | rfl | assumption) ?_
          refine z_iload_6 (pc := 74) dX3_cellarAfterWeek_74 ?_
          refine z_lload_3 (pc := 76) dX3_cellarAfterWeek_76 ?_
          refine z_aload_0 (pc := 77) dX3_cellarAfterWeek_77 ?_
          refine y_getR (pc := 78) dX3_cellarAfterWeek_78 flX3_22 rfl (by first | rfl | assumption) (by first | rfl | assumption) ?_
          refine y_getI (pc := 81) dX3_cellarAfterWeek_81 flX3_93 rfl (by first | rfl | assumption) ?_
          refine z_i2l (pc := 84) dX3_cellarAfterWeek_84 ?_
          rw [w1 15 (by decide) (by omega), ht.2.1, nI_l (by omega)]
          refine z_lrem (pc := 85) (fun q => by have := (pk_lEQ (a := n) (b := 0) (by omega) (by decide)).mp q; omega) dX3_cellarAfterWeek_85 ?_
          refine z_l2i (pc := 86) dX3_cellarAfterWeek_86 ?_
          rw [show (lN (xk * 16807 % 2147483647) - lN (xk * 16807 % 2147483647) / lN n * lN n).toInt32 = nI (xk * 16807 % 2147483647 % n) from by
            rw [pk_lRem (a := xk * 16807 % 2147483647) (b := n) (by omega) (by omega) (by omega)]
            exact lN_i _]
          obtain ⟨w, hw6, hwe⟩ : ∃ w, w < 6 ∧ I 22 (1 + xk * 16807 % 2147483647 % 4) = nI (w + 1) := (hWh _ hi4).resolve_left (by rw [← w3 _ hi4]; exact hz)
          have ewc : (c (1 + xk * 16807 % 2147483647 % 4) - 1).toNatClampNeg = w := by rw [w3 _ hi4, hwe, nI_pred, nI_clamp (by omega)]
          have ew : I1 81 (1 + xk * 16807 % 2147483647 % 4) - 1 = nI w := by rw [w2 _ (by omega), w3 _ hi4, hwe, nI_pred]
          have htt : zTown I1 n T A B := by
            unfold zTown at ht ⊢
            rw [w1 15 (by decide) (by omega), w1 16 (by decide) (by omega), w1 19 (by decide) (by omega), w1 20 (by decide) (by omega)]
            exact ht
          have eTe : zTe I1 (I1 16) n T A B (fun _ => false) (nI w) = zTe I (I 16) n T A B (fun _ => false) (nI w) := by unfold zTe; rw [w1 16 (by decide) (by omega), w1 17 (by decide) (by omega), w1 18 (by decide) (by omega)]
          refine z_V3 (pc := 87) dX3_cellarAfterWeek_87 mlX3_123 kX6_tapIn vX6_tapIn (by decide) (by decide) (by first | rfl | assumption) (Nat.le_of_ble_eq_true rfl) (qX6_tapIn_80 n T A B htt (xk * 16807 % 2147483647 % 4) rfl hi4 (xk * 16807 % 2147483647 % n) rfl hdn w hw6 ew) ⟨Nat.le_refl _, Nat.le_refl _⟩ (fun r h1 hq => ?_)
          obtain ⟨b0, I2, nw2, hb0, rfl, hF2, rfl⟩ := hq
          rw [eTe, w1 15 (by decide) (by omega), w2 _ (show 5 + _ < 19 by omega), w2 _ (show 9 + _ < 19 by omega)] at hb0
          refine z_pop (pc := 90) rfl dX3_cellarAfterWeek_90 ?_
          refine z_aload_0 (pc := 91) dX3_cellarAfterWeek_91 ?_
          refine y_getR (pc := 92) dX3_cellarAfterWeek_92 flX3_12 rfl (by first | rfl | assumption) (by first | rfl | assumption) ?_
          refine z_V0 (pc := 95) dX3_cellarAfterWeek_95 mlX3_127 kX2_passDay vX2_passDay (by decide) (by decide) (by first | rfl | assumption) (Nat.le_of_ble_eq_true rfl) (qX2_passDay rfl rfl rfl) ⟨Nat.le_refl _, Nat.le_refl _⟩ (fun r h1 hq => ?_)
          obtain ⟨rfl, rfl⟩ := hq
          refine z_iinc_5 (pc := 98) (1) dX3_cellarAfterWeek_98 rfl (by decide) rfl ?_
          refine z_goto (pc := 101) (tgt := 20) dX3_cellarAfterWeek_101 (by decide) ?_
          have k2 := week_loop (l := l) (J := J) (sd := sd) n T A B ht hn1 hWh m hm x0 hx0 f (k + 1) (zday (zup (zup I2 81 (13 + w) (I1 81 (13 + w) ||| b0)) 81 (5 + xk * 16807 % 2147483647 % 4) (if 0 < I1 81 (5 + xk * 16807 % 2147483647 % 4) - 1 then I1 81 (5 + xk * 16807 % 2147483647 % 4) - 1 else 0)) 81) nw2 (.int (nI (xk * 16807 % 2147483647 % 4))) (by omega) (by omega) ?_ rfl
          · rw [hek, nI_succ] at k2
            exact k2
          · rw [hek]
            refine ⟨fun a h1 h2 => ?_, fun b hb => ?_, fun j hj => ?_⟩
            · funext b
              unfold zday
              rw [if_neg (fun q => h1 q.1), zup_nk _ _ h1, zup_nk _ _ h1, hF2 a h2, w1 a h1 h2]
            · show zday _ 81 81 b = zwday (if c (1 + xk * 16807 % 2147483647 % 4) = 0 then c else _) b
              rw [if_neg hz]
              refine zwday_19 (fun b hb => ?_) b hb
              unfold zwtap
              rw [ewc]
              unfold upd
              by_cases h5 : b = 5 + xk * 16807 % 2147483647 % 4
              · subst h5; rw [zup_same, if_pos rfl, w2 _ (by omega)]
              · rw [zup_nj _ _ h5, if_neg h5]
                by_cases h13 : b = 13 + w
                · subst h13; rw [zup_same, if_pos rfl, w2 _ (by omega), hb0]
                · rw [zup_nj _ _ h13, if_neg h13, hF2 81 (by omega)]; exact w2 b hb
            · show zwday (if c (1 + xk * 16807 % 2147483647 % 4) = 0 then c else _) (1 + j) = _
              rw [if_neg hz, zwday_low _ hj]
              unfold zwtap upd
              rw [if_neg (by omega), if_neg (by omega)]
              exact w3 j hj
set_option maxRecDepth 100000 in
set_option maxHeartbeats 4000000 in
theorem qX3_cellarAfterWeek {l : zL} {I : Nat → Nat → Int32} {J : Nat → Nat → Int64} {nw : Bool} (n T : Nat) (A B : Nat → Nat) (ht : zTown I n T A B) (hn1 : 1 ≤ n) (hWh : ∀ i, i < 4 → I 22 (1 + i) = 0 ∨ ∃ w, w < 6 ∧ I 22 (1 + i) = nI (w + 1)) {x y : Int32} (m : Nat) (hm : m ≤ 60) (hx : x = nI m) (x0 : Nat) (hx0 : x0 < 2147483647) (hy : y = nI x0) : zP l mX3_cellarAfterWeek [.ref 79, .int x, .int y] (hh I J nw) (fun r h1 => r = some (.ref 80) ∧ ∃ I2 nw2, h1 = (I2, J, RF nw2, SH) ∧ zWkI I I2 (zwk I n T A B (x0, I 22) m).2) := by
  refine z_start [.ref 79, .int x, .int y, zno, zno, zno, zno] (by decide +kernel) (Nat.le_of_ble_eq_true rfl) rfl ?_
  refine z_iload_2 (pc := 0) dX3_cellarAfterWeek_0 ?_
  refine z_i2l (pc := 1) dX3_cellarAfterWeek_1 ?_
  refine z_lstore_3 (pc := 2) dX3_cellarAfterWeek_2 (by decide) rfl ?_
  refine z_aload_0 (pc := 3) dX3_cellarAfterWeek_3 ?_
  refine y_getR (pc := 4) dX3_cellarAfterWeek_4 flX3_12 rfl (by first | rfl | assumption) (by first | rfl | assumption) ?_
  refine z_aload_0 (pc := 7) dX3_cellarAfterWeek_7 ?_
  refine y_getR (pc := 8) dX3_cellarAfterWeek_8 flX3_22 rfl (by first | rfl | assumption) (by first | rfl | assumption) ?_
  refine y_getR (pc := 11) dX3_cellarAfterWeek_11 flX3_73 rfl (by first | rfl | assumption) (by first | rfl | assumption) ?_
  refine z_V1 (pc := 14) dX3_cellarAfterWeek_14 mlX3_109 kX2_become vX2_become (by decide) (by decide) (by first | rfl | assumption) (Nat.le_of_ble_eq_true rfl) (qX2_become rfl rfl rfl rfl rfl rfl) ⟨Nat.le_refl _, Nat.le_refl _⟩ (fun r h1 hq => ?_)
  obtain ⟨rfl, rfl⟩ := hq
  refine z_iconst (pc := 17) (0) dX3_cellarAfterWeek_17 rfl ?_
  refine z_istore_5 (pc := 18) dX3_cellarAfterWeek_18 (by decide) rfl ?_
  rw [hx, hy, nI_l (by omega)]
  have k := week_loop (l := l) (J := J) (sd := nI x0) n T A B ht hn1 hWh m hm x0 hx0 (m + 1) 0 (zcpy I 22 81 0 0 19) nw zno (by omega) (by omega) ⟨fun a h1 h2 => by funext b; unfold zcpy; rw [if_neg h1], fun b hb => by unfold zcpy; rw [if_pos rfl]; unfold va_cpy; rw [if_pos (by omega)]; simp [zwk], fun i hi => rfl⟩ rfl
  exact k
