def mwb (I : Nat → Nat → Int32) (n T : Nat) (A B : Nat → Nat) (t : Nat → Int32) (i d : Nat) : Int32 := nI (bs (zgo (zmT I 90 n T A B (fun _ => false) (t (48 + i))) (fun e => e == d) (zst (I 90 0) (I 90 1) (t (52 + i)) (t (56 + i)))).2)
def mwtap (I : Nat → Nat → Int32) (n T : Nat) (A B : Nat → Nat) (t : Nat → Int32) (i d : Nat) : Nat → Int32 := upd (upd t (60 + (t (48 + i)).toNatClampNeg) (t (60 + (t (48 + i)).toNatClampNeg) ||| mwb I n T A B t i d)) (52 + i) (t (52 + i) - (if ¬ t (52 + i) ≤ 0 then 1 else 0))
def mwday (t : Nat → Int32) : Nat → Int32 := fun b => if 56 ≤ b ∧ b < 60 then t b + t (b - 12) else if b = 5 then t 5 + 1 else t b
def mwst (I : Nat → Nat → Int32) (n T : Nat) (A B : Nat → Nat) (s : Nat × (Nat → Int32)) : Nat × (Nat → Int32) := (s.1 * 16807 % 2147483647, mwday (if s.2 (44 + s.1 * 16807 % 2147483647 % 4) = 1 then mwtap I n T A B s.2 (s.1 * 16807 % 2147483647 % 4) (s.1 * 16807 % 2147483647 % n) else s.2))
def mwk (I : Nat → Nat → Int32) (n T : Nat) (A B : Nat → Nat) (s : Nat × (Nat → Int32)) : Nat → Nat × (Nat → Int32)
  | 0 => s
  | k + 1 => mwst I n T A B (mwk I n T A B s k)
theorem mwk_lt (I : Nat → Nat → Int32) (n T : Nat) (A B : Nat → Nat) {s : Nat × (Nat → Int32)} (hs : s.1 < 2147483647) : ∀ k, (mwk I n T A B s k).1 < 2147483647
  | 0 => hs
  | k + 1 => Nat.mod_lt _ (by decide)
theorem malt_down : ∀ q, q ≤ 20 → nI q - (if ¬ nI q ≤ 0 then 1 else 0) = nI (q - 1) := by decide +kernel
theorem set_or {z : Nat} (hz : z < 64) (f : Nat → Bool) : ∃ y, y < 64 ∧ nI z ||| nI (bs f) = nI y := by
  refine ⟨_, bs_lt (fun e => zbt z e || f e), ?_⟩
  rw [← bs_or, bs_bits z hz]
/-- what keeps as days go -/
def zWv (I : Nat → Nat → Int32) (t : Nat → Int32) : Prop := (∀ b, b < 44 → b ≠ 5 → t b = I 90 b) ∧ (∀ b, 44 ≤ b → b < 52 → t b = I 90 b) ∧ (∀ i, i < 4 → ∃ q, q ≤ 20 ∧ t (52 + i) = nI q) ∧ ∀ k, k < 6 → ∃ z, z < 64 ∧ t (60 + k) = nI z
theorem zWv_day {I : Nat → Nat → Int32} {t : Nat → Int32} (h : zWv I t) : zWv I (mwday t) := by
  refine ⟨fun b h1 h2 => ?_, fun b h1 h2 => ?_, fun i hi => ?_, fun k hk => ?_⟩ <;> unfold mwday
  · rw [if_neg (by omega), if_neg h2]; exact h.1 b h1 h2
  · rw [if_neg (by omega), if_neg (by omega)]; exact h.2.1 b h1 h2
  · rw [if_neg (by omega), if_neg (by omega)]; exact h.2.2.1 i hi
  · rw [if_neg (by omega), if_neg (by omega)]; exact h.2.2.2 k hk
theorem zWv_tap {I : Nat → Nat → Int32} {n T : Nat} {A B : Nat → Nat} {t : Nat → Int32} (h : zWv I t) {i u d : Nat} (hi : i < 4) (hu : u < 6) (eu : t (48 + i) = nI u) : zWv I (mwtap I n T A B t i d) := by
  have hcu : (nI u).toNatClampNeg = u := nI_clamp (by omega)
  refine ⟨fun b h1 h2 => ?_, fun b h1 h2 => ?_, fun j hj => ?_, fun k hk => ?_⟩ <;> unfold mwtap <;> rw [eu, hcu]
  · rw [pk_un (by omega), pk_un (by omega)]; exact h.1 b h1 h2
  · rw [pk_un (by omega), pk_un (by omega)]; exact h.2.1 b h1 h2
  · by_cases q : j = i
    · subst q
      obtain ⟨m, hm, e⟩ := h.2.2.1 j hj
      rw [pk_us, e, malt_down m hm]
      exact ⟨m - 1, by omega, rfl⟩
    · rw [pk_un (by omega), pk_un (by omega)]; exact h.2.2.1 j hj
  · rw [pk_un (by omega)]
    by_cases q : k = u
    · subst q
      obtain ⟨m, hm, e⟩ := h.2.2.2 k hk
      rw [pk_us, e]
      exact set_or hm _
    · rw [pk_un (by omega)]; exact h.2.2.2 k hk
theorem zWv_st {I : Nat → Nat → Int32} {n T : Nat} {A B : Nat → Nat} (hw : ∀ i, i < 4 → ¬ I 90 (44 + i) = 0 → ∃ u, u < 6 ∧ I 90 (48 + i) = nI u) {s : Nat × (Nat → Int32)} (h : zWv I s.2) : zWv I (mwst I n T A B s).2 := by
  have h4 : s.1 * 16807 % 2147483647 % 4 < 4 := Nat.mod_lt _ (by decide)
  refine zWv_day ?_
  by_cases q : s.2 (44 + s.1 * 16807 % 2147483647 % 4) = 1
  · rw [if_pos q]
    rw [h.2.1 _ (by omega) (by omega)] at q
    obtain ⟨u, hu, eu⟩ := hw _ h4 (by rw [q]; decide)
    exact zWv_tap h h4 hu (by rw [h.2.1 _ (by omega) (by omega)]; exact eu)
  · rw [if_neg q]; exact h
theorem zWv_k {I : Nat → Nat → Int32} {n T : Nat} {A B : Nat → Nat} (hw : ∀ i, i < 4 → ¬ I 90 (44 + i) = 0 → ∃ u, u < 6 ∧ I 90 (48 + i) = nI u) {s : Nat × (Nat → Int32)} (h : zWv I s.2) : ∀ k, zWv I (mwk I n T A B s k).2
  | 0 => h
  | k + 1 => zWv_st hw (zWv_k hw h k)
theorem zRT_map5 {I I2 : Nat → Nat → Int32} {K K2 n T : Nat} {A B : Nat → Nat} (h : zRT I K n T A B) (hk : ∀ b, b < 44 → b ≠ 5 → I2 K2 b = I K b) : zRT I2 K2 n T A B := by
  obtain ⟨h1, h2, h3, h4, h5, h6, h7⟩ := h
  refine ⟨h1, by rw [hk 3 (by omega) (by omega)]; exact h2, h3, by rw [hk 4 (by omega) (by omega)]; exact h4, fun k q => ?_, fun k q => ?_, fun d q => ?_⟩
  · rw [hk (24 + k) (by omega) (by omega)]; exact h5 k q
  · rw [hk (34 + k) (by omega) (by omega)]; exact h6 k q
  · rw [hk (6 + d) (by omega) (by omega)]; exact h7 d q
def zWh (I I1 : Nat → Nat → Int32) (t : Nat → Int32) : Prop := zEm I I1 ∧ ∀ b, b < 66 → I1 99 b = t b
theorem zWh_day {I I1 : Nat → Nat → Int32} {t : Nat → Int32} (h : zWh I I1 t) : zWh I (zDg I1 99) (mwday t) := by
  refine ⟨fun x y hn => ?_, fun b hb => ?_⟩
  · rw [zDg_ne I1 (fun q => hn (by simp [q]))]; exact h.1 x y hn
  · unfold zDg mwday
    rw [if_pos rfl]
    by_cases q : 56 ≤ b ∧ b < 60
    · rw [if_pos q, if_pos q, h.2 b hb, h.2 (b - 12) (by omega)]
    · rw [if_neg q, if_neg q, h.2 b hb, h.2 5 (by omega)]
theorem zWh_tap {I I1 I2 : Nat → Nat → Int32} {t : Nat → Int32} {n T : Nat} {A B : Nat → Nat} {i u d : Nat} (h : zWh I I1 t) (hF : zTF I1 I2) (hu : u < 6) (hi : i < 4) (eu : t (48 + i) = nI u) : zWh I (zup (zup I2 99 (60 + u) (I1 99 (60 + u) ||| mwb I n T A B t i d)) 99 (52 + i) (I1 99 (52 + i) - (if ¬ I1 99 (52 + i) ≤ 0 then 1 else 0))) (mwtap I n T A B t i d) := by
  refine ⟨zEm_99 (zEm_99 (zEm_TF h.1 hF)), fun b hb => ?_⟩
  have e99 : I2 99 = I1 99 := hF.1 99 (by decide) (by decide) (by decide) (by decide)
  unfold mwtap
  rw [eu, nI_clamp (by omega), h.2 (52 + i) (by omega), h.2 (60 + u) (by omega)]
  by_cases q : b = 52 + i
  · subst q; rw [zup_on, pk_us]
  · rw [zup_no (Or.inr q), pk_un q]
    by_cases q2 : b = 60 + u
    · subst q2; rw [zup_on, pk_us]
    · rw [zup_no (Or.inr q2), pk_un q2, e99]; exact h.2 b hb
theorem mwb_eq {I I1 : Nat → Nat → Int32} {t : Nat → Int32} {n T : Nat} {A B : Nat → Nat} {i d : Nat} (hn : n ≤ 6) (hi : i < 4) (h : zWh I I1 t) (hv : zWv I t) : nI (bs (zgo (zmT I1 99 n T A B (fun _ => false) (I1 99 (48 + i))) (fun e => e == d) (zst (I1 99 0) (I1 99 1) (I1 99 (52 + i)) (I1 99 (56 + i)))).2) = mwb I n T A B t i d := by
  unfold mwb
  have hl : ∀ b, b < 44 → b ≠ 5 → I1 99 b = I 90 b := fun b h1 h2 => by rw [h.2 b (by omega)]; exact hv.1 b h1 h2
  rw [hl 0 (by omega) (by omega), hl 1 (by omega) (by omega), h.2 (48 + i) (by omega), h.2 (52 + i) (by omega), h.2 (56 + i) (by omega)]
  rw [zgo_congr (t := zmT I1 99 n T A B (fun _ => false) (t (48 + i))) (u := zmT I 90 n T A B (fun _ => false) (t (48 + i)))]
  refine ⟨rfl, rfl, fun d hd => ?_⟩
  have hd : d < n := hd
  refine ⟨hl (6 + d) (by omega) (by omega), hl (12 + d) (by omega) (by omega), hl (18 + d) (by omega) (by omega), fun e => ?_⟩
  show (if I1 99 (6 + d) = 5 then _ else _) = (if I 90 (6 + d) = 5 then _ else _)
  rw [hl (6 + d) (by omega) (by omega)]
def mDrw (I : Nat → Nat → Int32) (n T : Nat) (A B : Nat → Nat) (m x w : Int32) : Int32 := if I 85 7 = 0 then -1000002 else if zlt m 61 = true ∧ (¬ x < 1 ∧ x ≤ 999999) ∧ zlt w 2 = true then (if w = 0 then 0 + zbc ((mwk I n T A B (x.toNatClampNeg, I 90) m.toNatClampNeg).2 60) + zbc ((mwk I n T A B (x.toNatClampNeg, I 90) m.toNatClampNeg).2 61) + zbc ((mwk I n T A B (x.toNatClampNeg, I 90) m.toNatClampNeg).2 62) + zbc ((mwk I n T A B (x.toNatClampNeg, I 90) m.toNatClampNeg).2 63) + zbc ((mwk I n T A B (x.toNatClampNeg, I 90) m.toNatClampNeg).2 64) + zbc ((mwk I n T A B (x.toNatClampNeg, I 90) m.toNatClampNeg).2 65) else 0 + (mwk I n T A B (x.toNatClampNeg, I 90) m.toNatClampNeg).2 52 + (mwk I n T A B (x.toNatClampNeg, I 90) m.toNatClampNeg).2 53 + (mwk I n T A B (x.toNatClampNeg, I 90) m.toNatClampNeg).2 54 + (mwk I n T A B (x.toNatClampNeg, I 90) m.toNatClampNeg).2 55) else -1000001
set_option maxRecDepth 100000 in
set_option maxHeartbeats 4000000 in
theorem mdrw_loop {l : zL} {I : Nat → Nat → Int32} {J : Nat → Nat → Int64} {nw : Bool} (n T : Nat) (A B : Nat → Nat) (ht : zRT I 90 n T A B) (hn1 : 1 ≤ n) (hw : ∀ i, i < 4 → ¬ I 90 (44 + i) = 0 → ∃ u, u < 6 ∧ I 90 (48 + i) = nI u) (hV : zWv I (I 90)) (m x0 : Nat) (hm : m ≤ 60) (hx0 : x0 < 2147483647) {sd w : Int32} {Q : Option Value → zH → Prop} (hQ : ∀ (I2 : Nat → Nat → Int32) (v6 v7 v8 : Value), v7.category = 1 → zWh I I2 (mwk I n T A B (x0, I 90) m).2 → zW l mX9_drawn SH.length (zsl SH) 141 [.ref 85, .int (nI m), .int sd, .int w, .long (lN (mwk I n T A B (x0, I 90) m).1), zno, v6, v7, v8] [] (I2, J, RF nw, SH) Q) : ∀ (f k : Nat) (I1 : Nat → Nat → Int32) (v7 v8 : Value), v7.category = 1 → zWh I I1 (mwk I n T A B (x0, I 90) k).2 → k ≤ m → m - k < f →
    zW l mX9_drawn SH.length (zsl SH) 64 [.ref 85, .int (nI m), .int sd, .int w, .long (lN (mwk I n T A B (x0, I 90) k).1), zno, .int (nI k), v7, v8] [] (I1, J, RF nw, SH) Q
  | 0, k, _, _, _, _, _, _, hf => by omega
  | f + 1, k, I1, v7, v8, h7, hH, hk, hf => by
    have hn6 := ht.1
    have hv := zWv_k (n := n) (T := T) (A := A) (B := B) hw (s := (x0, I 90)) hV k
    have hxl := mwk_lt I n T A B (s := (x0, I 90)) hx0 k
    have hek : mwk I n T A B (x0, I 90) (k + 1) = mwst I n T A B (mwk I n T A B (x0, I 90) k) := rfl
    generalize hgen : mwk I n T A B (x0, I 90) k = sk at hH hv hxl hek ⊢
    obtain ⟨xk, t⟩ := sk
    dsimp only at hH hv hxl ⊢
    have hl1 : xk * 16807 % 2147483647 < 2147483647 := Nat.mod_lt _ (by decide)
    have hi4 : xk * 16807 % 2147483647 % 4 < 4 := Nat.mod_lt _ (by decide)
    have hdn : xk * 16807 % 2147483647 % n < n := Nat.mod_lt _ (by omega)
    have hl : ∀ b, b < 44 → b ≠ 5 → I1 99 b = I 90 b := fun b h1 h2 => by rw [hH.2 b (by omega)]; exact hv.1 b h1 h2
    refine z_iload_6 (pc := 64) dX9_drawn_64 ?_
    refine z_iload_1 (pc := 66) dX9_drawn_66 ?_
    refine z_icmp_ge (pc := 67) (tgt := 141) dX9_drawn_67 (by decide) (fun c67 => ?_) (fun c67 => ?_)
    · skip
      have hkn : k = m := by
        rcases Nat.lt_or_ge k m with q | q
        · exact absurd c67 (nI_ge (b := m) q (by omega))
        · omega
      rw [show (lN xk) = lN (xk, t).1 from rfl, ← hgen, hkn]
      exact hQ _ _ _ _ h7 (by rw [← hkn, hgen]; exact hH)
    · skip
      have hlt : k < m := by
        rcases Nat.lt_or_ge k m with q | q
        · exact q
        · exact absurd (nI_le (a := m) q (by omega)) c67
      refine z_lload_4 (pc := 70) dX9_drawn_70 ?_
      refine z_ldc2 (pc := 72) dX9_drawn_72 kcX9_264 ?_
      refine z_lmul (pc := 75) dX9_drawn_75 ?_
      refine z_ldc2 (pc := 76) dX9_drawn_76 kcX9_266 ?_
      refine z_lrem (pc := 79) (by first | assumption | decide) dX9_drawn_79 ?_
      rw [show lN xk * 16807 - lN xk * 16807 / 2147483647 * 2147483647 = lN (xk * 16807 % 2147483647) from by
        rw [show lN xk * 16807 = lN (xk * 16807) from lN_mul xk 16807]
        exact pk_lRem (a := xk * 16807) (b := 2147483647) (by omega) (by decide) (by decide)]
      refine z_lstore_4 (pc := 80) dX9_drawn_80 (by decide) rfl ?_
      refine z_lload_4 (pc := 82) dX9_drawn_82 ?_
      refine z_ldc2 (pc := 84) dX9_drawn_84 kcX9_229 ?_
      refine z_lrem (pc := 87) (by first | assumption | decide) dX9_drawn_87 ?_
      refine z_l2i (pc := 88) dX9_drawn_88 ?_
      rw [show (lN (xk * 16807 % 2147483647) - lN (xk * 16807 % 2147483647) / 4 * 4).toInt32 = nI (xk * 16807 % 2147483647 % 4) from by
        rw [show lN (xk * 16807 % 2147483647) - lN (xk * 16807 % 2147483647) / 4 * 4 = lN (xk * 16807 % 2147483647 % 4) from pk_lRem (a := xk * 16807 % 2147483647) (b := 4) (by omega) (by decide) (by decide)]
        exact lN_i _]
      refine z_istore_7 (pc := 89) dX9_drawn_89 (by decide) rfl ?_
      refine z_aload_0 (pc := 91) dX9_drawn_91 ?_
      refine y_getR (pc := 92) dX9_drawn_92 flX9_50 rfl (by first | rfl | assumption) (by first | rfl | assumption) ?_
      refine z_bipush (pc := 95) (44) dX9_drawn_95 rfl ?_
      refine z_iload_7 (pc := 97) dX9_drawn_97 ?_
      refine z_iadd (pc := 99) dX9_drawn_99 ?_
      refine y_ialdN (pc := 100) (44 + xk * 16807 % 2147483647 % 4) dX9_drawn_100 (by first | rfl | assumption) (nI_add 44 _) (by omega) (by first | decide | omega) ?_
      refine z_iconst (pc := 101) (1) dX9_drawn_101 rfl ?_
      refine z_icmp_ne (pc := 102) (tgt := 128) dX9_drawn_102 (by decide) (fun c102 => ?_) (fun c102 => ?_)
      · skip
        rw [hH.2 _ (by omega)] at c102
        have ht1 : ¬ t (44 + xk * 16807 % 2147483647 % 4) = 1 := c102
        refine z_aload_0 (pc := 128) dX9_drawn_128 ?_
        refine y_getR (pc := 129) dX9_drawn_129 flX9_50 rfl (by first | rfl | assumption) (by first | rfl | assumption) ?_
        refine z_S1 (pc := 132) dX9_drawn_132 mlX9_209 kX9_dayGoes vX9_dayGoes (by decide) (by decide) (Nat.le_of_ble_eq_true rfl) (qX9_dayGoes 99 rfl) ⟨Nat.le_refl _, Nat.le_refl _⟩ (fun r h1 hq => ?_)
        obtain ⟨rfl, rfl⟩ := hq
        refine z_iinc_6 (pc := 135) (1) dX9_drawn_135 rfl (by decide) rfl ?_
        refine z_goto (pc := 138) (tgt := 64) dX9_drawn_138 (by decide) ?_
        rw [← nI_succ]
        have kk := mdrw_loop n T A B ht hn1 hw hV m x0 hm hx0 (sd := sd) (w := w) hQ f (k + 1) _ (.int (nI (xk * 16807 % 2147483647 % 4))) v8 rfl (zWh_day (t := t) hH |> (fun z => by rw [hek]; unfold mwst; rw [if_neg ht1]; exact z)) (by omega) (by omega)
        rw [hek] at kk
        exact kk
      · skip
        rw [hH.2 _ (by omega)] at c102
        have ht1 : t (44 + xk * 16807 % 2147483647 % 4) = 1 := c102
        obtain ⟨u, hu, eu⟩ := hw _ hi4 (by rw [← hv.2.1 (44 + xk * 16807 % 2147483647 % 4) (by omega) (by omega), ht1]; decide)
        have eut : t (48 + xk * 16807 % 2147483647 % 4) = nI u := by rw [hv.2.1 _ (by omega) (by omega)]; exact eu
        obtain ⟨mq, hmq, emq⟩ := hv.2.2.1 _ hi4
        refine z_aload_0 (pc := 105) dX9_drawn_105 ?_
        refine z_aload_0 (pc := 106) dX9_drawn_106 ?_
        refine y_getR (pc := 107) dX9_drawn_107 flX9_50 rfl (by first | rfl | assumption) (by first | rfl | assumption) ?_
        refine z_iload_7 (pc := 110) dX9_drawn_110 ?_
        refine z_lload_4 (pc := 112) dX9_drawn_112 ?_
        refine z_aload_0 (pc := 114) dX9_drawn_114 ?_
        refine y_getR (pc := 115) dX9_drawn_115 flX9_50 rfl (by first | rfl | assumption) (by first | rfl | assumption) ?_
        refine z_iconst (pc := 118) (3) dX9_drawn_118 rfl ?_
        refine y_ialdN (pc := 119) (3) dX9_drawn_119 (by first | rfl | assumption) (rfl) (by decide) (by first | decide | omega) ?_
        refine z_i2l (pc := 120) dX9_drawn_120 ?_
        rw [hl 3 (by omega) (by omega), ht.2.1, nI_l (by omega)]
        refine z_lrem (pc := 121) (fun q => by have := (pk_lEQ (a := n) (b := 0) (by omega) (by decide)).mp q; omega) dX9_drawn_121 ?_
        refine z_l2i (pc := 122) dX9_drawn_122 ?_
        rw [show (lN (xk * 16807 % 2147483647) - lN (xk * 16807 % 2147483647) / lN n * lN n).toInt32 = nI (xk * 16807 % 2147483647 % n) from by
          rw [pk_lRem (a := xk * 16807 % 2147483647) (b := n) (by omega) (by omega) (by omega)]
          exact lN_i _]
        refine z_V3 (pc := 123) dX9_drawn_123 mlX9_219 kX9_taps vX9_taps (by decide) (by decide) (by first | rfl | assumption) (Nat.le_of_ble_eq_true rfl) (qX9_taps 99 rfl (by decide) n T A B (zRT_map5 ht hl) (xk * 16807 % 2147483647 % 4) rfl hi4 (by rw [hH.2 (52 + _) (by omega), emq]; exact zst_malt hmq _ _ _) (xk * 16807 % 2147483647 % n) rfl (by omega) u hu (by rw [hH.2 _ (by omega)]; exact eut)) ⟨Nat.le_refl _, Nat.le_refl _⟩ (fun r h1 hq => ?_)
        obtain ⟨I2, rfl, hO, rfl⟩ := hq
        have hH2 : zWh I (zup (zup I2 99 (60 + u) (I1 99 (60 + u) ||| nI (bs (zgo (zmT I1 99 n T A B (fun _ => false) (I1 99 (48 + (xk * 16807 % 2147483647 % 4)))) (fun e => e == (xk * 16807 % 2147483647 % n)) (zst (I1 99 0) (I1 99 1) (I1 99 (52 + (xk * 16807 % 2147483647 % 4))) (I1 99 (56 + (xk * 16807 % 2147483647 % 4))))).2))) 99 (52 + (xk * 16807 % 2147483647 % 4)) (I1 99 (52 + (xk * 16807 % 2147483647 % 4)) - (if ¬ I1 99 (52 + (xk * 16807 % 2147483647 % 4)) ≤ 0 then 1 else 0))) (mwtap I n T A B t (xk * 16807 % 2147483647 % 4) (xk * 16807 % 2147483647 % n)) := by
          rw [mwb_eq hn6 hi4 hH hv]
          exact zWh_tap hH (zTF_next (zTF_refl I1) hO) hu hi4 eut
        refine z_istore_8 (pc := 126) dX9_drawn_126 (by decide) rfl ?_
        refine z_aload_0 (pc := 128) dX9_drawn_128 ?_
        refine y_getR (pc := 129) dX9_drawn_129 flX9_50 rfl (by first | rfl | assumption) (by first | rfl | assumption) ?_
        refine z_S1 (pc := 132) dX9_drawn_132 mlX9_209 kX9_dayGoes vX9_dayGoes (by decide) (by decide) (Nat.le_of_ble_eq_true rfl) (qX9_dayGoes 99 rfl) ⟨Nat.le_refl _, Nat.le_refl _⟩ (fun r h1 hq => ?_)
        obtain ⟨rfl, rfl⟩ := hq
        refine z_iinc_6 (pc := 135) (1) dX9_drawn_135 rfl (by decide) rfl ?_
        refine z_goto (pc := 138) (tgt := 64) dX9_drawn_138 (by decide) ?_
        rw [← nI_succ]
        have kk := mdrw_loop n T A B ht hn1 hw hV m x0 hm hx0 (sd := sd) (w := w) hQ f (k + 1) _ (.int (nI (xk * 16807 % 2147483647 % 4))) (.int (nI (bs (zgo (zmT I1 99 n T A B (fun _ => false) (I1 99 (48 + (xk * 16807 % 2147483647 % 4)))) (fun e => e == (xk * 16807 % 2147483647 % n)) (zst (I1 99 0) (I1 99 1) (I1 99 (52 + (xk * 16807 % 2147483647 % 4))) (I1 99 (56 + (xk * 16807 % 2147483647 % 4))))).2))) rfl (zWh_day (t := mwtap I n T A B t (xk * 16807 % 2147483647 % 4) (xk * 16807 % 2147483647 % n)) hH2 |> (fun z => by rw [hek]; unfold mwst; rw [if_pos ht1]; exact z)) (by omega) (by omega)
        rw [hek] at kk
        exact kk
set_option maxRecDepth 100000 in
set_option maxHeartbeats 4000000 in
theorem qX9_drawn {l : zL} {I : Nat → Nat → Int32} {J : Nat → Nat → Int64} {nw : Bool} (n T : Nat) (A B : Nat → Nat) (ht : zRT I 90 n T A B) (hn1 : ¬ I 85 7 = 0 → 1 ≤ n) (hw : ∀ i, i < 4 → ¬ I 90 (44 + i) = 0 → ∃ u, u < 6 ∧ I 90 (48 + i) = nI u) (hV : zWv I (I 90)) {m x w : Int32} : zP l mX9_drawn [.ref 85, .int m, .int x, .int w] (hh I J nw) (zPMe (mDrw I n T A B m x w, I) J nw) := by
  refine z_start [.ref 85, .int m, .int x, .int w, zno, zno, zno, zno, zno] (by decide +kernel) (Nat.le_of_ble_eq_true rfl) rfl ?_
  refine z_aload_0 (pc := 0) dX9_drawn_0 ?_
  refine y_getI (pc := 1) dX9_drawn_1 flX9_143 rfl (by first | rfl | assumption) ?_
  refine z_if_ne (pc := 4) (tgt := 10) dX9_drawn_4 (by decide) (fun c4 => ?_) (fun c4 => ?_)
  · skip
    refine z_iload_1 (pc := 10) dX9_drawn_10 ?_
    refine z_i2l (pc := 11) dX9_drawn_11 ?_
    refine z_lconst (pc := 12) 0 dX9_drawn_12 rfl ?_
    refine z_ldc2 (pc := 13) dX9_drawn_13 kcX9_260 ?_
    refine z_S3 (pc := 16) dX9_drawn_16 mlX9_60 kX9_in vX9_in (by decide) (by decide) (Nat.le_of_ble_eq_true rfl) (qX9_in) ⟨Nat.le_refl _, Nat.le_refl _⟩ (fun r h1 hq => ?_)
    obtain ⟨rfl, rfl⟩ := hq
    refine z_if_eq (pc := 19) (tgt := 41) dX9_drawn_19 (by decide) (fun c19 => ?_) (fun c19 => ?_)
    · skip
      refine z_ldc (pc := 41) dX9_drawn_41 kcX9_70 ?_
      refine z_ret (pc := 43) (r := some (.int _)) rfl dX9_drawn_43 trivial rfl rfl ?_
      refine zPMe_of (Prod.ext ?_ rfl)
      show mDrw _ _ _ _ _ _ _ _ = _
      unfold mDrw
      rw [in_zlt (m := 61) (by decide)] at c19
      rw [if_neg c4]
      rw [if_neg (fun q => by rw [(zbb0 _).mp c19] at q; exact absurd q.1 (by decide))]
    · skip
      refine z_iload_2 (pc := 22) dX9_drawn_22 ?_
      refine z_i2l (pc := 23) dX9_drawn_23 ?_
      refine z_lconst (pc := 24) 1 dX9_drawn_24 rfl ?_
      refine z_ldc2 (pc := 25) dX9_drawn_25 kcX9_262 ?_
      refine z_S3 (pc := 28) dX9_drawn_28 mlX9_60 kX9_in vX9_in (by decide) (by decide) (Nat.le_of_ble_eq_true rfl) (qX9_in) ⟨Nat.le_refl _, Nat.le_refl _⟩ (fun r h1 hq => ?_)
      obtain ⟨rfl, rfl⟩ := hq
      refine z_if_eq (pc := 31) (tgt := 41) dX9_drawn_31 (by decide) (fun c31 => ?_) (fun c31 => ?_)
      · skip
        refine z_ldc (pc := 41) dX9_drawn_41 kcX9_70 ?_
        refine z_ret (pc := 43) (r := some (.int _)) rfl dX9_drawn_43 trivial rfl rfl ?_
        refine zPMe_of (Prod.ext ?_ rfl)
        show mDrw _ _ _ _ _ _ _ _ = _
        unfold mDrw
        rw [in_dec (a' := 1) (c' := 999999) (by decide) (by decide)] at c31
        rw [if_neg c4, if_neg (fun q => of_decide_eq_false ((zbb0 _).mp c31) q.2.1)]
      · skip
        refine z_iload_3 (pc := 34) dX9_drawn_34 ?_
        refine z_S1 (pc := 35) dX9_drawn_35 mlX9_242 kX9_isTwo vX9_isTwo (by decide) (by decide) (Nat.le_of_ble_eq_true rfl) (qX9_isTwo) ⟨Nat.le_refl _, Nat.le_refl _⟩ (fun r h1 hq => ?_)
        obtain ⟨rfl, rfl⟩ := hq
        refine z_if_ne (pc := 38) (tgt := 44) dX9_drawn_38 (by decide) (fun c38 => ?_) (fun c38 => ?_)
        · skip
          rw [in_zlt (m := 61) (by decide)] at c19
          rw [in_dec (a' := 1) (c' := 999999) (by decide) (by decide)] at c31
          have hz := of_decide_eq_true ((zbb1 _).mp c31)
          obtain ⟨m, hm, rfl⟩ := zlt_nI (by decide) ((zbb1 _).mp c19)
          obtain ⟨x0, hx0, rfl⟩ := nI_of2 (x := x) (M := 999999) (n := 999999) (by decide) (fun q => hz.1 (Int32.lt_trans q (by decide))) hz.2
          have hcm : (nI m).toNatClampNeg = m := nI_clamp (by omega)
          have hcx : (nI x0).toNatClampNeg = x0 := nI_clamp (by omega)
          have hqq : zlt (nI m) 61 = true ∧ (¬ nI x0 < 1 ∧ nI x0 ≤ 999999) ∧ zlt w 2 = true := ⟨zlt_of hm (by decide), hz, (zbb1 _).mp c38⟩
          refine z_aload_0 (pc := 44) dX9_drawn_44 ?_
          refine y_getR (pc := 45) dX9_drawn_45 flX9_22 rfl (by first | rfl | assumption) (by first | rfl | assumption) ?_
          refine z_iconst (pc := 48) (0) dX9_drawn_48 rfl ?_
          refine z_aload_0 (pc := 49) dX9_drawn_49 ?_
          refine y_getR (pc := 50) dX9_drawn_50 flX9_50 rfl (by first | rfl | assumption) (by first | rfl | assumption) ?_
          refine z_iconst (pc := 53) (0) dX9_drawn_53 rfl ?_
          refine z_S4 (pc := 54) dX9_drawn_54 mlX9_150 kX9_copies vX9_copies (by decide) (by decide) (Nat.le_of_ble_eq_true rfl) (qX9_copies 90 99 66 66 0 0 rfl rfl (by decide) (by omega) (by omega) (by decide) rfl rfl) ⟨Nat.le_refl _, Nat.le_refl _⟩ (fun r h1 hq => ?_)
          obtain ⟨rfl, rfl⟩ := hq
          refine z_iload_2 (pc := 57) dX9_drawn_57 ?_
          refine z_i2l (pc := 58) dX9_drawn_58 ?_
          refine z_lstore_4 (pc := 59) dX9_drawn_59 (by decide) rfl ?_
          refine z_iconst (pc := 61) (0) dX9_drawn_61 rfl ?_
          refine z_istore_6 (pc := 62) dX9_drawn_62 (by decide) rfl ?_
          have k141 : ∀ (I2 : Nat → Nat → Int32) (v6 v7 v8 : Value), v7.category = 1 → zWh I I2 (mwk I n T A B (x0, I 90) m).2 → zW l mX9_drawn SH.length (zsl SH) 141 [.ref 85, .int (nI m), .int (nI x0), .int w, .long (lN (mwk I n T A B (x0, I 90) m).1), zno, v6, v7, v8] [] (I2, J, RF nw, SH) (zPMe (mDrw I n T A B (nI m) (nI x0) w, I) J nw) := by
            intro I2 v6 v7 v8 h7 hH
            refine z_iconst (pc := 141) (0) dX9_drawn_141 rfl ?_
            refine z_istore_6 (pc := 142) dX9_drawn_142 (by decide) rfl ?_
            refine z_iconst (pc := 144) (0) dX9_drawn_144 rfl ?_
            refine z_istore_7 (pc := 145) dX9_drawn_145 (by decide) rfl ?_
            refine z_iload_7 (pc := 147) dX9_drawn_147 ?_
            refine z_iconst (pc := 149) (4) dX9_drawn_149 rfl ?_
            refine z_icmp_ge (pc := 150) (tgt := 174) dX9_drawn_150 (by decide) (fun c150 => ?_) (fun c150 => ?_)
            · exact absurd c150 (by decide)
            · skip
              refine z_iload_6 (pc := 153) dX9_drawn_153 ?_
              refine z_aload_0 (pc := 155) dX9_drawn_155 ?_
              refine y_getR (pc := 156) dX9_drawn_156 flX9_50 rfl (by first | rfl | assumption) (by first | rfl | assumption) ?_
              refine z_bipush (pc := 159) (52) dX9_drawn_159 rfl ?_
              refine z_iload_7 (pc := 161) dX9_drawn_161 ?_
              refine z_iadd (pc := 163) dX9_drawn_163 ?_
              refine y_ialdN (pc := 164) (52) dX9_drawn_164 (by first | rfl | assumption) (rfl) (by decide) (by first | decide | omega) ?_
              refine z_iadd (pc := 165) dX9_drawn_165 ?_
              refine z_istore_6 (pc := 166) dX9_drawn_166 (by decide) rfl ?_
              refine z_iinc_7 (pc := 168) (1) dX9_drawn_168 rfl (by decide) rfl ?_
              refine z_goto (pc := 171) (tgt := 147) dX9_drawn_171 (by decide) ?_
              refine z_iload_7 (pc := 147) dX9_drawn_147 ?_
              refine z_iconst (pc := 149) (4) dX9_drawn_149 rfl ?_
              refine z_icmp_ge (pc := 150) (tgt := 174) dX9_drawn_150 (by decide) (fun c150_2 => ?_) (fun c150_2 => ?_)
              · exact absurd c150_2 (by decide)
              · skip
                refine z_iload_6 (pc := 153) dX9_drawn_153 ?_
                refine z_aload_0 (pc := 155) dX9_drawn_155 ?_
                refine y_getR (pc := 156) dX9_drawn_156 flX9_50 rfl (by first | rfl | assumption) (by first | rfl | assumption) ?_
                refine z_bipush (pc := 159) (52) dX9_drawn_159 rfl ?_
                refine z_iload_7 (pc := 161) dX9_drawn_161 ?_
                refine z_iadd (pc := 163) dX9_drawn_163 ?_
                refine y_ialdN (pc := 164) (53) dX9_drawn_164 (by first | rfl | assumption) (rfl) (by decide) (by first | decide | omega) ?_
                refine z_iadd (pc := 165) dX9_drawn_165 ?_
                refine z_istore_6 (pc := 166) dX9_drawn_166 (by decide) rfl ?_
                refine z_iinc_7 (pc := 168) (1) dX9_drawn_168 rfl (by decide) rfl ?_
                refine z_goto (pc := 171) (tgt := 147) dX9_drawn_171 (by decide) ?_
                refine z_iload_7 (pc := 147) dX9_drawn_147 ?_
                refine z_iconst (pc := 149) (4) dX9_drawn_149 rfl ?_
                refine z_icmp_ge (pc := 150) (tgt := 174) dX9_drawn_150 (by decide) (fun c150_3 => ?_) (fun c150_3 => ?_)
                · exact absurd c150_3 (by decide)
                · skip
                  refine z_iload_6 (pc := 153) dX9_drawn_153 ?_
                  refine z_aload_0 (pc := 155) dX9_drawn_155 ?_
                  refine y_getR (pc := 156) dX9_drawn_156 flX9_50 rfl (by first | rfl | assumption) (by first | rfl | assumption) ?_
                  refine z_bipush (pc := 159) (52) dX9_drawn_159 rfl ?_
                  refine z_iload_7 (pc := 161) dX9_drawn_161 ?_
                  refine z_iadd (pc := 163) dX9_drawn_163 ?_
                  refine y_ialdN (pc := 164) (54) dX9_drawn_164 (by first | rfl | assumption) (rfl) (by decide) (by first | decide | omega) ?_
                  refine z_iadd (pc := 165) dX9_drawn_165 ?_
                  refine z_istore_6 (pc := 166) dX9_drawn_166 (by decide) rfl ?_
                  refine z_iinc_7 (pc := 168) (1) dX9_drawn_168 rfl (by decide) rfl ?_
                  refine z_goto (pc := 171) (tgt := 147) dX9_drawn_171 (by decide) ?_
                  refine z_iload_7 (pc := 147) dX9_drawn_147 ?_
                  refine z_iconst (pc := 149) (4) dX9_drawn_149 rfl ?_
                  refine z_icmp_ge (pc := 150) (tgt := 174) dX9_drawn_150 (by decide) (fun c150_4 => ?_) (fun c150_4 => ?_)
                  · exact absurd c150_4 (by decide)
                  · skip
                    refine z_iload_6 (pc := 153) dX9_drawn_153 ?_
                    refine z_aload_0 (pc := 155) dX9_drawn_155 ?_
                    refine y_getR (pc := 156) dX9_drawn_156 flX9_50 rfl (by first | rfl | assumption) (by first | rfl | assumption) ?_
                    refine z_bipush (pc := 159) (52) dX9_drawn_159 rfl ?_
                    refine z_iload_7 (pc := 161) dX9_drawn_161 ?_
                    refine z_iadd (pc := 163) dX9_drawn_163 ?_
                    refine y_ialdN (pc := 164) (55) dX9_drawn_164 (by first | rfl | assumption) (rfl) (by decide) (by first | decide | omega) ?_
                    refine z_iadd (pc := 165) dX9_drawn_165 ?_
                    refine z_istore_6 (pc := 166) dX9_drawn_166 (by decide) rfl ?_
                    refine z_iinc_7 (pc := 168) (1) dX9_drawn_168 rfl (by decide) rfl ?_
                    refine z_goto (pc := 171) (tgt := 147) dX9_drawn_171 (by decide) ?_
                    refine z_iload_7 (pc := 147) dX9_drawn_147 ?_
                    refine z_iconst (pc := 149) (4) dX9_drawn_149 rfl ?_
                    refine z_icmp_ge (pc := 150) (tgt := 174) dX9_drawn_150 (by decide) (fun c150_5 => ?_) (fun c150_5 => ?_)
                    · skip
                      refine z_iload_3 (pc := 174) dX9_drawn_174 ?_
                      refine z_if_ne (pc := 175) (tgt := 188) dX9_drawn_175 (by decide) (fun c175 => ?_) (fun c175 => ?_)
                      · skip
                        refine z_iload_6 (pc := 188) dX9_drawn_188 ?_
                        refine z_ret (pc := 190) (r := some (.int _)) rfl dX9_drawn_190 trivial rfl rfl ?_
                        refine ⟨?_, I2, rfl, hH.1⟩
                        show some (Value.int _) = some (Value.int (mDrw _ _ _ _ _ _ _ _))
                        unfold mDrw
                        rw [if_neg c4, if_pos hqq, hcm, hcx, if_neg c175, hH.2 52 (by omega), hH.2 53 (by omega), hH.2 54 (by omega), hH.2 55 (by omega)]
                      · skip
                        have hv := zWv_k (n := n) (T := T) (A := A) (B := B) hw (s := (x0, I 90)) hV m
                        obtain ⟨zz, hzz⟩ : ∃ zz : Nat → Nat, ∀ k, k < 6 → zz k < 1024 ∧ I2 99 (60 + k) = nI (zz k) := by
                          refine ⟨fun k => (I2 99 (60 + k)).toNatClampNeg, fun k hk => ?_⟩
                          obtain ⟨z, hz, e⟩ := hv.2.2.2 k hk
                          dsimp only
                          rw [hH.2 _ (by omega), e, nI_clamp (by omega)]
                          exact ⟨by omega, rfl⟩
                        refine z_aload_0 (pc := 178) dX9_drawn_178 ?_
                        refine y_getR (pc := 179) dX9_drawn_179 flX9_50 rfl (by first | rfl | assumption) (by first | rfl | assumption) ?_
                        refine z_S1 (pc := 182) dX9_drawn_182 mlX9_268 kX9_notesOf vX9_notesOf (by decide) (by decide) (Nat.le_of_ble_eq_true rfl) (qX9_notesOf 99 rfl zz hzz) ⟨Nat.le_refl _, Nat.le_refl _⟩ (fun r h1 hq => ?_)
                        obtain ⟨rfl, rfl⟩ := hq
                        refine z_goto (pc := 185) (tgt := 190) dX9_drawn_185 (by decide) ?_
                        refine z_ret (pc := 190) (r := some (.int _)) rfl dX9_drawn_190 trivial rfl rfl ?_
                        refine ⟨?_, I2, rfl, hH.1⟩
                        show some (Value.int _) = some (Value.int (mDrw _ _ _ _ _ _ _ _))
                        unfold mDrw
                        rw [if_neg c4, if_pos hqq, hcm, hcx, if_pos c175, hH.2 60 (by omega), hH.2 61 (by omega), hH.2 62 (by omega), hH.2 63 (by omega), hH.2 64 (by omega), hH.2 65 (by omega)]
                    · exact absurd (by decide) c150_5
          rw [nI_l (by omega)]
          exact mdrw_loop n T A B ht (hn1 c4) hw hV m x0 (by omega) (by omega) k141 (m + 1) 0 _ zno zno rfl ⟨(zAs_first I 1000).1, fun b hb => zcpy99 I hb⟩ (by omega) (by omega)
        · skip
          refine z_ldc (pc := 41) dX9_drawn_41 kcX9_70 ?_
          refine z_ret (pc := 43) (r := some (.int _)) rfl dX9_drawn_43 trivial rfl rfl ?_
          refine zPMe_of (Prod.ext ?_ rfl)
          show mDrw _ _ _ _ _ _ _ _ = _
          unfold mDrw
          rw [if_neg c4]
          rw [if_neg (fun q => by rw [(zbb0 _).mp c38] at q; exact absurd q.2.2 (by decide))]
  · skip
    refine z_ldc (pc := 7) dX9_drawn_7 kcX9_198 ?_
    refine z_ret (pc := 9) (r := some (.int _)) rfl dX9_drawn_9 trivial rfl rfl ?_
    refine zPMe_of (Prod.ext ?_ rfl)
    show mDrw _ _ _ _ _ _ _ _ = _
    unfold mDrw
    rw [if_pos c4]
