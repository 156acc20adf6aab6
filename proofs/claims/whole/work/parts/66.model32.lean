def zwy (p s : Nat) : Nat → Nat
  | 0 => 1
  | k + 1 => zwy p s k * (if zbt s k = true then p else 10 - p)
theorem zwy_le {p : Nat} (hp : p ≤ 10) (s : Nat) : ∀ k, zwy p s k ≤ 10 ^ k
  | 0 => Nat.le_refl _
  | k + 1 => by
    rw [zwy, Nat.pow_succ]
    refine Nat.mul_le_mul (zwy_le hp s k) ?_
    by_cases h : zbt s k = true
    · rw [if_pos h]; exact hp
    · rw [if_neg h]; omega
def zabN (g : Nat → Bool) (wt : Nat → Nat) : Nat → Nat
  | 0 => 0
  | s + 1 => zabN g wt s + (if g s = true then wt s else 0)
theorem zabN_le {g : Nat → Bool} {wt : Nat → Nat} {M : Nat} (h : ∀ s, wt s ≤ M) : ∀ s, zabN g wt s ≤ s * M
  | 0 => by rw [zabN]; omega
  | s + 1 => by
    rw [zabN, Nat.succ_mul]
    have h1 := zabN_le (g := g) h s
    have h2 := h s
    by_cases hg : g s = true
    · rw [if_pos hg]; omega
    · rw [if_neg hg]; omega
def zgS (I : Nat → Nat → Int32) (n T : Nat) (A B : Nat → Nat) (i a b : Nat) : Nat → Bool := fun s => (zgW I n T A B i (zbt s) (fun e => e == a)).2 b
def zabM (I : Nat → Nat → Int32) (n T : Nat) (A B : Nat → Nat) (i a b q : Nat) : Nat := zabN (zgS I n T A B i a b) (fun s => zwy q s T) (2 ^ T)
theorem ten10 : ∀ T, T ≤ 10 → 10 ^ T ≤ 10000000000 ∧ 0 < 10 ^ T := by decide +kernel
theorem zabN_lt {g : Nat → Bool} {q T s : Nat} (hq : q ≤ 10) (hT : T ≤ 10) (hs : s ≤ 1024) : zabN g (fun s => zwy q s T) s < 2 ^ 60 := by
  have h1 := zabN_le (g := g) (wt := fun s => zwy q s T) (M := 10000000000) (fun s => Nat.le_trans (zwy_le hq s T) (ten10 T hT).1) s
  have h2 : s * 10000000000 ≤ 1024 * 10000000000 := Nat.mul_le_mul_right _ hs
  omega
def mSln (I : Nat → Nat → Int32) (n T : Nat) (A B : Nat → Nat) (x a b q w : Int32) : Int64 := if zlt x 4 = true ∧ zlt a n = true ∧ zlt b n = true ∧ ¬ a = b ∧ zlt q 11 = true ∧ zlt w 2 = true then (if I 90 (44 + x.toNatClampNeg) = 0 then -1000002 else (if w = 0 then lN (zabM I n T A B x.toNatClampNeg a.toNatClampNeg b.toNatClampNeg q.toNatClampNeg) else lN (10 ^ T)) / lN (Nat.gcd (zabM I n T A B x.toNatClampNeg a.toNatClampNeg b.toNatClampNeg q.toNatClampNeg) (10 ^ T))) else -1000001
def zPMl (P : Int64) (I : Nat → Nat → Int32) (J : Nat → Nat → Int64) (nw : Bool) : Option Value → zH → Prop := fun r h1 => r = some (.long P) ∧ ∃ I2, h1 = (I2, J, RF nw, SH) ∧ zEm I I2
theorem gcd_go {X Y : Nat} : Nat.gcd X Y = Nat.gcd Y (X % Y) := by
  rw [Nat.gcd_comm X Y, Nat.gcd_rec Y X, Nat.gcd_comm]
set_option maxRecDepth 100000 in
set_option maxHeartbeats 4000000 in
theorem msg_loop {l : zL} {I : Nat → Nat → Int32} {J : Nat → Nat → Int64} {nw : Bool} {x w : Int32} {a b q : Nat} {u t : Int64} {Q : Option Value → zH → Prop} (g : Nat) (hQ : ∀ v14 v15 : Value, zW l mX9_silent SH.length (zsl SH) 244 [.ref 85, .int x, .int (nI a), .int (nI b), .int (nI q), .int w, .long u, zno, .long t, zno, .long (lN g), zno, .long 0, zno, v14, v15] [] (I, J, RF nw, SH) Q) : ∀ (f X Y : Nat) (v14 v15 : Value), Y < f → X < 2 ^ 63 → Y < 2 ^ 63 → Nat.gcd X Y = g →
    zW l mX9_silent SH.length (zsl SH) 219 [.ref 85, .int x, .int (nI a), .int (nI b), .int (nI q), .int w, .long u, zno, .long t, zno, .long (lN X), zno, .long (lN Y), zno, v14, v15] [] (I, J, RF nw, SH) Q
  | 0, _, _, _, _, hf, _, _, _ => by omega
  | f + 1, X, Y, v14, v15, hf, hX, hY, hg => by
    refine z_lload_12 (pc := 219) dX9_silent_219 ?_
    refine z_lconst (pc := 221) 0 dX9_silent_221 rfl ?_
    refine z_lcmp (pc := 222) dX9_silent_222 ?_
    refine z_if_eq (pc := 223) (tgt := 244) dX9_silent_223 (by decide) (fun c223 => ?_) (fun c223 => ?_)
    · skip
      have hY0 : Y = 0 := by
        rw [lg_cmp_eq] at c223
        exact (pk_lEQ (a := Y) (b := 0) hY (by decide)).mp c223
      rw [hY0] at hg ⊢
      rw [Nat.gcd_zero_right] at hg
      rw [hg]
      exact hQ _ _
    · skip
      have hY0 : 0 < Y := by
        rw [lg_cmp_eq] at c223
        rcases Nat.eq_zero_or_pos Y with z | z
        · exact absurd (by rw [z]; rfl) c223
        · exact z
      have hYn : ¬ lN Y = 0 := fun z => by have := (pk_lEQ (a := Y) (b := 0) hY (by decide)).mp z; omega
      refine z_lload_10 (pc := 226) dX9_silent_226 ?_
      refine z_lload_12 (pc := 228) dX9_silent_228 ?_
      refine z_lrem (pc := 230) (by first | assumption | decide) dX9_silent_230 ?_
      rw [pk_lRem hX hY0 hY]
      refine z_lstore_14 (pc := 231) dX9_silent_231 (by decide) rfl ?_
      refine z_lload_12 (pc := 233) dX9_silent_233 ?_
      refine z_lstore_10 (pc := 235) dX9_silent_235 (by decide) rfl ?_
      refine z_lload_14 (pc := 237) dX9_silent_237 ?_
      refine z_lstore_12 (pc := 239) dX9_silent_239 (by decide) rfl ?_
      refine z_goto (pc := 241) (tgt := 219) dX9_silent_241 (by decide) ?_
      exact msg_loop g hQ f Y (X % Y) _ _ (by have := Nat.mod_lt X hY0; omega) hY (by have := Nat.mod_lt X hY0; omega) (by rw [← gcd_go]; exact hg)
set_option maxRecDepth 100000 in
set_option maxHeartbeats 4000000 in
theorem msb_loop {l : zL} {I : Nat → Nat → Int32} {J : Nat → Nat → Int64} {nw : Bool} {x w : Int32} {a b q : Nat} (T : Nat) (hT : T ≤ 10) (eT : I 90 4 = nI T) {Q : Option Value → zH → Prop} (hQ : ∀ v : Value, zW l mX9_silent SH.length (zsl SH) 103 [.ref 85, .int x, .int (nI a), .int (nI b), .int (nI q), .int w, .long 0, zno, .long (lN (10 ^ T)), zno, v, zno, zno, zno, zno, zno] [] (I, J, RF nw, SH) Q) : ∀ (f k : Nat), k ≤ T → T - k < f →
    zW l mX9_silent SH.length (zsl SH) 78 [.ref 85, .int x, .int (nI a), .int (nI b), .int (nI q), .int w, .long 0, zno, .long (lN (10 ^ k)), zno, .int (nI k), zno, zno, zno, zno, zno] [] (I, J, RF nw, SH) Q
  | 0, k, _, hf => by omega
  | f + 1, k, hk, hf => by
    refine z_iload_10 (pc := 78) dX9_silent_78 ?_
    refine z_aload_0 (pc := 80) dX9_silent_80 ?_
    refine y_getR (pc := 81) dX9_silent_81 flX9_22 rfl (by first | rfl | assumption) (by first | rfl | assumption) ?_
    refine z_iconst (pc := 84) (4) dX9_silent_84 rfl ?_
    refine y_ialdN (pc := 85) (4) dX9_silent_85 (by first | rfl | assumption) (rfl) (by decide) (by first | decide | omega) ?_
    refine z_icmp_ge (pc := 86) (tgt := 103) dX9_silent_86 (by decide) (fun c86 => ?_) (fun c86 => ?_)
    · skip
      rw [eT] at c86
      have hkn : k = T := by
        rcases Nat.lt_or_ge k T with q | q
        · exact absurd c86 (nI_ge (b := T) q (by omega))
        · omega
      rw [hkn]
      exact hQ _
    · skip
      rw [eT] at c86
      have hlt : k < T := by
        rcases Nat.lt_or_ge k T with q | q
        · exact q
        · exact absurd (nI_le (a := T) q (by omega)) c86
      refine z_lload_8 (pc := 89) dX9_silent_89 ?_
      refine z_ldc2 (pc := 91) dX9_silent_91 kcX9_254 ?_
      refine z_lmul (pc := 94) dX9_silent_94 ?_
      refine z_lstore_8 (pc := 95) dX9_silent_95 (by decide) rfl ?_
      refine z_iinc_10 (pc := 97) (1) dX9_silent_97 rfl (by decide) rfl ?_
      refine z_goto (pc := 100) (tgt := 78) dX9_silent_100 (by decide) ?_
      rw [show lN (10 ^ k) * 10 = lN (10 ^ (k + 1)) from by rw [Nat.pow_succ]; exact lN_mul _ 10, ← nI_succ]
      exact msb_loop T hT eT hQ f (k + 1) (by omega) (by omega)
set_option maxRecDepth 100000 in
set_option maxHeartbeats 4000000 in
theorem msw_loop {l : zL} {I : Nat → Nat → Int32} {J : Nat → Nat → Int64} {nw : Bool} {x w : Int32} {a b q s : Nat} (hq : q ≤ 10) (hs : s < 1024) {u t : Int64} (T : Nat) (hT : T ≤ 10) (eT : I 90 4 = nI T) {Q : Option Value → zH → Prop} (hQ : ∀ v : Value, zW l mX9_silent SH.length (zsl SH) 169 [.ref 85, .int x, .int (nI a), .int (nI b), .int (nI q), .int w, .long u, zno, .long t, zno, .int (nI s), .long (lN (zwy q s T)), zno, v, zno, zno] [] (I, J, RF nw, SH) Q) : ∀ (f k : Nat), k ≤ T → T - k < f →
    zW l mX9_silent SH.length (zsl SH) 125 [.ref 85, .int x, .int (nI a), .int (nI b), .int (nI q), .int w, .long u, zno, .long t, zno, .int (nI s), .long (lN (zwy q s k)), zno, .int (nI k), zno, zno] [] (I, J, RF nw, SH) Q
  | 0, k, _, hf => by omega
  | f + 1, k, hk, hf => by
    refine z_iload_13 (pc := 125) dX9_silent_125 ?_
    refine z_aload_0 (pc := 127) dX9_silent_127 ?_
    refine y_getR (pc := 128) dX9_silent_128 flX9_22 rfl (by first | rfl | assumption) (by first | rfl | assumption) ?_
    refine z_iconst (pc := 131) (4) dX9_silent_131 rfl ?_
    refine y_ialdN (pc := 132) (4) dX9_silent_132 (by first | rfl | assumption) (rfl) (by decide) (by first | decide | omega) ?_
    refine z_icmp_ge (pc := 133) (tgt := 169) dX9_silent_133 (by decide) (fun c133 => ?_) (fun c133 => ?_)
    · skip
      rw [eT] at c133
      have hkn : k = T := by
        rcases Nat.lt_or_ge k T with q | q
        · exact absurd c133 (nI_ge (b := T) q (by omega))
        · omega
      rw [hkn]
      exact hQ _
    · skip
      rw [eT] at c133
      have hlt : k < T := by
        rcases Nat.lt_or_ge k T with q | q
        · exact q
        · exact absurd (nI_le (a := T) q (by omega)) c133
      refine z_lload_11 (pc := 136) dX9_silent_136 ?_
      refine z_iload_10 (pc := 138) dX9_silent_138 ?_
      refine z_iload_13 (pc := 140) dX9_silent_140 ?_
      refine z_S2 (pc := 142) dX9_silent_142 mlX9_164 kX9_has vX9_has (by decide) (by decide) (Nat.le_of_ble_eq_true rfl) (qX9_has) ⟨Nat.le_refl _, Nat.le_refl _⟩ (fun r h1 hq => ?_)
      obtain ⟨rfl, rfl⟩ := hq
      refine z_if_eq (pc := 145) (tgt := 154) dX9_silent_145 (by decide) (fun c145 => ?_) (fun c145 => ?_)
      · skip
        refine z_bipush (pc := 154) (10) dX9_silent_154 rfl ?_
        refine z_iload_4 (pc := 156) dX9_silent_156 ?_
        refine z_isub (pc := 158) dX9_silent_158 ?_
        refine z_i2l (pc := 159) dX9_silent_159 ?_
        refine z_lmul (pc := 160) dX9_silent_160 ?_
        refine z_lstore_11 (pc := 161) dX9_silent_161 (by decide) rfl ?_
        refine z_iinc_13 (pc := 163) (1) dX9_silent_163 rfl (by decide) rfl ?_
        refine z_goto (pc := 166) (tgt := 125) dX9_silent_166 (by decide) ?_
        have hb : ¬ zbt s k = true := fun z => of_decide_eq_false ((zbb0 _).mp c145) ((sh1_bits s hs k (by omega)).mpr z)
        rw [show (10 : Int32) - nI q = nI (10 - q) from pk_sub (a := 10) (b := q) hq, nI_l (by omega), lN_mul, show zwy q s k * (10 - q) = zwy q s (k + 1) from by rw [zwy, if_neg hb], ← nI_succ]
        exact msw_loop hq hs T hT eT hQ f (k + 1) (by omega) (by omega)
      · skip
        refine z_iload_4 (pc := 148) dX9_silent_148 ?_
        refine z_i2l (pc := 150) dX9_silent_150 ?_
        refine z_goto (pc := 151) (tgt := 160) dX9_silent_151 (by decide) ?_
        refine z_lmul (pc := 160) dX9_silent_160 ?_
        refine z_lstore_11 (pc := 161) dX9_silent_161 (by decide) rfl ?_
        refine z_iinc_13 (pc := 163) (1) dX9_silent_163 rfl (by decide) rfl ?_
        refine z_goto (pc := 166) (tgt := 125) dX9_silent_166 (by decide) ?_
        have hb := (sh1_bits s hs k (by omega)).mp (of_decide_eq_true ((zbb1 _).mp c145))
        rw [nI_l (by omega), lN_mul, show zwy q s k * q = zwy q s (k + 1) from by rw [zwy, if_pos hb], ← nI_succ]
        exact msw_loop hq hs T hT eT hQ f (k + 1) (by omega) (by omega)
set_option maxRecDepth 100000 in
set_option maxHeartbeats 4000000 in
theorem msc_loop {l : zL} {I : Nat → Nat → Int32} {J : Nat → Nat → Int64} {nw : Bool} (n T : Nat) (A B : Nat → Nat) (ht : zRT I 90 n T A B) (i : Nat) (hi : i < 4) (hs : -1000 < zst (I 90 0) (I 90 1) (I 90 (52 + i)) (I 90 (56 + i))) (a b q : Nat) (ha : a < n) (hb : b < n) (hq : q ≤ 10) {w : Int32} {Q : Option Value → zH → Prop} (hQ : ∀ (I2 : Nat → Nat → Int32) (v10 v11 v12 v13 : Value), zTF I I2 → zW l mX9_silent SH.length (zsl SH) 211 [.ref 85, .int (nI i), .int (nI a), .int (nI b), .int (nI q), .int w, .long (lN (zabN (zgS I n T A B i a b) (fun s => zwy q s T) (2 ^ T))), zno, .long (lN (10 ^ T)), zno, v10, v11, v12, v13, zno, zno] [] (I2, J, RF nw, SH) Q) : ∀ (f s : Nat) (I1 : Nat → Nat → Int32) (v11 v12 v13 : Value), v12.category = 1 → zTF I I1 → s ≤ 2 ^ T → 2 ^ T - s < f →
    zW l mX9_silent SH.length (zsl SH) 106 [.ref 85, .int (nI i), .int (nI a), .int (nI b), .int (nI q), .int w, .long (lN (zabN (zgS I n T A B i a b) (fun s => zwy q s T) s)), zno, .long (lN (10 ^ T)), zno, .int (nI s), v11, v12, v13, zno, zno] [] (I1, J, RF nw, SH) Q
  | 0, s, _, _, _, _, _, _, _, hf => by omega
  | f + 1, s, I1, v11, v12, v13, h12, hF, hk, hf => by
    have hn6 := ht.1
    have e90 := zTF_90 hF
    have hp := pow10 T ht.2.2.1
    have eT : I1 90 4 = nI T := by rw [e90]; exact ht.2.2.2.1
    refine z_iload_10 (pc := 106) dX9_silent_106 ?_
    refine z_iconst (pc := 108) (1) dX9_silent_108 rfl ?_
    refine z_aload_0 (pc := 109) dX9_silent_109 ?_
    refine y_getR (pc := 110) dX9_silent_110 flX9_22 rfl (by first | rfl | assumption) (by first | rfl | assumption) ?_
    refine z_iconst (pc := 113) (4) dX9_silent_113 rfl ?_
    refine y_ialdN (pc := 114) (4) dX9_silent_114 (by first | rfl | assumption) (rfl) (by decide) (by first | decide | omega) ?_
    refine z_ishl (pc := 115) dX9_silent_115 ?_
    refine z_icmp_ge (pc := 116) (tgt := 211) dX9_silent_116 (by decide) (fun c116 => ?_) (fun c116 => ?_)
    · skip
      rw [eT, hp.2] at c116
      have hkn : s = (2 ^ T) := by
        rcases Nat.lt_or_ge s (2 ^ T) with q | q
        · exact absurd c116 (nI_ge (b := (2 ^ T)) q (by omega))
        · omega
      rw [hkn]
      exact hQ _ _ _ _ _ hF
    · skip
      rw [eT, hp.2] at c116
      have hlt : s < (2 ^ T) := by
        rcases Nat.lt_or_ge s (2 ^ T) with q | q
        · exact q
        · exact absurd (nI_le (a := (2 ^ T)) q (by omega)) c116
      refine z_lconst (pc := 119) 1 dX9_silent_119 rfl ?_
      refine z_lstore_11 (pc := 120) dX9_silent_120 (by decide) rfl ?_
      refine z_iconst (pc := 122) (0) dX9_silent_122 rfl ?_
      refine z_istore_13 (pc := 123) dX9_silent_123 (by decide) rfl ?_
      have k169 : ∀ v : Value, zW l mX9_silent SH.length (zsl SH) 169 [.ref 85, .int (nI i), .int (nI a), .int (nI b), .int (nI q), .int w, .long (lN (zabN (zgS I n T A B i a b) (fun s => zwy q s T) s)), zno, .long (lN (10 ^ T)), zno, .int (nI s), .long (lN (zwy q s T)), zno, v, zno, zno] [] (I1, J, RF nw, SH) Q := by
        intro v
        refine z_aload_0 (pc := 169) dX9_silent_169 ?_
        refine z_aload_0 (pc := 170) dX9_silent_170 ?_
        refine y_getR (pc := 171) dX9_silent_171 flX9_22 rfl (by first | rfl | assumption) (by first | rfl | assumption) ?_
        refine z_iload_1 (pc := 174) dX9_silent_174 ?_
        refine z_iconst (pc := 175) (1) dX9_silent_175 rfl ?_
        refine z_iload_2 (pc := 176) dX9_silent_176 ?_
        refine z_ishl (pc := 177) dX9_silent_177 ?_
        refine z_iload_10 (pc := 178) dX9_silent_178 ?_
        refine z_V4 (pc := 180) dX9_silent_180 mlX9_191 kX9_tellsCask vX9_tellsCask (by decide) (by decide) (by first | rfl | assumption) (Nat.le_of_ble_eq_true rfl) (qX9_tellsCask 90 rfl (by decide) n T A B (ht.keep e90) (zbt s) (fun e he => sh1_bits s (by omega) e he) (fun e => e == a) (one_bit a (by omega)) i rfl hi (by rw [e90]; exact hs)) ⟨Nat.le_refl _, Nat.le_refl _⟩ (fun r h1 hq => ?_)
        obtain ⟨rfl, I2, rfl, hO⟩ := hq
        rw [zmT_keep e90, e90] at hO
        refine z_lload_6 (pc := 183) dX9_silent_183 ?_
        refine z_aload_0 (pc := 185) dX9_silent_185 ?_
        refine y_getI (pc := 186) dX9_silent_186 flX9_168 rfl (by first | rfl | assumption) ?_
        refine z_iload_3 (pc := 189) dX9_silent_189 ?_
        refine z_S2 (pc := 190) dX9_silent_190 mlX9_164 kX9_has vX9_has (by decide) (by decide) (Nat.le_of_ble_eq_true rfl) (qX9_has) ⟨Nat.le_refl _, Nat.le_refl _⟩ (fun r h1 hq => ?_)
        obtain ⟨rfl, rfl⟩ := hq
        refine z_if_eq (pc := 193) (tgt := 201) dX9_silent_193 (by decide) (fun c193 => ?_) (fun c193 => ?_)
        · skip
          refine z_lconst (pc := 201) 0 dX9_silent_201 rfl ?_
          refine z_ladd (pc := 202) dX9_silent_202 ?_
          refine z_lstore_6 (pc := 203) dX9_silent_203 (by decide) rfl ?_
          refine z_iinc_10 (pc := 205) (1) dX9_silent_205 rfl (by decide) rfl ?_
          refine z_goto (pc := 208) (tgt := 106) dX9_silent_208 (by decide) ?_
          have hbit := bs_test (zgW I n T A B i (zbt s) (fun e => e == a)).2 b (by omega)
          have hbel : I2 85 24 = nI (bs (zgW I n T A B i (zbt s) (fun e => e == a)).2) := hO.2.2.1
          rw [hbel, hbit] at c193
          have hg : ¬ zgS I n T A B i a b s = true := by
            intro z
            rw [if_pos (show (zgW I n T A B i (zbt s) (fun e => e == a)).2 b = true from z)] at c193
            exact absurd c193 (by decide)
          rw [show (0 : Int64) = lN 0 from rfl, lN_add]
          rw [← nI_succ]
          have kk := msc_loop n T A B ht i hi hs a b q ha hb hq hQ f (s + 1) I2 (.long (lN (zwy q s T))) zno v rfl (zTF_next hF hO) (by omega) (by omega)
          rw [zabN, if_neg hg] at kk
          exact kk
        · skip
          refine z_lload_11 (pc := 196) dX9_silent_196 ?_
          refine z_goto (pc := 198) (tgt := 202) dX9_silent_198 (by decide) ?_
          refine z_ladd (pc := 202) dX9_silent_202 ?_
          refine z_lstore_6 (pc := 203) dX9_silent_203 (by decide) rfl ?_
          refine z_iinc_10 (pc := 205) (1) dX9_silent_205 rfl (by decide) rfl ?_
          refine z_goto (pc := 208) (tgt := 106) dX9_silent_208 (by decide) ?_
          have hbit := bs_test (zgW I n T A B i (zbt s) (fun e => e == a)).2 b (by omega)
          have hbel : I2 85 24 = nI (bs (zgW I n T A B i (zbt s) (fun e => e == a)).2) := hO.2.2.1
          rw [hbel, hbit] at c193
          have hg : zgS I n T A B i a b s = true := by
            by_cases z : (zgW I n T A B i (zbt s) (fun e => e == a)).2 b = true
            · exact z
            · rw [if_neg z] at c193; exact absurd (by decide) c193
          rw [lN_add]
          rw [← nI_succ]
          have kk := msc_loop n T A B ht i hi hs a b q ha hb hq hQ f (s + 1) I2 (.long (lN (zwy q s T))) zno v rfl (zTF_next hF hO) (by omega) (by omega)
          rw [zabN, if_pos hg] at kk
          exact kk
      exact msw_loop hq (by omega) T ht.2.2.1 eT k169 (T + 1) 0 (by omega) (by omega)
set_option maxRecDepth 100000 in
set_option maxHeartbeats 4000000 in
theorem qX9_silent {l : zL} {I : Nat → Nat → Int32} {J : Nat → Nat → Int64} {nw : Bool} (n T : Nat) (A B : Nat → Nat) (ht : zRT I 90 n T A B) (hs : ∀ i, i < 4 → -1000 < zst (I 90 0) (I 90 1) (I 90 (52 + i)) (I 90 (56 + i))) {x a b q w : Int32} : zP l mX9_silent [.ref 85, .int x, .int a, .int b, .int q, .int w] (hh I J nw) (zPMl (mSln I n T A B x a b q w) I J nw) := by
  have hn6 := ht.1
  refine z_start [.ref 85, .int x, .int a, .int b, .int q, .int w, zno, zno, zno, zno, zno, zno, zno, zno, zno, zno] (by decide +kernel) (Nat.le_of_ble_eq_true rfl) rfl ?_
  refine z_iload_1 (pc := 0) dX9_silent_0 ?_
  refine z_S1 (pc := 1) dX9_silent_1 mlX9_216 kX9_isCask vX9_isCask (by decide) (by decide) (Nat.le_of_ble_eq_true rfl) (qX9_isCask) ⟨Nat.le_refl _, Nat.le_refl _⟩ (fun r h1 hq => ?_)
  obtain ⟨rfl, rfl⟩ := hq
  refine z_if_eq (pc := 4) (tgt := 49) dX9_silent_4 (by decide) (fun c4 => ?_) (fun c4 => ?_)
  · skip
    refine z_ldc2 (pc := 49) dX9_silent_49 kcX9_256 ?_
    refine z_ret (pc := 52) (r := some (.long _)) rfl dX9_silent_52 trivial rfl rfl ?_
    refine ⟨?_, I, rfl, fun _ _ _ => rfl⟩
    show some (Value.long _) = some (Value.long (mSln _ _ _ _ _ _ _ _ _ _))
    unfold mSln
    rw [if_neg (fun q => by rw [(zbb0 _).mp c4] at q; exact absurd q.1 (by decide))]
  · skip
    refine z_aload_0 (pc := 7) dX9_silent_7 ?_
    refine z_iload_2 (pc := 8) dX9_silent_8 ?_
    refine z_V1 (pc := 9) dX9_silent_9 mlX9_199 kX9_isDrinker vX9_isDrinker (by decide) (by decide) (by first | rfl | assumption) (Nat.le_of_ble_eq_true rfl) (qX9_isDrinker n hn6 ht.2.1) ⟨Nat.le_refl _, Nat.le_refl _⟩ (fun r h1 hq => ?_)
    obtain ⟨rfl, rfl⟩ := hq
    refine z_if_eq (pc := 12) (tgt := 49) dX9_silent_12 (by decide) (fun c12 => ?_) (fun c12 => ?_)
    · skip
      refine z_ldc2 (pc := 49) dX9_silent_49 kcX9_256 ?_
      refine z_ret (pc := 52) (r := some (.long _)) rfl dX9_silent_52 trivial rfl rfl ?_
      refine ⟨?_, I, rfl, fun _ _ _ => rfl⟩
      show some (Value.long _) = some (Value.long (mSln _ _ _ _ _ _ _ _ _ _))
      unfold mSln
      rw [if_neg (fun q => by rw [(zbb0 _).mp c12] at q; exact absurd q.2.1 (by decide))]
    · skip
      refine z_aload_0 (pc := 15) dX9_silent_15 ?_
      refine z_iload_3 (pc := 16) dX9_silent_16 ?_
      refine z_V1 (pc := 17) dX9_silent_17 mlX9_199 kX9_isDrinker vX9_isDrinker (by decide) (by decide) (by first | rfl | assumption) (Nat.le_of_ble_eq_true rfl) (qX9_isDrinker n hn6 ht.2.1) ⟨Nat.le_refl _, Nat.le_refl _⟩ (fun r h1 hq => ?_)
      obtain ⟨rfl, rfl⟩ := hq
      refine z_if_eq (pc := 20) (tgt := 49) dX9_silent_20 (by decide) (fun c20 => ?_) (fun c20 => ?_)
      · skip
        refine z_ldc2 (pc := 49) dX9_silent_49 kcX9_256 ?_
        refine z_ret (pc := 52) (r := some (.long _)) rfl dX9_silent_52 trivial rfl rfl ?_
        refine ⟨?_, I, rfl, fun _ _ _ => rfl⟩
        show some (Value.long _) = some (Value.long (mSln _ _ _ _ _ _ _ _ _ _))
        unfold mSln
        rw [if_neg (fun q => by rw [(zbb0 _).mp c20] at q; exact absurd q.2.2.1 (by decide))]
      · skip
        refine z_iload_2 (pc := 23) dX9_silent_23 ?_
        refine z_iload_3 (pc := 24) dX9_silent_24 ?_
        refine z_icmp_eq (pc := 25) (tgt := 49) dX9_silent_25 (by decide) (fun c25 => ?_) (fun c25 => ?_)
        · skip
          refine z_ldc2 (pc := 49) dX9_silent_49 kcX9_256 ?_
          refine z_ret (pc := 52) (r := some (.long _)) rfl dX9_silent_52 trivial rfl rfl ?_
          refine ⟨?_, I, rfl, fun _ _ _ => rfl⟩
          show some (Value.long _) = some (Value.long (mSln _ _ _ _ _ _ _ _ _ _))
          unfold mSln
          rw [if_neg (fun z => z.2.2.2.1 c25)]
        · skip
          refine z_iload_4 (pc := 28) dX9_silent_28 ?_
          refine z_i2l (pc := 30) dX9_silent_30 ?_
          refine z_lconst (pc := 31) 0 dX9_silent_31 rfl ?_
          refine z_ldc2 (pc := 32) dX9_silent_32 kcX9_254 ?_
          refine z_S3 (pc := 35) dX9_silent_35 mlX9_60 kX9_in vX9_in (by decide) (by decide) (Nat.le_of_ble_eq_true rfl) (qX9_in) ⟨Nat.le_refl _, Nat.le_refl _⟩ (fun r h1 hq => ?_)
          obtain ⟨rfl, rfl⟩ := hq
          refine z_if_eq (pc := 38) (tgt := 49) dX9_silent_38 (by decide) (fun c38 => ?_) (fun c38 => ?_)
          · skip
            refine z_ldc2 (pc := 49) dX9_silent_49 kcX9_256 ?_
            refine z_ret (pc := 52) (r := some (.long _)) rfl dX9_silent_52 trivial rfl rfl ?_
            refine ⟨?_, I, rfl, fun _ _ _ => rfl⟩
            show some (Value.long _) = some (Value.long (mSln _ _ _ _ _ _ _ _ _ _))
            unfold mSln
            rw [in_zlt (m := 11) (by decide)] at c38
            rw [if_neg (fun q => by rw [(zbb0 _).mp c38] at q; exact absurd q.2.2.2.2.1 (by decide))]
          · skip
            refine z_iload_5 (pc := 41) dX9_silent_41 ?_
            refine z_S1 (pc := 43) dX9_silent_43 mlX9_242 kX9_isTwo vX9_isTwo (by decide) (by decide) (Nat.le_of_ble_eq_true rfl) (qX9_isTwo) ⟨Nat.le_refl _, Nat.le_refl _⟩ (fun r h1 hq => ?_)
            obtain ⟨rfl, rfl⟩ := hq
            refine z_if_ne (pc := 46) (tgt := 53) dX9_silent_46 (by decide) (fun c46 => ?_) (fun c46 => ?_)
            · skip
              obtain ⟨i, hi, rfl⟩ := zlt_nI (by decide) ((zbb1 _).mp c4)
              have hcl : (nI i).toNatClampNeg = i := nI_clamp (by omega)
              obtain ⟨a, ha, rfl⟩ := zlt_nI (by omega) ((zbb1 _).mp c12)
              obtain ⟨b, hb, rfl⟩ := zlt_nI (by omega) ((zbb1 _).mp c20)
              have hca : (nI a).toNatClampNeg = a := nI_clamp (by omega)
              have hcb : (nI b).toNatClampNeg = b := nI_clamp (by omega)
              rw [in_zlt (m := 11) (by decide)] at c38
              obtain ⟨q, hq11, rfl⟩ := zlt_nI (by decide) ((zbb1 _).mp c38)
              have hcq : (nI q).toNatClampNeg = q := nI_clamp (by omega)
              have hqq : zlt (nI i) 4 = true ∧ zlt (nI a) n = true ∧ zlt (nI b) n = true ∧ ¬ nI a = nI b ∧ zlt (nI q) 11 = true ∧ zlt w 2 = true := ⟨zlt_of hi (by decide), zlt_of ha (by omega), zlt_of hb (by omega), c25, zlt_of hq11 (by decide), (zbb1 _).mp c46⟩
              refine z_aload_0 (pc := 53) dX9_silent_53 ?_
              refine y_getR (pc := 54) dX9_silent_54 flX9_22 rfl (by first | rfl | assumption) (by first | rfl | assumption) ?_
              refine z_bipush (pc := 57) (44) dX9_silent_57 rfl ?_
              refine z_iload_1 (pc := 59) dX9_silent_59 ?_
              refine z_iadd (pc := 60) dX9_silent_60 ?_
              refine y_ialdN (pc := 61) (44 + i) dX9_silent_61 (by first | rfl | assumption) (nI_add 44 i) (by omega) (by first | decide | omega) ?_
              refine z_if_ne (pc := 62) (tgt := 69) dX9_silent_62 (by decide) (fun c62 => ?_) (fun c62 => ?_)
              · skip
                refine z_lconst (pc := 69) 0 dX9_silent_69 rfl ?_
                refine z_lstore_6 (pc := 70) dX9_silent_70 (by decide) rfl ?_
                refine z_lconst (pc := 72) 1 dX9_silent_72 rfl ?_
                refine z_lstore_8 (pc := 73) dX9_silent_73 (by decide) rfl ?_
                refine z_iconst (pc := 75) (0) dX9_silent_75 rfl ?_
                refine z_istore_10 (pc := 76) dX9_silent_76 (by decide) rfl ?_
                have hT := ten10 T ht.2.2.1
                have hab : zabM I n T A B i a b q < 2 ^ 60 := zabN_lt (by omega) ht.2.2.1 (pow10 T ht.2.2.1).1
                have hg0 : 0 < (Nat.gcd (zabM I n T A B i a b q) (10 ^ T)) := Nat.gcd_pos_of_pos_right _ hT.2
                have hg1 : (Nat.gcd (zabM I n T A B i a b q) (10 ^ T)) ≤ 10 ^ T := Nat.le_of_dvd hT.2 (Nat.gcd_dvd_right _ _)
                have hgn : ¬ lN (Nat.gcd (zabM I n T A B i a b q) (10 ^ T)) = 0 := fun z => by have := (pk_lEQ (a := (Nat.gcd (zabM I n T A B i a b q) (10 ^ T))) (b := 0) (by omega) (by decide)).mp z; omega
                have k103 : ∀ v : Value, zW l mX9_silent SH.length (zsl SH) 103 [.ref 85, .int (nI i), .int (nI a), .int (nI b), .int (nI q), .int w, .long 0, zno, .long (lN (10 ^ T)), zno, v, zno, zno, zno, zno, zno] [] (I, J, RF nw, SH) (zPMl (mSln I n T A B (nI i) (nI a) (nI b) (nI q) w) I J nw) := by
                  intro v
                  refine z_iconst (pc := 103) (0) dX9_silent_103 rfl ?_
                  refine z_istore_10 (pc := 104) dX9_silent_104 (by decide) rfl ?_
                  have k211 : ∀ (I2 : Nat → Nat → Int32) (v10 v11 v12 v13 : Value), zTF I I2 → zW l mX9_silent SH.length (zsl SH) 211 [.ref 85, .int (nI i), .int (nI a), .int (nI b), .int (nI q), .int w, .long (lN (zabM I n T A B i a b q)), zno, .long (lN (10 ^ T)), zno, v10, v11, v12, v13, zno, zno] [] (I2, J, RF nw, SH) (zPMl (mSln I n T A B (nI i) (nI a) (nI b) (nI q) w) I J nw) := by
                    intro I2 v10 v11 v12 v13 hF
                    refine z_lload_6 (pc := 211) dX9_silent_211 ?_
                    refine z_lstore_10 (pc := 213) dX9_silent_213 (by decide) rfl ?_
                    refine z_lload_8 (pc := 215) dX9_silent_215 ?_
                    refine z_lstore_12 (pc := 217) dX9_silent_217 (by decide) rfl ?_
                    have k244 : ∀ v14 v15 : Value, zW l mX9_silent SH.length (zsl SH) 244 [.ref 85, .int (nI i), .int (nI a), .int (nI b), .int (nI q), .int w, .long (lN (zabM I n T A B i a b q)), zno, .long (lN (10 ^ T)), zno, .long (lN (Nat.gcd (zabM I n T A B i a b q) (10 ^ T))), zno, .long 0, zno, v14, v15] [] (I2, J, RF nw, SH) (zPMl (mSln I n T A B (nI i) (nI a) (nI b) (nI q) w) I J nw) := by
                      intro v14 v15
                      refine z_iload_5 (pc := 244) dX9_silent_244 ?_
                      refine z_if_ne (pc := 246) (tgt := 257) dX9_silent_246 (by decide) (fun c246 => ?_) (fun c246 => ?_)
                      · skip
                        refine z_lload_8 (pc := 257) dX9_silent_257 ?_
                        refine z_lload_10 (pc := 259) dX9_silent_259 ?_
                        refine z_ldiv (pc := 261) (by first | assumption | decide) dX9_silent_261 ?_
                        refine z_ret (pc := 262) (r := some (.long _)) rfl dX9_silent_262 trivial rfl rfl ?_
                        refine ⟨?_, I2, rfl, zTF_em hF⟩
                        show some (Value.long _) = some (Value.long (mSln _ _ _ _ _ _ _ _ _ _))
                        unfold mSln
                        rw [if_pos hqq, hcl, hca, hcb, hcq, if_neg c62, if_neg c246]
                        try rfl
                      · skip
                        refine z_lload_6 (pc := 249) dX9_silent_249 ?_
                        refine z_lload_10 (pc := 251) dX9_silent_251 ?_
                        refine z_ldiv (pc := 253) (by first | assumption | decide) dX9_silent_253 ?_
                        refine z_goto (pc := 254) (tgt := 262) dX9_silent_254 (by decide) ?_
                        refine z_ret (pc := 262) (r := some (.long _)) rfl dX9_silent_262 trivial rfl rfl ?_
                        refine ⟨?_, I2, rfl, zTF_em hF⟩
                        show some (Value.long _) = some (Value.long (mSln _ _ _ _ _ _ _ _ _ _))
                        unfold mSln
                        rw [if_pos hqq, hcl, hca, hcb, hcq, if_neg c62, if_pos c246]
                        try rfl
                    exact msg_loop _ k244 (10 ^ T + 1) _ _ zno zno (by omega) (by omega) (by omega) rfl
                  exact msc_loop n T A B ht i hi (hs i hi) a b q ha hb (by omega) k211 (2 ^ T + 1) 0 I zno zno zno rfl (zTF_refl I) (Nat.zero_le _) (Nat.lt_succ_of_le (Nat.sub_le _ _))
                exact msb_loop T ht.2.2.1 ht.2.2.2.1 k103 (T + 1) 0 (by omega) (by omega)
              · skip
                refine z_ldc2 (pc := 65) dX9_silent_65 kcX9_258 ?_
                refine z_ret (pc := 68) (r := some (.long _)) rfl dX9_silent_68 trivial rfl rfl ?_
                refine ⟨?_, I, rfl, fun _ _ _ => rfl⟩
                show some (Value.long _) = some (Value.long (mSln _ _ _ _ _ _ _ _ _ _))
                unfold mSln
                rw [if_pos hqq, hcl, if_pos c62]
            · skip
              refine z_ldc2 (pc := 49) dX9_silent_49 kcX9_256 ?_
              refine z_ret (pc := 52) (r := some (.long _)) rfl dX9_silent_52 trivial rfl rfl ?_
              refine ⟨?_, I, rfl, fun _ _ _ => rfl⟩
              show some (Value.long _) = some (Value.long (mSln _ _ _ _ _ _ _ _ _ _))
              unfold mSln
              rw [if_neg (fun q => by rw [(zbb0 _).mp c46] at q; exact absurd q.2.2.2.2.2 (by decide))]
