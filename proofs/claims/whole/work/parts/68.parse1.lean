/-- the bytes of the tape by place, 999 behind its end: figures, how many stand there, what they tell, the token that stands there -/
def zdg (b : Nat → Nat) (i : Nat) : Bool := decide (48 ≤ b i ∧ b i ≤ 57)
def znf (b : Nat → Nat) (a : Nat) : Nat := if zdg b a = true then (if zdg b (a + 1) = true then (if zdg b (a + 2) = true then 3 else 2) else 1) else 0
def zvl (b : Nat → Nat) (a j : Nat) : Nat := if j = 0 then 0 else if j = 1 then b a - 48 else 10 * (b a - 48) + (b (a + 1) - 48)
def ztk (b : Nat → Nat) (a : Nat) : Nat := if b a = 999 then 0 else if 97 ≤ b a ∧ b a ≤ 122 then 1 else if zdg b a = true then (if znf b a = 3 then 5 else 2) else if b a = 44 then 3 else if b a = 59 then 4 else 5
def zTp (I : Nat → Nat → Int32) (b : Nat → Nat) (L : Nat) : Prop := L ≤ 120 ∧ I 85 19 = nI L ∧ (∀ i, i < L → I 89 i = nI (b i) ∧ b i < 256) ∧ ∀ i, L ≤ i → b i = 999
def zMs (I I1 : Nat → Nat → Int32) : Prop := ∀ x y, x ≠ 95 → ¬ (x = 85 ∧ 15 ≤ y ∧ y ≤ 18) → I1 x y = I x y
def zMr (I I1 : Nat → Nat → Int32) (v : Nat → Int32) (a : Nat) : Prop := zMs I I1 ∧ (∀ q, q < 66 → I1 95 q = v q) ∧ I1 85 15 = nI a ∧ a ≤ 120
def zMn (I I1 : Nat → Nat → Int32) (v : Nat → Int32) (b : Nat → Nat) (a : Nat) : Prop := zMs I I1 ∧ (∀ q, q < 66 → I1 95 q = v q) ∧ I1 85 16 = nI a ∧ I1 85 17 = nI (ztk b a) ∧ (ztk b a = 1 → I1 85 18 = nI (b a)) ∧ (ztk b a = 2 → I1 85 18 = nI (zvl b a (znf b a)) ∧ I1 85 15 = nI (a + znf b a)) ∧ (ztk b a = 1 ∨ ztk b a = 3 ∨ ztk b a = 4 → I1 85 15 = nI (a + 1))
theorem zMs_up {I I1 : Nat → Nat → Int32} (h : zMs I I1) {j : Nat} {w : Int32} (hj : 15 ≤ j ∧ j ≤ 18) : zMs I (zup I1 85 j w) := by
  intro x y h1 h2
  rw [zup_no (by
    by_cases q : x = 85
    · exact Or.inr (fun z => h2 ⟨q, by omega, by omega⟩)
    · exact Or.inl q)]
  exact h x y h1 h2
theorem zMs_95 {I I1 : Nat → Nat → Int32} (h : zMs I I1) {j : Nat} {w : Int32} : zMs I (zup I1 95 j w) := by
  intro x y h1 h2
  rw [zup_no (Or.inl h1)]
  exact h x y h1 h2
theorem zMn_of {I I1 : Nat → Nat → Int32} {v : Nat → Int32} {b : Nat → Nat} {a : Nat} (hM : zMr I I1 v a) {t0 tk vl a2 : Int32} (h17 : tk = nI (ztk b a)) (h18 : ztk b a = 1 → vl = nI (b a)) (hn2 : ztk b a ≠ 2) (h15 : ztk b a = 1 ∨ ztk b a = 3 ∨ ztk b a = 4 → a2 = nI (a + 1)) : zMn I (zup (zup (zup (zup (zup I1 85 16 (nI a)) 85 17 t0) 85 18 vl) 85 15 a2) 85 17 tk) v b a := by
  refine ⟨zMs_up (zMs_up (zMs_up (zMs_up (zMs_up hM.1 (by decide)) (by decide)) (by decide)) (by decide)) (by decide), fun q hq => ?_, ?_, ?_, fun z => ?_, fun z => absurd z hn2, fun z => ?_⟩
  · rw [zup_no (Or.inl (by decide)), zup_no (Or.inl (by decide)), zup_no (Or.inl (by decide)), zup_no (Or.inl (by decide)), zup_no (Or.inl (by decide))]; exact hM.2.1 q hq
  · rw [zup_no (Or.inr (by decide)), zup_no (Or.inr (by decide)), zup_no (Or.inr (by decide)), zup_no (Or.inr (by decide)), zup_on]
  · rw [zup_on]; exact h17
  · rw [zup_no (Or.inr (by decide)), zup_no (Or.inr (by decide)), zup_on]; exact h18 z
  · rw [zup_no (Or.inr (by decide)), zup_on]; exact h15 z
theorem inb {q lo hi : Nat} (hq : q < 2 ^ 31) (hl : lo < 2 ^ 31) (hh : hi < 2 ^ 31) : decide (¬ nI q < nI lo ∧ nI q ≤ nI hi) = decide (lo ≤ q ∧ q ≤ hi) := by
  rw [Bool.eq_iff_iff, decide_eq_true_eq, decide_eq_true_eq, nI_ltI hq hl, nI_leI hq hh]
  omega
theorem num_step {v q : Nat} (h : 48 ≤ q) : 10 * nI v + nI q - 48 = nI (10 * v + (q - 48)) := by
  rw [show (10 : Int32) * nI v = nI (10 * v) from pk_mul 10 v, nI_add, show (nI (10 * v + q) - 48 : Int32) = nI (10 * v + q - 48) from pk_sub (b := 48) (by omega), show 10 * v + q - 48 = 10 * v + (q - 48) by omega]
set_option maxRecDepth 100000 in
set_option maxHeartbeats 4000000 in
theorem qX9_isFigure {l : zL} {I : Nat → Nat → Int32} {J : Nat → Nat → Int64} {nw : Bool} {x : Int32} : zP l mX9_isFigure [.int x] (hh I J nw) (zR (some (.int (zbb (decide (¬ x < 48 ∧ x ≤ 57))))) (hh I J nw)) := by
  refine z_start [.int x] (by decide +kernel) (Nat.le_of_ble_eq_true rfl) rfl ?_
  refine z_iload_0 (pc := 0) dX9_isFigure_0 ?_
  refine z_i2l (pc := 1) dX9_isFigure_1 ?_
  refine z_ldc2 (pc := 2) dX9_isFigure_2 kcX9_84 ?_
  refine z_ldc2 (pc := 5) dX9_isFigure_5 kcX9_86 ?_
  refine z_S3 (pc := 8) dX9_isFigure_8 mlX9_60 kX9_in vX9_in (by decide) (by decide) (Nat.le_of_ble_eq_true rfl) (qX9_in) ⟨Nat.le_refl _, Nat.le_refl _⟩ (fun r h1 hq => ?_)
  obtain ⟨rfl, rfl⟩ := hq
  refine z_ret (pc := 11) (r := some (.int _)) rfl dX9_isFigure_11 (zbb_01 _) rfl rfl ?_
  refine ⟨?_, rfl⟩
  rw [in_dec (a' := 48) (c' := 57) (by decide) (by decide)]
def zNl (I I1 : Nat → Nat → Int32) (v : Nat → Int32) (b : Nat → Nat) (a j : Nat) : Prop := zMs I I1 ∧ (∀ q, q < 66 → I1 95 q = v q) ∧ I1 85 15 = nI (a + j) ∧ I1 85 16 = nI a ∧ I1 85 17 = 2 ∧ I1 85 18 = nI (zvl b a j) ∧ ∀ i, i < j → zdg b (a + i) = true
set_option maxRecDepth 100000 in
set_option maxHeartbeats 4000000 in
theorem mfig_loop {l : zL} {I : Nat → Nat → Int32} {J : Nat → Nat → Int64} {nw : Bool} {v : Nat → Int32} {b : Nat → Nat} {a L : Nat} (hT : zTp I b L) {v1 : Value} {Q : Option Value → zH → Prop} (hQ : ∀ (I2 : Nat → Nat → Int32) (j : Nat), a + j ≤ L → zNl I I2 v b a j → zdg b (a + j) = false → zW l mX9_next SH.length (zsl SH) 232 [.ref 85, v1] [] (I2, J, RF nw, SH) Q) : ∀ (f j : Nat) (I1 : Nat → Nat → Int32), zNl I I1 v b a j → a + j ≤ L → L - (a + j) < f →
    zW l mX9_next SH.length (zsl SH) 141 [.ref 85, v1] [] (I1, J, RF nw, SH) Q
  | 0, j, _, _, _, hf => by omega
  | f + 1, j, I1, hN, hj, hf => by
    obtain ⟨hs, h95, h15, h16, h17, h18, hdg⟩ := hN
    have hL := hT.1
    have h19 : I1 85 19 = nI L := by rw [hs 85 19 (by decide) (by omega)]; exact hT.2.1
    refine z_aload_0 (pc := 141) dX9_next_141 ?_
    refine y_getI (pc := 142) dX9_next_142 flX9_104 rfl (by first | rfl | assumption) ?_
    rw [h17]
    refine z_iconst (pc := 145) (2) dX9_next_145 rfl ?_
    refine z_icmp_ne (pc := 146) (tgt := 232) dX9_next_146 (by decide) (fun c146 => ?_) (fun c146 => ?_)
    · exact absurd rfl c146
    · skip
      refine z_aload_0 (pc := 149) dX9_next_149 ?_
      refine y_getI (pc := 150) dX9_next_150 flX9_88 rfl (by first | rfl | assumption) ?_
      rw [h15]
      refine z_aload_0 (pc := 153) dX9_next_153 ?_
      refine y_getI (pc := 154) dX9_next_154 flX9_94 rfl (by first | rfl | assumption) ?_
      rw [h19]
      refine z_icmp_ge (pc := 157) (tgt := 232) dX9_next_157 (by decide) (fun c157 => ?_) (fun c157 => ?_)
      · skip
        have hge : L ≤ a + j := by
          rcases Nat.lt_or_ge (a + j) L with q | q
          · exact absurd c157 (nI_ge (b := L) q (by omega))
          · exact q
        exact hQ I1 j hj ⟨hs, h95, h15, h16, h17, h18, hdg⟩ (by unfold zdg; rw [hT.2.2.2 _ hge]; rfl)
      · skip
        have hlt : a + j < L := by
          rcases Nat.lt_or_ge (a + j) L with q | q
          · exact q
          · exact absurd (nI_le (a := L) q (by omega)) c157
        have hby := (hT.2.2.1 (a + j) hlt).2
        have e89 : I1 89 (a + j) = nI (b (a + j)) := by rw [hs 89 _ (by decide) (by omega)]; exact (hT.2.2.1 (a + j) hlt).1
        refine z_aload_0 (pc := 160) dX9_next_160 ?_
        refine y_getR (pc := 161) dX9_next_161 flX9_19 rfl (by first | rfl | assumption) (by first | rfl | assumption) ?_
        refine z_aload_0 (pc := 164) dX9_next_164 ?_
        refine y_getI (pc := 165) dX9_next_165 flX9_88 rfl (by first | rfl | assumption) ?_
        refine y_ialdN (pc := 168) (a + j) dX9_next_168 (by first | rfl | assumption) (h15) (by omega) (by first | decide | omega) ?_
        rw [e89]
        refine z_S1 (pc := 169) dX9_next_169 mlX9_101 kX9_isFigure vX9_isFigure (by decide) (by decide) (Nat.le_of_ble_eq_true rfl) (qX9_isFigure) ⟨Nat.le_refl _, Nat.le_refl _⟩ (fun r h1 hq => ?_)
        obtain ⟨rfl, rfl⟩ := hq
        refine z_if_eq (pc := 172) (tgt := 232) dX9_next_172 (by decide) (fun c172 => ?_) (fun c172 => ?_)
        · skip
          exact hQ I1 j hj ⟨hs, h95, h15, h16, h17, h18, hdg⟩ ((inb (q := b (a + j)) (lo := 48) (hi := 57) (by omega) (by decide) (by decide)).symm.trans ((zbb0 _).mp c172))
        · skip
          refine z_aload_0 (pc := 175) dX9_next_175 ?_
          refine z_aload_0 (pc := 176) dX9_next_176 ?_
          refine y_getI (pc := 177) dX9_next_177 flX9_88 rfl (by first | rfl | assumption) ?_
          rw [h15]
          refine z_aload_0 (pc := 180) dX9_next_180 ?_
          refine y_getI (pc := 181) dX9_next_181 flX9_91 rfl (by first | rfl | assumption) ?_
          rw [h16]
          refine z_isub (pc := 184) dX9_next_184 ?_
          rw [pk_sub (Nat.le_add_right a j), Nat.add_sub_cancel_left]
          refine z_iconst (pc := 185) (2) dX9_next_185 rfl ?_
          refine z_icmp_ge (pc := 186) (tgt := 212) dX9_next_186 (by decide) (fun c186 => ?_) (fun c186 => ?_)
          · skip
            refine z_aload_0 (pc := 212) dX9_next_212 ?_
            refine y_getI (pc := 213) dX9_next_213 flX9_107 rfl (by first | rfl | assumption) ?_
            rw [h18]
            refine y_putI (pc := 216) dX9_next_216 flX9_107 ffX9_107 rfl (by first | rfl | assumption) ⟨rfl, rfl⟩ ?_
            refine z_aload_0 (pc := 219) dX9_next_219 ?_
            refine z_dup (pc := 220) rfl dX9_next_220 ?_
            refine y_getI (pc := 221) dX9_next_221 flX9_88 rfl (by first | rfl | assumption) ?_
            rw [zup_no (Or.inr (by decide)), h15]
            refine z_iconst (pc := 224) (1) dX9_next_224 rfl ?_
            refine z_iadd (pc := 225) dX9_next_225 ?_
            refine y_putI (pc := 226) dX9_next_226 flX9_88 ffX9_88 rfl (by first | rfl | assumption) ⟨rfl, rfl⟩ ?_
            refine z_goto (pc := 229) (tgt := 141) dX9_next_229 (by decide) ?_
            have hd := (inb (q := b (a + j)) (lo := 48) (hi := 57) (by omega) (by decide) (by decide)).symm.trans ((zbb1 _).mp c172)
            have hd2 := of_decide_eq_true hd
            refine mfig_loop hT hQ f (j + 1) _ ⟨zMs_up (zMs_up hs (by decide)) (by decide), fun q hq => ?_, ?_, ?_, ?_, ?_, fun i hi => ?_⟩ (by omega) (by omega)
            · rw [zup_no (Or.inl (by decide)), zup_no (Or.inl (by decide))]; exact h95 q hq
            · rw [zup_on, nI_1, Nat.add_assoc]
            · rw [zup_no (Or.inr (by decide)), zup_no (Or.inr (by decide))]; exact h16
            · rw [zup_no (Or.inr (by decide)), zup_no (Or.inr (by decide))]; exact h17
            · rw [zup_no (Or.inr (by decide)), zup_on]
              have hj2 : 2 ≤ j := by
                rcases Nat.lt_or_ge j 2 with q | q
                · exact absurd c186 (nI_ge (b := 2) q (by omega))
                · exact q
              unfold zvl; rw [if_neg (by omega), if_neg (by omega), if_neg (by omega), if_neg (by omega)]
            · rcases Nat.lt_or_ge i j with q | q
              · exact hdg i q
              · rw [show i = j by omega]; exact hd
          · skip
            refine z_bipush (pc := 189) (10) dX9_next_189 rfl ?_
            refine z_aload_0 (pc := 191) dX9_next_191 ?_
            refine y_getI (pc := 192) dX9_next_192 flX9_107 rfl (by first | rfl | assumption) ?_
            rw [h18]
            refine z_imul (pc := 195) dX9_next_195 ?_
            refine z_aload_0 (pc := 196) dX9_next_196 ?_
            refine y_getR (pc := 197) dX9_next_197 flX9_19 rfl (by first | rfl | assumption) (by first | rfl | assumption) ?_
            refine z_aload_0 (pc := 200) dX9_next_200 ?_
            refine y_getI (pc := 201) dX9_next_201 flX9_88 rfl (by first | rfl | assumption) ?_
            refine y_ialdN (pc := 204) (a + j) dX9_next_204 (by first | rfl | assumption) (h15) (by omega) (by first | decide | omega) ?_
            rw [e89]
            refine z_iadd (pc := 205) dX9_next_205 ?_
            refine z_bipush (pc := 206) (48) dX9_next_206 rfl ?_
            refine z_isub (pc := 208) dX9_next_208 ?_
            refine z_goto (pc := 209) (tgt := 216) dX9_next_209 (by decide) ?_
            refine y_putI (pc := 216) dX9_next_216 flX9_107 ffX9_107 rfl (by first | rfl | assumption) ⟨rfl, rfl⟩ ?_
            refine z_aload_0 (pc := 219) dX9_next_219 ?_
            refine z_dup (pc := 220) rfl dX9_next_220 ?_
            refine y_getI (pc := 221) dX9_next_221 flX9_88 rfl (by first | rfl | assumption) ?_
            rw [zup_no (Or.inr (by decide)), h15]
            refine z_iconst (pc := 224) (1) dX9_next_224 rfl ?_
            refine z_iadd (pc := 225) dX9_next_225 ?_
            refine y_putI (pc := 226) dX9_next_226 flX9_88 ffX9_88 rfl (by first | rfl | assumption) ⟨rfl, rfl⟩ ?_
            refine z_goto (pc := 229) (tgt := 141) dX9_next_229 (by decide) ?_
            have hd := (inb (q := b (a + j)) (lo := 48) (hi := 57) (by omega) (by decide) (by decide)).symm.trans ((zbb1 _).mp c172)
            have hd2 := of_decide_eq_true hd
            refine mfig_loop hT hQ f (j + 1) _ ⟨zMs_up (zMs_up hs (by decide)) (by decide), fun q hq => ?_, ?_, ?_, ?_, ?_, fun i hi => ?_⟩ (by omega) (by omega)
            · rw [zup_no (Or.inl (by decide)), zup_no (Or.inl (by decide))]; exact h95 q hq
            · rw [zup_on, nI_1, Nat.add_assoc]
            · rw [zup_no (Or.inr (by decide)), zup_no (Or.inr (by decide))]; exact h16
            · rw [zup_no (Or.inr (by decide)), zup_no (Or.inr (by decide))]; exact h17
            · rw [zup_no (Or.inr (by decide)), zup_on]
              have hj2 : j < 2 := by
                rcases Nat.lt_or_ge j 2 with q | q
                · exact q
                · exact absurd (nI_le (a := 2) q (by omega)) c186
              rw [num_step hd2.1]
              have hj01 : j = 0 ∨ j = 1 := by omega
              rcases hj01 with rfl | rfl
              · unfold zvl; rw [if_pos rfl, if_neg (by omega), if_pos (by omega)]; exact congrArg nI (by show 10 * 0 + (b (a + 0) - 48) = b a - 48; rw [Nat.add_zero]; omega)
              · unfold zvl; rw [if_neg (by omega), if_pos rfl, if_neg (by omega), if_neg (by omega)]
            · rcases Nat.lt_or_ge i j with q | q
              · exact hdg i q
              · rw [show i = j by omega]; exact hd
theorem znf_of {b : Nat → Nat} {a j : Nat} (h : ∀ i, i < j → zdg b (a + i) = true) (hn : zdg b (a + j) = false) : znf b a = if j < 3 then j else 3 := by
  unfold znf
  match j, h, hn with
  | 0, h, hn => rw [Nat.add_zero] at hn; rw [hn]; rfl
  | 1, h, hn => rw [show zdg b a = true from h 0 (by omega), hn]; rfl
  | 2, h, hn => rw [show zdg b a = true from h 0 (by omega), h 1 (by omega), hn]; rfl
  | j + 3, h, hn => rw [show zdg b a = true from h 0 (by omega), h 1 (by omega), h 2 (by omega), if_neg (c := j + 3 < 3) (by omega)]; rfl
theorem zvl_max {b : Nat → Nat} {a j : Nat} : zvl b a (if j < 3 then j else 3) = zvl b a j := by
  by_cases h : j < 3
  · rw [if_pos h]
  · rw [if_neg h]; unfold zvl; rw [if_neg (by omega), if_neg (by omega), if_neg (by omega), if_neg (by omega)]
set_option maxRecDepth 100000 in
set_option maxHeartbeats 4000000 in
theorem qX9_next {l : zL} {I : Nat → Nat → Int32} {J : Nat → Nat → Int64} {nw : Bool} {I1 : Nat → Nat → Int32} {v : Nat → Int32} {b : Nat → Nat} {a L : Nat} (hT : zTp I b L) (hM : zMr I I1 v a) : zP l mX9_next [.ref 85] (hh I1 J nw) (fun r h1 => r = none ∧ ∃ I2, h1 = (I2, J, RF nw, SH) ∧ zMn I I2 v b a) := by
  have h15 := hM.2.2.1
  have ha := hM.2.2.2
  have hL := hT.1
  have h19 : I1 85 19 = nI L := by rw [hM.1 85 19 (by decide) (by omega)]; exact hT.2.1
  refine z_start [.ref 85, zno] (by decide +kernel) (Nat.le_of_ble_eq_true rfl) rfl ?_
  refine z_aload_0 (pc := 0) dX9_next_0 ?_
  refine z_aload_0 (pc := 1) dX9_next_1 ?_
  refine y_getI (pc := 2) dX9_next_2 flX9_88 rfl (by first | rfl | assumption) ?_
  rw [h15]
  refine y_putI (pc := 5) dX9_next_5 flX9_91 ffX9_91 rfl (by first | rfl | assumption) ⟨rfl, rfl⟩ ?_
  refine z_aload_0 (pc := 8) dX9_next_8 ?_
  refine y_getI (pc := 9) dX9_next_9 flX9_88 rfl (by first | rfl | assumption) ?_
  rw [zup_no (Or.inr (by decide)), h15]
  refine z_aload_0 (pc := 12) dX9_next_12 ?_
  refine y_getI (pc := 13) dX9_next_13 flX9_94 rfl (by first | rfl | assumption) ?_
  rw [zup_no (Or.inr (by decide)), h19]
  refine z_icmp_ge (pc := 16) (tgt := 31) dX9_next_16 (by decide) (fun c16 => ?_) (fun c16 => ?_)
  · skip
    have hge : L ≤ a := by
      rcases Nat.lt_or_ge a L with q | q
      · exact absurd c16 (nI_ge (b := L) q (by omega))
      · exact q
    refine z_iconst (pc := 31) (-1) dX9_next_31 rfl ?_
    refine z_istore_1 (pc := 32) dX9_next_32 (by decide) rfl ?_
    refine z_aload_0 (pc := 33) dX9_next_33 ?_
    refine z_iload_1 (pc := 34) dX9_next_34 ?_
    refine z_if_ge (pc := 35) (tgt := 42) dX9_next_35 (by decide) (fun c35 => ?_) (fun c35 => ?_)
    · exact absurd c35 (by decide)
    · skip
      refine z_iconst (pc := 38) (0) dX9_next_38 rfl ?_
      refine z_goto (pc := 39) (tgt := 92) dX9_next_39 (by decide) ?_
      refine y_putI (pc := 92) dX9_next_92 flX9_104 ffX9_104 rfl (by first | rfl | assumption) ⟨rfl, rfl⟩ ?_
      refine z_aload_0 (pc := 95) dX9_next_95 ?_
      refine z_aload_0 (pc := 96) dX9_next_96 ?_
      refine y_getI (pc := 97) dX9_next_97 flX9_104 rfl (by first | rfl | assumption) ?_
      rw [zup_on]
      refine z_iconst (pc := 100) (1) dX9_next_100 rfl ?_
      refine z_icmp_ne (pc := 101) (tgt := 108) dX9_next_101 (by decide) (fun c101 => ?_) (fun c101 => ?_)
      · skip
        refine z_iconst (pc := 108) (0) dX9_next_108 rfl ?_
        refine y_putI (pc := 109) dX9_next_109 flX9_107 ffX9_107 rfl (by first | rfl | assumption) ⟨rfl, rfl⟩ ?_
        refine z_aload_0 (pc := 112) dX9_next_112 ?_
        refine z_dup (pc := 113) rfl dX9_next_113 ?_
        refine y_getI (pc := 114) dX9_next_114 flX9_88 rfl (by first | rfl | assumption) ?_
        rw [zup_no (Or.inr (by decide)), zup_no (Or.inr (by decide)), zup_no (Or.inr (by decide)), h15]
        refine z_aload_0 (pc := 117) dX9_next_117 ?_
        refine y_getI (pc := 118) dX9_next_118 flX9_104 rfl (by first | rfl | assumption) ?_
        rw [zup_no (Or.inr (by decide)), zup_on]
        refine z_if_le (pc := 121) (tgt := 136) dX9_next_121 (by decide) (fun c121 => ?_) (fun c121 => ?_)
        · skip
          refine z_iconst (pc := 136) (0) dX9_next_136 rfl ?_
          refine z_iadd (pc := 137) dX9_next_137 ?_
          refine y_putI (pc := 138) dX9_next_138 flX9_88 ffX9_88 rfl (by first | rfl | assumption) ⟨rfl, rfl⟩ ?_
          refine z_aload_0 (pc := 141) dX9_next_141 ?_
          refine y_getI (pc := 142) dX9_next_142 flX9_104 rfl (by first | rfl | assumption) ?_
          rw [zup_no (Or.inr (by decide)), zup_no (Or.inr (by decide)), zup_on]
          refine z_iconst (pc := 145) (2) dX9_next_145 rfl ?_
          refine z_icmp_ne (pc := 146) (tgt := 232) dX9_next_146 (by decide) (fun c146 => ?_) (fun c146 => ?_)
          · skip
            refine z_aload_0 (pc := 232) dX9_next_232 ?_
            refine z_aload_0 (pc := 233) dX9_next_233 ?_
            refine y_getI (pc := 234) dX9_next_234 flX9_104 rfl (by first | rfl | assumption) ?_
            rw [zup_no (Or.inr (by decide)), zup_no (Or.inr (by decide)), zup_on]
            refine z_iconst (pc := 237) (2) dX9_next_237 rfl ?_
            refine z_icmp_ne (pc := 238) (tgt := 258) dX9_next_238 (by decide) (fun c238 => ?_) (fun c238 => ?_)
            · skip
              refine z_aload_0 (pc := 258) dX9_next_258 ?_
              refine y_getI (pc := 259) dX9_next_259 flX9_104 rfl (by first | rfl | assumption) ?_
              rw [zup_no (Or.inr (by decide)), zup_no (Or.inr (by decide)), zup_on]
              refine y_putI (pc := 262) dX9_next_262 flX9_104 ffX9_104 rfl (by first | rfl | assumption) ⟨rfl, rfl⟩ ?_
              refine z_ret (pc := 265) (r := none) rfl dX9_next_265 trivial rfl rfl ?_
              have et : ztk b a = 0 := by unfold ztk; rw [if_pos (hT.2.2.2 a hge)]
              refine ⟨rfl, _, rfl, zMn_of hM (by rw [et]; rfl) (fun z => ?_) (by omega) (fun z => ?_)⟩
              · omega
              · omega
            · exact absurd c238 (by decide)
          · exact absurd c146 (by decide)
        · exact absurd c121 (by decide)
      · exact absurd c101 (by decide)
  · skip
    have hlt : a < L := by
      rcases Nat.lt_or_ge a L with q | q
      · exact q
      · exact absurd (nI_le (a := L) q (by omega)) c16
    have hby := (hT.2.2.1 a hlt).2
    have e89 : I1 89 a = nI (b a) := by rw [hM.1 89 _ (by decide) (by omega)]; exact (hT.2.2.1 a hlt).1
    have hL48 := inb (q := b a) (lo := 48) (hi := 57) (by omega) (by decide) (by decide)
    have hL97 : (decide ((97 : Int64) ≤ (nI (b a)).toInt64) && decide ((nI (b a)).toInt64 ≤ 122)) = decide (97 ≤ b a ∧ b a ≤ 122) := by
      rw [in_dec (a' := nI 97) (c' := nI 122) (by decide) (by decide)]
      exact inb (by omega) (by decide) (by decide)
    refine z_aload_0 (pc := 19) dX9_next_19 ?_
    refine y_getR (pc := 20) dX9_next_20 flX9_19 rfl (by first | rfl | assumption) (by first | rfl | assumption) ?_
    refine z_aload_0 (pc := 23) dX9_next_23 ?_
    refine y_getI (pc := 24) dX9_next_24 flX9_88 rfl (by first | rfl | assumption) ?_
    refine y_ialdN (pc := 27) (a) dX9_next_27 (by first | rfl | assumption) (by rw [zup_no (Or.inr (by decide)), h15]) (by omega) (by first | decide | omega) ?_
    rw [zup_no (Or.inl (by decide)), e89]
    refine z_goto (pc := 28) (tgt := 32) dX9_next_28 (by decide) ?_
    refine z_istore_1 (pc := 32) dX9_next_32 (by decide) rfl ?_
    refine z_aload_0 (pc := 33) dX9_next_33 ?_
    refine z_iload_1 (pc := 34) dX9_next_34 ?_
    refine z_if_ge (pc := 35) (tgt := 42) dX9_next_35 (by decide) (fun c35 => ?_) (fun c35 => ?_)
    · skip
      refine z_iload_1 (pc := 42) dX9_next_42 ?_
      refine z_i2l (pc := 43) dX9_next_43 ?_
      refine z_ldc2 (pc := 44) dX9_next_44 kcX9_97 ?_
      refine z_ldc2 (pc := 47) dX9_next_47 kcX9_99 ?_
      refine z_S3 (pc := 50) dX9_next_50 mlX9_60 kX9_in vX9_in (by decide) (by decide) (Nat.le_of_ble_eq_true rfl) (qX9_in) ⟨Nat.le_refl _, Nat.le_refl _⟩ (fun r h1 hq => ?_)
      obtain ⟨rfl, rfl⟩ := hq
      refine z_if_eq (pc := 53) (tgt := 60) dX9_next_53 (by decide) (fun c53 => ?_) (fun c53 => ?_)
      · skip
        refine z_iload_1 (pc := 60) dX9_next_60 ?_
        refine z_S1 (pc := 61) dX9_next_61 mlX9_101 kX9_isFigure vX9_isFigure (by decide) (by decide) (Nat.le_of_ble_eq_true rfl) (qX9_isFigure) ⟨Nat.le_refl _, Nat.le_refl _⟩ (fun r h1 hq => ?_)
        obtain ⟨rfl, rfl⟩ := hq
        refine z_if_eq (pc := 64) (tgt := 71) dX9_next_64 (by decide) (fun c64 => ?_) (fun c64 => ?_)
        · skip
          refine z_iload_1 (pc := 71) dX9_next_71 ?_
          refine z_bipush (pc := 72) (44) dX9_next_72 rfl ?_
          refine z_icmp_ne (pc := 74) (tgt := 81) dX9_next_74 (by decide) (fun c74 => ?_) (fun c74 => ?_)
          · skip
            refine z_iload_1 (pc := 81) dX9_next_81 ?_
            refine z_bipush (pc := 82) (59) dX9_next_82 rfl ?_
            refine z_icmp_ne (pc := 84) (tgt := 91) dX9_next_84 (by decide) (fun c84 => ?_) (fun c84 => ?_)
            · skip
              refine z_iconst (pc := 91) (5) dX9_next_91 rfl ?_
              refine y_putI (pc := 92) dX9_next_92 flX9_104 ffX9_104 rfl (by first | rfl | assumption) ⟨rfl, rfl⟩ ?_
              refine z_aload_0 (pc := 95) dX9_next_95 ?_
              refine z_aload_0 (pc := 96) dX9_next_96 ?_
              refine y_getI (pc := 97) dX9_next_97 flX9_104 rfl (by first | rfl | assumption) ?_
              rw [zup_on]
              refine z_iconst (pc := 100) (1) dX9_next_100 rfl ?_
              refine z_icmp_ne (pc := 101) (tgt := 108) dX9_next_101 (by decide) (fun c101 => ?_) (fun c101 => ?_)
              · skip
                refine z_iconst (pc := 108) (0) dX9_next_108 rfl ?_
                refine y_putI (pc := 109) dX9_next_109 flX9_107 ffX9_107 rfl (by first | rfl | assumption) ⟨rfl, rfl⟩ ?_
                refine z_aload_0 (pc := 112) dX9_next_112 ?_
                refine z_dup (pc := 113) rfl dX9_next_113 ?_
                refine y_getI (pc := 114) dX9_next_114 flX9_88 rfl (by first | rfl | assumption) ?_
                rw [zup_no (Or.inr (by decide)), zup_no (Or.inr (by decide)), zup_no (Or.inr (by decide)), h15]
                refine z_aload_0 (pc := 117) dX9_next_117 ?_
                refine y_getI (pc := 118) dX9_next_118 flX9_104 rfl (by first | rfl | assumption) ?_
                rw [zup_no (Or.inr (by decide)), zup_on]
                refine z_if_le (pc := 121) (tgt := 136) dX9_next_121 (by decide) (fun c121 => ?_) (fun c121 => ?_)
                · exact absurd c121 (by decide)
                · skip
                  refine z_aload_0 (pc := 124) dX9_next_124 ?_
                  refine y_getI (pc := 125) dX9_next_125 flX9_104 rfl (by first | rfl | assumption) ?_
                  rw [zup_no (Or.inr (by decide)), zup_on]
                  refine z_iconst (pc := 128) (2) dX9_next_128 rfl ?_
                  refine z_icmp_eq (pc := 129) (tgt := 136) dX9_next_129 (by decide) (fun c129 => ?_) (fun c129 => ?_)
                  · exact absurd c129 (by decide)
                  · skip
                    refine z_iconst (pc := 132) (1) dX9_next_132 rfl ?_
                    refine z_goto (pc := 133) (tgt := 137) dX9_next_133 (by decide) ?_
                    refine z_iadd (pc := 137) dX9_next_137 ?_
                    refine y_putI (pc := 138) dX9_next_138 flX9_88 ffX9_88 rfl (by first | rfl | assumption) ⟨rfl, rfl⟩ ?_
                    refine z_aload_0 (pc := 141) dX9_next_141 ?_
                    refine y_getI (pc := 142) dX9_next_142 flX9_104 rfl (by first | rfl | assumption) ?_
                    rw [zup_no (Or.inr (by decide)), zup_no (Or.inr (by decide)), zup_on]
                    refine z_iconst (pc := 145) (2) dX9_next_145 rfl ?_
                    refine z_icmp_ne (pc := 146) (tgt := 232) dX9_next_146 (by decide) (fun c146 => ?_) (fun c146 => ?_)
                    · skip
                      refine z_aload_0 (pc := 232) dX9_next_232 ?_
                      refine z_aload_0 (pc := 233) dX9_next_233 ?_
                      refine y_getI (pc := 234) dX9_next_234 flX9_104 rfl (by first | rfl | assumption) ?_
                      rw [zup_no (Or.inr (by decide)), zup_no (Or.inr (by decide)), zup_on]
                      refine z_iconst (pc := 237) (2) dX9_next_237 rfl ?_
                      refine z_icmp_ne (pc := 238) (tgt := 258) dX9_next_238 (by decide) (fun c238 => ?_) (fun c238 => ?_)
                      · skip
                        refine z_aload_0 (pc := 258) dX9_next_258 ?_
                        refine y_getI (pc := 259) dX9_next_259 flX9_104 rfl (by first | rfl | assumption) ?_
                        rw [zup_no (Or.inr (by decide)), zup_no (Or.inr (by decide)), zup_on]
                        refine y_putI (pc := 262) dX9_next_262 flX9_104 ffX9_104 rfl (by first | rfl | assumption) ⟨rfl, rfl⟩ ?_
                        refine z_ret (pc := 265) (r := none) rfl dX9_next_265 trivial rfl rfl ?_
                        have h9 : ¬ b a = 999 := by omega
                        have n1 : ¬ (97 ≤ b a ∧ b a ≤ 122) := of_decide_eq_false (hL97.symm.trans ((zbb0 _).mp c53))
                        have n2 : ¬ zdg b a = true := by rw [show zdg b a = false from hL48.symm.trans ((zbb0 _).mp c64)]; decide
                        have et : ztk b a = 5 := by unfold ztk; rw [if_neg h9, if_neg n1, if_neg n2, if_neg (fun z => c74 (by rw [z]; rfl)), if_neg (fun z => c84 (by rw [z]; rfl))]
                        refine ⟨rfl, _, rfl, zMn_of hM (by rw [et]; rfl) (fun z => ?_) (by omega) (fun z => ?_)⟩
                        · omega
                        · omega
                      · exact absurd c238 (by decide)
                    · exact absurd c146 (by decide)
              · exact absurd c101 (by decide)
            · skip
              refine z_iconst (pc := 87) (4) dX9_next_87 rfl ?_
              refine z_goto (pc := 88) (tgt := 92) dX9_next_88 (by decide) ?_
              refine y_putI (pc := 92) dX9_next_92 flX9_104 ffX9_104 rfl (by first | rfl | assumption) ⟨rfl, rfl⟩ ?_
              refine z_aload_0 (pc := 95) dX9_next_95 ?_
              refine z_aload_0 (pc := 96) dX9_next_96 ?_
              refine y_getI (pc := 97) dX9_next_97 flX9_104 rfl (by first | rfl | assumption) ?_
              rw [zup_on]
              refine z_iconst (pc := 100) (1) dX9_next_100 rfl ?_
              refine z_icmp_ne (pc := 101) (tgt := 108) dX9_next_101 (by decide) (fun c101 => ?_) (fun c101 => ?_)
              · skip
                refine z_iconst (pc := 108) (0) dX9_next_108 rfl ?_
                refine y_putI (pc := 109) dX9_next_109 flX9_107 ffX9_107 rfl (by first | rfl | assumption) ⟨rfl, rfl⟩ ?_
                refine z_aload_0 (pc := 112) dX9_next_112 ?_
                refine z_dup (pc := 113) rfl dX9_next_113 ?_
                refine y_getI (pc := 114) dX9_next_114 flX9_88 rfl (by first | rfl | assumption) ?_
                rw [zup_no (Or.inr (by decide)), zup_no (Or.inr (by decide)), zup_no (Or.inr (by decide)), h15]
                refine z_aload_0 (pc := 117) dX9_next_117 ?_
                refine y_getI (pc := 118) dX9_next_118 flX9_104 rfl (by first | rfl | assumption) ?_
                rw [zup_no (Or.inr (by decide)), zup_on]
                refine z_if_le (pc := 121) (tgt := 136) dX9_next_121 (by decide) (fun c121 => ?_) (fun c121 => ?_)
                · exact absurd c121 (by decide)
                · skip
                  refine z_aload_0 (pc := 124) dX9_next_124 ?_
                  refine y_getI (pc := 125) dX9_next_125 flX9_104 rfl (by first | rfl | assumption) ?_
                  rw [zup_no (Or.inr (by decide)), zup_on]
                  refine z_iconst (pc := 128) (2) dX9_next_128 rfl ?_
                  refine z_icmp_eq (pc := 129) (tgt := 136) dX9_next_129 (by decide) (fun c129 => ?_) (fun c129 => ?_)
                  · exact absurd c129 (by decide)
                  · skip
                    refine z_iconst (pc := 132) (1) dX9_next_132 rfl ?_
                    refine z_goto (pc := 133) (tgt := 137) dX9_next_133 (by decide) ?_
                    refine z_iadd (pc := 137) dX9_next_137 ?_
                    refine y_putI (pc := 138) dX9_next_138 flX9_88 ffX9_88 rfl (by first | rfl | assumption) ⟨rfl, rfl⟩ ?_
                    refine z_aload_0 (pc := 141) dX9_next_141 ?_
                    refine y_getI (pc := 142) dX9_next_142 flX9_104 rfl (by first | rfl | assumption) ?_
                    rw [zup_no (Or.inr (by decide)), zup_no (Or.inr (by decide)), zup_on]
                    refine z_iconst (pc := 145) (2) dX9_next_145 rfl ?_
                    refine z_icmp_ne (pc := 146) (tgt := 232) dX9_next_146 (by decide) (fun c146 => ?_) (fun c146 => ?_)
                    · skip
                      refine z_aload_0 (pc := 232) dX9_next_232 ?_
                      refine z_aload_0 (pc := 233) dX9_next_233 ?_
                      refine y_getI (pc := 234) dX9_next_234 flX9_104 rfl (by first | rfl | assumption) ?_
                      rw [zup_no (Or.inr (by decide)), zup_no (Or.inr (by decide)), zup_on]
                      refine z_iconst (pc := 237) (2) dX9_next_237 rfl ?_
                      refine z_icmp_ne (pc := 238) (tgt := 258) dX9_next_238 (by decide) (fun c238 => ?_) (fun c238 => ?_)
                      · skip
                        refine z_aload_0 (pc := 258) dX9_next_258 ?_
                        refine y_getI (pc := 259) dX9_next_259 flX9_104 rfl (by first | rfl | assumption) ?_
                        rw [zup_no (Or.inr (by decide)), zup_no (Or.inr (by decide)), zup_on]
                        refine y_putI (pc := 262) dX9_next_262 flX9_104 ffX9_104 rfl (by first | rfl | assumption) ⟨rfl, rfl⟩ ?_
                        refine z_ret (pc := 265) (r := none) rfl dX9_next_265 trivial rfl rfl ?_
                        have h9 : ¬ b a = 999 := by omega
                        have n1 : ¬ (97 ≤ b a ∧ b a ≤ 122) := of_decide_eq_false (hL97.symm.trans ((zbb0 _).mp c53))
                        have n2 : ¬ zdg b a = true := by rw [show zdg b a = false from hL48.symm.trans ((zbb0 _).mp c64)]; decide
                        have et : ztk b a = 4 := by unfold ztk; rw [if_neg h9, if_neg n1, if_neg n2, if_neg (fun z => c74 (by rw [z]; rfl)), if_pos (by rw [show (59 : Int32) = nI 59 from rfl] at c84; exact (nI_eq (by omega) (by decide)).mp c84)]
                        refine ⟨rfl, _, rfl, zMn_of hM (by rw [et]; rfl) (fun z => ?_) (by omega) (fun z => ?_)⟩
                        · omega
                        · exact nI_1 a
                      · exact absurd c238 (by decide)
                    · exact absurd c146 (by decide)
              · exact absurd c101 (by decide)
          · skip
            refine z_iconst (pc := 77) (3) dX9_next_77 rfl ?_
            refine z_goto (pc := 78) (tgt := 92) dX9_next_78 (by decide) ?_
            refine y_putI (pc := 92) dX9_next_92 flX9_104 ffX9_104 rfl (by first | rfl | assumption) ⟨rfl, rfl⟩ ?_
            refine z_aload_0 (pc := 95) dX9_next_95 ?_
            refine z_aload_0 (pc := 96) dX9_next_96 ?_
            refine y_getI (pc := 97) dX9_next_97 flX9_104 rfl (by first | rfl | assumption) ?_
            rw [zup_on]
            refine z_iconst (pc := 100) (1) dX9_next_100 rfl ?_
            refine z_icmp_ne (pc := 101) (tgt := 108) dX9_next_101 (by decide) (fun c101 => ?_) (fun c101 => ?_)
            · skip
              refine z_iconst (pc := 108) (0) dX9_next_108 rfl ?_
              refine y_putI (pc := 109) dX9_next_109 flX9_107 ffX9_107 rfl (by first | rfl | assumption) ⟨rfl, rfl⟩ ?_
              refine z_aload_0 (pc := 112) dX9_next_112 ?_
              refine z_dup (pc := 113) rfl dX9_next_113 ?_
              refine y_getI (pc := 114) dX9_next_114 flX9_88 rfl (by first | rfl | assumption) ?_
              rw [zup_no (Or.inr (by decide)), zup_no (Or.inr (by decide)), zup_no (Or.inr (by decide)), h15]
              refine z_aload_0 (pc := 117) dX9_next_117 ?_
              refine y_getI (pc := 118) dX9_next_118 flX9_104 rfl (by first | rfl | assumption) ?_
              rw [zup_no (Or.inr (by decide)), zup_on]
              refine z_if_le (pc := 121) (tgt := 136) dX9_next_121 (by decide) (fun c121 => ?_) (fun c121 => ?_)
              · exact absurd c121 (by decide)
              · skip
                refine z_aload_0 (pc := 124) dX9_next_124 ?_
                refine y_getI (pc := 125) dX9_next_125 flX9_104 rfl (by first | rfl | assumption) ?_
                rw [zup_no (Or.inr (by decide)), zup_on]
                refine z_iconst (pc := 128) (2) dX9_next_128 rfl ?_
                refine z_icmp_eq (pc := 129) (tgt := 136) dX9_next_129 (by decide) (fun c129 => ?_) (fun c129 => ?_)
                · exact absurd c129 (by decide)
                · skip
                  refine z_iconst (pc := 132) (1) dX9_next_132 rfl ?_
                  refine z_goto (pc := 133) (tgt := 137) dX9_next_133 (by decide) ?_
                  refine z_iadd (pc := 137) dX9_next_137 ?_
                  refine y_putI (pc := 138) dX9_next_138 flX9_88 ffX9_88 rfl (by first | rfl | assumption) ⟨rfl, rfl⟩ ?_
                  refine z_aload_0 (pc := 141) dX9_next_141 ?_
                  refine y_getI (pc := 142) dX9_next_142 flX9_104 rfl (by first | rfl | assumption) ?_
                  rw [zup_no (Or.inr (by decide)), zup_no (Or.inr (by decide)), zup_on]
                  refine z_iconst (pc := 145) (2) dX9_next_145 rfl ?_
                  refine z_icmp_ne (pc := 146) (tgt := 232) dX9_next_146 (by decide) (fun c146 => ?_) (fun c146 => ?_)
                  · skip
                    refine z_aload_0 (pc := 232) dX9_next_232 ?_
                    refine z_aload_0 (pc := 233) dX9_next_233 ?_
                    refine y_getI (pc := 234) dX9_next_234 flX9_104 rfl (by first | rfl | assumption) ?_
                    rw [zup_no (Or.inr (by decide)), zup_no (Or.inr (by decide)), zup_on]
                    refine z_iconst (pc := 237) (2) dX9_next_237 rfl ?_
                    refine z_icmp_ne (pc := 238) (tgt := 258) dX9_next_238 (by decide) (fun c238 => ?_) (fun c238 => ?_)
                    · skip
                      refine z_aload_0 (pc := 258) dX9_next_258 ?_
                      refine y_getI (pc := 259) dX9_next_259 flX9_104 rfl (by first | rfl | assumption) ?_
                      rw [zup_no (Or.inr (by decide)), zup_no (Or.inr (by decide)), zup_on]
                      refine y_putI (pc := 262) dX9_next_262 flX9_104 ffX9_104 rfl (by first | rfl | assumption) ⟨rfl, rfl⟩ ?_
                      refine z_ret (pc := 265) (r := none) rfl dX9_next_265 trivial rfl rfl ?_
                      have h9 : ¬ b a = 999 := by omega
                      have n1 : ¬ (97 ≤ b a ∧ b a ≤ 122) := of_decide_eq_false (hL97.symm.trans ((zbb0 _).mp c53))
                      have n2 : ¬ zdg b a = true := by rw [show zdg b a = false from hL48.symm.trans ((zbb0 _).mp c64)]; decide
                      have et : ztk b a = 3 := by unfold ztk; rw [if_neg h9, if_neg n1, if_neg n2, if_pos (by rw [show (44 : Int32) = nI 44 from rfl] at c74; exact (nI_eq (by omega) (by decide)).mp c74)]
                      refine ⟨rfl, _, rfl, zMn_of hM (by rw [et]; rfl) (fun z => ?_) (by omega) (fun z => ?_)⟩
                      · omega
                      · exact nI_1 a
                    · exact absurd c238 (by decide)
                  · exact absurd c146 (by decide)
            · exact absurd c101 (by decide)
        · skip
          refine z_iconst (pc := 67) (2) dX9_next_67 rfl ?_
          refine z_goto (pc := 68) (tgt := 92) dX9_next_68 (by decide) ?_
          refine y_putI (pc := 92) dX9_next_92 flX9_104 ffX9_104 rfl (by first | rfl | assumption) ⟨rfl, rfl⟩ ?_
          refine z_aload_0 (pc := 95) dX9_next_95 ?_
          refine z_aload_0 (pc := 96) dX9_next_96 ?_
          refine y_getI (pc := 97) dX9_next_97 flX9_104 rfl (by first | rfl | assumption) ?_
          rw [zup_on]
          refine z_iconst (pc := 100) (1) dX9_next_100 rfl ?_
          refine z_icmp_ne (pc := 101) (tgt := 108) dX9_next_101 (by decide) (fun c101 => ?_) (fun c101 => ?_)
          · skip
            refine z_iconst (pc := 108) (0) dX9_next_108 rfl ?_
            refine y_putI (pc := 109) dX9_next_109 flX9_107 ffX9_107 rfl (by first | rfl | assumption) ⟨rfl, rfl⟩ ?_
            refine z_aload_0 (pc := 112) dX9_next_112 ?_
            refine z_dup (pc := 113) rfl dX9_next_113 ?_
            refine y_getI (pc := 114) dX9_next_114 flX9_88 rfl (by first | rfl | assumption) ?_
            rw [zup_no (Or.inr (by decide)), zup_no (Or.inr (by decide)), zup_no (Or.inr (by decide)), h15]
            refine z_aload_0 (pc := 117) dX9_next_117 ?_
            refine y_getI (pc := 118) dX9_next_118 flX9_104 rfl (by first | rfl | assumption) ?_
            rw [zup_no (Or.inr (by decide)), zup_on]
            refine z_if_le (pc := 121) (tgt := 136) dX9_next_121 (by decide) (fun c121 => ?_) (fun c121 => ?_)
            · exact absurd c121 (by decide)
            · skip
              refine z_aload_0 (pc := 124) dX9_next_124 ?_
              refine y_getI (pc := 125) dX9_next_125 flX9_104 rfl (by first | rfl | assumption) ?_
              rw [zup_no (Or.inr (by decide)), zup_on]
              refine z_iconst (pc := 128) (2) dX9_next_128 rfl ?_
              refine z_icmp_eq (pc := 129) (tgt := 136) dX9_next_129 (by decide) (fun c129 => ?_) (fun c129 => ?_)
              · skip
                refine z_iconst (pc := 136) (0) dX9_next_136 rfl ?_
                refine z_iadd (pc := 137) dX9_next_137 ?_
                refine y_putI (pc := 138) dX9_next_138 flX9_88 ffX9_88 rfl (by first | rfl | assumption) ⟨rfl, rfl⟩ ?_
                have h9 : ¬ b a = 999 := by omega
                have n1 : ¬ (97 ≤ b a ∧ b a ≤ 122) := of_decide_eq_false (hL97.symm.trans ((zbb0 _).mp c53))
                have hd0 : zdg b a = true := hL48.symm.trans ((zbb1 _).mp c64)
                have k232 : ∀ (I2 : Nat → Nat → Int32) (j : Nat), a + j ≤ L → zNl I I2 v b a j → zdg b (a + j) = false → zW l mX9_next SH.length (zsl SH) 232 [.ref 85, .int (nI (b a))] [] (I2, J, RF nw, SH) (fun r h1 => r = none ∧ ∃ I2, h1 = (I2, J, RF nw, SH) ∧ zMn I I2 v b a) := by
                  intro I2 j haj hN hnd
                  obtain ⟨hs, h95, h15, h16, h17, h18, hdg⟩ := hN
                  refine z_aload_0 (pc := 232) dX9_next_232 ?_
                  refine z_aload_0 (pc := 233) dX9_next_233 ?_
                  refine y_getI (pc := 234) dX9_next_234 flX9_104 rfl (by first | rfl | assumption) ?_
                  rw [h17]
                  refine z_iconst (pc := 237) (2) dX9_next_237 rfl ?_
                  refine z_icmp_ne (pc := 238) (tgt := 258) dX9_next_238 (by decide) (fun c238 => ?_) (fun c238 => ?_)
                  · exact absurd rfl c238
                  · skip
                    refine z_aload_0 (pc := 241) dX9_next_241 ?_
                    refine y_getI (pc := 242) dX9_next_242 flX9_88 rfl (by first | rfl | assumption) ?_
                    rw [h15]
                    refine z_aload_0 (pc := 245) dX9_next_245 ?_
                    refine y_getI (pc := 246) dX9_next_246 flX9_91 rfl (by first | rfl | assumption) ?_
                    rw [h16]
                    refine z_isub (pc := 249) dX9_next_249 ?_
                    rw [pk_sub (Nat.le_add_right a j), Nat.add_sub_cancel_left]
                    refine z_iconst (pc := 250) (2) dX9_next_250 rfl ?_
                    refine z_icmp_le (pc := 251) (tgt := 258) dX9_next_251 (by decide) (fun c251 => ?_) (fun c251 => ?_)
                    · skip
                      refine z_aload_0 (pc := 258) dX9_next_258 ?_
                      refine y_getI (pc := 259) dX9_next_259 flX9_104 rfl (by first | rfl | assumption) ?_
                      rw [h17]
                      refine y_putI (pc := 262) dX9_next_262 flX9_104 ffX9_104 rfl (by first | rfl | assumption) ⟨rfl, rfl⟩ ?_
                      refine z_ret (pc := 265) (r := none) rfl dX9_next_265 trivial rfl rfl ?_
                      have hnf := znf_of hdg hnd
                      have hj3 : j < 3 := by
                        rcases Nat.lt_or_ge j 3 with q | q
                        · exact q
                        · exact absurd c251 (nI_ge (a := 2) (b := j) (by omega) (by omega))
                      have hmx := zvl_max (b := b) (a := a) (j := j)
                      rw [← hnf] at hmx
                      rw [if_pos hj3] at hnf
                      have et : ztk b a = 2 := by unfold ztk; rw [if_neg h9, if_neg n1, if_pos hd0, if_neg (by omega)]
                      refine ⟨rfl, _, rfl, zMs_up hs (by decide), fun q hq => ?_, ?_, ?_, fun z => by omega, fun z => ⟨?_, ?_⟩, fun z => by omega⟩
                      · rw [zup_no (Or.inl (by decide))]; exact h95 q hq
                      · rw [zup_no (Or.inr (by decide))]; exact h16
                      · rw [zup_on, et]; rfl
                      · rw [zup_no (Or.inr (by decide)), hmx]; exact h18
                      · rw [zup_no (Or.inr (by decide)), hnf]; exact h15
                    · skip
                      refine z_iconst (pc := 254) (5) dX9_next_254 rfl ?_
                      refine z_goto (pc := 255) (tgt := 262) dX9_next_255 (by decide) ?_
                      refine y_putI (pc := 262) dX9_next_262 flX9_104 ffX9_104 rfl (by first | rfl | assumption) ⟨rfl, rfl⟩ ?_
                      refine z_ret (pc := 265) (r := none) rfl dX9_next_265 trivial rfl rfl ?_
                      have hnf := znf_of hdg hnd
                      have hj3 : ¬ j < 3 := fun q => c251 (nI_le (b := 2) (by omega) (by decide))
                      rw [if_neg hj3] at hnf
                      have et : ztk b a = 5 := by unfold ztk; rw [if_neg h9, if_neg n1, if_pos hd0, if_pos hnf]
                      refine ⟨rfl, _, rfl, zMs_up hs (by decide), fun q hq => ?_, ?_, ?_, fun z => by omega, fun z => by omega, fun z => by omega⟩
                      · rw [zup_no (Or.inl (by decide))]; exact h95 q hq
                      · rw [zup_no (Or.inr (by decide))]; exact h16
                      · rw [zup_on, et]; rfl
                refine mfig_loop hT k232 (L + 1) 0 _ ⟨zMs_up (zMs_up (zMs_up (zMs_up hM.1 (by decide)) (by decide)) (by decide)) (by decide), fun q hq => ?_, ?_, ?_, ?_, ?_, fun i hi => by omega⟩ (by omega) (by omega)
                · rw [zup_no (Or.inl (by decide)), zup_no (Or.inl (by decide)), zup_no (Or.inl (by decide)), zup_no (Or.inl (by decide))]; exact hM.2.1 q hq
                · rw [zup_on]; exact Int32.add_zero _
                · rw [zup_no (Or.inr (by decide)), zup_no (Or.inr (by decide)), zup_no (Or.inr (by decide)), zup_on]
                · rw [zup_no (Or.inr (by decide)), zup_no (Or.inr (by decide)), zup_on]
                · rw [zup_no (Or.inr (by decide)), zup_on]; rfl
              · exact absurd c129 (by decide)
          · exact absurd c101 (by decide)
      · skip
        refine z_iconst (pc := 56) (1) dX9_next_56 rfl ?_
        refine z_goto (pc := 57) (tgt := 92) dX9_next_57 (by decide) ?_
        refine y_putI (pc := 92) dX9_next_92 flX9_104 ffX9_104 rfl (by first | rfl | assumption) ⟨rfl, rfl⟩ ?_
        refine z_aload_0 (pc := 95) dX9_next_95 ?_
        refine z_aload_0 (pc := 96) dX9_next_96 ?_
        refine y_getI (pc := 97) dX9_next_97 flX9_104 rfl (by first | rfl | assumption) ?_
        rw [zup_on]
        refine z_iconst (pc := 100) (1) dX9_next_100 rfl ?_
        refine z_icmp_ne (pc := 101) (tgt := 108) dX9_next_101 (by decide) (fun c101 => ?_) (fun c101 => ?_)
        · exact absurd c101 (by decide)
        · skip
          refine z_iload_1 (pc := 104) dX9_next_104 ?_
          refine z_goto (pc := 105) (tgt := 109) dX9_next_105 (by decide) ?_
          refine y_putI (pc := 109) dX9_next_109 flX9_107 ffX9_107 rfl (by first | rfl | assumption) ⟨rfl, rfl⟩ ?_
          refine z_aload_0 (pc := 112) dX9_next_112 ?_
          refine z_dup (pc := 113) rfl dX9_next_113 ?_
          refine y_getI (pc := 114) dX9_next_114 flX9_88 rfl (by first | rfl | assumption) ?_
          rw [zup_no (Or.inr (by decide)), zup_no (Or.inr (by decide)), zup_no (Or.inr (by decide)), h15]
          refine z_aload_0 (pc := 117) dX9_next_117 ?_
          refine y_getI (pc := 118) dX9_next_118 flX9_104 rfl (by first | rfl | assumption) ?_
          rw [zup_no (Or.inr (by decide)), zup_on]
          refine z_if_le (pc := 121) (tgt := 136) dX9_next_121 (by decide) (fun c121 => ?_) (fun c121 => ?_)
          · exact absurd c121 (by decide)
          · skip
            refine z_aload_0 (pc := 124) dX9_next_124 ?_
            refine y_getI (pc := 125) dX9_next_125 flX9_104 rfl (by first | rfl | assumption) ?_
            rw [zup_no (Or.inr (by decide)), zup_on]
            refine z_iconst (pc := 128) (2) dX9_next_128 rfl ?_
            refine z_icmp_eq (pc := 129) (tgt := 136) dX9_next_129 (by decide) (fun c129 => ?_) (fun c129 => ?_)
            · exact absurd c129 (by decide)
            · skip
              refine z_iconst (pc := 132) (1) dX9_next_132 rfl ?_
              refine z_goto (pc := 133) (tgt := 137) dX9_next_133 (by decide) ?_
              refine z_iadd (pc := 137) dX9_next_137 ?_
              refine y_putI (pc := 138) dX9_next_138 flX9_88 ffX9_88 rfl (by first | rfl | assumption) ⟨rfl, rfl⟩ ?_
              refine z_aload_0 (pc := 141) dX9_next_141 ?_
              refine y_getI (pc := 142) dX9_next_142 flX9_104 rfl (by first | rfl | assumption) ?_
              rw [zup_no (Or.inr (by decide)), zup_no (Or.inr (by decide)), zup_on]
              refine z_iconst (pc := 145) (2) dX9_next_145 rfl ?_
              refine z_icmp_ne (pc := 146) (tgt := 232) dX9_next_146 (by decide) (fun c146 => ?_) (fun c146 => ?_)
              · skip
                refine z_aload_0 (pc := 232) dX9_next_232 ?_
                refine z_aload_0 (pc := 233) dX9_next_233 ?_
                refine y_getI (pc := 234) dX9_next_234 flX9_104 rfl (by first | rfl | assumption) ?_
                rw [zup_no (Or.inr (by decide)), zup_no (Or.inr (by decide)), zup_on]
                refine z_iconst (pc := 237) (2) dX9_next_237 rfl ?_
                refine z_icmp_ne (pc := 238) (tgt := 258) dX9_next_238 (by decide) (fun c238 => ?_) (fun c238 => ?_)
                · skip
                  refine z_aload_0 (pc := 258) dX9_next_258 ?_
                  refine y_getI (pc := 259) dX9_next_259 flX9_104 rfl (by first | rfl | assumption) ?_
                  rw [zup_no (Or.inr (by decide)), zup_no (Or.inr (by decide)), zup_on]
                  refine y_putI (pc := 262) dX9_next_262 flX9_104 ffX9_104 rfl (by first | rfl | assumption) ⟨rfl, rfl⟩ ?_
                  refine z_ret (pc := 265) (r := none) rfl dX9_next_265 trivial rfl rfl ?_
                  have h9 : ¬ b a = 999 := by omega
                  have et : ztk b a = 1 := by unfold ztk; rw [if_neg h9, if_pos (of_decide_eq_true (hL97.symm.trans ((zbb1 _).mp c53)))]
                  refine ⟨rfl, _, rfl, zMn_of hM (by rw [et]; rfl) (fun z => ?_) (by omega) (fun z => ?_)⟩
                  · rfl
                  · exact nI_1 a
                · exact absurd c238 (by decide)
              · exact absurd c146 (by decide)
    · exact absurd (nI_pos' (by omega)) c35
