/-- what comes, in the model's way: -1000 is nothing -/
def zne (o : Option Int32) : Int32 := o.getD (-1000)
def zmT (I : Nat → Nat → Int32) (K n T : Nat) (A B : Nat → Nat) (w : Nat → Bool) (wh : Int32) : zTn := (n, fun d => I K (6 + d), fun d => I K (12 + d), fun d => I K (18 + d), wh, fun d e => if I K (6 + d) = 5 then decide (e < n) && !(e == d) else ztl A B w T d e)
theorem zne_eq {o : Option Int32} (h : ∀ v, o = some v → -1000 < v) : zne o = -1000 ↔ o = none := by
  cases o with
  | none => exact ⟨fun _ => rfl, fun _ => rfl⟩
  | some v =>
    refine ⟨fun q => ?_, fun q => by cases q⟩
    have := h v rfl
    rw [show v = -1000 from q] at this
    exact absurd this (by decide)
theorem znx_ne {t : zTn} {cm : Nat → Option Int32} {fs : Nat → Int32} {i : Nat} (h : 0 < zon t cm fs i) (e : Nat) : zne (znx t cm fs (i + 1) e) = if t.2.2.2.2.2 i e = true then zm2 (zne (znx t cm fs i e)) (zon t cm fs i) else zne (znx t cm fs i e) := by
  rw [znx]
  by_cases hq : t.2.2.2.2.2 i e = true
  · rw [if_pos ⟨h, hq⟩, if_pos hq]
    unfold zmx
    cases hz : znx t cm fs i e with
    | none =>
      have : (-1000 : Int32) < zon t cm fs i := Int32.lt_trans (by decide) h
      show zon t cm fs i = zm2 (-1000) (zon t cm fs i)
      unfold zm2
      rw [if_pos this]
    | some u => rfl
  · rw [if_neg (fun q => hq q.2), if_neg hq]
theorem zfi_none {cm : Nat → Option Int32} {fs : Nat → Int32} {i j : Nat} (h : cm i = none) (d : Nat) : zfi cm fs j (i + 1) d = zfi cm fs j i d := by
  unfold zfi
  by_cases hd : d = i
  · subst hd; simp [h]
  · have : d < i + 1 ↔ d < i := by omega
    simp only [this]
theorem zfi_some {cm : Nat → Option Int32} {fs : Nat → Int32} {i j : Nat} {s : Int32} (h : cm i = some s) (d : Nat) : zfi cm fs j (i + 1) d = if d = i then (if fs i < 0 then nI j else fs i) else zfi cm fs j i d := by
  unfold zfi
  by_cases hd : d = i
  · subst hd; simp [h]
  · have : d < i + 1 ↔ d < i := by omega
    rw [if_neg hd]
    simp only [this]
theorem zfi_at {cm : Nat → Option Int32} {fs : Nat → Int32} {i j : Nat} : zfi cm fs j i i = fs i := by
  unfold zfi; rw [if_neg (by omega)]
theorem zup_no {I : Nat → Nat → Int32} {k j a b : Nat} {v : Int32} (h : a ≠ k ∨ b ≠ j) : zup I k j v a b = I a b := by
  unfold zup; rw [if_neg (fun q => h.elim (fun z => z q.1) (fun z => z q.2))]
theorem zup_on {I : Nat → Nat → Int32} {k j : Nat} {v : Int32} : zup I k j v k j = v := if_pos ⟨rfl, rfl⟩
/-- behind the drinkers below i of one of the model's steps -/
def zTM (I I1 : Nat → Nat → Int32) (t : zTn) (cm : Nat → Option Int32) (fs : Nat → Int32) (bl : Nat → Bool) (j i : Nat) : Prop :=
  (∀ a, a ≠ 85 → a ≠ 97 → a ≠ 98 → I1 a = I a) ∧ (∀ b, b ≠ 24 → I1 85 b = I 85 b) ∧ I1 85 24 = nI (bs (zbl t cm bl i)) ∧ (∀ e, e < 6 → I1 97 e = zne (znx t cm fs i e)) ∧ ∀ e, e < 6 → I1 98 e = zfi cm fs j i e
set_option maxRecDepth 100000 in
set_option maxHeartbeats 4000000 in
theorem mstep_loop {l : zL} {I : Nat → Nat → Int32} {J : Nat → Nat → Int64} {nw : Bool} (K : Nat) (hK : SH[K]? = some (10, 66)) (hK2 : K ≠ 85 ∧ K ≠ 96 ∧ K ≠ 97 ∧ K ≠ 98) (n T : Nat) (A B : Nat → Nat) (ht : zRT I K n T A B) {wh s m c6 : Int32} {x : Int32} (w : Nat → Bool) (hw : ∀ k, k < 10 → ((x >>> (nI k &&& 31)) &&& 1 = 1 ↔ w k = true)) (cm : Nat → Option Int32) (fs : Nat → Int32) (bl : Nat → Bool) (j : Nat) (hcm : ∀ d, d < 6 → I 96 d = zne (cm d)) (hps : ∀ d v, cm d = some v → -1000 < v) {Q : Option Value → zH → Prop} (hQ : ∀ (I2 : Nat → Nat → Int32) (v8 v9 v10 : Value), v8.category = 1 → v9.category = 1 → v10.category = 1 → zTM I I2 (zmT I K n T A B w wh) cm fs bl j n → zW l mX9_tells SH.length (zsl SH) 238 [.ref 85, .ref K, .int wh, .int s, .int m, .int x, .int c6, .int (nI j), v8, v9, v10] [] (I2, J, RF nw, SH) Q) : ∀ (f i : Nat) (v9 v10 : Value) (I1 : Nat → Nat → Int32), i ≤ n → n - i < f → v9.category = 1 → v10.category = 1 → zTM I I1 (zmT I K n T A B w wh) cm fs bl j i →
    zW l mX9_tells SH.length (zsl SH) 93 [.ref 85, .ref K, .int wh, .int s, .int m, .int x, .int c6, .int (nI j), .int (nI i), v9, v10] [] (I1, J, RF nw, SH) Q
  | 0, i, v9, v10, I1, _, hf, _, _, _ => by omega
  | f + 1, i, v9, v10, I1, hi, hf, h9, h10, hM => by
    have hn6 := ht.1
    obtain ⟨m1, m2, m3, m4, m5⟩ := hM
    have eK : I1 K = I K := m1 K hK2.1 hK2.2.2.1 hK2.2.2.2
    have e96 : I1 96 = I 96 := m1 96 (by decide) (by decide) (by decide)
    have ht1 : zRT I1 K n T A B := ht.keep eK
    have k232 : i < n → ∀ (I2 : Nat → Nat → Int32) (w9 w10 : Value), w9.category = 1 → w10.category = 1 → zTM I I2 (zmT I K n T A B w wh) cm fs bl j (i + 1) → zW l mX9_tells SH.length (zsl SH) 232 [.ref 85, .ref K, .int wh, .int s, .int m, .int x, .int c6, .int (nI j), .int (nI i), w9, w10] [] (I2, J, RF nw, SH) Q := by
      intro hlt I2 w9 w10 hw9 hw10 hM2
      refine z_iinc_8 (pc := 232) (1) dX9_tells_232 rfl (by decide) rfl ?_
      refine z_goto (pc := 235) (tgt := 93) dX9_tells_235 (by decide) ?_
      rw [← nI_succ]
      exact mstep_loop K hK hK2 n T A B ht w hw cm fs bl j hcm hps hQ f (i + 1) w9 w10 I2 (by omega) (by omega) hw9 hw10 hM2
    have k216 : i < n → ∀ (I3 : Nat → Nat → Int32) (v : Int32) (w9 : Value), w9.category = 1 → cm i = some v → (∀ a, a ≠ 85 → a ≠ 98 → I3 a = I1 a) → (∀ b, b ≠ 24 → I3 85 b = I 85 b) → I3 85 24 = nI (bs (zbl (zmT I K n T A B w wh) cm bl (i + 1))) → (∀ e, e < 6 → I3 98 e = zfi cm fs j (i + 1) e) → zW l mX9_tells SH.length (zsl SH) 216 [.ref 85, .ref K, .int wh, .int s, .int m, .int x, .int c6, .int (nI j), .int (nI i), w9, .int (zon (zmT I K n T A B w wh) cm fs i)] [] (I3, J, RF nw, SH) Q := by
      intro hlt I3 v w9 hw9 hv n1 n2 n3 n4
      have eK3 : I3 K = I K := by rw [n1 K hK2.1 hK2.2.2.2, eK]
      have ht3 : zRT I3 K n T A B := ht.keep eK3
      refine z_iload_10 (pc := 216) dX9_tells_216 ?_
      refine z_if_le (pc := 218) (tgt := 232) dX9_tells_218 (by decide) (fun c218 => ?_) (fun c218 => ?_)
      · skip
        have hon : ¬ 0 < zon (zmT I K n T A B w wh) cm fs i := Int32.not_lt.mpr c218
        refine k232 hlt I3 _ _ hw9 rfl ⟨fun a h1 h2 h3 => ?_, n2, n3, fun e he => ?_, n4⟩
        · rw [n1 a h1 h3, m1 a h1 h2 h3]
        · rw [znx_no hon, n1 97 (by decide) (by decide)]; exact m4 e he
      · skip
        refine z_aload_0 (pc := 221) dX9_tells_221 ?_
        refine z_aload_1 (pc := 222) dX9_tells_222 ?_
        refine z_iload_8 (pc := 223) dX9_tells_223 ?_
        refine z_iload_10 (pc := 225) dX9_tells_225 ?_
        refine z_iload_5 (pc := 227) dX9_tells_227 ?_
        refine z_V4 (pc := 229) dX9_tells_229 mlX9_179 kX9_passesOn vX9_passesOn (by decide) (by decide) (by first | rfl | assumption) (Nat.le_of_ble_eq_true rfl) (qX9_passesOn K hK hK2.2.2.1 n T A B ht3 i hlt w hw rfl) ⟨Nat.le_refl _, Nat.le_refl _⟩ (fun r h1 hq => ?_)
        obtain ⟨rfl, g2, rfl, hg2⟩ := hq
        have hon : 0 < zon (zmT I K n T A B w wh) cm fs i := Int32.not_le.mp c218
        refine k232 hlt _ _ _ hw9 rfl ⟨fun a h1 h2 h3 => ?_, fun b hb => ?_, ?_, fun e he => ?_, fun e he => ?_⟩
        · funext b; rw [zrow_ne _ _ _ h2, n1 a h1 h3, m1 a h1 h2 h3]
        · rw [zrow_ne _ _ _ (by decide)]; exact n2 b hb
        · rw [zrow_ne _ _ _ (by decide)]; exact n3
        · rw [zrow_at, hg2 e he, znx_ne hon, n1 97 (by decide) (by decide), m4 e he, eK3]; rfl
        · rw [zrow_ne _ _ _ (by decide)]; exact n4 e he
    have k152 : i < n → ∀ (I2 : Nat → Nat → Int32) (v : Int32), cm i = some v → (∀ a, a ≠ 85 → I2 a = I1 a) → (∀ b, b ≠ 24 → I2 85 b = I 85 b) → I2 85 24 = nI (bs (zbl (zmT I K n T A B w wh) cm bl (i + 1))) → zW l mX9_tells SH.length (zsl SH) 152 [.ref 85, .ref K, .int wh, .int s, .int m, .int x, .int c6, .int (nI j), .int (nI i), .int (zbb (zB (zmT I K n T A B w wh) i v)), v10] [] (I2, J, RF nw, SH) Q := by
      intro hlt I2 v hv n1 n2 n3
      have eK2 : I2 K = I K := by rw [n1 K hK2.1, eK]
      have e962 : I2 96 = I 96 := by rw [n1 96 (by decide), e96]
      have ev : I2 96 i = v := by rw [e962, hcm i (by omega), hv]; rfl
      have e98 : I2 98 i = fs i := by rw [n1 98 (by decide), m5 i (by omega), zfi_at]
      have ht2 : zRT I2 K n T A B := ht.keep eK2
      obtain ⟨kk, hk1, hk2, hkk⟩ := ht2.2.2.2.2.2.2 i hlt
      refine z_aload_0 (pc := 152) dX9_tells_152 ?_
      refine y_getR (pc := 153) dX9_tells_153 flX9_47 rfl (by first | rfl | assumption) (by first | rfl | assumption) ?_
      refine z_iload_8 (pc := 156) dX9_tells_156 ?_
      refine y_ialdN (pc := 158) (i) dX9_tells_158 (by first | rfl | assumption) (rfl) (by omega) (by first | decide | omega) ?_
      refine z_if_ge (pc := 159) (tgt := 184) dX9_tells_159 (by decide) (fun c159 => ?_) (fun c159 => ?_)
      · skip
        refine z_iconst (pc := 184) (0) dX9_tells_184 rfl ?_
        refine z_istore_10 (pc := 185) dX9_tells_185 (by decide) rfl ?_
        refine z_aload_0 (pc := 187) dX9_tells_187 ?_
        refine y_getR (pc := 188) dX9_tells_188 flX9_47 rfl (by first | rfl | assumption) (by first | rfl | assumption) ?_
        refine z_iload_8 (pc := 191) dX9_tells_191 ?_
        refine z_aload_0 (pc := 193) dX9_tells_193 ?_
        refine y_getR (pc := 194) dX9_tells_194 flX9_47 rfl (by first | rfl | assumption) (by first | rfl | assumption) ?_
        refine z_iload_8 (pc := 197) dX9_tells_197 ?_
        refine y_ialdN (pc := 199) (i) dX9_tells_199 (by first | rfl | assumption) (rfl) (by omega) (by first | decide | omega) ?_
        refine z_if_ge (pc := 200) (tgt := 208) dX9_tells_200 (by decide) (fun c200 => ?_) (fun c200 => ?_)
        · skip
          refine z_aload_0 (pc := 208) dX9_tells_208 ?_
          refine y_getR (pc := 209) dX9_tells_209 flX9_47 rfl (by first | rfl | assumption) (by first | rfl | assumption) ?_
          refine z_iload_8 (pc := 212) dX9_tells_212 ?_
          refine y_ialdN (pc := 214) (i) dX9_tells_214 (by first | rfl | assumption) (rfl) (by omega) (by first | decide | omega) ?_
          refine y_iastN (pc := 215) (i) dX9_tells_215 (by first | rfl | assumption) (rfl) (by omega) (by first | decide | omega) ?_
          have hf0 : ¬ fs i < 0 := by rw [← e98]; exact Int32.not_lt.mpr c159
          rw [show (0 : Int32) = zon (zmT I K n T A B w wh) cm fs i from (zon_old (t := (zmT I K n T A B w wh)) hf0).symm]
          refine k216 hlt _ v _ rfl hv (fun a h1 h2 => ?_) (fun b hb => ?_) ?_ (fun e he => ?_)
          · funext b; rw [zup_no (Or.inl h2), n1 a h1]
          · rw [zup_no (Or.inl (by decide))]; exact n2 b hb
          · rw [zup_no (Or.inl (by decide))]; exact n3
          · rw [zfi_some hv]
            by_cases hei : e = i
            · subst hei; rw [if_pos rfl, if_neg hf0]; unfold zup; rw [if_pos ⟨rfl, rfl⟩]; exact e98
            · rw [if_neg hei, zup_no (Or.inr hei), n1 98 (by decide)]; exact m5 e he
        · exact absurd c159 c200
      · skip
        refine z_aload_1 (pc := 162) dX9_tells_162 ?_
        refine z_bipush (pc := 163) (6) dX9_tells_163 rfl ?_
        refine z_iload_8 (pc := 165) dX9_tells_165 ?_
        refine z_iadd (pc := 167) dX9_tells_167 ?_
        refine y_ialdN (pc := 168) (6 + i) dX9_tells_168 (by first | rfl | assumption) (nI_add 6 i) (by omega) (by first | decide | omega) ?_
        refine z_iload_9 (pc := 169) dX9_tells_169 ?_
        refine z_aload_0 (pc := 171) dX9_tells_171 ?_
        refine y_getR (pc := 172) dX9_tells_172 flX9_41 rfl (by first | rfl | assumption) (by first | rfl | assumption) ?_
        refine z_iload_8 (pc := 175) dX9_tells_175 ?_
        refine y_ialdN (pc := 177) (i) dX9_tells_177 (by first | rfl | assumption) (rfl) (by omega) (by first | decide | omega) ?_
        refine z_S3 (pc := 178) dX9_tells_178 mlX9_175 kX9_passes vX9_passes (by decide) (by decide) (Nat.le_of_ble_eq_true rfl) (qX9_passes kk ⟨hk1, hk2⟩ hkk (zB (zmT I K n T A B w wh) i v) rfl) ⟨Nat.le_refl _, Nat.le_refl _⟩ (fun r h1 hq => ?_)
        obtain ⟨rfl, rfl⟩ := hq
        refine z_goto (pc := 181) (tgt := 185) dX9_tells_181 (by decide) ?_
        refine z_istore_10 (pc := 185) dX9_tells_185 (by decide) rfl ?_
        refine z_aload_0 (pc := 187) dX9_tells_187 ?_
        refine y_getR (pc := 188) dX9_tells_188 flX9_47 rfl (by first | rfl | assumption) (by first | rfl | assumption) ?_
        refine z_iload_8 (pc := 191) dX9_tells_191 ?_
        refine z_aload_0 (pc := 193) dX9_tells_193 ?_
        refine y_getR (pc := 194) dX9_tells_194 flX9_47 rfl (by first | rfl | assumption) (by first | rfl | assumption) ?_
        refine z_iload_8 (pc := 197) dX9_tells_197 ?_
        refine y_ialdN (pc := 199) (i) dX9_tells_199 (by first | rfl | assumption) (rfl) (by omega) (by first | decide | omega) ?_
        refine z_if_ge (pc := 200) (tgt := 208) dX9_tells_200 (by decide) (fun c200 => ?_) (fun c200 => ?_)
        · exact absurd c200 c159
        · skip
          refine z_iload_7 (pc := 203) dX9_tells_203 ?_
          refine z_goto (pc := 205) (tgt := 215) dX9_tells_205 (by decide) ?_
          refine y_iastN (pc := 215) (i) dX9_tells_215 (by first | rfl | assumption) (rfl) (by omega) (by first | decide | omega) ?_
          have hf0 : fs i < 0 := by rw [← e98]; exact Int32.not_le.mp c159
          rw [eK2, ev, show zpas (I K (6 + i)) v (zB (zmT I K n T A B w wh) i v) = zon (zmT I K n T A B w wh) cm fs i from (zon_new (t := (zmT I K n T A B w wh)) hv hf0).symm]
          refine k216 hlt _ v _ rfl hv (fun a h1 h2 => ?_) (fun b hb => ?_) ?_ (fun e he => ?_)
          · funext b; rw [zup_no (Or.inl h2), n1 a h1]
          · rw [zup_no (Or.inl (by decide))]; exact n2 b hb
          · rw [zup_no (Or.inl (by decide))]; exact n3
          · rw [zfi_some hv]
            by_cases hei : e = i
            · subst hei; rw [if_pos rfl, if_pos hf0]; unfold zup; rw [if_pos ⟨rfl, rfl⟩]
            · rw [if_neg hei, zup_no (Or.inr hei), n1 98 (by decide)]; exact m5 e he
    refine z_iload_8 (pc := 93) dX9_tells_93 ?_
    refine z_aload_1 (pc := 95) dX9_tells_95 ?_
    refine z_iconst (pc := 96) (3) dX9_tells_96 rfl ?_
    refine y_ialdN (pc := 97) (3) dX9_tells_97 (by first | rfl | assumption) (rfl) (by decide) (by first | decide | omega) ?_
    refine z_icmp_ge (pc := 98) (tgt := 238) dX9_tells_98 (by decide) (fun c98 => ?_) (fun c98 => ?_)
    · skip
      have hin : i = n := by
        rcases Nat.lt_or_ge i n with q | q
        · rw [eK, ht.2.1] at c98
          exact absurd c98 (nI_ge q (by omega))
        · omega
      subst hin
      exact hQ I1 _ v9 v10 rfl h9 h10 ⟨m1, m2, m3, m4, m5⟩
    · skip
      have hlt : i < n := by
        rcases Nat.lt_or_ge i n with q | q
        · exact q
        · exact absurd (by rw [eK, ht.2.1]; exact nI_le q (by omega)) c98
      refine z_aload_0 (pc := 101) dX9_tells_101 ?_
      refine y_getR (pc := 102) dX9_tells_102 flX9_41 rfl (by first | rfl | assumption) (by first | rfl | assumption) ?_
      refine z_iload_8 (pc := 105) dX9_tells_105 ?_
      refine y_ialdN (pc := 107) (i) dX9_tells_107 (by first | rfl | assumption) (rfl) (by omega) (by first | decide | omega) ?_
      refine z_sipush (pc := 108) (-1000) dX9_tells_108 rfl ?_
      refine z_icmp_eq (pc := 111) (tgt := 232) dX9_tells_111 (by decide) (fun c111 => ?_) (fun c111 => ?_)
      · skip
        have hz : cm i = none := (zne_eq (hps i)).mp (by rw [← hcm i (by omega), ← e96]; exact c111)
        refine k232 hlt I1 v9 v10 h9 h10 ⟨m1, m2, ?_, fun e he => ?_, fun e he => ?_⟩
        · rw [m3]; exact congrArg nI (bs_congr (fun d _ => (zbl_none hz d).symm))
        · rw [znx_no (by rw [zon_none hz]; decide)]; exact m4 e he
        · rw [zfi_none hz]; exact m5 e he
      · skip
        obtain ⟨kk, hk1, hk2, hkk⟩ := ht1.2.2.2.2.2.2 i hlt
        obtain ⟨v, hv⟩ : ∃ v, cm i = some v := by
          cases hq : cm i with
          | none => exact absurd (by rw [e96, hcm i (by omega), hq]; rfl) c111
          | some v => exact ⟨v, rfl⟩
        have ev : I1 96 i = v := by rw [e96, hcm i (by omega), hv]; rfl
        refine z_aload_1 (pc := 114) dX9_tells_114 ?_
        refine z_iload_8 (pc := 115) dX9_tells_115 ?_
        refine z_iload_2 (pc := 117) dX9_tells_117 ?_
        refine z_aload_0 (pc := 118) dX9_tells_118 ?_
        refine y_getR (pc := 119) dX9_tells_119 flX9_41 rfl (by first | rfl | assumption) (by first | rfl | assumption) ?_
        refine z_iload_8 (pc := 122) dX9_tells_122 ?_
        refine y_ialdN (pc := 124) (i) dX9_tells_124 (by first | rfl | assumption) (rfl) (by omega) (by first | decide | omega) ?_
        refine z_S4 (pc := 125) dX9_tells_125 mlX9_171 kX9_believes vX9_believes (by decide) (by decide) (Nat.le_of_ble_eq_true rfl) (qX9_believes K hK i rfl (by omega) kk ⟨hk1, hk2⟩ hkk) ⟨Nat.le_refl _, Nat.le_refl _⟩ (fun r h1 hq => ?_)
        obtain ⟨rfl, rfl⟩ := hq
        refine z_istore_9 (pc := 128) dX9_tells_128 (by decide) rfl ?_
        refine z_aload_0 (pc := 130) dX9_tells_130 ?_
        refine z_dup (pc := 131) rfl dX9_tells_131 ?_
        refine y_getI (pc := 132) dX9_tells_132 flX9_168 rfl (by first | rfl | assumption) ?_
        refine z_iload_9 (pc := 135) dX9_tells_135 ?_
        refine z_if_eq (pc := 137) (tgt := 147) dX9_tells_137 (by decide) (fun c137 => ?_) (fun c137 => ?_)
        · skip
          refine z_iconst (pc := 147) (0) dX9_tells_147 rfl ?_
          refine z_ior (pc := 148) dX9_tells_148 ?_
          refine y_putI (pc := 149) dX9_tells_149 flX9_168 ffX9_168 rfl (by first | rfl | assumption) ⟨rfl, rfl⟩ ?_
          have eB : zbel (I1 K (6 + i)) (I1 K (12 + i)) (I1 K (18 + i)) wh (nI i) (I1 96 i) = zB (zmT I K n T A B w wh) i v := by rw [eK, ev]; rfl
          rw [eB] at c137 ⊢
          have hb : zB (zmT I K n T A B w wh) i v = false := by
            cases hq : zB (zmT I K n T A B w wh) i v
            · rfl
            · rw [hq] at c137; exact absurd c137 (by decide)
          refine k152 hlt _ v hv (fun a h1 => ?_) (fun b hb => ?_) ?_
          · funext b; rw [zup_no (Or.inl h1)]
          · rw [zup_no (Or.inr hb)]; exact m2 b hb
          · rw [zup_on, m3, Int32.or_zero]
            exact congrArg nI (bs_congr (fun d _ => by rw [zbl_some hv, hb, Bool.and_false, Bool.or_false]))
        · skip
          refine z_iconst (pc := 140) (1) dX9_tells_140 rfl ?_
          refine z_iload_8 (pc := 141) dX9_tells_141 ?_
          refine z_ishl (pc := 143) dX9_tells_143 ?_
          refine z_goto (pc := 144) (tgt := 148) dX9_tells_144 (by decide) ?_
          refine z_ior (pc := 148) dX9_tells_148 ?_
          refine y_putI (pc := 149) dX9_tells_149 flX9_168 ffX9_168 rfl (by first | rfl | assumption) ⟨rfl, rfl⟩ ?_
          have eB : zbel (I1 K (6 + i)) (I1 K (12 + i)) (I1 K (18 + i)) wh (nI i) (I1 96 i) = zB (zmT I K n T A B w wh) i v := by rw [eK, ev]; rfl
          rw [eB] at c137 ⊢
          have hb : zB (zmT I K n T A B w wh) i v = true := by
            cases hq : zB (zmT I K n T A B w wh) i v
            · rw [hq] at c137; exact absurd rfl c137
            · rfl
          refine k152 hlt _ v hv (fun a h1 => ?_) (fun b hb => ?_) ?_
          · funext b; rw [zup_no (Or.inl h1)]
          · rw [zup_no (Or.inr hb)]; exact m2 b hb
          · rw [zup_on, m3, bs_set _ i (by omega)]
            exact congrArg nI (bs_congr (fun d _ => by rw [zbl_some hv, hb, Bool.and_true]))
