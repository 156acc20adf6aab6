/-- a fault (0: none), its place (none: where it goes on), the town as read so far (as the model keeps it) -/
abbrev zR3 : Type := Nat × Nat × (Nat → Int32)
def zPn (b : Nat → Nat) (a lo hi : Nat) : Nat × Nat × Nat := if znf b a = 1 ∨ znf b a = 2 then (if lo ≤ zvl b a (znf b a) ∧ zvl b a (znf b a) ≤ hi then (0, zvl b a (znf b a), a + znf b a) else (2, 0, a)) else (1, 0, a)
def zsg (b : Nat → Nat) (c a : Nat) (v : Nat → Int32) : zR3 := if b a = c then (0, a + 1, v) else (1, a, v)
def znm (b : Nat → Nat) (pl lo hi a : Nat) (v : Nat → Int32) : zR3 := if (zPn b a lo hi).1 = 0 then (0, (zPn b a lo hi).2.2, upd v pl (nI (zPn b a lo hi).2.1)) else ((zPn b a lo hi).1, a, v)
def zbd (r : zR3) (k : Nat → (Nat → Int32) → zR3) : zR3 := if r.1 = 0 then k r.2.1 r.2.2 else r
theorem zbd_ok {r : zR3} {a : Nat} {v : Nat → Int32} {k : Nat → (Nat → Int32) → zR3} (h : r = (0, a, v)) : zbd r k = k a v := by rw [h]; rfl
theorem zbd_no {r : zR3} {k : Nat → (Nat → Int32) → zR3} (h : ¬ r.1 = 0) : zbd r k = r := if_neg h
theorem zok {r : zR3} (h : r.1 = 0) : r = (0, r.2.1, r.2.2) := Prod.ext h rfl
def zMf (I I1 : Nat → Nat → Int32) (f p : Nat) : Prop := (∀ x y, x ≠ 95 → ¬ (x = 85 ∧ (y = 6 ∨ (15 ≤ y ∧ y ≤ 18))) → I1 x y = I x y) ∧ I1 85 6 = nI f ∧ I1 85 16 = nI p
def zMq (I : Nat → Nat → Int32) (J : Nat → Nat → Int64) (nw : Bool) (R : zR3) : Option Value → zH → Prop := fun r h1 => r = some (.int (zbb (decide (R.1 = 0)))) ∧ ∃ I2, h1 = (I2, J, RF nw, SH) ∧ (R.1 = 0 → zMr I I2 R.2.2 R.2.1) ∧ (¬ R.1 = 0 → zMf I I2 R.1 R.2.1)
def zMb (I : Nat → Nat → Int32) (J : Nat → Nat → Int64) (nw : Bool) (a : Nat) (R : zR3) : Option Value → zH → Prop := fun r h1 => r = some (.int (zbb (decide (R.1 = 0)))) ∧ ∃ I2, h1 = (I2, J, RF nw, SH) ∧ (R.1 = 0 → zMr I I2 R.2.2 R.2.1 ∧ I2 85 16 = nI a) ∧ (¬ R.1 = 0 → zMf I I2 R.1 R.2.1)
theorem zMf_of {I I1 : Nat → Nat → Int32} {f p : Nat} {w : Int32} (h : zMs I I1) (h16 : I1 85 16 = nI p) (hw : w = nI f) : zMf I (zup I1 85 6 w) f p := by
  refine ⟨fun x y h1 h2 => ?_, by rw [zup_on, hw], by rw [zup_no (Or.inr (by decide))]; exact h16⟩
  rw [zup_no (by
    by_cases q : x = 85
    · exact Or.inr (fun z => h2 ⟨q, Or.inl z⟩)
    · exact Or.inl q)]
  exact h x y h1 (fun z => h2 ⟨z.1, Or.inr z.2⟩)
theorem zTp_b {I : Nat → Nat → Int32} {b : Nat → Nat} {L : Nat} (h : zTp I b L) (i : Nat) : (i < L ∧ b i < 256) ∨ (L ≤ i ∧ b i = 999) := by
  rcases Nat.lt_or_ge i L with q | q
  · exact Or.inl ⟨q, (h.2.2.1 i q).2⟩
  · exact Or.inr ⟨q, h.2.2.2 i q⟩
theorem zdg_lt {I : Nat → Nat → Int32} {b : Nat → Nat} {L i : Nat} (h : zTp I b L) (hd : zdg b i = true) : i < L := by
  have hd := of_decide_eq_true hd
  rcases zTp_b h i with q | q <;> omega
theorem znf_le {I : Nat → Nat → Int32} {b : Nat → Nat} {L a : Nat} (h : zTp I b L) (hn : znf b a = 1 ∨ znf b a = 2) : a + znf b a ≤ 120 := by
  have hL := h.1
  by_cases h1 : zdg b a = true
  · have q1 := zdg_lt h h1
    by_cases h2 : zdg b (a + 1) = true
    · have q2 := zdg_lt h h2
      omega
    · have e : znf b a = 1 := by unfold znf; rw [if_pos h1, if_neg h2]
      omega
  · have e : znf b a = 0 := by unfold znf; rw [if_neg h1]
    omega
theorem ztk_2 {b : Nat → Nat} {a : Nat} : ztk b a = 2 ↔ znf b a = 1 ∨ znf b a = 2 := by
  by_cases h1 : zdg b a = true
  · have hd := of_decide_eq_true h1
    unfold ztk
    rw [if_neg (by omega), if_neg (by omega), if_pos h1]
    have hz : znf b a = 1 ∨ znf b a = 2 ∨ znf b a = 3 := by
      unfold znf
      rw [if_pos h1]
      by_cases h2 : zdg b (a + 1) = true
      · rw [if_pos h2]
        by_cases h3 : zdg b (a + 2) = true
        · rw [if_pos h3]; omega
        · rw [if_neg h3]; omega
      · rw [if_neg h2]; omega
    rcases hz with z | z | z <;> rw [z] <;> decide
  · have e : znf b a = 0 := by unfold znf; rw [if_neg h1]
    rw [e]
    unfold ztk
    rw [if_neg h1]
    constructor
    · intro z
      by_cases q1 : b a = 999
      · rw [if_pos q1] at z; omega
      · rw [if_neg q1] at z
        by_cases q2 : 97 ≤ b a ∧ b a ≤ 122
        · rw [if_pos q2] at z; omega
        · rw [if_neg q2] at z
          by_cases q3 : b a = 44
          · rw [if_pos q3] at z; omega
          · rw [if_neg q3] at z
            by_cases q4 : b a = 59
            · rw [if_pos q4] at z; omega
            · rw [if_neg q4] at z; omega
    · omega
theorem ztk_at {b : Nat → Nat} {a t c : Nat} (h : (t = 3 ∧ c = 44) ∨ (t = 4 ∧ c = 59)) : ztk b a = t ↔ b a = c := by
  have hd : zdg b a = true ↔ 48 ≤ b a ∧ b a ≤ 57 := by unfold zdg; exact decide_eq_true_iff
  unfold ztk
  by_cases q1 : b a = 999
  · rw [if_pos q1]; omega
  · rw [if_neg q1]
    by_cases q2 : 97 ≤ b a ∧ b a ≤ 122
    · rw [if_pos q2]; omega
    · rw [if_neg q2]
      by_cases q0 : zdg b a = true
      · have hd := hd.mp q0
        rw [if_pos q0]
        by_cases q5 : znf b a = 3
        · rw [if_pos q5]; omega
        · rw [if_neg q5]; omega
      · rw [if_neg q0]
        by_cases q3 : b a = 44
        · rw [if_pos q3]; omega
        · rw [if_neg q3]
          by_cases q4 : b a = 59
          · rw [if_pos q4]; omega
          · rw [if_neg q4]; omega
theorem ztk_1 {b : Nat → Nat} {a : Nat} : ztk b a = 1 ↔ 97 ≤ b a ∧ b a ≤ 122 := by
  have hd : zdg b a = true ↔ 48 ≤ b a ∧ b a ≤ 57 := by unfold zdg; exact decide_eq_true_iff
  unfold ztk
  by_cases q1 : b a = 999
  · rw [if_pos q1]; omega
  · rw [if_neg q1]
    by_cases q2 : 97 ≤ b a ∧ b a ≤ 122
    · rw [if_pos q2]; omega
    · rw [if_neg q2]
      by_cases q0 : zdg b a = true
      · rw [if_pos q0]
        by_cases q5 : znf b a = 3
        · rw [if_pos q5]; omega
        · rw [if_neg q5]; omega
      · rw [if_neg q0]
        by_cases q3 : b a = 44
        · rw [if_pos q3]; omega
        · rw [if_neg q3]
          by_cases q4 : b a = 59
          · rw [if_pos q4]; omega
          · rw [if_neg q4]; omega
theorem ztk_0 {b : Nat → Nat} {a : Nat} : ztk b a = 0 ↔ b a = 999 := by
  unfold ztk
  by_cases q1 : b a = 999
  · rw [if_pos q1]; omega
  · rw [if_neg q1]
    by_cases q2 : 97 ≤ b a ∧ b a ≤ 122
    · rw [if_pos q2]; omega
    · rw [if_neg q2]
      by_cases q0 : zdg b a = true
      · rw [if_pos q0]
        by_cases q5 : znf b a = 3
        · rw [if_pos q5]; omega
        · rw [if_neg q5]; omega
      · rw [if_neg q0]
        by_cases q3 : b a = 44
        · rw [if_pos q3]; omega
        · rw [if_neg q3]
          by_cases q4 : b a = 59
          · rw [if_pos q4]; omega
          · rw [if_neg q4]; omega
theorem ztk_lt (b : Nat → Nat) (a : Nat) : ztk b a < 6 := by
  unfold ztk
  by_cases q1 : b a = 999
  · rw [if_pos q1]; omega
  · rw [if_neg q1]
    by_cases q2 : 97 ≤ b a ∧ b a ≤ 122
    · rw [if_pos q2]; omega
    · rw [if_neg q2]
      by_cases q0 : zdg b a = true
      · rw [if_pos q0]
        by_cases q5 : znf b a = 3
        · rw [if_pos q5]; omega
        · rw [if_neg q5]; omega
      · rw [if_neg q0]
        by_cases q3 : b a = 44
        · rw [if_pos q3]; omega
        · rw [if_neg q3]
          by_cases q4 : b a = 59
          · rw [if_pos q4]; omega
          · rw [if_neg q4]; omega
theorem zvl_lt {I : Nat → Nat → Int32} {b : Nat → Nat} {L : Nat} (h : zTp I b L) (a j : Nat) : zvl b a j < 20000 := by
  have h1 := zTp_b h a
  have h2 := zTp_b h (a + 1)
  unfold zvl
  by_cases q : j = 0
  · rw [if_pos q]; omega
  · rw [if_neg q]
    by_cases q2 : j = 1
    · rw [if_pos q2]; omega
    · rw [if_neg q2]; omega
theorem inl {lo v hi : Nat} (h1 : lo < 2 ^ 31) (h2 : v < 2 ^ 31) (h3 : hi < 2 ^ 31) : (decide ((nI lo).toInt64 ≤ (nI v).toInt64) && decide ((nI v).toInt64 ≤ (nI hi).toInt64)) = decide (lo ≤ v ∧ v ≤ hi) := by
  rw [nI_l h1, nI_l h2, nI_l h3, Bool.eq_iff_iff, Bool.and_eq_true, decide_eq_true_eq, decide_eq_true_eq, decide_eq_true_eq, lN_le h1 h2, lN_le h2 h3]
set_option maxRecDepth 100000 in
set_option maxHeartbeats 4000000 in
theorem qX9_fails {l : zL} {I : Nat → Nat → Int32} {J : Nat → Nat → Int64} {nw : Bool} {x : Int32} : zP l mX9_fails [.ref 85, .int x] (hh I J nw) (zR (some (.int 0)) (zup I 85 6 x, J, RF nw, SH)) := by
  refine z_start [.ref 85, .int x] (by decide +kernel) (Nat.le_of_ble_eq_true rfl) rfl ?_
  refine z_aload_0 (pc := 0) dX9_fails_0 ?_
  refine z_iload_1 (pc := 1) dX9_fails_1 ?_
  refine y_putI (pc := 2) dX9_fails_2 flX9_110 ffX9_110 rfl (by first | rfl | assumption) ⟨rfl, rfl⟩ ?_
  refine z_iconst (pc := 5) (0) dX9_fails_5 rfl ?_
  refine z_ret (pc := 6) (r := some (.int _)) rfl dX9_fails_6 (by first | exact Or.inl rfl | exact Or.inr rfl | assumption) rfl rfl ?_
  exact ⟨rfl, rfl⟩
set_option maxRecDepth 100000 in
set_option maxHeartbeats 4000000 in
theorem qX9_number {l : zL} {I : Nat → Nat → Int32} {J : Nat → Nat → Int64} {nw : Bool} {I1 : Nat → Nat → Int32} {v : Nat → Int32} {b : Nat → Nat} {a L : Nat} (hT : zTp I b L) (hM : zMr I I1 v a) (pl lo hi : Nat) (hpl : pl < 66) (hlo : lo < 2 ^ 31) (hhi : hi < 2 ^ 31) : zP l mX9_number [.ref 85, .int (nI pl), .int (nI lo), .int (nI hi)] (hh I1 J nw) (zMb I J nw a (znm b pl lo hi a v)) := by
  refine z_start [.ref 85, .int (nI pl), .int (nI lo), .int (nI hi)] (by decide +kernel) (Nat.le_of_ble_eq_true rfl) rfl ?_
  refine z_aload_0 (pc := 0) dX9_number_0 ?_
  refine z_V0 (pc := 1) dX9_number_1 mlX9_113 kX9_next vX9_next (by decide) (by decide) (by first | rfl | assumption) (Nat.le_of_ble_eq_true rfl) (qX9_next hT hM) ⟨Nat.le_refl _, Nat.le_refl _⟩ (fun r h1 hq => ?_)
  obtain ⟨rfl, I2, rfl, hN⟩ := hq
  obtain ⟨hs, h95, h16, h17, h18, h215, h115⟩ := hN
  have htl := ztk_lt b a
  refine z_aload_0 (pc := 4) dX9_number_4 ?_
  refine y_getI (pc := 5) dX9_number_5 flX9_104 rfl (by first | rfl | assumption) ?_
  rw [h17]
  refine z_iconst (pc := 8) (2) dX9_number_8 rfl ?_
  refine z_icmp_eq (pc := 9) (tgt := 18) dX9_number_9 (by decide) (fun c9 => ?_) (fun c9 => ?_)
  · skip
    have et : ztk b a = 2 := (nI_eq (by omega) (by decide)).mp (show nI (ztk b a) = nI 2 from c9)
    have hz := ztk_2.mp et
    obtain ⟨e18, e15⟩ := h215 et
    have hvl := zvl_lt hT a (znf b a)
    refine z_aload_0 (pc := 18) dX9_number_18 ?_
    refine y_getI (pc := 19) dX9_number_19 flX9_107 rfl (by first | rfl | assumption) ?_
    rw [e18]
    refine z_i2l (pc := 22) dX9_number_22 ?_
    refine z_iload_2 (pc := 23) dX9_number_23 ?_
    refine z_i2l (pc := 24) dX9_number_24 ?_
    refine z_iload_3 (pc := 25) dX9_number_25 ?_
    refine z_i2l (pc := 26) dX9_number_26 ?_
    refine z_S3 (pc := 27) dX9_number_27 mlX9_60 kX9_in vX9_in (by decide) (by decide) (Nat.le_of_ble_eq_true rfl) (qX9_in) ⟨Nat.le_refl _, Nat.le_refl _⟩ (fun r h1 hq => ?_)
    obtain ⟨rfl, rfl⟩ := hq
    refine z_if_ne (pc := 30) (tgt := 39) dX9_number_30 (by decide) (fun c30 => ?_) (fun c30 => ?_)
    · skip
      rw [inl hlo (by omega) hhi] at c30
      refine z_aload_0 (pc := 39) dX9_number_39 ?_
      refine y_getR (pc := 40) dX9_number_40 flX9_38 rfl (by first | rfl | assumption) (by first | rfl | assumption) ?_
      refine z_iload_1 (pc := 43) dX9_number_43 ?_
      refine z_aload_0 (pc := 44) dX9_number_44 ?_
      refine y_getI (pc := 45) dX9_number_45 flX9_107 rfl (by first | rfl | assumption) ?_
      rw [e18]
      refine y_iastN (pc := 48) (pl) dX9_number_48 (by first | rfl | assumption) (rfl) (by omega) (by first | decide | omega) ?_
      refine z_iconst (pc := 49) (1) dX9_number_49 rfl ?_
      refine z_ret (pc := 50) (r := some (.int _)) rfl dX9_number_50 (by first | exact Or.inl rfl | exact Or.inr rfl | assumption) rfl rfl ?_
      have hn := of_decide_eq_true ((zbb1 _).mp c30)
      have eR : znm b pl lo hi a v = (0, a + znf b a, upd v pl (nI (zvl b a (znf b a)))) := by unfold znm zPn; rw [if_pos hz, if_pos hn]; rfl
      rw [eR]
      refine ⟨rfl, _, rfl, fun _ => ⟨⟨zMs_95 hs, fun q hq => ?_, ?_, znf_le hT hz⟩, ?_⟩, fun z => absurd rfl z⟩
      · show zup _ _ _ _ _ _ = upd v pl _ q
        by_cases e : q = pl
        · subst e; rw [zup_on, pk_us]
        · rw [zup_no (Or.inr e), pk_un e]; exact h95 q hq
      · rw [zup_no (Or.inl (by decide))]; exact e15
      · rw [zup_no (Or.inl (by decide))]; exact h16
    · skip
      rw [inl hlo (by omega) hhi] at c30
      refine z_aload_0 (pc := 33) dX9_number_33 ?_
      refine z_iconst (pc := 34) (2) dX9_number_34 rfl ?_
      refine z_V1 (pc := 35) dX9_number_35 mlX9_116 kX9_fails vX9_fails (by decide) (by decide) (by first | rfl | assumption) (Nat.le_of_ble_eq_true rfl) (qX9_fails) ⟨Nat.le_refl _, Nat.le_refl _⟩ (fun r h1 hq => ?_)
      obtain ⟨rfl, rfl⟩ := hq
      refine z_ret (pc := 38) (r := some (.int _)) rfl dX9_number_38 (by first | exact Or.inl rfl | exact Or.inr rfl | assumption) rfl rfl ?_
      have hn := of_decide_eq_false ((zbb0 _).mp c30)
      have eR : znm b pl lo hi a v = (2, a, v) := by unfold znm zPn; rw [if_pos hz, if_neg hn]; rfl
      rw [eR]
      exact ⟨rfl, _, rfl, fun z => absurd (show (2 : Nat) = 0 from z) (by decide), fun _ => zMf_of hs h16 rfl⟩
  · skip
    refine z_aload_0 (pc := 12) dX9_number_12 ?_
    refine z_iconst (pc := 13) (1) dX9_number_13 rfl ?_
    refine z_V1 (pc := 14) dX9_number_14 mlX9_116 kX9_fails vX9_fails (by decide) (by decide) (by first | rfl | assumption) (Nat.le_of_ble_eq_true rfl) (qX9_fails) ⟨Nat.le_refl _, Nat.le_refl _⟩ (fun r h1 hq => ?_)
    obtain ⟨rfl, rfl⟩ := hq
    refine z_ret (pc := 17) (r := some (.int _)) rfl dX9_number_17 (by first | exact Or.inl rfl | exact Or.inr rfl | assumption) rfl rfl ?_
    have hn : ¬ (znf b a = 1 ∨ znf b a = 2) := fun z => c9 (by rw [ztk_2.mpr z]; rfl)
    have eR : znm b pl lo hi a v = (1, a, v) := by unfold znm zPn; rw [if_neg hn]; rfl
    rw [eR]
    exact ⟨rfl, _, rfl, fun z => absurd (show (1 : Nat) = 0 from z) (by decide), fun _ => zMf_of hs h16 rfl⟩
set_option maxRecDepth 100000 in
set_option maxHeartbeats 4000000 in
theorem qX9_sign {l : zL} {I : Nat → Nat → Int32} {J : Nat → Nat → Int64} {nw : Bool} {I1 : Nat → Nat → Int32} {v : Nat → Int32} {b : Nat → Nat} {a L : Nat} (hT : zTp I b L) (hM : zMr I I1 v a) (t c : Nat) (htc : (t = 3 ∧ c = 44) ∨ (t = 4 ∧ c = 59)) : zP l mX9_sign [.ref 85, .int (nI t)] (hh I1 J nw) (zMb I J nw a (zsg b c a v)) := by
  refine z_start [.ref 85, .int (nI t)] (by decide +kernel) (Nat.le_of_ble_eq_true rfl) rfl ?_
  refine z_aload_0 (pc := 0) dX9_sign_0 ?_
  refine z_V0 (pc := 1) dX9_sign_1 mlX9_113 kX9_next vX9_next (by decide) (by decide) (by first | rfl | assumption) (Nat.le_of_ble_eq_true rfl) (qX9_next hT hM) ⟨Nat.le_refl _, Nat.le_refl _⟩ (fun r h1 hq => ?_)
  obtain ⟨rfl, I2, rfl, hN⟩ := hq
  obtain ⟨hs, h95, h16, h17, h18, h215, h115⟩ := hN
  have htl := ztk_lt b a
  refine z_aload_0 (pc := 4) dX9_sign_4 ?_
  refine y_getI (pc := 5) dX9_sign_5 flX9_104 rfl (by first | rfl | assumption) ?_
  rw [h17]
  refine z_iload_1 (pc := 8) dX9_sign_8 ?_
  refine z_icmp_eq (pc := 9) (tgt := 20) dX9_sign_9 (by decide) (fun c9 => ?_) (fun c9 => ?_)
  · skip
    refine z_iconst (pc := 20) (1) dX9_sign_20 rfl ?_
    refine z_goto (pc := 21) (tgt := 25) dX9_sign_21 (by decide) ?_
    refine z_ret (pc := 25) (r := some (.int _)) rfl dX9_sign_25 (by first | exact Or.inl rfl | exact Or.inr rfl | assumption) rfl rfl ?_
    have et : ztk b a = t := (nI_eq (by omega) (by omega)).mp c9
    have hn := (ztk_at htc).mp et
    have eR : zsg b c a v = (0, a + 1, v) := if_pos hn
    rw [eR]
    refine ⟨rfl, _, rfl, fun _ => ⟨⟨hs, h95, h115 (by omega), ?_⟩, h16⟩, fun z => absurd rfl z⟩
    have := zTp_b hT a
    have := hT.1
    show a + 1 ≤ 120
    omega
  · skip
    refine z_aload_0 (pc := 12) dX9_sign_12 ?_
    refine z_iconst (pc := 13) (1) dX9_sign_13 rfl ?_
    refine z_V1 (pc := 14) dX9_sign_14 mlX9_116 kX9_fails vX9_fails (by decide) (by decide) (by first | rfl | assumption) (Nat.le_of_ble_eq_true rfl) (qX9_fails) ⟨Nat.le_refl _, Nat.le_refl _⟩ (fun r h1 hq => ?_)
    obtain ⟨rfl, rfl⟩ := hq
    refine z_if_eq (pc := 17) (tgt := 24) dX9_sign_17 (by decide) (fun c17 => ?_) (fun c17 => ?_)
    · skip
      refine z_iconst (pc := 24) (0) dX9_sign_24 rfl ?_
      refine z_ret (pc := 25) (r := some (.int _)) rfl dX9_sign_25 (by first | exact Or.inl rfl | exact Or.inr rfl | assumption) rfl rfl ?_
      have hn : ¬ b a = c := fun z => c9 (by rw [(ztk_at htc).mpr z])
      have eR : zsg b c a v = (1, a, v) := if_neg hn
      rw [eR]
      exact ⟨rfl, _, rfl, fun z => absurd (show (1 : Nat) = 0 from z) (by decide), fun _ => zMf_of hs h16 rfl⟩
    · exact absurd rfl c17
def zlaw (b : Nat → Nat) (a : Nat) (v : Nat → Int32) : zR3 := zbd (zsg b 111 a v) (fun a v => zbd (znm b 0 0 20 a v) (fun a v => zbd (zsg b 44 a v) (fun a v => zbd (znm b 1 1 40 a v) (fun a v => zbd (zsg b 44 a v) (fun a v => zbd (znm b 2 0 9 a v) (fun a v => zsg b 59 a v))))))
set_option maxRecDepth 100000 in
set_option maxHeartbeats 4000000 in
theorem qX9_readsLaw {l : zL} {I : Nat → Nat → Int32} {J : Nat → Nat → Int64} {nw : Bool} {I1 : Nat → Nat → Int32} {v : Nat → Int32} {b : Nat → Nat} {a L : Nat} (hT : zTp I b L) (hM : zMr I I1 v a) : zP l mX9_readsLaw [.ref 85] (hh I1 J nw) (zMq I J nw (zlaw b a v)) := by
  refine z_start [.ref 85] (by decide +kernel) (Nat.le_of_ble_eq_true rfl) rfl ?_
  refine z_aload_0 (pc := 0) dX9_readsLaw_0 ?_
  refine z_V0 (pc := 1) dX9_readsLaw_1 mlX9_113 kX9_next vX9_next (by decide) (by decide) (by first | rfl | assumption) (Nat.le_of_ble_eq_true rfl) (qX9_next hT hM) ⟨Nat.le_refl _, Nat.le_refl _⟩ (fun r h1 hq => ?_)
  obtain ⟨rfl, I2, rfl, hN⟩ := hq
  obtain ⟨hs, h95, h16, h17, h18, h215, h115⟩ := hN
  have htl := ztk_lt b a
  refine z_aload_0 (pc := 4) dX9_readsLaw_4 ?_
  refine y_getI (pc := 5) dX9_readsLaw_5 flX9_104 rfl (by first | rfl | assumption) ?_
  rw [h17]
  refine z_iconst (pc := 8) (1) dX9_readsLaw_8 rfl ?_
  refine z_icmp_ne (pc := 9) (tgt := 21) dX9_readsLaw_9 (by decide) (fun c9 => ?_) (fun c9 => ?_)
  · skip
    refine z_aload_0 (pc := 21) dX9_readsLaw_21 ?_
    refine z_iconst (pc := 22) (1) dX9_readsLaw_22 rfl ?_
    refine z_V1 (pc := 23) dX9_readsLaw_23 mlX9_116 kX9_fails vX9_fails (by decide) (by decide) (by first | rfl | assumption) (Nat.le_of_ble_eq_true rfl) (qX9_fails) ⟨Nat.le_refl _, Nat.le_refl _⟩ (fun r h1 hq => ?_)
    obtain ⟨rfl, rfl⟩ := hq
    refine z_ret (pc := 26) (r := some (.int _)) rfl dX9_readsLaw_26 (by first | exact Or.inl rfl | exact Or.inr rfl | assumption) rfl rfl ?_
    have hn : ¬ b a = 111 := fun z => c9 (by rw [ztk_1.mpr (by omega)]; rfl)
    have hz : zsg b 111 a v = (1, a, v) := if_neg hn
    unfold zlaw
    rw [zbd_no (by rw [hz]; exact fun z => absurd (show (1 : Nat) = 0 from z) (by decide)), hz]
    exact ⟨rfl, _, rfl, fun z => absurd (show (1 : Nat) = 0 from z) (by decide), fun _ => zMf_of hs h16 rfl⟩
  · skip
    refine z_aload_0 (pc := 12) dX9_readsLaw_12 ?_
    refine y_getI (pc := 13) dX9_readsLaw_13 flX9_107 rfl (by first | rfl | assumption) ?_
    refine z_bipush (pc := 16) (111) dX9_readsLaw_16 rfl ?_
    refine z_icmp_eq (pc := 18) (tgt := 27) dX9_readsLaw_18 (by decide) (fun c18 => ?_) (fun c18 => ?_)
    · skip
      have et : ztk b a = 1 := (nI_eq (by omega) (by decide)).mp (show nI (ztk b a) = nI 1 from c9)
      rw [h18 et] at c18
      have h111 : b a = 111 := (nI_eq (by have := zTp_b hT a; omega) (by decide)).mp (show nI (b a) = nI 111 from c18)
      have e0 : zsg b 111 a v = (0, a + 1, v) := if_pos h111
      have hM0 : zMr I I2 v (a + 1) := ⟨hs, h95, h115 (Or.inl et), by have := zTp_b hT a; have := hT.1; omega⟩
      refine z_aload_0 (pc := 27) dX9_readsLaw_27 ?_
      refine z_iconst (pc := 28) (0) dX9_readsLaw_28 rfl ?_
      refine z_iconst (pc := 29) (0) dX9_readsLaw_29 rfl ?_
      refine z_bipush (pc := 30) (20) dX9_readsLaw_30 rfl ?_
      refine z_V3 (pc := 32) dX9_readsLaw_32 mlX9_119 kX9_number vX9_number (by decide) (by decide) (by first | rfl | assumption) (Nat.le_of_ble_eq_true rfl) (qX9_number hT hM0 0 0 20 (by decide) (by decide) (by decide)) ⟨Nat.le_refl _, Nat.le_refl _⟩ (fun r h1 hq => ?_)
      obtain ⟨rfl, J0, rfl, hA0, hB0⟩ := hq
      refine z_if_eq (pc := 35) (tgt := 88) dX9_readsLaw_35 (by decide) (fun c35 => ?_) (fun c35 => ?_)
      · skip
        refine z_iconst (pc := 88) (0) dX9_readsLaw_88 rfl ?_
        refine z_ret (pc := 89) (r := some (.int _)) rfl dX9_readsLaw_89 (by first | exact Or.inl rfl | exact Or.inr rfl | assumption) rfl rfl ?_
        have hno : ¬ (_ : zR3).1 = 0 := of_decide_eq_false ((zbb0 _).mp c35)
        unfold zlaw
        rw [zbd_ok e0, zbd_no hno]
        exact ⟨by rw [decide_eq_false hno]; rfl, _, rfl, fun z => absurd z hno, fun _ => hB0 hno⟩
      · skip
        obtain ⟨a1, v1, e1⟩ : ∃ x1 y1, znm b 0 0 20 (a + 1) v = (0, x1, y1) := ⟨_, _, zok (of_decide_eq_true ((zbb1 _).mp c35))⟩
        obtain ⟨hN1, hg1⟩ := hA0 (of_decide_eq_true ((zbb1 _).mp c35))
        rw [e1] at hN1
        have hM1 : zMr I J0 v1 a1 := hN1
        refine z_aload_0 (pc := 38) dX9_readsLaw_38 ?_
        refine z_iconst (pc := 39) (3) dX9_readsLaw_39 rfl ?_
        refine z_V1 (pc := 40) dX9_readsLaw_40 mlX9_123 kX9_sign vX9_sign (by decide) (by decide) (by first | rfl | assumption) (Nat.le_of_ble_eq_true rfl) (qX9_sign hT hM1 3 44 (by decide)) ⟨Nat.le_refl _, Nat.le_refl _⟩ (fun r h1 hq => ?_)
        obtain ⟨rfl, J1, rfl, hA1, hB1⟩ := hq
        refine z_if_eq (pc := 43) (tgt := 88) dX9_readsLaw_43 (by decide) (fun c43 => ?_) (fun c43 => ?_)
        · skip
          refine z_iconst (pc := 88) (0) dX9_readsLaw_88 rfl ?_
          refine z_ret (pc := 89) (r := some (.int _)) rfl dX9_readsLaw_89 (by first | exact Or.inl rfl | exact Or.inr rfl | assumption) rfl rfl ?_
          have hno : ¬ (_ : zR3).1 = 0 := of_decide_eq_false ((zbb0 _).mp c43)
          unfold zlaw
          rw [zbd_ok e0, zbd_ok e1, zbd_no hno]
          exact ⟨by rw [decide_eq_false hno]; rfl, _, rfl, fun z => absurd z hno, fun _ => hB1 hno⟩
        · skip
          obtain ⟨a2, v2, e2⟩ : ∃ x1 y1, zsg b 44 a1 v1 = (0, x1, y1) := ⟨_, _, zok (of_decide_eq_true ((zbb1 _).mp c43))⟩
          obtain ⟨hN2, hg2⟩ := hA1 (of_decide_eq_true ((zbb1 _).mp c43))
          rw [e2] at hN2
          have hM2 : zMr I J1 v2 a2 := hN2
          refine z_aload_0 (pc := 46) dX9_readsLaw_46 ?_
          refine z_iconst (pc := 47) (1) dX9_readsLaw_47 rfl ?_
          refine z_iconst (pc := 48) (1) dX9_readsLaw_48 rfl ?_
          refine z_bipush (pc := 49) (40) dX9_readsLaw_49 rfl ?_
          refine z_V3 (pc := 51) dX9_readsLaw_51 mlX9_119 kX9_number vX9_number (by decide) (by decide) (by first | rfl | assumption) (Nat.le_of_ble_eq_true rfl) (qX9_number hT hM2 1 1 40 (by decide) (by decide) (by decide)) ⟨Nat.le_refl _, Nat.le_refl _⟩ (fun r h1 hq => ?_)
          obtain ⟨rfl, J2, rfl, hA2, hB2⟩ := hq
          refine z_if_eq (pc := 54) (tgt := 88) dX9_readsLaw_54 (by decide) (fun c54 => ?_) (fun c54 => ?_)
          · skip
            refine z_iconst (pc := 88) (0) dX9_readsLaw_88 rfl ?_
            refine z_ret (pc := 89) (r := some (.int _)) rfl dX9_readsLaw_89 (by first | exact Or.inl rfl | exact Or.inr rfl | assumption) rfl rfl ?_
            have hno : ¬ (_ : zR3).1 = 0 := of_decide_eq_false ((zbb0 _).mp c54)
            unfold zlaw
            rw [zbd_ok e0, zbd_ok e1, zbd_ok e2, zbd_no hno]
            exact ⟨by rw [decide_eq_false hno]; rfl, _, rfl, fun z => absurd z hno, fun _ => hB2 hno⟩
          · skip
            obtain ⟨a3, v3, e3⟩ : ∃ x1 y1, znm b 1 1 40 a2 v2 = (0, x1, y1) := ⟨_, _, zok (of_decide_eq_true ((zbb1 _).mp c54))⟩
            obtain ⟨hN3, hg3⟩ := hA2 (of_decide_eq_true ((zbb1 _).mp c54))
            rw [e3] at hN3
            have hM3 : zMr I J2 v3 a3 := hN3
            refine z_aload_0 (pc := 57) dX9_readsLaw_57 ?_
            refine z_iconst (pc := 58) (3) dX9_readsLaw_58 rfl ?_
            refine z_V1 (pc := 59) dX9_readsLaw_59 mlX9_123 kX9_sign vX9_sign (by decide) (by decide) (by first | rfl | assumption) (Nat.le_of_ble_eq_true rfl) (qX9_sign hT hM3 3 44 (by decide)) ⟨Nat.le_refl _, Nat.le_refl _⟩ (fun r h1 hq => ?_)
            obtain ⟨rfl, J3, rfl, hA3, hB3⟩ := hq
            refine z_if_eq (pc := 62) (tgt := 88) dX9_readsLaw_62 (by decide) (fun c62 => ?_) (fun c62 => ?_)
            · skip
              refine z_iconst (pc := 88) (0) dX9_readsLaw_88 rfl ?_
              refine z_ret (pc := 89) (r := some (.int _)) rfl dX9_readsLaw_89 (by first | exact Or.inl rfl | exact Or.inr rfl | assumption) rfl rfl ?_
              have hno : ¬ (_ : zR3).1 = 0 := of_decide_eq_false ((zbb0 _).mp c62)
              unfold zlaw
              rw [zbd_ok e0, zbd_ok e1, zbd_ok e2, zbd_ok e3, zbd_no hno]
              exact ⟨by rw [decide_eq_false hno]; rfl, _, rfl, fun z => absurd z hno, fun _ => hB3 hno⟩
            · skip
              obtain ⟨a4, v4, e4⟩ : ∃ x1 y1, zsg b 44 a3 v3 = (0, x1, y1) := ⟨_, _, zok (of_decide_eq_true ((zbb1 _).mp c62))⟩
              obtain ⟨hN4, hg4⟩ := hA3 (of_decide_eq_true ((zbb1 _).mp c62))
              rw [e4] at hN4
              have hM4 : zMr I J3 v4 a4 := hN4
              refine z_aload_0 (pc := 65) dX9_readsLaw_65 ?_
              refine z_iconst (pc := 66) (2) dX9_readsLaw_66 rfl ?_
              refine z_iconst (pc := 67) (0) dX9_readsLaw_67 rfl ?_
              refine z_bipush (pc := 68) (9) dX9_readsLaw_68 rfl ?_
              refine z_V3 (pc := 70) dX9_readsLaw_70 mlX9_119 kX9_number vX9_number (by decide) (by decide) (by first | rfl | assumption) (Nat.le_of_ble_eq_true rfl) (qX9_number hT hM4 2 0 9 (by decide) (by decide) (by decide)) ⟨Nat.le_refl _, Nat.le_refl _⟩ (fun r h1 hq => ?_)
              obtain ⟨rfl, J4, rfl, hA4, hB4⟩ := hq
              refine z_if_eq (pc := 73) (tgt := 88) dX9_readsLaw_73 (by decide) (fun c73 => ?_) (fun c73 => ?_)
              · skip
                refine z_iconst (pc := 88) (0) dX9_readsLaw_88 rfl ?_
                refine z_ret (pc := 89) (r := some (.int _)) rfl dX9_readsLaw_89 (by first | exact Or.inl rfl | exact Or.inr rfl | assumption) rfl rfl ?_
                have hno : ¬ (_ : zR3).1 = 0 := of_decide_eq_false ((zbb0 _).mp c73)
                unfold zlaw
                rw [zbd_ok e0, zbd_ok e1, zbd_ok e2, zbd_ok e3, zbd_ok e4, zbd_no hno]
                exact ⟨by rw [decide_eq_false hno]; rfl, _, rfl, fun z => absurd z hno, fun _ => hB4 hno⟩
              · skip
                obtain ⟨a5, v5, e5⟩ : ∃ x1 y1, znm b 2 0 9 a4 v4 = (0, x1, y1) := ⟨_, _, zok (of_decide_eq_true ((zbb1 _).mp c73))⟩
                obtain ⟨hN5, hg5⟩ := hA4 (of_decide_eq_true ((zbb1 _).mp c73))
                rw [e5] at hN5
                have hM5 : zMr I J4 v5 a5 := hN5
                refine z_aload_0 (pc := 76) dX9_readsLaw_76 ?_
                refine z_iconst (pc := 77) (4) dX9_readsLaw_77 rfl ?_
                refine z_V1 (pc := 78) dX9_readsLaw_78 mlX9_123 kX9_sign vX9_sign (by decide) (by decide) (by first | rfl | assumption) (Nat.le_of_ble_eq_true rfl) (qX9_sign hT hM5 4 59 (by decide)) ⟨Nat.le_refl _, Nat.le_refl _⟩ (fun r h1 hq => ?_)
                obtain ⟨rfl, J5, rfl, hA5, hB5⟩ := hq
                refine z_if_eq (pc := 81) (tgt := 88) dX9_readsLaw_81 (by decide) (fun c81 => ?_) (fun c81 => ?_)
                · skip
                  refine z_iconst (pc := 88) (0) dX9_readsLaw_88 rfl ?_
                  refine z_ret (pc := 89) (r := some (.int _)) rfl dX9_readsLaw_89 (by first | exact Or.inl rfl | exact Or.inr rfl | assumption) rfl rfl ?_
                  have hno : ¬ (_ : zR3).1 = 0 := of_decide_eq_false ((zbb0 _).mp c81)
                  unfold zlaw
                  rw [zbd_ok e0, zbd_ok e1, zbd_ok e2, zbd_ok e3, zbd_ok e4, zbd_ok e5]
                  exact ⟨by rw [decide_eq_false hno]; rfl, _, rfl, fun z => absurd z hno, fun _ => hB5 hno⟩
                · skip
                  obtain ⟨a6, v6, e6⟩ : ∃ x1 y1, zsg b 59 a5 v5 = (0, x1, y1) := ⟨_, _, zok (of_decide_eq_true ((zbb1 _).mp c81))⟩
                  obtain ⟨hN6, hg6⟩ := hA5 (of_decide_eq_true ((zbb1 _).mp c81))
                  rw [e6] at hN6
                  have hM6 : zMr I J5 v6 a6 := hN6
                  refine z_iconst (pc := 84) (1) dX9_readsLaw_84 rfl ?_
                  refine z_goto (pc := 85) (tgt := 89) dX9_readsLaw_85 (by decide) ?_
                  refine z_ret (pc := 89) (r := some (.int _)) rfl dX9_readsLaw_89 (by first | exact Or.inl rfl | exact Or.inr rfl | assumption) rfl rfl ?_
                  unfold zlaw
                  rw [zbd_ok e0, zbd_ok e1, zbd_ok e2, zbd_ok e3, zbd_ok e4, zbd_ok e5, e6]
                  exact ⟨rfl, _, rfl, fun _ => hM6, fun z => absurd rfl z⟩
    · skip
      refine z_aload_0 (pc := 21) dX9_readsLaw_21 ?_
      refine z_iconst (pc := 22) (1) dX9_readsLaw_22 rfl ?_
      refine z_V1 (pc := 23) dX9_readsLaw_23 mlX9_116 kX9_fails vX9_fails (by decide) (by decide) (by first | rfl | assumption) (Nat.le_of_ble_eq_true rfl) (qX9_fails) ⟨Nat.le_refl _, Nat.le_refl _⟩ (fun r h1 hq => ?_)
      obtain ⟨rfl, rfl⟩ := hq
      refine z_ret (pc := 26) (r := some (.int _)) rfl dX9_readsLaw_26 (by first | exact Or.inl rfl | exact Or.inr rfl | assumption) rfl rfl ?_
      have hn : ¬ b a = 111 := fun z => c18 (by rw [h18 (ztk_1.mpr (by omega)), z]; rfl)
      have hz : zsg b 111 a v = (1, a, v) := if_neg hn
      unfold zlaw
      rw [zbd_no (by rw [hz]; exact fun z => absurd (show (1 : Nat) = 0 from z) (by decide)), hz]
      exact ⟨rfl, _, rfl, fun z => absurd (show (1 : Nat) = 0 from z) (by decide), fun _ => zMf_of hs h16 rfl⟩
