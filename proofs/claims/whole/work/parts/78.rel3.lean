-- ===== blended, silent, drawn =====
theorem z_both : ∀ q, q ≤ 20 → ∀ r, r ≤ 20 → (if nI q + nI r ≤ 20 then nI q + nI r else 20) = (if nI q + nI r < 20 then nI q + nI r else 20) := by decide +kernel
theorem zBl_at {I : Nat → Nat → Int32} {K i j b : Nat} (hij : i ≠ j) (hi : i < 4) (hj : j < 4) : zBl I K i j K b = if b = 52 + j then (if I K (52 + i) + I K (52 + j) ≤ 20 then I K (52 + i) + I K (52 + j) else 20) else if b = 44 + i ∨ b = 48 + i ∨ b = 52 + i ∨ b = 56 + i then 0 else I K b := by
  unfold zBl
  by_cases h1 : b = 52 + j
  · subst h1
    rw [if_pos rfl, zup_no (by omega), zup_no (by omega), zup_no (by omega), zup_no (by omega), zup_on]
  · rw [if_neg h1]
    by_cases h2 : b = 44 + i ∨ b = 48 + i ∨ b = 52 + i ∨ b = 56 + i
    · rw [if_pos h2]
      rcases h2 with rfl | rfl | rfl | rfl
      · rw [zup_no (by omega), zup_no (by omega), zup_no (by omega), zup_on]
      · rw [zup_no (by omega), zup_no (by omega), zup_on]
      · rw [zup_no (by omega), zup_on]
      · rw [zup_on]
    · rw [if_neg h2, zup_no (by omega), zup_no (by omega), zup_no (by omega), zup_no (by omega), zup_no (by omega)]
theorem mBl2_at {M : Nat → Nat → Int32} {i j b : Nat} (hij : i ≠ j) (hi : i < 4) (hj : j < 4) (hb : b < 66) : mBl2 M i j 99 b = if b = 52 + j then (if M 90 (52 + i) + M 90 (52 + j) ≤ 20 then M 90 (52 + i) + M 90 (52 + j) else 20) else if b = 44 + i ∨ b = 48 + i ∨ b = 52 + i ∨ b = 56 + i then 0 else M 90 b := by
  unfold mBl2
  rw [zBl_at hij hi hj, zcpy99 M hb, zcpy99 M (b := 52 + i) (by omega), zcpy99 M (b := 52 + j) (by omega)]
theorem mBl2_zst {C M : Nat → Nat → Int32} {n T : Nat} {A B : Nat → Nat} (h : RT C 15 (M 90) n T A B) : ∀ i j, i < 4 → j < 4 → -1000 < zst (mBl2 M i j 99 0) (mBl2 M i j 99 1) (mBl2 M i j 99 (52 + j)) (mBl2 M i j 99 (56 + j)) := by
  intro i j hi hj
  obtain ⟨q, hq, e⟩ := zRc_malt h.2.2 hi
  obtain ⟨r, hr, e2⟩ := zRc_malt h.2.2 hj
  have hb : ∀ q, q ≤ 20 → ∀ r, r ≤ 20 → ∃ p, p ≤ 20 ∧ (if nI q + nI r ≤ 20 then nI q + nI r else 20) = nI p := by
    intro q hq r hr
    by_cases z : nI q + nI r ≤ 20
    · rw [if_pos z, nI_add]
      rw [nI_add] at z
      refine ⟨q + r, ?_, rfl⟩
      rcases Nat.lt_or_ge 20 (q + r) with y | y
      · exact absurd z (nI_ge (a := 20) y (by omega))
      · exact y
    · rw [if_neg z]; exact ⟨20, by omega, rfl⟩
  obtain ⟨p, hp, ep⟩ := hb q hq r hr
  have key : ∃ p, p ≤ 20 ∧ mBl2 M i j 99 (52 + j) = nI p := by
    by_cases hij : i = j
    · subst hij
      refine ⟨0, by omega, ?_⟩
      unfold mBl2 zBl
      rw [zup_no (by omega), zup_on]; rfl
    · rw [mBl2_at hij hi hj (by omega), if_pos rfl, e, e2]; exact ⟨p, hp, ep⟩
  obtain ⟨p, hp, ep⟩ := key
  rw [ep]; exact zst_malt hp _ _ _
theorem v_bld {C M : Nat → Nat → Int32} {n T : Nat} {A B : Nat → Nat} (h : RT C 15 (M 90) n T A B) (x y d : Int32) : (pBld C n T A B x y d).1 = mBlended M n T A B x y d ∧ (pBld C n T A B x y d).2 = C := by
  unfold pBld mBlended
  by_cases g : (zlt x 4 = true ∧ zlt y 4 = true ∧ ¬ x = y) ∧ zlt d n = true
  · rw [if_pos g, if_pos g]
    obtain ⟨i, hi, rfl⟩ := zlt_nI (by decide) g.1.1
    obtain ⟨j, hj, rfl⟩ := zlt_nI (by decide) g.1.2.1
    have hij : i ≠ j := fun z => g.1.2.2 (by rw [z])
    rw [nI_clamp (n := i) (by omega), nI_clamp (n := j) (by omega)]
    by_cases c : C 22 (1 + i) = 0 ∨ C 22 (1 + j) = 0
    · rw [if_pos c, if_pos (c.imp (zRc_th h.2.2 hi h.1.1).mpr (zRc_th h.2.2 hj h.1.1).mpr)]; exact ⟨rfl, rfl⟩
    · rw [if_neg c, if_neg (fun z => c (z.imp (zRc_th h.2.2 hi h.1.1).mp (zRc_th h.2.2 hj h.1.1).mp))]
      refine ⟨?_, rfl⟩
      have c1 : ¬ C 22 (1 + i) = 0 := fun z => c (Or.inl z)
      have c2 : ¬ C 22 (1 + j) = 0 := fun z => c (Or.inr z)
      have hn := h.1.1
      obtain ⟨u1, hu1, a1, a2, a3, a4, a5, q1, hq1, a6⟩ := zRc_is h.2.2 hi c1
      obtain ⟨u2, hu2, b1, b2, b3, b4, b5, q2, hq2, b6⟩ := zRc_is h.2.2 hj c2
      have ez : zst (mBl2 M i j 99 0) (mBl2 M i j 99 1) (mBl2 M i j 99 (52 + j)) (mBl2 M i j 99 (56 + j)) = zst (C 15 0) (C 15 1) (zblm C i j) (C 22 (9 + j)) := by
        have m52 : mBl2 M i j 99 (52 + j) = if M 90 (52 + i) + M 90 (52 + j) ≤ 20 then M 90 (52 + i) + M 90 (52 + j) else 20 := by rw [mBl2_at hij hi hj (by omega), if_pos rfl]
        have m56 : mBl2 M i j 99 (56 + j) = M 90 (56 + j) := by rw [mBl2_at hij hi hj (by omega), if_neg (by omega), if_neg (by omega)]
        rw [mBl2_low M i j 0 (by omega), mBl2_low M i j 1 (by omega), m52, m56, (RT_law h).1, (RT_law h).2.1, b5, a4, b4, a6, b6, z_both q1 hq1 q2 hq2]
        unfold zblm
        rw [show C 22 (5 + i) = nI q1 from a6, show C 22 (5 + j) = nI q2 from b6]
      unfold zgK
      have m48 : mBl2 M i j 99 (48 + j) = M 90 (48 + j) := by rw [mBl2_at hij hi hj (by omega), if_neg (by omega), if_neg (by omega)]
      rw [ez, m48, (RT_sc h hj c2).2]
      show zbc _ = zbc _
      unfold ztE
      rw [zgo_congr (t := zmT (mBl2 M i j) 99 n T A B (fun _ => false) (C 22 (1 + j) - 1)) (u := zTe C (C 16) n T A B (fun _ => false) (C 22 (1 + j) - 1))]
      refine ⟨rfl, rfl, fun e he => ?_⟩
      have he : e < n := he
      have v4 := h.2.1.2.2.2.1 e he
      refine ⟨?_, ?_, ?_, fun f => ?_⟩
      · show mBl2 M i j 99 (6 + e) = C 16 e
        rw [mBl2_low M i j _ (by omega)]; exact v4.1.symm
      · show mBl2 M i j 99 (12 + e) = C 17 e
        rw [mBl2_low M i j _ (by omega)]; exact v4.2.1.symm
      · show mBl2 M i j 99 (18 + e) = C 18 e
        rw [mBl2_low M i j _ (by omega)]; exact v4.2.2.symm
      · show (if mBl2 M i j 99 (6 + e) = 5 then _ else _) = (if C 16 e = 5 then _ else _)
        rw [mBl2_low M i j _ (by omega), show C 16 e = M 90 (6 + e) from v4.1]
  · rw [if_neg g, if_neg g]; exact ⟨rfl, rfl⟩
-- silent
def zcb (s : Nat) : Nat → Nat
  | 0 => 0
  | k + 1 => zcb s k + (if zbt s k = true then 1 else 0)
theorem zcb_le (s : Nat) : ∀ k, zcb s k ≤ k
  | 0 => Nat.le_refl _
  | k + 1 => by
    have := zcb_le s k
    rw [zcb]
    by_cases h : zbt s k = true
    · rw [if_pos h]; omega
    · rw [if_neg h]; omega
theorem zpc_cb : ∀ T, T ≤ 10 → ∀ s, s < 2 ^ T → zpc s = zcb s T := by decide +kernel
theorem zwy_pow (q s : Nat) : ∀ k, zwy q s k = q ^ zcb s k * (10 - q) ^ (k - zcb s k)
  | 0 => rfl
  | k + 1 => by
    have := zcb_le s k
    rw [zwy, zwy_pow q s k, zcb]
    by_cases h : zbt s k = true
    · rw [if_pos h, if_pos h, show k + 1 - (zcb s k + 1) = k - zcb s k by omega, Nat.pow_succ, Nat.mul_assoc, Nat.mul_comm ((10 - q) ^ (k - zcb s k)) q, ← Nat.mul_assoc]
    · rw [if_neg h, if_neg h, Nat.add_zero, show k + 1 - zcb s k = (k - zcb s k) + 1 by omega, Nat.pow_succ, Nat.mul_assoc]
theorem zpow_lN (b : Nat) : ∀ k, zpow (lN b) k = lN (b ^ k)
  | 0 => rfl
  | k + 1 => by rw [zpow, zpow_lN b k, lN_mul, Nat.pow_succ]
theorem zwt_lN {q T s : Nat} (hq : q ≤ 10) (hT : T ≤ 10) (hs : s < 2 ^ T) : zwt (nI q) T (zpc s) = lN (zwy q s T) := by
  unfold zwt
  rw [zpc_cb T hT s hs, nI_l (by omega), show (10 : Int32) - nI q = nI (10 - q) from pk_sub (a := 10) (b := q) hq, nI_l (by omega), zpow_lN, zpow_lN, lN_mul, zwy_pow]
theorem zcas_lN {g : Nat → Bool} {wt : Nat → Int64} {W : Nat → Nat} : ∀ N, (∀ s, s < N → wt s = lN (W s) ∧ W s ≤ 10000000000) → zcas g wt N = lN (zabN g W N)
  | 0, _ => rfl
  | N + 1, h => by
    obtain ⟨e, hw⟩ := h N (by omega)
    rw [zcas, zabN, zcas_lN N (fun s hs => h s (by omega)), e]
    by_cases z : 0 < lN (W N)
    · rw [if_pos z]
      by_cases y : g N = true
      · rw [if_pos y, if_pos y, show (1 : Int32).toInt64 = lN 1 from rfl, lN_mul, Nat.one_mul, lN_add]
      · rw [if_neg y, if_neg y, show (0 : Int32).toInt64 = lN 0 from rfl, lN_mul, Nat.zero_mul, lN_add]
    · rw [if_neg z]
      have h0 : W N = 0 := by
        rcases Nat.eq_zero_or_pos (W N) with y | y
        · exact y
        · exact absurd ((pk_lLT (a := 0) (b := W N) (by decide) (by omega)).mpr y) z
      rw [h0]
      by_cases y : g N = true
      · rw [if_pos y, Nat.add_zero]
      · rw [if_neg y, Nat.add_zero]
theorem zgcd_lN : ∀ (k f X Y : Nat), Y < 2 ^ k → 2 * k + 1 ≤ f → X < 2 ^ 63 → Y < 2 ^ 63 → zgcd f (lN X) (lN Y) = lN (Nat.gcd X Y)
  | 0, f, X, Y, hY, hf, _, _ => by
    obtain ⟨f, rfl⟩ : ∃ g, f = g + 1 := ⟨f - 1, by omega⟩
    have h0 : Y = 0 := by omega
    subst h0
    rw [zgcd, if_pos (show lN 0 = 0 from rfl), Nat.gcd_zero_right]
  | k + 1, f, X, Y, hY, hf, hX, hY2 => by
    obtain ⟨f, rfl⟩ : ∃ g, f = g + 2 := ⟨f - 2, by omega⟩
    rw [zgcd]
    by_cases h0 : Y = 0
    · subst h0; rw [if_pos (show lN 0 = 0 from rfl), Nat.gcd_zero_right]
    · rw [if_neg (show ¬ lN Y = 0 from fun z => h0 ((pk_lEQ (a := Y) (b := 0) hY2 (by decide)).mp z)), pk_lRem hX (by omega) hY2, zgcd, gcd_go (X := X) (Y := Y)]
      have hm := Nat.mod_lt X (show 0 < Y by omega)
      generalize X % Y = R at hm ⊢
      by_cases h1 : R = 0
      · subst h1; rw [if_pos (show lN 0 = 0 from rfl), Nat.gcd_zero_right]
      · rw [if_neg (show ¬ lN R = 0 from fun z => h1 ((pk_lEQ (a := R) (b := 0) (by omega) (by decide)).mp z)), pk_lRem hY2 (by omega) (by omega), gcd_go (X := Y) (Y := R)]
        have h2 : Y % R < 2 ^ k := by
          have h3 := Nat.mod_lt Y (show 0 < R by omega)
          have h4 := Nat.div_add_mod Y R
          have h5 : 1 ≤ Y / R := Nat.div_pos (by omega) (by omega)
          have h6 : R * 1 ≤ R * (Y / R) := Nat.mul_le_mul_left R h5
          have h7 : 2 ^ (k + 1) = 2 * 2 ^ k := by rw [Nat.pow_succ, Nat.mul_comm]
          omega
        have h8 := Nat.mod_le Y R
        exact zgcd_lN k f R (Y % R) h2 (by omega) (by omega) (by omega)
theorem v_sln {C M : Nat → Nat → Int32} {n T : Nat} {A B : Nat → Nat} (h : RT C 15 (M 90) n T A B) (x a b q w : Int32) : pSln C n T A B x a b q w = mSln M n T A B x a b q w := by
  unfold pSln mSln
  by_cases g : zlt x 4 = true ∧ (zlt a n = true ∧ zlt b n = true ∧ ¬ a = b) ∧ zlt q 11 = true ∧ zlt w 2 = true
  · have g2 : zlt x 4 = true ∧ zlt a n = true ∧ zlt b n = true ∧ ¬ a = b ∧ zlt q 11 = true ∧ zlt w 2 = true := ⟨g.1, g.2.1.1, g.2.1.2.1, g.2.1.2.2, g.2.2.1, g.2.2.2⟩
    rw [if_pos g, if_pos g2]
    obtain ⟨i, hi, rfl⟩ := zlt_nI (by decide) g.1
    obtain ⟨qq, hq, rfl⟩ := zlt_nI (by decide) g.2.2.1
    rw [nI_clamp (n := i) (by omega), nI_clamp (n := qq) (by omega)]
    by_cases c : C 22 (1 + i) = 0
    · rw [if_pos c, if_pos ((zRc_th h.2.2 hi h.1.1).mpr c)]
    · rw [if_neg c, if_neg (fun z => c ((zRc_th h.2.2 hi h.1.1).mp z))]
      have hT := h.1.2.2.1
      have ea : zabv C n T A B i a.toNatClampNeg b.toNatClampNeg (nI qq) = lN (zabM M n T A B i a.toNatClampNeg b.toNatClampNeg qq) := by
        unfold zabv zabM
        rw [show (fun s => (zgo (ztE C n T A B (zbt s) i) (fun e => e == a.toNatClampNeg) (zsc C i)).2 b.toNatClampNeg) = zgS M n T A B i a.toNatClampNeg b.toNatClampNeg from by
          funext s
          unfold zgS
          rw [RT_go h hi c]]
        exact zcas_lN (2 ^ T) (fun s hs => ⟨zwt_lN (by omega) hT hs, Nat.le_trans (zwy_le (by omega) s T) (ten10 T hT).1⟩)
      have hab : zabM M n T A B i a.toNatClampNeg b.toNatClampNeg qq < 2 ^ 60 := zabN_lt (by omega) hT (pow10 T hT).1
      have ep : zpow 10 T = lN (10 ^ T) := zpow_lN 10 T
      have ht := ten10 T hT
      have eg : zgcd 100 (lN (zabM M n T A B i a.toNatClampNeg b.toNatClampNeg qq)) (lN (10 ^ T)) = lN (Nat.gcd (zabM M n T A B i a.toNatClampNeg b.toNatClampNeg qq) (10 ^ T)) := zgcd_lN 34 100 _ _ (by omega) (by omega) (by omega) (by omega)
      have hg0 : 0 < Nat.gcd (zabM M n T A B i a.toNatClampNeg b.toNatClampNeg qq) (10 ^ T) := Nat.gcd_pos_of_pos_right _ ht.2
      have hg1 : Nat.gcd (zabM M n T A B i a.toNatClampNeg b.toNatClampNeg qq) (10 ^ T) ≤ 10 ^ T := Nat.le_of_dvd ht.2 (Nat.gcd_dvd_right _ _)
      unfold zg1
      have hge : ¬ lN (Nat.gcd (zabM M n T A B i a.toNatClampNeg b.toNatClampNeg qq) (10 ^ T)) < 1 := fun z => by
        have := (pk_lLT (b := 1) (by omega) (by decide)).mp (show _ < lN 1 from z)
        omega
      rw [ea, ep, eg, if_neg hge]
  · rw [if_neg g, if_neg (fun z => g ⟨z.1, ⟨z.2.1, z.2.2.1, z.2.2.2.1⟩, z.2.2.2.2.1, z.2.2.2.2.2⟩)]
-- what a day, a tap do to the two cellars
theorem zRc_day {n : Nat} {c t : Nat → Int32} (h : zRc n c t) : zRc n (zwday c) (mwday t) := by
  refine ⟨?_, fun i hi => ?_, fun d hd => ?_⟩
  · unfold zwday mwday
    rw [if_pos (Or.inl rfl), if_neg (by omega), if_pos rfl, h.1]
  · rcases h.2.1 i hi with ⟨z1, z2, z3, z4, z5⟩ | ⟨w, hw, e1, e2, e3, e4, e5, q, hq, e6⟩
    · refine Or.inl ⟨?_, ?_, ?_, ?_, ?_⟩
      · unfold zwday; rw [if_neg (by omega)]; exact z1
      · unfold mwday; rw [if_neg (by omega), if_neg (by omega)]; exact z2
      · unfold mwday; rw [if_neg (by omega), if_neg (by omega)]; exact z3
      · unfold mwday; rw [if_neg (by omega), if_neg (by omega)]; exact z4
      · unfold mwday; rw [if_pos (by omega), z5, show 56 + i - 12 = 44 + i by omega, z2]; rfl
    · refine Or.inr ⟨w, hw, ?_, ?_, ?_, ?_, ?_, q, hq, ?_⟩
      · unfold zwday; rw [if_neg (by omega)]; exact e1
      · unfold mwday; rw [if_neg (by omega), if_neg (by omega)]; exact e2
      · unfold mwday; rw [if_neg (by omega), if_neg (by omega)]; exact e3
      · unfold mwday zwday; rw [if_neg (by omega), if_neg (by omega), if_neg (by omega)]; exact e4
      · unfold mwday zwday; rw [if_pos (by omega), if_pos (by omega), show 56 + i - 12 = 44 + i by omega, e2, e5]
      · unfold zwday; rw [if_neg (by omega)]; exact e6
  · unfold zwday mwday
    rw [if_neg (by omega), if_neg (by omega), if_neg (by omega)]
    exact h.2.2 d hd
theorem malt_alike : ∀ q, q ≤ 20 → (if 0 < nI q - 1 then nI q - 1 else 0) = nI q - (if ¬ nI q ≤ 0 then 1 else 0) := by decide +kernel
theorem zRc_tap {n : Nat} (hn : n ≤ 6) {c t : Nat → Int32} (h : zRc n c t) {i w : Nat} (hi : i < 4) (hw : w < n) (hc : c (1 + i) = nI (w + 1)) (f : Nat → Bool) : zRc n (upd (upd c (13 + w) (c (13 + w) ||| nI (bs f))) (5 + i) (if 0 < c (5 + i) - 1 then c (5 + i) - 1 else 0)) (upd (upd t (60 + w) (t (60 + w) ||| nI (bs f))) (52 + i) (t (52 + i) - (if ¬ t (52 + i) ≤ 0 then 1 else 0))) := by
  have hcn : ¬ c (1 + i) = 0 := by rw [hc]; exact nI_ne0 (by omega) (by omega)
  refine ⟨?_, fun j hj => ?_, fun d hd => ?_⟩
  · rw [pk_un (by omega), pk_un (by omega), pk_un (by omega), pk_un (by omega)]; exact h.1
  · by_cases q : j = i
    · subst q
      obtain ⟨w2, hw2, e1, e2, e3, e4, e5, q, hq, e6⟩ := zRc_is h hj hcn
      refine Or.inr ⟨w2, hw2, ?_, ?_, ?_, ?_, ?_, q - 1, by omega, ?_⟩
      · rw [pk_un (by omega), pk_un (by omega)]; exact e1
      · rw [pk_un (by omega), pk_un (by omega)]; exact e2
      · rw [pk_un (by omega), pk_un (by omega)]; exact e3
      · rw [pk_us, pk_us, e4, e6, malt_alike q hq]
      · rw [pk_un (by omega), pk_un (by omega), pk_un (by omega), pk_un (by omega)]; exact e5
      · rw [pk_us, e6, malt_alike q hq, malt_down q hq]
    · have e : ∀ b, b < 13 → b ≠ 5 + i → upd (upd c (13 + w) (c (13 + w) ||| nI (bs f))) (5 + i) (if 0 < c (5 + i) - 1 then c (5 + i) - 1 else 0) b = c b := fun b h1 h2 => by rw [pk_un h2, pk_un (by omega)]
      have e2 : ∀ b, b < 60 → b ≠ 52 + i → upd (upd t (60 + w) (t (60 + w) ||| nI (bs f))) (52 + i) (t (52 + i) - (if ¬ t (52 + i) ≤ 0 then 1 else 0)) b = t b := fun b h1 h2 => by rw [pk_un h2, pk_un (by omega)]
      unfold zCk
      rw [e (1 + j) (by omega) (by omega), e (5 + j) (by omega) (by omega), e (9 + j) (by omega) (by omega), e2 (44 + j) (by omega) (by omega), e2 (48 + j) (by omega) (by omega), e2 (52 + j) (by omega) (by omega), e2 (56 + j) (by omega) (by omega)]
      exact h.2.1 j hj
  · rw [pk_un (by omega), pk_un (j := 60 + d) (by omega)]
    by_cases q : d = w
    · subst q
      rw [pk_us, pk_us, (h.2.2 d hd).1]
      obtain ⟨z, hz, e⟩ := (h.2.2 d hd).2
      refine ⟨rfl, ?_⟩
      rw [← (h.2.2 d hd).1, e]
      exact set_or hz f
    · rw [pk_un (by omega), pk_un (by omega)]; exact h.2.2 d hd
-- drawn
def zWR (M : Nat → Nat → Int32) (n : Nat) (c t : Nat → Int32) : Prop := zRc n c t ∧ ∀ b, b < 44 → b ≠ 5 → t b = M 90 b
theorem zWR_st {C M : Nat → Nat → Int32} {n T : Nat} {A B : Nat → Nat} (h : RT C 15 (M 90) n T A B) {x : Nat} {c t : Nat → Int32} (hw : zWR M n c t) : (zwst C n T A B (x, c)).1 = (mwst M n T A B (x, t)).1 ∧ zWR M n (zwst C n T A B (x, c)).2 (mwst M n T A B (x, t)).2 := by
  refine ⟨rfl, ?_⟩
  have hn := h.1.1
  have h4 : x * 16807 % 2147483647 % 4 < 4 := Nat.mod_lt _ (by decide)
  unfold zwst mwst
  dsimp only
  generalize x * 16807 % 2147483647 % 4 = i at h4 ⊢
  generalize x * 16807 % 2147483647 % n = d
  have hday : ∀ b, b < 44 → b ≠ 5 → ∀ t : Nat → Int32, mwday t b = t b := fun b h1 h2 t => by unfold mwday; rw [if_neg (by omega), if_neg h2]
  by_cases hc : c (1 + i) = 0
  · have ht : ¬ t (44 + i) = 1 := by rw [(zRc_th hw.1 h4 hn).mpr hc]; decide
    rw [if_pos hc, if_neg ht]
    exact ⟨zRc_day hw.1, fun b h1 h2 => by rw [hday b h1 h2]; exact hw.2 b h1 h2⟩
  · obtain ⟨w, hw1, e1, e2, e3, e4, e5, -⟩ := zRc_is hw.1 h4 hc
    rw [if_neg hc, if_pos e2]
    have hcw : (c (1 + i) - 1).toNatClampNeg = w := by rw [e1, nI_pred, nI_clamp (by omega)]
    have hb : nI (bs (zgo (zTe C (C 16) n T A B (fun _ => false) (nI w)) (fun e => e == d) (zst (C 15 0) (C 15 1) (c (5 + i)) (c (9 + i)))).2) = mwb M n T A B t i d := by
      unfold mwb
      rw [e3, e4, e5, (RT_law h).1, (RT_law h).2.1, zgo_congr (RT_TA h (fun _ => false) (nI w))]
    have et : (t (48 + i)).toNatClampNeg = w := by rw [e3, nI_clamp (by omega)]
    refine ⟨zRc_day ?_, fun b h1 h2 => ?_⟩
    · unfold zwtap mwtap
      rw [hcw, et, hb]
      exact zRc_tap hn hw.1 h4 hw1 e1 _
    · rw [hday b h1 h2]
      unfold mwtap
      rw [et, pk_un (by omega), pk_un (by omega)]
      exact hw.2 b h1 h2
theorem zWR_k {C M : Nat → Nat → Int32} {n T : Nat} {A B : Nat → Nat} (h : RT C 15 (M 90) n T A B) (x : Nat) : ∀ k, (zwk C n T A B (x, C 22) k).1 = (mwk M n T A B (x, M 90) k).1 ∧ zWR M n (zwk C n T A B (x, C 22) k).2 (mwk M n T A B (x, M 90) k).2
  | 0 => ⟨rfl, h.2.2, fun _ _ _ => rfl⟩
  | k + 1 => by
    obtain ⟨k1, k2⟩ := zWR_k h x k
    rw [zwk, mwk]
    generalize zwk C n T A B (x, C 22) k = s at k1 k2 ⊢
    generalize mwk M n T A B (x, M 90) k = u at k1 k2 ⊢
    obtain ⟨x1, c⟩ := s
    obtain ⟨x2, t⟩ := u
    have k1 : x1 = x2 := k1
    subst k1
    exact zWR_st h k2
theorem v_drw {C M : Nat → Nat → Int32} {n T : Nat} {A B : Nat → Nat} (h : RT C 15 (M 90) n T A B) (h7 : M 85 7 = zbb (decide (0 < n))) (m x w : Int32) : (pDrw C n T A B m x w).1 = mDrw M n T A B m x w ∧ (pDrw C n T A B m x w).2 = C := by
  unfold pDrw mDrw
  by_cases h0 : 0 < n
  · have h85 : ¬ M 85 7 = 0 := by rw [h7, decide_eq_true h0]; decide
    rw [if_pos h0, if_neg h85]
    by_cases g : zlt m 61 = true ∧ (¬ x < 1 ∧ ¬ 999999 < x) ∧ zlt w 2 = true
    · have g2 : zlt m 61 = true ∧ (¬ x < 1 ∧ x ≤ 999999) ∧ zlt w 2 = true := ⟨g.1, ⟨g.2.1.1, Int32.not_lt.mp g.2.1.2⟩, g.2.2⟩
      rw [if_pos g, if_pos g2]
      refine ⟨?_, rfl⟩
      obtain ⟨-, hr, -⟩ := zWR_k h x.toNatClampNeg m.toNatClampNeg
      unfold zwkc
      generalize (zwk C n T A B (x.toNatClampNeg, C 22) m.toNatClampNeg).2 = c at hr ⊢
      generalize (mwk M n T A B (x.toNatClampNeg, M 90) m.toNatClampNeg).2 = t at hr ⊢
      have hm : ∀ i, i < 4 → (if c (1 + i) = 0 then (0 : Int32) else c (5 + i)) = t (52 + i) := by
        intro i hi
        rcases hr.2.1 i hi with z | ⟨u, hu, e1, e2, e3, e4, -⟩
        · rw [if_pos z.1, z.2.2.2.1]
        · rw [if_neg (by rw [e1]; exact nI_ne0 (by omega) (by have := h.1.1; omega)), e4]
      by_cases hw : w = 0
      · rw [if_pos hw, if_pos hw]
        unfold znotes
        rw [zrow_at, zrow_at, zrow_at, zrow_at, zrow_at, zrow_at, show c 13 = t 60 from (hr.2.2 0 (by omega)).1, show c 14 = t 61 from (hr.2.2 1 (by omega)).1, show c 15 = t 62 from (hr.2.2 2 (by omega)).1, show c 16 = t 63 from (hr.2.2 3 (by omega)).1, show c 17 = t 64 from (hr.2.2 4 (by omega)).1, show c 18 = t 65 from (hr.2.2 5 (by omega)).1]
      · rw [if_neg hw, if_neg hw]
        unfold zmalts
        rw [zrow_at, zrow_at, zrow_at, zrow_at, zrow_at, zrow_at, zrow_at, zrow_at, show (if c 1 = 0 then (0 : Int32) else c 5) = t 52 from hm 0 (by omega), show (if c 2 = 0 then (0 : Int32) else c 6) = t 53 from hm 1 (by omega), show (if c 3 = 0 then (0 : Int32) else c 7) = t 54 from hm 2 (by omega), show (if c 4 = 0 then (0 : Int32) else c 8) = t 55 from hm 3 (by omega), Int32.zero_add]
    · rw [if_neg g, if_neg (fun z => g ⟨z.1, ⟨z.2.1.1, Int32.not_lt.mpr z.2.1.2⟩, z.2.2⟩)]; exact ⟨rfl, rfl⟩
  · have h85 : M 85 7 = 0 := by rw [h7, decide_eq_false h0]; rfl
    rw [if_neg h0, if_pos h85]; exact ⟨rfl, rfl⟩
