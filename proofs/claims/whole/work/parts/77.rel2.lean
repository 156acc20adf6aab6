-- ===== answers that change nothing =====
theorem v_kind {C M : Nat → Nat → Int32} {n T : Nat} {A B : Nat → Nat} (h : RT C 15 (M 90) n T A B) (x : Int32) : (pKind C n x).1 = (if zlt x n = true then M 90 (6 + x.toNatClampNeg) else -1000001) ∧ (pKind C n x).2 = C := by
  unfold pKind
  by_cases g : zlt x n = true
  · rw [if_pos g, if_pos g]
    obtain ⟨d, hd, rfl⟩ := zlt_nI (by have := h.1.1; omega) g
    rw [nI_clamp (by have := h.1.1; omega)]
    exact ⟨(h.2.1.2.2.2.1 d hd).1, rfl⟩
  · rw [if_neg g, if_neg g]; exact ⟨rfl, rfl⟩
theorem v_rum {C M : Nat → Nat → Int32} {n T : Nat} {A B : Nat → Nat} (h : RT C 15 (M 90) n T A B) (x : Int32) : (pRum C n x).1 = (if zlt x n = true then M 90 (60 + x.toNatClampNeg) else -1000001) ∧ (pRum C n x).2 = C := by
  unfold pRum
  by_cases g : zlt x n = true
  · rw [if_pos g, if_pos g]
    obtain ⟨d, hd, rfl⟩ := zlt_nI (by have := h.1.1; omega) g
    have hn := h.1.1
    rw [nI_clamp (by omega)]
    exact ⟨(h.2.2.2.2 d (by omega)).1, rfl⟩
  · rw [if_neg g, if_neg g]; exact ⟨rfl, rfl⟩
theorem v_cask {C M : Nat → Nat → Int32} {n T : Nat} {A B : Nat → Nat} (h : RT C 15 (M 90) n T A B) (x w : Int32) : (pCask C x w).1 = mCask M x w ∧ (pCask C x w).2 = C := by
  unfold pCask mCask
  by_cases g : zlt x 4 = true ∧ zlt w 5 = true
  · rw [if_pos g, if_pos g]
    obtain ⟨i, hi, rfl⟩ := zlt_nI (by decide) g.1
    obtain ⟨j, hj, rfl⟩ := zlt_nI (by decide) g.2
    rw [nI_clamp (n := i) (by omega), nI_clamp (n := j) (by omega)]
    by_cases c : C 22 (1 + i) = 0
    · rw [if_pos c, if_pos ((zRc_th h.2.2 hi h.1.1).mpr c)]; exact ⟨rfl, rfl⟩
    · rw [if_neg c, if_neg (fun z => c ((zRc_th h.2.2 hi h.1.1).mp z))]
      refine ⟨?_, rfl⟩
      obtain ⟨u, hu, e1, e2, e3, e4, e5, -⟩ := zRc_is h.2.2 hi c
      have hs := (RT_sc h hi c).1
      have e1 : C 22 (1 + i) = nI (u + 1) := e1
      have hcs : j = 0 ∨ j = 1 ∨ j = 2 ∨ j = 3 ∨ j = 4 := by omega
      rcases hcs with rfl | rfl | rfl | rfl | rfl
      · show C 22 (1 + i) - 1 = M 90 (48 + 4 * 0 + i)
        rw [e1, nI_pred, show 48 + 4 * 0 + i = 48 + i by omega, e3]
      · show C 22 (5 + i) = M 90 (48 + 4 * 1 + i)
        rw [show 48 + 4 * 1 + i = 52 + i by omega, e4]
      · show C 22 (9 + i) = M 90 (48 + 4 * 2 + i)
        rw [show 48 + 4 * 2 + i = 56 + i by omega, e5]
      · exact hs.symm
      · show zb (¬ C 22 (9 + i) ≤ C 15 1) = zbb (decide (M 90 (44 + i) = 1 ∧ ¬ M 90 (56 + i) ≤ M 90 1))
        rw [e5, (RT_law h).2.1, zb_zbb]
        exact congrArg zbb (decide_eq_decide.mpr ⟨fun q => ⟨e2, q⟩, fun q => q.2⟩)
  · rw [if_neg g, if_neg g]; exact ⟨rfl, rfl⟩
theorem v_hear {C M : Nat → Nat → Int32} {d : Int32} : ∀ k, (∀ j, j < k → C 19 j = M 90 (24 + j) ∧ C 20 j = M 90 (34 + j)) → zhear15 C d k = zhrM M d k
  | 0, _ => rfl
  | k + 1, h => by
    rw [zhear15, zhrM, v_hear k (fun j hj => h j (by omega)), (h k (by omega)).1, (h k (by omega)).2]
    by_cases q : M 90 (24 + k) = d
    · rw [if_pos q, if_pos q]
    · rw [if_neg q, if_neg q, Int32.or_zero]
theorem v_drk {C M : Nat → Nat → Int32} {n T : Nat} {A B : Nat → Nat} (h : RT C 15 (M 90) n T A B) (x w : Int32) : (pDrk C n T x w).1 = mDrk M n T x w ∧ (pDrk C n T x w).2 = C := by
  unfold pDrk mDrk
  by_cases g : zlt x n = true ∧ zlt w 3 = true
  · rw [if_pos g, if_pos g]
    have hn := h.1.1
    have hh := v_hear (C := C) (M := M) (d := x) T (fun j hj => h.2.1.2.2.2.2 j hj)
    obtain ⟨i, hi, rfl⟩ := zlt_nI (by omega) g.1
    obtain ⟨j, hj, rfl⟩ := zlt_nI (by decide) g.2
    rw [nI_clamp (n := i) (by omega), nI_clamp (n := j) (by omega), hh]
    refine ⟨?_, rfl⟩
    have hcs : j = 0 ∨ j = 1 ∨ j = 2 := by omega
    rcases hcs with rfl | rfl | rfl
    · show C 17 i = M 90 (12 + 6 * 0 + i)
      rw [show 12 + 6 * 0 + i = 12 + i by omega]; exact (h.2.1.2.2.2.1 i hi).2.1
    · show C 18 i = M 90 (12 + 6 * 1 + i)
      rw [show 12 + 6 * 1 + i = 18 + i by omega]; exact (h.2.1.2.2.2.1 i hi).2.2
    · rfl
  · rw [if_neg g, if_neg g]; exact ⟨rfl, rfl⟩
theorem v_off {C M : Nat → Nat → Int32} {n T : Nat} {A B : Nat → Nat} (h : RT C 15 (M 90) n T A B) (x w : Int32) : (pGoes C x w).1 = mOff M x w ∧ (pGoes C x w).2 = C := by
  unfold pGoes mOff
  by_cases g : zlt x 4 = true ∧ zlt w 2 = true
  · rw [if_pos g, if_pos g]
    obtain ⟨i, hi, rfl⟩ := zlt_nI (by decide) g.1
    rw [nI_clamp (n := i) (by omega)]
    by_cases c : C 22 (1 + i) = 0
    · rw [if_pos c, if_pos ((zRc_th h.2.2 hi h.1.1).mpr c)]; exact ⟨rfl, rfl⟩
    · rw [if_neg c, if_neg (fun z => c ((zRc_th h.2.2 hi h.1.1).mp z))]
      refine ⟨?_, rfl⟩
      obtain ⟨u, hu, e1, e2, e3, e4, e5, -⟩ := zRc_is h.2.2 hi c
      rw [(RT_law h).1, (RT_law h).2.1, e5]
      dsimp only
      generalize (if w = 0 then M 90 1 + 1 else M 90 0) - C (15 + 7) (9 + i) = q
      by_cases z : 0 < q
      · rw [if_pos z, if_neg (Int32.not_le.mpr z)]
      · rw [if_neg z, if_pos (Int32.not_lt.mp z)]
  · rw [if_neg g, if_neg g]; exact ⟨rfl, rfl⟩
theorem v_rows {C M : Nat → Nat → Int32} (h : RW C M) : ∀ k, k ≤ 8 → zrows C k = zrwM M k
  | 0, _ => rfl
  | k + 1, hk => by
    rw [zrows, zrwM, v_rows h k (by omega)]
    obtain ⟨-, e, hz, -⟩ := h k (by omega)
    rw [← e]
    rcases hz with z | ⟨q, hq, z⟩
    · rw [z]; rfl
    · rw [z, if_neg (nI_m1 hq), if_neg (nI_pos (by omega))]
theorem v_count {C M : Nat → Nat → Int32} {n T : Nat} {A B : Nat → Nat} {nx kp L : Nat} (h : Rel2 C M n T A B nx kp L) (w : Int32) : (pCount C w).1 = mCount M w ∧ (pCount C w).2 = C := by
  obtain ⟨r1, r2, r3, r4, r5, r6, r7, r8⟩ := h
  refine ⟨?_, rfl⟩
  have hn := r5.1.1.1
  have hno := r5.1.2.2.2.2
  have ht := fun i (hi : i < 4) => zRc_th r5.1.2.2 hi hn
  have hth : ∀ i, i < 4 → (if C 22 (1 + i) = 0 then (0 : Int32) else 1) = M 90 (44 + i) := by
    intro i hi
    rcases r5.1.2.2.2.1 i hi with z | ⟨u, hu, e1, e2, -⟩
    · rw [z.2.1]; exact if_pos z.1
    · rw [e2]; exact if_neg (fun z => absurd ((ht i hi).mpr z) (by rw [e2]; decide))
  have e3 : C 15 3 = M 90 3 := by rw [r5.1.2.1.2.2.1.1, r5.1.1.2.1]
  have e7 : C 15 7 = M 90 4 := by rw [r5.1.2.1.2.2.1.2, r5.1.1.2.2.2.1]
  have em : zmany C 22 = 0 + M 90 44 + M 90 45 + M 90 46 + M 90 47 := by
    unfold zmany
    rw [show (if C 22 1 = 0 then (0 : Int32) else 1) = M 90 44 from hth 0 (by omega), show (if C 22 2 = 0 then (0 : Int32) else 1) = M 90 45 from hth 1 (by omega), show (if C 22 3 = 0 then (0 : Int32) else 1) = M 90 46 from hth 2 (by omega), show (if C 22 4 = 0 then (0 : Int32) else 1) = M 90 47 from hth 3 (by omega), Int32.zero_add]
  have en : znotes C 22 = 0 + zbc (M 90 60) + zbc (M 90 61) + zbc (M 90 62) + zbc (M 90 63) + zbc (M 90 64) + zbc (M 90 65) := by
    unfold znotes
    rw [show C 22 13 = M 90 60 from (hno 0 (by omega)).1, show C 22 14 = M 90 61 from (hno 1 (by omega)).1, show C 22 15 = M 90 62 from (hno 2 (by omega)).1, show C 22 16 = M 90 63 from (hno 3 (by omega)).1, show C 22 17 = M 90 64 from (hno 4 (by omega)).1, show C 22 18 = M 90 65 from (hno 5 (by omega)).1]
  show (if w = 0 then zrows C 8 else if w = 1 then C 15 3 else if w = 2 then C 15 7 else if w = 3 then zmany C 22 else if w = 4 then C 22 0 else if w = 5 then znotes C 22 else if w = 6 then C 48 2 else if w = 7 then C 13 1 else -1000001) = mCount M w
  unfold mCount
  rw [v_rows r1 8 (by omega), e3, e7, em, en, show C 22 0 = M 90 5 from r5.1.2.2.1, r6.2.2.2.1, r6.2.2.2.2.1, r3.2.1, r3.2.2.1]
-- telling
theorem zit_rng {t : zTn} : ∀ (f j : Nat) (cm : Nat → Option Int32) (fs : Nat → Int32) (bl : Nat → Bool), j + f ≤ 8 → (∀ d, fs d = -1 ∨ ∃ q, q < 8 ∧ fs d = nI q) → ∀ d, (zit t f j cm fs bl).1 d = -1 ∨ ∃ q, q < 8 ∧ (zit t f j cm fs bl).1 d = nI q
  | 0, _, _, _, _, _, h => h
  | f + 1, j, cm, fs, bl, hj, h => by
    rw [zit]
    by_cases q : bs (zsome cm) = 0
    · rw [if_pos q]; exact h
    · rw [if_neg q]
      refine zit_rng f (j + 1) _ _ _ (by omega) (fun d => ?_)
      unfold zfi
      by_cases z : d < t.1 ∧ (cm d).isSome = true ∧ fs d < 0
      · rw [if_pos z]; exact Or.inr ⟨j, by omega, rfl⟩
      · rw [if_neg z]; exact h d
theorem zgo_rng (t : zTn) (sm : Nat → Bool) (s : Int32) (d : Nat) : (zgo t sm s).1 d = -1 ∨ ∃ q, q < 8 ∧ (zgo t sm s).1 d = nI q := zit_rng 7 0 _ _ _ (by decide) (fun _ => Or.inl rfl) d
def zmxk (f : Nat → Int32) : Nat → Nat
  | 0 => 0
  | k + 1 => max (zmxk f k) (f k).toNatClampNeg
theorem zmxk_lt {f : Nat → Int32} (h : ∀ d, f d = -1 ∨ ∃ q, q < 8 ∧ f d = nI q) : ∀ k, zmxk f k < 8
  | 0 => by rw [zmxk]; decide
  | k + 1 => by
    have := zmxk_lt h k
    rw [zmxk]
    rcases h k with z | ⟨q, hq, z⟩
    · rw [z, show (-1 : Int32).toNatClampNeg = 0 from by decide]; omega
    · rw [z, nI_clamp (by omega)]; omega
theorem zlst_mx {f : Nat → Int32} (h : ∀ d, f d = -1 ∨ ∃ q, q < 8 ∧ f d = nI q) : ∀ k, zlst f k = nI (zmxk f k)
  | 0 => rfl
  | k + 1 => by
    have h8 := zmxk_lt h k
    rw [zlst, zmxk, zlst_mx h k]
    rcases h k with z | ⟨q, hq, z⟩
    · rw [z, show (-1 : Int32).toNatClampNeg = 0 from by decide, if_pos (by
        rw [Int32.le_iff_toInt_le, nI_toInt (by omega), show (-1 : Int32).toInt = -1 from by decide]; omega), Nat.max_zero]
    · rw [z, nI_clamp (by omega)]
      by_cases y : q ≤ zmxk f k
      · rw [if_pos (nI_le y (by omega)), Nat.max_eq_left y]
      · rw [if_neg (nI_ge (by omega) (by omega)), Nat.max_eq_right (by omega)]
theorem zmxk_6 (f : Nat → Int32) : zmxk f 6 = zmxs f := by
  unfold zmxs
  simp only [zmxk]
  omega
theorem v_tell {C M : Nat → Nat → Int32} {n T : Nat} {A B : Nat → Nat} (h : RT C 15 (M 90) n T A B) (x s w : Int32) : (pTell C n T A B x s w).1 = mTell M n T A B x s w ∧ (pTell C n T A B x s w).2 = C := by
  unfold pTell mTell
  by_cases g : zlt x 4 = true ∧ ¬ s = 0 ∧ zsub s n = true ∧ zlt w 4 = true
  · have g2 : zlt x 4 = true ∧ zsub s n = true ∧ ¬ s = 0 ∧ zlt w 4 = true := ⟨g.1, g.2.2.1, g.2.1, g.2.2.2⟩
    rw [if_pos g, if_pos g2]
    obtain ⟨i, hi, rfl⟩ := zlt_nI (by decide) g.1
    rw [nI_clamp (n := i) (by omega)]
    by_cases c : C 22 (1 + i) = 0
    · rw [if_pos c, if_pos ((zRc_th h.2.2 hi h.1.1).mpr c)]; exact ⟨rfl, rfl⟩
    · rw [if_neg c, if_neg (fun z => c ((zRc_th h.2.2 hi h.1.1).mp z)), RT_goK h hi c, zlst_mx (zgo_rng _ _ _), zmxk_6, ← (RT_law h).2.2]
      exact ⟨rfl, rfl⟩
  · rw [if_neg g, if_neg (fun z => g ⟨z.1, z.2.2.1, z.2.1, z.2.2.2⟩)]; exact ⟨rfl, rfl⟩
-- fewest, silence
theorem bv_split {x a b : BitVec 32} (h : a &&& b = 0#32) : x &&& (a ||| b) = a ↔ x &&& a = a ∧ x &&& b = 0#32 := by
  have key : ∀ i : Nat, i < 32 → ¬ (a.getLsbD i = true ∧ b.getLsbD i = true) := by
    intro i hi q
    have e := congrArg (fun v => BitVec.getLsbD v i) h
    simp only [BitVec.getLsbD_and, BitVec.getLsbD_zero, q.1, q.2] at e
    exact absurd e (by decide)
  constructor
  · intro e
    refine ⟨BitVec.eq_of_getLsbD_eq (fun i hi => ?_), BitVec.eq_of_getLsbD_eq (fun i hi => ?_)⟩
    · have e1 := congrArg (fun v => BitVec.getLsbD v i) e
      have k := key i hi
      simp only [BitVec.getLsbD_and, BitVec.getLsbD_or, BitVec.getLsbD_zero] at e1 ⊢
      revert e1 k
      generalize x.getLsbD i = p, a.getLsbD i = q, b.getLsbD i = r
      revert p q r
      decide
    · have e1 := congrArg (fun v => BitVec.getLsbD v i) e
      have k := key i hi
      simp only [BitVec.getLsbD_and, BitVec.getLsbD_or, BitVec.getLsbD_zero] at e1 ⊢
      revert e1 k
      generalize x.getLsbD i = p, a.getLsbD i = q, b.getLsbD i = r
      revert p q r
      decide
  · rintro ⟨e1, e2⟩
    refine BitVec.eq_of_getLsbD_eq (fun i hi => ?_)
    have f1 := congrArg (fun v => BitVec.getLsbD v i) e1
    have f2 := congrArg (fun v => BitVec.getLsbD v i) e2
    simp only [BitVec.getLsbD_and, BitVec.getLsbD_or, BitVec.getLsbD_zero] at f1 f2 ⊢
    revert f1 f2
    generalize x.getLsbD i = p, a.getLsbD i = q, b.getLsbD i = r
    revert p q r
    decide
theorem set_split {x a b : Int32} (h : a &&& b = 0) : x &&& (a ||| b) = a ↔ x &&& a = a ∧ x &&& b = 0 := by
  have hb : a.toBitVec &&& b.toBitVec = 0#32 := by
    have := congrArg Int32.toBitVec h
    simpa using this
  have key := bv_split (x := x.toBitVec) hb
  constructor
  · intro e
    have e1 : x.toBitVec &&& (a.toBitVec ||| b.toBitVec) = a.toBitVec := by simpa using congrArg Int32.toBitVec e
    obtain ⟨k1, k2⟩ := key.mp e1
    exact ⟨Int32.toBitVec_inj.mp (by simpa using k1), Int32.toBitVec_inj.mp (by simpa using k2)⟩
  · rintro ⟨e1, e2⟩
    refine Int32.toBitVec_inj.mp ?_
    have := key.mpr ⟨by simpa using congrArg Int32.toBitVec e1, by simpa using congrArg Int32.toBitVec e2⟩
    simpa using this
theorem zfew_congr {o1 o2 : Nat → Bool} : ∀ N, (∀ s, s < N → o1 s = o2 s) → zfew o1 N = zfew o2 N
  | 0, _ => rfl
  | N + 1, h => by rw [zfew, zfew, zfew_congr N (fun s hs => h s (by omega)), h N (by omega)]
theorem zfew_zero {ok : Nat → Bool} (h : ok 0 = true) : ∀ N, 1 ≤ N → N ≤ 1024 → zfew ok N = 0
  | 0, h1, _ => by omega
  | 1, _, _ => by rw [zfew, if_pos ⟨Or.inl rfl, h⟩]; rfl
  | N + 2, _, h2 => by
    rw [zfew, zfew_zero h (N + 1) (by omega) (by omega), if_neg]
    intro q
    rcases q.1 with z | z
    · exact absurd z (by decide)
    · rw [zpc_ok (N + 1) (by omega), show zbc 0 = 0 from by decide] at z
      exact nI_pos (by have := zpc_le 10 (by decide) (N + 1) (by omega); omega) z
theorem v_few {C M : Nat → Nat → Int32} {n T : Nat} {A B : Nat → Nat} (h : RT C 15 (M 90) n T A B) (x a b w : Int32) : (pFew C n T A B x a b w).1 = mFew M n T A B x a b w ∧ (pFew C n T A B x a b w).2 = C := by
  unfold pFew mFew
  by_cases g : zlt x 4 = true ∧ zsub a n = true ∧ zsub b n = true ∧ a &&& b = 0 ∧ zlt w 2 = true
  · rw [if_pos g, if_pos g]
    obtain ⟨i, hi, rfl⟩ := zlt_nI (by decide) g.1
    rw [nI_clamp (n := i) (by omega)]
    by_cases c : C 22 (1 + i) = 0
    · rw [if_pos c, if_pos ((zRc_th h.2.2 hi h.1.1).mpr c)]; exact ⟨rfl, rfl⟩
    · rw [if_neg c, if_neg (fun z => c ((zRc_th h.2.2 hi h.1.1).mp z))]
      refine ⟨?_, rfl⟩
      have ho : ∀ s, decide (nI (bs (zgo (ztE C n T A B (fun _ => false) i) (zbt s) (zsc C i)).2) &&& (a ||| b) = a) = zokF M n T A B i a b s := by
        intro s
        unfold zokF
        rw [RT_goK h hi c]
        exact decide_eq_decide.mpr (set_split g.2.2.2.1)
      show zcs (zfew _ (2 ^ n)) w = _
      rw [zfew_congr (2 ^ n) (fun s _ => ho s)]
      by_cases a0 : a = 0
      · rw [if_pos a0, zfew_zero (ok := zokF M n T A B i a b) ?_ (2 ^ n) (Nat.one_le_two_pow) (by have := pow6 n h.1.1; omega)]
        unfold zokF zgK
        rw [zgo_none, show nI (bs fun _ => false) = 0 from rfl, Int32.zero_and, Int32.zero_and, a0]
        decide
      · rw [if_neg a0]
  · rw [if_neg g, if_neg g]; exact ⟨rfl, rfl⟩
theorem v_sil {C M : Nat → Nat → Int32} {n T : Nat} {A B : Nat → Nat} (h : RT C 15 (M 90) n T A B) (x a b w : Int32) : (pSil C n T A B x a b w).1 = mSil M n T A B x a b w ∧ (pSil C n T A B x a b w).2 = C := by
  unfold pSil mSil
  by_cases g : zlt x 4 = true ∧ (zlt a n = true ∧ zlt b n = true ∧ ¬ a = b) ∧ zlt w 2 = true
  · have g2 : zlt x 4 = true ∧ zlt a n = true ∧ zlt b n = true ∧ ¬ a = b ∧ zlt w 2 = true := ⟨g.1, g.2.1.1, g.2.1.2.1, g.2.1.2.2, g.2.2⟩
    rw [if_pos g, if_pos g2]
    obtain ⟨i, hi, rfl⟩ := zlt_nI (by decide) g.1
    rw [nI_clamp (n := i) (by omega)]
    by_cases c : C 22 (1 + i) = 0
    · rw [if_pos c, if_pos ((zRc_th h.2.2 hi h.1.1).mpr c)]; exact ⟨rfl, rfl⟩
    · rw [if_neg c, if_neg (fun z => c ((zRc_th h.2.2 hi h.1.1).mp z))]
      refine ⟨?_, rfl⟩
      show zcs (zfew _ (2 ^ T)) w = _
      rw [zfew_congr (o2 := zokS M n T A B i a.toNatClampNeg b.toNatClampNeg) (2 ^ T) (fun s _ => by
        unfold zokS
        rw [RT_go h hi c])]
  · rw [if_neg g, if_neg (fun z => g ⟨z.1, ⟨z.2.1, z.2.2.1, z.2.2.2.1⟩, z.2.2.2.2⟩)]; exact ⟨rfl, rfl⟩
-- best
theorem zbest_congr {f g : Nat → Int32} : ∀ n, (∀ d, d < n → f d = g d) → zbest f n = zbest g n
  | 0, _ => rfl
  | n + 1, h => by rw [zbest, zbest, zbest_congr n (fun d hd => h d (by omega)), h n (by omega)]
theorem zbest_2 {f : Nat → Int32} (h : ∀ d, -1 < f d) : ∀ n, 1 ≤ n → n ≤ 6 → (zbest f n).2 = f (zbest f n).1.toNatClampNeg
  | 0, h1, _ => by omega
  | 1, _, _ => by
    rw [zbest, show zbest f 0 = (0, -1) from rfl, if_pos (h 0)]; rfl
  | n + 2, _, h2 => by
    rw [zbest]
    by_cases q : (zbest f (n + 1)).2 < f (n + 1)
    · rw [if_pos q]
      show f (n + 1) = f (nI (n + 1)).toNatClampNeg
      rw [nI_clamp (by omega)]
    · rw [if_neg q]; exact zbest_2 h (n + 1) (by omega) (by omega)
theorem zbc_pos (f : Nat → Bool) : -1 < zbc (nI (bs f)) := by
  have h := bs_lt f
  rw [zpc_ok _ (by omega)]
  have := zpc_le 6 (by decide) (bs f) (by omega)
  rw [Int32.lt_iff_toInt_lt, nI_toInt (by omega), show (-1 : Int32).toInt = -1 from by decide]
  omega
theorem v_best {C M : Nat → Nat → Int32} {n T : Nat} {A B : Nat → Nat} (h : RT C 15 (M 90) n T A B) (x w : Int32) : (pBest C n T A B x w).1 = mBest M n T A B x w ∧ (pBest C n T A B x w).2 = C := by
  unfold pBest mBest
  by_cases g : zlt x 4 = true ∧ zlt w 2 = true
  · rw [if_pos g, if_pos g]
    obtain ⟨i, hi, rfl⟩ := zlt_nI (by decide) g.1
    rw [nI_clamp (n := i) (by omega)]
    by_cases c : C 22 (1 + i) = 0
    · rw [if_pos c, if_pos ((zRc_th h.2.2 hi h.1.1).mpr c)]; exact ⟨rfl, rfl⟩
    · rw [if_neg c, if_neg (fun z => c ((zRc_th h.2.2 hi h.1.1).mp z))]
      refine ⟨?_, rfl⟩
      obtain ⟨u, hu, -⟩ := zRc_is h.2.2 hi c
      rw [zbest_congr (f := fun d => zbc (nI (bs (zgK M 90 n T A B i (fun e => e == d)).2))) (g := zmany1 C n T A B i) n (fun d _ => by
        unfold zmany1
        rw [RT_goK h hi c]), zbest_2 (f := zmany1 C n T A B i) (fun d => zbc_pos _) n (by omega) h.1.1]
  · rw [if_neg g, if_neg g]; exact ⟨rfl, rfl⟩
