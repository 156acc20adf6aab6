-- ===== rows, tape, trace: what changes =====
theorem Rel2_rows {C M C' M' : Nat → Nat → Int32} {n T : Nat} {A B : Nat → Nat} {nx kp L : Nat} (h : Rel2 C M n T A B nx kp L) (hR : RW C' M') (hC : ∀ a, a < 3 ∨ 12 < a → C' a = C a) (hM : ∀ a, a < 86 ∨ 88 < a → M' a = M a) : Rel2 C' M' n T A B nx kp L := by
  obtain ⟨r1, r2, r3, r4, r5, r6, r7, r8⟩ := h
  refine ⟨hR, ?_, ?_, ?_, ⟨?_, ?_⟩, ?_, fun k hk => ?_, ?_⟩
  · rw [hC 0 (by omega), hM 85 (by omega)]; exact r2
  · exact TP_congr r3 (by rw [hC 13 (by omega)]) (hC 14 (by omega)) (by rw [hM 85 (by omega)]) (hM 89 (by omega))
  · rw [hC 13 (by omega), hM 85 (by omega)]; exact r4
  · exact RT_congr r5.1 (fun a h1 h2 => hC a (by omega)) (hM 90 (by omega))
  · rw [hM 85 (by omega)]; exact r5.2
  · exact AC_congr r6 (by rw [hC 48 (by omega)]) (by rw [hC 48 (by omega)]) (fun a h1 h2 => hC a (by omega)) (by rw [hM 85 (by omega)]) (hM 91 (by omega)) (fun b _ _ => by rw [hM 90 (by omega)])
  · exact ⟨IM_congr hk (r7 k hk).1 (fun a h1 h2 => hC a (by omega)) (hM 92 (by omega)) (hM 93 (by omega)), by rw [hM 93 (by omega)]; exact (r7 k hk).2⟩
  · exact TR_congr r8 (by rw [hC 83 (by omega)]) (hC 84 (by omega)) (by rw [hM 85 (by omega)]) (hM 94 (by omega))
theorem zfill_no {I : Nat → Nat → Int32} {k n a b : Nat} {v : Int32} (h : a ≠ k) : zfill I k n v a b = I a b := by unfold zfill; rw [if_neg (fun q => h q.1)]
theorem zfill_in {I : Nat → Nat → Int32} {k n b : Nat} {v : Int32} (h : b < n) : zfill I k n v k b = v := by unfold zfill; rw [if_pos ⟨rfl, h⟩]
theorem r_row {C M : Nat → Nat → Int32} {n T : Nat} {A B : Nat → Nat} {nx kp L : Nat} (h : Rel2 C M n T A B nx kp L) (x y m : Int32) : (pRow C x y m).1 = (mRow M x y m).1 ∧ Rel2 (pRow C x y m).2 (mRow M x y m).2 n T A B nx kp L := by
  unfold pRow mRow
  by_cases g : zlt x 8 = true ∧ zlt y 3 = true ∧ m ≤ 40
  · rw [if_pos g, if_pos g]
    by_cases h0 : m < 0
    · rw [if_pos h0, if_pos h0]; exact ⟨rfl, Rel2_status h⟩
    · rw [if_neg h0, if_neg h0]
      refine ⟨rfl, ?_⟩
      obtain ⟨i, hi, rfl⟩ := zlt_nI (by decide) g.1
      obtain ⟨q, hq, rfl⟩ := nI_of2 (x := m) (M := 40) (n := 40) (by decide) h0 g.2.2
      rw [nI_clamp (n := i) (by omega)]
      refine Rel2_status (Rel2_rows h ?_ (fun a ha => ?_) (fun a ha => ?_))
      · intro r hr
        obtain ⟨e1, e2, e3, e4⟩ := h.1 r hr
        by_cases z : r = i
        · subst z
          refine ⟨?_, ?_, Or.inr ⟨q, hq, ?_⟩, fun j hj => ?_⟩
          · rw [zfill_no (by omega), zup_no (by omega), zup_on, zrow_ne _ _ _ (by omega), zup_no (by omega), zup_on]
          · rw [zfill_no (by omega), zup_on, zrow_ne _ _ _ (by omega), zup_on]
          · rw [zfill_no (by omega), zup_on]
          · rw [zfill_in hj, zrow_at]; unfold zclr; rw [if_pos (by omega)]
        · refine ⟨?_, ?_, ?_, fun j hj => ?_⟩
          · rw [zfill_no (by omega), zup_no (by omega), zup_no (by omega), zrow_ne _ _ _ (by omega), zup_no (by omega), zup_no (by omega)]; exact e1
          · rw [zfill_no (by omega), zup_no (by omega), zup_no (by omega), zrow_ne _ _ _ (by omega), zup_no (by omega), zup_no (by omega)]; exact e2
          · rw [zfill_no (by omega), zup_no (by omega), zup_no (by omega)]; exact e3
          · rw [zfill_no (by omega), zup_no (by omega), zup_no (by omega), zrow_at]; unfold zclr; rw [if_neg (by omega)]; exact e4 j hj
      · funext b; rw [zfill_no (by omega), zup_no (by omega), zup_no (by omega)]
      · funext b; rw [zrow_ne _ _ _ (by omega), zup_no (by omega), zup_no (by omega)]
  · rw [if_neg g, if_neg g]; exact ⟨rfl, h⟩
theorem RW_neg {C M : Nat → Nat → Int32} (h : RW C M) {r : Nat} (hr : r < 8) : C 12 r = -1 ↔ M 87 r < 0 := by
  obtain ⟨-, e, hz, -⟩ := h r hr
  rw [← e]
  rcases hz with z | ⟨q, hq, z⟩
  · rw [z]; decide
  · rw [z]; exact ⟨fun y => absurd y (nI_m1 hq), fun y => absurd y (nI_pos (by omega))⟩
theorem RW_m {C M : Nat → Nat → Int32} (h : RW C M) : ∀ r, r < 8 → M 87 r = -1 ∨ ∃ q, q ≤ 40 ∧ M 87 r = nI q := by
  intro r hr
  obtain ⟨-, e, hz, -⟩ := h r hr
  rw [← e]; exact hz
theorem r_drop {C M : Nat → Nat → Int32} {n T : Nat} {A B : Nat → Nat} {nx kp L : Nat} (h : Rel2 C M n T A B nx kp L) (x : Int32) : (pDrop C x).1 = (mDrop M x).1 ∧ Rel2 (pDrop C x).2 (mDrop M x).2 n T A B nx kp L := by
  unfold pDrop mDrop
  by_cases g : zlt x 8 = true
  · rw [if_pos g, if_pos g]
    obtain ⟨i, hi, rfl⟩ := zlt_nI (by decide) g
    rw [nI_clamp (n := i) (by omega)]
    by_cases c : C 12 i = -1
    · rw [if_pos c, if_pos ((RW_neg h.1 hi).mp c)]; exact ⟨rfl, Rel2_status h⟩
    · rw [if_neg c, if_neg (fun z => c ((RW_neg h.1 hi).mpr z))]
      refine ⟨(h.1 i hi).2.1, Rel2_status (Rel2_rows h ?_ (fun a ha => zup_other _ _ _ (by omega)) (fun a ha => zup_other _ _ _ (by omega)))⟩
      intro r hr
      obtain ⟨e1, e2, e3, e4⟩ := h.1 r hr
      refine ⟨by rw [zup_no (by omega), zup_no (by omega)]; exact e1, ?_, ?_, fun j hj => by rw [zup_no (by omega), zup_no (by omega)]; exact e4 j hj⟩
      · by_cases z : r = i
        · subst z; rw [zup_on, zup_on]
        · rw [zup_no (by omega), zup_no (by omega)]; exact e2
      · by_cases z : r = i
        · subst z; rw [zup_on]; exact Or.inl rfl
        · rw [zup_no (by omega)]; exact e3
  · rw [if_neg g, if_neg g]; exact ⟨rfl, h⟩
theorem zhold_1 {a : Int32} {q : Nat} : zhold a 1 q = zlt a q := by
  unfold zhold zlt
  refine decide_eq_decide.mpr ?_
  rw [show (1 : Int32).toInt = 1 from by decide]
  omega
theorem r_set {C M : Nat → Nat → Int32} {n T : Nat} {A B : Nat → Nat} {nx kp L : Nat} (h : Rel2 C M n T A B nx kp L) (x a v : Int32) : (pSet C x a v).1 = (mSet M x a v).1 ∧ Rel2 (pSet C x a v).2 (mSet M x a v).2 n T A B nx kp L := by
  unfold pSet mSet
  by_cases g : zlt x 8 = true
  · rw [if_pos g, if_pos g]
    obtain ⟨i, hi, rfl⟩ := zlt_nI (by decide) g
    rw [nI_clamp (n := i) (by omega)]
    by_cases c : C 12 i = -1
    · rw [if_pos c, if_pos ((RW_neg h.1 hi).mp c)]; exact ⟨rfl, Rel2_status h⟩
    · rw [if_neg c, if_neg (fun z => c ((RW_neg h.1 hi).mpr z)), zhold_1, ← (h.1 i hi).2.1, ← (h.1 i hi).1]
      obtain ⟨q, hq, eq⟩ := (h.1 i hi).2.2.1.resolve_left c
      rw [eq, nI_clamp (by omega)]
      by_cases z : zlt a q = true
      · rw [if_pos z, if_pos z]
        obtain ⟨b, hb, rfl⟩ := zlt_nI (by omega) z
        rw [nI_clamp (by omega)]
        refine ⟨rfl, Rel2_status (Rel2_rows h ?_ (fun a ha => zup_other _ _ _ (by omega)) (fun a ha => zup_other _ _ _ (by omega)))⟩
        intro r hr
        obtain ⟨e1, e2, e3, e4⟩ := h.1 r hr
        refine ⟨by rw [zup_no (by omega), zup_no (by omega)]; exact e1, by rw [zup_no (by omega), zup_no (by omega)]; exact e2, by rw [zup_no (by omega)]; exact e3, fun j hj => ?_⟩
        by_cases y : r = i ∧ j = b
        · rw [y.1, y.2, zup_on, zup_on]
        · rw [zup_no (by omega), zup_no (by omega)]; exact e4 j hj
      · rw [if_neg z, if_neg z]; exact ⟨rfl, Rel2_status h⟩
  · rw [if_neg g, if_neg g]; exact ⟨rfl, h⟩
theorem r_copy {C M : Nat → Nat → Int32} {n T : Nat} {A B : Nat → Nat} {nx kp L : Nat} (h : Rel2 C M n T A B nx kp L) (x a y b m : Int32) : (pCopy C x a y b m).1 = (mCopy M x a y b m).1 ∧ Rel2 (pCopy C x a y b m).2 (mCopy M x a y b m).2 n T A B nx kp L := by
  unfold pCopy mCopy
  by_cases g : zlt x 8 = true ∧ zlt y 8 = true
  · rw [if_pos g, if_pos g]
    obtain ⟨i, hi, rfl⟩ := zlt_nI (by decide) g.1
    obtain ⟨j, hj, rfl⟩ := zlt_nI (by decide) g.2
    rw [nI_clamp (n := i) (by omega), nI_clamp (n := j) (by omega)]
    by_cases c : C 12 i = -1 ∨ C 12 j = -1
    · rw [if_pos c, if_pos (c.imp (RW_neg h.1 hi).mp (RW_neg h.1 hj).mp)]; exact ⟨rfl, Rel2_status h⟩
    · have cm : ¬ (M 87 i < 0 ∨ M 87 j < 0) := fun z => c (z.imp (RW_neg h.1 hi).mpr (RW_neg h.1 hj).mpr)
      rw [if_neg c, if_neg cm, ← (h.1 i hi).1, ← (h.1 j hj).1, ← (h.1 i hi).2.1, ← (h.1 j hj).2.1]
      by_cases c2 : ¬ C 11 i = C 11 j
      · rw [if_pos c2, if_pos c2]; exact ⟨rfl, Rel2_status h⟩
      · rw [if_neg c2, if_neg c2]
        obtain ⟨q, hq, eq⟩ := (h.1 i hi).2.2.1.resolve_left (fun z => c (Or.inl z))
        obtain ⟨q2, hq2, eq2⟩ := (h.1 j hj).2.2.1.resolve_left (fun z => c (Or.inr z))
        rw [eq, eq2, nI_clamp (n := q) (by omega), nI_clamp (n := q2) (by omega)]
        by_cases z : zhold a m q = true ∧ zhold b m q2 = true
        · rw [if_pos z, if_pos z]
          obtain ⟨aa, nn, rfl, rfl, han⟩ := zhold_nI hq z.1
          obtain ⟨bb, nn2, rfl, hn2, hbn⟩ := zhold_nI hq2 z.2
          have hnn : nn = nn2 := (nI_eq (by omega) (by omega)).mp hn2
          subst hnn
          rw [nI_clamp (n := aa) (by omega), nI_clamp (n := bb) (by omega), nI_clamp (n := nn) (by omega)]
          refine ⟨rfl, Rel2_status (Rel2_rows h ?_ (fun a ha => ?_) (fun a ha => ?_))⟩
          · intro r hr
            obtain ⟨e1, e2, e3, e4⟩ := h.1 r hr
            refine ⟨by rw [zcpy_no (by omega), zrow_ne _ _ _ (by omega)]; exact e1, by rw [zcpy_no (by omega), zrow_ne _ _ _ (by omega)]; exact e2, by rw [zcpy_no (by omega)]; exact e3, fun k hk => ?_⟩
            rw [zrow_at]
            unfold zmv
            by_cases w : r = j
            · subst w
              unfold zcpy va_cpy
              rw [if_pos rfl]
              by_cases u : bb ≤ k ∧ k < bb + nn
              · rw [if_pos u, if_pos (by omega), show 40 * i + aa + (40 * r + k - (40 * r + bb)) = 40 * i + (aa + (k - bb)) by omega]
                exact (h.1 i hi).2.2.2 _ (by omega)
              · rw [if_neg u, if_neg (by omega)]; exact e4 k hk
            · rw [zcpy_no (by omega), if_neg (by omega)]; exact e4 k hk
          · funext k; rw [zcpy_no (by omega)]
          · funext k; rw [zrow_ne _ _ _ (by omega)]
        · rw [if_neg z, if_neg z]; exact ⟨rfl, Rel2_status h⟩
  · rw [if_neg g, if_neg g]; exact ⟨rfl, h⟩
theorem r_as {C M : Nat → Nat → Int32} {n T : Nat} {A B : Nat → Nat} {nx kp L : Nat} (h : Rel2 C M n T A B nx kp L) (x k : Int32) : (pAs C n x k).1 = (mAs M n x k).1 ∧ Rel2 (pAs C n x k).2 (mAs M n x k).2 n T A B nx kp L := by
  unfold pAs mAs
  by_cases g : zlt x n = true ∧ zlt k 6 = true
  · rw [if_pos g, if_pos g]
    have hn := h.2.2.2.2.1.1.1.1
    obtain ⟨i, hi, rfl⟩ := zlt_nI (by omega) g.1
    rw [nI_clamp (n := i) (by omega), show C 16 i = M 90 (6 + i) from (h.2.2.2.2.1.1.2.1.2.2.2.1 i hi).1]
    by_cases c : zkof (M 90 (6 + i)) k = true
    · rw [if_pos c, if_pos c]; exact ⟨rfl, Rel2_status h⟩
    · rw [if_neg c, if_neg c]; exact ⟨rfl, Rel2_status h⟩
  · rw [if_neg g, if_neg g]; exact ⟨rfl, h⟩
theorem zall_fits (E : Nat → Bool) : ∀ m, zall E m = zfits E m
  | 0 => rfl
  | m + 1 => by rw [zall, zfits, zall_fits E m]
theorem zfits_congr {E F : Nat → Bool} : ∀ m, (∀ k, k < m → E k = F k) → zfits E m = zfits F m
  | 0, _ => rfl
  | m + 1, h => by rw [zfits, zfits, zfits_congr m (fun k hk => h k (by omega)), h m (by omega)]
theorem zset_congr {E F : Nat → Bool} : ∀ m, (∀ k, k < m → E k = F k) → zset E m = zset F m
  | 0, _ => rfl
  | m + 1, h => by rw [zset, zset, zset_congr m (fun k hk => h k (by omega)), h m (by omega)]
/-- the refusals of malts and who -/
theorem r_tw {C M : Nat → Nat → Int32} {n T : Nat} {A B : Nat → Nat} {nx kp L : Nat} (h : Rel2 C M n T A B nx kp L) (x y v z : Int32) : (if zlt x 4 = true ∧ zlt y 8 = true ∧ ¬ z < 1 ∧ z ≤ 6 then pRef C n x.toNatClampNeg y.toNatClampNeg v z else (-1000001, C)).1 = (mTw M n x y v z).1 ∧ Rel2 (if zlt x 4 = true ∧ zlt y 8 = true ∧ ¬ z < 1 ∧ z ≤ 6 then pRef C n x.toNatClampNeg y.toNatClampNeg v z else (-1000001, C)).2 (mTw M n x y v z).2 n T A B nx kp L := by
  unfold mTw
  by_cases g : zlt x 4 = true ∧ zlt y 8 = true ∧ ¬ z < 1 ∧ z ≤ 6
  · rw [if_pos g, if_pos g]
    have hn := h.2.2.2.2.1.1.1.1
    have hr := h.2.2.2.2.1.1
    obtain ⟨i, hi, rfl⟩ := zlt_nI (by decide) g.1
    obtain ⟨r, hrr, rfl⟩ := zlt_nI (by decide) g.2.1
    obtain ⟨m, hm, rfl⟩ := nI_of2 (x := z) (M := 6) (n := 6) (by decide) (fun q => g.2.2.1 (Int32.lt_trans q (by decide))) g.2.2.2
    rw [nI_clamp (n := i) (by omega), nI_clamp (n := r) (by omega), nI_clamp (n := m) (by omega)]
    unfold pRef
    rw [nI_clamp (n := m) (by omega)]
    by_cases c : C 22 (1 + i) = 0
    · rw [if_pos c, if_pos ((zRc_th hr.2.2 hi hn).mpr c)]; exact ⟨rfl, h⟩
    · rw [if_neg c, if_neg (fun z => c ((zRc_th hr.2.2 hi hn).mp z))]
      by_cases c2 : C 12 r = -1
      · rw [if_pos c2, if_pos ((RW_neg h.1 hrr).mp c2)]; exact ⟨rfl, Rel2_status h⟩
      · rw [if_neg c2, if_neg (fun z => c2 ((RW_neg h.1 hrr).mpr z)), ← (h.1 r hrr).2.1]
        obtain ⟨q, hq, eq⟩ := (h.1 r hrr).2.2.1.resolve_left c2
        rw [eq, nI_clamp (n := q) (by omega)]
        by_cases c3 : zhold v (2 * nI m) q = true
        · rw [if_pos c3, if_pos c3]
          obtain ⟨aa, nn, rfl, hn2, han⟩ := zhold_nI hq c3
          rw [dbl] at hn2
          have hnn : 2 * m = nn := (nI_eq (by omega) (by omega)).mp hn2
          rw [nI_clamp (n := aa) (by omega), zall_fits, zfits_congr (E := fun k => zlt (M 88 (40 * r + aa + 2 * k)) n) (F := fun k => zlt (C (3 + r) (aa + 2 * k)) n) m (fun k hk => by
            rw [(h.1 r hrr).2.2.2 (aa + 2 * k) (by omega), Nat.add_assoc])]
          by_cases c4 : zfits (fun k => zlt (C (3 + r) (aa + 2 * k)) n) m = true
          · rw [if_pos c4, if_pos c4]; exact ⟨rfl, h⟩
          · rw [if_neg c4, if_neg c4]; exact ⟨rfl, h⟩
        · rw [if_neg c3, if_neg c3]; exact ⟨rfl, Rel2_status h⟩
  · rw [if_neg g, if_neg g]; exact ⟨rfl, h⟩
theorem zcm_fit {C M : Nat → Nat → Int32} {n T : Nat} {A B : Nat → Nat} (h : RT C 15 (M 90) n T A B) (hW : RW C M) {i r aa m : Nat} (hi : i < 4) (hr : r < 8) (ham : aa + 2 * m ≤ 40) (c : ¬ C 22 (1 + i) = 0) {k1 k2 : Nat → Int32} (hk : ∀ d, d < n → k1 d = k2 d) {mt mt2 : Int32} (hmt : mt = mt2) : zall (zcm M k2 n T A B i (40 * r + aa) mt2) m = zfits (fun k => decide (nI (bs (zgo (zTe C k1 n T A B (fun _ => false) (C 22 (1 + i) - 1)) (fun e => e == (C (3 + r) (aa + 2 * k)).toNatClampNeg) (zst (C 15 0) (C 15 1) mt (C 22 (9 + i)))).2) = C (3 + r) (aa + 2 * k + 1))) m := by
  subst hmt
  rw [zall_fits]
  refine zfits_congr m (fun k hk2 => ?_)
  obtain ⟨w, hw, e1, e2, e3, e4, e5, -⟩ := zRc_is h.2.2 hi c
  unfold zcm
  rw [(RT_sc h hi c).2, e5, (RT_law h).1, (RT_law h).2.1, zgo_congr (RT_TAk h hk _), (hW r hr).2.2.2 (aa + 2 * k) (by omega), (hW r hr).2.2.2 (aa + 2 * k + 1) (by omega), show 40 * r + aa + 2 * k = 40 * r + (aa + 2 * k) by omega, show 40 * r + (aa + 2 * k) + 1 = 40 * r + (aa + 2 * k + 1) by omega]
theorem r_mal {C M : Nat → Nat → Int32} {n T : Nat} {A B : Nat → Nat} {nx kp L : Nat} (h : Rel2 C M n T A B nx kp L) (x y v z : Int32) : (pMal C n T A B x y v z).1 = (mMal M n T A B x y v z).1 ∧ Rel2 (pMal C n T A B x y v z).2 (mMal M n T A B x y v z).2 n T A B nx kp L := by
  obtain ⟨t1, t2⟩ := r_tw h x y v z
  unfold pMal mMal
  by_cases g : zlt x 4 = true ∧ zlt y 8 = true ∧ ¬ z < 1 ∧ z ≤ 6
  · rw [if_pos g] at t1 t2 ⊢
    by_cases c : (mTw M n x y v z).1 = 0
    · rw [if_pos c, if_pos (t1.trans c)]
      refine ⟨?_, Rel2_status h⟩
      obtain ⟨-, i, r, aa, m, rfl, rfl, rfl, rfl, hi, hr, hm, ham, c44, hall⟩ := mTw_ok (RW_m h.1) c
      have hRT := h.2.2.2.2.1.1
      have c22 : ¬ C 22 (1 + i) = 0 := fun q => c44 ((zRc_th hRT.2.2 hi hRT.1.1).mpr q)
      rw [nI_clamp (n := i) (by omega), nI_clamp (n := r) (by omega), nI_clamp (n := aa) (by omega), nI_clamp (n := m) (by omega)]
      dsimp only
      refine zset_congr 21 (fun q hq => ?_)
      exact (zcm_fit hRT h.1 hi hr ham c22 (k1 := C 16) (fun d hd => (hRT.2.1.2.2.2.1 d hd).1) rfl).symm
    · rw [if_neg c, if_neg (fun q => c (t1.symm.trans q))]; exact ⟨t1, t2⟩
  · rw [if_neg g] at t1 t2 ⊢
    have c : ¬ (mTw M n x y v z).1 = 0 := fun q => absurd (show (-1000001 : Int32) = 0 from t1.trans q) (by decide)
    rw [if_neg c]; exact ⟨t1, t2⟩
theorem r_who {C M : Nat → Nat → Int32} {n T : Nat} {A B : Nat → Nat} {nx kp L : Nat} (h : Rel2 C M n T A B nx kp L) (d x y v z : Int32) : (pWho C n T A B d x y v z).1 = (mWho M n T A B d x y v z).1 ∧ Rel2 (pWho C n T A B d x y v z).2 (mWho M n T A B d x y v z).2 n T A B nx kp L := by
  obtain ⟨t1, t2⟩ := r_tw h x y v z
  unfold pWho mWho
  by_cases gd : zlt d n = true
  · rw [if_pos gd]
    by_cases g : zlt x 4 = true ∧ zlt y 8 = true ∧ ¬ z < 1 ∧ z ≤ 6
    · rw [if_pos g] at t1 t2
      rw [if_pos ⟨gd, g⟩]
      by_cases c : (mTw M n x y v z).1 = 0
      · rw [if_pos c, if_pos (t1.trans c)]
        refine ⟨?_, Rel2_status h⟩
        obtain ⟨-, i, r, aa, m, rfl, rfl, rfl, rfl, hi, hr, hm, ham, c44, hall⟩ := mTw_ok (RW_m h.1) c
        have hRT := h.2.2.2.2.1.1
        have c22 : ¬ C 22 (1 + i) = 0 := fun q => c44 ((zRc_th hRT.2.2 hi hRT.1.1).mpr q)
        obtain ⟨w, hw, e1, e2, e3, e4, e5, -⟩ := zRc_is hRT.2.2 hi c22
        rw [nI_clamp (n := i) (by omega), nI_clamp (n := r) (by omega), nI_clamp (n := aa) (by omega), nI_clamp (n := m) (by omega)]
        dsimp only
        refine zset_congr 6 (fun q hq => ?_)
        refine congrArg (fun s => !(q == 0) && s) ?_
        refine (zcm_fit hRT h.1 hi hr ham c22 (k1 := fun e => if e = d.toNatClampNeg then nI q else C 16 e) (fun f hf => ?_) e4.symm).symm
        rw [show C 16 f = M 90 (6 + f) from (hRT.2.1.2.2.2.1 f hf).1]
      · rw [if_neg c, if_neg (fun q => c (t1.symm.trans q))]; exact ⟨t1, t2⟩
    · rw [if_neg g] at t1 t2
      rw [if_neg (fun q => g q.2)]
      have c : ¬ (mTw M n x y v z).1 = 0 := fun q => absurd (show (-1000001 : Int32) = 0 from t1.trans q) (by decide)
      rw [if_neg c]; exact ⟨t1, t2⟩
  · rw [if_neg gd, if_neg (fun q => gd q.1)]; exact ⟨rfl, h⟩
