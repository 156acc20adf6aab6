-- ===== the start: what the constructors leave =====
def IS : Nat → Nat → Int32 := zm8 (zm8 (fun _ _ => 0) 12) 87
theorem IS_0 {a b : Nat} (h1 : a ≠ 12) (h2 : a ≠ 87) : IS a b = 0 := by
  unfold IS zm8 zup
  simp only [h1, h2, false_and, if_false]
theorem IS_12 : ∀ b, b < 8 → IS 12 b = -1 := by decide +kernel
theorem IS_87 : ∀ b, b < 8 → IS 87 b = -1 := by decide +kernel
theorem Rc_start {n x y : Nat} (hx : x ≠ 12) (hx2 : x ≠ 87) (hy : y ≠ 12) (hy2 : y ≠ 87) (k : Nat) : zRc n (IS x) (fun b => IS y (k + b)) := by
  refine ⟨?_, fun i hi => Or.inl ⟨?_, ?_, ?_, ?_, ?_⟩, fun d hd => ⟨?_, 0, by omega, ?_⟩⟩ <;> simp only [IS_0 hx hx2, IS_0 hy hy2] <;> rfl
theorem Rel_start : Rel IS IS := by
  refine ⟨0, 0, fun _ => 0, fun _ => 0, 0, 0, 0, fun r hr => ⟨?_, ?_, Or.inl (IS_12 r hr), fun j hj => ?_⟩, rfl, ⟨by omega, rfl, rfl, fun i hi => absurd hi (Nat.not_lt_zero _)⟩, rfl, ⟨⟨⟨by omega, rfl, by omega, rfl, fun k hk => absurd hk (Nat.not_lt_zero _), fun k hk => absurd hk (Nat.not_lt_zero _), fun d hd => absurd hd (Nat.not_lt_zero _)⟩, ?_, ?_⟩, rfl⟩, ⟨by omega, by omega, rfl, rfl, rfl, fun j hj => absurd hj (Nat.not_lt_zero _)⟩, fun k hk => ⟨Or.inl ⟨?_, ?_⟩, fun h => ?_⟩, ⟨0, by omega, rfl, rfl, fun i hi => absurd hi (Nat.not_lt_zero _)⟩⟩
  · rw [IS_0 (by decide) (by decide), IS_0 (by decide) (by decide)]
  · rw [IS_12 r hr, IS_87 r hr]
  · rw [IS_0 (by omega) (by omega), IS_0 (by decide) (by decide)]
  · refine ⟨?_, ⟨?_, ?_, ?_⟩, ⟨?_, ?_⟩, fun d hd => absurd hd (Nat.not_lt_zero _), fun k hk => absurd hk (Nat.not_lt_zero _)⟩ <;> first | omega | rfl
  · have h := Rc_start (n := 0) (x := 22) (y := 90) (by decide) (by decide) (by decide) (by decide) 0
    rw [show (fun b => IS 90 (0 + b)) = IS 90 from funext fun b => by rw [Nat.zero_add]] at h
    exact h
  · rw [IS_0 (by decide) (by decide)]
  · rw [IS_0 (by omega) (by omega)]
  · rw [IS_0 (by decide) (by decide)] at h
    exact absurd h (by decide)
/-- no references beyond n cells, w places -/
def zBd (n w : Nat) (r : Nat → Nat → Option Nat) : Prop := ∀ a b, n ≤ a ∨ w ≤ b → r a b = none
theorem zBd_up {n w k j : Nat} {v : Option Nat} {r : Nat → Nat → Option Nat} (hk : k < n) (hj : j < w) (h : zBd n w r) : zBd n w (zupR r k j v) := fun a b hab => by
  unfold zupR
  rw [if_neg (by omega)]
  exact h a b hab
theorem zBd_mr {n w k q : Nat} {r : Nat → Nat → Option Nat} (hk : k < n) (hq : q ≤ w) (h : zBd n w r) : zBd n w (zmr r k q) := fun a b hab => by
  unfold zmr
  by_cases ha : a = k
  · rw [if_pos ha, if_neg (by omega)]
  · rw [if_neg ha]
    exact h a b hab
theorem zBd_ext {n w : Nat} {r r2 : Nat → Nat → Option Nat} (h : zBd n w r) (h2 : zBd n w r2) (he : ∀ a, a < n → ∀ b, b < w → r a b = r2 a b) : r = r2 := by
  funext a b
  by_cases ha : a < n
  · by_cases hb : b < w
    · exact he a ha b hb
    · rw [h a b (by omega), h2 a b (by omega)]
  · rw [h a b (by omega), h2 a b (by omega)]
theorem RFL_len : (RFL true).length = 100 := by decide +kernel
theorem RFL_rows : ∀ q ∈ RFL true, q.length ≤ 26 := by decide +kernel
theorem RF_B : zBd 100 26 (RF true) := fun a b hab => by
  show ((RFL true).getD a []).getD b none = none
  by_cases ha : a < 100
  · have hl : a < (RFL true).length := by rw [RFL_len]; exact ha
    have e : (RFL true).getD a [] = (RFL true)[a] := by rw [List.getD_eq_getElem?_getD, List.getElem?_eq_getElem hl, Option.getD_some]
    have h := RFL_rows _ (List.getElem_mem hl)
    rw [e, List.getD_eq_getElem?_getD, List.getElem?_eq_none (by omega)]
    rfl
  · have e : (RFL true).getD a [] = [] := by rw [List.getD_eq_getElem?_getD, List.getElem?_eq_none (by rw [RFL_len]; omega)]; rfl
    rw [e]
    rfl
set_option maxRecDepth 100000 in
set_option maxHeartbeats 4000000 in
theorem rX_B : zBd 100 26 (rX9 (rX8 (fun _ _ => none) 0) 85) := by
  unfold rX9 rX8 rX1 rX3 rX6 rX0 rX7 rX4 rX5 rX2
  repeat first
    | exact fun _ _ _ => rfl
    | refine zBd_up (by decide) (by decide) ?_
    | refine zBd_mr (by decide) (by decide) ?_
set_option maxRecDepth 100000 in
theorem rX_RF : rX9 (rX8 (fun _ _ => none) 0) 85 = RF true := zBd_ext rX_B RF_B (by decide +kernel)
-- the law from its first instruction
set_option maxRecDepth 100000 in
set_option maxHeartbeats 4000000 in
theorem law_all {l : zL} (hL : l.2.1 ≤ 384) : zW l mL_law 100 (zsl (SH.take 100)) 0 [.ref 10002, zno, zno, zno] [] ((fun _ _ => 0), (fun _ _ => 0), (fun _ _ => none), SH.take 0) (fun r _ => r = some (.int 1)) := by
  have hg : zG 0 (fun _ _ => 0) := fun _ _ _ => rfl
  have hf : zF 0 (fun _ _ => none) := fun _ _ _ => rfl
  have hJ : ∀ a b : Nat, ((fun _ _ => 0) : Nat → Nat → Int64) a b = 0 := fun _ _ => rfl
  refine x_nw (pc := 0) 0 8 dL_law_0 nX8 clL_7 (zG_le hg (by decide)) (zF_le hf (by decide)) (by decide +kernel) (by decide +kernel) (by decide) (by decide +kernel) ?_
  refine z_dup (pc := 3) rfl dL_law_3 ?_
  refine z_I0 (pc := 4) dL_law_4 mlL_9 kX8_init vX8_init (by decide) (by decide) (Nat.le_of_ble_eq_true rfl) (qX8_init_0 (r := (fun _ _ => none)) (zG_le hg (by decide)) (zF_le hf (by decide)) hJ) ⟨Nat.le_of_ble_eq_true rfl, Nat.le_of_ble_eq_true rfl, Nat.le_of_ble_eq_true rfl, Nat.le_of_ble_eq_true rfl⟩ (fun v h1 hq => ?_)
  obtain ⟨rfl, r1, e1, f1, I1, u1, g1, rfl⟩ := hq
  dsimp only [Option.toList, List.nil_append]
  refine z_astore_1 (pc := 7) dL_law_7 (by decide) rfl ?_
  refine x_nw (pc := 8) 85 9 dL_law_8 nX9 clL_10 (zG_le g1 (by decide)) (zF_le f1 (by decide)) (by decide +kernel) (by decide +kernel) (by decide) (by decide +kernel) ?_
  refine z_dup (pc := 11) rfl dL_law_11 ?_
  refine z_I0 (pc := 12) dL_law_12 mlL_12 kX9_init vX9_init (by decide) (by decide) (Nat.le_of_ble_eq_true rfl) (qX9_init_85 (r := r1) (zG_le g1 (by decide)) (zF_le f1 (by decide))) ⟨Nat.le_of_ble_eq_true rfl, Nat.le_of_ble_eq_true rfl, Nat.le_of_ble_eq_true rfl, Nat.le_of_ble_eq_true rfl⟩ (fun v h1 hq => ?_)
  obtain ⟨rfl, r2, e2, f2, I2, u2, g2, rfl⟩ := hq
  dsimp only [Option.toList, List.nil_append]
  refine z_astore_2 (pc := 15) dL_law_15 (by decide) rfl ?_
  refine z_iconst (pc := 16) (0) dL_law_16 rfl ?_
  refine z_istore_3 (pc := 17) dL_law_17 (by decide) rfl ?_
  subst u1 u2
  subst e1 e2
  rw [rX_RF]
  exact law_loop hL 1001 0 IS _ true Rel_start (by decide) (by decide)
