def zEq (I I2 : Nat → Nat → Int32) : Prop := ∀ a, a < 74 ∨ 78 < a → a ≠ 81 → I2 a = I a
def zPub (P : Int32 × (Nat → Nat → Int32)) : Option Value → zH → Prop := fun r h1 => r = some (.int P.1) ∧ ∃ I2 J2 nw2, h1 = (I2, J2, RF nw2, SH) ∧ zEq P.2 I2
theorem zPub_of {P : Int32 × (Nat → Nat → Int32)} {v : Int32} {I1 : Nat → Nat → Int32} {J : Nat → Nat → Int64} {nw : Bool} (e : P = (v, I1)) : zPub P (some (.int v)) (I1, J, RF nw, SH) := by
  subst e; exact ⟨rfl, I1, J, nw, rfl, fun _ _ _ => rfl⟩
/-- i and n fit into q places -/
def zhold (a n : Int32) (q : Nat) : Bool := decide (0 ≤ a.toInt ∧ 0 ≤ n.toInt ∧ a.toInt + n.toInt ≤ q)
theorem zhold_iff {a n : Int32} {q : Nat} (hq : q ≤ 40) : (¬ a < 0 ∧ ¬ n < 0 ∧ ¬ nI q < n ∧ ¬ nI q - n < a) ↔ zhold a n q = true := by
  unfold zhold
  rw [decide_eq_true_eq]
  have e0 : (nI q).toInt = q := nI_toInt (by omega)
  have hb := Int32.toInt_lt a
  have ha := Int32.le_toInt a
  have hb2 := Int32.toInt_lt n
  have ha2 := Int32.le_toInt n
  simp only [Int32.lt_iff_toInt_lt, Int32.toInt_zero, e0]
  have es : 0 ≤ n.toInt → n.toInt ≤ q → (nI q - n).toInt = q - n.toInt := by
    intro h1 h2
    rw [Int32.toInt_sub, e0]
    exact Int.bmod_eq_of_le (by omega) (by omega)
  constructor
  · rintro ⟨h1, h2, h3, h4⟩
    rw [es (by omega) (by omega)] at h4
    omega
  · rintro ⟨h1, h2, h3⟩
    rw [es (by omega) (by omega)]
    omega
theorem zhold_nI {a n : Int32} {q : Nat} (hq : q ≤ 40) (h : zhold a n q = true) : ∃ aa nn, a = nI aa ∧ n = nI nn ∧ aa + nn ≤ q := by
  unfold zhold at h
  rw [decide_eq_true_eq] at h
  obtain ⟨aa, ha, rfl⟩ := nI_of (x := a) (by rw [Int32.lt_iff_toInt_lt, Int32.toInt_zero]; omega)
  obtain ⟨nn, hn, rfl⟩ := nI_of (x := n) (by rw [Int32.lt_iff_toInt_lt, Int32.toInt_zero]; omega)
  rw [nI_toInt ha, nI_toInt hn] at h
  exact ⟨aa, nn, rfl, rfl, by omega⟩
theorem zb_zbb (p : Prop) [Decidable p] : zb p = zbb (decide p) := by unfold zb zbb; by_cases h : p <;> simp [h]
/-- the class's own order -/
def CI (I : Nat → Nat → Int32) (n T : Nat) (A B : Nat → Nat) (nx kp ln : Nat) : Prop :=
  zTown I n T A B ∧ (nx < 24 ∧ I 48 1 = nI nx) ∧ (kp ≤ 24 ∧ I 48 2 = nI kp) ∧ (∀ r, r < 8 → I 12 r = -1 ∨ ∃ q, q ≤ 40 ∧ I 12 r = nI q) ∧ (ln ≤ 120 ∧ I 13 1 = nI ln) ∧ (∀ i, i < 4 → I 22 (1 + i) = 0 ∨ ∃ w, w < n ∧ I 22 (1 + i) = nI (w + 1)) ∧ ∃ tl, tl ≤ 16 ∧ I 83 2 = nI tl
theorem nI_m1 {q : Nat} (h : q ≤ 40) : ¬ nI q = -1 := by
  intro e
  have := congrArg Int32.toInt e
  rw [nI_toInt (by omega)] at this
  have h2 : (-1 : Int32).toInt = -1 := by decide
  omega
set_option maxRecDepth 100000 in
set_option maxHeartbeats 4000000 in
theorem qX5_holdsQ {l : zL} {I : Nat → Nat → Int32} {J : Nat → Nat → Int64} {nw : Bool} {x : Int32} (i : Nat) (hx : x = nI i) (hi : i < 8) {a n : Int32} (q : Nat) (hq : q ≤ 40) (eq : I 12 i = nI q) : zP l mX5_holds [.ref 1, .int x, .int a, .int n] (hh I J nw) (zR (some (.int (zbb (zhold a n q)))) (hh I J nw)) := by
  refine zMet.mono (qX5_holds i hx hi) (fun r h1 h => ?_)
  obtain ⟨rfl, rfl⟩ := h
  refine ⟨?_, rfl⟩
  rw [eq, zb_zbb]
  have := zhold_iff (a := a) (n := n) hq
  by_cases hz : zhold a n q = true
  · rw [hz, decide_eq_true (this.mpr hz)]
  · rw [decide_eq_false (fun z => hz (this.mp z)), show zhold a n q = false from by cases hw : zhold a n q; rfl; exact absurd hw hz]
def pRow (I : Nat → Nat → Int32) (x y n : Int32) : Int32 × (Nat → Nat → Int32) := if zlt x 8 = true ∧ zlt y 3 = true ∧ n ≤ 40 then (if n < 0 then (-1000014, zup I 0 9 4) else (n, zup (zfill (zup (zup I 11 x.toNatClampNeg y) 12 x.toNatClampNeg n) (3 + x.toNatClampNeg) 40 0) 0 9 0)) else (-1000001, I)
def pDrop (I : Nat → Nat → Int32) (x : Int32) : Int32 × (Nat → Nat → Int32) := if zlt x 8 = true then (if I 12 x.toNatClampNeg = -1 then (-1000011, zup I 0 9 1) else (I 12 x.toNatClampNeg, zup (zup I 12 x.toNatClampNeg (-1)) 0 9 0)) else (-1000001, I)
def pSet (I : Nat → Nat → Int32) (x a v : Int32) : Int32 × (Nat → Nat → Int32) := if zlt x 8 = true then (if I 12 x.toNatClampNeg = -1 then (-1000011, zup I 0 9 1) else if zhold a 1 (I 12 x.toNatClampNeg).toNatClampNeg = true then (zcut (I 11 x.toNatClampNeg) v, zup (zup I (3 + x.toNatClampNeg) a.toNatClampNeg (zcut (I 11 x.toNatClampNeg) v)) 0 9 0) else (-1000012, zup I 0 9 2)) else (-1000001, I)
def pCopy (I : Nat → Nat → Int32) (x a y b n : Int32) : Int32 × (Nat → Nat → Int32) := if zlt x 8 = true ∧ zlt y 8 = true then (if I 12 x.toNatClampNeg = -1 ∨ I 12 y.toNatClampNeg = -1 then (-1000011, zup I 0 9 1) else if ¬ I 11 x.toNatClampNeg = I 11 y.toNatClampNeg then (-1000015, zup I 0 9 5) else if zhold a n (I 12 x.toNatClampNeg).toNatClampNeg = true ∧ zhold b n (I 12 y.toNatClampNeg).toNatClampNeg = true then (n, zup (zcpy I (3 + x.toNatClampNeg) (3 + y.toNatClampNeg) a.toNatClampNeg b.toNatClampNeg n.toNatClampNeg) 0 9 0) else (-1000012, zup I 0 9 2)) else (-1000001, I)
set_option maxRecDepth 100000 in
set_option maxHeartbeats 4000000 in
theorem qX8_row {l : zL} {I : Nat → Nat → Int32} {J : Nat → Nat → Int64} {nw : Bool} {x y n : Int32} : zP l mX8_row [.ref 0, .int x, .int y, .int n] (hh I J nw) (zPub (pRow I x y n)) := by
  refine z_start [.ref 0, .int x, .int y, .int n] (by decide +kernel) (Nat.le_of_ble_eq_true rfl) rfl ?_
  refine z_iload_1 (pc := 0) dX8_row_0 ?_
  refine z_S1 (pc := 1) dX8_row_1 mlX8_73 kX8_isRow vX8_isRow (by decide) (by decide) (Nat.le_of_ble_eq_true rfl) (qX8_isRow) ⟨Nat.le_refl _, Nat.le_refl _⟩ (fun r h1 hq => ?_)
  obtain ⟨rfl, rfl⟩ := hq
  refine z_if_eq (pc := 4) (tgt := 22) dX8_row_4 (by decide) (fun c4 => ?_) (fun c4 => ?_)
  · skip
    refine z_ldc (pc := 22) dX8_row_22 kcX8_77 ?_
    refine z_ret (pc := 24) (r := some (.int _)) rfl dX8_row_24 trivial rfl rfl ?_
    refine zPub_of ?_
    simp only [zbb0, zbb1, zb_eq0, zb_ne0, Classical.not_not, Bool.not_eq_false] at *
    simp [pRow, c4]
  · skip
    refine z_iload_2 (pc := 7) dX8_row_7 ?_
    refine z_if_lt (pc := 8) (tgt := 22) dX8_row_8 (by decide) (fun c8 => ?_) (fun c8 => ?_)
    · skip
      refine z_ldc (pc := 22) dX8_row_22 kcX8_77 ?_
      refine z_ret (pc := 24) (r := some (.int _)) rfl dX8_row_24 trivial rfl rfl ?_
      refine zPub_of ?_
      simp only [zbb0, zbb1, zb_eq0, zb_ne0, Classical.not_not, Bool.not_eq_false] at *
      simp [pRow, zlt_no (n := 3) (by decide) (Or.inl c8)]
    · skip
      refine z_iload_2 (pc := 11) dX8_row_11 ?_
      refine z_iconst (pc := 12) (3) dX8_row_12 rfl ?_
      refine z_icmp_ge (pc := 13) (tgt := 22) dX8_row_13 (by decide) (fun c13 => ?_) (fun c13 => ?_)
      · skip
        refine z_ldc (pc := 22) dX8_row_22 kcX8_77 ?_
        refine z_ret (pc := 24) (r := some (.int _)) rfl dX8_row_24 trivial rfl rfl ?_
        refine zPub_of ?_
        simp only [zbb0, zbb1, zb_eq0, zb_ne0, Classical.not_not, Bool.not_eq_false] at *
        simp [pRow, zlt_no (n := 3) (by decide) (Or.inr c13)]
      · skip
        refine z_iload_3 (pc := 16) dX8_row_16 ?_
        refine z_bipush (pc := 17) (40) dX8_row_17 rfl ?_
        refine z_icmp_le (pc := 19) (tgt := 25) dX8_row_19 (by decide) (fun c19 => ?_) (fun c19 => ?_)
        · skip
          refine z_iload_3 (pc := 25) dX8_row_25 ?_
          refine z_if_ge (pc := 26) (tgt := 35) dX8_row_26 (by decide) (fun c26 => ?_) (fun c26 => ?_)
          · skip
            refine z_aload_0 (pc := 35) dX8_row_35 ?_
            refine y_getR (pc := 36) dX8_row_36 flX8_10 rfl (by first | rfl | assumption) (by first | rfl | assumption) ?_
            refine z_iload_1 (pc := 39) dX8_row_39 ?_
            refine z_iload_2 (pc := 40) dX8_row_40 ?_
            refine z_iload_3 (pc := 41) dX8_row_41 ?_
            obtain ⟨i, hi, rfl⟩ := zlt_nI (by decide) ((zbb1 _).mp c4)
            have hcl : (nI i).toNatClampNeg = i := nI_clamp (by omega)
            refine z_V3 (pc := 42) dX8_row_42 mlX8_82 kX5_make vX5_make (by decide) (by decide) (by first | rfl | assumption) (Nat.le_of_ble_eq_true rfl) (qX5_make i rfl hi) ⟨Nat.le_refl _, Nat.le_refl _⟩ (fun r h1 hq => ?_)
            obtain ⟨rfl, rfl⟩ := hq
            refine z_aload_0 (pc := 45) dX8_row_45 ?_
            refine z_iload_3 (pc := 46) dX8_row_46 ?_
            refine z_V1 (pc := 47) dX8_row_47 mlX8_86 kX8_fine vX8_fine (by decide) (by decide) (by first | rfl | assumption) (Nat.le_of_ble_eq_true rfl) (qX8_fine) ⟨Nat.le_refl _, Nat.le_refl _⟩ (fun r h1 hq => ?_)
            obtain ⟨rfl, rfl⟩ := hq
            refine z_ret (pc := 50) (r := some (.int _)) rfl dX8_row_50 trivial rfl rfl ?_
            refine zPub_of ?_
            simp only [zbb0, zbb1, zb_eq0, zb_ne0, Classical.not_not, Bool.not_eq_false] at *
            unfold pRow
            rw [if_pos ⟨zlt_of hi (by decide), zlt_yes (n := 3) (by decide) c8 c13, c19⟩, if_neg (Int32.not_lt.mpr c26), hcl]
          · skip
            refine z_aload_0 (pc := 29) dX8_row_29 ?_
            refine z_iconst (pc := 30) (4) dX8_row_30 rfl ?_
            refine z_V1 (pc := 31) dX8_row_31 mlX8_78 kX8_found vX8_found (by decide) (by decide) (by first | rfl | assumption) (Nat.le_of_ble_eq_true rfl) (qX8_found) ⟨Nat.le_refl _, Nat.le_refl _⟩ (fun r h1 hq => ?_)
            obtain ⟨rfl, rfl⟩ := hq
            refine z_ret (pc := 34) (r := some (.int _)) rfl dX8_row_34 trivial rfl rfl ?_
            refine zPub_of ?_
            simp only [zbb0, zbb1, zb_eq0, zb_ne0, Classical.not_not, Bool.not_eq_false] at *
            unfold pRow
            rw [if_pos ⟨c4, zlt_yes (n := 3) (by decide) c8 c13, c19⟩, if_pos (Int32.not_le.mp c26)]
            rfl
        · skip
          refine z_ldc (pc := 22) dX8_row_22 kcX8_77 ?_
          refine z_ret (pc := 24) (r := some (.int _)) rfl dX8_row_24 trivial rfl rfl ?_
          refine zPub_of ?_
          simp only [zbb0, zbb1, zb_eq0, zb_ne0, Classical.not_not, Bool.not_eq_false] at *
          simp [pRow, Int32.not_le.mp c19, Int32.not_le.mpr (Int32.not_le.mp c19)]
set_option maxRecDepth 100000 in
set_option maxHeartbeats 4000000 in
theorem qX8_drop {l : zL} {I : Nat → Nat → Int32} {J : Nat → Nat → Int64} {nw : Bool} {x : Int32} : zP l mX8_drop [.ref 0, .int x] (hh I J nw) (zPub (pDrop I x)) := by
  refine z_start [.ref 0, .int x] (by decide +kernel) (Nat.le_of_ble_eq_true rfl) rfl ?_
  refine z_iload_1 (pc := 0) dX8_drop_0 ?_
  refine z_S1 (pc := 1) dX8_drop_1 mlX8_73 kX8_isRow vX8_isRow (by decide) (by decide) (Nat.le_of_ble_eq_true rfl) (qX8_isRow) ⟨Nat.le_refl _, Nat.le_refl _⟩ (fun r h1 hq => ?_)
  obtain ⟨rfl, rfl⟩ := hq
  refine z_if_ne (pc := 4) (tgt := 10) dX8_drop_4 (by decide) (fun c4 => ?_) (fun c4 => ?_)
  · skip
    obtain ⟨i, hi, rfl⟩ := zlt_nI (by decide) ((zbb1 _).mp c4)
    have hcl : (nI i).toNatClampNeg = i := nI_clamp (by omega)
    refine z_aload_0 (pc := 10) dX8_drop_10 ?_
    refine y_getR (pc := 11) dX8_drop_11 flX8_10 rfl (by first | rfl | assumption) (by first | rfl | assumption) ?_
    refine z_iload_1 (pc := 14) dX8_drop_14 ?_
    refine z_V1 (pc := 15) dX8_drop_15 mlX8_89 kX5_isMissing vX5_isMissing (by decide) (by decide) (by first | rfl | assumption) (Nat.le_of_ble_eq_true rfl) (qX5_isMissing i rfl hi) ⟨Nat.le_refl _, Nat.le_refl _⟩ (fun r h1 hq => ?_)
    obtain ⟨rfl, rfl⟩ := hq
    refine z_if_eq (pc := 18) (tgt := 27) dX8_drop_18 (by decide) (fun c18 => ?_) (fun c18 => ?_)
    · skip
      refine z_aload_0 (pc := 27) dX8_drop_27 ?_
      refine z_aload_0 (pc := 28) dX8_drop_28 ?_
      refine y_getR (pc := 29) dX8_drop_29 flX8_10 rfl (by first | rfl | assumption) (by first | rfl | assumption) ?_
      refine z_iload_1 (pc := 32) dX8_drop_32 ?_
      refine z_V1 (pc := 33) dX8_drop_33 mlX8_114 kX5_lose vX5_lose (by decide) (by decide) (by first | rfl | assumption) (Nat.le_of_ble_eq_true rfl) (qX5_lose i rfl hi) ⟨Nat.le_refl _, Nat.le_refl _⟩ (fun r h1 hq => ?_)
      obtain ⟨rfl, rfl⟩ := hq
      refine z_V1 (pc := 36) dX8_drop_36 mlX8_86 kX8_fine vX8_fine (by decide) (by decide) (by first | rfl | assumption) (Nat.le_of_ble_eq_true rfl) (qX8_fine) ⟨Nat.le_refl _, Nat.le_refl _⟩ (fun r h1 hq => ?_)
      obtain ⟨rfl, rfl⟩ := hq
      refine z_ret (pc := 39) (r := some (.int _)) rfl dX8_drop_39 trivial rfl rfl ?_
      refine zPub_of ?_
      simp only [zbb0, zbb1, zb_eq0, zb_ne0, Classical.not_not, Bool.not_eq_false] at *
      unfold pDrop
      rw [if_pos (zlt_of hi (by decide)), hcl, if_neg c18]
    · skip
      refine z_aload_0 (pc := 21) dX8_drop_21 ?_
      refine z_iconst (pc := 22) (1) dX8_drop_22 rfl ?_
      refine z_V1 (pc := 23) dX8_drop_23 mlX8_78 kX8_found vX8_found (by decide) (by decide) (by first | rfl | assumption) (Nat.le_of_ble_eq_true rfl) (qX8_found) ⟨Nat.le_refl _, Nat.le_refl _⟩ (fun r h1 hq => ?_)
      obtain ⟨rfl, rfl⟩ := hq
      refine z_ret (pc := 26) (r := some (.int _)) rfl dX8_drop_26 trivial rfl rfl ?_
      refine zPub_of ?_
      simp only [zbb0, zbb1, zb_eq0, zb_ne0, Classical.not_not, Bool.not_eq_false] at *
      unfold pDrop
      rw [if_pos (zlt_of hi (by decide)), hcl, if_pos c18]
      rfl
  · skip
    refine z_ldc (pc := 7) dX8_drop_7 kcX8_77 ?_
    refine z_ret (pc := 9) (r := some (.int _)) rfl dX8_drop_9 trivial rfl rfl ?_
    refine zPub_of ?_
    simp only [zbb0, zbb1, zb_eq0, zb_ne0, Classical.not_not, Bool.not_eq_false] at *
    simp [pDrop, c4]
set_option maxRecDepth 100000 in
set_option maxHeartbeats 4000000 in
theorem qX8_set {l : zL} {I : Nat → Nat → Int32} {J : Nat → Nat → Int64} {nw : Bool} {x a v : Int32} (hR : ∀ r, r < 8 → I 12 r = -1 ∨ ∃ q, q ≤ 40 ∧ I 12 r = nI q) : zP l mX8_set [.ref 0, .int x, .int a, .int v] (hh I J nw) (zPub (pSet I x a v)) := by
  refine z_start [.ref 0, .int x, .int a, .int v] (by decide +kernel) (Nat.le_of_ble_eq_true rfl) rfl ?_
  refine z_iload_1 (pc := 0) dX8_set_0 ?_
  refine z_S1 (pc := 1) dX8_set_1 mlX8_73 kX8_isRow vX8_isRow (by decide) (by decide) (Nat.le_of_ble_eq_true rfl) (qX8_isRow) ⟨Nat.le_refl _, Nat.le_refl _⟩ (fun r h1 hq => ?_)
  obtain ⟨rfl, rfl⟩ := hq
  refine z_if_ne (pc := 4) (tgt := 10) dX8_set_4 (by decide) (fun c4 => ?_) (fun c4 => ?_)
  · skip
    obtain ⟨i, hi, rfl⟩ := zlt_nI (by decide) ((zbb1 _).mp c4)
    have hcl : (nI i).toNatClampNeg = i := nI_clamp (by omega)
    refine z_aload_0 (pc := 10) dX8_set_10 ?_
    refine y_getR (pc := 11) dX8_set_11 flX8_10 rfl (by first | rfl | assumption) (by first | rfl | assumption) ?_
    refine z_iload_1 (pc := 14) dX8_set_14 ?_
    refine z_V1 (pc := 15) dX8_set_15 mlX8_89 kX5_isMissing vX5_isMissing (by decide) (by decide) (by first | rfl | assumption) (Nat.le_of_ble_eq_true rfl) (qX5_isMissing i rfl hi) ⟨Nat.le_refl _, Nat.le_refl _⟩ (fun r h1 hq => ?_)
    obtain ⟨rfl, rfl⟩ := hq
    refine z_if_eq (pc := 18) (tgt := 27) dX8_set_18 (by decide) (fun c18 => ?_) (fun c18 => ?_)
    · skip
      obtain ⟨q, hq, eq⟩ := (hR i hi).resolve_left ((zb_eq0 _).mp c18)
      refine z_aload_0 (pc := 27) dX8_set_27 ?_
      refine y_getR (pc := 28) dX8_set_28 flX8_10 rfl (by first | rfl | assumption) (by first | rfl | assumption) ?_
      refine z_iload_1 (pc := 31) dX8_set_31 ?_
      refine z_iload_2 (pc := 32) dX8_set_32 ?_
      refine z_iconst (pc := 33) (1) dX8_set_33 rfl ?_
      refine z_V3 (pc := 34) dX8_set_34 mlX8_92 kX5_holds vX5_holds (by decide) (by decide) (by first | rfl | assumption) (Nat.le_of_ble_eq_true rfl) (qX5_holdsQ i rfl hi q hq eq) ⟨Nat.le_refl _, Nat.le_refl _⟩ (fun r h1 hq => ?_)
      obtain ⟨rfl, rfl⟩ := hq
      refine z_if_ne (pc := 37) (tgt := 46) dX8_set_37 (by decide) (fun c37 => ?_) (fun c37 => ?_)
      · skip
        obtain ⟨aa, nn, rfl, hn1, han⟩ := zhold_nI hq ((zbb1 _).mp c37)
        have hnn : nn = 1 := by
          have h9 : nn ≤ 40 := by omega
          exact ((nI_eq (a := 1) (b := nn) (by decide) (by omega)).mp hn1).symm
        refine z_aload_0 (pc := 46) dX8_set_46 ?_
        refine z_aload_0 (pc := 47) dX8_set_47 ?_
        refine y_getR (pc := 48) dX8_set_48 flX8_10 rfl (by first | rfl | assumption) (by first | rfl | assumption) ?_
        refine z_iload_1 (pc := 51) dX8_set_51 ?_
        refine z_iload_2 (pc := 52) dX8_set_52 ?_
        refine z_iload_3 (pc := 53) dX8_set_53 ?_
        refine z_V3 (pc := 54) dX8_set_54 mlX8_96 kX5_put vX5_put (by decide) (by decide) (by first | rfl | assumption) (Nat.le_of_ble_eq_true rfl) (qX5_put i rfl hi aa rfl (by omega)) ⟨Nat.le_refl _, Nat.le_refl _⟩ (fun r h1 hq => ?_)
        obtain ⟨rfl, rfl⟩ := hq
        refine z_V1 (pc := 57) dX8_set_57 mlX8_86 kX8_fine vX8_fine (by decide) (by decide) (by first | rfl | assumption) (Nat.le_of_ble_eq_true rfl) (qX8_fine) ⟨Nat.le_refl _, Nat.le_refl _⟩ (fun r h1 hq => ?_)
        obtain ⟨rfl, rfl⟩ := hq
        refine z_ret (pc := 60) (r := some (.int _)) rfl dX8_set_60 trivial rfl rfl ?_
        refine zPub_of ?_
        simp only [zbb0, zbb1, zb_eq0, zb_ne0, Classical.not_not, Bool.not_eq_false] at *
        unfold pSet
        rw [if_pos (zlt_of hi (by decide)), hcl, if_neg c18, eq, nI_clamp (by omega), if_pos c37, nI_clamp (by omega)]
      · skip
        refine z_aload_0 (pc := 40) dX8_set_40 ?_
        refine z_iconst (pc := 41) (2) dX8_set_41 rfl ?_
        refine z_V1 (pc := 42) dX8_set_42 mlX8_78 kX8_found vX8_found (by decide) (by decide) (by first | rfl | assumption) (Nat.le_of_ble_eq_true rfl) (qX8_found) ⟨Nat.le_refl _, Nat.le_refl _⟩ (fun r h1 hq => ?_)
        obtain ⟨rfl, rfl⟩ := hq
        refine z_ret (pc := 45) (r := some (.int _)) rfl dX8_set_45 trivial rfl rfl ?_
        refine zPub_of ?_
        simp only [zbb0, zbb1, zb_eq0, zb_ne0, Classical.not_not, Bool.not_eq_false] at *
        unfold pSet
        rw [if_pos (zlt_of hi (by decide)), hcl, if_neg c18, eq, nI_clamp (by omega), if_neg (by rw [c37]; decide)]
        rfl
    · skip
      refine z_aload_0 (pc := 21) dX8_set_21 ?_
      refine z_iconst (pc := 22) (1) dX8_set_22 rfl ?_
      refine z_V1 (pc := 23) dX8_set_23 mlX8_78 kX8_found vX8_found (by decide) (by decide) (by first | rfl | assumption) (Nat.le_of_ble_eq_true rfl) (qX8_found) ⟨Nat.le_refl _, Nat.le_refl _⟩ (fun r h1 hq => ?_)
      obtain ⟨rfl, rfl⟩ := hq
      refine z_ret (pc := 26) (r := some (.int _)) rfl dX8_set_26 trivial rfl rfl ?_
      refine zPub_of ?_
      simp only [zbb0, zbb1, zb_eq0, zb_ne0, Classical.not_not, Bool.not_eq_false] at *
      unfold pSet
      rw [if_pos (zlt_of hi (by decide)), hcl, if_pos c18]
      rfl
  · skip
    refine z_ldc (pc := 7) dX8_set_7 kcX8_77 ?_
    refine z_ret (pc := 9) (r := some (.int _)) rfl dX8_set_9 trivial rfl rfl ?_
    refine zPub_of ?_
    simp only [zbb0, zbb1, zb_eq0, zb_ne0, Classical.not_not, Bool.not_eq_false] at *
    simp [pSet, c4]
set_option maxRecDepth 100000 in
set_option maxHeartbeats 4000000 in
theorem qX8_copy {l : zL} {I : Nat → Nat → Int32} {J : Nat → Nat → Int64} {nw : Bool} {x a y b n : Int32} (hR : ∀ r, r < 8 → I 12 r = -1 ∨ ∃ q, q ≤ 40 ∧ I 12 r = nI q) : zP l mX8_copy [.ref 0, .int x, .int a, .int y, .int b, .int n] (hh I J nw) (zPub (pCopy I x a y b n)) := by
  refine z_start [.ref 0, .int x, .int a, .int y, .int b, .int n] (by decide +kernel) (Nat.le_of_ble_eq_true rfl) rfl ?_
  refine z_iload_1 (pc := 0) dX8_copy_0 ?_
  refine z_S1 (pc := 1) dX8_copy_1 mlX8_73 kX8_isRow vX8_isRow (by decide) (by decide) (Nat.le_of_ble_eq_true rfl) (qX8_isRow) ⟨Nat.le_refl _, Nat.le_refl _⟩ (fun r h1 hq => ?_)
  obtain ⟨rfl, rfl⟩ := hq
  refine z_if_eq (pc := 4) (tgt := 14) dX8_copy_4 (by decide) (fun c4 => ?_) (fun c4 => ?_)
  · skip
    refine z_ldc (pc := 14) dX8_copy_14 kcX8_77 ?_
    refine z_ret (pc := 16) (r := some (.int _)) rfl dX8_copy_16 trivial rfl rfl ?_
    refine zPub_of ?_
    simp only [zbb0, zbb1, zb_eq0, zb_ne0, Classical.not_not, Bool.not_eq_false] at *
    simp [pCopy, c4]
  · skip
    refine z_iload_3 (pc := 7) dX8_copy_7 ?_
    refine z_S1 (pc := 8) dX8_copy_8 mlX8_73 kX8_isRow vX8_isRow (by decide) (by decide) (Nat.le_of_ble_eq_true rfl) (qX8_isRow) ⟨Nat.le_refl _, Nat.le_refl _⟩ (fun r h1 hq => ?_)
    obtain ⟨rfl, rfl⟩ := hq
    refine z_if_ne (pc := 11) (tgt := 17) dX8_copy_11 (by decide) (fun c11 => ?_) (fun c11 => ?_)
    · skip
      obtain ⟨i, hi, rfl⟩ := zlt_nI (by decide) ((zbb1 _).mp c4)
      have hcl : (nI i).toNatClampNeg = i := nI_clamp (by omega)
      obtain ⟨j, hj, rfl⟩ := zlt_nI (by decide) ((zbb1 _).mp c11)
      have hcl2 : (nI j).toNatClampNeg = j := nI_clamp (by omega)
      refine z_aload_0 (pc := 17) dX8_copy_17 ?_
      refine y_getR (pc := 18) dX8_copy_18 flX8_10 rfl (by first | rfl | assumption) (by first | rfl | assumption) ?_
      refine z_iload_1 (pc := 21) dX8_copy_21 ?_
      refine z_V1 (pc := 22) dX8_copy_22 mlX8_89 kX5_isMissing vX5_isMissing (by decide) (by decide) (by first | rfl | assumption) (Nat.le_of_ble_eq_true rfl) (qX5_isMissing i rfl hi) ⟨Nat.le_refl _, Nat.le_refl _⟩ (fun r h1 hq => ?_)
      obtain ⟨rfl, rfl⟩ := hq
      refine z_if_ne (pc := 25) (tgt := 39) dX8_copy_25 (by decide) (fun c25 => ?_) (fun c25 => ?_)
      · skip
        refine z_aload_0 (pc := 39) dX8_copy_39 ?_
        refine z_iconst (pc := 40) (1) dX8_copy_40 rfl ?_
        refine z_V1 (pc := 41) dX8_copy_41 mlX8_78 kX8_found vX8_found (by decide) (by decide) (by first | rfl | assumption) (Nat.le_of_ble_eq_true rfl) (qX8_found) ⟨Nat.le_refl _, Nat.le_refl _⟩ (fun r h1 hq => ?_)
        obtain ⟨rfl, rfl⟩ := hq
        refine z_ret (pc := 44) (r := some (.int _)) rfl dX8_copy_44 trivial rfl rfl ?_
        refine zPub_of ?_
        simp only [zbb0, zbb1, zb_eq0, zb_ne0, Classical.not_not, Bool.not_eq_false] at *
        unfold pCopy
        rw [if_pos ⟨zlt_of hi (by decide), zlt_of hj (by decide)⟩, hcl, hcl2, if_pos (Or.inl c25)]
        rfl
      · skip
        refine z_aload_0 (pc := 28) dX8_copy_28 ?_
        refine y_getR (pc := 29) dX8_copy_29 flX8_10 rfl (by first | rfl | assumption) (by first | rfl | assumption) ?_
        refine z_iload_3 (pc := 32) dX8_copy_32 ?_
        refine z_V1 (pc := 33) dX8_copy_33 mlX8_89 kX5_isMissing vX5_isMissing (by decide) (by decide) (by first | rfl | assumption) (Nat.le_of_ble_eq_true rfl) (qX5_isMissing j rfl hj) ⟨Nat.le_refl _, Nat.le_refl _⟩ (fun r h1 hq => ?_)
        obtain ⟨rfl, rfl⟩ := hq
        refine z_if_eq (pc := 36) (tgt := 45) dX8_copy_36 (by decide) (fun c36 => ?_) (fun c36 => ?_)
        · skip
          obtain ⟨q, hq, eq⟩ := (hR i hi).resolve_left ((zb_eq0 _).mp c25)
          obtain ⟨q2, hq2, eq2⟩ := (hR j hj).resolve_left ((zb_eq0 _).mp c36)
          refine z_aload_0 (pc := 45) dX8_copy_45 ?_
          refine y_getR (pc := 46) dX8_copy_46 flX8_10 rfl (by first | rfl | assumption) (by first | rfl | assumption) ?_
          refine y_getR (pc := 49) dX8_copy_49 flX8_100 rfl (by first | rfl | assumption) (by first | rfl | assumption) ?_
          refine z_iload_1 (pc := 52) dX8_copy_52 ?_
          refine y_ialdN (pc := 53) (i) dX8_copy_53 (by first | rfl | assumption) (rfl) (hi) (by first | decide | omega) ?_
          refine z_aload_0 (pc := 54) dX8_copy_54 ?_
          refine y_getR (pc := 55) dX8_copy_55 flX8_10 rfl (by first | rfl | assumption) (by first | rfl | assumption) ?_
          refine y_getR (pc := 58) dX8_copy_58 flX8_100 rfl (by first | rfl | assumption) (by first | rfl | assumption) ?_
          refine z_iload_3 (pc := 61) dX8_copy_61 ?_
          refine y_ialdN (pc := 62) (j) dX8_copy_62 (by first | rfl | assumption) (rfl) (hj) (by first | decide | omega) ?_
          refine z_icmp_eq (pc := 63) (tgt := 72) dX8_copy_63 (by decide) (fun c63 => ?_) (fun c63 => ?_)
          · skip
            refine z_aload_0 (pc := 72) dX8_copy_72 ?_
            refine y_getR (pc := 73) dX8_copy_73 flX8_10 rfl (by first | rfl | assumption) (by first | rfl | assumption) ?_
            refine z_iload_1 (pc := 76) dX8_copy_76 ?_
            refine z_iload_2 (pc := 77) dX8_copy_77 ?_
            refine z_iload_5 (pc := 78) dX8_copy_78 ?_
            refine z_V3 (pc := 80) dX8_copy_80 mlX8_92 kX5_holds vX5_holds (by decide) (by decide) (by first | rfl | assumption) (Nat.le_of_ble_eq_true rfl) (qX5_holdsQ i rfl hi q hq eq) ⟨Nat.le_refl _, Nat.le_refl _⟩ (fun r h1 hq => ?_)
            obtain ⟨rfl, rfl⟩ := hq
            refine z_if_eq (pc := 83) (tgt := 101) dX8_copy_83 (by decide) (fun c83 => ?_) (fun c83 => ?_)
            · skip
              refine z_aload_0 (pc := 101) dX8_copy_101 ?_
              refine z_iconst (pc := 102) (2) dX8_copy_102 rfl ?_
              refine z_V1 (pc := 103) dX8_copy_103 mlX8_78 kX8_found vX8_found (by decide) (by decide) (by first | rfl | assumption) (Nat.le_of_ble_eq_true rfl) (qX8_found) ⟨Nat.le_refl _, Nat.le_refl _⟩ (fun r h1 hq => ?_)
              obtain ⟨rfl, rfl⟩ := hq
              refine z_ret (pc := 106) (r := some (.int _)) rfl dX8_copy_106 trivial rfl rfl ?_
              refine zPub_of ?_
              simp only [zbb0, zbb1, zb_eq0, zb_ne0, Classical.not_not, Bool.not_eq_false] at *
              unfold pCopy
              rw [if_pos ⟨zlt_of hi (by decide), zlt_of hj (by decide)⟩, hcl, hcl2, if_neg (fun z => z.elim c25 c36), if_neg (fun z => z c63), eq, eq2, nI_clamp (by omega), nI_clamp (by omega), if_neg (by rw [c83]; simp)]
              rfl
            · skip
              refine z_aload_0 (pc := 86) dX8_copy_86 ?_
              refine y_getR (pc := 87) dX8_copy_87 flX8_10 rfl (by first | rfl | assumption) (by first | rfl | assumption) ?_
              refine z_iload_3 (pc := 90) dX8_copy_90 ?_
              refine z_iload_4 (pc := 91) dX8_copy_91 ?_
              refine z_iload_5 (pc := 93) dX8_copy_93 ?_
              refine z_V3 (pc := 95) dX8_copy_95 mlX8_92 kX5_holds vX5_holds (by decide) (by decide) (by first | rfl | assumption) (Nat.le_of_ble_eq_true rfl) (qX5_holdsQ j rfl hj q2 hq2 eq2) ⟨Nat.le_refl _, Nat.le_refl _⟩ (fun r h1 hq => ?_)
              obtain ⟨rfl, rfl⟩ := hq
              refine z_if_ne (pc := 98) (tgt := 107) dX8_copy_98 (by decide) (fun c98 => ?_) (fun c98 => ?_)
              · skip
                obtain ⟨aa, nn, rfl, rfl, han⟩ := zhold_nI hq ((zbb1 _).mp c83)
                obtain ⟨bb, nn2, rfl, hn2, hbn⟩ := zhold_nI hq2 ((zbb1 _).mp c98)
                have hnn : nn = nn2 := (nI_eq (by omega) (by omega)).mp hn2
                subst hnn
                refine z_aload_0 (pc := 107) dX8_copy_107 ?_
                refine y_getR (pc := 108) dX8_copy_108 flX8_10 rfl (by first | rfl | assumption) (by first | rfl | assumption) ?_
                refine y_getR (pc := 111) dX8_copy_111 flX8_104 rfl (by first | rfl | assumption) (by first | rfl | assumption) ?_
                refine z_iload_1 (pc := 114) dX8_copy_114 ?_
                refine y_aaldIN (pc := 115) (i) dX8_copy_115 rfl rfl hi (by decide) (RF_items nw i hi) ?_
                refine z_iload_2 (pc := 116) dX8_copy_116 ?_
                refine z_aload_0 (pc := 117) dX8_copy_117 ?_
                refine y_getR (pc := 118) dX8_copy_118 flX8_10 rfl (by first | rfl | assumption) (by first | rfl | assumption) ?_
                refine y_getR (pc := 121) dX8_copy_121 flX8_104 rfl (by first | rfl | assumption) (by first | rfl | assumption) ?_
                refine z_iload_3 (pc := 124) dX8_copy_124 ?_
                refine y_aaldIN (pc := 125) (j) dX8_copy_125 rfl rfl hj (by decide) (RF_items nw j hj) ?_
                refine z_iload_4 (pc := 126) dX8_copy_126 ?_
                refine z_iload_5 (pc := 128) dX8_copy_128 ?_
                refine y_copy (pc := 130) dX8_copy_130 mlX8_108 w_an w_as w_si (aa) (bb) (nn) (SH_items i hi) (SH_items j hj) rfl rfl rfl (by omega) (by omega) (by omega) (by decide) (Nat.le_of_ble_eq_true rfl) ?_
                refine z_aload_0 (pc := 133) dX8_copy_133 ?_
                refine z_iload_5 (pc := 134) dX8_copy_134 ?_
                refine z_V1 (pc := 136) dX8_copy_136 mlX8_86 kX8_fine vX8_fine (by decide) (by decide) (by first | rfl | assumption) (Nat.le_of_ble_eq_true rfl) (qX8_fine) ⟨Nat.le_refl _, Nat.le_refl _⟩ (fun r h1 hq => ?_)
                obtain ⟨rfl, rfl⟩ := hq
                refine z_ret (pc := 139) (r := some (.int _)) rfl dX8_copy_139 trivial rfl rfl ?_
                refine zPub_of ?_
                simp only [zbb0, zbb1, zb_eq0, zb_ne0, Classical.not_not, Bool.not_eq_false] at *
                unfold pCopy
                rw [if_pos ⟨zlt_of hi (by decide), zlt_of hj (by decide)⟩, hcl, hcl2, if_neg (fun z => z.elim c25 c36), if_neg (fun z => z c63), eq, eq2, nI_clamp (n := q) (by omega), nI_clamp (n := q2) (by omega), if_pos ⟨c83, c98⟩, nI_clamp (by omega), nI_clamp (by omega), nI_clamp (by omega)]
              · skip
                refine z_aload_0 (pc := 101) dX8_copy_101 ?_
                refine z_iconst (pc := 102) (2) dX8_copy_102 rfl ?_
                refine z_V1 (pc := 103) dX8_copy_103 mlX8_78 kX8_found vX8_found (by decide) (by decide) (by first | rfl | assumption) (Nat.le_of_ble_eq_true rfl) (qX8_found) ⟨Nat.le_refl _, Nat.le_refl _⟩ (fun r h1 hq => ?_)
                obtain ⟨rfl, rfl⟩ := hq
                refine z_ret (pc := 106) (r := some (.int _)) rfl dX8_copy_106 trivial rfl rfl ?_
                refine zPub_of ?_
                simp only [zbb0, zbb1, zb_eq0, zb_ne0, Classical.not_not, Bool.not_eq_false] at *
                unfold pCopy
                rw [if_pos ⟨zlt_of hi (by decide), zlt_of hj (by decide)⟩, hcl, hcl2, if_neg (fun z => z.elim c25 c36), if_neg (fun z => z c63), eq, eq2, nI_clamp (by omega), nI_clamp (by omega), if_neg (by rw [c98]; simp)]
                rfl
          · skip
            refine z_aload_0 (pc := 66) dX8_copy_66 ?_
            refine z_iconst (pc := 67) (5) dX8_copy_67 rfl ?_
            refine z_V1 (pc := 68) dX8_copy_68 mlX8_78 kX8_found vX8_found (by decide) (by decide) (by first | rfl | assumption) (Nat.le_of_ble_eq_true rfl) (qX8_found) ⟨Nat.le_refl _, Nat.le_refl _⟩ (fun r h1 hq => ?_)
            obtain ⟨rfl, rfl⟩ := hq
            refine z_ret (pc := 71) (r := some (.int _)) rfl dX8_copy_71 trivial rfl rfl ?_
            refine zPub_of ?_
            simp only [zbb0, zbb1, zb_eq0, zb_ne0, Classical.not_not, Bool.not_eq_false] at *
            unfold pCopy
            rw [if_pos ⟨zlt_of hi (by decide), zlt_of hj (by decide)⟩, hcl, hcl2, if_neg (fun z => z.elim c25 c36), if_pos c63]
            rfl
        · skip
          refine z_aload_0 (pc := 39) dX8_copy_39 ?_
          refine z_iconst (pc := 40) (1) dX8_copy_40 rfl ?_
          refine z_V1 (pc := 41) dX8_copy_41 mlX8_78 kX8_found vX8_found (by decide) (by decide) (by first | rfl | assumption) (Nat.le_of_ble_eq_true rfl) (qX8_found) ⟨Nat.le_refl _, Nat.le_refl _⟩ (fun r h1 hq => ?_)
          obtain ⟨rfl, rfl⟩ := hq
          refine z_ret (pc := 44) (r := some (.int _)) rfl dX8_copy_44 trivial rfl rfl ?_
          refine zPub_of ?_
          simp only [zbb0, zbb1, zb_eq0, zb_ne0, Classical.not_not, Bool.not_eq_false] at *
          unfold pCopy
          rw [if_pos ⟨zlt_of hi (by decide), zlt_of hj (by decide)⟩, hcl, hcl2, if_pos (Or.inr c36)]
          rfl
    · skip
      refine z_ldc (pc := 14) dX8_copy_14 kcX8_77 ?_
      refine z_ret (pc := 16) (r := some (.int _)) rfl dX8_copy_16 trivial rfl rfl ?_
      refine zPub_of ?_
      simp only [zbb0, zbb1, zb_eq0, zb_ne0, Classical.not_not, Bool.not_eq_false] at *
      simp [pCopy, c11]
