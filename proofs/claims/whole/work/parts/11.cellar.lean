def zb (p : Prop) [Decidable p] : Int32 := if p then 1 else 0
theorem zb_01 (p : Prop) [Decidable p] : zb p = 0 ∨ zb p = 1 := by unfold zb; by_cases h : p <;> simp [h]
theorem zb_eq0 (p : Prop) [Decidable p] : zb p = 0 ↔ ¬ p := by unfold zb; by_cases h : p <;> simp [h]
theorem zb_ne0 (p : Prop) [Decidable p] : ¬ zb p = 0 ↔ p := by unfold zb; by_cases h : p <;> simp [h]
theorem w_mmaxs : Cond.static Lib.Math.max.name ∈ zTs := (zmem 600 (by decide +kernel) (by decide +kernel))
theorem w_mmaxc : Cond.code Lib.Math.max.name Lib.Math.max.code 2 (some .int) ∈ zTs := (zmem 601 (by decide +kernel) (by decide +kernel))
theorem w_mi : Cond.initialized "java/lang/Math" ∈ zTs := (zmem 61 (by decide +kernel) (by decide +kernel))
theorem z_mmax {l : zL} {M : zMd} {N S pc : Nat} {L st : List Value} {h : zH} {Q : Option Value → zH → Prop} {idx : Nat} {x y : Int32} (hd : decode M.2.1 pc = .ok (.invokestatic idx, 3)) (hlk : Cond.methodLink M.1.cls idx Lib.Math.max.name ∈ zTs) (hfr : 1 ≤ M.2.2.2.2) (hst : (st.map Value.category).sum + 15 ≤ 64 * M.2.2.2.2) (kk : zW l M N S (pc + 3) L (.int (if x < y then y else x) :: st) h Q) : zW l M N S pc L (.int y :: .int x :: st) h Q := by
  intro p e s m args below meth c E n0 z0 H locs cells slots ls R Z C A hl hR K
  have hts := zTb_arg C.2.2.2.2.2.2.1 args
  have a3 := A.2.2.1
  have a4 := A.2.2.2.1
  have a5 := A.2.2.2.2.1
  have a6 := A.2.2.2.2.2.1
  have r2 := hR.2.1
  refine va_mmax C.1 C.2.1 (C.2.2.1.trans hl.1.symm) C.2.2.2.2.2.1 (hts _ hlk) (hts _ w_mmaxs) (hts _ w_mi) (hts _ w_mmaxc) (Nat.le_trans hfr hR.1) ?_ (by omega) (by omega) hd (kk p e s m args below meth c E n0 z0 H locs cells slots ls R Z C A hl hR K)
  rw [List.map_map, show ((fun v : Value => v.category) ∘ ze E) = Value.category from funext (fun v => zcat E v)]
  omega
theorem w_mmins : Cond.static Lib.Math.min.name ∈ zTs := (zmem 506 (by decide +kernel) (by decide +kernel))
theorem w_mminc : Cond.code Lib.Math.min.name Lib.Math.min.code 2 (some .int) ∈ zTs := (zmem 507 (by decide +kernel) (by decide +kernel))
theorem z_mmin {l : zL} {M : zMd} {N S pc : Nat} {L st : List Value} {h : zH} {Q : Option Value → zH → Prop} {idx : Nat} {x y : Int32} (hd : decode M.2.1 pc = .ok (.invokestatic idx, 3)) (hlk : Cond.methodLink M.1.cls idx Lib.Math.min.name ∈ zTs) (hfr : 1 ≤ M.2.2.2.2) (hst : (st.map Value.category).sum + 15 ≤ 64 * M.2.2.2.2) (kk : zW l M N S (pc + 3) L (.int (if y < x then y else x) :: st) h Q) : zW l M N S pc L (.int y :: .int x :: st) h Q := by
  intro p e s m args below meth c E n0 z0 H locs cells slots ls R Z C A hl hR K
  have hts := zTb_arg C.2.2.2.2.2.2.1 args
  have a3 := A.2.2.1
  have a4 := A.2.2.2.1
  have a5 := A.2.2.2.2.1
  have a6 := A.2.2.2.2.2.1
  have r2 := hR.2.1
  refine va_mmin C.1 C.2.1 (C.2.2.1.trans hl.1.symm) C.2.2.2.2.2.1 (hts _ hlk) (hts _ w_mmins) (hts _ w_mi) (hts _ w_mminc) (Nat.le_trans hfr hR.1) ?_ (by omega) (by omega) hd (kk p e s m args below meth c E n0 z0 H locs cells slots ls R Z C A hl hR K)
  rw [List.map_map, show ((fun v : Value => v.category) ∘ ze E) = Value.category from funext (fun v => zcat E v)]
  omega
theorem w_mmaxLs : Cond.static Lib.MathLoose.max_long.x ∈ zTs := (zmem 796 (by decide +kernel) (by decide +kernel))
theorem w_mmaxLc : Cond.code Lib.MathLoose.max_long.x Lib.MathLoose.max_long.code 4 (some .long) ∈ zTs := (zmem 797 (by decide +kernel) (by decide +kernel))
theorem z_mmaxL {l : zL} {M : zMd} {N S pc : Nat} {L st : List Value} {h : zH} {Q : Option Value → zH → Prop} {idx : Nat} {x y : Int64} (hd : decode M.2.1 pc = .ok (.invokestatic idx, 3)) (hlk : Cond.methodLink M.1.cls idx Lib.MathLoose.max_long.x ∈ zTs) (hfr : 1 ≤ M.2.2.2.2) (hst : (st.map Value.category).sum + 15 ≤ 64 * M.2.2.2.2) (kk : zW l M N S (pc + 3) L (.long (if y < x then x else y) :: st) h Q) : zW l M N S pc L (.long y :: .long x :: st) h Q := by
  intro p e s m args below meth c E n0 z0 H locs cells slots ls R Z C A hl hR K
  have hts := zTb_arg C.2.2.2.2.2.2.1 args
  have a3 := A.2.2.1
  have a4 := A.2.2.2.1
  have a5 := A.2.2.2.2.1
  have a6 := A.2.2.2.2.2.1
  have r2 := hR.2.1
  refine va_mmax_long C.1 C.2.1 (C.2.2.1.trans hl.1.symm) C.2.2.2.2.2.1 (hts _ hlk) (hts _ w_mmaxLs) (hts _ w_mi) (hts _ w_mmaxLc) (Nat.le_trans hfr hR.1) ?_ (by omega) (by omega) hd (kk p e s m args below meth c E n0 z0 H locs cells slots ls R Z C A hl hR K)
  rw [List.map_map, show ((fun v : Value => v.category) ∘ ze E) = Value.category from funext (fun v => zcat E v)]
  omega
theorem mmX0_35 : Cond.methodLink RX0 35 Lib.Math.min.name ∈ zTs := (zmem 505 (by decide +kernel) (by decide +kernel))
theorem mmX6_99 : Cond.methodLink RX6 99 Lib.Math.max.name ∈ zTs := (zmem 599 (by decide +kernel) (by decide +kernel))
theorem mmX2_31 : Cond.methodLink RX2 31 Lib.Math.min.name ∈ zTs := (zmem 625 (by decide +kernel) (by decide +kernel))
theorem mmX8_291 : Cond.methodLink RX8 291 Lib.Math.max.name ∈ zTs := (zmem 750 (by decide +kernel) (by decide +kernel))
theorem mmX8_363 : Cond.methodLink RX8 363 Lib.MathLoose.max_long.x ∈ zTs := (zmem 795 (by decide +kernel) (by decide +kernel))
def zus (x : Int32) (k : Int32) : Int32 := (x.toUInt32 >>> (k.toUInt32 &&& Int32.toUInt32 31)).toInt32
def zbc1 (x : Int32) : Int32 := x - (zus x 1 &&& 1431655765)
def zbc2 (x : Int32) : Int32 := (x &&& 858993459) + (zus x 2 &&& 858993459)
def zbc3 (x : Int32) : Int32 := x + zus x 4 &&& 252645135
def zbc4 (x : Int32) : Int32 := x + zus x 8
def zbc5 (x : Int32) : Int32 := x + zus x 16
def zbc (x : Int32) : Int32 := zbc5 (zbc4 (zbc3 (zbc2 (zbc1 x)))) &&& 63
set_option maxRecDepth 100000 in
set_option maxHeartbeats 4000000 in
theorem qJ6_bitCount_0f7a4 {l : zL} {I : Nat → Nat → Int32} {J : Nat → Nat → Int64} {r : Nat → Nat → Option Nat} {sh : List zSh}  {x : Int32} : zP l mJ6_bitCount_0f7a4 [.int x] (I, J, r, sh) (zR (some (.int (zbc x))) (I, J, r, sh)) := by
  refine z_start [.int x] (by decide +kernel) (Nat.le_of_ble_eq_true rfl) rfl ?_
  refine z_iload_0 (pc := 0) dJ6_bitCount_0f7a4_0 ?_
  refine z_iload_0 (pc := 1) dJ6_bitCount_0f7a4_1 ?_
  refine z_iconst (pc := 2) (1) dJ6_bitCount_0f7a4_2 rfl ?_
  refine z_iushr (pc := 3) dJ6_bitCount_0f7a4_3 ?_
  refine z_ldcw (pc := 4) dJ6_bitCount_0f7a4_4 kcJ6_265 ?_
  refine z_iand (pc := 7) dJ6_bitCount_0f7a4_7 ?_
  refine z_isub (pc := 8) dJ6_bitCount_0f7a4_8 ?_
  refine z_istore_0 (pc := 9) dJ6_bitCount_0f7a4_9 (by decide) ?_
  refine z_iload_0 (pc := 10) dJ6_bitCount_0f7a4_10 ?_
  refine z_ldcw (pc := 11) dJ6_bitCount_0f7a4_11 kcJ6_266 ?_
  refine z_iand (pc := 14) dJ6_bitCount_0f7a4_14 ?_
  refine z_iload_0 (pc := 15) dJ6_bitCount_0f7a4_15 ?_
  refine z_iconst (pc := 16) (2) dJ6_bitCount_0f7a4_16 rfl ?_
  refine z_iushr (pc := 17) dJ6_bitCount_0f7a4_17 ?_
  refine z_ldcw (pc := 18) dJ6_bitCount_0f7a4_18 kcJ6_266 ?_
  refine z_iand (pc := 21) dJ6_bitCount_0f7a4_21 ?_
  refine z_iadd (pc := 22) dJ6_bitCount_0f7a4_22 ?_
  refine z_istore_0 (pc := 23) dJ6_bitCount_0f7a4_23 (by decide) ?_
  refine z_iload_0 (pc := 24) dJ6_bitCount_0f7a4_24 ?_
  refine z_iload_0 (pc := 25) dJ6_bitCount_0f7a4_25 ?_
  refine z_iconst (pc := 26) (4) dJ6_bitCount_0f7a4_26 rfl ?_
  refine z_iushr (pc := 27) dJ6_bitCount_0f7a4_27 ?_
  refine z_iadd (pc := 28) dJ6_bitCount_0f7a4_28 ?_
  refine z_ldcw (pc := 29) dJ6_bitCount_0f7a4_29 kcJ6_267 ?_
  refine z_iand (pc := 32) dJ6_bitCount_0f7a4_32 ?_
  refine z_istore_0 (pc := 33) dJ6_bitCount_0f7a4_33 (by decide) ?_
  refine z_iload_0 (pc := 34) dJ6_bitCount_0f7a4_34 ?_
  refine z_iload_0 (pc := 35) dJ6_bitCount_0f7a4_35 ?_
  refine z_bipush (pc := 36) (8) dJ6_bitCount_0f7a4_36 rfl ?_
  refine z_iushr (pc := 38) dJ6_bitCount_0f7a4_38 ?_
  refine z_iadd (pc := 39) dJ6_bitCount_0f7a4_39 ?_
  refine z_istore_0 (pc := 40) dJ6_bitCount_0f7a4_40 (by decide) ?_
  refine z_iload_0 (pc := 41) dJ6_bitCount_0f7a4_41 ?_
  refine z_iload_0 (pc := 42) dJ6_bitCount_0f7a4_42 ?_
  refine z_bipush (pc := 43) (16) dJ6_bitCount_0f7a4_43 rfl ?_
  refine z_iushr (pc := 45) dJ6_bitCount_0f7a4_45 ?_
  refine z_iadd (pc := 46) dJ6_bitCount_0f7a4_46 ?_
  refine z_istore_0 (pc := 47) dJ6_bitCount_0f7a4_47 (by decide) ?_
  refine z_iload_0 (pc := 48) dJ6_bitCount_0f7a4_48 ?_
  refine z_bipush (pc := 49) (63) dJ6_bitCount_0f7a4_49 rfl ?_
  refine z_iand (pc := 51) dJ6_bitCount_0f7a4_51 ?_
  refine z_ret (pc := 52) (r := some (.int _)) rfl dJ6_bitCount_0f7a4_52 trivial rfl rfl ?_
  exact ⟨rfl, rfl⟩
def zfill (I : Nat → Nat → Int32) (k n : Nat) (v : Int32) : Nat → Nat → Int32 := fun a b => if a = k ∧ b < n then v else I a b
theorem zfill_0 (I : Nat → Nat → Int32) (k : Nat) (v : Int32) : zfill I k 0 v = I := by funext a b; simp [zfill]
theorem zfill_s (I : Nat → Nat → Int32) (k n : Nat) (v : Int32) : zup (zfill I k n v) k n v = zfill I k (n + 1) v := by
  funext a b; unfold zup zfill
  by_cases ha : a = k
  · by_cases hb : b = n
    · simp [ha, hb]
    · by_cases hc : b < n
      · simp [ha, hb, hc, Nat.lt_succ_of_lt hc]
      · have : ¬ b < n + 1 := by omega
        simp [ha, hb, hc, this]
  · simp [ha]
set_option maxRecDepth 100000 in
set_option maxHeartbeats 4000000 in
theorem fill_loop {l : zL} {I : Nat → Nat → Int32} {J : Nat → Nat → Int64} {r : Nat → Nat → Option Nat} {sh : List zSh} {k n : Nat} {v : Int32} (hk : sh[k]? = some (10, n)) (hn : n < 2 ^ 31) : ∀ (f i : Nat), i ≤ n → n - i < f →
    zW l mJ7_fill_53178 sh.length (zsl sh) 5 [.ref k, .int v, .int (nI i), .int (nI n)] [] (zfill I k i v, J, r, sh) (zR none (zfill I k n v, J, r, sh))
  | 0, i, _, hf => by omega
  | f + 1, i, hi, hf => by
    refine z_iload_2 (pc := 5) dJ7_fill_53178_5 ?_
    refine z_iload_3 (pc := 6) dJ7_fill_53178_6 ?_
    refine z_icmp_ge (pc := 7) (tgt := 20) dJ7_fill_53178_7 (by decide) (fun c7 => ?_) (fun c7 => ?_)
    · skip
      refine z_ret (pc := 20) (r := none) rfl dJ7_fill_53178_20 trivial rfl rfl ?_
      have : i = n := by
        rcases Nat.lt_or_ge i n with q | q
        · exact absurd c7 (nI_ge q hn)
        · omega
      subst this
      exact ⟨rfl, rfl⟩
    · skip
      have hlt : i < n := by
        rcases Nat.lt_or_ge i n with q | q
        · exact q
        · exact absurd (nI_le q (by omega)) c7
      refine z_aload_0 (pc := 10) dJ7_fill_53178_10 ?_
      refine z_iload_2 (pc := 11) dJ7_fill_53178_11 ?_
      refine z_iload_1 (pc := 12) dJ7_fill_53178_12 ?_
      refine y_iastN (pc := 13) (i) dJ7_fill_53178_13 (by first | rfl | assumption) (rfl) (by omega) (by first | decide | omega) ?_
      refine z_iinc_2 (pc := 14) (1) dJ7_fill_53178_14 rfl (by decide) rfl ?_
      refine z_goto (pc := 17) (tgt := 5) dJ7_fill_53178_17 (by decide) ?_
      have k5 := fill_loop (l := l) (I := I) (J := J) (r := r) (v := v) hk hn f (i + 1) (by omega) (by omega)
      rw [← zfill_s, nI_succ] at k5
      exact k5
set_option maxRecDepth 100000 in
set_option maxHeartbeats 4000000 in
theorem qJ7_fill_53178 {l : zL} {I : Nat → Nat → Int32} {J : Nat → Nat → Int64} {r : Nat → Nat → Option Nat} {sh : List zSh}  {k n : Nat} {v : Int32} (hk : sh[k]? = some (10, n)) (hn : n < 2 ^ 31) : zP l mJ7_fill_53178 [.ref k, .int v] (I, J, r, sh) (zR none (zfill I k n v, J, r, sh)) := by
  refine z_start [.ref k, .int v, zno, zno] (by decide +kernel) (Nat.le_of_ble_eq_true rfl) rfl ?_
  refine z_iconst (pc := 0) (0) dJ7_fill_53178_0 rfl ?_
  refine z_istore_2 (pc := 1) dJ7_fill_53178_1 (by decide) rfl ?_
  refine z_aload_0 (pc := 2) dJ7_fill_53178_2 ?_
  refine y_alen (pc := 3) dJ7_fill_53178_3 (by first | rfl | assumption) ?_
  refine z_istore_3 (pc := 4) dJ7_fill_53178_4 (by decide) rfl ?_
  have q := fill_loop (l := l) (I := I) (J := J) (r := r) (v := v) hk hn (n + 1) 0 (Nat.zero_le _) (by omega)
  rw [zfill_0] at q
  exact q
set_option maxRecDepth 100000 in
set_option maxHeartbeats 4000000 in
theorem qX2_today {l : zL} {I : Nat → Nat → Int32} {J : Nat → Nat → Int64} {r : Nat → Nat → Option Nat} {sh : List zSh} {c k : Nat} (hc : sh[c]? = some (2, 0)) (hr : r c 0 = some k) (hk : sh[k]? = some (10, 19)) : zP l mX2_today [.ref c] (I, J, r, sh) (zR (some (.int (I k 0))) (I, J, r, sh)) := by
  refine z_start [.ref c] (by decide +kernel) (Nat.le_of_ble_eq_true rfl) rfl ?_
  refine z_aload_0 (pc := 0) dX2_today_0 ?_
  refine y_getR (pc := 1) dX2_today_1 flX2_11 rfl (by first | rfl | assumption) (by first | rfl | assumption) ?_
  refine z_iconst (pc := 4) (0) dX2_today_4 rfl ?_
  refine y_iald (pc := 5) dX2_today_5 (by first | rfl | assumption) (by first | assumption | (unfold vp_in; decide)) ?_
  refine z_ret (pc := 6) (r := some (.int _)) rfl dX2_today_6 trivial rfl rfl ?_
  exact ⟨rfl, rfl⟩
set_option maxRecDepth 100000 in
set_option maxHeartbeats 4000000 in
theorem qX2_isMissing {l : zL} {I : Nat → Nat → Int32} {J : Nat → Nat → Int64} {r : Nat → Nat → Option Nat} {sh : List zSh} {c k : Nat} (hc : sh[c]? = some (2, 0)) (hr : r c 0 = some k) (hk : sh[k]? = some (10, 19)) {x : Int32} (i : Nat) (hx : x = nI i) (hi : i < 4) : zP l mX2_isMissing [.ref c, .int x] (I, J, r, sh) (zR (some (.int (zb (I k (1 + i) = 0)))) (I, J, r, sh)) := by
  refine z_start [.ref c, .int x] (by decide +kernel) (Nat.le_of_ble_eq_true rfl) rfl ?_
  refine z_aload_0 (pc := 0) dX2_isMissing_0 ?_
  refine y_getR (pc := 1) dX2_isMissing_1 flX2_11 rfl (by first | rfl | assumption) (by first | rfl | assumption) ?_
  refine z_iconst (pc := 4) (1) dX2_isMissing_4 rfl ?_
  refine z_iload_1 (pc := 5) dX2_isMissing_5 ?_
  refine z_iadd (pc := 6) dX2_isMissing_6 ?_
  refine y_ialdN (pc := 7) (1 + i) dX2_isMissing_7 (by first | rfl | assumption) (by rw [hx]; exact nI_add 1 i) (by omega) (by first | decide | omega) ?_
  refine z_if_ne (pc := 8) (tgt := 15) dX2_isMissing_8 (by decide) (fun c8 => ?_) (fun c8 => ?_)
  · skip
    refine z_iconst (pc := 15) (0) dX2_isMissing_15 rfl ?_
    refine z_ret (pc := 16) (r := some (.int _)) rfl dX2_isMissing_16 (by first | exact Or.inl rfl | exact Or.inr rfl | assumption) rfl rfl ?_
    exact ⟨by simp [zb, *], rfl⟩
  · skip
    refine z_iconst (pc := 11) (1) dX2_isMissing_11 rfl ?_
    refine z_goto (pc := 12) (tgt := 16) dX2_isMissing_12 (by decide) ?_
    refine z_ret (pc := 16) (r := some (.int _)) rfl dX2_isMissing_16 (by first | exact Or.inl rfl | exact Or.inr rfl | assumption) rfl rfl ?_
    exact ⟨by simp [zb, *], rfl⟩
set_option maxRecDepth 100000 in
set_option maxHeartbeats 4000000 in
theorem qX2_whomOf {l : zL} {I : Nat → Nat → Int32} {J : Nat → Nat → Int64} {r : Nat → Nat → Option Nat} {sh : List zSh} {c k : Nat} (hc : sh[c]? = some (2, 0)) (hr : r c 0 = some k) (hk : sh[k]? = some (10, 19)) {x : Int32} (i : Nat) (hx : x = nI i) (hi : i < 4) : zP l mX2_whomOf [.ref c, .int x] (I, J, r, sh) (zR (some (.int (I k (1 + i) - 1))) (I, J, r, sh)) := by
  refine z_start [.ref c, .int x] (by decide +kernel) (Nat.le_of_ble_eq_true rfl) rfl ?_
  refine z_aload_0 (pc := 0) dX2_whomOf_0 ?_
  refine y_getR (pc := 1) dX2_whomOf_1 flX2_11 rfl (by first | rfl | assumption) (by first | rfl | assumption) ?_
  refine z_iconst (pc := 4) (1) dX2_whomOf_4 rfl ?_
  refine z_iload_1 (pc := 5) dX2_whomOf_5 ?_
  refine z_iadd (pc := 6) dX2_whomOf_6 ?_
  refine y_ialdN (pc := 7) (1 + i) dX2_whomOf_7 (by first | rfl | assumption) (by rw [hx]; exact nI_add 1 i) (by omega) (by first | decide | omega) ?_
  refine z_iconst (pc := 8) (1) dX2_whomOf_8 rfl ?_
  refine z_isub (pc := 9) dX2_whomOf_9 ?_
  refine z_ret (pc := 10) (r := some (.int _)) rfl dX2_whomOf_10 trivial rfl rfl ?_
  exact ⟨rfl, rfl⟩
set_option maxRecDepth 100000 in
set_option maxHeartbeats 4000000 in
theorem qX2_maltOf {l : zL} {I : Nat → Nat → Int32} {J : Nat → Nat → Int64} {r : Nat → Nat → Option Nat} {sh : List zSh} {c k : Nat} (hc : sh[c]? = some (2, 0)) (hr : r c 0 = some k) (hk : sh[k]? = some (10, 19)) {x : Int32} (i : Nat) (hx : x = nI i) (hi : i < 4) : zP l mX2_maltOf [.ref c, .int x] (I, J, r, sh) (zR (some (.int (I k (5 + i)))) (I, J, r, sh)) := by
  refine z_start [.ref c, .int x] (by decide +kernel) (Nat.le_of_ble_eq_true rfl) rfl ?_
  refine z_aload_0 (pc := 0) dX2_maltOf_0 ?_
  refine y_getR (pc := 1) dX2_maltOf_1 flX2_11 rfl (by first | rfl | assumption) (by first | rfl | assumption) ?_
  refine z_iconst (pc := 4) (5) dX2_maltOf_4 rfl ?_
  refine z_iload_1 (pc := 5) dX2_maltOf_5 ?_
  refine z_iadd (pc := 6) dX2_maltOf_6 ?_
  refine y_ialdN (pc := 7) (5 + i) dX2_maltOf_7 (by first | rfl | assumption) (by rw [hx]; exact nI_add 5 i) (by omega) (by first | decide | omega) ?_
  refine z_ret (pc := 8) (r := some (.int _)) rfl dX2_maltOf_8 trivial rfl rfl ?_
  exact ⟨rfl, rfl⟩
set_option maxRecDepth 100000 in
set_option maxHeartbeats 4000000 in
theorem qX2_ageOf {l : zL} {I : Nat → Nat → Int32} {J : Nat → Nat → Int64} {r : Nat → Nat → Option Nat} {sh : List zSh} {c k : Nat} (hc : sh[c]? = some (2, 0)) (hr : r c 0 = some k) (hk : sh[k]? = some (10, 19)) {x : Int32} (i : Nat) (hx : x = nI i) (hi : i < 4) : zP l mX2_ageOf [.ref c, .int x] (I, J, r, sh) (zR (some (.int (I k (9 + i)))) (I, J, r, sh)) := by
  refine z_start [.ref c, .int x] (by decide +kernel) (Nat.le_of_ble_eq_true rfl) rfl ?_
  refine z_aload_0 (pc := 0) dX2_ageOf_0 ?_
  refine y_getR (pc := 1) dX2_ageOf_1 flX2_11 rfl (by first | rfl | assumption) (by first | rfl | assumption) ?_
  refine z_bipush (pc := 4) (9) dX2_ageOf_4 rfl ?_
  refine z_iload_1 (pc := 6) dX2_ageOf_6 ?_
  refine z_iadd (pc := 7) dX2_ageOf_7 ?_
  refine y_ialdN (pc := 8) (9 + i) dX2_ageOf_8 (by first | rfl | assumption) (by rw [hx]; exact nI_add 9 i) (by omega) (by first | decide | omega) ?_
  refine z_ret (pc := 9) (r := some (.int _)) rfl dX2_ageOf_9 trivial rfl rfl ?_
  exact ⟨rfl, rfl⟩
set_option maxRecDepth 100000 in
set_option maxHeartbeats 4000000 in
theorem qX2_notesOf {l : zL} {I : Nat → Nat → Int32} {J : Nat → Nat → Int64} {r : Nat → Nat → Option Nat} {sh : List zSh} {c k : Nat} (hc : sh[c]? = some (2, 0)) (hr : r c 0 = some k) (hk : sh[k]? = some (10, 19)) {x : Int32} (i : Nat) (hx : x = nI i) (hi : i < 6) : zP l mX2_notesOf [.ref c, .int x] (I, J, r, sh) (zR (some (.int (I k (13 + i)))) (I, J, r, sh)) := by
  refine z_start [.ref c, .int x] (by decide +kernel) (Nat.le_of_ble_eq_true rfl) rfl ?_
  refine z_aload_0 (pc := 0) dX2_notesOf_0 ?_
  refine y_getR (pc := 1) dX2_notesOf_1 flX2_11 rfl (by first | rfl | assumption) (by first | rfl | assumption) ?_
  refine z_bipush (pc := 4) (13) dX2_notesOf_4 rfl ?_
  refine z_iload_1 (pc := 6) dX2_notesOf_6 ?_
  refine z_iadd (pc := 7) dX2_notesOf_7 ?_
  refine y_ialdN (pc := 8) (13 + i) dX2_notesOf_8 (by first | rfl | assumption) (by rw [hx]; exact nI_add 13 i) (by omega) (by first | decide | omega) ?_
  refine z_ret (pc := 9) (r := some (.int _)) rfl dX2_notesOf_9 trivial rfl rfl ?_
  exact ⟨rfl, rfl⟩
set_option maxRecDepth 100000 in
set_option maxHeartbeats 4000000 in
theorem qX2_maltOfBoth {l : zL} {I : Nat → Nat → Int32} {J : Nat → Nat → Int64} {r : Nat → Nat → Option Nat} {sh : List zSh} {c k : Nat} (hc : sh[c]? = some (2, 0)) (hr : r c 0 = some k) (hk : sh[k]? = some (10, 19)) {x : Int32} (i : Nat) (hx : x = nI i) (hi : i < 4) {y : Int32} (j : Nat) (hy : y = nI j) (hj : j < 4) : zP l mX2_maltOfBoth [.ref c, .int x, .int y] (I, J, r, sh) (zR (some (.int (if I k (5 + i) + I k (5 + j) < 20 then I k (5 + i) + I k (5 + j) else 20))) (I, J, r, sh)) := by
  refine z_start [.ref c, .int x, .int y] (by decide +kernel) (Nat.le_of_ble_eq_true rfl) rfl ?_
  refine z_bipush (pc := 0) (20) dX2_maltOfBoth_0 rfl ?_
  refine z_aload_0 (pc := 2) dX2_maltOfBoth_2 ?_
  refine z_iload_1 (pc := 3) dX2_maltOfBoth_3 ?_
  refine z_V1 (pc := 4) dX2_maltOfBoth_4 mlX2_27 kX2_maltOf vX2_maltOf (by decide) (by decide) (by first | rfl | assumption) (Nat.le_of_ble_eq_true rfl) (qX2_maltOf hc hr hk i hx hi) ⟨Nat.le_refl _, Nat.le_refl _⟩ (fun r h1 hq => ?_)
  obtain ⟨rfl, rfl⟩ := hq
  refine z_aload_0 (pc := 7) dX2_maltOfBoth_7 ?_
  refine z_iload_2 (pc := 8) dX2_maltOfBoth_8 ?_
  refine z_V1 (pc := 9) dX2_maltOfBoth_9 mlX2_27 kX2_maltOf vX2_maltOf (by decide) (by decide) (by first | rfl | assumption) (Nat.le_of_ble_eq_true rfl) (qX2_maltOf hc hr hk j hy hj) ⟨Nat.le_refl _, Nat.le_refl _⟩ (fun r h1 hq => ?_)
  obtain ⟨rfl, rfl⟩ := hq
  refine z_iadd (pc := 12) dX2_maltOfBoth_12 ?_
  refine z_mmin (pc := 13) dX2_maltOfBoth_13 mmX2_31 (by decide) (Nat.le_of_ble_eq_true rfl) ?_
  refine z_ret (pc := 16) (r := some (.int _)) rfl dX2_maltOfBoth_16 trivial rfl rfl ?_
  exact ⟨rfl, rfl⟩
set_option maxRecDepth 100000 in
set_option maxHeartbeats 4000000 in
theorem qX2_fill {l : zL} {I : Nat → Nat → Int32} {J : Nat → Nat → Int64} {r : Nat → Nat → Option Nat} {sh : List zSh} {c k : Nat} (hc : sh[c]? = some (2, 0)) (hr : r c 0 = some k) (hk : sh[k]? = some (10, 19)) {x : Int32} (i : Nat) (hx : x = nI i) (hi : i < 4) {w m : Int32} : zP l mX2_fill [.ref c, .int x, .int w, .int m] (I, J, r, sh) (zR none (zup (zup (zup (I) k (1 + i) (w + 1)) k (5 + i) (m)) k (9 + i) (0), J, r, sh)) := by
  refine z_start [.ref c, .int x, .int w, .int m] (by decide +kernel) (Nat.le_of_ble_eq_true rfl) rfl ?_
  refine z_aload_0 (pc := 0) dX2_fill_0 ?_
  refine y_getR (pc := 1) dX2_fill_1 flX2_11 rfl (by first | rfl | assumption) (by first | rfl | assumption) ?_
  refine z_iconst (pc := 4) (1) dX2_fill_4 rfl ?_
  refine z_iload_1 (pc := 5) dX2_fill_5 ?_
  refine z_iadd (pc := 6) dX2_fill_6 ?_
  refine z_iload_2 (pc := 7) dX2_fill_7 ?_
  refine z_iconst (pc := 8) (1) dX2_fill_8 rfl ?_
  refine z_iadd (pc := 9) dX2_fill_9 ?_
  refine y_iastN (pc := 10) (1 + i) dX2_fill_10 (by first | rfl | assumption) (by rw [hx]; exact nI_add 1 i) (by omega) (by first | decide | omega) ?_
  refine z_aload_0 (pc := 11) dX2_fill_11 ?_
  refine y_getR (pc := 12) dX2_fill_12 flX2_11 rfl (by first | rfl | assumption) (by first | rfl | assumption) ?_
  refine z_iconst (pc := 15) (5) dX2_fill_15 rfl ?_
  refine z_iload_1 (pc := 16) dX2_fill_16 ?_
  refine z_iadd (pc := 17) dX2_fill_17 ?_
  refine z_iload_3 (pc := 18) dX2_fill_18 ?_
  refine y_iastN (pc := 19) (5 + i) dX2_fill_19 (by first | rfl | assumption) (by rw [hx]; exact nI_add 5 i) (by omega) (by first | decide | omega) ?_
  refine z_aload_0 (pc := 20) dX2_fill_20 ?_
  refine y_getR (pc := 21) dX2_fill_21 flX2_11 rfl (by first | rfl | assumption) (by first | rfl | assumption) ?_
  refine z_bipush (pc := 24) (9) dX2_fill_24 rfl ?_
  refine z_iload_1 (pc := 26) dX2_fill_26 ?_
  refine z_iadd (pc := 27) dX2_fill_27 ?_
  refine z_iconst (pc := 28) (0) dX2_fill_28 rfl ?_
  refine y_iastN (pc := 29) (9 + i) dX2_fill_29 (by first | rfl | assumption) (by rw [hx]; exact nI_add 9 i) (by omega) (by first | decide | omega) ?_
  refine z_ret (pc := 30) (r := none) rfl dX2_fill_30 trivial rfl rfl ?_
  exact ⟨rfl, rfl⟩
set_option maxRecDepth 100000 in
set_option maxHeartbeats 4000000 in
theorem qX2_setMalt {l : zL} {I : Nat → Nat → Int32} {J : Nat → Nat → Int64} {r : Nat → Nat → Option Nat} {sh : List zSh} {c k : Nat} (hc : sh[c]? = some (2, 0)) (hr : r c 0 = some k) (hk : sh[k]? = some (10, 19)) {x : Int32} (i : Nat) (hx : x = nI i) (hi : i < 4) {m : Int32} : zP l mX2_setMalt [.ref c, .int x, .int m] (I, J, r, sh) (zR none (zup (I) k (5 + i) (m), J, r, sh)) := by
  refine z_start [.ref c, .int x, .int m] (by decide +kernel) (Nat.le_of_ble_eq_true rfl) rfl ?_
  refine z_aload_0 (pc := 0) dX2_setMalt_0 ?_
  refine y_getR (pc := 1) dX2_setMalt_1 flX2_11 rfl (by first | rfl | assumption) (by first | rfl | assumption) ?_
  refine z_iconst (pc := 4) (5) dX2_setMalt_4 rfl ?_
  refine z_iload_1 (pc := 5) dX2_setMalt_5 ?_
  refine z_iadd (pc := 6) dX2_setMalt_6 ?_
  refine z_iload_2 (pc := 7) dX2_setMalt_7 ?_
  refine y_iastN (pc := 8) (5 + i) dX2_setMalt_8 (by first | rfl | assumption) (by rw [hx]; exact nI_add 5 i) (by omega) (by first | decide | omega) ?_
  refine z_ret (pc := 9) (r := none) rfl dX2_setMalt_9 trivial rfl rfl ?_
  exact ⟨rfl, rfl⟩
set_option maxRecDepth 100000 in
set_option maxHeartbeats 4000000 in
theorem qX2_lose {l : zL} {I : Nat → Nat → Int32} {J : Nat → Nat → Int64} {r : Nat → Nat → Option Nat} {sh : List zSh} {c k : Nat} (hc : sh[c]? = some (2, 0)) (hr : r c 0 = some k) (hk : sh[k]? = some (10, 19)) {x : Int32} (i : Nat) (hx : x = nI i) (hi : i < 4) : zP l mX2_lose [.ref c, .int x] (I, J, r, sh) (zR none (zup (I) k (1 + i) (0), J, r, sh)) := by
  refine z_start [.ref c, .int x] (by decide +kernel) (Nat.le_of_ble_eq_true rfl) rfl ?_
  refine z_aload_0 (pc := 0) dX2_lose_0 ?_
  refine y_getR (pc := 1) dX2_lose_1 flX2_11 rfl (by first | rfl | assumption) (by first | rfl | assumption) ?_
  refine z_iconst (pc := 4) (1) dX2_lose_4 rfl ?_
  refine z_iload_1 (pc := 5) dX2_lose_5 ?_
  refine z_iadd (pc := 6) dX2_lose_6 ?_
  refine z_iconst (pc := 7) (0) dX2_lose_7 rfl ?_
  refine y_iastN (pc := 8) (1 + i) dX2_lose_8 (by first | rfl | assumption) (by rw [hx]; exact nI_add 1 i) (by omega) (by first | decide | omega) ?_
  refine z_ret (pc := 9) (r := none) rfl dX2_lose_9 trivial rfl rfl ?_
  exact ⟨rfl, rfl⟩
set_option maxRecDepth 100000 in
set_option maxHeartbeats 4000000 in
theorem qX2_note {l : zL} {I : Nat → Nat → Int32} {J : Nat → Nat → Int64} {r : Nat → Nat → Option Nat} {sh : List zSh} {c k : Nat} (hc : sh[c]? = some (2, 0)) (hr : r c 0 = some k) (hk : sh[k]? = some (10, 19)) {x : Int32} (i : Nat) (hx : x = nI i) (hi : i < 6) {m : Int32} : zP l mX2_note [.ref c, .int x, .int m] (I, J, r, sh) (zR none (zup (I) k (13 + i) (I k (13 + i) ||| m), J, r, sh)) := by
  refine z_start [.ref c, .int x, .int m] (by decide +kernel) (Nat.le_of_ble_eq_true rfl) rfl ?_
  refine z_aload_0 (pc := 0) dX2_note_0 ?_
  refine y_getR (pc := 1) dX2_note_1 flX2_11 rfl (by first | rfl | assumption) (by first | rfl | assumption) ?_
  refine z_bipush (pc := 4) (13) dX2_note_4 rfl ?_
  refine z_iload_1 (pc := 6) dX2_note_6 ?_
  refine z_iadd (pc := 7) dX2_note_7 ?_
  refine z_dup2 (pc := 8) rfl rfl dX2_note_8 ?_
  refine y_ialdN (pc := 9) (13 + i) dX2_note_9 (by first | rfl | assumption) (by rw [hx]; exact nI_add 13 i) (by omega) (by first | decide | omega) ?_
  refine z_iload_2 (pc := 10) dX2_note_10 ?_
  refine z_ior (pc := 11) dX2_note_11 ?_
  refine y_iastN (pc := 12) (13 + i) dX2_note_12 (by first | rfl | assumption) (by rw [hx]; exact nI_add 13 i) (by omega) (by first | decide | omega) ?_
  refine z_ret (pc := 13) (r := none) rfl dX2_note_13 trivial rfl rfl ?_
  exact ⟨rfl, rfl⟩
def zday (I : Nat → Nat → Int32) (k : Nat) : Nat → Nat → Int32 := fun a b => if a = k ∧ (b = 0 ∨ (9 ≤ b ∧ b < 13)) then I a b + 1 else I a b
theorem zday_eq (I : Nat → Nat → Int32) (k : Nat) : zup (zup (zup (zup (zup I k 0 (I k 0 + 1)) k 9 (I k 9 + 1)) k 10 (I k 10 + 1)) k 11 (I k 11 + 1)) k 12 (I k 12 + 1) = zday I k := by
  funext a b
  unfold zday zup
  by_cases ha : a = k
  · subst ha
    by_cases h0 : b = 0
    · subst h0; simp
    · by_cases h9 : b = 9
      · subst h9; simp
      · by_cases h10 : b = 10
        · subst h10; simp
        · by_cases h11 : b = 11
          · subst h11; simp
          · by_cases h12 : b = 12
            · subst h12; simp
            · have : ¬ (9 ≤ b ∧ b < 13) := by omega
              simp [h0, h9, h10, h11, h12, this]
  · simp [ha]
set_option maxRecDepth 100000 in
set_option maxHeartbeats 4000000 in
theorem qX2_passDay {l : zL} {I : Nat → Nat → Int32} {J : Nat → Nat → Int64} {r : Nat → Nat → Option Nat} {sh : List zSh} {c k : Nat} (hc : sh[c]? = some (2, 0)) (hr : r c 0 = some k) (hk : sh[k]? = some (10, 19)) : zP l mX2_passDay [.ref c] (I, J, r, sh) (zR none (zday I k, J, r, sh)) := by
  refine z_start [.ref c, zno] (by decide +kernel) (Nat.le_of_ble_eq_true rfl) rfl ?_
  refine z_aload_0 (pc := 0) dX2_passDay_0 ?_
  refine y_getR (pc := 1) dX2_passDay_1 flX2_11 rfl (by first | rfl | assumption) (by first | rfl | assumption) ?_
  refine z_iconst (pc := 4) (0) dX2_passDay_4 rfl ?_
  refine z_dup2 (pc := 5) rfl rfl dX2_passDay_5 ?_
  refine y_ialdN (pc := 6) (0) dX2_passDay_6 (by first | rfl | assumption) (by decide) (by decide) (by first | decide | omega) ?_
  refine z_iconst (pc := 7) (1) dX2_passDay_7 rfl ?_
  refine z_iadd (pc := 8) dX2_passDay_8 ?_
  refine y_iastN (pc := 9) (0) dX2_passDay_9 (by first | rfl | assumption) (by decide) (by decide) (by first | decide | omega) ?_
  refine z_iconst (pc := 10) (0) dX2_passDay_10 rfl ?_
  refine z_istore_1 (pc := 11) dX2_passDay_11 (by decide) rfl ?_
  refine z_iload_1 (pc := 12) dX2_passDay_12 ?_
  refine z_iconst (pc := 13) (4) dX2_passDay_13 rfl ?_
  refine z_icmp_ge (pc := 14) (tgt := 36) dX2_passDay_14 (by decide) (fun c14 => ?_) (fun c14 => ?_)
  · exact absurd c14 (by decide)
  · skip
    refine z_aload_0 (pc := 17) dX2_passDay_17 ?_
    refine y_getR (pc := 18) dX2_passDay_18 flX2_11 rfl (by first | rfl | assumption) (by first | rfl | assumption) ?_
    refine z_bipush (pc := 21) (9) dX2_passDay_21 rfl ?_
    refine z_iload_1 (pc := 23) dX2_passDay_23 ?_
    refine z_iadd (pc := 24) dX2_passDay_24 ?_
    refine z_dup2 (pc := 25) rfl rfl dX2_passDay_25 ?_
    refine y_ialdN (pc := 26) (9) dX2_passDay_26 (by first | rfl | assumption) (by decide) (by decide) (by first | decide | omega) ?_
    refine z_iconst (pc := 27) (1) dX2_passDay_27 rfl ?_
    refine z_iadd (pc := 28) dX2_passDay_28 ?_
    refine y_iastN (pc := 29) (9) dX2_passDay_29 (by first | rfl | assumption) (by decide) (by decide) (by first | decide | omega) ?_
    refine z_iinc_1 (pc := 30) (1) dX2_passDay_30 rfl (by decide) rfl ?_
    refine z_goto (pc := 33) (tgt := 12) dX2_passDay_33 (by decide) ?_
    refine z_iload_1 (pc := 12) dX2_passDay_12 ?_
    refine z_iconst (pc := 13) (4) dX2_passDay_13 rfl ?_
    refine z_icmp_ge (pc := 14) (tgt := 36) dX2_passDay_14 (by decide) (fun c14_2 => ?_) (fun c14_2 => ?_)
    · exact absurd c14_2 (by decide)
    · skip
      refine z_aload_0 (pc := 17) dX2_passDay_17 ?_
      refine y_getR (pc := 18) dX2_passDay_18 flX2_11 rfl (by first | rfl | assumption) (by first | rfl | assumption) ?_
      refine z_bipush (pc := 21) (9) dX2_passDay_21 rfl ?_
      refine z_iload_1 (pc := 23) dX2_passDay_23 ?_
      refine z_iadd (pc := 24) dX2_passDay_24 ?_
      refine z_dup2 (pc := 25) rfl rfl dX2_passDay_25 ?_
      refine y_ialdN (pc := 26) (10) dX2_passDay_26 (by first | rfl | assumption) (by decide) (by decide) (by first | decide | omega) ?_
      refine z_iconst (pc := 27) (1) dX2_passDay_27 rfl ?_
      refine z_iadd (pc := 28) dX2_passDay_28 ?_
      refine y_iastN (pc := 29) (10) dX2_passDay_29 (by first | rfl | assumption) (by decide) (by decide) (by first | decide | omega) ?_
      refine z_iinc_1 (pc := 30) (1) dX2_passDay_30 rfl (by decide) rfl ?_
      refine z_goto (pc := 33) (tgt := 12) dX2_passDay_33 (by decide) ?_
      refine z_iload_1 (pc := 12) dX2_passDay_12 ?_
      refine z_iconst (pc := 13) (4) dX2_passDay_13 rfl ?_
      refine z_icmp_ge (pc := 14) (tgt := 36) dX2_passDay_14 (by decide) (fun c14_3 => ?_) (fun c14_3 => ?_)
      · exact absurd c14_3 (by decide)
      · skip
        refine z_aload_0 (pc := 17) dX2_passDay_17 ?_
        refine y_getR (pc := 18) dX2_passDay_18 flX2_11 rfl (by first | rfl | assumption) (by first | rfl | assumption) ?_
        refine z_bipush (pc := 21) (9) dX2_passDay_21 rfl ?_
        refine z_iload_1 (pc := 23) dX2_passDay_23 ?_
        refine z_iadd (pc := 24) dX2_passDay_24 ?_
        refine z_dup2 (pc := 25) rfl rfl dX2_passDay_25 ?_
        refine y_ialdN (pc := 26) (11) dX2_passDay_26 (by first | rfl | assumption) (by decide) (by decide) (by first | decide | omega) ?_
        refine z_iconst (pc := 27) (1) dX2_passDay_27 rfl ?_
        refine z_iadd (pc := 28) dX2_passDay_28 ?_
        refine y_iastN (pc := 29) (11) dX2_passDay_29 (by first | rfl | assumption) (by decide) (by decide) (by first | decide | omega) ?_
        refine z_iinc_1 (pc := 30) (1) dX2_passDay_30 rfl (by decide) rfl ?_
        refine z_goto (pc := 33) (tgt := 12) dX2_passDay_33 (by decide) ?_
        refine z_iload_1 (pc := 12) dX2_passDay_12 ?_
        refine z_iconst (pc := 13) (4) dX2_passDay_13 rfl ?_
        refine z_icmp_ge (pc := 14) (tgt := 36) dX2_passDay_14 (by decide) (fun c14_4 => ?_) (fun c14_4 => ?_)
        · exact absurd c14_4 (by decide)
        · skip
          refine z_aload_0 (pc := 17) dX2_passDay_17 ?_
          refine y_getR (pc := 18) dX2_passDay_18 flX2_11 rfl (by first | rfl | assumption) (by first | rfl | assumption) ?_
          refine z_bipush (pc := 21) (9) dX2_passDay_21 rfl ?_
          refine z_iload_1 (pc := 23) dX2_passDay_23 ?_
          refine z_iadd (pc := 24) dX2_passDay_24 ?_
          refine z_dup2 (pc := 25) rfl rfl dX2_passDay_25 ?_
          refine y_ialdN (pc := 26) (12) dX2_passDay_26 (by first | rfl | assumption) (by decide) (by decide) (by first | decide | omega) ?_
          refine z_iconst (pc := 27) (1) dX2_passDay_27 rfl ?_
          refine z_iadd (pc := 28) dX2_passDay_28 ?_
          refine y_iastN (pc := 29) (12) dX2_passDay_29 (by first | rfl | assumption) (by decide) (by decide) (by first | decide | omega) ?_
          refine z_iinc_1 (pc := 30) (1) dX2_passDay_30 rfl (by decide) rfl ?_
          refine z_goto (pc := 33) (tgt := 12) dX2_passDay_33 (by decide) ?_
          refine z_iload_1 (pc := 12) dX2_passDay_12 ?_
          refine z_iconst (pc := 13) (4) dX2_passDay_13 rfl ?_
          refine z_icmp_ge (pc := 14) (tgt := 36) dX2_passDay_14 (by decide) (fun c14_5 => ?_) (fun c14_5 => ?_)
          · skip
            refine z_ret (pc := 36) (r := none) rfl dX2_passDay_36 trivial rfl rfl ?_
            exact ⟨rfl, by rw [← zday_eq]; simp [zup_same, zup_nj]⟩
          · exact absurd (by decide) c14_5
def zleast (I : Nat → Nat → Int32) (k : Nat) : Int32 := if I k 1 = 0 then 0 else if I k 2 = 0 then 1 else if I k 3 = 0 then 2 else if I k 4 = 0 then 3 else -1000000
set_option maxRecDepth 100000 in
set_option maxHeartbeats 4000000 in
theorem qX2_leastMissing {l : zL} {I : Nat → Nat → Int32} {J : Nat → Nat → Int64} {r : Nat → Nat → Option Nat} {sh : List zSh} {c k : Nat} (hc : sh[c]? = some (2, 0)) (hr : r c 0 = some k) (hk : sh[k]? = some (10, 19)) : zP l mX2_leastMissing [.ref c] (I, J, r, sh) (zR (some (.int (zleast I k))) (I, J, r, sh)) := by
  refine z_start [.ref c, zno] (by decide +kernel) (Nat.le_of_ble_eq_true rfl) rfl ?_
  refine z_iconst (pc := 0) (0) dX2_leastMissing_0 rfl ?_
  refine z_istore_1 (pc := 1) dX2_leastMissing_1 (by decide) rfl ?_
  refine z_iload_1 (pc := 2) dX2_leastMissing_2 ?_
  refine z_iconst (pc := 3) (4) dX2_leastMissing_3 rfl ?_
  refine z_icmp_ge (pc := 4) (tgt := 23) dX2_leastMissing_4 (by decide) (fun c4 => ?_) (fun c4 => ?_)
  · exact absurd c4 (by decide)
  · skip
    refine z_aload_0 (pc := 7) dX2_leastMissing_7 ?_
    refine z_iload_1 (pc := 8) dX2_leastMissing_8 ?_
    refine z_V1 (pc := 9) dX2_leastMissing_9 mlX2_37 kX2_isMissing vX2_isMissing (by decide) (by decide) (by first | rfl | assumption) (Nat.le_of_ble_eq_true rfl) (qX2_isMissing hc hr hk 0 (by decide) (by decide)) ⟨Nat.le_refl _, Nat.le_refl _⟩ (fun r h1 hq => ?_)
    obtain ⟨rfl, rfl⟩ := hq
    refine z_if_eq (pc := 12) (tgt := 17) dX2_leastMissing_12 (by decide) (fun c12 => ?_) (fun c12 => ?_)
    · skip
      refine z_iinc_1 (pc := 17) (1) dX2_leastMissing_17 rfl (by decide) rfl ?_
      refine z_goto (pc := 20) (tgt := 2) dX2_leastMissing_20 (by decide) ?_
      refine z_iload_1 (pc := 2) dX2_leastMissing_2 ?_
      refine z_iconst (pc := 3) (4) dX2_leastMissing_3 rfl ?_
      refine z_icmp_ge (pc := 4) (tgt := 23) dX2_leastMissing_4 (by decide) (fun c4_2 => ?_) (fun c4_2 => ?_)
      · exact absurd c4_2 (by decide)
      · skip
        refine z_aload_0 (pc := 7) dX2_leastMissing_7 ?_
        refine z_iload_1 (pc := 8) dX2_leastMissing_8 ?_
        refine z_V1 (pc := 9) dX2_leastMissing_9 mlX2_37 kX2_isMissing vX2_isMissing (by decide) (by decide) (by first | rfl | assumption) (Nat.le_of_ble_eq_true rfl) (qX2_isMissing hc hr hk 1 (by decide) (by decide)) ⟨Nat.le_refl _, Nat.le_refl _⟩ (fun r h1 hq => ?_)
        obtain ⟨rfl, rfl⟩ := hq
        refine z_if_eq (pc := 12) (tgt := 17) dX2_leastMissing_12 (by decide) (fun c12_2 => ?_) (fun c12_2 => ?_)
        · skip
          refine z_iinc_1 (pc := 17) (1) dX2_leastMissing_17 rfl (by decide) rfl ?_
          refine z_goto (pc := 20) (tgt := 2) dX2_leastMissing_20 (by decide) ?_
          refine z_iload_1 (pc := 2) dX2_leastMissing_2 ?_
          refine z_iconst (pc := 3) (4) dX2_leastMissing_3 rfl ?_
          refine z_icmp_ge (pc := 4) (tgt := 23) dX2_leastMissing_4 (by decide) (fun c4_3 => ?_) (fun c4_3 => ?_)
          · exact absurd c4_3 (by decide)
          · skip
            refine z_aload_0 (pc := 7) dX2_leastMissing_7 ?_
            refine z_iload_1 (pc := 8) dX2_leastMissing_8 ?_
            refine z_V1 (pc := 9) dX2_leastMissing_9 mlX2_37 kX2_isMissing vX2_isMissing (by decide) (by decide) (by first | rfl | assumption) (Nat.le_of_ble_eq_true rfl) (qX2_isMissing hc hr hk 2 (by decide) (by decide)) ⟨Nat.le_refl _, Nat.le_refl _⟩ (fun r h1 hq => ?_)
            obtain ⟨rfl, rfl⟩ := hq
            refine z_if_eq (pc := 12) (tgt := 17) dX2_leastMissing_12 (by decide) (fun c12_3 => ?_) (fun c12_3 => ?_)
            · skip
              refine z_iinc_1 (pc := 17) (1) dX2_leastMissing_17 rfl (by decide) rfl ?_
              refine z_goto (pc := 20) (tgt := 2) dX2_leastMissing_20 (by decide) ?_
              refine z_iload_1 (pc := 2) dX2_leastMissing_2 ?_
              refine z_iconst (pc := 3) (4) dX2_leastMissing_3 rfl ?_
              refine z_icmp_ge (pc := 4) (tgt := 23) dX2_leastMissing_4 (by decide) (fun c4_4 => ?_) (fun c4_4 => ?_)
              · exact absurd c4_4 (by decide)
              · skip
                refine z_aload_0 (pc := 7) dX2_leastMissing_7 ?_
                refine z_iload_1 (pc := 8) dX2_leastMissing_8 ?_
                refine z_V1 (pc := 9) dX2_leastMissing_9 mlX2_37 kX2_isMissing vX2_isMissing (by decide) (by decide) (by first | rfl | assumption) (Nat.le_of_ble_eq_true rfl) (qX2_isMissing hc hr hk 3 (by decide) (by decide)) ⟨Nat.le_refl _, Nat.le_refl _⟩ (fun r h1 hq => ?_)
                obtain ⟨rfl, rfl⟩ := hq
                refine z_if_eq (pc := 12) (tgt := 17) dX2_leastMissing_12 (by decide) (fun c12_4 => ?_) (fun c12_4 => ?_)
                · skip
                  refine z_iinc_1 (pc := 17) (1) dX2_leastMissing_17 rfl (by decide) rfl ?_
                  refine z_goto (pc := 20) (tgt := 2) dX2_leastMissing_20 (by decide) ?_
                  refine z_iload_1 (pc := 2) dX2_leastMissing_2 ?_
                  refine z_iconst (pc := 3) (4) dX2_leastMissing_3 rfl ?_
                  refine z_icmp_ge (pc := 4) (tgt := 23) dX2_leastMissing_4 (by decide) (fun c4_5 => ?_) (fun c4_5 => ?_)
                  · skip
                    refine z_ldc (pc := 23) dX2_leastMissing_23 kcX2_41 ?_
                    refine z_ret (pc := 25) (r := some (.int _)) rfl dX2_leastMissing_25 trivial rfl rfl ?_
                    simp only [zb_eq0, zb_ne0, Nat.reduceAdd, Classical.not_not] at *
                    exact ⟨by simp [zleast, *], rfl⟩
                  · exact absurd (by decide) c4_5
                · skip
                  refine z_iload_1 (pc := 15) dX2_leastMissing_15 ?_
                  refine z_ret (pc := 16) (r := some (.int _)) rfl dX2_leastMissing_16 trivial rfl rfl ?_
                  simp only [zb_eq0, zb_ne0, Nat.reduceAdd, Classical.not_not] at *
                  exact ⟨by simp [zleast, *], rfl⟩
            · skip
              refine z_iload_1 (pc := 15) dX2_leastMissing_15 ?_
              refine z_ret (pc := 16) (r := some (.int _)) rfl dX2_leastMissing_16 trivial rfl rfl ?_
              simp only [zb_eq0, zb_ne0, Nat.reduceAdd, Classical.not_not] at *
              exact ⟨by simp [zleast, *], rfl⟩
        · skip
          refine z_iload_1 (pc := 15) dX2_leastMissing_15 ?_
          refine z_ret (pc := 16) (r := some (.int _)) rfl dX2_leastMissing_16 trivial rfl rfl ?_
          simp only [zb_eq0, zb_ne0, Nat.reduceAdd, Classical.not_not] at *
          exact ⟨by simp [zleast, *], rfl⟩
    · skip
      refine z_iload_1 (pc := 15) dX2_leastMissing_15 ?_
      refine z_ret (pc := 16) (r := some (.int _)) rfl dX2_leastMissing_16 trivial rfl rfl ?_
      simp only [zb_eq0, zb_ne0, Nat.reduceAdd, Classical.not_not] at *
      exact ⟨by simp [zleast, *], rfl⟩
def zmany (I : Nat → Nat → Int32) (k : Nat) : Int32 := (if I k 1 = 0 then 0 else 1) + (if I k 2 = 0 then 0 else 1) + (if I k 3 = 0 then 0 else 1) + (if I k 4 = 0 then 0 else 1)
set_option maxRecDepth 100000 in
set_option maxHeartbeats 4000000 in
theorem qX2_howMany {l : zL} {I : Nat → Nat → Int32} {J : Nat → Nat → Int64} {r : Nat → Nat → Option Nat} {sh : List zSh} {c k : Nat} (hc : sh[c]? = some (2, 0)) (hr : r c 0 = some k) (hk : sh[k]? = some (10, 19)) : zP l mX2_howMany [.ref c] (I, J, r, sh) (zR (some (.int (zmany I k))) (I, J, r, sh)) := by
  refine z_start [.ref c, zno, zno] (by decide +kernel) (Nat.le_of_ble_eq_true rfl) rfl ?_
  refine z_iconst (pc := 0) (0) dX2_howMany_0 rfl ?_
  refine z_istore_1 (pc := 1) dX2_howMany_1 (by decide) rfl ?_
  refine z_iconst (pc := 2) (0) dX2_howMany_2 rfl ?_
  refine z_istore_2 (pc := 3) dX2_howMany_3 (by decide) rfl ?_
  refine z_iload_2 (pc := 4) dX2_howMany_4 ?_
  refine z_iconst (pc := 5) (4) dX2_howMany_5 rfl ?_
  refine z_icmp_ge (pc := 6) (tgt := 26) dX2_howMany_6 (by decide) (fun c6 => ?_) (fun c6 => ?_)
  · exact absurd c6 (by decide)
  · skip
    refine z_aload_0 (pc := 9) dX2_howMany_9 ?_
    refine z_iload_2 (pc := 10) dX2_howMany_10 ?_
    refine z_V1 (pc := 11) dX2_howMany_11 mlX2_37 kX2_isMissing vX2_isMissing (by decide) (by decide) (by first | rfl | assumption) (Nat.le_of_ble_eq_true rfl) (qX2_isMissing hc hr hk 0 (by decide) (by decide)) ⟨Nat.le_refl _, Nat.le_refl _⟩ (fun r h1 hq => ?_)
    obtain ⟨rfl, rfl⟩ := hq
    refine z_if_ne (pc := 14) (tgt := 20) dX2_howMany_14 (by decide) (fun c14 => ?_) (fun c14 => ?_)
    · skip
      refine z_iinc_2 (pc := 20) (1) dX2_howMany_20 rfl (by decide) rfl ?_
      refine z_goto (pc := 23) (tgt := 4) dX2_howMany_23 (by decide) ?_
      refine z_iload_2 (pc := 4) dX2_howMany_4 ?_
      refine z_iconst (pc := 5) (4) dX2_howMany_5 rfl ?_
      refine z_icmp_ge (pc := 6) (tgt := 26) dX2_howMany_6 (by decide) (fun c6_2 => ?_) (fun c6_2 => ?_)
      · exact absurd c6_2 (by decide)
      · skip
        refine z_aload_0 (pc := 9) dX2_howMany_9 ?_
        refine z_iload_2 (pc := 10) dX2_howMany_10 ?_
        refine z_V1 (pc := 11) dX2_howMany_11 mlX2_37 kX2_isMissing vX2_isMissing (by decide) (by decide) (by first | rfl | assumption) (Nat.le_of_ble_eq_true rfl) (qX2_isMissing hc hr hk 1 (by decide) (by decide)) ⟨Nat.le_refl _, Nat.le_refl _⟩ (fun r h1 hq => ?_)
        obtain ⟨rfl, rfl⟩ := hq
        refine z_if_ne (pc := 14) (tgt := 20) dX2_howMany_14 (by decide) (fun c14_2 => ?_) (fun c14_2 => ?_)
        · skip
          refine z_iinc_2 (pc := 20) (1) dX2_howMany_20 rfl (by decide) rfl ?_
          refine z_goto (pc := 23) (tgt := 4) dX2_howMany_23 (by decide) ?_
          refine z_iload_2 (pc := 4) dX2_howMany_4 ?_
          refine z_iconst (pc := 5) (4) dX2_howMany_5 rfl ?_
          refine z_icmp_ge (pc := 6) (tgt := 26) dX2_howMany_6 (by decide) (fun c6_3 => ?_) (fun c6_3 => ?_)
          · exact absurd c6_3 (by decide)
          · skip
            refine z_aload_0 (pc := 9) dX2_howMany_9 ?_
            refine z_iload_2 (pc := 10) dX2_howMany_10 ?_
            refine z_V1 (pc := 11) dX2_howMany_11 mlX2_37 kX2_isMissing vX2_isMissing (by decide) (by decide) (by first | rfl | assumption) (Nat.le_of_ble_eq_true rfl) (qX2_isMissing hc hr hk 2 (by decide) (by decide)) ⟨Nat.le_refl _, Nat.le_refl _⟩ (fun r h1 hq => ?_)
            obtain ⟨rfl, rfl⟩ := hq
            refine z_if_ne (pc := 14) (tgt := 20) dX2_howMany_14 (by decide) (fun c14_3 => ?_) (fun c14_3 => ?_)
            · skip
              refine z_iinc_2 (pc := 20) (1) dX2_howMany_20 rfl (by decide) rfl ?_
              refine z_goto (pc := 23) (tgt := 4) dX2_howMany_23 (by decide) ?_
              refine z_iload_2 (pc := 4) dX2_howMany_4 ?_
              refine z_iconst (pc := 5) (4) dX2_howMany_5 rfl ?_
              refine z_icmp_ge (pc := 6) (tgt := 26) dX2_howMany_6 (by decide) (fun c6_4 => ?_) (fun c6_4 => ?_)
              · exact absurd c6_4 (by decide)
              · skip
                refine z_aload_0 (pc := 9) dX2_howMany_9 ?_
                refine z_iload_2 (pc := 10) dX2_howMany_10 ?_
                refine z_V1 (pc := 11) dX2_howMany_11 mlX2_37 kX2_isMissing vX2_isMissing (by decide) (by decide) (by first | rfl | assumption) (Nat.le_of_ble_eq_true rfl) (qX2_isMissing hc hr hk 3 (by decide) (by decide)) ⟨Nat.le_refl _, Nat.le_refl _⟩ (fun r h1 hq => ?_)
                obtain ⟨rfl, rfl⟩ := hq
                refine z_if_ne (pc := 14) (tgt := 20) dX2_howMany_14 (by decide) (fun c14_4 => ?_) (fun c14_4 => ?_)
                · skip
                  refine z_iinc_2 (pc := 20) (1) dX2_howMany_20 rfl (by decide) rfl ?_
                  refine z_goto (pc := 23) (tgt := 4) dX2_howMany_23 (by decide) ?_
                  refine z_iload_2 (pc := 4) dX2_howMany_4 ?_
                  refine z_iconst (pc := 5) (4) dX2_howMany_5 rfl ?_
                  refine z_icmp_ge (pc := 6) (tgt := 26) dX2_howMany_6 (by decide) (fun c6_5 => ?_) (fun c6_5 => ?_)
                  · skip
                    refine z_iload_1 (pc := 26) dX2_howMany_26 ?_
                    refine z_ret (pc := 27) (r := some (.int _)) rfl dX2_howMany_27 trivial rfl rfl ?_
                    simp only [zb_eq0, zb_ne0, Nat.reduceAdd, Classical.not_not] at *
                    exact ⟨by simp [zmany, *], rfl⟩
                  · exact absurd (by decide) c6_5
                · skip
                  refine z_iinc_1 (pc := 17) (1) dX2_howMany_17 rfl (by decide) rfl ?_
                  refine z_iinc_2 (pc := 20) (1) dX2_howMany_20 rfl (by decide) rfl ?_
                  refine z_goto (pc := 23) (tgt := 4) dX2_howMany_23 (by decide) ?_
                  refine z_iload_2 (pc := 4) dX2_howMany_4 ?_
                  refine z_iconst (pc := 5) (4) dX2_howMany_5 rfl ?_
                  refine z_icmp_ge (pc := 6) (tgt := 26) dX2_howMany_6 (by decide) (fun c6_5 => ?_) (fun c6_5 => ?_)
                  · skip
                    refine z_iload_1 (pc := 26) dX2_howMany_26 ?_
                    refine z_ret (pc := 27) (r := some (.int _)) rfl dX2_howMany_27 trivial rfl rfl ?_
                    simp only [zb_eq0, zb_ne0, Nat.reduceAdd, Classical.not_not] at *
                    exact ⟨by simp [zmany, *], rfl⟩
                  · exact absurd (by decide) c6_5
            · skip
              refine z_iinc_1 (pc := 17) (1) dX2_howMany_17 rfl (by decide) rfl ?_
              refine z_iinc_2 (pc := 20) (1) dX2_howMany_20 rfl (by decide) rfl ?_
              refine z_goto (pc := 23) (tgt := 4) dX2_howMany_23 (by decide) ?_
              refine z_iload_2 (pc := 4) dX2_howMany_4 ?_
              refine z_iconst (pc := 5) (4) dX2_howMany_5 rfl ?_
              refine z_icmp_ge (pc := 6) (tgt := 26) dX2_howMany_6 (by decide) (fun c6_4 => ?_) (fun c6_4 => ?_)
              · exact absurd c6_4 (by decide)
              · skip
                refine z_aload_0 (pc := 9) dX2_howMany_9 ?_
                refine z_iload_2 (pc := 10) dX2_howMany_10 ?_
                refine z_V1 (pc := 11) dX2_howMany_11 mlX2_37 kX2_isMissing vX2_isMissing (by decide) (by decide) (by first | rfl | assumption) (Nat.le_of_ble_eq_true rfl) (qX2_isMissing hc hr hk 3 (by decide) (by decide)) ⟨Nat.le_refl _, Nat.le_refl _⟩ (fun r h1 hq => ?_)
                obtain ⟨rfl, rfl⟩ := hq
                refine z_if_ne (pc := 14) (tgt := 20) dX2_howMany_14 (by decide) (fun c14_4 => ?_) (fun c14_4 => ?_)
                · skip
                  refine z_iinc_2 (pc := 20) (1) dX2_howMany_20 rfl (by decide) rfl ?_
                  refine z_goto (pc := 23) (tgt := 4) dX2_howMany_23 (by decide) ?_
                  refine z_iload_2 (pc := 4) dX2_howMany_4 ?_
                  refine z_iconst (pc := 5) (4) dX2_howMany_5 rfl ?_
                  refine z_icmp_ge (pc := 6) (tgt := 26) dX2_howMany_6 (by decide) (fun c6_5 => ?_) (fun c6_5 => ?_)
                  · skip
                    refine z_iload_1 (pc := 26) dX2_howMany_26 ?_
                    refine z_ret (pc := 27) (r := some (.int _)) rfl dX2_howMany_27 trivial rfl rfl ?_
                    simp only [zb_eq0, zb_ne0, Nat.reduceAdd, Classical.not_not] at *
                    exact ⟨by simp [zmany, *], rfl⟩
                  · exact absurd (by decide) c6_5
                · skip
                  refine z_iinc_1 (pc := 17) (1) dX2_howMany_17 rfl (by decide) rfl ?_
                  refine z_iinc_2 (pc := 20) (1) dX2_howMany_20 rfl (by decide) rfl ?_
                  refine z_goto (pc := 23) (tgt := 4) dX2_howMany_23 (by decide) ?_
                  refine z_iload_2 (pc := 4) dX2_howMany_4 ?_
                  refine z_iconst (pc := 5) (4) dX2_howMany_5 rfl ?_
                  refine z_icmp_ge (pc := 6) (tgt := 26) dX2_howMany_6 (by decide) (fun c6_5 => ?_) (fun c6_5 => ?_)
                  · skip
                    refine z_iload_1 (pc := 26) dX2_howMany_26 ?_
                    refine z_ret (pc := 27) (r := some (.int _)) rfl dX2_howMany_27 trivial rfl rfl ?_
                    simp only [zb_eq0, zb_ne0, Nat.reduceAdd, Classical.not_not] at *
                    exact ⟨by simp [zmany, *], rfl⟩
                  · exact absurd (by decide) c6_5
        · skip
          refine z_iinc_1 (pc := 17) (1) dX2_howMany_17 rfl (by decide) rfl ?_
          refine z_iinc_2 (pc := 20) (1) dX2_howMany_20 rfl (by decide) rfl ?_
          refine z_goto (pc := 23) (tgt := 4) dX2_howMany_23 (by decide) ?_
          refine z_iload_2 (pc := 4) dX2_howMany_4 ?_
          refine z_iconst (pc := 5) (4) dX2_howMany_5 rfl ?_
          refine z_icmp_ge (pc := 6) (tgt := 26) dX2_howMany_6 (by decide) (fun c6_3 => ?_) (fun c6_3 => ?_)
          · exact absurd c6_3 (by decide)
          · skip
            refine z_aload_0 (pc := 9) dX2_howMany_9 ?_
            refine z_iload_2 (pc := 10) dX2_howMany_10 ?_
            refine z_V1 (pc := 11) dX2_howMany_11 mlX2_37 kX2_isMissing vX2_isMissing (by decide) (by decide) (by first | rfl | assumption) (Nat.le_of_ble_eq_true rfl) (qX2_isMissing hc hr hk 2 (by decide) (by decide)) ⟨Nat.le_refl _, Nat.le_refl _⟩ (fun r h1 hq => ?_)
            obtain ⟨rfl, rfl⟩ := hq
            refine z_if_ne (pc := 14) (tgt := 20) dX2_howMany_14 (by decide) (fun c14_3 => ?_) (fun c14_3 => ?_)
            · skip
              refine z_iinc_2 (pc := 20) (1) dX2_howMany_20 rfl (by decide) rfl ?_
              refine z_goto (pc := 23) (tgt := 4) dX2_howMany_23 (by decide) ?_
              refine z_iload_2 (pc := 4) dX2_howMany_4 ?_
              refine z_iconst (pc := 5) (4) dX2_howMany_5 rfl ?_
              refine z_icmp_ge (pc := 6) (tgt := 26) dX2_howMany_6 (by decide) (fun c6_4 => ?_) (fun c6_4 => ?_)
              · exact absurd c6_4 (by decide)
              · skip
                refine z_aload_0 (pc := 9) dX2_howMany_9 ?_
                refine z_iload_2 (pc := 10) dX2_howMany_10 ?_
                refine z_V1 (pc := 11) dX2_howMany_11 mlX2_37 kX2_isMissing vX2_isMissing (by decide) (by decide) (by first | rfl | assumption) (Nat.le_of_ble_eq_true rfl) (qX2_isMissing hc hr hk 3 (by decide) (by decide)) ⟨Nat.le_refl _, Nat.le_refl _⟩ (fun r h1 hq => ?_)
                obtain ⟨rfl, rfl⟩ := hq
                refine z_if_ne (pc := 14) (tgt := 20) dX2_howMany_14 (by decide) (fun c14_4 => ?_) (fun c14_4 => ?_)
                · skip
                  refine z_iinc_2 (pc := 20) (1) dX2_howMany_20 rfl (by decide) rfl ?_
                  refine z_goto (pc := 23) (tgt := 4) dX2_howMany_23 (by decide) ?_
                  refine z_iload_2 (pc := 4) dX2_howMany_4 ?_
                  refine z_iconst (pc := 5) (4) dX2_howMany_5 rfl ?_
                  refine z_icmp_ge (pc := 6) (tgt := 26) dX2_howMany_6 (by decide) (fun c6_5 => ?_) (fun c6_5 => ?_)
                  · skip
                    refine z_iload_1 (pc := 26) dX2_howMany_26 ?_
                    refine z_ret (pc := 27) (r := some (.int _)) rfl dX2_howMany_27 trivial rfl rfl ?_
                    simp only [zb_eq0, zb_ne0, Nat.reduceAdd, Classical.not_not] at *
                    exact ⟨by simp [zmany, *], rfl⟩
                  · exact absurd (by decide) c6_5
                · skip
                  refine z_iinc_1 (pc := 17) (1) dX2_howMany_17 rfl (by decide) rfl ?_
                  refine z_iinc_2 (pc := 20) (1) dX2_howMany_20 rfl (by decide) rfl ?_
                  refine z_goto (pc := 23) (tgt := 4) dX2_howMany_23 (by decide) ?_
                  refine z_iload_2 (pc := 4) dX2_howMany_4 ?_
                  refine z_iconst (pc := 5) (4) dX2_howMany_5 rfl ?_
                  refine z_icmp_ge (pc := 6) (tgt := 26) dX2_howMany_6 (by decide) (fun c6_5 => ?_) (fun c6_5 => ?_)
                  · skip
                    refine z_iload_1 (pc := 26) dX2_howMany_26 ?_
                    refine z_ret (pc := 27) (r := some (.int _)) rfl dX2_howMany_27 trivial rfl rfl ?_
                    simp only [zb_eq0, zb_ne0, Nat.reduceAdd, Classical.not_not] at *
                    exact ⟨by simp [zmany, *], rfl⟩
                  · exact absurd (by decide) c6_5
            · skip
              refine z_iinc_1 (pc := 17) (1) dX2_howMany_17 rfl (by decide) rfl ?_
              refine z_iinc_2 (pc := 20) (1) dX2_howMany_20 rfl (by decide) rfl ?_
              refine z_goto (pc := 23) (tgt := 4) dX2_howMany_23 (by decide) ?_
              refine z_iload_2 (pc := 4) dX2_howMany_4 ?_
              refine z_iconst (pc := 5) (4) dX2_howMany_5 rfl ?_
              refine z_icmp_ge (pc := 6) (tgt := 26) dX2_howMany_6 (by decide) (fun c6_4 => ?_) (fun c6_4 => ?_)
              · exact absurd c6_4 (by decide)
              · skip
                refine z_aload_0 (pc := 9) dX2_howMany_9 ?_
                refine z_iload_2 (pc := 10) dX2_howMany_10 ?_
                refine z_V1 (pc := 11) dX2_howMany_11 mlX2_37 kX2_isMissing vX2_isMissing (by decide) (by decide) (by first | rfl | assumption) (Nat.le_of_ble_eq_true rfl) (qX2_isMissing hc hr hk 3 (by decide) (by decide)) ⟨Nat.le_refl _, Nat.le_refl _⟩ (fun r h1 hq => ?_)
                obtain ⟨rfl, rfl⟩ := hq
                refine z_if_ne (pc := 14) (tgt := 20) dX2_howMany_14 (by decide) (fun c14_4 => ?_) (fun c14_4 => ?_)
                · skip
                  refine z_iinc_2 (pc := 20) (1) dX2_howMany_20 rfl (by decide) rfl ?_
                  refine z_goto (pc := 23) (tgt := 4) dX2_howMany_23 (by decide) ?_
                  refine z_iload_2 (pc := 4) dX2_howMany_4 ?_
                  refine z_iconst (pc := 5) (4) dX2_howMany_5 rfl ?_
                  refine z_icmp_ge (pc := 6) (tgt := 26) dX2_howMany_6 (by decide) (fun c6_5 => ?_) (fun c6_5 => ?_)
                  · skip
                    refine z_iload_1 (pc := 26) dX2_howMany_26 ?_
                    refine z_ret (pc := 27) (r := some (.int _)) rfl dX2_howMany_27 trivial rfl rfl ?_
                    simp only [zb_eq0, zb_ne0, Nat.reduceAdd, Classical.not_not] at *
                    exact ⟨by simp [zmany, *], rfl⟩
                  · exact absurd (by decide) c6_5
                · skip
                  refine z_iinc_1 (pc := 17) (1) dX2_howMany_17 rfl (by decide) rfl ?_
                  refine z_iinc_2 (pc := 20) (1) dX2_howMany_20 rfl (by decide) rfl ?_
                  refine z_goto (pc := 23) (tgt := 4) dX2_howMany_23 (by decide) ?_
                  refine z_iload_2 (pc := 4) dX2_howMany_4 ?_
                  refine z_iconst (pc := 5) (4) dX2_howMany_5 rfl ?_
                  refine z_icmp_ge (pc := 6) (tgt := 26) dX2_howMany_6 (by decide) (fun c6_5 => ?_) (fun c6_5 => ?_)
                  · skip
                    refine z_iload_1 (pc := 26) dX2_howMany_26 ?_
                    refine z_ret (pc := 27) (r := some (.int _)) rfl dX2_howMany_27 trivial rfl rfl ?_
                    simp only [zb_eq0, zb_ne0, Nat.reduceAdd, Classical.not_not] at *
                    exact ⟨by simp [zmany, *], rfl⟩
                  · exact absurd (by decide) c6_5
    · skip
      refine z_iinc_1 (pc := 17) (1) dX2_howMany_17 rfl (by decide) rfl ?_
      refine z_iinc_2 (pc := 20) (1) dX2_howMany_20 rfl (by decide) rfl ?_
      refine z_goto (pc := 23) (tgt := 4) dX2_howMany_23 (by decide) ?_
      refine z_iload_2 (pc := 4) dX2_howMany_4 ?_
      refine z_iconst (pc := 5) (4) dX2_howMany_5 rfl ?_
      refine z_icmp_ge (pc := 6) (tgt := 26) dX2_howMany_6 (by decide) (fun c6_2 => ?_) (fun c6_2 => ?_)
      · exact absurd c6_2 (by decide)
      · skip
        refine z_aload_0 (pc := 9) dX2_howMany_9 ?_
        refine z_iload_2 (pc := 10) dX2_howMany_10 ?_
        refine z_V1 (pc := 11) dX2_howMany_11 mlX2_37 kX2_isMissing vX2_isMissing (by decide) (by decide) (by first | rfl | assumption) (Nat.le_of_ble_eq_true rfl) (qX2_isMissing hc hr hk 1 (by decide) (by decide)) ⟨Nat.le_refl _, Nat.le_refl _⟩ (fun r h1 hq => ?_)
        obtain ⟨rfl, rfl⟩ := hq
        refine z_if_ne (pc := 14) (tgt := 20) dX2_howMany_14 (by decide) (fun c14_2 => ?_) (fun c14_2 => ?_)
        · skip
          refine z_iinc_2 (pc := 20) (1) dX2_howMany_20 rfl (by decide) rfl ?_
          refine z_goto (pc := 23) (tgt := 4) dX2_howMany_23 (by decide) ?_
          refine z_iload_2 (pc := 4) dX2_howMany_4 ?_
          refine z_iconst (pc := 5) (4) dX2_howMany_5 rfl ?_
          refine z_icmp_ge (pc := 6) (tgt := 26) dX2_howMany_6 (by decide) (fun c6_3 => ?_) (fun c6_3 => ?_)
          · exact absurd c6_3 (by decide)
          · skip
            refine z_aload_0 (pc := 9) dX2_howMany_9 ?_
            refine z_iload_2 (pc := 10) dX2_howMany_10 ?_
            refine z_V1 (pc := 11) dX2_howMany_11 mlX2_37 kX2_isMissing vX2_isMissing (by decide) (by decide) (by first | rfl | assumption) (Nat.le_of_ble_eq_true rfl) (qX2_isMissing hc hr hk 2 (by decide) (by decide)) ⟨Nat.le_refl _, Nat.le_refl _⟩ (fun r h1 hq => ?_)
            obtain ⟨rfl, rfl⟩ := hq
            refine z_if_ne (pc := 14) (tgt := 20) dX2_howMany_14 (by decide) (fun c14_3 => ?_) (fun c14_3 => ?_)
            · skip
              refine z_iinc_2 (pc := 20) (1) dX2_howMany_20 rfl (by decide) rfl ?_
              refine z_goto (pc := 23) (tgt := 4) dX2_howMany_23 (by decide) ?_
              refine z_iload_2 (pc := 4) dX2_howMany_4 ?_
              refine z_iconst (pc := 5) (4) dX2_howMany_5 rfl ?_
              refine z_icmp_ge (pc := 6) (tgt := 26) dX2_howMany_6 (by decide) (fun c6_4 => ?_) (fun c6_4 => ?_)
              · exact absurd c6_4 (by decide)
              · skip
                refine z_aload_0 (pc := 9) dX2_howMany_9 ?_
                refine z_iload_2 (pc := 10) dX2_howMany_10 ?_
                refine z_V1 (pc := 11) dX2_howMany_11 mlX2_37 kX2_isMissing vX2_isMissing (by decide) (by decide) (by first | rfl | assumption) (Nat.le_of_ble_eq_true rfl) (qX2_isMissing hc hr hk 3 (by decide) (by decide)) ⟨Nat.le_refl _, Nat.le_refl _⟩ (fun r h1 hq => ?_)
                obtain ⟨rfl, rfl⟩ := hq
                refine z_if_ne (pc := 14) (tgt := 20) dX2_howMany_14 (by decide) (fun c14_4 => ?_) (fun c14_4 => ?_)
                · skip
                  refine z_iinc_2 (pc := 20) (1) dX2_howMany_20 rfl (by decide) rfl ?_
                  refine z_goto (pc := 23) (tgt := 4) dX2_howMany_23 (by decide) ?_
                  refine z_iload_2 (pc := 4) dX2_howMany_4 ?_
                  refine z_iconst (pc := 5) (4) dX2_howMany_5 rfl ?_
                  refine z_icmp_ge (pc := 6) (tgt := 26) dX2_howMany_6 (by decide) (fun c6_5 => ?_) (fun c6_5 => ?_)
                  · skip
                    refine z_iload_1 (pc := 26) dX2_howMany_26 ?_
                    refine z_ret (pc := 27) (r := some (.int _)) rfl dX2_howMany_27 trivial rfl rfl ?_
                    simp only [zb_eq0, zb_ne0, Nat.reduceAdd, Classical.not_not] at *
                    exact ⟨by simp [zmany, *], rfl⟩
                  · exact absurd (by decide) c6_5
                · skip
                  refine z_iinc_1 (pc := 17) (1) dX2_howMany_17 rfl (by decide) rfl ?_
                  refine z_iinc_2 (pc := 20) (1) dX2_howMany_20 rfl (by decide) rfl ?_
                  refine z_goto (pc := 23) (tgt := 4) dX2_howMany_23 (by decide) ?_
                  refine z_iload_2 (pc := 4) dX2_howMany_4 ?_
                  refine z_iconst (pc := 5) (4) dX2_howMany_5 rfl ?_
                  refine z_icmp_ge (pc := 6) (tgt := 26) dX2_howMany_6 (by decide) (fun c6_5 => ?_) (fun c6_5 => ?_)
                  · skip
                    refine z_iload_1 (pc := 26) dX2_howMany_26 ?_
                    refine z_ret (pc := 27) (r := some (.int _)) rfl dX2_howMany_27 trivial rfl rfl ?_
                    simp only [zb_eq0, zb_ne0, Nat.reduceAdd, Classical.not_not] at *
                    exact ⟨by simp [zmany, *], rfl⟩
                  · exact absurd (by decide) c6_5
            · skip
              refine z_iinc_1 (pc := 17) (1) dX2_howMany_17 rfl (by decide) rfl ?_
              refine z_iinc_2 (pc := 20) (1) dX2_howMany_20 rfl (by decide) rfl ?_
              refine z_goto (pc := 23) (tgt := 4) dX2_howMany_23 (by decide) ?_
              refine z_iload_2 (pc := 4) dX2_howMany_4 ?_
              refine z_iconst (pc := 5) (4) dX2_howMany_5 rfl ?_
              refine z_icmp_ge (pc := 6) (tgt := 26) dX2_howMany_6 (by decide) (fun c6_4 => ?_) (fun c6_4 => ?_)
              · exact absurd c6_4 (by decide)
              · skip
                refine z_aload_0 (pc := 9) dX2_howMany_9 ?_
                refine z_iload_2 (pc := 10) dX2_howMany_10 ?_
                refine z_V1 (pc := 11) dX2_howMany_11 mlX2_37 kX2_isMissing vX2_isMissing (by decide) (by decide) (by first | rfl | assumption) (Nat.le_of_ble_eq_true rfl) (qX2_isMissing hc hr hk 3 (by decide) (by decide)) ⟨Nat.le_refl _, Nat.le_refl _⟩ (fun r h1 hq => ?_)
                obtain ⟨rfl, rfl⟩ := hq
                refine z_if_ne (pc := 14) (tgt := 20) dX2_howMany_14 (by decide) (fun c14_4 => ?_) (fun c14_4 => ?_)
                · skip
                  refine z_iinc_2 (pc := 20) (1) dX2_howMany_20 rfl (by decide) rfl ?_
                  refine z_goto (pc := 23) (tgt := 4) dX2_howMany_23 (by decide) ?_
                  refine z_iload_2 (pc := 4) dX2_howMany_4 ?_
                  refine z_iconst (pc := 5) (4) dX2_howMany_5 rfl ?_
                  refine z_icmp_ge (pc := 6) (tgt := 26) dX2_howMany_6 (by decide) (fun c6_5 => ?_) (fun c6_5 => ?_)
                  · skip
                    refine z_iload_1 (pc := 26) dX2_howMany_26 ?_
                    refine z_ret (pc := 27) (r := some (.int _)) rfl dX2_howMany_27 trivial rfl rfl ?_
                    simp only [zb_eq0, zb_ne0, Nat.reduceAdd, Classical.not_not] at *
                    exact ⟨by simp [zmany, *], rfl⟩
                  · exact absurd (by decide) c6_5
                · skip
                  refine z_iinc_1 (pc := 17) (1) dX2_howMany_17 rfl (by decide) rfl ?_
                  refine z_iinc_2 (pc := 20) (1) dX2_howMany_20 rfl (by decide) rfl ?_
                  refine z_goto (pc := 23) (tgt := 4) dX2_howMany_23 (by decide) ?_
                  refine z_iload_2 (pc := 4) dX2_howMany_4 ?_
                  refine z_iconst (pc := 5) (4) dX2_howMany_5 rfl ?_
                  refine z_icmp_ge (pc := 6) (tgt := 26) dX2_howMany_6 (by decide) (fun c6_5 => ?_) (fun c6_5 => ?_)
                  · skip
                    refine z_iload_1 (pc := 26) dX2_howMany_26 ?_
                    refine z_ret (pc := 27) (r := some (.int _)) rfl dX2_howMany_27 trivial rfl rfl ?_
                    simp only [zb_eq0, zb_ne0, Nat.reduceAdd, Classical.not_not] at *
                    exact ⟨by simp [zmany, *], rfl⟩
                  · exact absurd (by decide) c6_5
        · skip
          refine z_iinc_1 (pc := 17) (1) dX2_howMany_17 rfl (by decide) rfl ?_
          refine z_iinc_2 (pc := 20) (1) dX2_howMany_20 rfl (by decide) rfl ?_
          refine z_goto (pc := 23) (tgt := 4) dX2_howMany_23 (by decide) ?_
          refine z_iload_2 (pc := 4) dX2_howMany_4 ?_
          refine z_iconst (pc := 5) (4) dX2_howMany_5 rfl ?_
          refine z_icmp_ge (pc := 6) (tgt := 26) dX2_howMany_6 (by decide) (fun c6_3 => ?_) (fun c6_3 => ?_)
          · exact absurd c6_3 (by decide)
          · skip
            refine z_aload_0 (pc := 9) dX2_howMany_9 ?_
            refine z_iload_2 (pc := 10) dX2_howMany_10 ?_
            refine z_V1 (pc := 11) dX2_howMany_11 mlX2_37 kX2_isMissing vX2_isMissing (by decide) (by decide) (by first | rfl | assumption) (Nat.le_of_ble_eq_true rfl) (qX2_isMissing hc hr hk 2 (by decide) (by decide)) ⟨Nat.le_refl _, Nat.le_refl _⟩ (fun r h1 hq => ?_)
            obtain ⟨rfl, rfl⟩ := hq
            refine z_if_ne (pc := 14) (tgt := 20) dX2_howMany_14 (by decide) (fun c14_3 => ?_) (fun c14_3 => ?_)
            · skip
              refine z_iinc_2 (pc := 20) (1) dX2_howMany_20 rfl (by decide) rfl ?_
              refine z_goto (pc := 23) (tgt := 4) dX2_howMany_23 (by decide) ?_
              refine z_iload_2 (pc := 4) dX2_howMany_4 ?_
              refine z_iconst (pc := 5) (4) dX2_howMany_5 rfl ?_
              refine z_icmp_ge (pc := 6) (tgt := 26) dX2_howMany_6 (by decide) (fun c6_4 => ?_) (fun c6_4 => ?_)
              · exact absurd c6_4 (by decide)
              · skip
                refine z_aload_0 (pc := 9) dX2_howMany_9 ?_
                refine z_iload_2 (pc := 10) dX2_howMany_10 ?_
                refine z_V1 (pc := 11) dX2_howMany_11 mlX2_37 kX2_isMissing vX2_isMissing (by decide) (by decide) (by first | rfl | assumption) (Nat.le_of_ble_eq_true rfl) (qX2_isMissing hc hr hk 3 (by decide) (by decide)) ⟨Nat.le_refl _, Nat.le_refl _⟩ (fun r h1 hq => ?_)
                obtain ⟨rfl, rfl⟩ := hq
                refine z_if_ne (pc := 14) (tgt := 20) dX2_howMany_14 (by decide) (fun c14_4 => ?_) (fun c14_4 => ?_)
                · skip
                  refine z_iinc_2 (pc := 20) (1) dX2_howMany_20 rfl (by decide) rfl ?_
                  refine z_goto (pc := 23) (tgt := 4) dX2_howMany_23 (by decide) ?_
                  refine z_iload_2 (pc := 4) dX2_howMany_4 ?_
                  refine z_iconst (pc := 5) (4) dX2_howMany_5 rfl ?_
                  refine z_icmp_ge (pc := 6) (tgt := 26) dX2_howMany_6 (by decide) (fun c6_5 => ?_) (fun c6_5 => ?_)
                  · skip
                    refine z_iload_1 (pc := 26) dX2_howMany_26 ?_
                    refine z_ret (pc := 27) (r := some (.int _)) rfl dX2_howMany_27 trivial rfl rfl ?_
                    simp only [zb_eq0, zb_ne0, Nat.reduceAdd, Classical.not_not] at *
                    exact ⟨by simp [zmany, *], rfl⟩
                  · exact absurd (by decide) c6_5
                · skip
                  refine z_iinc_1 (pc := 17) (1) dX2_howMany_17 rfl (by decide) rfl ?_
                  refine z_iinc_2 (pc := 20) (1) dX2_howMany_20 rfl (by decide) rfl ?_
                  refine z_goto (pc := 23) (tgt := 4) dX2_howMany_23 (by decide) ?_
                  refine z_iload_2 (pc := 4) dX2_howMany_4 ?_
                  refine z_iconst (pc := 5) (4) dX2_howMany_5 rfl ?_
                  refine z_icmp_ge (pc := 6) (tgt := 26) dX2_howMany_6 (by decide) (fun c6_5 => ?_) (fun c6_5 => ?_)
                  · skip
                    refine z_iload_1 (pc := 26) dX2_howMany_26 ?_
                    refine z_ret (pc := 27) (r := some (.int _)) rfl dX2_howMany_27 trivial rfl rfl ?_
                    simp only [zb_eq0, zb_ne0, Nat.reduceAdd, Classical.not_not] at *
                    exact ⟨by simp [zmany, *], rfl⟩
                  · exact absurd (by decide) c6_5
            · skip
              refine z_iinc_1 (pc := 17) (1) dX2_howMany_17 rfl (by decide) rfl ?_
              refine z_iinc_2 (pc := 20) (1) dX2_howMany_20 rfl (by decide) rfl ?_
              refine z_goto (pc := 23) (tgt := 4) dX2_howMany_23 (by decide) ?_
              refine z_iload_2 (pc := 4) dX2_howMany_4 ?_
              refine z_iconst (pc := 5) (4) dX2_howMany_5 rfl ?_
              refine z_icmp_ge (pc := 6) (tgt := 26) dX2_howMany_6 (by decide) (fun c6_4 => ?_) (fun c6_4 => ?_)
              · exact absurd c6_4 (by decide)
              · skip
                refine z_aload_0 (pc := 9) dX2_howMany_9 ?_
                refine z_iload_2 (pc := 10) dX2_howMany_10 ?_
                refine z_V1 (pc := 11) dX2_howMany_11 mlX2_37 kX2_isMissing vX2_isMissing (by decide) (by decide) (by first | rfl | assumption) (Nat.le_of_ble_eq_true rfl) (qX2_isMissing hc hr hk 3 (by decide) (by decide)) ⟨Nat.le_refl _, Nat.le_refl _⟩ (fun r h1 hq => ?_)
                obtain ⟨rfl, rfl⟩ := hq
                refine z_if_ne (pc := 14) (tgt := 20) dX2_howMany_14 (by decide) (fun c14_4 => ?_) (fun c14_4 => ?_)
                · skip
                  refine z_iinc_2 (pc := 20) (1) dX2_howMany_20 rfl (by decide) rfl ?_
                  refine z_goto (pc := 23) (tgt := 4) dX2_howMany_23 (by decide) ?_
                  refine z_iload_2 (pc := 4) dX2_howMany_4 ?_
                  refine z_iconst (pc := 5) (4) dX2_howMany_5 rfl ?_
                  refine z_icmp_ge (pc := 6) (tgt := 26) dX2_howMany_6 (by decide) (fun c6_5 => ?_) (fun c6_5 => ?_)
                  · skip
                    refine z_iload_1 (pc := 26) dX2_howMany_26 ?_
                    refine z_ret (pc := 27) (r := some (.int _)) rfl dX2_howMany_27 trivial rfl rfl ?_
                    simp only [zb_eq0, zb_ne0, Nat.reduceAdd, Classical.not_not] at *
                    exact ⟨by simp [zmany, *], rfl⟩
                  · exact absurd (by decide) c6_5
                · skip
                  refine z_iinc_1 (pc := 17) (1) dX2_howMany_17 rfl (by decide) rfl ?_
                  refine z_iinc_2 (pc := 20) (1) dX2_howMany_20 rfl (by decide) rfl ?_
                  refine z_goto (pc := 23) (tgt := 4) dX2_howMany_23 (by decide) ?_
                  refine z_iload_2 (pc := 4) dX2_howMany_4 ?_
                  refine z_iconst (pc := 5) (4) dX2_howMany_5 rfl ?_
                  refine z_icmp_ge (pc := 6) (tgt := 26) dX2_howMany_6 (by decide) (fun c6_5 => ?_) (fun c6_5 => ?_)
                  · skip
                    refine z_iload_1 (pc := 26) dX2_howMany_26 ?_
                    refine z_ret (pc := 27) (r := some (.int _)) rfl dX2_howMany_27 trivial rfl rfl ?_
                    simp only [zb_eq0, zb_ne0, Nat.reduceAdd, Classical.not_not] at *
                    exact ⟨by simp [zmany, *], rfl⟩
                  · exact absurd (by decide) c6_5
def zmalts (I : Nat → Nat → Int32) (k : Nat) : Int32 := (if I k 1 = 0 then 0 else I k 5) + (if I k 2 = 0 then 0 else I k 6) + (if I k 3 = 0 then 0 else I k 7) + (if I k 4 = 0 then 0 else I k 8)
set_option maxRecDepth 100000 in
set_option maxHeartbeats 4000000 in
theorem qX2_allMalt {l : zL} {I : Nat → Nat → Int32} {J : Nat → Nat → Int64} {r : Nat → Nat → Option Nat} {sh : List zSh} {c k : Nat} (hc : sh[c]? = some (2, 0)) (hr : r c 0 = some k) (hk : sh[k]? = some (10, 19)) : zP l mX2_allMalt [.ref c] (I, J, r, sh) (zR (some (.int (zmalts I k))) (I, J, r, sh)) := by
  refine z_start [.ref c, zno, zno] (by decide +kernel) (Nat.le_of_ble_eq_true rfl) rfl ?_
  refine z_iconst (pc := 0) (0) dX2_allMalt_0 rfl ?_
  refine z_istore_1 (pc := 1) dX2_allMalt_1 (by decide) rfl ?_
  refine z_iconst (pc := 2) (0) dX2_allMalt_2 rfl ?_
  refine z_istore_2 (pc := 3) dX2_allMalt_3 (by decide) rfl ?_
  refine z_iload_2 (pc := 4) dX2_allMalt_4 ?_
  refine z_iconst (pc := 5) (4) dX2_allMalt_5 rfl ?_
  refine z_icmp_ge (pc := 6) (tgt := 31) dX2_allMalt_6 (by decide) (fun c6 => ?_) (fun c6 => ?_)
  · exact absurd c6 (by decide)
  · skip
    refine z_aload_0 (pc := 9) dX2_allMalt_9 ?_
    refine z_iload_2 (pc := 10) dX2_allMalt_10 ?_
    refine z_V1 (pc := 11) dX2_allMalt_11 mlX2_37 kX2_isMissing vX2_isMissing (by decide) (by decide) (by first | rfl | assumption) (Nat.le_of_ble_eq_true rfl) (qX2_isMissing hc hr hk 0 (by decide) (by decide)) ⟨Nat.le_refl _, Nat.le_refl _⟩ (fun r h1 hq => ?_)
    obtain ⟨rfl, rfl⟩ := hq
    refine z_if_ne (pc := 14) (tgt := 25) dX2_allMalt_14 (by decide) (fun c14 => ?_) (fun c14 => ?_)
    · skip
      refine z_iinc_2 (pc := 25) (1) dX2_allMalt_25 rfl (by decide) rfl ?_
      refine z_goto (pc := 28) (tgt := 4) dX2_allMalt_28 (by decide) ?_
      refine z_iload_2 (pc := 4) dX2_allMalt_4 ?_
      refine z_iconst (pc := 5) (4) dX2_allMalt_5 rfl ?_
      refine z_icmp_ge (pc := 6) (tgt := 31) dX2_allMalt_6 (by decide) (fun c6_2 => ?_) (fun c6_2 => ?_)
      · exact absurd c6_2 (by decide)
      · skip
        refine z_aload_0 (pc := 9) dX2_allMalt_9 ?_
        refine z_iload_2 (pc := 10) dX2_allMalt_10 ?_
        refine z_V1 (pc := 11) dX2_allMalt_11 mlX2_37 kX2_isMissing vX2_isMissing (by decide) (by decide) (by first | rfl | assumption) (Nat.le_of_ble_eq_true rfl) (qX2_isMissing hc hr hk 1 (by decide) (by decide)) ⟨Nat.le_refl _, Nat.le_refl _⟩ (fun r h1 hq => ?_)
        obtain ⟨rfl, rfl⟩ := hq
        refine z_if_ne (pc := 14) (tgt := 25) dX2_allMalt_14 (by decide) (fun c14_2 => ?_) (fun c14_2 => ?_)
        · skip
          refine z_iinc_2 (pc := 25) (1) dX2_allMalt_25 rfl (by decide) rfl ?_
          refine z_goto (pc := 28) (tgt := 4) dX2_allMalt_28 (by decide) ?_
          refine z_iload_2 (pc := 4) dX2_allMalt_4 ?_
          refine z_iconst (pc := 5) (4) dX2_allMalt_5 rfl ?_
          refine z_icmp_ge (pc := 6) (tgt := 31) dX2_allMalt_6 (by decide) (fun c6_3 => ?_) (fun c6_3 => ?_)
          · exact absurd c6_3 (by decide)
          · skip
            refine z_aload_0 (pc := 9) dX2_allMalt_9 ?_
            refine z_iload_2 (pc := 10) dX2_allMalt_10 ?_
            refine z_V1 (pc := 11) dX2_allMalt_11 mlX2_37 kX2_isMissing vX2_isMissing (by decide) (by decide) (by first | rfl | assumption) (Nat.le_of_ble_eq_true rfl) (qX2_isMissing hc hr hk 2 (by decide) (by decide)) ⟨Nat.le_refl _, Nat.le_refl _⟩ (fun r h1 hq => ?_)
            obtain ⟨rfl, rfl⟩ := hq
            refine z_if_ne (pc := 14) (tgt := 25) dX2_allMalt_14 (by decide) (fun c14_3 => ?_) (fun c14_3 => ?_)
            · skip
              refine z_iinc_2 (pc := 25) (1) dX2_allMalt_25 rfl (by decide) rfl ?_
              refine z_goto (pc := 28) (tgt := 4) dX2_allMalt_28 (by decide) ?_
              refine z_iload_2 (pc := 4) dX2_allMalt_4 ?_
              refine z_iconst (pc := 5) (4) dX2_allMalt_5 rfl ?_
              refine z_icmp_ge (pc := 6) (tgt := 31) dX2_allMalt_6 (by decide) (fun c6_4 => ?_) (fun c6_4 => ?_)
              · exact absurd c6_4 (by decide)
              · skip
                refine z_aload_0 (pc := 9) dX2_allMalt_9 ?_
                refine z_iload_2 (pc := 10) dX2_allMalt_10 ?_
                refine z_V1 (pc := 11) dX2_allMalt_11 mlX2_37 kX2_isMissing vX2_isMissing (by decide) (by decide) (by first | rfl | assumption) (Nat.le_of_ble_eq_true rfl) (qX2_isMissing hc hr hk 3 (by decide) (by decide)) ⟨Nat.le_refl _, Nat.le_refl _⟩ (fun r h1 hq => ?_)
                obtain ⟨rfl, rfl⟩ := hq
                refine z_if_ne (pc := 14) (tgt := 25) dX2_allMalt_14 (by decide) (fun c14_4 => ?_) (fun c14_4 => ?_)
                · skip
                  refine z_iinc_2 (pc := 25) (1) dX2_allMalt_25 rfl (by decide) rfl ?_
                  refine z_goto (pc := 28) (tgt := 4) dX2_allMalt_28 (by decide) ?_
                  refine z_iload_2 (pc := 4) dX2_allMalt_4 ?_
                  refine z_iconst (pc := 5) (4) dX2_allMalt_5 rfl ?_
                  refine z_icmp_ge (pc := 6) (tgt := 31) dX2_allMalt_6 (by decide) (fun c6_5 => ?_) (fun c6_5 => ?_)
                  · skip
                    refine z_iload_1 (pc := 31) dX2_allMalt_31 ?_
                    refine z_ret (pc := 32) (r := some (.int _)) rfl dX2_allMalt_32 trivial rfl rfl ?_
                    simp only [zb_eq0, zb_ne0, Nat.reduceAdd, Classical.not_not] at *
                    exact ⟨by simp [zmalts, *], rfl⟩
                  · exact absurd (by decide) c6_5
                · skip
                  refine z_iload_1 (pc := 17) dX2_allMalt_17 ?_
                  refine z_aload_0 (pc := 18) dX2_allMalt_18 ?_
                  refine z_iload_2 (pc := 19) dX2_allMalt_19 ?_
                  refine z_V1 (pc := 20) dX2_allMalt_20 mlX2_27 kX2_maltOf vX2_maltOf (by decide) (by decide) (by first | rfl | assumption) (Nat.le_of_ble_eq_true rfl) (qX2_maltOf hc hr hk 3 (by decide) (by decide)) ⟨Nat.le_refl _, Nat.le_refl _⟩ (fun r h1 hq => ?_)
                  obtain ⟨rfl, rfl⟩ := hq
                  refine z_iadd (pc := 23) dX2_allMalt_23 ?_
                  refine z_istore_1 (pc := 24) dX2_allMalt_24 (by decide) rfl ?_
                  refine z_iinc_2 (pc := 25) (1) dX2_allMalt_25 rfl (by decide) rfl ?_
                  refine z_goto (pc := 28) (tgt := 4) dX2_allMalt_28 (by decide) ?_
                  refine z_iload_2 (pc := 4) dX2_allMalt_4 ?_
                  refine z_iconst (pc := 5) (4) dX2_allMalt_5 rfl ?_
                  refine z_icmp_ge (pc := 6) (tgt := 31) dX2_allMalt_6 (by decide) (fun c6_5 => ?_) (fun c6_5 => ?_)
                  · skip
                    refine z_iload_1 (pc := 31) dX2_allMalt_31 ?_
                    refine z_ret (pc := 32) (r := some (.int _)) rfl dX2_allMalt_32 trivial rfl rfl ?_
                    simp only [zb_eq0, zb_ne0, Nat.reduceAdd, Classical.not_not] at *
                    exact ⟨by simp [zmalts, *], rfl⟩
                  · exact absurd (by decide) c6_5
            · skip
              refine z_iload_1 (pc := 17) dX2_allMalt_17 ?_
              refine z_aload_0 (pc := 18) dX2_allMalt_18 ?_
              refine z_iload_2 (pc := 19) dX2_allMalt_19 ?_
              refine z_V1 (pc := 20) dX2_allMalt_20 mlX2_27 kX2_maltOf vX2_maltOf (by decide) (by decide) (by first | rfl | assumption) (Nat.le_of_ble_eq_true rfl) (qX2_maltOf hc hr hk 2 (by decide) (by decide)) ⟨Nat.le_refl _, Nat.le_refl _⟩ (fun r h1 hq => ?_)
              obtain ⟨rfl, rfl⟩ := hq
              refine z_iadd (pc := 23) dX2_allMalt_23 ?_
              refine z_istore_1 (pc := 24) dX2_allMalt_24 (by decide) rfl ?_
              refine z_iinc_2 (pc := 25) (1) dX2_allMalt_25 rfl (by decide) rfl ?_
              refine z_goto (pc := 28) (tgt := 4) dX2_allMalt_28 (by decide) ?_
              refine z_iload_2 (pc := 4) dX2_allMalt_4 ?_
              refine z_iconst (pc := 5) (4) dX2_allMalt_5 rfl ?_
              refine z_icmp_ge (pc := 6) (tgt := 31) dX2_allMalt_6 (by decide) (fun c6_4 => ?_) (fun c6_4 => ?_)
              · exact absurd c6_4 (by decide)
              · skip
                refine z_aload_0 (pc := 9) dX2_allMalt_9 ?_
                refine z_iload_2 (pc := 10) dX2_allMalt_10 ?_
                refine z_V1 (pc := 11) dX2_allMalt_11 mlX2_37 kX2_isMissing vX2_isMissing (by decide) (by decide) (by first | rfl | assumption) (Nat.le_of_ble_eq_true rfl) (qX2_isMissing hc hr hk 3 (by decide) (by decide)) ⟨Nat.le_refl _, Nat.le_refl _⟩ (fun r h1 hq => ?_)
                obtain ⟨rfl, rfl⟩ := hq
                refine z_if_ne (pc := 14) (tgt := 25) dX2_allMalt_14 (by decide) (fun c14_4 => ?_) (fun c14_4 => ?_)
                · skip
                  refine z_iinc_2 (pc := 25) (1) dX2_allMalt_25 rfl (by decide) rfl ?_
                  refine z_goto (pc := 28) (tgt := 4) dX2_allMalt_28 (by decide) ?_
                  refine z_iload_2 (pc := 4) dX2_allMalt_4 ?_
                  refine z_iconst (pc := 5) (4) dX2_allMalt_5 rfl ?_
                  refine z_icmp_ge (pc := 6) (tgt := 31) dX2_allMalt_6 (by decide) (fun c6_5 => ?_) (fun c6_5 => ?_)
                  · skip
                    refine z_iload_1 (pc := 31) dX2_allMalt_31 ?_
                    refine z_ret (pc := 32) (r := some (.int _)) rfl dX2_allMalt_32 trivial rfl rfl ?_
                    simp only [zb_eq0, zb_ne0, Nat.reduceAdd, Classical.not_not] at *
                    exact ⟨by simp [zmalts, *], rfl⟩
                  · exact absurd (by decide) c6_5
                · skip
                  refine z_iload_1 (pc := 17) dX2_allMalt_17 ?_
                  refine z_aload_0 (pc := 18) dX2_allMalt_18 ?_
                  refine z_iload_2 (pc := 19) dX2_allMalt_19 ?_
                  refine z_V1 (pc := 20) dX2_allMalt_20 mlX2_27 kX2_maltOf vX2_maltOf (by decide) (by decide) (by first | rfl | assumption) (Nat.le_of_ble_eq_true rfl) (qX2_maltOf hc hr hk 3 (by decide) (by decide)) ⟨Nat.le_refl _, Nat.le_refl _⟩ (fun r h1 hq => ?_)
                  obtain ⟨rfl, rfl⟩ := hq
                  refine z_iadd (pc := 23) dX2_allMalt_23 ?_
                  refine z_istore_1 (pc := 24) dX2_allMalt_24 (by decide) rfl ?_
                  refine z_iinc_2 (pc := 25) (1) dX2_allMalt_25 rfl (by decide) rfl ?_
                  refine z_goto (pc := 28) (tgt := 4) dX2_allMalt_28 (by decide) ?_
                  refine z_iload_2 (pc := 4) dX2_allMalt_4 ?_
                  refine z_iconst (pc := 5) (4) dX2_allMalt_5 rfl ?_
                  refine z_icmp_ge (pc := 6) (tgt := 31) dX2_allMalt_6 (by decide) (fun c6_5 => ?_) (fun c6_5 => ?_)
                  · skip
                    refine z_iload_1 (pc := 31) dX2_allMalt_31 ?_
                    refine z_ret (pc := 32) (r := some (.int _)) rfl dX2_allMalt_32 trivial rfl rfl ?_
                    simp only [zb_eq0, zb_ne0, Nat.reduceAdd, Classical.not_not] at *
                    exact ⟨by simp [zmalts, *], rfl⟩
                  · exact absurd (by decide) c6_5
        · skip
          refine z_iload_1 (pc := 17) dX2_allMalt_17 ?_
          refine z_aload_0 (pc := 18) dX2_allMalt_18 ?_
          refine z_iload_2 (pc := 19) dX2_allMalt_19 ?_
          refine z_V1 (pc := 20) dX2_allMalt_20 mlX2_27 kX2_maltOf vX2_maltOf (by decide) (by decide) (by first | rfl | assumption) (Nat.le_of_ble_eq_true rfl) (qX2_maltOf hc hr hk 1 (by decide) (by decide)) ⟨Nat.le_refl _, Nat.le_refl _⟩ (fun r h1 hq => ?_)
          obtain ⟨rfl, rfl⟩ := hq
          refine z_iadd (pc := 23) dX2_allMalt_23 ?_
          refine z_istore_1 (pc := 24) dX2_allMalt_24 (by decide) rfl ?_
          refine z_iinc_2 (pc := 25) (1) dX2_allMalt_25 rfl (by decide) rfl ?_
          refine z_goto (pc := 28) (tgt := 4) dX2_allMalt_28 (by decide) ?_
          refine z_iload_2 (pc := 4) dX2_allMalt_4 ?_
          refine z_iconst (pc := 5) (4) dX2_allMalt_5 rfl ?_
          refine z_icmp_ge (pc := 6) (tgt := 31) dX2_allMalt_6 (by decide) (fun c6_3 => ?_) (fun c6_3 => ?_)
          · exact absurd c6_3 (by decide)
          · skip
            refine z_aload_0 (pc := 9) dX2_allMalt_9 ?_
            refine z_iload_2 (pc := 10) dX2_allMalt_10 ?_
            refine z_V1 (pc := 11) dX2_allMalt_11 mlX2_37 kX2_isMissing vX2_isMissing (by decide) (by decide) (by first | rfl | assumption) (Nat.le_of_ble_eq_true rfl) (qX2_isMissing hc hr hk 2 (by decide) (by decide)) ⟨Nat.le_refl _, Nat.le_refl _⟩ (fun r h1 hq => ?_)
            obtain ⟨rfl, rfl⟩ := hq
            refine z_if_ne (pc := 14) (tgt := 25) dX2_allMalt_14 (by decide) (fun c14_3 => ?_) (fun c14_3 => ?_)
            · skip
              refine z_iinc_2 (pc := 25) (1) dX2_allMalt_25 rfl (by decide) rfl ?_
              refine z_goto (pc := 28) (tgt := 4) dX2_allMalt_28 (by decide) ?_
              refine z_iload_2 (pc := 4) dX2_allMalt_4 ?_
              refine z_iconst (pc := 5) (4) dX2_allMalt_5 rfl ?_
              refine z_icmp_ge (pc := 6) (tgt := 31) dX2_allMalt_6 (by decide) (fun c6_4 => ?_) (fun c6_4 => ?_)
              · exact absurd c6_4 (by decide)
              · skip
                refine z_aload_0 (pc := 9) dX2_allMalt_9 ?_
                refine z_iload_2 (pc := 10) dX2_allMalt_10 ?_
                refine z_V1 (pc := 11) dX2_allMalt_11 mlX2_37 kX2_isMissing vX2_isMissing (by decide) (by decide) (by first | rfl | assumption) (Nat.le_of_ble_eq_true rfl) (qX2_isMissing hc hr hk 3 (by decide) (by decide)) ⟨Nat.le_refl _, Nat.le_refl _⟩ (fun r h1 hq => ?_)
                obtain ⟨rfl, rfl⟩ := hq
                refine z_if_ne (pc := 14) (tgt := 25) dX2_allMalt_14 (by decide) (fun c14_4 => ?_) (fun c14_4 => ?_)
                · skip
                  refine z_iinc_2 (pc := 25) (1) dX2_allMalt_25 rfl (by decide) rfl ?_
                  refine z_goto (pc := 28) (tgt := 4) dX2_allMalt_28 (by decide) ?_
                  refine z_iload_2 (pc := 4) dX2_allMalt_4 ?_
                  refine z_iconst (pc := 5) (4) dX2_allMalt_5 rfl ?_
                  refine z_icmp_ge (pc := 6) (tgt := 31) dX2_allMalt_6 (by decide) (fun c6_5 => ?_) (fun c6_5 => ?_)
                  · skip
                    refine z_iload_1 (pc := 31) dX2_allMalt_31 ?_
                    refine z_ret (pc := 32) (r := some (.int _)) rfl dX2_allMalt_32 trivial rfl rfl ?_
                    simp only [zb_eq0, zb_ne0, Nat.reduceAdd, Classical.not_not] at *
                    exact ⟨by simp [zmalts, *], rfl⟩
                  · exact absurd (by decide) c6_5
                · skip
                  refine z_iload_1 (pc := 17) dX2_allMalt_17 ?_
                  refine z_aload_0 (pc := 18) dX2_allMalt_18 ?_
                  refine z_iload_2 (pc := 19) dX2_allMalt_19 ?_
                  refine z_V1 (pc := 20) dX2_allMalt_20 mlX2_27 kX2_maltOf vX2_maltOf (by decide) (by decide) (by first | rfl | assumption) (Nat.le_of_ble_eq_true rfl) (qX2_maltOf hc hr hk 3 (by decide) (by decide)) ⟨Nat.le_refl _, Nat.le_refl _⟩ (fun r h1 hq => ?_)
                  obtain ⟨rfl, rfl⟩ := hq
                  refine z_iadd (pc := 23) dX2_allMalt_23 ?_
                  refine z_istore_1 (pc := 24) dX2_allMalt_24 (by decide) rfl ?_
                  refine z_iinc_2 (pc := 25) (1) dX2_allMalt_25 rfl (by decide) rfl ?_
                  refine z_goto (pc := 28) (tgt := 4) dX2_allMalt_28 (by decide) ?_
                  refine z_iload_2 (pc := 4) dX2_allMalt_4 ?_
                  refine z_iconst (pc := 5) (4) dX2_allMalt_5 rfl ?_
                  refine z_icmp_ge (pc := 6) (tgt := 31) dX2_allMalt_6 (by decide) (fun c6_5 => ?_) (fun c6_5 => ?_)
                  · skip
                    refine z_iload_1 (pc := 31) dX2_allMalt_31 ?_
                    refine z_ret (pc := 32) (r := some (.int _)) rfl dX2_allMalt_32 trivial rfl rfl ?_
                    simp only [zb_eq0, zb_ne0, Nat.reduceAdd, Classical.not_not] at *
                    exact ⟨by simp [zmalts, *], rfl⟩
                  · exact absurd (by decide) c6_5
            · skip
              refine z_iload_1 (pc := 17) dX2_allMalt_17 ?_
              refine z_aload_0 (pc := 18) dX2_allMalt_18 ?_
              refine z_iload_2 (pc := 19) dX2_allMalt_19 ?_
              refine z_V1 (pc := 20) dX2_allMalt_20 mlX2_27 kX2_maltOf vX2_maltOf (by decide) (by decide) (by first | rfl | assumption) (Nat.le_of_ble_eq_true rfl) (qX2_maltOf hc hr hk 2 (by decide) (by decide)) ⟨Nat.le_refl _, Nat.le_refl _⟩ (fun r h1 hq => ?_)
              obtain ⟨rfl, rfl⟩ := hq
              refine z_iadd (pc := 23) dX2_allMalt_23 ?_
              refine z_istore_1 (pc := 24) dX2_allMalt_24 (by decide) rfl ?_
              refine z_iinc_2 (pc := 25) (1) dX2_allMalt_25 rfl (by decide) rfl ?_
              refine z_goto (pc := 28) (tgt := 4) dX2_allMalt_28 (by decide) ?_
              refine z_iload_2 (pc := 4) dX2_allMalt_4 ?_
              refine z_iconst (pc := 5) (4) dX2_allMalt_5 rfl ?_
              refine z_icmp_ge (pc := 6) (tgt := 31) dX2_allMalt_6 (by decide) (fun c6_4 => ?_) (fun c6_4 => ?_)
              · exact absurd c6_4 (by decide)
              · skip
                refine z_aload_0 (pc := 9) dX2_allMalt_9 ?_
                refine z_iload_2 (pc := 10) dX2_allMalt_10 ?_
                refine z_V1 (pc := 11) dX2_allMalt_11 mlX2_37 kX2_isMissing vX2_isMissing (by decide) (by decide) (by first | rfl | assumption) (Nat.le_of_ble_eq_true rfl) (qX2_isMissing hc hr hk 3 (by decide) (by decide)) ⟨Nat.le_refl _, Nat.le_refl _⟩ (fun r h1 hq => ?_)
                obtain ⟨rfl, rfl⟩ := hq
                refine z_if_ne (pc := 14) (tgt := 25) dX2_allMalt_14 (by decide) (fun c14_4 => ?_) (fun c14_4 => ?_)
                · skip
                  refine z_iinc_2 (pc := 25) (1) dX2_allMalt_25 rfl (by decide) rfl ?_
                  refine z_goto (pc := 28) (tgt := 4) dX2_allMalt_28 (by decide) ?_
                  refine z_iload_2 (pc := 4) dX2_allMalt_4 ?_
                  refine z_iconst (pc := 5) (4) dX2_allMalt_5 rfl ?_
                  refine z_icmp_ge (pc := 6) (tgt := 31) dX2_allMalt_6 (by decide) (fun c6_5 => ?_) (fun c6_5 => ?_)
                  · skip
                    refine z_iload_1 (pc := 31) dX2_allMalt_31 ?_
                    refine z_ret (pc := 32) (r := some (.int _)) rfl dX2_allMalt_32 trivial rfl rfl ?_
                    simp only [zb_eq0, zb_ne0, Nat.reduceAdd, Classical.not_not] at *
                    exact ⟨by simp [zmalts, *], rfl⟩
                  · exact absurd (by decide) c6_5
                · skip
                  refine z_iload_1 (pc := 17) dX2_allMalt_17 ?_
                  refine z_aload_0 (pc := 18) dX2_allMalt_18 ?_
                  refine z_iload_2 (pc := 19) dX2_allMalt_19 ?_
                  refine z_V1 (pc := 20) dX2_allMalt_20 mlX2_27 kX2_maltOf vX2_maltOf (by decide) (by decide) (by first | rfl | assumption) (Nat.le_of_ble_eq_true rfl) (qX2_maltOf hc hr hk 3 (by decide) (by decide)) ⟨Nat.le_refl _, Nat.le_refl _⟩ (fun r h1 hq => ?_)
                  obtain ⟨rfl, rfl⟩ := hq
                  refine z_iadd (pc := 23) dX2_allMalt_23 ?_
                  refine z_istore_1 (pc := 24) dX2_allMalt_24 (by decide) rfl ?_
                  refine z_iinc_2 (pc := 25) (1) dX2_allMalt_25 rfl (by decide) rfl ?_
                  refine z_goto (pc := 28) (tgt := 4) dX2_allMalt_28 (by decide) ?_
                  refine z_iload_2 (pc := 4) dX2_allMalt_4 ?_
                  refine z_iconst (pc := 5) (4) dX2_allMalt_5 rfl ?_
                  refine z_icmp_ge (pc := 6) (tgt := 31) dX2_allMalt_6 (by decide) (fun c6_5 => ?_) (fun c6_5 => ?_)
                  · skip
                    refine z_iload_1 (pc := 31) dX2_allMalt_31 ?_
                    refine z_ret (pc := 32) (r := some (.int _)) rfl dX2_allMalt_32 trivial rfl rfl ?_
                    simp only [zb_eq0, zb_ne0, Nat.reduceAdd, Classical.not_not] at *
                    exact ⟨by simp [zmalts, *], rfl⟩
                  · exact absurd (by decide) c6_5
    · skip
      refine z_iload_1 (pc := 17) dX2_allMalt_17 ?_
      refine z_aload_0 (pc := 18) dX2_allMalt_18 ?_
      refine z_iload_2 (pc := 19) dX2_allMalt_19 ?_
      refine z_V1 (pc := 20) dX2_allMalt_20 mlX2_27 kX2_maltOf vX2_maltOf (by decide) (by decide) (by first | rfl | assumption) (Nat.le_of_ble_eq_true rfl) (qX2_maltOf hc hr hk 0 (by decide) (by decide)) ⟨Nat.le_refl _, Nat.le_refl _⟩ (fun r h1 hq => ?_)
      obtain ⟨rfl, rfl⟩ := hq
      refine z_iadd (pc := 23) dX2_allMalt_23 ?_
      refine z_istore_1 (pc := 24) dX2_allMalt_24 (by decide) rfl ?_
      refine z_iinc_2 (pc := 25) (1) dX2_allMalt_25 rfl (by decide) rfl ?_
      refine z_goto (pc := 28) (tgt := 4) dX2_allMalt_28 (by decide) ?_
      refine z_iload_2 (pc := 4) dX2_allMalt_4 ?_
      refine z_iconst (pc := 5) (4) dX2_allMalt_5 rfl ?_
      refine z_icmp_ge (pc := 6) (tgt := 31) dX2_allMalt_6 (by decide) (fun c6_2 => ?_) (fun c6_2 => ?_)
      · exact absurd c6_2 (by decide)
      · skip
        refine z_aload_0 (pc := 9) dX2_allMalt_9 ?_
        refine z_iload_2 (pc := 10) dX2_allMalt_10 ?_
        refine z_V1 (pc := 11) dX2_allMalt_11 mlX2_37 kX2_isMissing vX2_isMissing (by decide) (by decide) (by first | rfl | assumption) (Nat.le_of_ble_eq_true rfl) (qX2_isMissing hc hr hk 1 (by decide) (by decide)) ⟨Nat.le_refl _, Nat.le_refl _⟩ (fun r h1 hq => ?_)
        obtain ⟨rfl, rfl⟩ := hq
        refine z_if_ne (pc := 14) (tgt := 25) dX2_allMalt_14 (by decide) (fun c14_2 => ?_) (fun c14_2 => ?_)
        · skip
          refine z_iinc_2 (pc := 25) (1) dX2_allMalt_25 rfl (by decide) rfl ?_
          refine z_goto (pc := 28) (tgt := 4) dX2_allMalt_28 (by decide) ?_
          refine z_iload_2 (pc := 4) dX2_allMalt_4 ?_
          refine z_iconst (pc := 5) (4) dX2_allMalt_5 rfl ?_
          refine z_icmp_ge (pc := 6) (tgt := 31) dX2_allMalt_6 (by decide) (fun c6_3 => ?_) (fun c6_3 => ?_)
          · exact absurd c6_3 (by decide)
          · skip
            refine z_aload_0 (pc := 9) dX2_allMalt_9 ?_
            refine z_iload_2 (pc := 10) dX2_allMalt_10 ?_
            refine z_V1 (pc := 11) dX2_allMalt_11 mlX2_37 kX2_isMissing vX2_isMissing (by decide) (by decide) (by first | rfl | assumption) (Nat.le_of_ble_eq_true rfl) (qX2_isMissing hc hr hk 2 (by decide) (by decide)) ⟨Nat.le_refl _, Nat.le_refl _⟩ (fun r h1 hq => ?_)
            obtain ⟨rfl, rfl⟩ := hq
            refine z_if_ne (pc := 14) (tgt := 25) dX2_allMalt_14 (by decide) (fun c14_3 => ?_) (fun c14_3 => ?_)
            · skip
              refine z_iinc_2 (pc := 25) (1) dX2_allMalt_25 rfl (by decide) rfl ?_
              refine z_goto (pc := 28) (tgt := 4) dX2_allMalt_28 (by decide) ?_
              refine z_iload_2 (pc := 4) dX2_allMalt_4 ?_
              refine z_iconst (pc := 5) (4) dX2_allMalt_5 rfl ?_
              refine z_icmp_ge (pc := 6) (tgt := 31) dX2_allMalt_6 (by decide) (fun c6_4 => ?_) (fun c6_4 => ?_)
              · exact absurd c6_4 (by decide)
              · skip
                refine z_aload_0 (pc := 9) dX2_allMalt_9 ?_
                refine z_iload_2 (pc := 10) dX2_allMalt_10 ?_
                refine z_V1 (pc := 11) dX2_allMalt_11 mlX2_37 kX2_isMissing vX2_isMissing (by decide) (by decide) (by first | rfl | assumption) (Nat.le_of_ble_eq_true rfl) (qX2_isMissing hc hr hk 3 (by decide) (by decide)) ⟨Nat.le_refl _, Nat.le_refl _⟩ (fun r h1 hq => ?_)
                obtain ⟨rfl, rfl⟩ := hq
                refine z_if_ne (pc := 14) (tgt := 25) dX2_allMalt_14 (by decide) (fun c14_4 => ?_) (fun c14_4 => ?_)
                · skip
                  refine z_iinc_2 (pc := 25) (1) dX2_allMalt_25 rfl (by decide) rfl ?_
                  refine z_goto (pc := 28) (tgt := 4) dX2_allMalt_28 (by decide) ?_
                  refine z_iload_2 (pc := 4) dX2_allMalt_4 ?_
                  refine z_iconst (pc := 5) (4) dX2_allMalt_5 rfl ?_
                  refine z_icmp_ge (pc := 6) (tgt := 31) dX2_allMalt_6 (by decide) (fun c6_5 => ?_) (fun c6_5 => ?_)
                  · skip
                    refine z_iload_1 (pc := 31) dX2_allMalt_31 ?_
                    refine z_ret (pc := 32) (r := some (.int _)) rfl dX2_allMalt_32 trivial rfl rfl ?_
                    simp only [zb_eq0, zb_ne0, Nat.reduceAdd, Classical.not_not] at *
                    exact ⟨by simp [zmalts, *], rfl⟩
                  · exact absurd (by decide) c6_5
                · skip
                  refine z_iload_1 (pc := 17) dX2_allMalt_17 ?_
                  refine z_aload_0 (pc := 18) dX2_allMalt_18 ?_
                  refine z_iload_2 (pc := 19) dX2_allMalt_19 ?_
                  refine z_V1 (pc := 20) dX2_allMalt_20 mlX2_27 kX2_maltOf vX2_maltOf (by decide) (by decide) (by first | rfl | assumption) (Nat.le_of_ble_eq_true rfl) (qX2_maltOf hc hr hk 3 (by decide) (by decide)) ⟨Nat.le_refl _, Nat.le_refl _⟩ (fun r h1 hq => ?_)
                  obtain ⟨rfl, rfl⟩ := hq
                  refine z_iadd (pc := 23) dX2_allMalt_23 ?_
                  refine z_istore_1 (pc := 24) dX2_allMalt_24 (by decide) rfl ?_
                  refine z_iinc_2 (pc := 25) (1) dX2_allMalt_25 rfl (by decide) rfl ?_
                  refine z_goto (pc := 28) (tgt := 4) dX2_allMalt_28 (by decide) ?_
                  refine z_iload_2 (pc := 4) dX2_allMalt_4 ?_
                  refine z_iconst (pc := 5) (4) dX2_allMalt_5 rfl ?_
                  refine z_icmp_ge (pc := 6) (tgt := 31) dX2_allMalt_6 (by decide) (fun c6_5 => ?_) (fun c6_5 => ?_)
                  · skip
                    refine z_iload_1 (pc := 31) dX2_allMalt_31 ?_
                    refine z_ret (pc := 32) (r := some (.int _)) rfl dX2_allMalt_32 trivial rfl rfl ?_
                    simp only [zb_eq0, zb_ne0, Nat.reduceAdd, Classical.not_not] at *
                    exact ⟨by simp [zmalts, *], rfl⟩
                  · exact absurd (by decide) c6_5
            · skip
              refine z_iload_1 (pc := 17) dX2_allMalt_17 ?_
              refine z_aload_0 (pc := 18) dX2_allMalt_18 ?_
              refine z_iload_2 (pc := 19) dX2_allMalt_19 ?_
              refine z_V1 (pc := 20) dX2_allMalt_20 mlX2_27 kX2_maltOf vX2_maltOf (by decide) (by decide) (by first | rfl | assumption) (Nat.le_of_ble_eq_true rfl) (qX2_maltOf hc hr hk 2 (by decide) (by decide)) ⟨Nat.le_refl _, Nat.le_refl _⟩ (fun r h1 hq => ?_)
              obtain ⟨rfl, rfl⟩ := hq
              refine z_iadd (pc := 23) dX2_allMalt_23 ?_
              refine z_istore_1 (pc := 24) dX2_allMalt_24 (by decide) rfl ?_
              refine z_iinc_2 (pc := 25) (1) dX2_allMalt_25 rfl (by decide) rfl ?_
              refine z_goto (pc := 28) (tgt := 4) dX2_allMalt_28 (by decide) ?_
              refine z_iload_2 (pc := 4) dX2_allMalt_4 ?_
              refine z_iconst (pc := 5) (4) dX2_allMalt_5 rfl ?_
              refine z_icmp_ge (pc := 6) (tgt := 31) dX2_allMalt_6 (by decide) (fun c6_4 => ?_) (fun c6_4 => ?_)
              · exact absurd c6_4 (by decide)
              · skip
                refine z_aload_0 (pc := 9) dX2_allMalt_9 ?_
                refine z_iload_2 (pc := 10) dX2_allMalt_10 ?_
                refine z_V1 (pc := 11) dX2_allMalt_11 mlX2_37 kX2_isMissing vX2_isMissing (by decide) (by decide) (by first | rfl | assumption) (Nat.le_of_ble_eq_true rfl) (qX2_isMissing hc hr hk 3 (by decide) (by decide)) ⟨Nat.le_refl _, Nat.le_refl _⟩ (fun r h1 hq => ?_)
                obtain ⟨rfl, rfl⟩ := hq
                refine z_if_ne (pc := 14) (tgt := 25) dX2_allMalt_14 (by decide) (fun c14_4 => ?_) (fun c14_4 => ?_)
                · skip
                  refine z_iinc_2 (pc := 25) (1) dX2_allMalt_25 rfl (by decide) rfl ?_
                  refine z_goto (pc := 28) (tgt := 4) dX2_allMalt_28 (by decide) ?_
                  refine z_iload_2 (pc := 4) dX2_allMalt_4 ?_
                  refine z_iconst (pc := 5) (4) dX2_allMalt_5 rfl ?_
                  refine z_icmp_ge (pc := 6) (tgt := 31) dX2_allMalt_6 (by decide) (fun c6_5 => ?_) (fun c6_5 => ?_)
                  · skip
                    refine z_iload_1 (pc := 31) dX2_allMalt_31 ?_
                    refine z_ret (pc := 32) (r := some (.int _)) rfl dX2_allMalt_32 trivial rfl rfl ?_
                    simp only [zb_eq0, zb_ne0, Nat.reduceAdd, Classical.not_not] at *
                    exact ⟨by simp [zmalts, *], rfl⟩
                  · exact absurd (by decide) c6_5
                · skip
                  refine z_iload_1 (pc := 17) dX2_allMalt_17 ?_
                  refine z_aload_0 (pc := 18) dX2_allMalt_18 ?_
                  refine z_iload_2 (pc := 19) dX2_allMalt_19 ?_
                  refine z_V1 (pc := 20) dX2_allMalt_20 mlX2_27 kX2_maltOf vX2_maltOf (by decide) (by decide) (by first | rfl | assumption) (Nat.le_of_ble_eq_true rfl) (qX2_maltOf hc hr hk 3 (by decide) (by decide)) ⟨Nat.le_refl _, Nat.le_refl _⟩ (fun r h1 hq => ?_)
                  obtain ⟨rfl, rfl⟩ := hq
                  refine z_iadd (pc := 23) dX2_allMalt_23 ?_
                  refine z_istore_1 (pc := 24) dX2_allMalt_24 (by decide) rfl ?_
                  refine z_iinc_2 (pc := 25) (1) dX2_allMalt_25 rfl (by decide) rfl ?_
                  refine z_goto (pc := 28) (tgt := 4) dX2_allMalt_28 (by decide) ?_
                  refine z_iload_2 (pc := 4) dX2_allMalt_4 ?_
                  refine z_iconst (pc := 5) (4) dX2_allMalt_5 rfl ?_
                  refine z_icmp_ge (pc := 6) (tgt := 31) dX2_allMalt_6 (by decide) (fun c6_5 => ?_) (fun c6_5 => ?_)
                  · skip
                    refine z_iload_1 (pc := 31) dX2_allMalt_31 ?_
                    refine z_ret (pc := 32) (r := some (.int _)) rfl dX2_allMalt_32 trivial rfl rfl ?_
                    simp only [zb_eq0, zb_ne0, Nat.reduceAdd, Classical.not_not] at *
                    exact ⟨by simp [zmalts, *], rfl⟩
                  · exact absurd (by decide) c6_5
        · skip
          refine z_iload_1 (pc := 17) dX2_allMalt_17 ?_
          refine z_aload_0 (pc := 18) dX2_allMalt_18 ?_
          refine z_iload_2 (pc := 19) dX2_allMalt_19 ?_
          refine z_V1 (pc := 20) dX2_allMalt_20 mlX2_27 kX2_maltOf vX2_maltOf (by decide) (by decide) (by first | rfl | assumption) (Nat.le_of_ble_eq_true rfl) (qX2_maltOf hc hr hk 1 (by decide) (by decide)) ⟨Nat.le_refl _, Nat.le_refl _⟩ (fun r h1 hq => ?_)
          obtain ⟨rfl, rfl⟩ := hq
          refine z_iadd (pc := 23) dX2_allMalt_23 ?_
          refine z_istore_1 (pc := 24) dX2_allMalt_24 (by decide) rfl ?_
          refine z_iinc_2 (pc := 25) (1) dX2_allMalt_25 rfl (by decide) rfl ?_
          refine z_goto (pc := 28) (tgt := 4) dX2_allMalt_28 (by decide) ?_
          refine z_iload_2 (pc := 4) dX2_allMalt_4 ?_
          refine z_iconst (pc := 5) (4) dX2_allMalt_5 rfl ?_
          refine z_icmp_ge (pc := 6) (tgt := 31) dX2_allMalt_6 (by decide) (fun c6_3 => ?_) (fun c6_3 => ?_)
          · exact absurd c6_3 (by decide)
          · skip
            refine z_aload_0 (pc := 9) dX2_allMalt_9 ?_
            refine z_iload_2 (pc := 10) dX2_allMalt_10 ?_
            refine z_V1 (pc := 11) dX2_allMalt_11 mlX2_37 kX2_isMissing vX2_isMissing (by decide) (by decide) (by first | rfl | assumption) (Nat.le_of_ble_eq_true rfl) (qX2_isMissing hc hr hk 2 (by decide) (by decide)) ⟨Nat.le_refl _, Nat.le_refl _⟩ (fun r h1 hq => ?_)
            obtain ⟨rfl, rfl⟩ := hq
            refine z_if_ne (pc := 14) (tgt := 25) dX2_allMalt_14 (by decide) (fun c14_3 => ?_) (fun c14_3 => ?_)
            · skip
              refine z_iinc_2 (pc := 25) (1) dX2_allMalt_25 rfl (by decide) rfl ?_
              refine z_goto (pc := 28) (tgt := 4) dX2_allMalt_28 (by decide) ?_
              refine z_iload_2 (pc := 4) dX2_allMalt_4 ?_
              refine z_iconst (pc := 5) (4) dX2_allMalt_5 rfl ?_
              refine z_icmp_ge (pc := 6) (tgt := 31) dX2_allMalt_6 (by decide) (fun c6_4 => ?_) (fun c6_4 => ?_)
              · exact absurd c6_4 (by decide)
              · skip
                refine z_aload_0 (pc := 9) dX2_allMalt_9 ?_
                refine z_iload_2 (pc := 10) dX2_allMalt_10 ?_
                refine z_V1 (pc := 11) dX2_allMalt_11 mlX2_37 kX2_isMissing vX2_isMissing (by decide) (by decide) (by first | rfl | assumption) (Nat.le_of_ble_eq_true rfl) (qX2_isMissing hc hr hk 3 (by decide) (by decide)) ⟨Nat.le_refl _, Nat.le_refl _⟩ (fun r h1 hq => ?_)
                obtain ⟨rfl, rfl⟩ := hq
                refine z_if_ne (pc := 14) (tgt := 25) dX2_allMalt_14 (by decide) (fun c14_4 => ?_) (fun c14_4 => ?_)
                · skip
                  refine z_iinc_2 (pc := 25) (1) dX2_allMalt_25 rfl (by decide) rfl ?_
                  refine z_goto (pc := 28) (tgt := 4) dX2_allMalt_28 (by decide) ?_
                  refine z_iload_2 (pc := 4) dX2_allMalt_4 ?_
                  refine z_iconst (pc := 5) (4) dX2_allMalt_5 rfl ?_
                  refine z_icmp_ge (pc := 6) (tgt := 31) dX2_allMalt_6 (by decide) (fun c6_5 => ?_) (fun c6_5 => ?_)
                  · skip
                    refine z_iload_1 (pc := 31) dX2_allMalt_31 ?_
                    refine z_ret (pc := 32) (r := some (.int _)) rfl dX2_allMalt_32 trivial rfl rfl ?_
                    simp only [zb_eq0, zb_ne0, Nat.reduceAdd, Classical.not_not] at *
                    exact ⟨by simp [zmalts, *], rfl⟩
                  · exact absurd (by decide) c6_5
                · skip
                  refine z_iload_1 (pc := 17) dX2_allMalt_17 ?_
                  refine z_aload_0 (pc := 18) dX2_allMalt_18 ?_
                  refine z_iload_2 (pc := 19) dX2_allMalt_19 ?_
                  refine z_V1 (pc := 20) dX2_allMalt_20 mlX2_27 kX2_maltOf vX2_maltOf (by decide) (by decide) (by first | rfl | assumption) (Nat.le_of_ble_eq_true rfl) (qX2_maltOf hc hr hk 3 (by decide) (by decide)) ⟨Nat.le_refl _, Nat.le_refl _⟩ (fun r h1 hq => ?_)
                  obtain ⟨rfl, rfl⟩ := hq
                  refine z_iadd (pc := 23) dX2_allMalt_23 ?_
                  refine z_istore_1 (pc := 24) dX2_allMalt_24 (by decide) rfl ?_
                  refine z_iinc_2 (pc := 25) (1) dX2_allMalt_25 rfl (by decide) rfl ?_
                  refine z_goto (pc := 28) (tgt := 4) dX2_allMalt_28 (by decide) ?_
                  refine z_iload_2 (pc := 4) dX2_allMalt_4 ?_
                  refine z_iconst (pc := 5) (4) dX2_allMalt_5 rfl ?_
                  refine z_icmp_ge (pc := 6) (tgt := 31) dX2_allMalt_6 (by decide) (fun c6_5 => ?_) (fun c6_5 => ?_)
                  · skip
                    refine z_iload_1 (pc := 31) dX2_allMalt_31 ?_
                    refine z_ret (pc := 32) (r := some (.int _)) rfl dX2_allMalt_32 trivial rfl rfl ?_
                    simp only [zb_eq0, zb_ne0, Nat.reduceAdd, Classical.not_not] at *
                    exact ⟨by simp [zmalts, *], rfl⟩
                  · exact absurd (by decide) c6_5
            · skip
              refine z_iload_1 (pc := 17) dX2_allMalt_17 ?_
              refine z_aload_0 (pc := 18) dX2_allMalt_18 ?_
              refine z_iload_2 (pc := 19) dX2_allMalt_19 ?_
              refine z_V1 (pc := 20) dX2_allMalt_20 mlX2_27 kX2_maltOf vX2_maltOf (by decide) (by decide) (by first | rfl | assumption) (Nat.le_of_ble_eq_true rfl) (qX2_maltOf hc hr hk 2 (by decide) (by decide)) ⟨Nat.le_refl _, Nat.le_refl _⟩ (fun r h1 hq => ?_)
              obtain ⟨rfl, rfl⟩ := hq
              refine z_iadd (pc := 23) dX2_allMalt_23 ?_
              refine z_istore_1 (pc := 24) dX2_allMalt_24 (by decide) rfl ?_
              refine z_iinc_2 (pc := 25) (1) dX2_allMalt_25 rfl (by decide) rfl ?_
              refine z_goto (pc := 28) (tgt := 4) dX2_allMalt_28 (by decide) ?_
              refine z_iload_2 (pc := 4) dX2_allMalt_4 ?_
              refine z_iconst (pc := 5) (4) dX2_allMalt_5 rfl ?_
              refine z_icmp_ge (pc := 6) (tgt := 31) dX2_allMalt_6 (by decide) (fun c6_4 => ?_) (fun c6_4 => ?_)
              · exact absurd c6_4 (by decide)
              · skip
                refine z_aload_0 (pc := 9) dX2_allMalt_9 ?_
                refine z_iload_2 (pc := 10) dX2_allMalt_10 ?_
                refine z_V1 (pc := 11) dX2_allMalt_11 mlX2_37 kX2_isMissing vX2_isMissing (by decide) (by decide) (by first | rfl | assumption) (Nat.le_of_ble_eq_true rfl) (qX2_isMissing hc hr hk 3 (by decide) (by decide)) ⟨Nat.le_refl _, Nat.le_refl _⟩ (fun r h1 hq => ?_)
                obtain ⟨rfl, rfl⟩ := hq
                refine z_if_ne (pc := 14) (tgt := 25) dX2_allMalt_14 (by decide) (fun c14_4 => ?_) (fun c14_4 => ?_)
                · skip
                  refine z_iinc_2 (pc := 25) (1) dX2_allMalt_25 rfl (by decide) rfl ?_
                  refine z_goto (pc := 28) (tgt := 4) dX2_allMalt_28 (by decide) ?_
                  refine z_iload_2 (pc := 4) dX2_allMalt_4 ?_
                  refine z_iconst (pc := 5) (4) dX2_allMalt_5 rfl ?_
                  refine z_icmp_ge (pc := 6) (tgt := 31) dX2_allMalt_6 (by decide) (fun c6_5 => ?_) (fun c6_5 => ?_)
                  · skip
                    refine z_iload_1 (pc := 31) dX2_allMalt_31 ?_
                    refine z_ret (pc := 32) (r := some (.int _)) rfl dX2_allMalt_32 trivial rfl rfl ?_
                    simp only [zb_eq0, zb_ne0, Nat.reduceAdd, Classical.not_not] at *
                    exact ⟨by simp [zmalts, *], rfl⟩
                  · exact absurd (by decide) c6_5
                · skip
                  refine z_iload_1 (pc := 17) dX2_allMalt_17 ?_
                  refine z_aload_0 (pc := 18) dX2_allMalt_18 ?_
                  refine z_iload_2 (pc := 19) dX2_allMalt_19 ?_
                  refine z_V1 (pc := 20) dX2_allMalt_20 mlX2_27 kX2_maltOf vX2_maltOf (by decide) (by decide) (by first | rfl | assumption) (Nat.le_of_ble_eq_true rfl) (qX2_maltOf hc hr hk 3 (by decide) (by decide)) ⟨Nat.le_refl _, Nat.le_refl _⟩ (fun r h1 hq => ?_)
                  obtain ⟨rfl, rfl⟩ := hq
                  refine z_iadd (pc := 23) dX2_allMalt_23 ?_
                  refine z_istore_1 (pc := 24) dX2_allMalt_24 (by decide) rfl ?_
                  refine z_iinc_2 (pc := 25) (1) dX2_allMalt_25 rfl (by decide) rfl ?_
                  refine z_goto (pc := 28) (tgt := 4) dX2_allMalt_28 (by decide) ?_
                  refine z_iload_2 (pc := 4) dX2_allMalt_4 ?_
                  refine z_iconst (pc := 5) (4) dX2_allMalt_5 rfl ?_
                  refine z_icmp_ge (pc := 6) (tgt := 31) dX2_allMalt_6 (by decide) (fun c6_5 => ?_) (fun c6_5 => ?_)
                  · skip
                    refine z_iload_1 (pc := 31) dX2_allMalt_31 ?_
                    refine z_ret (pc := 32) (r := some (.int _)) rfl dX2_allMalt_32 trivial rfl rfl ?_
                    simp only [zb_eq0, zb_ne0, Nat.reduceAdd, Classical.not_not] at *
                    exact ⟨by simp [zmalts, *], rfl⟩
                  · exact absurd (by decide) c6_5
def znotes (I : Nat → Nat → Int32) (k : Nat) : Int32 := 0 + zbc (I k 13) + zbc (I k 14) + zbc (I k 15) + zbc (I k 16) + zbc (I k 17) + zbc (I k 18)
set_option maxRecDepth 100000 in
set_option maxHeartbeats 4000000 in
theorem qX2_allNotes {l : zL} {I : Nat → Nat → Int32} {J : Nat → Nat → Int64} {r : Nat → Nat → Option Nat} {sh : List zSh} {c k : Nat} (hc : sh[c]? = some (2, 0)) (hr : r c 0 = some k) (hk : sh[k]? = some (10, 19)) : zP l mX2_allNotes [.ref c] (I, J, r, sh) (zR (some (.int (znotes I k))) (I, J, r, sh)) := by
  refine z_start [.ref c, zno, zno] (by decide +kernel) (Nat.le_of_ble_eq_true rfl) rfl ?_
  refine z_iconst (pc := 0) (0) dX2_allNotes_0 rfl ?_
  refine z_istore_1 (pc := 1) dX2_allNotes_1 (by decide) rfl ?_
  refine z_iconst (pc := 2) (0) dX2_allNotes_2 rfl ?_
  refine z_istore_2 (pc := 3) dX2_allNotes_3 (by decide) rfl ?_
  refine z_iload_2 (pc := 4) dX2_allNotes_4 ?_
  refine z_bipush (pc := 5) (6) dX2_allNotes_5 rfl ?_
  refine z_icmp_ge (pc := 7) (tgt := 27) dX2_allNotes_7 (by decide) (fun c7 => ?_) (fun c7 => ?_)
  · exact absurd c7 (by decide)
  · skip
    refine z_iload_1 (pc := 10) dX2_allNotes_10 ?_
    refine z_aload_0 (pc := 11) dX2_allNotes_11 ?_
    refine z_iload_2 (pc := 12) dX2_allNotes_12 ?_
    refine z_V1 (pc := 13) dX2_allNotes_13 mlX2_42 kX2_notesOf vX2_notesOf (by decide) (by decide) (by first | rfl | assumption) (Nat.le_of_ble_eq_true rfl) (qX2_notesOf hc hr hk 0 (by decide) (by decide)) ⟨Nat.le_refl _, Nat.le_refl _⟩ (fun r h1 hq => ?_)
    obtain ⟨rfl, rfl⟩ := hq
    refine z_S1 (pc := 16) dX2_allNotes_16 mlX2_45 kJ6_bitCount_0f7a4 vJ6_bitCount_0f7a4 (by decide) (by decide) (Nat.le_of_ble_eq_true rfl) (qJ6_bitCount_0f7a4) ⟨Nat.le_refl _, Nat.le_refl _⟩ (fun r h1 hq => ?_)
    obtain ⟨rfl, rfl⟩ := hq
    refine z_iadd (pc := 19) dX2_allNotes_19 ?_
    refine z_istore_1 (pc := 20) dX2_allNotes_20 (by decide) rfl ?_
    refine z_iinc_2 (pc := 21) (1) dX2_allNotes_21 rfl (by decide) rfl ?_
    refine z_goto (pc := 24) (tgt := 4) dX2_allNotes_24 (by decide) ?_
    refine z_iload_2 (pc := 4) dX2_allNotes_4 ?_
    refine z_bipush (pc := 5) (6) dX2_allNotes_5 rfl ?_
    refine z_icmp_ge (pc := 7) (tgt := 27) dX2_allNotes_7 (by decide) (fun c7_2 => ?_) (fun c7_2 => ?_)
    · exact absurd c7_2 (by decide)
    · skip
      refine z_iload_1 (pc := 10) dX2_allNotes_10 ?_
      refine z_aload_0 (pc := 11) dX2_allNotes_11 ?_
      refine z_iload_2 (pc := 12) dX2_allNotes_12 ?_
      refine z_V1 (pc := 13) dX2_allNotes_13 mlX2_42 kX2_notesOf vX2_notesOf (by decide) (by decide) (by first | rfl | assumption) (Nat.le_of_ble_eq_true rfl) (qX2_notesOf hc hr hk 1 (by decide) (by decide)) ⟨Nat.le_refl _, Nat.le_refl _⟩ (fun r h1 hq => ?_)
      obtain ⟨rfl, rfl⟩ := hq
      refine z_S1 (pc := 16) dX2_allNotes_16 mlX2_45 kJ6_bitCount_0f7a4 vJ6_bitCount_0f7a4 (by decide) (by decide) (Nat.le_of_ble_eq_true rfl) (qJ6_bitCount_0f7a4) ⟨Nat.le_refl _, Nat.le_refl _⟩ (fun r h1 hq => ?_)
      obtain ⟨rfl, rfl⟩ := hq
      refine z_iadd (pc := 19) dX2_allNotes_19 ?_
      refine z_istore_1 (pc := 20) dX2_allNotes_20 (by decide) rfl ?_
      refine z_iinc_2 (pc := 21) (1) dX2_allNotes_21 rfl (by decide) rfl ?_
      refine z_goto (pc := 24) (tgt := 4) dX2_allNotes_24 (by decide) ?_
      refine z_iload_2 (pc := 4) dX2_allNotes_4 ?_
      refine z_bipush (pc := 5) (6) dX2_allNotes_5 rfl ?_
      refine z_icmp_ge (pc := 7) (tgt := 27) dX2_allNotes_7 (by decide) (fun c7_3 => ?_) (fun c7_3 => ?_)
      · exact absurd c7_3 (by decide)
      · skip
        refine z_iload_1 (pc := 10) dX2_allNotes_10 ?_
        refine z_aload_0 (pc := 11) dX2_allNotes_11 ?_
        refine z_iload_2 (pc := 12) dX2_allNotes_12 ?_
        refine z_V1 (pc := 13) dX2_allNotes_13 mlX2_42 kX2_notesOf vX2_notesOf (by decide) (by decide) (by first | rfl | assumption) (Nat.le_of_ble_eq_true rfl) (qX2_notesOf hc hr hk 2 (by decide) (by decide)) ⟨Nat.le_refl _, Nat.le_refl _⟩ (fun r h1 hq => ?_)
        obtain ⟨rfl, rfl⟩ := hq
        refine z_S1 (pc := 16) dX2_allNotes_16 mlX2_45 kJ6_bitCount_0f7a4 vJ6_bitCount_0f7a4 (by decide) (by decide) (Nat.le_of_ble_eq_true rfl) (qJ6_bitCount_0f7a4) ⟨Nat.le_refl _, Nat.le_refl _⟩ (fun r h1 hq => ?_)
        obtain ⟨rfl, rfl⟩ := hq
        refine z_iadd (pc := 19) dX2_allNotes_19 ?_
        refine z_istore_1 (pc := 20) dX2_allNotes_20 (by decide) rfl ?_
        refine z_iinc_2 (pc := 21) (1) dX2_allNotes_21 rfl (by decide) rfl ?_
        refine z_goto (pc := 24) (tgt := 4) dX2_allNotes_24 (by decide) ?_
        refine z_iload_2 (pc := 4) dX2_allNotes_4 ?_
        refine z_bipush (pc := 5) (6) dX2_allNotes_5 rfl ?_
        refine z_icmp_ge (pc := 7) (tgt := 27) dX2_allNotes_7 (by decide) (fun c7_4 => ?_) (fun c7_4 => ?_)
        · exact absurd c7_4 (by decide)
        · skip
          refine z_iload_1 (pc := 10) dX2_allNotes_10 ?_
          refine z_aload_0 (pc := 11) dX2_allNotes_11 ?_
          refine z_iload_2 (pc := 12) dX2_allNotes_12 ?_
          refine z_V1 (pc := 13) dX2_allNotes_13 mlX2_42 kX2_notesOf vX2_notesOf (by decide) (by decide) (by first | rfl | assumption) (Nat.le_of_ble_eq_true rfl) (qX2_notesOf hc hr hk 3 (by decide) (by decide)) ⟨Nat.le_refl _, Nat.le_refl _⟩ (fun r h1 hq => ?_)
          obtain ⟨rfl, rfl⟩ := hq
          refine z_S1 (pc := 16) dX2_allNotes_16 mlX2_45 kJ6_bitCount_0f7a4 vJ6_bitCount_0f7a4 (by decide) (by decide) (Nat.le_of_ble_eq_true rfl) (qJ6_bitCount_0f7a4) ⟨Nat.le_refl _, Nat.le_refl _⟩ (fun r h1 hq => ?_)
          obtain ⟨rfl, rfl⟩ := hq
          refine z_iadd (pc := 19) dX2_allNotes_19 ?_
          refine z_istore_1 (pc := 20) dX2_allNotes_20 (by decide) rfl ?_
          refine z_iinc_2 (pc := 21) (1) dX2_allNotes_21 rfl (by decide) rfl ?_
          refine z_goto (pc := 24) (tgt := 4) dX2_allNotes_24 (by decide) ?_
          refine z_iload_2 (pc := 4) dX2_allNotes_4 ?_
          refine z_bipush (pc := 5) (6) dX2_allNotes_5 rfl ?_
          refine z_icmp_ge (pc := 7) (tgt := 27) dX2_allNotes_7 (by decide) (fun c7_5 => ?_) (fun c7_5 => ?_)
          · exact absurd c7_5 (by decide)
          · skip
            refine z_iload_1 (pc := 10) dX2_allNotes_10 ?_
            refine z_aload_0 (pc := 11) dX2_allNotes_11 ?_
            refine z_iload_2 (pc := 12) dX2_allNotes_12 ?_
            refine z_V1 (pc := 13) dX2_allNotes_13 mlX2_42 kX2_notesOf vX2_notesOf (by decide) (by decide) (by first | rfl | assumption) (Nat.le_of_ble_eq_true rfl) (qX2_notesOf hc hr hk 4 (by decide) (by decide)) ⟨Nat.le_refl _, Nat.le_refl _⟩ (fun r h1 hq => ?_)
            obtain ⟨rfl, rfl⟩ := hq
            refine z_S1 (pc := 16) dX2_allNotes_16 mlX2_45 kJ6_bitCount_0f7a4 vJ6_bitCount_0f7a4 (by decide) (by decide) (Nat.le_of_ble_eq_true rfl) (qJ6_bitCount_0f7a4) ⟨Nat.le_refl _, Nat.le_refl _⟩ (fun r h1 hq => ?_)
            obtain ⟨rfl, rfl⟩ := hq
            refine z_iadd (pc := 19) dX2_allNotes_19 ?_
            refine z_istore_1 (pc := 20) dX2_allNotes_20 (by decide) rfl ?_
            refine z_iinc_2 (pc := 21) (1) dX2_allNotes_21 rfl (by decide) rfl ?_
            refine z_goto (pc := 24) (tgt := 4) dX2_allNotes_24 (by decide) ?_
            refine z_iload_2 (pc := 4) dX2_allNotes_4 ?_
            refine z_bipush (pc := 5) (6) dX2_allNotes_5 rfl ?_
            refine z_icmp_ge (pc := 7) (tgt := 27) dX2_allNotes_7 (by decide) (fun c7_6 => ?_) (fun c7_6 => ?_)
            · exact absurd c7_6 (by decide)
            · skip
              refine z_iload_1 (pc := 10) dX2_allNotes_10 ?_
              refine z_aload_0 (pc := 11) dX2_allNotes_11 ?_
              refine z_iload_2 (pc := 12) dX2_allNotes_12 ?_
              refine z_V1 (pc := 13) dX2_allNotes_13 mlX2_42 kX2_notesOf vX2_notesOf (by decide) (by decide) (by first | rfl | assumption) (Nat.le_of_ble_eq_true rfl) (qX2_notesOf hc hr hk 5 (by decide) (by decide)) ⟨Nat.le_refl _, Nat.le_refl _⟩ (fun r h1 hq => ?_)
              obtain ⟨rfl, rfl⟩ := hq
              refine z_S1 (pc := 16) dX2_allNotes_16 mlX2_45 kJ6_bitCount_0f7a4 vJ6_bitCount_0f7a4 (by decide) (by decide) (Nat.le_of_ble_eq_true rfl) (qJ6_bitCount_0f7a4) ⟨Nat.le_refl _, Nat.le_refl _⟩ (fun r h1 hq => ?_)
              obtain ⟨rfl, rfl⟩ := hq
              refine z_iadd (pc := 19) dX2_allNotes_19 ?_
              refine z_istore_1 (pc := 20) dX2_allNotes_20 (by decide) rfl ?_
              refine z_iinc_2 (pc := 21) (1) dX2_allNotes_21 rfl (by decide) rfl ?_
              refine z_goto (pc := 24) (tgt := 4) dX2_allNotes_24 (by decide) ?_
              refine z_iload_2 (pc := 4) dX2_allNotes_4 ?_
              refine z_bipush (pc := 5) (6) dX2_allNotes_5 rfl ?_
              refine z_icmp_ge (pc := 7) (tgt := 27) dX2_allNotes_7 (by decide) (fun c7_7 => ?_) (fun c7_7 => ?_)
              · skip
                refine z_iload_1 (pc := 27) dX2_allNotes_27 ?_
                refine z_ret (pc := 28) (r := some (.int _)) rfl dX2_allNotes_28 trivial rfl rfl ?_
                exact ⟨rfl, rfl⟩
              · exact absurd (by decide) c7_7
set_option maxRecDepth 100000 in
set_option maxHeartbeats 4000000 in
theorem qX2_empty {l : zL} {I : Nat → Nat → Int32} {J : Nat → Nat → Int64} {r : Nat → Nat → Option Nat} {sh : List zSh} {c k : Nat} (hc : sh[c]? = some (2, 0)) (hr : r c 0 = some k) (hk : sh[k]? = some (10, 19)) : zP l mX2_empty [.ref c] (I, J, r, sh) (zR none (zfill I k 19 0, J, r, sh)) := by
  refine z_start [.ref c] (by decide +kernel) (Nat.le_of_ble_eq_true rfl) rfl ?_
  refine z_aload_0 (pc := 0) dX2_empty_0 ?_
  refine y_getR (pc := 1) dX2_empty_1 flX2_11 rfl (by first | rfl | assumption) (by first | rfl | assumption) ?_
  refine z_iconst (pc := 4) (0) dX2_empty_4 rfl ?_
  refine z_S2 (pc := 5) dX2_empty_5 mlX2_15 kJ7_fill_53178 vJ7_fill_53178 (by decide) (by decide) (Nat.le_of_ble_eq_true rfl) (qJ7_fill_53178 hk (by decide)) ⟨Nat.le_refl _, Nat.le_refl _⟩ (fun r h1 hq => ?_)
  obtain ⟨rfl, rfl⟩ := hq
  refine z_ret (pc := 8) (r := none) rfl dX2_empty_8 trivial rfl rfl ?_
  exact ⟨rfl, rfl⟩
set_option maxRecDepth 100000 in
set_option maxHeartbeats 4000000 in
theorem qX2_become {l : zL} {I : Nat → Nat → Int32} {J : Nat → Nat → Int64} {r : Nat → Nat → Option Nat} {sh : List zSh} {c k : Nat} (hc : sh[c]? = some (2, 0)) (hr : r c 0 = some k) (hk : sh[k]? = some (10, 19)) {c2 k2 : Nat} (hc2 : sh[c2]? = some (2, 0)) (hr2 : r c2 0 = some k2) (hk2 : sh[k2]? = some (10, 19)) : zP l mX2_become [.ref c, .ref c2] (I, J, r, sh) (zR none (zcpy I k2 k 0 0 19, J, r, sh)) := by
  refine z_start [.ref c, .ref c2] (by decide +kernel) (Nat.le_of_ble_eq_true rfl) rfl ?_
  refine z_aload_1 (pc := 0) dX2_become_0 ?_
  refine y_getR (pc := 1) dX2_become_1 flX2_11 rfl (by first | rfl | assumption) (by first | rfl | assumption) ?_
  refine z_iconst (pc := 4) (0) dX2_become_4 rfl ?_
  refine z_aload_0 (pc := 5) dX2_become_5 ?_
  refine y_getR (pc := 6) dX2_become_6 flX2_11 rfl (by first | rfl | assumption) (by first | rfl | assumption) ?_
  refine z_iconst (pc := 9) (0) dX2_become_9 rfl ?_
  refine z_bipush (pc := 10) (19) dX2_become_10 rfl ?_
  refine y_copy (pc := 12) dX2_become_12 mlX2_21 w_an w_as w_si (0) (0) (19) (by first | rfl | assumption) (by first | rfl | assumption) (rfl) (rfl) (rfl) (by decide) (by decide) (by decide) (by decide) (Nat.le_of_ble_eq_true rfl) ?_
  refine z_ret (pc := 15) (r := none) rfl dX2_become_15 trivial rfl rfl ?_
  exact ⟨rfl, rfl⟩
