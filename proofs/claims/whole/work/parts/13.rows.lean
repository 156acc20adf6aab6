set_option maxRecDepth 100000 in
set_option maxHeartbeats 4000000 in
theorem qX5_isMissing {l : zL} {I : Nat → Nat → Int32} {J : Nat → Nat → Int64} {nw : Bool} {x : Int32} (i : Nat) (hx : x = nI i) (hi : i < 8) : zP l mX5_isMissing [.ref 1, .int x] (hh I J nw) (zR (some (.int (zb (I 12 i = -1)))) (hh I J nw)) := by
  refine z_start [.ref 1, .int x] (by decide +kernel) (Nat.le_of_ble_eq_true rfl) rfl ?_
  refine z_aload_0 (pc := 0) dX5_isMissing_0 ?_
  refine y_getR (pc := 1) dX5_isMissing_1 flX5_20 rfl (by first | rfl | assumption) (by first | rfl | assumption) ?_
  refine z_iload_1 (pc := 4) dX5_isMissing_4 ?_
  refine y_ialdN (pc := 5) (i) dX5_isMissing_5 (by first | rfl | assumption) (hx) (hi) (by first | decide | omega) ?_
  refine z_iconst (pc := 6) (-1) dX5_isMissing_6 rfl ?_
  refine z_icmp_ne (pc := 7) (tgt := 14) dX5_isMissing_7 (by decide) (fun c7 => ?_) (fun c7 => ?_)
  · skip
    refine z_iconst (pc := 14) (0) dX5_isMissing_14 rfl ?_
    refine z_ret (pc := 15) (r := some (.int _)) rfl dX5_isMissing_15 (by first | exact Or.inl rfl | exact Or.inr rfl | assumption) rfl rfl ?_
    exact ⟨by simp [zb, *], rfl⟩
  · skip
    refine z_iconst (pc := 10) (1) dX5_isMissing_10 rfl ?_
    refine z_goto (pc := 11) (tgt := 15) dX5_isMissing_11 (by decide) ?_
    refine z_ret (pc := 15) (r := some (.int _)) rfl dX5_isMissing_15 (by first | exact Or.inl rfl | exact Or.inr rfl | assumption) rfl rfl ?_
    exact ⟨by simp [zb, *], rfl⟩
set_option maxRecDepth 100000 in
set_option maxHeartbeats 4000000 in
theorem qX5_holds {l : zL} {I : Nat → Nat → Int32} {J : Nat → Nat → Int64} {nw : Bool} {x : Int32} (i : Nat) (hx : x = nI i) (hi : i < 8) {a n : Int32} : zP l mX5_holds [.ref 1, .int x, .int a, .int n] (hh I J nw) (zR (some (.int (zb (¬ a < 0 ∧ ¬ n < 0 ∧ ¬ I 12 i < n ∧ ¬ I 12 i - n < a)))) (hh I J nw)) := by
  refine z_start [.ref 1, .int x, .int a, .int n] (by decide +kernel) (Nat.le_of_ble_eq_true rfl) rfl ?_
  refine z_iload_2 (pc := 0) dX5_holds_0 ?_
  refine z_if_lt (pc := 1) (tgt := 34) dX5_holds_1 (by decide) (fun c1 => ?_) (fun c1 => ?_)
  · skip
    refine z_iconst (pc := 34) (0) dX5_holds_34 rfl ?_
    refine z_ret (pc := 35) (r := some (.int _)) rfl dX5_holds_35 (by first | exact Or.inl rfl | exact Or.inr rfl | assumption) rfl rfl ?_
    exact ⟨by simp [zb, *], rfl⟩
  · skip
    refine z_iload_3 (pc := 4) dX5_holds_4 ?_
    refine z_if_lt (pc := 5) (tgt := 34) dX5_holds_5 (by decide) (fun c5 => ?_) (fun c5 => ?_)
    · skip
      refine z_iconst (pc := 34) (0) dX5_holds_34 rfl ?_
      refine z_ret (pc := 35) (r := some (.int _)) rfl dX5_holds_35 (by first | exact Or.inl rfl | exact Or.inr rfl | assumption) rfl rfl ?_
      exact ⟨by simp [zb, *], rfl⟩
    · skip
      refine z_iload_3 (pc := 8) dX5_holds_8 ?_
      refine z_aload_0 (pc := 9) dX5_holds_9 ?_
      refine y_getR (pc := 10) dX5_holds_10 flX5_20 rfl (by first | rfl | assumption) (by first | rfl | assumption) ?_
      refine z_iload_1 (pc := 13) dX5_holds_13 ?_
      refine y_ialdN (pc := 14) (i) dX5_holds_14 (by first | rfl | assumption) (hx) (hi) (by first | decide | omega) ?_
      refine z_icmp_gt (pc := 15) (tgt := 34) dX5_holds_15 (by decide) (fun c15 => ?_) (fun c15 => ?_)
      · skip
        refine z_iconst (pc := 34) (0) dX5_holds_34 rfl ?_
        refine z_ret (pc := 35) (r := some (.int _)) rfl dX5_holds_35 (by first | exact Or.inl rfl | exact Or.inr rfl | assumption) rfl rfl ?_
        exact ⟨by simp [zb, *], rfl⟩
      · skip
        refine z_iload_2 (pc := 18) dX5_holds_18 ?_
        refine z_aload_0 (pc := 19) dX5_holds_19 ?_
        refine y_getR (pc := 20) dX5_holds_20 flX5_20 rfl (by first | rfl | assumption) (by first | rfl | assumption) ?_
        refine z_iload_1 (pc := 23) dX5_holds_23 ?_
        refine y_ialdN (pc := 24) (i) dX5_holds_24 (by first | rfl | assumption) (hx) (hi) (by first | decide | omega) ?_
        refine z_iload_3 (pc := 25) dX5_holds_25 ?_
        refine z_isub (pc := 26) dX5_holds_26 ?_
        refine z_icmp_gt (pc := 27) (tgt := 34) dX5_holds_27 (by decide) (fun c27 => ?_) (fun c27 => ?_)
        · skip
          refine z_iconst (pc := 34) (0) dX5_holds_34 rfl ?_
          refine z_ret (pc := 35) (r := some (.int _)) rfl dX5_holds_35 (by first | exact Or.inl rfl | exact Or.inr rfl | assumption) rfl rfl ?_
          exact ⟨by simp [zb, *], rfl⟩
        · skip
          refine z_iconst (pc := 30) (1) dX5_holds_30 rfl ?_
          refine z_goto (pc := 31) (tgt := 35) dX5_holds_31 (by decide) ?_
          refine z_ret (pc := 35) (r := some (.int _)) rfl dX5_holds_35 (by first | exact Or.inl rfl | exact Or.inr rfl | assumption) rfl rfl ?_
          exact ⟨by simp [zb, *], rfl⟩
set_option maxRecDepth 100000 in
set_option maxHeartbeats 4000000 in
theorem qX5_make {l : zL} {I : Nat → Nat → Int32} {J : Nat → Nat → Int64} {nw : Bool} {x : Int32} (i : Nat) (hx : x = nI i) (hi : i < 8) {v n : Int32} : zP l mX5_make [.ref 1, .int x, .int v, .int n] (hh I J nw) (zR none (zfill (zup (zup I 11 i v) 12 i n) (3 + i) 40 0, J, RF nw, SH)) := by
  refine z_start [.ref 1, .int x, .int v, .int n] (by decide +kernel) (Nat.le_of_ble_eq_true rfl) rfl ?_
  refine z_aload_0 (pc := 0) dX5_make_0 ?_
  refine y_getR (pc := 1) dX5_make_1 flX5_16 rfl (by first | rfl | assumption) (by first | rfl | assumption) ?_
  refine z_iload_1 (pc := 4) dX5_make_4 ?_
  refine z_iload_2 (pc := 5) dX5_make_5 ?_
  refine y_iastN (pc := 6) (i) dX5_make_6 (by first | rfl | assumption) (hx) (hi) (by first | decide | omega) ?_
  refine z_aload_0 (pc := 7) dX5_make_7 ?_
  refine y_getR (pc := 8) dX5_make_8 flX5_20 rfl (by first | rfl | assumption) (by first | rfl | assumption) ?_
  refine z_iload_1 (pc := 11) dX5_make_11 ?_
  refine z_iload_3 (pc := 12) dX5_make_12 ?_
  refine y_iastN (pc := 13) (i) dX5_make_13 (by first | rfl | assumption) (hx) (hi) (by first | decide | omega) ?_
  refine z_aload_0 (pc := 14) dX5_make_14 ?_
  refine y_getR (pc := 15) dX5_make_15 flX5_11 rfl (by first | rfl | assumption) (by first | rfl | assumption) ?_
  refine z_iload_1 (pc := 18) dX5_make_18 ?_
  refine y_aaldIN (pc := 19) (i) dX5_make_19 rfl hx hi (by decide) (RF_items nw i hi) ?_
  refine z_iconst (pc := 20) (0) dX5_make_20 rfl ?_
  refine z_S2 (pc := 21) dX5_make_21 mlX5_23 kJ7_fill_53178 vJ7_fill_53178 (by decide) (by decide) (Nat.le_of_ble_eq_true rfl) (qJ7_fill_53178 (SH_items i hi) (by decide)) ⟨Nat.le_refl _, Nat.le_refl _⟩ (fun r h1 hq => ?_)
  obtain ⟨rfl, rfl⟩ := hq
  refine z_ret (pc := 24) (r := none) rfl dX5_make_24 trivial rfl rfl ?_
  exact ⟨rfl, rfl⟩
def zcut (l v : Int32) : Int32 := if l = 0 then v.toInt8.toInt32 else if l = 1 then v.toInt16.toInt32 else v
set_option maxRecDepth 100000 in
set_option maxHeartbeats 4000000 in
theorem qX5_put {l : zL} {I : Nat → Nat → Int32} {J : Nat → Nat → Int64} {nw : Bool} {x : Int32} (i : Nat) (hx : x = nI i) (hi : i < 8) {a v : Int32} (j : Nat) (ha : a = nI j) (hj : j < 40) : zP l mX5_put [.ref 1, .int x, .int a, .int v] (hh I J nw) (zR (some (.int (zcut (I 11 i) v))) (zup I (3 + i) j (zcut (I 11 i) v), J, RF nw, SH)) := by
  refine z_start [.ref 1, .int x, .int a, .int v, zno] (by decide +kernel) (Nat.le_of_ble_eq_true rfl) rfl ?_
  refine z_iload_3 (pc := 0) dX5_put_0 ?_
  refine z_istore_4 (pc := 1) dX5_put_1 (by decide) rfl ?_
  refine z_aload_0 (pc := 3) dX5_put_3 ?_
  refine y_getR (pc := 4) dX5_put_4 flX5_16 rfl (by first | rfl | assumption) (by first | rfl | assumption) ?_
  refine z_iload_1 (pc := 7) dX5_put_7 ?_
  refine y_ialdN (pc := 8) (i) dX5_put_8 (by first | rfl | assumption) (hx) (hi) (by first | decide | omega) ?_
  refine z_if_ne (pc := 9) (tgt := 19) dX5_put_9 (by decide) (fun c9 => ?_) (fun c9 => ?_)
  · skip
    refine z_aload_0 (pc := 19) dX5_put_19 ?_
    refine y_getR (pc := 20) dX5_put_20 flX5_16 rfl (by first | rfl | assumption) (by first | rfl | assumption) ?_
    refine z_iload_1 (pc := 23) dX5_put_23 ?_
    refine y_ialdN (pc := 24) (i) dX5_put_24 (by first | rfl | assumption) (hx) (hi) (by first | decide | omega) ?_
    refine z_iconst (pc := 25) (1) dX5_put_25 rfl ?_
    refine z_icmp_ne (pc := 26) (tgt := 33) dX5_put_26 (by decide) (fun c26 => ?_) (fun c26 => ?_)
    · skip
      refine z_aload_0 (pc := 33) dX5_put_33 ?_
      refine y_getR (pc := 34) dX5_put_34 flX5_11 rfl (by first | rfl | assumption) (by first | rfl | assumption) ?_
      refine z_iload_1 (pc := 37) dX5_put_37 ?_
      refine y_aaldIN (pc := 38) (i) dX5_put_38 rfl hx hi (by decide) (RF_items nw i hi) ?_
      refine z_iload_2 (pc := 39) dX5_put_39 ?_
      refine z_iload_4 (pc := 40) dX5_put_40 ?_
      refine y_iastN (pc := 42) (j) dX5_put_42 (SH_items i hi) ha hj (by decide) ?_
      refine z_iload_4 (pc := 43) dX5_put_43 ?_
      refine z_ret (pc := 45) (r := some (.int _)) rfl dX5_put_45 trivial rfl rfl ?_
      exact ⟨by simp [zcut, *], by simp [zcut, *]⟩
    · skip
      refine z_iload_3 (pc := 29) dX5_put_29 ?_
      refine z_i2s (pc := 30) dX5_put_30 ?_
      refine z_istore_4 (pc := 31) dX5_put_31 (by decide) rfl ?_
      refine z_aload_0 (pc := 33) dX5_put_33 ?_
      refine y_getR (pc := 34) dX5_put_34 flX5_11 rfl (by first | rfl | assumption) (by first | rfl | assumption) ?_
      refine z_iload_1 (pc := 37) dX5_put_37 ?_
      refine y_aaldIN (pc := 38) (i) dX5_put_38 rfl hx hi (by decide) (RF_items nw i hi) ?_
      refine z_iload_2 (pc := 39) dX5_put_39 ?_
      refine z_iload_4 (pc := 40) dX5_put_40 ?_
      refine y_iastN (pc := 42) (j) dX5_put_42 (SH_items i hi) ha hj (by decide) ?_
      refine z_iload_4 (pc := 43) dX5_put_43 ?_
      refine z_ret (pc := 45) (r := some (.int _)) rfl dX5_put_45 trivial rfl rfl ?_
      exact ⟨by simp [zcut, *], by simp [zcut, *]⟩
  · skip
    refine z_iload_3 (pc := 12) dX5_put_12 ?_
    refine z_i2b (pc := 13) dX5_put_13 ?_
    refine z_istore_4 (pc := 14) dX5_put_14 (by decide) rfl ?_
    refine z_goto (pc := 16) (tgt := 33) dX5_put_16 (by decide) ?_
    refine z_aload_0 (pc := 33) dX5_put_33 ?_
    refine y_getR (pc := 34) dX5_put_34 flX5_11 rfl (by first | rfl | assumption) (by first | rfl | assumption) ?_
    refine z_iload_1 (pc := 37) dX5_put_37 ?_
    refine y_aaldIN (pc := 38) (i) dX5_put_38 rfl hx hi (by decide) (RF_items nw i hi) ?_
    refine z_iload_2 (pc := 39) dX5_put_39 ?_
    refine z_iload_4 (pc := 40) dX5_put_40 ?_
    refine y_iastN (pc := 42) (j) dX5_put_42 (SH_items i hi) ha hj (by decide) ?_
    refine z_iload_4 (pc := 43) dX5_put_43 ?_
    refine z_ret (pc := 45) (r := some (.int _)) rfl dX5_put_45 trivial rfl rfl ?_
    exact ⟨by simp [zcut, *], by simp [zcut, *]⟩
set_option maxRecDepth 100000 in
set_option maxHeartbeats 4000000 in
theorem qX5_lose {l : zL} {I : Nat → Nat → Int32} {J : Nat → Nat → Int64} {nw : Bool} {x : Int32} (i : Nat) (hx : x = nI i) (hi : i < 8) : zP l mX5_lose [.ref 1, .int x] (hh I J nw) (zR (some (.int (I 12 i))) (zup I 12 i (-1), J, RF nw, SH)) := by
  refine z_start [.ref 1, .int x, zno] (by decide +kernel) (Nat.le_of_ble_eq_true rfl) rfl ?_
  refine z_aload_0 (pc := 0) dX5_lose_0 ?_
  refine y_getR (pc := 1) dX5_lose_1 flX5_20 rfl (by first | rfl | assumption) (by first | rfl | assumption) ?_
  refine z_iload_1 (pc := 4) dX5_lose_4 ?_
  refine y_ialdN (pc := 5) (i) dX5_lose_5 (by first | rfl | assumption) (hx) (hi) (by first | decide | omega) ?_
  refine z_istore_2 (pc := 6) dX5_lose_6 (by decide) rfl ?_
  refine z_aload_0 (pc := 7) dX5_lose_7 ?_
  refine y_getR (pc := 8) dX5_lose_8 flX5_20 rfl (by first | rfl | assumption) (by first | rfl | assumption) ?_
  refine z_iload_1 (pc := 11) dX5_lose_11 ?_
  refine z_iconst (pc := 12) (-1) dX5_lose_12 rfl ?_
  refine y_iastN (pc := 13) (i) dX5_lose_13 (by first | rfl | assumption) (hx) (hi) (by first | decide | omega) ?_
  refine z_iload_2 (pc := 14) dX5_lose_14 ?_
  refine z_ret (pc := 15) (r := some (.int _)) rfl dX5_lose_15 trivial rfl rfl ?_
  exact ⟨rfl, rfl⟩
def zrows (I : Nat → Nat → Int32) : Nat → Int32
  | 0 => 0
  | i + 1 => zrows I i + (if I 12 i = -1 then 0 else 1)
set_option maxRecDepth 100000 in
set_option maxHeartbeats 4000000 in
theorem rows_loop {l : zL} {I : Nat → Nat → Int32} {J : Nat → Nat → Int64} {nw : Bool} : ∀ (f i : Nat) (v : Value), i ≤ 8 → 8 - i < f → v.category = 1 →
    zW l mX5_howMany SH.length (zsl SH) 13 [.ref 1, .int (zrows I i), .ref 12, .int 8, .int (nI i), v] [] (hh I J nw) (zR (some (.int (zrows I 8))) (hh I J nw))
  | 0, i, v, _, hf, _ => by omega
  | f + 1, i, v, hi, hf, hv => by
    refine z_iload_4 (pc := 13) dX5_howMany_13 ?_
    refine z_iload_3 (pc := 15) dX5_howMany_15 ?_
    refine z_icmp_ge (pc := 16) (tgt := 40) dX5_howMany_16 (by decide) (fun c16 => ?_) (fun c16 => ?_)
    · skip
      refine z_iload_1 (pc := 40) dX5_howMany_40 ?_
      refine z_ret (pc := 41) (r := some (.int _)) rfl dX5_howMany_41 trivial rfl rfl ?_
      have : i = 8 := by
        rcases Nat.lt_or_ge i 8 with q | q
        · exact absurd c16 (nI_ge q (by decide))
        · omega
      subst this
      exact ⟨rfl, rfl⟩
    · skip
      have hlt : i < 8 := by
        rcases Nat.lt_or_ge i 8 with q | q
        · exact q
        · exact absurd (nI_le (a := 8) q (by omega)) c16
      refine z_aload_2 (pc := 19) dX5_howMany_19 ?_
      refine z_iload_4 (pc := 20) dX5_howMany_20 ?_
      refine y_ialdN (pc := 22) (i) dX5_howMany_22 (by first | rfl | assumption) (rfl) (hlt) (by first | decide | omega) ?_
      refine z_istore_5 (pc := 23) dX5_howMany_23 (by decide) rfl ?_
      refine z_iload_5 (pc := 25) dX5_howMany_25 ?_
      refine z_iconst (pc := 27) (-1) dX5_howMany_27 rfl ?_
      refine z_icmp_eq (pc := 28) (tgt := 34) dX5_howMany_28 (by decide) (fun c28 => ?_) (fun c28 => ?_)
      · skip
        refine z_iinc_4 (pc := 34) (1) dX5_howMany_34 rfl (by decide) rfl ?_
        refine z_goto (pc := 37) (tgt := 13) dX5_howMany_37 (by decide) ?_
        have k13 := rows_loop (l := l) (I := I) (J := J) (nw := nw) f (i + 1) (.int (I 12 i)) (by omega) (by omega) rfl
        first | rw [show zrows I (i + 1) = zrows I i from by show zrows I i + _ = _; rw [if_pos c28]; exact Int32.add_zero _, nI_succ] at k13 | rw [show zrows I (i + 1) = zrows I i + 1 from by show zrows I i + _ = _; rw [if_neg c28], nI_succ] at k13
        exact k13
      · skip
        refine z_iinc_1 (pc := 31) (1) dX5_howMany_31 rfl (by decide) rfl ?_
        refine z_iinc_4 (pc := 34) (1) dX5_howMany_34 rfl (by decide) rfl ?_
        refine z_goto (pc := 37) (tgt := 13) dX5_howMany_37 (by decide) ?_
        have k13 := rows_loop (l := l) (I := I) (J := J) (nw := nw) f (i + 1) (.int (I 12 i)) (by omega) (by omega) rfl
        first | rw [show zrows I (i + 1) = zrows I i from by show zrows I i + _ = _; rw [if_pos c28]; exact Int32.add_zero _, nI_succ] at k13 | rw [show zrows I (i + 1) = zrows I i + 1 from by show zrows I i + _ = _; rw [if_neg c28], nI_succ] at k13
        exact k13
set_option maxRecDepth 100000 in
set_option maxHeartbeats 4000000 in
theorem qX5_howMany {l : zL} {I : Nat → Nat → Int32} {J : Nat → Nat → Int64} {nw : Bool}  : zP l mX5_howMany [.ref 1] (hh I J nw) (zR (some (.int (zrows I 8))) (hh I J nw)) := by
  refine z_start [.ref 1, zno, zno, zno, zno, zno] (by decide +kernel) (Nat.le_of_ble_eq_true rfl) rfl ?_
  refine z_iconst (pc := 0) (0) dX5_howMany_0 rfl ?_
  refine z_istore_1 (pc := 1) dX5_howMany_1 (by decide) rfl ?_
  refine z_aload_0 (pc := 2) dX5_howMany_2 ?_
  refine y_getR (pc := 3) dX5_howMany_3 flX5_20 rfl (by first | rfl | assumption) (by first | rfl | assumption) ?_
  refine z_astore_2 (pc := 6) dX5_howMany_6 (by decide) rfl ?_
  refine z_aload_2 (pc := 7) dX5_howMany_7 ?_
  refine y_alen (pc := 8) dX5_howMany_8 (by first | rfl | assumption) ?_
  refine z_istore_3 (pc := 9) dX5_howMany_9 (by decide) rfl ?_
  refine z_iconst (pc := 10) (0) dX5_howMany_10 rfl ?_
  refine z_istore_4 (pc := 11) dX5_howMany_11 (by decide) rfl ?_
  exact rows_loop 9 0 zno (by omega) (by omega) rfl
theorem nI_rem24 {a : Nat} (h : a < 48) : nI a - nI a / 24 * 24 = nI (a % 24) := pk_rem (a := a) (d := 24) (by omega) (by decide) (by decide)
set_option maxRecDepth 100000 in
set_option maxHeartbeats 4000000 in
theorem qX0_keep {l : zL} {I : Nat → Nat → Int32} {J : Nat → Nat → Int64} {nw : Bool} (n m : Nat) (hn : n < 24) (hm : m ≤ 24) (e1 : I 48 1 = nI n) (e2 : I 48 2 = nI m) : zP l mX0_keep [.ref 48, .ref 21] (hh I J nw) (zR none (zup (zup (zcpy I 22 (50 + n) 0 0 19) 48 1 (nI ((n + 1) % 24))) 48 2 (nI (min 24 (m + 1))), J, RF nw, SH)) := by
  refine z_start [.ref 48, .ref 21] (by decide +kernel) (Nat.le_of_ble_eq_true rfl) rfl ?_
  refine z_aload_1 (pc := 0) dX0_keep_0 ?_
  refine y_getR (pc := 1) dX0_keep_1 flX0_25 rfl (by first | rfl | assumption | exact SH_acts n hn) (by first | rfl | assumption | exact SH_acts n hn) ?_
  refine z_iconst (pc := 4) (0) dX0_keep_4 rfl ?_
  refine z_aload_0 (pc := 5) dX0_keep_5 ?_
  refine y_getR (pc := 6) dX0_keep_6 flX0_13 rfl (by first | rfl | assumption | exact SH_acts n hn) (by first | rfl | assumption | exact SH_acts n hn) ?_
  refine z_aload_0 (pc := 9) dX0_keep_9 ?_
  refine y_getI (pc := 10) dX0_keep_10 flX0_18 rfl (by first | rfl | assumption | exact SH_acts n hn) ?_
  refine y_aaldIN (pc := 13) (n) dX0_keep_13 rfl e1 hn (by decide) (RF_acts nw n hn) ?_
  refine z_iconst (pc := 14) (0) dX0_keep_14 rfl ?_
  refine z_bipush (pc := 15) (19) dX0_keep_15 rfl ?_
  refine y_copy (pc := 17) dX0_keep_17 mlX0_29 w_an w_as w_si (0) (0) (19) (by first | rfl | assumption | exact SH_acts n hn) (by first | rfl | assumption | exact SH_acts n hn) (rfl) (rfl) (rfl) (by decide) (by decide) (by decide) (by decide) (Nat.le_of_ble_eq_true rfl) ?_
  refine z_aload_0 (pc := 20) dX0_keep_20 ?_
  refine z_aload_0 (pc := 21) dX0_keep_21 ?_
  refine y_getI (pc := 22) dX0_keep_22 flX0_18 rfl (by first | rfl | assumption | exact SH_acts n hn) ?_
  refine z_iconst (pc := 25) (1) dX0_keep_25 rfl ?_
  refine z_iadd (pc := 26) dX0_keep_26 ?_
  refine z_bipush (pc := 27) (24) dX0_keep_27 rfl ?_
  refine z_irem (pc := 29) (by decide) dX0_keep_29 ?_
  refine z_nm (y := nI ((n + 1) % 24)) ?_ ?_
  · rw [show zcpy I 22 (50 + n) 0 0 19 48 1 = nI n from by unfold zcpy; rw [if_neg (by omega)]; exact e1]
    rw [← nI_succ]
    exact nI_rem24 (a := n + 1) (by omega)
  refine y_putI (pc := 30) dX0_keep_30 flX0_18 ffX0_18 rfl (by first | rfl | assumption | exact SH_acts n hn) ⟨rfl, rfl⟩ ?_
  refine z_aload_0 (pc := 33) dX0_keep_33 ?_
  refine z_bipush (pc := 34) (24) dX0_keep_34 rfl ?_
  refine z_aload_0 (pc := 36) dX0_keep_36 ?_
  refine y_getI (pc := 37) dX0_keep_37 flX0_22 rfl (by first | rfl | assumption | exact SH_acts n hn) ?_
  refine z_iconst (pc := 40) (1) dX0_keep_40 rfl ?_
  refine z_iadd (pc := 41) dX0_keep_41 ?_
  refine z_mmin (pc := 42) dX0_keep_42 mmX0_35 (by decide) (Nat.le_of_ble_eq_true rfl) ?_
  refine z_nm (y := nI (min 24 (m + 1))) ?_ ?_
  · rw [show (zup (zcpy I 22 (50 + n) 0 0 19) 48 1 (nI ((n + 1) % 24))) 48 2 = nI m from by rw [zup_nj _ _ (by decide)]; unfold zcpy; rw [if_neg (by omega)]; exact e2]
    rw [← nI_succ]
    show (if nI (m + 1) < nI 24 then nI (m + 1) else nI 24) = _
    by_cases hq : m + 1 < 24
    · rw [if_pos (nI_lt hq (by decide)), Nat.min_eq_right (by omega)]
    · rw [if_neg (nI_nlt (by omega) (by omega)), Nat.min_eq_left (by omega)]
  refine y_putI (pc := 45) dX0_keep_45 flX0_22 ffX0_22 rfl (by first | rfl | assumption | exact SH_acts n hn) ⟨rfl, rfl⟩ ?_
  refine z_ret (pc := 48) (r := none) rfl dX0_keep_48 trivial rfl rfl ?_
  exact ⟨rfl, rfl⟩
set_option maxRecDepth 100000 in
set_option maxHeartbeats 4000000 in
theorem qX0_takeBack {l : zL} {I : Nat → Nat → Int32} {J : Nat → Nat → Int64} {nw : Bool} (n m : Nat) (hn : n < 24) (hm : 0 < m ∧ m ≤ 24) (e1 : I 48 1 = nI n) (e2 : I 48 2 = nI m) : zP l mX0_takeBack [.ref 48, .ref 21] (hh I J nw) (zR none (zcpy (zup (zup I 48 1 (nI ((n + 23) % 24))) 48 2 (nI (m - 1))) (50 + (n + 23) % 24) 22 0 0 19, J, RF nw, SH)) := by
  refine z_start [.ref 48, .ref 21] (by decide +kernel) (Nat.le_of_ble_eq_true rfl) rfl ?_
  refine z_aload_0 (pc := 0) dX0_takeBack_0 ?_
  refine z_aload_0 (pc := 1) dX0_takeBack_1 ?_
  refine y_getI (pc := 2) dX0_takeBack_2 flX0_18 rfl (by first | rfl | assumption | exact SH_acts _ (Nat.mod_lt _ (by decide))) ?_
  refine z_bipush (pc := 5) (24) dX0_takeBack_5 rfl ?_
  refine z_iadd (pc := 7) dX0_takeBack_7 ?_
  refine z_iconst (pc := 8) (1) dX0_takeBack_8 rfl ?_
  refine z_isub (pc := 9) dX0_takeBack_9 ?_
  refine z_bipush (pc := 10) (24) dX0_takeBack_10 rfl ?_
  refine z_irem (pc := 12) (by decide) dX0_takeBack_12 ?_
  refine z_nm (y := nI ((n + 23) % 24)) ?_ ?_
  · rw [e1, show nI n + 24 - 1 = nI (n + 23) from by rw [show nI n + 24 = nI (n + 24) from nI_add n 24]; exact nI_pred (n + 23)]
    exact nI_rem24 (a := n + 23) (by omega)
  refine y_putI (pc := 13) dX0_takeBack_13 flX0_18 ffX0_18 rfl (by first | rfl | assumption | exact SH_acts _ (Nat.mod_lt _ (by decide))) ⟨rfl, rfl⟩ ?_
  refine z_aload_0 (pc := 16) dX0_takeBack_16 ?_
  refine z_dup (pc := 17) rfl dX0_takeBack_17 ?_
  refine y_getI (pc := 18) dX0_takeBack_18 flX0_22 rfl (by first | rfl | assumption | exact SH_acts _ (Nat.mod_lt _ (by decide))) ?_
  refine z_iconst (pc := 21) (1) dX0_takeBack_21 rfl ?_
  refine z_isub (pc := 22) dX0_takeBack_22 ?_
  refine z_nm (y := nI (m - 1)) ?_ ?_
  · rw [zup_nj _ _ (by decide), e2]
    obtain ⟨m, rfl⟩ : ∃ k, m = k + 1 := ⟨m - 1, by omega⟩
    exact nI_pred m
  refine y_putI (pc := 23) dX0_takeBack_23 flX0_22 ffX0_22 rfl (by first | rfl | assumption | exact SH_acts _ (Nat.mod_lt _ (by decide))) ⟨rfl, rfl⟩ ?_
  refine z_aload_0 (pc := 26) dX0_takeBack_26 ?_
  refine y_getR (pc := 27) dX0_takeBack_27 flX0_13 rfl (by first | rfl | assumption | exact SH_acts _ (Nat.mod_lt _ (by decide))) (by first | rfl | assumption | exact SH_acts _ (Nat.mod_lt _ (by decide))) ?_
  refine z_aload_0 (pc := 30) dX0_takeBack_30 ?_
  refine y_getI (pc := 31) dX0_takeBack_31 flX0_18 rfl (by first | rfl | assumption | exact SH_acts _ (Nat.mod_lt _ (by decide))) ?_
  refine y_aaldIN (pc := 34) ((n + 23) % 24) dX0_takeBack_34 rfl ?_ (Nat.mod_lt _ (by decide)) (by decide) (RF_acts nw _ (Nat.mod_lt _ (by decide))) ?_
  · rw [zup_nj _ _ (by decide), zup_same]
  refine z_iconst (pc := 35) (0) dX0_takeBack_35 rfl ?_
  refine z_aload_1 (pc := 36) dX0_takeBack_36 ?_
  refine y_getR (pc := 37) dX0_takeBack_37 flX0_25 rfl (by first | rfl | assumption | exact SH_acts _ (Nat.mod_lt _ (by decide))) (by first | rfl | assumption | exact SH_acts _ (Nat.mod_lt _ (by decide))) ?_
  refine z_iconst (pc := 40) (0) dX0_takeBack_40 rfl ?_
  refine z_bipush (pc := 41) (19) dX0_takeBack_41 rfl ?_
  refine y_copy (pc := 43) dX0_takeBack_43 mlX0_29 w_an w_as w_si (0) (0) (19) (by first | rfl | assumption | exact SH_acts _ (Nat.mod_lt _ (by decide))) (by first | rfl | assumption | exact SH_acts _ (Nat.mod_lt _ (by decide))) (rfl) (rfl) (rfl) (by decide) (by decide) (by decide) (by decide) (Nat.le_of_ble_eq_true rfl) ?_
  refine z_ret (pc := 46) (r := none) rfl dX0_takeBack_46 trivial rfl rfl ?_
  exact ⟨rfl, rfl⟩
set_option maxRecDepth 100000 in
set_option maxHeartbeats 4000000 in
theorem qX0_forget {l : zL} {I : Nat → Nat → Int32} {J : Nat → Nat → Int64} {nw : Bool}  : zP l mX0_forget [.ref 48] (hh I J nw) (zR none (zup I 48 2 0, J, RF nw, SH)) := by
  refine z_start [.ref 48] (by decide +kernel) (Nat.le_of_ble_eq_true rfl) rfl ?_
  refine z_aload_0 (pc := 0) dX0_forget_0 ?_
  refine z_iconst (pc := 1) (0) dX0_forget_1 rfl ?_
  refine y_putI (pc := 2) dX0_forget_2 flX0_22 ffX0_22 rfl (by first | rfl | assumption) ⟨rfl, rfl⟩ ?_
  refine z_ret (pc := 5) (r := none) rfl dX0_forget_5 trivial rfl rfl ?_
  exact ⟨rfl, rfl⟩
