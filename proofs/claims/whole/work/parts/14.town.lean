set_option maxRecDepth 100000 in
set_option maxHeartbeats 4000000 in
theorem qX7_everybody {l : zL} {I : Nat → Nat → Int32} {J : Nat → Nat → Int64} {nw : Bool}  : zP l mX7_everybody [.ref 15] (hh I J nw) (zR (some (.int ((1 : Int32) <<< (I 15 3 &&& 31) - 1))) (hh I J nw)) := by
  refine z_start [.ref 15] (by decide +kernel) (Nat.le_of_ble_eq_true rfl) rfl ?_
  refine z_iconst (pc := 0) (1) dX7_everybody_0 rfl ?_
  refine z_aload_0 (pc := 1) dX7_everybody_1 ?_
  refine y_getI (pc := 2) dX7_everybody_2 flX7_21 rfl (by first | rfl | assumption) ?_
  refine z_ishl (pc := 5) dX7_everybody_5 ?_
  refine z_iconst (pc := 6) (1) dX7_everybody_6 rfl ?_
  refine z_isub (pc := 7) dX7_everybody_7 ?_
  refine z_ret (pc := 8) (r := some (.int _)) rfl dX7_everybody_8 trivial rfl rfl ?_
  exact ⟨rfl, rfl⟩
set_option maxRecDepth 100000 in
set_option maxHeartbeats 4000000 in
theorem qX7_isOff {l : zL} {I : Nat → Nat → Int32} {J : Nat → Nat → Int64} {nw : Bool} {a : Int32} : zP l mX7_isOff [.ref 15, .int a] (hh I J nw) (zR (some (.int (zb (¬ a ≤ I 15 1)))) (hh I J nw)) := by
  refine z_start [.ref 15, .int a] (by decide +kernel) (Nat.le_of_ble_eq_true rfl) rfl ?_
  refine z_iload_1 (pc := 0) dX7_isOff_0 ?_
  refine z_aload_0 (pc := 1) dX7_isOff_1 ?_
  refine y_getI (pc := 2) dX7_isOff_2 flX7_15 rfl (by first | rfl | assumption) ?_
  refine z_icmp_le (pc := 5) (tgt := 12) dX7_isOff_5 (by decide) (fun c5 => ?_) (fun c5 => ?_)
  · skip
    refine z_iconst (pc := 12) (0) dX7_isOff_12 rfl ?_
    refine z_ret (pc := 13) (r := some (.int _)) rfl dX7_isOff_13 (by first | exact Or.inl rfl | exact Or.inr rfl | assumption) rfl rfl ?_
    exact ⟨by simp [zb, *], rfl⟩
  · skip
    refine z_iconst (pc := 8) (1) dX7_isOff_8 rfl ?_
    refine z_goto (pc := 9) (tgt := 13) dX7_isOff_9 (by decide) ?_
    refine z_ret (pc := 13) (r := some (.int _)) rfl dX7_isOff_13 (by first | exact Or.inl rfl | exact Or.inr rfl | assumption) rfl rfl ?_
    exact ⟨by simp [zb, *], rfl⟩
def zst (oak keeps malt age : Int32) : Int32 := if ¬ age ≤ keeps then 0 else if oak ≤ age then malt else malt - malt / 3
set_option maxRecDepth 100000 in
set_option maxHeartbeats 4000000 in
theorem qX7_strong {l : zL} {I : Nat → Nat → Int32} {J : Nat → Nat → Int64} {nw : Bool} {m a : Int32} : zP l mX7_strong [.ref 15, .int m, .int a] (hh I J nw) (zR (some (.int (zst (I 15 0) (I 15 1) m a))) (hh I J nw)) := by
  refine z_start [.ref 15, .int m, .int a] (by decide +kernel) (Nat.le_of_ble_eq_true rfl) rfl ?_
  refine z_aload_0 (pc := 0) dX7_strong_0 ?_
  refine z_iload_2 (pc := 1) dX7_strong_1 ?_
  refine z_V1 (pc := 2) dX7_strong_2 mlX7_63 kX7_isOff vX7_isOff (by decide) (by decide) (by first | rfl | assumption) (Nat.le_of_ble_eq_true rfl) (qX7_isOff) ⟨Nat.le_refl _, Nat.le_refl _⟩ (fun r h1 hq => ?_)
  obtain ⟨rfl, rfl⟩ := hq
  refine z_if_eq (pc := 5) (tgt := 10) dX7_strong_5 (by decide) (fun c5 => ?_) (fun c5 => ?_)
  · skip
    refine z_iload_2 (pc := 10) dX7_strong_10 ?_
    refine z_aload_0 (pc := 11) dX7_strong_11 ?_
    refine y_getI (pc := 12) dX7_strong_12 flX7_9 rfl (by first | rfl | assumption) ?_
    refine z_icmp_ge (pc := 15) (tgt := 26) dX7_strong_15 (by decide) (fun c15 => ?_) (fun c15 => ?_)
    · skip
      refine z_iload_1 (pc := 26) dX7_strong_26 ?_
      refine z_ret (pc := 27) (r := some (.int _)) rfl dX7_strong_27 trivial rfl rfl ?_
      simp only [zb_eq0, zb_ne0, Classical.not_not] at c5
      exact ⟨by simp [zst, *], rfl⟩
    · skip
      refine z_iload_1 (pc := 18) dX7_strong_18 ?_
      refine z_iload_1 (pc := 19) dX7_strong_19 ?_
      refine z_iconst (pc := 20) (3) dX7_strong_20 rfl ?_
      refine z_idiv (pc := 21) (by decide) dX7_strong_21 ?_
      refine z_isub (pc := 22) dX7_strong_22 ?_
      refine z_goto (pc := 23) (tgt := 27) dX7_strong_23 (by decide) ?_
      refine z_ret (pc := 27) (r := some (.int _)) rfl dX7_strong_27 trivial rfl rfl ?_
      simp only [zb_eq0, zb_ne0, Classical.not_not] at c5
      exact ⟨by simp [zst, *], rfl⟩
  · skip
    refine z_iconst (pc := 8) (0) dX7_strong_8 rfl ?_
    refine z_ret (pc := 9) (r := some (.int _)) rfl dX7_strong_9 trivial rfl rfl ?_
    simp only [zb_eq0, zb_ne0, Classical.not_not] at c5
    exact ⟨by simp [zst, *], rfl⟩
set_option maxRecDepth 100000 in
set_option maxHeartbeats 4000000 in
theorem qX7_strongOf {l : zL} {I : Nat → Nat → Int32} {J : Nat → Nat → Int64} {nw : Bool} {x : Int32} (i : Nat) (hx : x = nI i) (hi : i < 4) : zP l mX7_strongOf [.ref 15, .int x] (hh I J nw) (zR (some (.int (zst (I 15 0) (I 15 1) (I 22 (5 + i)) (I 22 (9 + i))))) (hh I J nw)) := by
  refine z_start [.ref 15, .int x] (by decide +kernel) (Nat.le_of_ble_eq_true rfl) rfl ?_
  refine z_aload_0 (pc := 0) dX7_strongOf_0 ?_
  refine z_aload_0 (pc := 1) dX7_strongOf_1 ?_
  refine y_getR (pc := 2) dX7_strongOf_2 flX7_46 rfl (by first | rfl | assumption) (by first | rfl | assumption) ?_
  refine z_iload_1 (pc := 5) dX7_strongOf_5 ?_
  refine z_V1 (pc := 6) dX7_strongOf_6 mlX7_67 kX2_maltOf vX2_maltOf (by decide) (by decide) (by first | rfl | assumption) (Nat.le_of_ble_eq_true rfl) (qX2_maltOf rfl rfl rfl i hx hi) ⟨Nat.le_refl _, Nat.le_refl _⟩ (fun r h1 hq => ?_)
  obtain ⟨rfl, rfl⟩ := hq
  refine z_aload_0 (pc := 9) dX7_strongOf_9 ?_
  refine y_getR (pc := 10) dX7_strongOf_10 flX7_46 rfl (by first | rfl | assumption) (by first | rfl | assumption) ?_
  refine z_iload_1 (pc := 13) dX7_strongOf_13 ?_
  refine z_V1 (pc := 14) dX7_strongOf_14 mlX7_71 kX2_ageOf vX2_ageOf (by decide) (by decide) (by first | rfl | assumption) (Nat.le_of_ble_eq_true rfl) (qX2_ageOf rfl rfl rfl i hx hi) ⟨Nat.le_refl _, Nat.le_refl _⟩ (fun r h1 hq => ?_)
  obtain ⟨rfl, rfl⟩ := hq
  refine z_V2 (pc := 17) dX7_strongOf_17 mlX7_74 kX7_strong vX7_strong (by decide) (by decide) (by first | rfl | assumption) (Nat.le_of_ble_eq_true rfl) (qX7_strong) ⟨Nat.le_refl _, Nat.le_refl _⟩ (fun r h1 hq => ?_)
  obtain ⟨rfl, rfl⟩ := hq
  refine z_ret (pc := 20) (r := some (.int _)) rfl dX7_strongOf_20 trivial rfl rfl ?_
  exact ⟨rfl, rfl⟩
def zoff (I : Nat → Nat → Int32) : Nat → Int32
  | 0 => 0
  | i + 1 => if I 22 (1 + i) = 0 then zoff I i else if I 22 (9 + i) ≤ I 15 1 then zoff I i else zoff I i ||| ((1 : Int32) <<< (nI i &&& 31))
set_option maxRecDepth 100000 in
set_option maxHeartbeats 4000000 in
theorem off_loop {l : zL} {I : Nat → Nat → Int32} {J : Nat → Nat → Int64} {nw : Bool} : ∀ (f i : Nat), i ≤ 4 → 4 - i < f →
    zW l mX7_casksOff SH.length (zsl SH) 4 [.ref 15, .int (zoff I i), .int (nI i)] [] (hh I J nw) (zR (some (.int (zoff I 4))) (hh I J nw))
  | 0, i, _, hf => by omega
  | f + 1, i, hi, hf => by
    refine z_iload_2 (pc := 4) dX7_casksOff_4 ?_
    refine z_iconst (pc := 5) (4) dX7_casksOff_5 rfl ?_
    refine z_icmp_ge (pc := 6) (tgt := 47) dX7_casksOff_6 (by decide) (fun c6 => ?_) (fun c6 => ?_)
    · skip
      refine z_iload_1 (pc := 47) dX7_casksOff_47 ?_
      refine z_ret (pc := 48) (r := some (.int _)) rfl dX7_casksOff_48 trivial rfl rfl ?_
      have : i = 4 := by
        rcases Nat.lt_or_ge i 4 with q | q
        · exact absurd c6 (nI_ge q (by decide))
        · omega
      subst this
      exact ⟨rfl, rfl⟩
    · skip
      have hlt : i < 4 := by
        rcases Nat.lt_or_ge i 4 with q | q
        · exact q
        · exact absurd (nI_le (a := 4) q (by omega)) c6
      refine z_aload_0 (pc := 9) dX7_casksOff_9 ?_
      refine y_getR (pc := 10) dX7_casksOff_10 flX7_46 rfl (by first | rfl | assumption) (by first | rfl | assumption) ?_
      refine z_iload_2 (pc := 13) dX7_casksOff_13 ?_
      refine z_V1 (pc := 14) dX7_casksOff_14 mlX7_78 kX2_isMissing vX2_isMissing (by decide) (by decide) (by first | rfl | assumption) (Nat.le_of_ble_eq_true rfl) (qX2_isMissing rfl rfl rfl i rfl hlt) ⟨Nat.le_refl _, Nat.le_refl _⟩ (fun r h1 hq => ?_)
      obtain ⟨rfl, rfl⟩ := hq
      refine z_if_ne (pc := 17) (tgt := 41) dX7_casksOff_17 (by decide) (fun c17 => ?_) (fun c17 => ?_)
      · skip
        refine z_iinc_2 (pc := 41) (1) dX7_casksOff_41 rfl (by decide) rfl ?_
        refine z_goto (pc := 44) (tgt := 4) dX7_casksOff_44 (by decide) ?_
        have k4 := off_loop (l := l) (I := I) (J := J) (nw := nw) f (i + 1) (by omega) (by omega)
        rw [nI_succ] at k4
        simp only [zb_eq0, zb_ne0, Classical.not_not] at *
        first | rw [show zoff I (i + 1) = zoff I i from by show (if _ then _ else _) = _; simp [*]] at k4; exact k4 | rw [show zoff I (i + 1) = zoff I i ||| ((1 : Int32) <<< (nI i &&& 31)) from by show (if _ then _ else _) = _; simp [*]] at k4; exact k4
      · skip
        refine z_aload_0 (pc := 20) dX7_casksOff_20 ?_
        refine z_aload_0 (pc := 21) dX7_casksOff_21 ?_
        refine y_getR (pc := 22) dX7_casksOff_22 flX7_46 rfl (by first | rfl | assumption) (by first | rfl | assumption) ?_
        refine z_iload_2 (pc := 25) dX7_casksOff_25 ?_
        refine z_V1 (pc := 26) dX7_casksOff_26 mlX7_71 kX2_ageOf vX2_ageOf (by decide) (by decide) (by first | rfl | assumption) (Nat.le_of_ble_eq_true rfl) (qX2_ageOf rfl rfl rfl i rfl hlt) ⟨Nat.le_refl _, Nat.le_refl _⟩ (fun r h1 hq => ?_)
        obtain ⟨rfl, rfl⟩ := hq
        refine z_V1 (pc := 29) dX7_casksOff_29 mlX7_63 kX7_isOff vX7_isOff (by decide) (by decide) (by first | rfl | assumption) (Nat.le_of_ble_eq_true rfl) (qX7_isOff) ⟨Nat.le_refl _, Nat.le_refl _⟩ (fun r h1 hq => ?_)
        obtain ⟨rfl, rfl⟩ := hq
        refine z_if_eq (pc := 32) (tgt := 41) dX7_casksOff_32 (by decide) (fun c32 => ?_) (fun c32 => ?_)
        · skip
          refine z_iinc_2 (pc := 41) (1) dX7_casksOff_41 rfl (by decide) rfl ?_
          refine z_goto (pc := 44) (tgt := 4) dX7_casksOff_44 (by decide) ?_
          have k4 := off_loop (l := l) (I := I) (J := J) (nw := nw) f (i + 1) (by omega) (by omega)
          rw [nI_succ] at k4
          simp only [zb_eq0, zb_ne0, Classical.not_not] at *
          first | rw [show zoff I (i + 1) = zoff I i from by show (if _ then _ else _) = _; simp [*]] at k4; exact k4 | rw [show zoff I (i + 1) = zoff I i ||| ((1 : Int32) <<< (nI i &&& 31)) from by show (if _ then _ else _) = _; simp [*]] at k4; exact k4
        · skip
          refine z_iload_1 (pc := 35) dX7_casksOff_35 ?_
          refine z_iconst (pc := 36) (1) dX7_casksOff_36 rfl ?_
          refine z_iload_2 (pc := 37) dX7_casksOff_37 ?_
          refine z_ishl (pc := 38) dX7_casksOff_38 ?_
          refine z_ior (pc := 39) dX7_casksOff_39 ?_
          refine z_istore_1 (pc := 40) dX7_casksOff_40 (by decide) rfl ?_
          refine z_iinc_2 (pc := 41) (1) dX7_casksOff_41 rfl (by decide) rfl ?_
          refine z_goto (pc := 44) (tgt := 4) dX7_casksOff_44 (by decide) ?_
          have k4 := off_loop (l := l) (I := I) (J := J) (nw := nw) f (i + 1) (by omega) (by omega)
          rw [nI_succ] at k4
          simp only [zb_eq0, zb_ne0, Classical.not_not] at *
          first | rw [show zoff I (i + 1) = zoff I i from by show (if _ then _ else _) = _; simp [*]] at k4; exact k4 | rw [show zoff I (i + 1) = zoff I i ||| ((1 : Int32) <<< (nI i &&& 31)) from by show (if _ then _ else _) = _; simp [*]] at k4; exact k4
set_option maxRecDepth 100000 in
set_option maxHeartbeats 4000000 in
theorem qX7_casksOff {l : zL} {I : Nat → Nat → Int32} {J : Nat → Nat → Int64} {nw : Bool}  : zP l mX7_casksOff [.ref 15] (hh I J nw) (zR (some (.int (zoff I 4))) (hh I J nw)) := by
  refine z_start [.ref 15, zno, zno] (by decide +kernel) (Nat.le_of_ble_eq_true rfl) rfl ?_
  refine z_iconst (pc := 0) (0) dX7_casksOff_0 rfl ?_
  refine z_istore_1 (pc := 1) dX7_casksOff_1 (by decide) rfl ?_
  refine z_iconst (pc := 2) (0) dX7_casksOff_2 rfl ?_
  refine z_istore_2 (pc := 3) dX7_casksOff_3 (by decide) rfl ?_
  exact off_loop 5 0 (by omega) (by omega)
def zhear15 (I : Nat → Nat → Int32) (d : Int32) : Nat → Int32
  | 0 => 0
  | k + 1 => if I 19 k = d then zhear15 I d k ||| ((1 : Int32) <<< (I 20 k &&& 31)) else zhear15 I d k
set_option maxRecDepth 100000 in
set_option maxHeartbeats 4000000 in
theorem hear_loop15 {l : zL} {I : Nat → Nat → Int32} {J : Nat → Nat → Int64} {nw : Bool} {d : Int32} {T : Nat} (hT : T ≤ 10) (eT : I 15 7 = nI T) : ∀ (f i : Nat), i ≤ T → T - i < f →
    zW l mX7_hearersOf SH.length (zsl SH) 4 [.ref 15, .int d, .int (zhear15 I d i), .int (nI i)] [] (hh I J nw) (zR (some (.int (zhear15 I d T))) (hh I J nw))
  | 0, i, _, hf => by omega
  | f + 1, i, hi, hf => by
    refine z_iload_3 (pc := 4) dX7_hearersOf_4 ?_
    refine z_aload_0 (pc := 5) dX7_hearersOf_5 ?_
    refine y_getI (pc := 6) dX7_hearersOf_6 flX7_34 rfl (by first | rfl | assumption) ?_
    refine z_icmp_ge (pc := 9) (tgt := 39) dX7_hearersOf_9 (by decide) (fun c9 => ?_) (fun c9 => ?_)
    · skip
      refine z_iload_2 (pc := 39) dX7_hearersOf_39 ?_
      refine z_ret (pc := 40) (r := some (.int _)) rfl dX7_hearersOf_40 trivial rfl rfl ?_
      have : i = T := by
        rcases Nat.lt_or_ge i T with q | q
        · rw [eT] at c9
          exact absurd c9 (nI_ge q (by omega))
        · omega
      subst this
      exact ⟨rfl, rfl⟩
    · skip
      have hlt : i < T := by
        rcases Nat.lt_or_ge i T with q | q
        · exact q
        · exact absurd (by rw [eT]; exact nI_le q (by omega)) c9
      refine z_aload_0 (pc := 12) dX7_hearersOf_12 ?_
      refine y_getR (pc := 13) dX7_hearersOf_13 flX7_37 rfl (by first | rfl | assumption) (by first | rfl | assumption) ?_
      refine z_iload_3 (pc := 16) dX7_hearersOf_16 ?_
      refine y_ialdN (pc := 17) (i) dX7_hearersOf_17 (by first | rfl | assumption) (rfl) (by omega) (by first | decide | omega) ?_
      refine z_iload_1 (pc := 18) dX7_hearersOf_18 ?_
      refine z_icmp_ne (pc := 19) (tgt := 33) dX7_hearersOf_19 (by decide) (fun c19 => ?_) (fun c19 => ?_)
      · skip
        refine z_iinc_3 (pc := 33) (1) dX7_hearersOf_33 rfl (by decide) rfl ?_
        refine z_goto (pc := 36) (tgt := 4) dX7_hearersOf_36 (by decide) ?_
        have k4 := hear_loop15 (l := l) (I := I) (J := J) (nw := nw) (d := d) hT eT f (i + 1) (by omega) (by omega)
        rw [nI_succ] at k4
        first | rw [show zhear15 I d (i + 1) = zhear15 I d i ||| ((1 : Int32) <<< (I 20 i &&& 31)) from if_pos c19] at k4; exact k4 | rw [show zhear15 I d (i + 1) = zhear15 I d i from if_neg c19] at k4; exact k4
      · skip
        refine z_iload_2 (pc := 22) dX7_hearersOf_22 ?_
        refine z_iconst (pc := 23) (1) dX7_hearersOf_23 rfl ?_
        refine z_aload_0 (pc := 24) dX7_hearersOf_24 ?_
        refine y_getR (pc := 25) dX7_hearersOf_25 flX7_40 rfl (by first | rfl | assumption) (by first | rfl | assumption) ?_
        refine z_iload_3 (pc := 28) dX7_hearersOf_28 ?_
        refine y_ialdN (pc := 29) (i) dX7_hearersOf_29 (by first | rfl | assumption) (rfl) (by omega) (by first | decide | omega) ?_
        refine z_ishl (pc := 30) dX7_hearersOf_30 ?_
        refine z_ior (pc := 31) dX7_hearersOf_31 ?_
        refine z_istore_2 (pc := 32) dX7_hearersOf_32 (by decide) rfl ?_
        refine z_iinc_3 (pc := 33) (1) dX7_hearersOf_33 rfl (by decide) rfl ?_
        refine z_goto (pc := 36) (tgt := 4) dX7_hearersOf_36 (by decide) ?_
        have k4 := hear_loop15 (l := l) (I := I) (J := J) (nw := nw) (d := d) hT eT f (i + 1) (by omega) (by omega)
        rw [nI_succ] at k4
        first | rw [show zhear15 I d (i + 1) = zhear15 I d i ||| ((1 : Int32) <<< (I 20 i &&& 31)) from if_pos c19] at k4; exact k4 | rw [show zhear15 I d (i + 1) = zhear15 I d i from if_neg c19] at k4; exact k4
set_option maxRecDepth 100000 in
set_option maxHeartbeats 4000000 in
theorem qX7_hearersOf15 {l : zL} {I : Nat → Nat → Int32} {J : Nat → Nat → Int64} {nw : Bool} {d : Int32} (T : Nat) (hT : T ≤ 10) (eT : I 15 7 = nI T) : zP l mX7_hearersOf [.ref 15, .int d] (hh I J nw) (zR (some (.int (zhear15 I d T))) (hh I J nw)) := by
  refine z_start [.ref 15, .int d, zno, zno] (by decide +kernel) (Nat.le_of_ble_eq_true rfl) rfl ?_
  refine z_iconst (pc := 0) (0) dX7_hearersOf_0 rfl ?_
  refine z_istore_2 (pc := 1) dX7_hearersOf_1 (by decide) rfl ?_
  refine z_iconst (pc := 2) (0) dX7_hearersOf_2 rfl ?_
  refine z_istore_3 (pc := 3) dX7_hearersOf_3 (by decide) rfl ?_
  exact hear_loop15 hT eT (T + 1) 0 (by omega) (by omega)
def zhear23 (I : Nat → Nat → Int32) (d : Int32) : Nat → Int32
  | 0 => 0
  | k + 1 => if I 27 k = d then zhear23 I d k ||| ((1 : Int32) <<< (I 28 k &&& 31)) else zhear23 I d k
set_option maxRecDepth 100000 in
set_option maxHeartbeats 4000000 in
theorem hear_loop23 {l : zL} {I : Nat → Nat → Int32} {J : Nat → Nat → Int64} {nw : Bool} {d : Int32} {T : Nat} (hT : T ≤ 10) (eT : I 23 7 = nI T) : ∀ (f i : Nat), i ≤ T → T - i < f →
    zW l mX7_hearersOf SH.length (zsl SH) 4 [.ref 23, .int d, .int (zhear23 I d i), .int (nI i)] [] (hh I J nw) (zR (some (.int (zhear23 I d T))) (hh I J nw))
  | 0, i, _, hf => by omega
  | f + 1, i, hi, hf => by
    refine z_iload_3 (pc := 4) dX7_hearersOf_4 ?_
    refine z_aload_0 (pc := 5) dX7_hearersOf_5 ?_
    refine y_getI (pc := 6) dX7_hearersOf_6 flX7_34 rfl (by first | rfl | assumption) ?_
    refine z_icmp_ge (pc := 9) (tgt := 39) dX7_hearersOf_9 (by decide) (fun c9 => ?_) (fun c9 => ?_)
    · skip
      refine z_iload_2 (pc := 39) dX7_hearersOf_39 ?_
      refine z_ret (pc := 40) (r := some (.int _)) rfl dX7_hearersOf_40 trivial rfl rfl ?_
      have : i = T := by
        rcases Nat.lt_or_ge i T with q | q
        · rw [eT] at c9
          exact absurd c9 (nI_ge q (by omega))
        · omega
      subst this
      exact ⟨rfl, rfl⟩
    · skip
      have hlt : i < T := by
        rcases Nat.lt_or_ge i T with q | q
        · exact q
        · exact absurd (by rw [eT]; exact nI_le q (by omega)) c9
      refine z_aload_0 (pc := 12) dX7_hearersOf_12 ?_
      refine y_getR (pc := 13) dX7_hearersOf_13 flX7_37 rfl (by first | rfl | assumption) (by first | rfl | assumption) ?_
      refine z_iload_3 (pc := 16) dX7_hearersOf_16 ?_
      refine y_ialdN (pc := 17) (i) dX7_hearersOf_17 (by first | rfl | assumption) (rfl) (by omega) (by first | decide | omega) ?_
      refine z_iload_1 (pc := 18) dX7_hearersOf_18 ?_
      refine z_icmp_ne (pc := 19) (tgt := 33) dX7_hearersOf_19 (by decide) (fun c19 => ?_) (fun c19 => ?_)
      · skip
        refine z_iinc_3 (pc := 33) (1) dX7_hearersOf_33 rfl (by decide) rfl ?_
        refine z_goto (pc := 36) (tgt := 4) dX7_hearersOf_36 (by decide) ?_
        have k4 := hear_loop23 (l := l) (I := I) (J := J) (nw := nw) (d := d) hT eT f (i + 1) (by omega) (by omega)
        rw [nI_succ] at k4
        first | rw [show zhear23 I d (i + 1) = zhear23 I d i ||| ((1 : Int32) <<< (I 28 i &&& 31)) from if_pos c19] at k4; exact k4 | rw [show zhear23 I d (i + 1) = zhear23 I d i from if_neg c19] at k4; exact k4
      · skip
        refine z_iload_2 (pc := 22) dX7_hearersOf_22 ?_
        refine z_iconst (pc := 23) (1) dX7_hearersOf_23 rfl ?_
        refine z_aload_0 (pc := 24) dX7_hearersOf_24 ?_
        refine y_getR (pc := 25) dX7_hearersOf_25 flX7_40 rfl (by first | rfl | assumption) (by first | rfl | assumption) ?_
        refine z_iload_3 (pc := 28) dX7_hearersOf_28 ?_
        refine y_ialdN (pc := 29) (i) dX7_hearersOf_29 (by first | rfl | assumption) (rfl) (by omega) (by first | decide | omega) ?_
        refine z_ishl (pc := 30) dX7_hearersOf_30 ?_
        refine z_ior (pc := 31) dX7_hearersOf_31 ?_
        refine z_istore_2 (pc := 32) dX7_hearersOf_32 (by decide) rfl ?_
        refine z_iinc_3 (pc := 33) (1) dX7_hearersOf_33 rfl (by decide) rfl ?_
        refine z_goto (pc := 36) (tgt := 4) dX7_hearersOf_36 (by decide) ?_
        have k4 := hear_loop23 (l := l) (I := I) (J := J) (nw := nw) (d := d) hT eT f (i + 1) (by omega) (by omega)
        rw [nI_succ] at k4
        first | rw [show zhear23 I d (i + 1) = zhear23 I d i ||| ((1 : Int32) <<< (I 28 i &&& 31)) from if_pos c19] at k4; exact k4 | rw [show zhear23 I d (i + 1) = zhear23 I d i from if_neg c19] at k4; exact k4
set_option maxRecDepth 100000 in
set_option maxHeartbeats 4000000 in
theorem qX7_hearersOf23 {l : zL} {I : Nat → Nat → Int32} {J : Nat → Nat → Int64} {nw : Bool} {d : Int32} (T : Nat) (hT : T ≤ 10) (eT : I 23 7 = nI T) : zP l mX7_hearersOf [.ref 23, .int d] (hh I J nw) (zR (some (.int (zhear23 I d T))) (hh I J nw)) := by
  refine z_start [.ref 23, .int d, zno, zno] (by decide +kernel) (Nat.le_of_ble_eq_true rfl) rfl ?_
  refine z_iconst (pc := 0) (0) dX7_hearersOf_0 rfl ?_
  refine z_istore_2 (pc := 1) dX7_hearersOf_1 (by decide) rfl ?_
  refine z_iconst (pc := 2) (0) dX7_hearersOf_2 rfl ?_
  refine z_istore_3 (pc := 3) dX7_hearersOf_3 (by decide) rfl ?_
  exact hear_loop23 hT eT (T + 1) 0 (by omega) (by omega)
set_option maxRecDepth 100000 in
set_option maxHeartbeats 4000000 in
theorem qX7_empty {l : zL} {I : Nat → Nat → Int32} {J : Nat → Nat → Int64} {nw : Bool}  : zP l mX7_empty [.ref 23] (hh I J nw) (zR none (zfill (zup (zup I 23 3 0) 23 7 0) 30 19 0, J, RF nw, SH)) := by
  refine z_start [.ref 23] (by decide +kernel) (Nat.le_of_ble_eq_true rfl) rfl ?_
  refine z_aload_0 (pc := 0) dX7_empty_0 ?_
  refine z_iconst (pc := 1) (0) dX7_empty_1 rfl ?_
  refine y_putI (pc := 2) dX7_empty_2 flX7_21 ffX7_21 rfl (by first | rfl | assumption) ⟨rfl, rfl⟩ ?_
  refine z_aload_0 (pc := 5) dX7_empty_5 ?_
  refine z_iconst (pc := 6) (0) dX7_empty_6 rfl ?_
  refine y_putI (pc := 7) dX7_empty_7 flX7_34 ffX7_34 rfl (by first | rfl | assumption) ⟨rfl, rfl⟩ ?_
  refine z_aload_0 (pc := 10) dX7_empty_10 ?_
  refine y_getR (pc := 11) dX7_empty_11 flX7_46 rfl (by first | rfl | assumption) (by first | rfl | assumption) ?_
  refine z_V0 (pc := 14) dX7_empty_14 mlX7_50 kX2_empty vX2_empty (by decide) (by decide) (by first | rfl | assumption) (Nat.le_of_ble_eq_true rfl) (qX2_empty rfl rfl rfl) ⟨Nat.le_refl _, Nat.le_refl _⟩ (fun r h1 hq => ?_)
  obtain ⟨rfl, rfl⟩ := hq
  refine z_ret (pc := 17) (r := none) rfl dX7_empty_17 trivial rfl rfl ?_
  exact ⟨rfl, rfl⟩
set_option maxRecDepth 100000 in
set_option maxHeartbeats 4000000 in
theorem qX7_addDrinker {l : zL} {I : Nat → Nat → Int32} {J : Nat → Nat → Int64} {nw : Bool} {a b c : Int32} (n : Nat) (hn : n < 6) (en : I 23 3 = nI n) : zP l mX7_addDrinker [.ref 23, .int a, .int b, .int c] (hh I J nw) (zR none (zup (zup (zup (zup I 24 n a) 25 n b) 26 n c) 23 3 (nI (n + 1)), J, RF nw, SH)) := by
  refine z_start [.ref 23, .int a, .int b, .int c] (by decide +kernel) (Nat.le_of_ble_eq_true rfl) rfl ?_
  refine z_aload_0 (pc := 0) dX7_addDrinker_0 ?_
  refine y_getR (pc := 1) dX7_addDrinker_1 flX7_24 rfl (by first | rfl | assumption) (by first | rfl | assumption) ?_
  refine z_aload_0 (pc := 4) dX7_addDrinker_4 ?_
  refine y_getI (pc := 5) dX7_addDrinker_5 flX7_21 rfl (by first | rfl | assumption) ?_
  refine z_iload_1 (pc := 8) dX7_addDrinker_8 ?_
  refine y_iastN (pc := 9) (n) dX7_addDrinker_9 (by first | rfl | assumption) (en) (hn) (by first | decide | omega) ?_
  refine z_aload_0 (pc := 10) dX7_addDrinker_10 ?_
  refine y_getR (pc := 11) dX7_addDrinker_11 flX7_28 rfl (by first | rfl | assumption) (by first | rfl | assumption) ?_
  refine z_aload_0 (pc := 14) dX7_addDrinker_14 ?_
  refine y_getI (pc := 15) dX7_addDrinker_15 flX7_21 rfl (by first | rfl | assumption) ?_
  refine z_iload_2 (pc := 18) dX7_addDrinker_18 ?_
  refine y_iastN (pc := 19) (n) dX7_addDrinker_19 (by first | rfl | assumption) (by rw [zup_nk _ _ (by decide)]; exact en) (hn) (by first | decide | omega) ?_
  refine z_aload_0 (pc := 20) dX7_addDrinker_20 ?_
  refine y_getR (pc := 21) dX7_addDrinker_21 flX7_31 rfl (by first | rfl | assumption) (by first | rfl | assumption) ?_
  refine z_aload_0 (pc := 24) dX7_addDrinker_24 ?_
  refine y_getI (pc := 25) dX7_addDrinker_25 flX7_21 rfl (by first | rfl | assumption) ?_
  refine z_iload_3 (pc := 28) dX7_addDrinker_28 ?_
  refine y_iastN (pc := 29) (n) dX7_addDrinker_29 (by first | rfl | assumption) (by rw [zup_nk _ _ (by decide), zup_nk _ _ (by decide)]; exact en) (hn) (by first | decide | omega) ?_
  refine z_aload_0 (pc := 30) dX7_addDrinker_30 ?_
  refine z_dup (pc := 31) rfl dX7_addDrinker_31 ?_
  refine y_getI (pc := 32) dX7_addDrinker_32 flX7_21 rfl (by first | rfl | assumption) ?_
  refine z_iconst (pc := 35) (1) dX7_addDrinker_35 rfl ?_
  refine z_iadd (pc := 36) dX7_addDrinker_36 ?_
  refine z_nm (y := nI (n + 1)) (by rw [zup_nk _ _ (by decide), zup_nk _ _ (by decide), zup_nk _ _ (by decide), en]; exact (nI_succ n).symm) ?_
  refine y_putI (pc := 37) dX7_addDrinker_37 flX7_21 ffX7_21 rfl (by first | rfl | assumption) ⟨rfl, rfl⟩ ?_
  refine z_ret (pc := 40) (r := none) rfl dX7_addDrinker_40 trivial rfl rfl ?_
  exact ⟨rfl, rfl⟩
set_option maxRecDepth 100000 in
set_option maxHeartbeats 4000000 in
theorem qX7_addTie {l : zL} {I : Nat → Nat → Int32} {J : Nat → Nat → Int64} {nw : Bool} {a b : Int32} (n : Nat) (hn : n < 10) (en : I 23 7 = nI n) : zP l mX7_addTie [.ref 23, .int a, .int b] (hh I J nw) (zR none (zup (zup (zup I 27 n a) 28 n b) 23 7 (nI (n + 1)), J, RF nw, SH)) := by
  refine z_start [.ref 23, .int a, .int b] (by decide +kernel) (Nat.le_of_ble_eq_true rfl) rfl ?_
  refine z_aload_0 (pc := 0) dX7_addTie_0 ?_
  refine y_getR (pc := 1) dX7_addTie_1 flX7_37 rfl (by first | rfl | assumption) (by first | rfl | assumption) ?_
  refine z_aload_0 (pc := 4) dX7_addTie_4 ?_
  refine y_getI (pc := 5) dX7_addTie_5 flX7_34 rfl (by first | rfl | assumption) ?_
  refine z_iload_1 (pc := 8) dX7_addTie_8 ?_
  refine y_iastN (pc := 9) (n) dX7_addTie_9 (by first | rfl | assumption) (en) (hn) (by first | decide | omega) ?_
  refine z_aload_0 (pc := 10) dX7_addTie_10 ?_
  refine y_getR (pc := 11) dX7_addTie_11 flX7_40 rfl (by first | rfl | assumption) (by first | rfl | assumption) ?_
  refine z_aload_0 (pc := 14) dX7_addTie_14 ?_
  refine y_getI (pc := 15) dX7_addTie_15 flX7_34 rfl (by first | rfl | assumption) ?_
  refine z_iload_2 (pc := 18) dX7_addTie_18 ?_
  refine y_iastN (pc := 19) (n) dX7_addTie_19 (by first | rfl | assumption) (by rw [zup_nk _ _ (by decide)]; exact en) (hn) (by first | decide | omega) ?_
  refine z_aload_0 (pc := 20) dX7_addTie_20 ?_
  refine z_dup (pc := 21) rfl dX7_addTie_21 ?_
  refine y_getI (pc := 22) dX7_addTie_22 flX7_34 rfl (by first | rfl | assumption) ?_
  refine z_iconst (pc := 25) (1) dX7_addTie_25 rfl ?_
  refine z_iadd (pc := 26) dX7_addTie_26 ?_
  refine z_nm (y := nI (n + 1)) (by rw [zup_nk _ _ (by decide), zup_nk _ _ (by decide), en]; exact (nI_succ n).symm) ?_
  refine y_putI (pc := 27) dX7_addTie_27 flX7_34 ffX7_34 rfl (by first | rfl | assumption) ⟨rfl, rfl⟩ ?_
  refine z_ret (pc := 30) (r := none) rfl dX7_addTie_30 trivial rfl rfl ?_
  exact ⟨rfl, rfl⟩
def ztown (I : Nat → Nat → Int32) (t u : Nat) : Nat → Nat → Int32 :=
  zcpy (zcpy (zcpy (zup (zcpy (zcpy (zcpy (zup (zup (zup (zup I t 0 (I u 0)) t 1 (I u 1)) t 2 (I u 2)) t 3 (I u 3)) (u + 1) (t + 1) 0 0 6) (u + 2) (t + 2) 0 0 6) (u + 3) (t + 3) 0 0 6) t 7 (I u 7)) (u + 4) (t + 4) 0 0 10) (u + 5) (t + 5) 0 0 10) (u + 7) (t + 7) 0 0 19
set_option maxRecDepth 100000 in
set_option maxHeartbeats 4000000 in
theorem qX7_become_15_23 {l : zL} {I : Nat → Nat → Int32} {J : Nat → Nat → Int64} {nw : Bool}  : zP l mX7_become [.ref 15, .ref 23] (hh I J nw) (zR none (ztown I 15 23, J, RF nw, SH)) := by
  refine z_start [.ref 15, .ref 23] (by decide +kernel) (Nat.le_of_ble_eq_true rfl) rfl ?_
  refine z_aload_0 (pc := 0) dX7_become_0 ?_
  refine z_aload_1 (pc := 1) dX7_become_1 ?_
  refine y_getI (pc := 2) dX7_become_2 flX7_9 rfl (by first | rfl | assumption) ?_
  refine y_putI (pc := 5) dX7_become_5 flX7_9 ffX7_9 rfl (by first | rfl | assumption) ⟨rfl, rfl⟩ ?_
  refine z_aload_0 (pc := 8) dX7_become_8 ?_
  refine z_aload_1 (pc := 9) dX7_become_9 ?_
  refine y_getI (pc := 10) dX7_become_10 flX7_15 rfl (by first | rfl | assumption) ?_
  refine y_putI (pc := 13) dX7_become_13 flX7_15 ffX7_15 rfl (by first | rfl | assumption) ⟨rfl, rfl⟩ ?_
  refine z_aload_0 (pc := 16) dX7_become_16 ?_
  refine z_aload_1 (pc := 17) dX7_become_17 ?_
  refine y_getI (pc := 18) dX7_become_18 flX7_18 rfl (by first | rfl | assumption) ?_
  refine y_putI (pc := 21) dX7_become_21 flX7_18 ffX7_18 rfl (by first | rfl | assumption) ⟨rfl, rfl⟩ ?_
  refine z_aload_0 (pc := 24) dX7_become_24 ?_
  refine z_aload_1 (pc := 25) dX7_become_25 ?_
  refine y_getI (pc := 26) dX7_become_26 flX7_21 rfl (by first | rfl | assumption) ?_
  refine y_putI (pc := 29) dX7_become_29 flX7_21 ffX7_21 rfl (by first | rfl | assumption) ⟨rfl, rfl⟩ ?_
  refine z_aload_1 (pc := 32) dX7_become_32 ?_
  refine y_getR (pc := 33) dX7_become_33 flX7_24 rfl (by first | rfl | assumption) (by first | rfl | assumption) ?_
  refine z_iconst (pc := 36) (0) dX7_become_36 rfl ?_
  refine z_aload_0 (pc := 37) dX7_become_37 ?_
  refine y_getR (pc := 38) dX7_become_38 flX7_24 rfl (by first | rfl | assumption) (by first | rfl | assumption) ?_
  refine z_iconst (pc := 41) (0) dX7_become_41 rfl ?_
  refine z_bipush (pc := 42) (6) dX7_become_42 rfl ?_
  refine y_copy (pc := 44) dX7_become_44 mlX7_53 w_an w_as w_si (0) (0) (6) (by first | rfl | assumption) (by first | rfl | assumption) (rfl) (rfl) (rfl) (by decide) (by decide) (by decide) (by decide) (Nat.le_of_ble_eq_true rfl) ?_
  refine z_aload_1 (pc := 47) dX7_become_47 ?_
  refine y_getR (pc := 48) dX7_become_48 flX7_28 rfl (by first | rfl | assumption) (by first | rfl | assumption) ?_
  refine z_iconst (pc := 51) (0) dX7_become_51 rfl ?_
  refine z_aload_0 (pc := 52) dX7_become_52 ?_
  refine y_getR (pc := 53) dX7_become_53 flX7_28 rfl (by first | rfl | assumption) (by first | rfl | assumption) ?_
  refine z_iconst (pc := 56) (0) dX7_become_56 rfl ?_
  refine z_bipush (pc := 57) (6) dX7_become_57 rfl ?_
  refine y_copy (pc := 59) dX7_become_59 mlX7_53 w_an w_as w_si (0) (0) (6) (by first | rfl | assumption) (by first | rfl | assumption) (rfl) (rfl) (rfl) (by decide) (by decide) (by decide) (by decide) (Nat.le_of_ble_eq_true rfl) ?_
  refine z_aload_1 (pc := 62) dX7_become_62 ?_
  refine y_getR (pc := 63) dX7_become_63 flX7_31 rfl (by first | rfl | assumption) (by first | rfl | assumption) ?_
  refine z_iconst (pc := 66) (0) dX7_become_66 rfl ?_
  refine z_aload_0 (pc := 67) dX7_become_67 ?_
  refine y_getR (pc := 68) dX7_become_68 flX7_31 rfl (by first | rfl | assumption) (by first | rfl | assumption) ?_
  refine z_iconst (pc := 71) (0) dX7_become_71 rfl ?_
  refine z_bipush (pc := 72) (6) dX7_become_72 rfl ?_
  refine y_copy (pc := 74) dX7_become_74 mlX7_53 w_an w_as w_si (0) (0) (6) (by first | rfl | assumption) (by first | rfl | assumption) (rfl) (rfl) (rfl) (by decide) (by decide) (by decide) (by decide) (Nat.le_of_ble_eq_true rfl) ?_
  refine z_aload_0 (pc := 77) dX7_become_77 ?_
  refine z_aload_1 (pc := 78) dX7_become_78 ?_
  refine y_getI (pc := 79) dX7_become_79 flX7_34 rfl (by first | rfl | assumption) ?_
  refine y_putI (pc := 82) dX7_become_82 flX7_34 ffX7_34 rfl (by first | rfl | assumption) ⟨rfl, rfl⟩ ?_
  refine z_aload_1 (pc := 85) dX7_become_85 ?_
  refine y_getR (pc := 86) dX7_become_86 flX7_37 rfl (by first | rfl | assumption) (by first | rfl | assumption) ?_
  refine z_iconst (pc := 89) (0) dX7_become_89 rfl ?_
  refine z_aload_0 (pc := 90) dX7_become_90 ?_
  refine y_getR (pc := 91) dX7_become_91 flX7_37 rfl (by first | rfl | assumption) (by first | rfl | assumption) ?_
  refine z_iconst (pc := 94) (0) dX7_become_94 rfl ?_
  refine z_bipush (pc := 95) (10) dX7_become_95 rfl ?_
  refine y_copy (pc := 97) dX7_become_97 mlX7_53 w_an w_as w_si (0) (0) (10) (by first | rfl | assumption) (by first | rfl | assumption) (rfl) (rfl) (rfl) (by decide) (by decide) (by decide) (by decide) (Nat.le_of_ble_eq_true rfl) ?_
  refine z_aload_1 (pc := 100) dX7_become_100 ?_
  refine y_getR (pc := 101) dX7_become_101 flX7_40 rfl (by first | rfl | assumption) (by first | rfl | assumption) ?_
  refine z_iconst (pc := 104) (0) dX7_become_104 rfl ?_
  refine z_aload_0 (pc := 105) dX7_become_105 ?_
  refine y_getR (pc := 106) dX7_become_106 flX7_40 rfl (by first | rfl | assumption) (by first | rfl | assumption) ?_
  refine z_iconst (pc := 109) (0) dX7_become_109 rfl ?_
  refine z_bipush (pc := 110) (10) dX7_become_110 rfl ?_
  refine y_copy (pc := 112) dX7_become_112 mlX7_53 w_an w_as w_si (0) (0) (10) (by first | rfl | assumption) (by first | rfl | assumption) (rfl) (rfl) (rfl) (by decide) (by decide) (by decide) (by decide) (Nat.le_of_ble_eq_true rfl) ?_
  refine z_aload_0 (pc := 115) dX7_become_115 ?_
  refine y_getR (pc := 116) dX7_become_116 flX7_46 rfl (by first | rfl | assumption) (by first | rfl | assumption) ?_
  refine z_aload_1 (pc := 119) dX7_become_119 ?_
  refine y_getR (pc := 120) dX7_become_120 flX7_46 rfl (by first | rfl | assumption) (by first | rfl | assumption) ?_
  refine z_V1 (pc := 123) dX7_become_123 mlX7_59 kX2_become vX2_become (by decide) (by decide) (by first | rfl | assumption) (Nat.le_of_ble_eq_true rfl) (qX2_become rfl rfl rfl rfl rfl rfl) ⟨Nat.le_refl _, Nat.le_refl _⟩ (fun r h1 hq => ?_)
  obtain ⟨rfl, rfl⟩ := hq
  refine z_ret (pc := 126) (r := none) rfl dX7_become_126 trivial rfl rfl ?_
  exact ⟨rfl, by simp [ztown, zup, zcpy]⟩
set_option maxRecDepth 100000 in
set_option maxHeartbeats 4000000 in
theorem qX7_become_32_15 {l : zL} {I : Nat → Nat → Int32} {J : Nat → Nat → Int64} {nw : Bool}  : zP l mX7_become [.ref 32, .ref 15] (hh I J nw) (zR none (ztown I 32 15, J, RF nw, SH)) := by
  refine z_start [.ref 32, .ref 15] (by decide +kernel) (Nat.le_of_ble_eq_true rfl) rfl ?_
  refine z_aload_0 (pc := 0) dX7_become_0 ?_
  refine z_aload_1 (pc := 1) dX7_become_1 ?_
  refine y_getI (pc := 2) dX7_become_2 flX7_9 rfl (by first | rfl | assumption) ?_
  refine y_putI (pc := 5) dX7_become_5 flX7_9 ffX7_9 rfl (by first | rfl | assumption) ⟨rfl, rfl⟩ ?_
  refine z_aload_0 (pc := 8) dX7_become_8 ?_
  refine z_aload_1 (pc := 9) dX7_become_9 ?_
  refine y_getI (pc := 10) dX7_become_10 flX7_15 rfl (by first | rfl | assumption) ?_
  refine y_putI (pc := 13) dX7_become_13 flX7_15 ffX7_15 rfl (by first | rfl | assumption) ⟨rfl, rfl⟩ ?_
  refine z_aload_0 (pc := 16) dX7_become_16 ?_
  refine z_aload_1 (pc := 17) dX7_become_17 ?_
  refine y_getI (pc := 18) dX7_become_18 flX7_18 rfl (by first | rfl | assumption) ?_
  refine y_putI (pc := 21) dX7_become_21 flX7_18 ffX7_18 rfl (by first | rfl | assumption) ⟨rfl, rfl⟩ ?_
  refine z_aload_0 (pc := 24) dX7_become_24 ?_
  refine z_aload_1 (pc := 25) dX7_become_25 ?_
  refine y_getI (pc := 26) dX7_become_26 flX7_21 rfl (by first | rfl | assumption) ?_
  refine y_putI (pc := 29) dX7_become_29 flX7_21 ffX7_21 rfl (by first | rfl | assumption) ⟨rfl, rfl⟩ ?_
  refine z_aload_1 (pc := 32) dX7_become_32 ?_
  refine y_getR (pc := 33) dX7_become_33 flX7_24 rfl (by first | rfl | assumption) (by first | rfl | assumption) ?_
  refine z_iconst (pc := 36) (0) dX7_become_36 rfl ?_
  refine z_aload_0 (pc := 37) dX7_become_37 ?_
  refine y_getR (pc := 38) dX7_become_38 flX7_24 rfl (by first | rfl | assumption) (by first | rfl | assumption) ?_
  refine z_iconst (pc := 41) (0) dX7_become_41 rfl ?_
  refine z_bipush (pc := 42) (6) dX7_become_42 rfl ?_
  refine y_copy (pc := 44) dX7_become_44 mlX7_53 w_an w_as w_si (0) (0) (6) (by first | rfl | assumption) (by first | rfl | assumption) (rfl) (rfl) (rfl) (by decide) (by decide) (by decide) (by decide) (Nat.le_of_ble_eq_true rfl) ?_
  refine z_aload_1 (pc := 47) dX7_become_47 ?_
  refine y_getR (pc := 48) dX7_become_48 flX7_28 rfl (by first | rfl | assumption) (by first | rfl | assumption) ?_
  refine z_iconst (pc := 51) (0) dX7_become_51 rfl ?_
  refine z_aload_0 (pc := 52) dX7_become_52 ?_
  refine y_getR (pc := 53) dX7_become_53 flX7_28 rfl (by first | rfl | assumption) (by first | rfl | assumption) ?_
  refine z_iconst (pc := 56) (0) dX7_become_56 rfl ?_
  refine z_bipush (pc := 57) (6) dX7_become_57 rfl ?_
  refine y_copy (pc := 59) dX7_become_59 mlX7_53 w_an w_as w_si (0) (0) (6) (by first | rfl | assumption) (by first | rfl | assumption) (rfl) (rfl) (rfl) (by decide) (by decide) (by decide) (by decide) (Nat.le_of_ble_eq_true rfl) ?_
  refine z_aload_1 (pc := 62) dX7_become_62 ?_
  refine y_getR (pc := 63) dX7_become_63 flX7_31 rfl (by first | rfl | assumption) (by first | rfl | assumption) ?_
  refine z_iconst (pc := 66) (0) dX7_become_66 rfl ?_
  refine z_aload_0 (pc := 67) dX7_become_67 ?_
  refine y_getR (pc := 68) dX7_become_68 flX7_31 rfl (by first | rfl | assumption) (by first | rfl | assumption) ?_
  refine z_iconst (pc := 71) (0) dX7_become_71 rfl ?_
  refine z_bipush (pc := 72) (6) dX7_become_72 rfl ?_
  refine y_copy (pc := 74) dX7_become_74 mlX7_53 w_an w_as w_si (0) (0) (6) (by first | rfl | assumption) (by first | rfl | assumption) (rfl) (rfl) (rfl) (by decide) (by decide) (by decide) (by decide) (Nat.le_of_ble_eq_true rfl) ?_
  refine z_aload_0 (pc := 77) dX7_become_77 ?_
  refine z_aload_1 (pc := 78) dX7_become_78 ?_
  refine y_getI (pc := 79) dX7_become_79 flX7_34 rfl (by first | rfl | assumption) ?_
  refine y_putI (pc := 82) dX7_become_82 flX7_34 ffX7_34 rfl (by first | rfl | assumption) ⟨rfl, rfl⟩ ?_
  refine z_aload_1 (pc := 85) dX7_become_85 ?_
  refine y_getR (pc := 86) dX7_become_86 flX7_37 rfl (by first | rfl | assumption) (by first | rfl | assumption) ?_
  refine z_iconst (pc := 89) (0) dX7_become_89 rfl ?_
  refine z_aload_0 (pc := 90) dX7_become_90 ?_
  refine y_getR (pc := 91) dX7_become_91 flX7_37 rfl (by first | rfl | assumption) (by first | rfl | assumption) ?_
  refine z_iconst (pc := 94) (0) dX7_become_94 rfl ?_
  refine z_bipush (pc := 95) (10) dX7_become_95 rfl ?_
  refine y_copy (pc := 97) dX7_become_97 mlX7_53 w_an w_as w_si (0) (0) (10) (by first | rfl | assumption) (by first | rfl | assumption) (rfl) (rfl) (rfl) (by decide) (by decide) (by decide) (by decide) (Nat.le_of_ble_eq_true rfl) ?_
  refine z_aload_1 (pc := 100) dX7_become_100 ?_
  refine y_getR (pc := 101) dX7_become_101 flX7_40 rfl (by first | rfl | assumption) (by first | rfl | assumption) ?_
  refine z_iconst (pc := 104) (0) dX7_become_104 rfl ?_
  refine z_aload_0 (pc := 105) dX7_become_105 ?_
  refine y_getR (pc := 106) dX7_become_106 flX7_40 rfl (by first | rfl | assumption) (by first | rfl | assumption) ?_
  refine z_iconst (pc := 109) (0) dX7_become_109 rfl ?_
  refine z_bipush (pc := 110) (10) dX7_become_110 rfl ?_
  refine y_copy (pc := 112) dX7_become_112 mlX7_53 w_an w_as w_si (0) (0) (10) (by first | rfl | assumption) (by first | rfl | assumption) (rfl) (rfl) (rfl) (by decide) (by decide) (by decide) (by decide) (Nat.le_of_ble_eq_true rfl) ?_
  refine z_aload_0 (pc := 115) dX7_become_115 ?_
  refine y_getR (pc := 116) dX7_become_116 flX7_46 rfl (by first | rfl | assumption) (by first | rfl | assumption) ?_
  refine z_aload_1 (pc := 119) dX7_become_119 ?_
  refine y_getR (pc := 120) dX7_become_120 flX7_46 rfl (by first | rfl | assumption) (by first | rfl | assumption) ?_
  refine z_V1 (pc := 123) dX7_become_123 mlX7_59 kX2_become vX2_become (by decide) (by decide) (by first | rfl | assumption) (Nat.le_of_ble_eq_true rfl) (qX2_become rfl rfl rfl rfl rfl rfl) ⟨Nat.le_refl _, Nat.le_refl _⟩ (fun r h1 hq => ?_)
  obtain ⟨rfl, rfl⟩ := hq
  refine z_ret (pc := 126) (r := none) rfl dX7_become_126 trivial rfl rfl ?_
  exact ⟨rfl, by simp [ztown, zup, zcpy]⟩
set_option maxRecDepth 100000 in
set_option maxHeartbeats 4000000 in
theorem qX7_become_40_15 {l : zL} {I : Nat → Nat → Int32} {J : Nat → Nat → Int64} {nw : Bool}  : zP l mX7_become [.ref 40, .ref 15] (hh I J nw) (zR none (ztown I 40 15, J, RF nw, SH)) := by
  refine z_start [.ref 40, .ref 15] (by decide +kernel) (Nat.le_of_ble_eq_true rfl) rfl ?_
  refine z_aload_0 (pc := 0) dX7_become_0 ?_
  refine z_aload_1 (pc := 1) dX7_become_1 ?_
  refine y_getI (pc := 2) dX7_become_2 flX7_9 rfl (by first | rfl | assumption) ?_
  refine y_putI (pc := 5) dX7_become_5 flX7_9 ffX7_9 rfl (by first | rfl | assumption) ⟨rfl, rfl⟩ ?_
  refine z_aload_0 (pc := 8) dX7_become_8 ?_
  refine z_aload_1 (pc := 9) dX7_become_9 ?_
  refine y_getI (pc := 10) dX7_become_10 flX7_15 rfl (by first | rfl | assumption) ?_
  refine y_putI (pc := 13) dX7_become_13 flX7_15 ffX7_15 rfl (by first | rfl | assumption) ⟨rfl, rfl⟩ ?_
  refine z_aload_0 (pc := 16) dX7_become_16 ?_
  refine z_aload_1 (pc := 17) dX7_become_17 ?_
  refine y_getI (pc := 18) dX7_become_18 flX7_18 rfl (by first | rfl | assumption) ?_
  refine y_putI (pc := 21) dX7_become_21 flX7_18 ffX7_18 rfl (by first | rfl | assumption) ⟨rfl, rfl⟩ ?_
  refine z_aload_0 (pc := 24) dX7_become_24 ?_
  refine z_aload_1 (pc := 25) dX7_become_25 ?_
  refine y_getI (pc := 26) dX7_become_26 flX7_21 rfl (by first | rfl | assumption) ?_
  refine y_putI (pc := 29) dX7_become_29 flX7_21 ffX7_21 rfl (by first | rfl | assumption) ⟨rfl, rfl⟩ ?_
  refine z_aload_1 (pc := 32) dX7_become_32 ?_
  refine y_getR (pc := 33) dX7_become_33 flX7_24 rfl (by first | rfl | assumption) (by first | rfl | assumption) ?_
  refine z_iconst (pc := 36) (0) dX7_become_36 rfl ?_
  refine z_aload_0 (pc := 37) dX7_become_37 ?_
  refine y_getR (pc := 38) dX7_become_38 flX7_24 rfl (by first | rfl | assumption) (by first | rfl | assumption) ?_
  refine z_iconst (pc := 41) (0) dX7_become_41 rfl ?_
  refine z_bipush (pc := 42) (6) dX7_become_42 rfl ?_
  refine y_copy (pc := 44) dX7_become_44 mlX7_53 w_an w_as w_si (0) (0) (6) (by first | rfl | assumption) (by first | rfl | assumption) (rfl) (rfl) (rfl) (by decide) (by decide) (by decide) (by decide) (Nat.le_of_ble_eq_true rfl) ?_
  refine z_aload_1 (pc := 47) dX7_become_47 ?_
  refine y_getR (pc := 48) dX7_become_48 flX7_28 rfl (by first | rfl | assumption) (by first | rfl | assumption) ?_
  refine z_iconst (pc := 51) (0) dX7_become_51 rfl ?_
  refine z_aload_0 (pc := 52) dX7_become_52 ?_
  refine y_getR (pc := 53) dX7_become_53 flX7_28 rfl (by first | rfl | assumption) (by first | rfl | assumption) ?_
  refine z_iconst (pc := 56) (0) dX7_become_56 rfl ?_
  refine z_bipush (pc := 57) (6) dX7_become_57 rfl ?_
  refine y_copy (pc := 59) dX7_become_59 mlX7_53 w_an w_as w_si (0) (0) (6) (by first | rfl | assumption) (by first | rfl | assumption) (rfl) (rfl) (rfl) (by decide) (by decide) (by decide) (by decide) (Nat.le_of_ble_eq_true rfl) ?_
  refine z_aload_1 (pc := 62) dX7_become_62 ?_
  refine y_getR (pc := 63) dX7_become_63 flX7_31 rfl (by first | rfl | assumption) (by first | rfl | assumption) ?_
  refine z_iconst (pc := 66) (0) dX7_become_66 rfl ?_
  refine z_aload_0 (pc := 67) dX7_become_67 ?_
  refine y_getR (pc := 68) dX7_become_68 flX7_31 rfl (by first | rfl | assumption) (by first | rfl | assumption) ?_
  refine z_iconst (pc := 71) (0) dX7_become_71 rfl ?_
  refine z_bipush (pc := 72) (6) dX7_become_72 rfl ?_
  refine y_copy (pc := 74) dX7_become_74 mlX7_53 w_an w_as w_si (0) (0) (6) (by first | rfl | assumption) (by first | rfl | assumption) (rfl) (rfl) (rfl) (by decide) (by decide) (by decide) (by decide) (Nat.le_of_ble_eq_true rfl) ?_
  refine z_aload_0 (pc := 77) dX7_become_77 ?_
  refine z_aload_1 (pc := 78) dX7_become_78 ?_
  refine y_getI (pc := 79) dX7_become_79 flX7_34 rfl (by first | rfl | assumption) ?_
  refine y_putI (pc := 82) dX7_become_82 flX7_34 ffX7_34 rfl (by first | rfl | assumption) ⟨rfl, rfl⟩ ?_
  refine z_aload_1 (pc := 85) dX7_become_85 ?_
  refine y_getR (pc := 86) dX7_become_86 flX7_37 rfl (by first | rfl | assumption) (by first | rfl | assumption) ?_
  refine z_iconst (pc := 89) (0) dX7_become_89 rfl ?_
  refine z_aload_0 (pc := 90) dX7_become_90 ?_
  refine y_getR (pc := 91) dX7_become_91 flX7_37 rfl (by first | rfl | assumption) (by first | rfl | assumption) ?_
  refine z_iconst (pc := 94) (0) dX7_become_94 rfl ?_
  refine z_bipush (pc := 95) (10) dX7_become_95 rfl ?_
  refine y_copy (pc := 97) dX7_become_97 mlX7_53 w_an w_as w_si (0) (0) (10) (by first | rfl | assumption) (by first | rfl | assumption) (rfl) (rfl) (rfl) (by decide) (by decide) (by decide) (by decide) (Nat.le_of_ble_eq_true rfl) ?_
  refine z_aload_1 (pc := 100) dX7_become_100 ?_
  refine y_getR (pc := 101) dX7_become_101 flX7_40 rfl (by first | rfl | assumption) (by first | rfl | assumption) ?_
  refine z_iconst (pc := 104) (0) dX7_become_104 rfl ?_
  refine z_aload_0 (pc := 105) dX7_become_105 ?_
  refine y_getR (pc := 106) dX7_become_106 flX7_40 rfl (by first | rfl | assumption) (by first | rfl | assumption) ?_
  refine z_iconst (pc := 109) (0) dX7_become_109 rfl ?_
  refine z_bipush (pc := 110) (10) dX7_become_110 rfl ?_
  refine y_copy (pc := 112) dX7_become_112 mlX7_53 w_an w_as w_si (0) (0) (10) (by first | rfl | assumption) (by first | rfl | assumption) (rfl) (rfl) (rfl) (by decide) (by decide) (by decide) (by decide) (Nat.le_of_ble_eq_true rfl) ?_
  refine z_aload_0 (pc := 115) dX7_become_115 ?_
  refine y_getR (pc := 116) dX7_become_116 flX7_46 rfl (by first | rfl | assumption) (by first | rfl | assumption) ?_
  refine z_aload_1 (pc := 119) dX7_become_119 ?_
  refine y_getR (pc := 120) dX7_become_120 flX7_46 rfl (by first | rfl | assumption) (by first | rfl | assumption) ?_
  refine z_V1 (pc := 123) dX7_become_123 mlX7_59 kX2_become vX2_become (by decide) (by decide) (by first | rfl | assumption) (Nat.le_of_ble_eq_true rfl) (qX2_become rfl rfl rfl rfl rfl rfl) ⟨Nat.le_refl _, Nat.le_refl _⟩ (fun r h1 hq => ?_)
  obtain ⟨rfl, rfl⟩ := hq
  refine z_ret (pc := 126) (r := none) rfl dX7_become_126 trivial rfl rfl ?_
  exact ⟨rfl, by simp [ztown, zup, zcpy]⟩
set_option maxRecDepth 100000 in
set_option maxHeartbeats 4000000 in
theorem qX7_become_15_32 {l : zL} {I : Nat → Nat → Int32} {J : Nat → Nat → Int64} {nw : Bool}  : zP l mX7_become [.ref 15, .ref 32] (hh I J nw) (zR none (ztown I 15 32, J, RF nw, SH)) := by
  refine z_start [.ref 15, .ref 32] (by decide +kernel) (Nat.le_of_ble_eq_true rfl) rfl ?_
  refine z_aload_0 (pc := 0) dX7_become_0 ?_
  refine z_aload_1 (pc := 1) dX7_become_1 ?_
  refine y_getI (pc := 2) dX7_become_2 flX7_9 rfl (by first | rfl | assumption) ?_
  refine y_putI (pc := 5) dX7_become_5 flX7_9 ffX7_9 rfl (by first | rfl | assumption) ⟨rfl, rfl⟩ ?_
  refine z_aload_0 (pc := 8) dX7_become_8 ?_
  refine z_aload_1 (pc := 9) dX7_become_9 ?_
  refine y_getI (pc := 10) dX7_become_10 flX7_15 rfl (by first | rfl | assumption) ?_
  refine y_putI (pc := 13) dX7_become_13 flX7_15 ffX7_15 rfl (by first | rfl | assumption) ⟨rfl, rfl⟩ ?_
  refine z_aload_0 (pc := 16) dX7_become_16 ?_
  refine z_aload_1 (pc := 17) dX7_become_17 ?_
  refine y_getI (pc := 18) dX7_become_18 flX7_18 rfl (by first | rfl | assumption) ?_
  refine y_putI (pc := 21) dX7_become_21 flX7_18 ffX7_18 rfl (by first | rfl | assumption) ⟨rfl, rfl⟩ ?_
  refine z_aload_0 (pc := 24) dX7_become_24 ?_
  refine z_aload_1 (pc := 25) dX7_become_25 ?_
  refine y_getI (pc := 26) dX7_become_26 flX7_21 rfl (by first | rfl | assumption) ?_
  refine y_putI (pc := 29) dX7_become_29 flX7_21 ffX7_21 rfl (by first | rfl | assumption) ⟨rfl, rfl⟩ ?_
  refine z_aload_1 (pc := 32) dX7_become_32 ?_
  refine y_getR (pc := 33) dX7_become_33 flX7_24 rfl (by first | rfl | assumption) (by first | rfl | assumption) ?_
  refine z_iconst (pc := 36) (0) dX7_become_36 rfl ?_
  refine z_aload_0 (pc := 37) dX7_become_37 ?_
  refine y_getR (pc := 38) dX7_become_38 flX7_24 rfl (by first | rfl | assumption) (by first | rfl | assumption) ?_
  refine z_iconst (pc := 41) (0) dX7_become_41 rfl ?_
  refine z_bipush (pc := 42) (6) dX7_become_42 rfl ?_
  refine y_copy (pc := 44) dX7_become_44 mlX7_53 w_an w_as w_si (0) (0) (6) (by first | rfl | assumption) (by first | rfl | assumption) (rfl) (rfl) (rfl) (by decide) (by decide) (by decide) (by decide) (Nat.le_of_ble_eq_true rfl) ?_
  refine z_aload_1 (pc := 47) dX7_become_47 ?_
  refine y_getR (pc := 48) dX7_become_48 flX7_28 rfl (by first | rfl | assumption) (by first | rfl | assumption) ?_
  refine z_iconst (pc := 51) (0) dX7_become_51 rfl ?_
  refine z_aload_0 (pc := 52) dX7_become_52 ?_
  refine y_getR (pc := 53) dX7_become_53 flX7_28 rfl (by first | rfl | assumption) (by first | rfl | assumption) ?_
  refine z_iconst (pc := 56) (0) dX7_become_56 rfl ?_
  refine z_bipush (pc := 57) (6) dX7_become_57 rfl ?_
  refine y_copy (pc := 59) dX7_become_59 mlX7_53 w_an w_as w_si (0) (0) (6) (by first | rfl | assumption) (by first | rfl | assumption) (rfl) (rfl) (rfl) (by decide) (by decide) (by decide) (by decide) (Nat.le_of_ble_eq_true rfl) ?_
  refine z_aload_1 (pc := 62) dX7_become_62 ?_
  refine y_getR (pc := 63) dX7_become_63 flX7_31 rfl (by first | rfl | assumption) (by first | rfl | assumption) ?_
  refine z_iconst (pc := 66) (0) dX7_become_66 rfl ?_
  refine z_aload_0 (pc := 67) dX7_become_67 ?_
  refine y_getR (pc := 68) dX7_become_68 flX7_31 rfl (by first | rfl | assumption) (by first | rfl | assumption) ?_
  refine z_iconst (pc := 71) (0) dX7_become_71 rfl ?_
  refine z_bipush (pc := 72) (6) dX7_become_72 rfl ?_
  refine y_copy (pc := 74) dX7_become_74 mlX7_53 w_an w_as w_si (0) (0) (6) (by first | rfl | assumption) (by first | rfl | assumption) (rfl) (rfl) (rfl) (by decide) (by decide) (by decide) (by decide) (Nat.le_of_ble_eq_true rfl) ?_
  refine z_aload_0 (pc := 77) dX7_become_77 ?_
  refine z_aload_1 (pc := 78) dX7_become_78 ?_
  refine y_getI (pc := 79) dX7_become_79 flX7_34 rfl (by first | rfl | assumption) ?_
  refine y_putI (pc := 82) dX7_become_82 flX7_34 ffX7_34 rfl (by first | rfl | assumption) ⟨rfl, rfl⟩ ?_
  refine z_aload_1 (pc := 85) dX7_become_85 ?_
  refine y_getR (pc := 86) dX7_become_86 flX7_37 rfl (by first | rfl | assumption) (by first | rfl | assumption) ?_
  refine z_iconst (pc := 89) (0) dX7_become_89 rfl ?_
  refine z_aload_0 (pc := 90) dX7_become_90 ?_
  refine y_getR (pc := 91) dX7_become_91 flX7_37 rfl (by first | rfl | assumption) (by first | rfl | assumption) ?_
  refine z_iconst (pc := 94) (0) dX7_become_94 rfl ?_
  refine z_bipush (pc := 95) (10) dX7_become_95 rfl ?_
  refine y_copy (pc := 97) dX7_become_97 mlX7_53 w_an w_as w_si (0) (0) (10) (by first | rfl | assumption) (by first | rfl | assumption) (rfl) (rfl) (rfl) (by decide) (by decide) (by decide) (by decide) (Nat.le_of_ble_eq_true rfl) ?_
  refine z_aload_1 (pc := 100) dX7_become_100 ?_
  refine y_getR (pc := 101) dX7_become_101 flX7_40 rfl (by first | rfl | assumption) (by first | rfl | assumption) ?_
  refine z_iconst (pc := 104) (0) dX7_become_104 rfl ?_
  refine z_aload_0 (pc := 105) dX7_become_105 ?_
  refine y_getR (pc := 106) dX7_become_106 flX7_40 rfl (by first | rfl | assumption) (by first | rfl | assumption) ?_
  refine z_iconst (pc := 109) (0) dX7_become_109 rfl ?_
  refine z_bipush (pc := 110) (10) dX7_become_110 rfl ?_
  refine y_copy (pc := 112) dX7_become_112 mlX7_53 w_an w_as w_si (0) (0) (10) (by first | rfl | assumption) (by first | rfl | assumption) (rfl) (rfl) (rfl) (by decide) (by decide) (by decide) (by decide) (Nat.le_of_ble_eq_true rfl) ?_
  refine z_aload_0 (pc := 115) dX7_become_115 ?_
  refine y_getR (pc := 116) dX7_become_116 flX7_46 rfl (by first | rfl | assumption) (by first | rfl | assumption) ?_
  refine z_aload_1 (pc := 119) dX7_become_119 ?_
  refine y_getR (pc := 120) dX7_become_120 flX7_46 rfl (by first | rfl | assumption) (by first | rfl | assumption) ?_
  refine z_V1 (pc := 123) dX7_become_123 mlX7_59 kX2_become vX2_become (by decide) (by decide) (by first | rfl | assumption) (Nat.le_of_ble_eq_true rfl) (qX2_become rfl rfl rfl rfl rfl rfl) ⟨Nat.le_refl _, Nat.le_refl _⟩ (fun r h1 hq => ?_)
  obtain ⟨rfl, rfl⟩ := hq
  refine z_ret (pc := 126) (r := none) rfl dX7_become_126 trivial rfl rfl ?_
  exact ⟨rfl, by simp [ztown, zup, zcpy]⟩
set_option maxRecDepth 100000 in
set_option maxHeartbeats 4000000 in
theorem qX7_become_15_40 {l : zL} {I : Nat → Nat → Int32} {J : Nat → Nat → Int64} {nw : Bool}  : zP l mX7_become [.ref 15, .ref 40] (hh I J nw) (zR none (ztown I 15 40, J, RF nw, SH)) := by
  refine z_start [.ref 15, .ref 40] (by decide +kernel) (Nat.le_of_ble_eq_true rfl) rfl ?_
  refine z_aload_0 (pc := 0) dX7_become_0 ?_
  refine z_aload_1 (pc := 1) dX7_become_1 ?_
  refine y_getI (pc := 2) dX7_become_2 flX7_9 rfl (by first | rfl | assumption) ?_
  refine y_putI (pc := 5) dX7_become_5 flX7_9 ffX7_9 rfl (by first | rfl | assumption) ⟨rfl, rfl⟩ ?_
  refine z_aload_0 (pc := 8) dX7_become_8 ?_
  refine z_aload_1 (pc := 9) dX7_become_9 ?_
  refine y_getI (pc := 10) dX7_become_10 flX7_15 rfl (by first | rfl | assumption) ?_
  refine y_putI (pc := 13) dX7_become_13 flX7_15 ffX7_15 rfl (by first | rfl | assumption) ⟨rfl, rfl⟩ ?_
  refine z_aload_0 (pc := 16) dX7_become_16 ?_
  refine z_aload_1 (pc := 17) dX7_become_17 ?_
  refine y_getI (pc := 18) dX7_become_18 flX7_18 rfl (by first | rfl | assumption) ?_
  refine y_putI (pc := 21) dX7_become_21 flX7_18 ffX7_18 rfl (by first | rfl | assumption) ⟨rfl, rfl⟩ ?_
  refine z_aload_0 (pc := 24) dX7_become_24 ?_
  refine z_aload_1 (pc := 25) dX7_become_25 ?_
  refine y_getI (pc := 26) dX7_become_26 flX7_21 rfl (by first | rfl | assumption) ?_
  refine y_putI (pc := 29) dX7_become_29 flX7_21 ffX7_21 rfl (by first | rfl | assumption) ⟨rfl, rfl⟩ ?_
  refine z_aload_1 (pc := 32) dX7_become_32 ?_
  refine y_getR (pc := 33) dX7_become_33 flX7_24 rfl (by first | rfl | assumption) (by first | rfl | assumption) ?_
  refine z_iconst (pc := 36) (0) dX7_become_36 rfl ?_
  refine z_aload_0 (pc := 37) dX7_become_37 ?_
  refine y_getR (pc := 38) dX7_become_38 flX7_24 rfl (by first | rfl | assumption) (by first | rfl | assumption) ?_
  refine z_iconst (pc := 41) (0) dX7_become_41 rfl ?_
  refine z_bipush (pc := 42) (6) dX7_become_42 rfl ?_
  refine y_copy (pc := 44) dX7_become_44 mlX7_53 w_an w_as w_si (0) (0) (6) (by first | rfl | assumption) (by first | rfl | assumption) (rfl) (rfl) (rfl) (by decide) (by decide) (by decide) (by decide) (Nat.le_of_ble_eq_true rfl) ?_
  refine z_aload_1 (pc := 47) dX7_become_47 ?_
  refine y_getR (pc := 48) dX7_become_48 flX7_28 rfl (by first | rfl | assumption) (by first | rfl | assumption) ?_
  refine z_iconst (pc := 51) (0) dX7_become_51 rfl ?_
  refine z_aload_0 (pc := 52) dX7_become_52 ?_
  refine y_getR (pc := 53) dX7_become_53 flX7_28 rfl (by first | rfl | assumption) (by first | rfl | assumption) ?_
  refine z_iconst (pc := 56) (0) dX7_become_56 rfl ?_
  refine z_bipush (pc := 57) (6) dX7_become_57 rfl ?_
  refine y_copy (pc := 59) dX7_become_59 mlX7_53 w_an w_as w_si (0) (0) (6) (by first | rfl | assumption) (by first | rfl | assumption) (rfl) (rfl) (rfl) (by decide) (by decide) (by decide) (by decide) (Nat.le_of_ble_eq_true rfl) ?_
  refine z_aload_1 (pc := 62) dX7_become_62 ?_
  refine y_getR (pc := 63) dX7_become_63 flX7_31 rfl (by first | rfl | assumption) (by first | rfl | assumption) ?_
  refine z_iconst (pc := 66) (0) dX7_become_66 rfl ?_
  refine z_aload_0 (pc := 67) dX7_become_67 ?_
  refine y_getR (pc := 68) dX7_become_68 flX7_31 rfl (by first | rfl | assumption) (by first | rfl | assumption) ?_
  refine z_iconst (pc := 71) (0) dX7_become_71 rfl ?_
  refine z_bipush (pc := 72) (6) dX7_become_72 rfl ?_
  refine y_copy (pc := 74) dX7_become_74 mlX7_53 w_an w_as w_si (0) (0) (6) (by first | rfl | assumption) (by first | rfl | assumption) (rfl) (rfl) (rfl) (by decide) (by decide) (by decide) (by decide) (Nat.le_of_ble_eq_true rfl) ?_
  refine z_aload_0 (pc := 77) dX7_become_77 ?_
  refine z_aload_1 (pc := 78) dX7_become_78 ?_
  refine y_getI (pc := 79) dX7_become_79 flX7_34 rfl (by first | rfl | assumption) ?_
  refine y_putI (pc := 82) dX7_become_82 flX7_34 ffX7_34 rfl (by first | rfl | assumption) ⟨rfl, rfl⟩ ?_
  refine z_aload_1 (pc := 85) dX7_become_85 ?_
  refine y_getR (pc := 86) dX7_become_86 flX7_37 rfl (by first | rfl | assumption) (by first | rfl | assumption) ?_
  refine z_iconst (pc := 89) (0) dX7_become_89 rfl ?_
  refine z_aload_0 (pc := 90) dX7_become_90 ?_
  refine y_getR (pc := 91) dX7_become_91 flX7_37 rfl (by first | rfl | assumption) (by first | rfl | assumption) ?_
  refine z_iconst (pc := 94) (0) dX7_become_94 rfl ?_
  refine z_bipush (pc := 95) (10) dX7_become_95 rfl ?_
  refine y_copy (pc := 97) dX7_become_97 mlX7_53 w_an w_as w_si (0) (0) (10) (by first | rfl | assumption) (by first | rfl | assumption) (rfl) (rfl) (rfl) (by decide) (by decide) (by decide) (by decide) (Nat.le_of_ble_eq_true rfl) ?_
  refine z_aload_1 (pc := 100) dX7_become_100 ?_
  refine y_getR (pc := 101) dX7_become_101 flX7_40 rfl (by first | rfl | assumption) (by first | rfl | assumption) ?_
  refine z_iconst (pc := 104) (0) dX7_become_104 rfl ?_
  refine z_aload_0 (pc := 105) dX7_become_105 ?_
  refine y_getR (pc := 106) dX7_become_106 flX7_40 rfl (by first | rfl | assumption) (by first | rfl | assumption) ?_
  refine z_iconst (pc := 109) (0) dX7_become_109 rfl ?_
  refine z_bipush (pc := 110) (10) dX7_become_110 rfl ?_
  refine y_copy (pc := 112) dX7_become_112 mlX7_53 w_an w_as w_si (0) (0) (10) (by first | rfl | assumption) (by first | rfl | assumption) (rfl) (rfl) (rfl) (by decide) (by decide) (by decide) (by decide) (Nat.le_of_ble_eq_true rfl) ?_
  refine z_aload_0 (pc := 115) dX7_become_115 ?_
  refine y_getR (pc := 116) dX7_become_116 flX7_46 rfl (by first | rfl | assumption) (by first | rfl | assumption) ?_
  refine z_aload_1 (pc := 119) dX7_become_119 ?_
  refine y_getR (pc := 120) dX7_become_120 flX7_46 rfl (by first | rfl | assumption) (by first | rfl | assumption) ?_
  refine z_V1 (pc := 123) dX7_become_123 mlX7_59 kX2_become vX2_become (by decide) (by decide) (by first | rfl | assumption) (Nat.le_of_ble_eq_true rfl) (qX2_become rfl rfl rfl rfl rfl rfl) ⟨Nat.le_refl _, Nat.le_refl _⟩ (fun r h1 hq => ?_)
  obtain ⟨rfl, rfl⟩ := hq
  refine z_ret (pc := 126) (r := none) rfl dX7_become_126 trivial rfl rfl ?_
  exact ⟨rfl, by simp [ztown, zup, zcpy]⟩
