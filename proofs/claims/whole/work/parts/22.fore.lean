def zKeep (I : Nat → Nat → Int32) (J : Nat → Nat → Int64) (v : Value) : Option Value → zH → Prop := fun r h1 => r = some v ∧ ∃ I2 nw2, h1 = (I2, J, RF nw2, SH) ∧ zFr I I2
/-- the telling is set up with these kinds, without these ties -/
def zTold (I I1 : Nat → Nat → Int32) (n T : Nat) (A B : Nat → Nat) (kd : Nat → Int32) (w : Nat → Bool) : Prop := zFr I I1 ∧ (∀ d, d < n → I1 75 d = kd d ∧ ∃ k, 1 ≤ k ∧ k ≤ 5 ∧ kd d = nI k) ∧ ∀ d, d < 6 → I1 76 d = nI (bs (ztl A B w T d))
theorem zTold.set {I I1 : Nat → Nat → Int32} {n T : Nat} {A B : Nat → Nat} {kd : Nat → Int32} {w : Nat → Bool} {wh : Int32} (ht : zTown I n T A B) (h : zTold I I1 n T A B kd w) : zSet I1 (zTe I kd n T A B w wh) := zSet_told ht h.1 h.2.1 h.2.2
theorem zTold.first {I : Nat → Nat → Int32} {n T : Nat} {A B : Nat → Nat} {g2 : Nat → Int32} (ht : zTown I n T A B) (hg : ∀ d, d < 6 → g2 d = nI (bs (ztl A B (fun _ => false) T d))) : zTold I (zrow (zcpy I 16 75 0 0 6) 76 g2) n T A B (I 16) (fun _ => false) := by
  refine ⟨fun a ha => ?_, fun d hd => ⟨?_, ht.2.2.2.2.2.2 d hd⟩, fun d hd => by rw [zrow_at]; exact hg d hd⟩
  · funext b; rw [zrow_ne _ _ _ (by omega)]; unfold zcpy; rw [if_neg (by omega)]
  · have := ht.1
    rw [zrow_ne _ _ _ (by decide)]; unfold zcpy; rw [if_pos rfl]; unfold va_cpy; rw [if_pos (by omega)]; simp
theorem zTold.keep {I I1 I2 : Nat → Nat → Int32} {n T : Nat} {A B : Nat → Nat} {kd : Nat → Int32} {w : Nat → Bool} (h : zTold I I1 n T A B kd w) (z1 : zFr I1 I2) (z2 : ∀ b, I2 75 b = I1 75 b) (z3 : ∀ b, I2 76 b = I1 76 b) : zTold I I2 n T A B kd w :=
  ⟨h.1.trans z1, fun d hd => by rw [z2]; exact h.2.1 d hd, fun d hd => by rw [z3]; exact h.2.2 d hd⟩
/-- how strong a cask is -/
def zsc (I : Nat → Nat → Int32) (i : Nat) : Int32 := zst (I 15 0) (I 15 1) (I 22 (5 + i)) (I 22 (9 + i))
theorem zsc_keep {I I1 : Nat → Nat → Int32} (h : zFr I I1) (i : Nat) : zst (I1 15 0) (I1 15 1) (I1 22 (5 + i)) (I1 22 (9 + i)) = zsc I i := by
  unfold zsc; rw [h 15 (by omega), h 22 (by omega)]
def zbt (s : Nat) : Nat → Bool := fun e => s.testBit e
theorem bs_bits : ∀ s, s < 64 → bs (zbt s) = s := by decide +kernel
theorem zbt_lt {n s : Nat} (h : s < 2 ^ n) : ∀ e, zbt s e = true → e < n := by
  intro e he
  rcases Nat.lt_or_ge e n with q | q
  · exact q
  · have : s < 2 ^ e := Nat.lt_of_lt_of_le h (Nat.pow_le_pow_right (by decide) q)
    unfold zbt at he
    rw [Nat.testBit_lt_two_pow this] at he
    cases he
theorem bs_all2 : ∀ n, n ≤ 6 → bs (fun d => decide (d < n)) + 1 = 2 ^ n := by decide
theorem pow6 : ∀ n, n ≤ 6 → 2 ^ n ≤ 64 := by decide
/-- the fewest that fit, the least of several -/
def zfew (ok : Nat → Bool) : Nat → Int32
  | 0 => -1000000
  | s + 1 => if (zfew ok s = -1000000 ∨ zbc (nI s) < zbc (zfew ok s)) ∧ ok s = true then nI s else zfew ok s
set_option maxRecDepth 100000 in
set_option maxHeartbeats 4000000 in
theorem qX3_believersAt {l : zL} {I : Nat → Nat → Int32} {J : Nat → Nat → Int64} {nw : Bool} (n T : Nat) (A B : Nat → Nat) (ht : zTown I n T A B) {x : Int32} (i : Nat) (hx : x = nI i) (hi : i < 4) (w : Nat) (ew : I 22 (1 + i) - 1 = nI w) {y : Int32} (d : Nat) (hy : y = nI d) (hd : d < n) : zP l mX3_believersAt [.ref 79, .int x, .int y] (hh I J nw) (zKeep I J (.int (zbc (nI (bs (zgo (zTe I (I 16) n T A B (fun _ => false) (nI w)) (fun e => e == d) (zsc I i)).2))))) := by
  have hed : ∀ e, (e == d) = true → e < n := fun e he => by rw [beq_iff_eq.mp he]; exact hd
  refine z_start [.ref 79, .int x, .int y] (by decide +kernel) (Nat.le_of_ble_eq_true rfl) rfl ?_
  refine z_aload_0 (pc := 0) dX3_believersAt_0 ?_
  refine y_getR (pc := 1) dX3_believersAt_1 flX3_26 rfl (by first | rfl | assumption) (by first | rfl | assumption) ?_
  refine z_V0 (pc := 4) dX3_believersAt_4 mlX3_31 kX6_beAsTold vX6_beAsTold (by decide) (by decide) (by first | rfl | assumption) (Nat.le_of_ble_eq_true rfl) (qX6_beAsTold T ht.2.2.1 ht.2.2.2.1 A B (fun k hk => ⟨(ht.2.2.2.2.1 k hk).1, by have := (ht.2.2.2.2.1 k hk).2; have := ht.1; omega⟩) (fun k hk => ⟨(ht.2.2.2.2.2.1 k hk).1, by have := (ht.2.2.2.2.2.1 k hk).2; have := ht.1; omega⟩)) ⟨Nat.le_refl _, Nat.le_refl _⟩ (fun r h1 hq => ?_)
  obtain ⟨rfl, g2, rfl, hg2⟩ := hq
  have hT := zTold.first ht hg2
  refine z_aload_0 (pc := 7) dX3_believersAt_7 ?_
  refine y_getR (pc := 8) dX3_believersAt_8 flX3_26 rfl (by first | rfl | assumption) (by first | rfl | assumption) ?_
  refine z_iload_1 (pc := 11) dX3_believersAt_11 ?_
  refine z_iconst (pc := 12) (1) dX3_believersAt_12 rfl ?_
  refine z_iload_2 (pc := 13) dX3_believersAt_13 ?_
  refine z_ishl (pc := 14) dX3_believersAt_14 ?_
  refine z_V2 (pc := 15) dX3_believersAt_15 mlX3_48 kX6_spreadCask vX6_spreadCask (by decide) (by decide) (by first | rfl | assumption) (Nat.le_of_ble_eq_true rfl) (qX6_spreadCask (zTe I (I 16) n T A B (fun _ => false) (nI w)) (hT.set ht) i hx hi (by rw [hT.1 22 (by omega)]; exact ew.symm) (fun e => e == d) (by rw [hy]; exact bs_one d (by have := ht.1; omega)) hed) ⟨Nat.le_refl _, Nat.le_refl _⟩ (fun r h1 hq => ?_)
  obtain ⟨I2, nw2, rfl, rfl, z1, z2, z3, z5, z6, z7, st, z8, z9, z10⟩ := zSpQ_fr hq
  rw [zsc_keep hT.1] at z6
  refine z_aload_0 (pc := 18) dX3_believersAt_18 ?_
  refine y_getR (pc := 19) dX3_believersAt_19 flX3_26 rfl (by first | rfl | assumption) (by first | rfl | assumption) ?_
  refine y_getI (pc := 22) dX3_believersAt_22 flX3_52 rfl (by first | rfl | assumption) ?_
  refine z_S1 (pc := 25) dX3_believersAt_25 mlX3_42 kJ6_bitCount_0f7a4 vJ6_bitCount_0f7a4 (by decide) (by decide) (Nat.le_of_ble_eq_true rfl) (qJ6_bitCount_0f7a4) ⟨Nat.le_refl _, Nat.le_refl _⟩ (fun r h1 hq => ?_)
  obtain ⟨rfl, rfl⟩ := hq
  refine z_ret (pc := 28) (r := some (.int _)) rfl dX3_believersAt_28 trivial rfl rfl ?_
  exact ⟨by rw [z6], I2, nw2, rfl, hT.1.trans z1⟩
def zbest (f : Nat → Int32) : Nat → Int32 × Int32
  | 0 => (0, -1)
  | d + 1 => if (zbest f d).2 < f d then (nI d, f d) else zbest f d
set_option maxRecDepth 100000 in
set_option maxHeartbeats 4000000 in
theorem best_loop {l : zL} {I : Nat → Nat → Int32} {J : Nat → Nat → Int64} (n T : Nat) (A B : Nat → Nat) (ht : zTown I n T A B) {x : Int32} (i : Nat) (hx : x = nI i) (hi : i < 4) (w : Nat) (ew : I 22 (1 + i) - 1 = nI w) : ∀ (f d : Nat) (I1 : Nat → Nat → Int32) (nw : Bool) (v5 : Value), d ≤ n → n - d < f → zFr I I1 → v5.category = 1 →
    zW l mX3_bestTap SH.length (zsl SH) 7 [.ref 79, .int x, .int (zbest (fun d => zbc (nI (bs (zgo (zTe I (I 16) n T A B (fun _ => false) (nI w)) (fun e => e == d) (zsc I i)).2))) d).1, .int (zbest (fun d => zbc (nI (bs (zgo (zTe I (I 16) n T A B (fun _ => false) (nI w)) (fun e => e == d) (zsc I i)).2))) d).2, .int (nI d), v5] [] (I1, J, RF nw, SH) (zKeep I J (.int (zbest (fun d => zbc (nI (bs (zgo (zTe I (I 16) n T A B (fun _ => false) (nI w)) (fun e => e == d) (zsc I i)).2))) n).1))
  | 0, d, I1, nw, v5, _, hf, _, _ => by omega
  | f + 1, d, I1, nw, v5, hd, hf, hF, hv5 => by
    refine z_iload_4 (pc := 7) dX3_bestTap_7 ?_
    refine z_aload_0 (pc := 9) dX3_bestTap_9 ?_
    refine y_getR (pc := 10) dX3_bestTap_10 flX3_22 rfl (by first | rfl | assumption) (by first | rfl | assumption) ?_
    refine y_getI (pc := 13) dX3_bestTap_13 flX3_93 rfl (by first | rfl | assumption) ?_
    refine z_icmp_ge (pc := 16) (tgt := 46) dX3_bestTap_16 (by decide) (fun c16 => ?_) (fun c16 => ?_)
    · skip
      refine z_iload_2 (pc := 46) dX3_bestTap_46 ?_
      refine z_ret (pc := 47) (r := some (.int _)) rfl dX3_bestTap_47 trivial rfl rfl ?_
      have : d = n := by
        rcases Nat.lt_or_ge d n with q | q
        · rw [hF 15 (by omega), ht.2.1] at c16
          exact absurd c16 (nI_ge q (by have := ht.1; omega))
        · omega
      subst this
      exact ⟨rfl, I1, nw, rfl, hF⟩
    · skip
      have hlt : d < n := by
        rcases Nat.lt_or_ge d n with q | q
        · exact q
        · exact absurd (by rw [hF 15 (by omega), ht.2.1]; exact nI_le q (by have := ht.1; omega)) c16
      refine z_aload_0 (pc := 19) dX3_bestTap_19 ?_
      refine z_iload_1 (pc := 20) dX3_bestTap_20 ?_
      refine z_iload_4 (pc := 21) dX3_bestTap_21 ?_
      refine z_V2 (pc := 23) dX3_bestTap_23 mlX3_96 kX3_believersAt vX3_believersAt (by decide) (by decide) (by first | rfl | assumption) (Nat.le_of_ble_eq_true rfl) (qX3_believersAt n T A B (ht.keep hF) i hx hi w (by rw [hF 22 (by omega)]; exact ew) d rfl hlt) ⟨Nat.le_refl _, Nat.le_refl _⟩ (fun r h1 hq => ?_)
      obtain ⟨rfl, I2, nw2, rfl, hF2⟩ := hq
      have eT : zTe I1 (I1 16) n T A B (fun _ => false) (nI w) = (zTe I (I 16) n T A B (fun _ => false) (nI w)) := by unfold zTe; rw [hF 16 (by omega), hF 17 (by omega), hF 18 (by omega)]
      have eS : zsc I1 i = zsc I i := by unfold zsc; rw [hF 15 (by omega), hF 22 (by omega)]
      rw [eT, eS]
      refine z_istore_5 (pc := 26) dX3_bestTap_26 (by decide) rfl ?_
      refine z_iload_5 (pc := 28) dX3_bestTap_28 ?_
      refine z_iload_3 (pc := 30) dX3_bestTap_30 ?_
      refine z_icmp_le (pc := 31) (tgt := 40) dX3_bestTap_31 (by decide) (fun c31 => ?_) (fun c31 => ?_)
      · skip
        refine z_iinc_4 (pc := 40) (1) dX3_bestTap_40 rfl (by decide) rfl ?_
        refine z_goto (pc := 43) (tgt := 7) dX3_bestTap_43 (by decide) ?_
        have k := best_loop (l := l) (J := J) n T A B ht i hx hi w ew f (d + 1) I2 nw2 (.int ((fun d => zbc (nI (bs (zgo (zTe I (I 16) n T A B (fun _ => false) (nI w)) (fun e => e == d) (zsc I i)).2))) d)) (by omega) (by omega) (hF.trans hF2) rfl
        rw [show zbest (fun d => zbc (nI (bs (zgo (zTe I (I 16) n T A B (fun _ => false) (nI w)) (fun e => e == d) (zsc I i)).2))) (d + 1) = zbest (fun d => zbc (nI (bs (zgo (zTe I (I 16) n T A B (fun _ => false) (nI w)) (fun e => e == d) (zsc I i)).2))) d from if_neg (Int32.not_lt.mpr c31), nI_succ] at k
        exact k
      · skip
        refine z_iload_4 (pc := 34) dX3_bestTap_34 ?_
        refine z_istore_2 (pc := 36) dX3_bestTap_36 (by decide) rfl ?_
        refine z_iload_5 (pc := 37) dX3_bestTap_37 ?_
        refine z_istore_3 (pc := 39) dX3_bestTap_39 (by decide) rfl ?_
        refine z_iinc_4 (pc := 40) (1) dX3_bestTap_40 rfl (by decide) rfl ?_
        refine z_goto (pc := 43) (tgt := 7) dX3_bestTap_43 (by decide) ?_
        have k := best_loop (l := l) (J := J) n T A B ht i hx hi w ew f (d + 1) I2 nw2 (.int ((fun d => zbc (nI (bs (zgo (zTe I (I 16) n T A B (fun _ => false) (nI w)) (fun e => e == d) (zsc I i)).2))) d)) (by omega) (by omega) (hF.trans hF2) rfl
        rw [show zbest (fun d => zbc (nI (bs (zgo (zTe I (I 16) n T A B (fun _ => false) (nI w)) (fun e => e == d) (zsc I i)).2))) (d + 1) = (nI d, (fun d => zbc (nI (bs (zgo (zTe I (I 16) n T A B (fun _ => false) (nI w)) (fun e => e == d) (zsc I i)).2))) d) from if_pos (Int32.not_le.mp c31), nI_succ] at k
        exact k
set_option maxRecDepth 100000 in
set_option maxHeartbeats 4000000 in
theorem qX3_bestTap {l : zL} {I : Nat → Nat → Int32} {J : Nat → Nat → Int64} {nw : Bool} (n T : Nat) (A B : Nat → Nat) (ht : zTown I n T A B) {x : Int32} (i : Nat) (hx : x = nI i) (hi : i < 4) (w : Nat) (ew : I 22 (1 + i) - 1 = nI w) : zP l mX3_bestTap [.ref 79, .int x] (hh I J nw) (zKeep I J (.int (zbest (fun d => zbc (nI (bs (zgo (zTe I (I 16) n T A B (fun _ => false) (nI w)) (fun e => e == d) (zsc I i)).2))) n).1)) := by
  refine z_start [.ref 79, .int x, zno, zno, zno, zno] (by decide +kernel) (Nat.le_of_ble_eq_true rfl) rfl ?_
  refine z_iconst (pc := 0) (0) dX3_bestTap_0 rfl ?_
  refine z_istore_2 (pc := 1) dX3_bestTap_1 (by decide) rfl ?_
  refine z_iconst (pc := 2) (-1) dX3_bestTap_2 rfl ?_
  refine z_istore_3 (pc := 3) dX3_bestTap_3 (by decide) rfl ?_
  refine z_iconst (pc := 4) (0) dX3_bestTap_4 rfl ?_
  refine z_istore_4 (pc := 5) dX3_bestTap_5 (by decide) rfl ?_
  have k := best_loop (l := l) (J := J) n T A B ht i hx hi w ew (n + 1) 0 I nw zno (by omega) (by omega) zFr.rfl rfl
  exact k
set_option maxRecDepth 100000 in
set_option maxHeartbeats 4000000 in
theorem qX3_believersOfBlend {l : zL} {I : Nat → Nat → Int32} {J : Nat → Nat → Int64} {nw : Bool} (n T : Nat) (A B : Nat → Nat) (ht : zTown I n T A B) {x y z : Int32} (i : Nat) (hx : x = nI i) (hi : i < 4) (j : Nat) (hy : y = nI j) (hj : j < 4) (w : Nat) (ew : I 22 (1 + j) - 1 = nI w) (d : Nat) (hz : z = nI d) (hd : d < n) : zP l mX3_believersOfBlend [.ref 79, .int x, .int y, .int z] (hh I J nw) (zKeep I J (.int (zbc (nI (bs (zgo (zTe I (I 16) n T A B (fun _ => false) (nI w)) (fun e => e == d) (zst (I 15 0) (I 15 1) (if I 22 (5 + i) + I 22 (5 + j) < 20 then I 22 (5 + i) + I 22 (5 + j) else 20) (I 22 (9 + j)))).2))))) := by
  have hed : ∀ e, (e == d) = true → e < n := fun e he => by rw [beq_iff_eq.mp he]; exact hd
  refine z_start [.ref 79, .int x, .int y, .int z, zno] (by decide +kernel) (Nat.le_of_ble_eq_true rfl) rfl ?_
  refine z_aload_0 (pc := 0) dX3_believersOfBlend_0 ?_
  refine y_getR (pc := 1) dX3_believersOfBlend_1 flX3_22 rfl (by first | rfl | assumption) (by first | rfl | assumption) ?_
  refine z_aload_0 (pc := 4) dX3_believersOfBlend_4 ?_
  refine y_getR (pc := 5) dX3_believersOfBlend_5 flX3_22 rfl (by first | rfl | assumption) (by first | rfl | assumption) ?_
  refine y_getR (pc := 8) dX3_believersOfBlend_8 flX3_73 rfl (by first | rfl | assumption) (by first | rfl | assumption) ?_
  refine z_iload_1 (pc := 11) dX3_believersOfBlend_11 ?_
  refine z_iload_2 (pc := 12) dX3_believersOfBlend_12 ?_
  refine z_V2 (pc := 13) dX3_believersOfBlend_13 mlX3_99 kX2_maltOfBoth vX2_maltOfBoth (by decide) (by decide) (by first | rfl | assumption) (Nat.le_of_ble_eq_true rfl) (qX2_maltOfBoth rfl rfl rfl i hx hi j hy hj) ⟨Nat.le_refl _, Nat.le_refl _⟩ (fun r h1 hq => ?_)
  obtain ⟨rfl, rfl⟩ := hq
  refine z_aload_0 (pc := 16) dX3_believersOfBlend_16 ?_
  refine y_getR (pc := 17) dX3_believersOfBlend_17 flX3_22 rfl (by first | rfl | assumption) (by first | rfl | assumption) ?_
  refine y_getR (pc := 20) dX3_believersOfBlend_20 flX3_73 rfl (by first | rfl | assumption) (by first | rfl | assumption) ?_
  refine z_iload_2 (pc := 23) dX3_believersOfBlend_23 ?_
  refine z_V1 (pc := 24) dX3_believersOfBlend_24 mlX3_82 kX2_ageOf vX2_ageOf (by decide) (by decide) (by first | rfl | assumption) (Nat.le_of_ble_eq_true rfl) (qX2_ageOf rfl rfl rfl j hy hj) ⟨Nat.le_refl _, Nat.le_refl _⟩ (fun r h1 hq => ?_)
  obtain ⟨rfl, rfl⟩ := hq
  refine z_V2 (pc := 27) dX3_believersOfBlend_27 mlX3_85 kX7_strong vX7_strong (by decide) (by decide) (by first | rfl | assumption) (Nat.le_of_ble_eq_true rfl) (qX7_strong) ⟨Nat.le_refl _, Nat.le_refl _⟩ (fun r h1 hq => ?_)
  obtain ⟨rfl, rfl⟩ := hq
  refine z_istore_4 (pc := 30) dX3_believersOfBlend_30 (by decide) rfl ?_
  refine z_aload_0 (pc := 32) dX3_believersOfBlend_32 ?_
  refine y_getR (pc := 33) dX3_believersOfBlend_33 flX3_26 rfl (by first | rfl | assumption) (by first | rfl | assumption) ?_
  refine z_V0 (pc := 36) dX3_believersOfBlend_36 mlX3_31 kX6_beAsTold vX6_beAsTold (by decide) (by decide) (by first | rfl | assumption) (Nat.le_of_ble_eq_true rfl) (qX6_beAsTold T ht.2.2.1 ht.2.2.2.1 A B (fun k hk => ⟨(ht.2.2.2.2.1 k hk).1, by have := (ht.2.2.2.2.1 k hk).2; have := ht.1; omega⟩) (fun k hk => ⟨(ht.2.2.2.2.2.1 k hk).1, by have := (ht.2.2.2.2.2.1 k hk).2; have := ht.1; omega⟩)) ⟨Nat.le_refl _, Nat.le_refl _⟩ (fun r h1 hq => ?_)
  obtain ⟨rfl, g2, rfl, hg2⟩ := hq
  have hT := zTold.first ht hg2
  refine z_aload_0 (pc := 39) dX3_believersOfBlend_39 ?_
  refine y_getR (pc := 40) dX3_believersOfBlend_40 flX3_26 rfl (by first | rfl | assumption) (by first | rfl | assumption) ?_
  refine z_aload_0 (pc := 43) dX3_believersOfBlend_43 ?_
  refine y_getR (pc := 44) dX3_believersOfBlend_44 flX3_22 rfl (by first | rfl | assumption) (by first | rfl | assumption) ?_
  refine y_getR (pc := 47) dX3_believersOfBlend_47 flX3_73 rfl (by first | rfl | assumption) (by first | rfl | assumption) ?_
  refine z_iload_2 (pc := 50) dX3_believersOfBlend_50 ?_
  refine z_V1 (pc := 51) dX3_believersOfBlend_51 mlX3_79 kX2_whomOf vX2_whomOf (by decide) (by decide) (by first | rfl | assumption) (Nat.le_of_ble_eq_true rfl) (qX2_whomOf rfl rfl rfl j hy hj) ⟨Nat.le_refl _, Nat.le_refl _⟩ (fun r h1 hq => ?_)
  obtain ⟨rfl, rfl⟩ := hq
  rw [hT.1 22 (by omega), ew]
  refine z_iload_4 (pc := 54) dX3_believersOfBlend_54 ?_
  refine z_iconst (pc := 56) (1) dX3_believersOfBlend_56 rfl ?_
  refine z_iload_3 (pc := 57) dX3_believersOfBlend_57 ?_
  refine z_ishl (pc := 58) dX3_believersOfBlend_58 ?_
  refine z_V3 (pc := 59) dX3_believersOfBlend_59 mlX3_89 kX6_spread vX6_spread (by decide) (by decide) (by first | rfl | assumption) (Nat.le_of_ble_eq_true rfl) (qX6_spread (zTe I (I 16) n T A B (fun _ => false) (nI w)) (hT.set ht) (fun e => e == d) (by rw [hz]; exact bs_one d (by have := ht.1; omega)) hed) ⟨Nat.le_refl _, Nat.le_refl _⟩ (fun r h1 hq => ?_)
  obtain ⟨I2, nw2, rfl, rfl, z1, z2, z3, z5, z6, z7, st, z8, z9, z10⟩ := zSpQ_fr hq
  
  refine z_aload_0 (pc := 62) dX3_believersOfBlend_62 ?_
  refine y_getR (pc := 63) dX3_believersOfBlend_63 flX3_26 rfl (by first | rfl | assumption) (by first | rfl | assumption) ?_
  refine y_getI (pc := 66) dX3_believersOfBlend_66 flX3_52 rfl (by first | rfl | assumption) ?_
  refine z_S1 (pc := 69) dX3_believersOfBlend_69 mlX3_42 kJ6_bitCount_0f7a4 vJ6_bitCount_0f7a4 (by decide) (by decide) (Nat.le_of_ble_eq_true rfl) (qJ6_bitCount_0f7a4) ⟨Nat.le_refl _, Nat.le_refl _⟩ (fun r h1 hq => ?_)
  obtain ⟨rfl, rfl⟩ := hq
  refine z_ret (pc := 72) (r := some (.int _)) rfl dX3_believersOfBlend_72 trivial rfl rfl ?_
  exact ⟨by rw [z6]; rfl, I2, nw2, rfl, hT.1.trans z1⟩
