theorem nI_b2k (b k : Nat) : nI b + 2 * nI k = nI (b + 2 * k) := by
  have h : nI (2 * k) = 2 * nI k := by
    first | exact Int32.ofNat_mul 2 k | (unfold nI; exact Int32.ofNat_mul 2 k)
  rw [← h, nI_add]
def zall (E : Nat → Bool) : Nat → Bool
  | 0 => true
  | k + 1 => zall E k && E k
theorem zall_no {E : Nat → Bool} {k : Nat} (h : zall E k = false) : ∀ n, k ≤ n → zall E n = false
  | 0, hk => by rw [show k = 0 by omega] at h; exact h
  | n + 1, hk => by
    by_cases hq : k = n + 1
    · rw [← hq]; exact h
    · rw [zall, zall_no h n (by omega)]; rfl
def zTF (I I2 : Nat → Nat → Int32) : Prop := (∀ a, a ≠ 85 → a ≠ 96 → a ≠ 97 → a ≠ 98 → I2 a = I a) ∧ ∀ b, b ≠ 24 → I2 85 b = I 85 b
def zcome (I : Nat → Nat → Int32) (n T : Nat) (A B : Nat → Nat) (i b : Nat) (D : Nat → Nat) (j : Nat) : Bool := decide (nI (bs (zgo (zmT I 99 n T A B (fun _ => false) (I 99 (48 + i))) (fun e => e == D j) (zst (I 99 0) (I 99 1) (I 99 (52 + i)) (I 99 (56 + i)))).2) = I 88 (b + 2 * j + 1))
set_option maxRecDepth 100000 in
set_option maxHeartbeats 4000000 in
theorem comes_loop {l : zL} {I : Nat → Nat → Int32} {J : Nat → Nat → Int64} {nw : Bool} (n T : Nat) (A B : Nat → Nat) (ht : zRT I 99 n T A B) {x : Int32} (i : Nat) (hx : x = nI i) (hi : i < 4) (hs : -1000 < zst (I 99 0) (I 99 1) (I 99 (52 + i)) (I 99 (56 + i))) (b N : Nat) (hb : b + 2 * N ≤ 320) (D : Nat → Nat) (hD : ∀ k, k < N → I 88 (b + 2 * k) = nI (D k) ∧ D k < 6) : ∀ (f k : Nat) (I1 : Nat → Nat → Int32), k ≤ N → N - k < f → zTF I I1 →
    zW l mX9_comesSo SH.length (zsl SH) 6 [.ref 85, .int x, .int (nI b), .int (nI N), .int (zbb (zall (zcome I n T A B i b D) k)), .int (nI k)] [] (I1, J, RF nw, SH) (fun r h1 => r = some (.int (zbb (zall (zcome I n T A B i b D) N))) ∧ ∃ I2, h1 = (I2, J, RF nw, SH) ∧ zTF I I2)
  | 0, k, I1, _, hf, _ => by omega
  | f + 1, k, I1, hk, hf, hT => by
    have e99 : I1 99 = I 99 := hT.1 99 (by decide) (by decide) (by decide) (by decide)
    have e88 : I1 88 = I 88 := hT.1 88 (by decide) (by decide) (by decide) (by decide)
    refine z_iload_5 (pc := 6) dX9_comesSo_6 ?_
    refine z_iload_3 (pc := 8) dX9_comesSo_8 ?_
    refine z_icmp_ge (pc := 9) (tgt := 73) dX9_comesSo_9 (by decide) (fun c9 => ?_) (fun c9 => ?_)
    · skip
      refine z_iload_4 (pc := 73) dX9_comesSo_73 ?_
      refine z_ret (pc := 75) (r := some (.int _)) rfl dX9_comesSo_75 (zbb_01 _) rfl rfl ?_
      refine ⟨?_, I1, rfl, hT⟩
      have hkn : k = N := by
        rcases Nat.lt_or_ge k N with q | q
        · exact absurd c9 (nI_ge q (by omega))
        · omega
      rw [hkn]
    · skip
      have hlt : k < N := by
        rcases Nat.lt_or_ge k N with q | q
        · exact q
        · exact absurd (nI_le q (by omega)) c9
      refine z_iload_4 (pc := 12) dX9_comesSo_12 ?_
      refine z_if_eq (pc := 14) (tgt := 73) dX9_comesSo_14 (by decide) (fun c14 => ?_) (fun c14 => ?_)
      · skip
        refine z_iload_4 (pc := 73) dX9_comesSo_73 ?_
        refine z_ret (pc := 75) (r := some (.int _)) rfl dX9_comesSo_75 (zbb_01 _) rfl rfl ?_
        refine ⟨?_, I1, rfl, hT⟩
        have hz := (zbb0 _).mp c14
        rw [hz, zall_no hz N hk]
      · skip
        have hk1 : zall (zcome I n T A B i b D) k = true := (zbb1 _).mp c14
        refine z_aload_0 (pc := 17) dX9_comesSo_17 ?_
        refine z_aload_0 (pc := 18) dX9_comesSo_18 ?_
        refine y_getR (pc := 19) dX9_comesSo_19 flX9_50 rfl (by first | rfl | assumption) (by first | rfl | assumption) ?_
        refine z_iload_1 (pc := 22) dX9_comesSo_22 ?_
        refine z_iconst (pc := 23) (1) dX9_comesSo_23 rfl ?_
        refine z_aload_0 (pc := 24) dX9_comesSo_24 ?_
        refine y_getR (pc := 25) dX9_comesSo_25 flX9_16 rfl (by first | rfl | assumption) (by first | rfl | assumption) ?_
        refine z_iload_2 (pc := 28) dX9_comesSo_28 ?_
        refine z_iconst (pc := 29) (2) dX9_comesSo_29 rfl ?_
        refine z_iload_5 (pc := 30) dX9_comesSo_30 ?_
        refine z_imul (pc := 32) dX9_comesSo_32 ?_
        refine z_iadd (pc := 33) dX9_comesSo_33 ?_
        refine y_ialdN (pc := 34) (b + 2 * k) dX9_comesSo_34 (by first | rfl | assumption) (nI_b2k b k) (by omega) (by first | decide | omega) ?_
        refine z_ishl (pc := 35) dX9_comesSo_35 ?_
        refine z_iconst (pc := 36) (0) dX9_comesSo_36 rfl ?_
        refine z_V4 (pc := 37) dX9_comesSo_37 mlX9_191 kX9_tellsCask vX9_tellsCask (by decide) (by decide) (by first | rfl | assumption) (Nat.le_of_ble_eq_true rfl) (qX9_tellsCask 99 rfl (by decide) n T A B (ht.keep e99) (fun _ => false) no_bit (fun e => e == D k) (by rw [e88, (hD k hlt).1]; exact one_bit (D k) (hD k hlt).2) i hx hi (by rw [e99]; exact hs)) ⟨Nat.le_refl _, Nat.le_refl _⟩ (fun r h1 hq => ?_)
        obtain ⟨rfl, I2, rfl, hO⟩ := hq
        rw [zmT_keep e99, e99] at hO
        have hbl := hO.2.2.1
        have hF : zTF I I2 := ⟨fun a h1 h2 h3 h4 => by rw [hO.1 a h1 h2 h3 h4, hT.1 a h1 h2 h3 h4], fun q hq => by rw [hO.2.1 q hq, hT.2 q hq]⟩
        have f88 : I2 88 = I 88 := hF.1 88 (by decide) (by decide) (by decide) (by decide)
        refine z_aload_0 (pc := 40) dX9_comesSo_40 ?_
        refine y_getI (pc := 41) dX9_comesSo_41 flX9_168 rfl (by first | rfl | assumption) ?_
        refine z_aload_0 (pc := 44) dX9_comesSo_44 ?_
        refine y_getR (pc := 45) dX9_comesSo_45 flX9_16 rfl (by first | rfl | assumption) (by first | rfl | assumption) ?_
        refine z_iload_2 (pc := 48) dX9_comesSo_48 ?_
        refine z_iconst (pc := 49) (2) dX9_comesSo_49 rfl ?_
        refine z_iload_5 (pc := 50) dX9_comesSo_50 ?_
        refine z_imul (pc := 52) dX9_comesSo_52 ?_
        refine z_iadd (pc := 53) dX9_comesSo_53 ?_
        refine z_iconst (pc := 54) (1) dX9_comesSo_54 rfl ?_
        refine z_iadd (pc := 55) dX9_comesSo_55 ?_
        refine y_ialdN (pc := 56) (b + 2 * k + 1) dX9_comesSo_56 (by first | rfl | assumption) (by rw [nI_b2k]; exact nI_add _ 1) (by omega) (by first | decide | omega) ?_
        refine z_icmp_ne (pc := 57) (tgt := 64) dX9_comesSo_57 (by decide) (fun c57 => ?_) (fun c57 => ?_)
        · skip
          refine z_iconst (pc := 64) (0) dX9_comesSo_64 rfl ?_
          refine z_istore_4 (pc := 65) dX9_comesSo_65 (by decide) rfl ?_
          refine z_iinc_5 (pc := 67) (1) dX9_comesSo_67 rfl (by decide) rfl ?_
          refine z_goto (pc := 70) (tgt := 6) dX9_comesSo_70 (by decide) ?_
          rw [← nI_succ, show (0 : Int32) = zbb (zall (zcome I n T A B i b D) (k + 1)) from by
            rw [zall, hk1, Bool.true_and]
            unfold zcome
            rw [← f88, ← hbl]
            first | rw [decide_eq_true c57] | rw [decide_eq_false c57]
            rfl]
          exact comes_loop n T A B ht i hx hi hs b N hb D hD f (k + 1) I2 (by omega) (by omega) hF
        · skip
          refine z_iconst (pc := 60) (1) dX9_comesSo_60 rfl ?_
          refine z_goto (pc := 61) (tgt := 65) dX9_comesSo_61 (by decide) ?_
          refine z_istore_4 (pc := 65) dX9_comesSo_65 (by decide) rfl ?_
          refine z_iinc_5 (pc := 67) (1) dX9_comesSo_67 rfl (by decide) rfl ?_
          refine z_goto (pc := 70) (tgt := 6) dX9_comesSo_70 (by decide) ?_
          rw [← nI_succ, show (1 : Int32) = zbb (zall (zcome I n T A B i b D) (k + 1)) from by
            rw [zall, hk1, Bool.true_and]
            unfold zcome
            rw [← f88, ← hbl]
            first | rw [decide_eq_true c57] | rw [decide_eq_false c57]
            rfl]
          exact comes_loop n T A B ht i hx hi hs b N hb D hD f (k + 1) I2 (by omega) (by omega) hF
set_option maxRecDepth 100000 in
set_option maxHeartbeats 4000000 in
theorem qX9_comesSo {l : zL} {I : Nat → Nat → Int32} {J : Nat → Nat → Int64} {nw : Bool} (n T : Nat) (A B : Nat → Nat) (ht : zRT I 99 n T A B) {x : Int32} (i : Nat) (hx : x = nI i) (hi : i < 4) (hs : -1000 < zst (I 99 0) (I 99 1) (I 99 (52 + i)) (I 99 (56 + i))) (b N : Nat) (hb : b + 2 * N ≤ 320) (D : Nat → Nat) (hD : ∀ k, k < N → I 88 (b + 2 * k) = nI (D k) ∧ D k < 6) {y z : Int32} (hy : y = nI b) (hz : z = nI N) : zP l mX9_comesSo [.ref 85, .int x, .int y, .int z] (hh I J nw) (fun r h1 => r = some (.int (zbb (zall (zcome I n T A B i b D) N))) ∧ ∃ I2, h1 = (I2, J, RF nw, SH) ∧ zTF I I2) := by
  refine z_start [.ref 85, .int x, .int y, .int z, zno, zno] (by decide +kernel) (Nat.le_of_ble_eq_true rfl) rfl ?_
  refine z_iconst (pc := 0) (1) dX9_comesSo_0 rfl ?_
  refine z_istore_4 (pc := 1) dX9_comesSo_1 (by decide) rfl ?_
  refine z_iconst (pc := 3) (0) dX9_comesSo_3 rfl ?_
  refine z_istore_5 (pc := 4) dX9_comesSo_4 (by decide) rfl ?_
  subst hy
  subst hz
  have k := comes_loop (l := l) (I := I) (J := J) (nw := nw) n T A B ht i hx hi hs b N hb D hD (N + 1) 0 I (by omega) (by omega) ⟨fun _ _ _ _ _ => rfl, fun _ _ => rfl⟩
  rw [nI_0, show zbb (zall (zcome I n T A B i b D) 0) = 1 from rfl] at k
  exact k
