def zTA (t u : zTn) : Prop := t.1 = u.1 ∧ t.2.2.2.2.1 = u.2.2.2.2.1 ∧ ∀ d, d < t.1 → t.2.1 d = u.2.1 d ∧ t.2.2.1 d = u.2.2.1 d ∧ t.2.2.2.1 d = u.2.2.2.1 d ∧ ∀ e, t.2.2.2.2.2 d e = u.2.2.2.2.2 d e
theorem zB_congr {t u : zTn} (h : zTA t u) {d : Nat} (hd : d < t.1) (s : Int32) : zB t d s = zB u d s := by
  unfold zB; rw [(h.2.2 d hd).1, (h.2.2 d hd).2.1, (h.2.2 d hd).2.2.1, h.2.1]
theorem zon_congr {t u : zTn} (h : zTA t u) {d : Nat} (hd : d < t.1) (cm : Nat → Option Int32) (fs : Nat → Int32) : zon t cm fs d = zon u cm fs d := by
  unfold zon
  cases cm d with
  | none => rfl
  | some s =>
    show (if fs d < 0 then zpas (t.2.1 d) s (zB t d s) else 0) = (if fs d < 0 then zpas (u.2.1 d) s (zB u d s) else 0)
    rw [(h.2.2 d hd).1, zB_congr h hd]
theorem znx_congr {t u : zTn} (h : zTA t u) (cm : Nat → Option Int32) (fs : Nat → Int32) : ∀ k, k ≤ t.1 → ∀ e, znx t cm fs k e = znx u cm fs k e
  | 0, _, _ => rfl
  | k + 1, hk, e => by
    rw [znx, znx, zon_congr h (by omega), (h.2.2 k (by omega)).2.2.2 e, znx_congr h cm fs k (by omega) e]
theorem zbl_congr {t u : zTn} (h : zTA t u) (cm : Nat → Option Int32) (bl : Nat → Bool) : zbl t cm bl t.1 = zbl u cm bl t.1 := by
  funext d
  unfold zbl
  by_cases hd : d < t.1
  · cases cm d with
    | none => rfl
    | some s =>
      show (bl d || (decide (d < t.1) && zB t d s)) = (bl d || (decide (d < t.1) && zB u d s))
      rw [zB_congr h hd]
  · rw [decide_eq_false hd, Bool.false_and, Bool.false_and]
theorem zit_congr {t u : zTn} (h : zTA t u) : ∀ (f j : Nat) (cm : Nat → Option Int32) (fs : Nat → Int32) (bl : Nat → Bool), zit t f j cm fs bl = zit u f j cm fs bl
  | 0, _, _, _, _ => rfl
  | f + 1, j, cm, fs, bl => by
    rw [zit, zit, ← h.1, show znx t cm fs t.1 = znx u cm fs t.1 from funext (znx_congr h cm fs t.1 (Nat.le_refl _)), zbl_congr h, zit_congr h f]
theorem zgo_congr {t u : zTn} (h : zTA t u) (sm : Nat → Bool) (s : Int32) : zgo t sm s = zgo u sm s := zit_congr h _ _ _ _ _
theorem in_dec {x a' c' : Int32} {a c : Int64} (ha : a.toInt = a'.toInt) (hc : c.toInt = c'.toInt) : (decide (a ≤ x.toInt64) && decide (x.toInt64 ≤ c)) = decide (¬ x < a' ∧ x ≤ c') := by
  rw [Bool.eq_iff_iff]
  simp only [Bool.and_eq_true, decide_eq_true_eq, Int64.le_iff_toInt_le, Int32.lt_iff_toInt_lt, Int32.le_iff_toInt_le, Int32.toInt_toInt64, ha, hc]
  omega
theorem z_malt20 : ∀ q, q ≤ 20 → -1000 < nI q ∧ -1000 < nI q - nI q / 3 := by decide +kernel
theorem zst_malt {q : Nat} (hq : q ≤ 20) (o k g : Int32) : -1000 < zst o k (nI q) g := by
  unfold zst
  by_cases h1 : ¬ g ≤ k
  · rw [if_pos h1]; decide
  · rw [if_neg h1]
    by_cases h2 : o ≤ g
    · rw [if_pos h2]; exact (z_malt20 q hq).1
    · rw [if_neg h2]; exact (z_malt20 q hq).2
theorem zall_congr {E F : Nat → Bool} : ∀ m, (∀ k, k < m → E k = F k) → zall E m = zall F m
  | 0, _ => rfl
  | m + 1, h => by rw [zall, zall, zall_congr m (fun k hk => h k (by omega)), h m (by omega)]
theorem zall_all {E : Nat → Bool} : ∀ m, zall E m = true → ∀ k, k < m → E k = true
  | 0, _, k, hk => by omega
  | m + 1, h, k, hk => by
    rw [zall, Bool.and_eq_true] at h
    rcases Nat.lt_or_ge k m with q | q
    · exact zall_all m h.1 k q
    · rw [show k = m by omega]; exact h.2
def mTw (I : Nat → Nat → Int32) (n : Nat) (x r y z : Int32) : Int32 × (Nat → Nat → Int32) := if zlt x 4 = true ∧ zlt r 8 = true ∧ ¬ z < 1 ∧ z ≤ 6 then (if I 90 (44 + x.toNatClampNeg) = 0 then (-1000002, I) else if I 87 r.toNatClampNeg < 0 then (-1000011, zup I 85 3 1) else if zhold y (2 * z) (I 87 r.toNatClampNeg).toNatClampNeg = true then (if zall (fun k => zlt (I 88 (40 * r.toNatClampNeg + y.toNatClampNeg + 2 * k)) n) z.toNatClampNeg = true then (0, I) else (-1000001, I)) else (-1000012, zup I 85 3 2)) else (-1000001, I)
set_option maxRecDepth 100000 in
set_option maxHeartbeats 4000000 in
theorem mtw_loop {l : zL} {I : Nat → Nat → Int32} {J : Nat → Nat → Int64} {nw : Bool} (n : Nat) (hn : n ≤ 6) (en : I 90 3 = nI n) (r aa m : Nat) (hr : r < 8) (ham : aa + 2 * m ≤ 40) {x : Int32} {Q : Option Value → zH → Prop} (hQ : ∀ v : Value, zW l mX9_twos SH.length (zsl SH) 143 [.ref 85, .int x, .int (nI r), .int (nI aa), .int (nI m), .int (zbb (zall (fun k => zlt (I 88 (40 * r + aa + 2 * k)) n) m)), v] [] (I, J, RF nw, SH) Q) : ∀ (f k : Nat), k ≤ m → m - k < f →
    zW l mX9_twos SH.length (zsl SH) 95 [.ref 85, .int x, .int (nI r), .int (nI aa), .int (nI m), .int (zbb (zall (fun k => zlt (I 88 (40 * r + aa + 2 * k)) n) k)), .int (nI k)] [] (I, J, RF nw, SH) Q
  | 0, k, _, hf => by omega
  | f + 1, k, hk, hf => by
    refine z_iload_6 (pc := 95) dX9_twos_95 ?_
    refine z_iload_4 (pc := 97) dX9_twos_97 ?_
    refine z_icmp_ge (pc := 99) (tgt := 143) dX9_twos_99 (by decide) (fun c99 => ?_) (fun c99 => ?_)
    · skip
      have hkn : k = m := by
        rcases Nat.lt_or_ge k m with q | q
        · exact absurd c99 (nI_ge (b := m) q (by omega))
        · omega
      rw [hkn]
      exact hQ _
    · skip
      have hlt : k < m := by
        rcases Nat.lt_or_ge k m with q | q
        · exact q
        · exact absurd (nI_le (a := m) q (by omega)) c99
      refine z_iload_5 (pc := 102) dX9_twos_102 ?_
      refine z_if_eq (pc := 104) (tgt := 134) dX9_twos_104 (by decide) (fun c104 => ?_) (fun c104 => ?_)
      · skip
        refine z_iconst (pc := 134) (0) dX9_twos_134 rfl ?_
        refine z_istore_5 (pc := 135) dX9_twos_135 (by decide) rfl ?_
        refine z_iinc_6 (pc := 137) (1) dX9_twos_137 rfl (by decide) rfl ?_
        refine z_goto (pc := 140) (tgt := 95) dX9_twos_140 (by decide) ?_
        have e : (0 : Int32) = zbb (zall (fun k => zlt (I 88 (40 * r + aa + 2 * k)) n) (k + 1)) := by rw [zall, (zbb0 _).mp c104, Bool.false_and]; rfl
        rw [← nI_succ, e]
        exact mtw_loop n hn en r aa m hr ham hQ f (k + 1) (by omega) (by omega)
      · skip
        refine z_aload_0 (pc := 107) dX9_twos_107 ?_
        refine z_aload_0 (pc := 108) dX9_twos_108 ?_
        refine y_getR (pc := 109) dX9_twos_109 flX9_16 rfl (by first | rfl | assumption) (by first | rfl | assumption) ?_
        refine z_bipush (pc := 112) (40) dX9_twos_112 rfl ?_
        refine z_iload_2 (pc := 114) dX9_twos_114 ?_
        refine z_imul (pc := 115) dX9_twos_115 ?_
        refine z_iload_3 (pc := 116) dX9_twos_116 ?_
        refine z_iadd (pc := 117) dX9_twos_117 ?_
        refine z_iconst (pc := 118) (2) dX9_twos_118 rfl ?_
        refine z_iload_6 (pc := 119) dX9_twos_119 ?_
        refine z_imul (pc := 121) dX9_twos_121 ?_
        refine z_iadd (pc := 122) dX9_twos_122 ?_
        refine y_ialdN (pc := 123) (40 * r + aa + 2 * k) dX9_twos_123 (by first | rfl | assumption) (by rw [nI_40, nI_b2k]) (by omega) (by first | decide | omega) ?_
        refine z_V1 (pc := 124) dX9_twos_124 mlX9_199 kX9_isDrinker vX9_isDrinker (by decide) (by decide) (by first | rfl | assumption) (Nat.le_of_ble_eq_true rfl) (qX9_isDrinker n hn en) ⟨Nat.le_refl _, Nat.le_refl _⟩ (fun r h1 hq => ?_)
        obtain ⟨rfl, rfl⟩ := hq
        refine z_if_eq (pc := 127) (tgt := 134) dX9_twos_127 (by decide) (fun c127 => ?_) (fun c127 => ?_)
        · skip
          refine z_iconst (pc := 134) (0) dX9_twos_134 rfl ?_
          refine z_istore_5 (pc := 135) dX9_twos_135 (by decide) rfl ?_
          refine z_iinc_6 (pc := 137) (1) dX9_twos_137 rfl (by decide) rfl ?_
          refine z_goto (pc := 140) (tgt := 95) dX9_twos_140 (by decide) ?_
          have e : (0 : Int32) = zbb (zall (fun k => zlt (I 88 (40 * r + aa + 2 * k)) n) (k + 1)) := by rw [zall, (zbb0 _).mp c127, Bool.and_false]; rfl
          rw [← nI_succ, e]
          exact mtw_loop n hn en r aa m hr ham hQ f (k + 1) (by omega) (by omega)
        · skip
          refine z_iconst (pc := 130) (1) dX9_twos_130 rfl ?_
          refine z_goto (pc := 131) (tgt := 135) dX9_twos_131 (by decide) ?_
          refine z_istore_5 (pc := 135) dX9_twos_135 (by decide) rfl ?_
          refine z_iinc_6 (pc := 137) (1) dX9_twos_137 rfl (by decide) rfl ?_
          refine z_goto (pc := 140) (tgt := 95) dX9_twos_140 (by decide) ?_
          have e : (1 : Int32) = zbb (zall (fun k => zlt (I 88 (40 * r + aa + 2 * k)) n) (k + 1)) := by rw [zall, (zbb1 _).mp c104, (zbb1 _).mp c127]; rfl
          rw [← nI_succ, e]
          exact mtw_loop n hn en r aa m hr ham hQ f (k + 1) (by omega) (by omega)
set_option maxRecDepth 100000 in
set_option maxHeartbeats 4000000 in
theorem qX9_twos {l : zL} {I : Nat → Nat → Int32} {J : Nat → Nat → Int64} {nw : Bool} (n : Nat) (hn : n ≤ 6) (en : I 90 3 = nI n) (hR : ∀ r, r < 8 → I 87 r = -1 ∨ ∃ q, q ≤ 40 ∧ I 87 r = nI q) {x r y z : Int32} : zP l mX9_twos [.ref 85, .int x, .int r, .int y, .int z] (hh I J nw) (zPM (mTw I n x r y z) J nw) := by
  refine z_start [.ref 85, .int x, .int r, .int y, .int z, zno, zno] (by decide +kernel) (Nat.le_of_ble_eq_true rfl) rfl ?_
  refine z_iload_1 (pc := 0) dX9_twos_0 ?_
  refine z_S1 (pc := 1) dX9_twos_1 mlX9_216 kX9_isCask vX9_isCask (by decide) (by decide) (Nat.le_of_ble_eq_true rfl) (qX9_isCask) ⟨Nat.le_refl _, Nat.le_refl _⟩ (fun r h1 hq => ?_)
  obtain ⟨rfl, rfl⟩ := hq
  refine z_if_eq (pc := 4) (tgt := 27) dX9_twos_4 (by decide) (fun c4 => ?_) (fun c4 => ?_)
  · skip
    refine z_ldc (pc := 27) dX9_twos_27 kcX9_70 ?_
    refine z_ret (pc := 29) (r := some (.int _)) rfl dX9_twos_29 trivial rfl rfl ?_
    refine zPM_of ?_
    unfold mTw
    rw [if_neg (fun q => by rw [(zbb0 _).mp c4] at q; exact absurd q.1 (by decide))]
  · skip
    refine z_iload_2 (pc := 7) dX9_twos_7 ?_
    refine z_S1 (pc := 8) dX9_twos_8 mlX9_64 kX9_isRow vX9_isRow (by decide) (by decide) (Nat.le_of_ble_eq_true rfl) (qX9_isRow) ⟨Nat.le_refl _, Nat.le_refl _⟩ (fun r h1 hq => ?_)
    obtain ⟨rfl, rfl⟩ := hq
    refine z_if_eq (pc := 11) (tgt := 27) dX9_twos_11 (by decide) (fun c11 => ?_) (fun c11 => ?_)
    · skip
      refine z_ldc (pc := 27) dX9_twos_27 kcX9_70 ?_
      refine z_ret (pc := 29) (r := some (.int _)) rfl dX9_twos_29 trivial rfl rfl ?_
      refine zPM_of ?_
      unfold mTw
      rw [if_neg (fun q => by rw [(zbb0 _).mp c11] at q; exact absurd q.2.1 (by decide))]
    · skip
      refine z_iload_4 (pc := 14) dX9_twos_14 ?_
      refine z_i2l (pc := 16) dX9_twos_16 ?_
      refine z_lconst (pc := 17) 1 dX9_twos_17 rfl ?_
      refine z_ldc2 (pc := 18) dX9_twos_18 kcX9_245 ?_
      refine z_S3 (pc := 21) dX9_twos_21 mlX9_60 kX9_in vX9_in (by decide) (by decide) (Nat.le_of_ble_eq_true rfl) (qX9_in) ⟨Nat.le_refl _, Nat.le_refl _⟩ (fun r h1 hq => ?_)
      obtain ⟨rfl, rfl⟩ := hq
      refine z_if_ne (pc := 24) (tgt := 30) dX9_twos_24 (by decide) (fun c24 => ?_) (fun c24 => ?_)
      · skip
        rw [in_dec (a' := 1) (c' := 6) (by decide) (by decide)] at c24
        have hz := of_decide_eq_true ((zbb1 _).mp c24)
        obtain ⟨i, hi, rfl⟩ := zlt_nI (by decide) ((zbb1 _).mp c4)
        obtain ⟨r, hr, rfl⟩ := zlt_nI (by decide) ((zbb1 _).mp c11)
        have hcl : (nI i).toNatClampNeg = i := nI_clamp (by omega)
        have hclr : (nI r).toNatClampNeg = r := nI_clamp (by omega)
        obtain ⟨m, hm, rfl⟩ : ∃ m, (1 ≤ m ∧ m ≤ 6) ∧ z = nI m := by
          obtain ⟨m, hm, e⟩ := nI_of2 (x := z) (M := 6) (n := 6) (by decide) (fun q => hz.1 (Int32.lt_trans q (by decide))) hz.2
          refine ⟨m, ⟨?_, hm⟩, e⟩
          rcases Nat.lt_or_ge m 1 with q | q
          · exact absurd (by rw [e, show m = 0 by omega]; decide) hz.1
          · exact q
        have hclm : (nI m).toNatClampNeg = m := nI_clamp (by omega)
        have hqq : zlt (nI i) 4 = true ∧ zlt (nI r) 8 = true ∧ ¬ nI m < 1 ∧ nI m ≤ 6 := ⟨zlt_of hi (by decide), zlt_of hr (by decide), hz⟩
        refine z_aload_0 (pc := 30) dX9_twos_30 ?_
        refine y_getR (pc := 31) dX9_twos_31 flX9_22 rfl (by first | rfl | assumption) (by first | rfl | assumption) ?_
        refine z_bipush (pc := 34) (44) dX9_twos_34 rfl ?_
        refine z_iload_1 (pc := 36) dX9_twos_36 ?_
        refine z_iadd (pc := 37) dX9_twos_37 ?_
        refine y_ialdN (pc := 38) (44 + i) dX9_twos_38 (by first | rfl | assumption) (nI_add 44 i) (by omega) (by first | decide | omega) ?_
        refine z_if_ne (pc := 39) (tgt := 45) dX9_twos_39 (by decide) (fun c39 => ?_) (fun c39 => ?_)
        · skip
          refine z_aload_0 (pc := 45) dX9_twos_45 ?_
          refine y_getR (pc := 46) dX9_twos_46 flX9_13 rfl (by first | rfl | assumption) (by first | rfl | assumption) ?_
          refine z_iload_2 (pc := 49) dX9_twos_49 ?_
          refine y_ialdN (pc := 50) (r) dX9_twos_50 (by first | rfl | assumption) (rfl) (by omega) (by first | decide | omega) ?_
          refine z_if_ge (pc := 51) (tgt := 60) dX9_twos_51 (by decide) (fun c51 => ?_) (fun c51 => ?_)
          · skip
            obtain ⟨q, hq, eq⟩ : ∃ q, q ≤ 40 ∧ I 87 r = nI q := by
              rcases hR r hr with z | z
              · rw [z] at c51; exact absurd c51 (by decide)
              · exact z
            have hcq : (nI q).toNatClampNeg = q := nI_clamp (by omega)
            refine z_iload_3 (pc := 60) dX9_twos_60 ?_
            refine z_if_lt (pc := 61) (tgt := 83) dX9_twos_61 (by decide) (fun c61 => ?_) (fun c61 => ?_)
            · skip
              refine z_aload_0 (pc := 83) dX9_twos_83 ?_
              refine z_iconst (pc := 84) (2) dX9_twos_84 rfl ?_
              refine z_V1 (pc := 85) dX9_twos_85 mlX9_71 kX9_found vX9_found (by decide) (by decide) (by first | rfl | assumption) (Nat.le_of_ble_eq_true rfl) (qX9_found) ⟨Nat.le_refl _, Nat.le_refl _⟩ (fun r h1 hq => ?_)
              obtain ⟨rfl, rfl⟩ := hq
              refine z_ret (pc := 88) (r := some (.int _)) rfl dX9_twos_88 trivial rfl rfl ?_
              refine zPM_of ?_
              unfold mTw
              rw [if_pos hqq, hcl, hclr, hclm, if_neg c39, if_neg (Int32.not_lt.mpr c51), eq, hcq, if_neg (fun z => ((zhold_long hq).mp z).1 c61)]
              rfl
            · skip
              refine z_iload_3 (pc := 64) dX9_twos_64 ?_
              refine z_i2l (pc := 65) dX9_twos_65 ?_
              refine z_iconst (pc := 66) (2) dX9_twos_66 rfl ?_
              refine z_iload_4 (pc := 67) dX9_twos_67 ?_
              refine z_imul (pc := 69) dX9_twos_69 ?_
              refine z_i2l (pc := 70) dX9_twos_70 ?_
              refine z_ladd (pc := 71) dX9_twos_71 ?_
              refine z_aload_0 (pc := 72) dX9_twos_72 ?_
              refine y_getR (pc := 73) dX9_twos_73 flX9_13 rfl (by first | rfl | assumption) (by first | rfl | assumption) ?_
              refine z_iload_2 (pc := 76) dX9_twos_76 ?_
              refine y_ialdN (pc := 77) (r) dX9_twos_77 (by first | rfl | assumption) (rfl) (by omega) (by first | decide | omega) ?_
              refine z_i2l (pc := 78) dX9_twos_78 ?_
              refine z_lcmp (pc := 79) dX9_twos_79 ?_
              refine z_if_le (pc := 80) (tgt := 89) dX9_twos_80 (by decide) (fun c80 => ?_) (fun c80 => ?_)
              · skip
                refine z_iconst (pc := 89) (1) dX9_twos_89 rfl ?_
                refine z_istore_5 (pc := 90) dX9_twos_90 (by decide) rfl ?_
                refine z_iconst (pc := 92) (0) dX9_twos_92 rfl ?_
                refine z_istore_6 (pc := 93) dX9_twos_93 (by decide) rfl ?_
                have hh1 : zhold y (2 * nI m) q = true := (zhold_long hq).mpr ⟨c61, by rw [dbl]; exact nI_pos (by omega), fun z => by rw [lg_cmp_le, eq] at c80; exact Int64.not_le.mpr z c80⟩
                obtain ⟨aa, nn, rfl, hn2, han⟩ := zhold_nI hq hh1
                rw [dbl] at hn2
                have hnn : 2 * m = nn := (nI_eq (by omega) (by omega)).mp hn2
                have hca : (nI aa).toNatClampNeg = aa := nI_clamp (by omega)
                have k143 : ∀ v : Value, zW l mX9_twos SH.length (zsl SH) 143 [.ref 85, .int (nI i), .int (nI r), .int (nI aa), .int (nI m), .int (zbb (zall (fun k => zlt (I 88 (40 * r + aa + 2 * k)) n) m)), v] [] (I, J, RF nw, SH) (zPM (mTw I n (nI i) (nI r) (nI aa) (nI m)) J nw) := by
                  intro v
                  refine z_iload_5 (pc := 143) dX9_twos_143 ?_
                  refine z_if_eq (pc := 145) (tgt := 152) dX9_twos_145 (by decide) (fun c145 => ?_) (fun c145 => ?_)
                  · skip
                    refine z_ldc (pc := 152) dX9_twos_152 kcX9_70 ?_
                    refine z_ret (pc := 154) (r := some (.int _)) rfl dX9_twos_154 trivial rfl rfl ?_
                    refine zPM_of ?_
                    unfold mTw
                    rw [if_pos hqq, hcl, hclr, hclm, if_neg c39, if_neg (Int32.not_lt.mpr c51), eq, hcq, if_pos hh1, hca, if_neg (by rw [(zbb0 _).mp c145]; decide)]
                  · skip
                    refine z_iconst (pc := 148) (0) dX9_twos_148 rfl ?_
                    refine z_goto (pc := 149) (tgt := 154) dX9_twos_149 (by decide) ?_
                    refine z_ret (pc := 154) (r := some (.int _)) rfl dX9_twos_154 trivial rfl rfl ?_
                    refine zPM_of ?_
                    unfold mTw
                    rw [if_pos hqq, hcl, hclr, hclm, if_neg c39, if_neg (Int32.not_lt.mpr c51), eq, hcq, if_pos hh1, hca, if_pos ((zbb1 _).mp c145)]
                exact mtw_loop n hn en r aa m hr (by omega) k143 (m + 1) 0 (by omega) (by omega)
              · skip
                refine z_aload_0 (pc := 83) dX9_twos_83 ?_
                refine z_iconst (pc := 84) (2) dX9_twos_84 rfl ?_
                refine z_V1 (pc := 85) dX9_twos_85 mlX9_71 kX9_found vX9_found (by decide) (by decide) (by first | rfl | assumption) (Nat.le_of_ble_eq_true rfl) (qX9_found) ⟨Nat.le_refl _, Nat.le_refl _⟩ (fun r h1 hq => ?_)
                obtain ⟨rfl, rfl⟩ := hq
                refine z_ret (pc := 88) (r := some (.int _)) rfl dX9_twos_88 trivial rfl rfl ?_
                refine zPM_of ?_
                unfold mTw
                rw [if_pos hqq, hcl, hclr, hclm, if_neg c39, if_neg (Int32.not_lt.mpr c51), eq, hcq, if_neg (fun z => ((zhold_long hq).mp z).2.2 (by rw [lg_cmp_le, eq] at c80; exact Int64.not_le.mp c80))]
                rfl
          · skip
            refine z_aload_0 (pc := 54) dX9_twos_54 ?_
            refine z_iconst (pc := 55) (1) dX9_twos_55 rfl ?_
            refine z_V1 (pc := 56) dX9_twos_56 mlX9_71 kX9_found vX9_found (by decide) (by decide) (by first | rfl | assumption) (Nat.le_of_ble_eq_true rfl) (qX9_found) ⟨Nat.le_refl _, Nat.le_refl _⟩ (fun r h1 hq => ?_)
            obtain ⟨rfl, rfl⟩ := hq
            refine z_ret (pc := 59) (r := some (.int _)) rfl dX9_twos_59 trivial rfl rfl ?_
            refine zPM_of ?_
            unfold mTw
            rw [if_pos hqq, hcl, hclr, if_neg c39, if_pos (Int32.not_le.mp c51)]
            rfl
        · skip
          refine z_ldc (pc := 42) dX9_twos_42 kcX9_198 ?_
          refine z_ret (pc := 44) (r := some (.int _)) rfl dX9_twos_44 trivial rfl rfl ?_
          refine zPM_of ?_
          unfold mTw
          rw [if_pos hqq, hcl, if_pos c39]
      · skip
        refine z_ldc (pc := 27) dX9_twos_27 kcX9_70 ?_
        refine z_ret (pc := 29) (r := some (.int _)) rfl dX9_twos_29 trivial rfl rfl ?_
        refine zPM_of ?_
        unfold mTw
        rw [in_dec (a' := 1) (c' := 6) (by decide) (by decide)] at c24
        rw [if_neg (fun q => of_decide_eq_false ((zbb0 _).mp c24) q.2.2)]
