theorem sh1_bits : ∀ s, s < 1024 → ∀ k, k < 10 → ((nI s >>> (nI k &&& 31)) &&& 1 = 1 ↔ zbt s k = true) := by decide +kernel
theorem zTF_em {I I2 : Nat → Nat → Int32} (h : zTF I I2) : zEm I I2 := by
  intro x y hn
  by_cases h85 : x = 85
  · subst h85; exact h.2 y (fun q => hn (by simp [q]))
  · rw [h.1 x h85 (fun q => hn (by simp [q])) (fun q => hn (by simp [q])) (fun q => hn (by simp [q]))]
theorem zTF_next {I I1 I2 : Nat → Nat → Int32} {fs : Nat → Int32} {bl : Nat → Bool} (h : zTF I I1) (hO : zTO I1 I2 fs bl) : zTF I I2 := ⟨fun a h1 h2 h3 h4 => by rw [hO.1 a h1 h2 h3 h4, h.1 a h1 h2 h3 h4], fun q hq => by rw [hO.2.1 q hq, h.2 q hq]⟩
theorem zTF_refl (I : Nat → Nat → Int32) : zTF I I := ⟨fun _ _ _ _ _ => rfl, fun _ _ => rfl⟩
theorem zTF_90 {I I2 : Nat → Nat → Int32} (h : zTF I I2) : I2 90 = I 90 := h.1 90 (by decide) (by decide) (by decide) (by decide)
def zlst (f : Nat → Int32) : Nat → Int32
  | 0 => 0
  | k + 1 => if f k ≤ zlst f k then zlst f k else f k
theorem zlst_congr {f g : Nat → Int32} : ∀ k, (∀ d, d < k → f d = g d) → zlst f k = zlst g k
  | 0, _ => rfl
  | k + 1, h => by rw [zlst, zlst, zlst_congr k (fun d hd => h d (by omega)), h k (by omega)]
def mTell (I : Nat → Nat → Int32) (n T : Nat) (A B : Nat → Nat) (x s w : Int32) : Int32 := if zlt x 4 = true ∧ zsub s n = true ∧ ¬ s = 0 ∧ zlt w 4 = true then (if I 90 (44 + x.toNatClampNeg) = 0 then -1000002 else if w = 0 then nI (bs (zgK I 90 n T A B x.toNatClampNeg (zbt s.toNatClampNeg)).2) else if w = 1 then nI (bs (zrc (zgK I 90 n T A B x.toNatClampNeg (zbt s.toNatClampNeg)).1)) else if w = 2 then zlst (zgK I 90 n T A B x.toNatClampNeg (zbt s.toNatClampNeg)).1 6 else I 90 2 * zbc (nI (bs (zrc (zgK I 90 n T A B x.toNatClampNeg (zbt s.toNatClampNeg)).1)))) else -1000001
set_option maxRecDepth 100000 in
set_option maxHeartbeats 4000000 in
theorem mtl_loop {l : zL} {I : Nat → Nat → Int32} {J : Nat → Nat → Int64} {nw : Bool} {x s w : Int32} {Q : Option Value → zH → Prop} (hQ : ∀ v : Value, v.category = 1 → zW l mX9_telling SH.length (zsl SH) 105 [.ref 85, .int x, .int s, .int w, .int (zlst (I 98) 6), v] [] (I, J, RF nw, SH) Q) : ∀ (f k : Nat), k ≤ 6 → 6 - k < f →
    zW l mX9_telling SH.length (zsl SH) 66 [.ref 85, .int x, .int s, .int w, .int (zlst (I 98) k), .int (nI k)] [] (I, J, RF nw, SH) Q
  | 0, k, _, hf => by omega
  | f + 1, k, hk, hf => by
    refine z_iload_5 (pc := 66) dX9_telling_66 ?_
    refine z_bipush (pc := 68) (6) dX9_telling_68 rfl ?_
    refine z_icmp_ge (pc := 70) (tgt := 105) dX9_telling_70 (by decide) (fun c70 => ?_) (fun c70 => ?_)
    · skip
      have hkn : k = 6 := by
        rcases Nat.lt_or_ge k 6 with q | q
        · exact absurd c70 (nI_ge (b := 6) q (by omega))
        · omega
      rw [hkn]
      exact hQ _ rfl
    · skip
      have hlt : k < 6 := by
        rcases Nat.lt_or_ge k 6 with q | q
        · exact q
        · exact absurd (nI_le (a := 6) q (by omega)) c70
      refine z_aload_0 (pc := 73) dX9_telling_73 ?_
      refine y_getR (pc := 74) dX9_telling_74 flX9_47 rfl (by first | rfl | assumption) (by first | rfl | assumption) ?_
      refine z_iload_5 (pc := 77) dX9_telling_77 ?_
      refine y_ialdN (pc := 79) (k) dX9_telling_79 (by first | rfl | assumption) (rfl) (by omega) (by first | decide | omega) ?_
      refine z_iload_4 (pc := 80) dX9_telling_80 ?_
      refine z_icmp_le (pc := 82) (tgt := 95) dX9_telling_82 (by decide) (fun c82 => ?_) (fun c82 => ?_)
      · skip
        refine z_iload_4 (pc := 95) dX9_telling_95 ?_
        refine z_istore_4 (pc := 97) dX9_telling_97 (by decide) rfl ?_
        refine z_iinc_5 (pc := 99) (1) dX9_telling_99 rfl (by decide) rfl ?_
        refine z_goto (pc := 102) (tgt := 66) dX9_telling_102 (by decide) ?_
        rw [← nI_succ]
        have kk := mtl_loop hQ f (k + 1) (by omega) (by omega)
        rw [zlst, if_pos c82] at kk
        exact kk
      · skip
        refine z_aload_0 (pc := 85) dX9_telling_85 ?_
        refine y_getR (pc := 86) dX9_telling_86 flX9_47 rfl (by first | rfl | assumption) (by first | rfl | assumption) ?_
        refine z_iload_5 (pc := 89) dX9_telling_89 ?_
        refine y_ialdN (pc := 91) (k) dX9_telling_91 (by first | rfl | assumption) (rfl) (by omega) (by first | decide | omega) ?_
        refine z_goto (pc := 92) (tgt := 97) dX9_telling_92 (by decide) ?_
        refine z_istore_4 (pc := 97) dX9_telling_97 (by decide) rfl ?_
        refine z_iinc_5 (pc := 99) (1) dX9_telling_99 rfl (by decide) rfl ?_
        refine z_goto (pc := 102) (tgt := 66) dX9_telling_102 (by decide) ?_
        rw [← nI_succ]
        have kk := mtl_loop hQ f (k + 1) (by omega) (by omega)
        rw [zlst, if_neg c82] at kk
        exact kk
set_option maxRecDepth 100000 in
set_option maxHeartbeats 4000000 in
theorem qX9_telling {l : zL} {I : Nat → Nat → Int32} {J : Nat → Nat → Int64} {nw : Bool} (n T : Nat) (A B : Nat → Nat) (ht : zRT I 90 n T A B) (hs : ∀ i, i < 4 → -1000 < zst (I 90 0) (I 90 1) (I 90 (52 + i)) (I 90 (56 + i))) {x s w : Int32} : zP l mX9_telling [.ref 85, .int x, .int s, .int w] (hh I J nw) (zPMe (mTell I n T A B x s w, I) J nw) := by
  have hn6 := ht.1
  refine z_start [.ref 85, .int x, .int s, .int w, zno, zno] (by decide +kernel) (Nat.le_of_ble_eq_true rfl) rfl ?_
  refine z_iload_1 (pc := 0) dX9_telling_0 ?_
  refine z_S1 (pc := 1) dX9_telling_1 mlX9_216 kX9_isCask vX9_isCask (by decide) (by decide) (Nat.le_of_ble_eq_true rfl) (qX9_isCask) ⟨Nat.le_refl _, Nat.le_refl _⟩ (fun r h1 hq => ?_)
  obtain ⟨rfl, rfl⟩ := hq
  refine z_if_eq (pc := 4) (tgt := 31) dX9_telling_4 (by decide) (fun c4 => ?_) (fun c4 => ?_)
  · skip
    refine z_ldc (pc := 31) dX9_telling_31 kcX9_70 ?_
    refine z_ret (pc := 33) (r := some (.int _)) rfl dX9_telling_33 trivial rfl rfl ?_
    refine zPMe_of (Prod.ext ?_ rfl)
    show mTell _ _ _ _ _ _ _ _ = _
    unfold mTell
    rw [if_neg (fun q => by rw [(zbb0 _).mp c4] at q; exact absurd q.1 (by decide))]
  · skip
    refine z_aload_0 (pc := 7) dX9_telling_7 ?_
    refine z_iload_2 (pc := 8) dX9_telling_8 ?_
    refine z_V1 (pc := 9) dX9_telling_9 mlX9_232 kX9_areDrinkers vX9_areDrinkers (by decide) (by decide) (by first | rfl | assumption) (Nat.le_of_ble_eq_true rfl) (qX9_areDrinkers n hn6 ht.2.1) ⟨Nat.le_refl _, Nat.le_refl _⟩ (fun r h1 hq => ?_)
    obtain ⟨rfl, rfl⟩ := hq
    refine z_if_eq (pc := 12) (tgt := 31) dX9_telling_12 (by decide) (fun c12 => ?_) (fun c12 => ?_)
    · skip
      refine z_ldc (pc := 31) dX9_telling_31 kcX9_70 ?_
      refine z_ret (pc := 33) (r := some (.int _)) rfl dX9_telling_33 trivial rfl rfl ?_
      refine zPMe_of (Prod.ext ?_ rfl)
      show mTell _ _ _ _ _ _ _ _ = _
      unfold mTell
      rw [if_neg (fun q => by rw [(zbb0 _).mp c12] at q; exact absurd q.2.1 (by decide))]
    · skip
      refine z_iload_2 (pc := 15) dX9_telling_15 ?_
      refine z_if_eq (pc := 16) (tgt := 31) dX9_telling_16 (by decide) (fun c16 => ?_) (fun c16 => ?_)
      · skip
        refine z_ldc (pc := 31) dX9_telling_31 kcX9_70 ?_
        refine z_ret (pc := 33) (r := some (.int _)) rfl dX9_telling_33 trivial rfl rfl ?_
        refine zPMe_of (Prod.ext ?_ rfl)
        show mTell _ _ _ _ _ _ _ _ = _
        unfold mTell
        rw [if_neg (fun q => q.2.2.1 c16)]
      · skip
        refine z_iload_3 (pc := 19) dX9_telling_19 ?_
        refine z_i2l (pc := 20) dX9_telling_20 ?_
        refine z_lconst (pc := 21) 0 dX9_telling_21 rfl ?_
        refine z_ldc2 (pc := 22) dX9_telling_22 kcX9_154 ?_
        refine z_S3 (pc := 25) dX9_telling_25 mlX9_60 kX9_in vX9_in (by decide) (by decide) (Nat.le_of_ble_eq_true rfl) (qX9_in) ⟨Nat.le_refl _, Nat.le_refl _⟩ (fun r h1 hq => ?_)
        obtain ⟨rfl, rfl⟩ := hq
        refine z_if_ne (pc := 28) (tgt := 34) dX9_telling_28 (by decide) (fun c28 => ?_) (fun c28 => ?_)
        · skip
          rw [in_zlt (m := 4) (by decide)] at c28
          have hw4 := (zbb1 _).mp c28
          have hss := (zbb1 _).mp c12
          obtain ⟨i, hi, rfl⟩ := zlt_nI (by decide) ((zbb1 _).mp c4)
          have hcl : (nI i).toNatClampNeg = i := nI_clamp (by omega)
          obtain ⟨sv, hsv, rfl⟩ := zlt_nI (n := 2 ^ n) (by have := pow6 n hn6; omega) hss
          have hsv6 := pow6 n hn6
          have hcl2 : (nI sv).toNatClampNeg = sv := nI_clamp (by omega)
          have hqq : zlt (nI i) 4 = true ∧ zsub (nI sv) n = true ∧ ¬ nI sv = 0 ∧ zlt w 4 = true := ⟨zlt_of hi (by decide), hss, c16, hw4⟩
          refine z_aload_0 (pc := 34) dX9_telling_34 ?_
          refine y_getR (pc := 35) dX9_telling_35 flX9_22 rfl (by first | rfl | assumption) (by first | rfl | assumption) ?_
          refine z_bipush (pc := 38) (44) dX9_telling_38 rfl ?_
          refine z_iload_1 (pc := 40) dX9_telling_40 ?_
          refine z_iadd (pc := 41) dX9_telling_41 ?_
          refine y_ialdN (pc := 42) (44 + i) dX9_telling_42 (by first | rfl | assumption) (nI_add 44 i) (by omega) (by first | decide | omega) ?_
          refine z_if_ne (pc := 43) (tgt := 49) dX9_telling_43 (by decide) (fun c43 => ?_) (fun c43 => ?_)
          · skip
            refine z_aload_0 (pc := 49) dX9_telling_49 ?_
            refine z_aload_0 (pc := 50) dX9_telling_50 ?_
            refine y_getR (pc := 51) dX9_telling_51 flX9_22 rfl (by first | rfl | assumption) (by first | rfl | assumption) ?_
            refine z_iload_1 (pc := 54) dX9_telling_54 ?_
            refine z_iload_2 (pc := 55) dX9_telling_55 ?_
            refine z_iconst (pc := 56) (0) dX9_telling_56 rfl ?_
            refine z_V4 (pc := 57) dX9_telling_57 mlX9_191 kX9_tellsCask vX9_tellsCask (by decide) (by decide) (by first | rfl | assumption) (Nat.le_of_ble_eq_true rfl) (qX9_tellsCask 90 rfl (by decide) n T A B ht (fun _ => false) no_bit (zbt sv) (fun k hk => sh1_bits sv (by omega) k (by omega)) i rfl hi (hs i hi)) ⟨Nat.le_refl _, Nat.le_refl _⟩ (fun r h1 hq => ?_)
            obtain ⟨rfl, I2, rfl, hO⟩ := hq
            have ehr : bs (zrc (zgK I 90 n T A B i (zbt sv)).1) = bs (zrc (I2 98)) := bs_congr (fun d hd => by unfold zrc; rw [hO.2.2.2 d hd]; rfl)
            have ehl : zlst (zgK I 90 n T A B i (zbt sv)).1 6 = zlst (I2 98) 6 := zlst_congr 6 (fun d hd => (hO.2.2.2 d hd).symm)
            refine z_iconst (pc := 60) (0) dX9_telling_60 rfl ?_
            refine z_istore_4 (pc := 61) dX9_telling_61 (by decide) rfl ?_
            refine z_iconst (pc := 63) (0) dX9_telling_63 rfl ?_
            refine z_istore_5 (pc := 64) dX9_telling_64 (by decide) rfl ?_
            have k105 : ∀ v : Value, v.category = 1 → zW l mX9_telling SH.length (zsl SH) 105 [.ref 85, .int (nI i), .int (nI sv), .int w, .int (zlst (I2 98) 6), v] [] (I2, J, RF nw, SH) (zPMe (mTell I n T A B (nI i) (nI sv) w, I) J nw) := by
              intro v hv
              refine z_iload_3 (pc := 105) dX9_telling_105 ?_
              refine z_if_ne (pc := 106) (tgt := 116) dX9_telling_106 (by decide) (fun c106 => ?_) (fun c106 => ?_)
              · skip
                refine z_iload_3 (pc := 116) dX9_telling_116 ?_
                refine z_iconst (pc := 117) (1) dX9_telling_117 rfl ?_
                refine z_icmp_ne (pc := 118) (tgt := 128) dX9_telling_118 (by decide) (fun c118 => ?_) (fun c118 => ?_)
                · skip
                  refine z_iload_3 (pc := 128) dX9_telling_128 ?_
                  refine z_iconst (pc := 129) (2) dX9_telling_129 rfl ?_
                  refine z_icmp_ne (pc := 130) (tgt := 138) dX9_telling_130 (by decide) (fun c130 => ?_) (fun c130 => ?_)
                  · skip
                    refine z_aload_0 (pc := 138) dX9_telling_138 ?_
                    refine y_getR (pc := 139) dX9_telling_139 flX9_22 rfl (by first | rfl | assumption) (by first | rfl | assumption) ?_
                    refine z_iconst (pc := 142) (2) dX9_telling_142 rfl ?_
                    refine y_ialdN (pc := 143) (2) dX9_telling_143 (by first | rfl | assumption) (rfl) (by decide) (by first | decide | omega) ?_
                    refine z_aload_0 (pc := 144) dX9_telling_144 ?_
                    refine z_V0 (pc := 145) dX9_telling_145 mlX9_235 kX9_reached vX9_reached (by decide) (by decide) (by first | rfl | assumption) (Nat.le_of_ble_eq_true rfl) (qX9_reached) ⟨Nat.le_refl _, Nat.le_refl _⟩ (fun r h1 hq => ?_)
                    obtain ⟨rfl, rfl⟩ := hq
                    refine z_S1 (pc := 148) dX9_telling_148 mlX9_239 kX9_bits vX9_bits (by decide) (by decide) (Nat.le_of_ble_eq_true rfl) (qX9_bits _ (Nat.lt_trans (bs_lt _) (by decide)) rfl) ⟨Nat.le_refl _, Nat.le_refl _⟩ (fun r h1 hq => ?_)
                    obtain ⟨rfl, rfl⟩ := hq
                    refine z_imul (pc := 151) dX9_telling_151 ?_
                    refine z_ret (pc := 152) (r := some (.int _)) rfl dX9_telling_152 trivial rfl rfl ?_
                    refine ⟨?_, I2, rfl, zTO_em hO⟩
                    show some (Value.int _) = some (Value.int (mTell _ _ _ _ _ _ _ _))
                    unfold mTell
                    rw [if_pos hqq, hcl, hcl2, if_neg c43, if_neg c106, if_neg c118, if_neg c130, ehr, hO.1 90 (by decide) (by decide) (by decide) (by decide)]
                    try rfl
                  · skip
                    refine z_iload_4 (pc := 133) dX9_telling_133 ?_
                    refine z_goto (pc := 135) (tgt := 152) dX9_telling_135 (by decide) ?_
                    refine z_ret (pc := 152) (r := some (.int _)) rfl dX9_telling_152 trivial rfl rfl ?_
                    refine ⟨?_, I2, rfl, zTO_em hO⟩
                    show some (Value.int _) = some (Value.int (mTell _ _ _ _ _ _ _ _))
                    unfold mTell
                    rw [if_pos hqq, hcl, hcl2, if_neg c43, if_neg c106, if_neg c118, if_pos c130, ehl]
                    try rfl
                · skip
                  refine z_aload_0 (pc := 121) dX9_telling_121 ?_
                  refine z_V0 (pc := 122) dX9_telling_122 mlX9_235 kX9_reached vX9_reached (by decide) (by decide) (by first | rfl | assumption) (Nat.le_of_ble_eq_true rfl) (qX9_reached) ⟨Nat.le_refl _, Nat.le_refl _⟩ (fun r h1 hq => ?_)
                  obtain ⟨rfl, rfl⟩ := hq
                  refine z_goto (pc := 125) (tgt := 152) dX9_telling_125 (by decide) ?_
                  refine z_ret (pc := 152) (r := some (.int _)) rfl dX9_telling_152 trivial rfl rfl ?_
                  refine ⟨?_, I2, rfl, zTO_em hO⟩
                  show some (Value.int _) = some (Value.int (mTell _ _ _ _ _ _ _ _))
                  unfold mTell
                  rw [if_pos hqq, hcl, hcl2, if_neg c43, if_neg c106, if_pos c118, ehr]
                  try rfl
              · skip
                refine z_aload_0 (pc := 109) dX9_telling_109 ?_
                refine y_getI (pc := 110) dX9_telling_110 flX9_168 rfl (by first | rfl | assumption) ?_
                refine z_goto (pc := 113) (tgt := 152) dX9_telling_113 (by decide) ?_
                refine z_ret (pc := 152) (r := some (.int _)) rfl dX9_telling_152 trivial rfl rfl ?_
                refine ⟨?_, I2, rfl, zTO_em hO⟩
                show some (Value.int _) = some (Value.int (mTell _ _ _ _ _ _ _ _))
                unfold mTell
                rw [if_pos hqq, hcl, hcl2, if_neg c43, if_pos c106, hO.2.2.1]
                try rfl
            exact mtl_loop k105 7 0 (by omega) (by omega)
          · skip
            refine z_ldc (pc := 46) dX9_telling_46 kcX9_198 ?_
            refine z_ret (pc := 48) (r := some (.int _)) rfl dX9_telling_48 trivial rfl rfl ?_
            refine zPMe_of (Prod.ext ?_ rfl)
            show mTell _ _ _ _ _ _ _ _ = _
            unfold mTell
            rw [if_pos hqq, hcl, if_pos c43]
        · skip
          refine z_ldc (pc := 31) dX9_telling_31 kcX9_70 ?_
          refine z_ret (pc := 33) (r := some (.int _)) rfl dX9_telling_33 trivial rfl rfl ?_
          refine zPMe_of (Prod.ext ?_ rfl)
          show mTell _ _ _ _ _ _ _ _ = _
          unfold mTell
          rw [in_zlt (m := 4) (by decide)] at c28
          rw [if_neg (fun q => by rw [(zbb0 _).mp c28] at q; exact absurd q.2.2.2 (by decide))]
def mBest (I : Nat → Nat → Int32) (n T : Nat) (A B : Nat → Nat) (x w : Int32) : Int32 := if zlt x 4 = true ∧ zlt w 2 = true then (if I 90 (44 + x.toNatClampNeg) = 0 then -1000002 else if w = 0 then (zbest (fun d => zbc (nI (bs (zgK I 90 n T A B x.toNatClampNeg (fun e => e == d)).2))) n).1 else (zbest (fun d => zbc (nI (bs (zgK I 90 n T A B x.toNatClampNeg (fun e => e == d)).2))) n).2) else -1000001
set_option maxRecDepth 100000 in
set_option maxHeartbeats 4000000 in
theorem mbest_loop {l : zL} {I : Nat → Nat → Int32} {J : Nat → Nat → Int64} {nw : Bool} (n T : Nat) (A B : Nat → Nat) (ht : zRT I 90 n T A B) (i : Nat) (hi : i < 4) (hs : -1000 < zst (I 90 0) (I 90 1) (I 90 (52 + i)) (I 90 (56 + i))) {w : Int32} {Q : Option Value → zH → Prop} (hQ : ∀ (I2 : Nat → Nat → Int32) (v5 v6 : Value), zTF I I2 → zW l mX9_best SH.length (zsl SH) 110 [.ref 85, .int (nI i), .int w, .int (zbest (fun d => zbc (nI (bs (zgK I 90 n T A B i (fun e => e == d)).2))) n).1, .int (zbest (fun d => zbc (nI (bs (zgK I 90 n T A B i (fun e => e == d)).2))) n).2, v5, v6] [] (I2, J, RF nw, SH) Q) : ∀ (f k : Nat) (I1 : Nat → Nat → Int32) (v6 : Value), v6.category = 1 → zTF I I1 → k ≤ n → n - k < f →
    zW l mX9_best SH.length (zsl SH) 40 [.ref 85, .int (nI i), .int w, .int (zbest (fun d => zbc (nI (bs (zgK I 90 n T A B i (fun e => e == d)).2))) k).1, .int (zbest (fun d => zbc (nI (bs (zgK I 90 n T A B i (fun e => e == d)).2))) k).2, .int (nI k), v6] [] (I1, J, RF nw, SH) Q
  | 0, k, _, _, _, _, _, hf => by omega
  | f + 1, k, I1, v6, hv6, hF, hk, hf => by
    have hn6 := ht.1
    have e90 := zTF_90 hF
    have en : I1 90 3 = nI n := by rw [e90]; exact ht.2.1
    refine z_iload_5 (pc := 40) dX9_best_40 ?_
    refine z_aload_0 (pc := 42) dX9_best_42 ?_
    refine y_getR (pc := 43) dX9_best_43 flX9_22 rfl (by first | rfl | assumption) (by first | rfl | assumption) ?_
    refine z_iconst (pc := 46) (3) dX9_best_46 rfl ?_
    refine y_ialdN (pc := 47) (3) dX9_best_47 (by first | rfl | assumption) (rfl) (by decide) (by first | decide | omega) ?_
    refine z_icmp_ge (pc := 48) (tgt := 110) dX9_best_48 (by decide) (fun c48 => ?_) (fun c48 => ?_)
    · skip
      rw [en] at c48
      have hkn : k = n := by
        rcases Nat.lt_or_ge k n with q | q
        · exact absurd c48 (nI_ge (b := n) q (by omega))
        · omega
      rw [hkn]
      exact hQ _ _ _ hF
    · skip
      rw [en] at c48
      have hlt : k < n := by
        rcases Nat.lt_or_ge k n with q | q
        · exact q
        · exact absurd (nI_le (a := n) q (by omega)) c48
      refine z_aload_0 (pc := 51) dX9_best_51 ?_
      refine z_aload_0 (pc := 52) dX9_best_52 ?_
      refine y_getR (pc := 53) dX9_best_53 flX9_22 rfl (by first | rfl | assumption) (by first | rfl | assumption) ?_
      refine z_iload_1 (pc := 56) dX9_best_56 ?_
      refine z_iconst (pc := 57) (1) dX9_best_57 rfl ?_
      refine z_iload_5 (pc := 58) dX9_best_58 ?_
      refine z_ishl (pc := 60) dX9_best_60 ?_
      refine z_iconst (pc := 61) (0) dX9_best_61 rfl ?_
      refine z_V4 (pc := 62) dX9_best_62 mlX9_191 kX9_tellsCask vX9_tellsCask (by decide) (by decide) (by first | rfl | assumption) (Nat.le_of_ble_eq_true rfl) (qX9_tellsCask 90 rfl (by decide) n T A B (ht.keep e90) (fun _ => false) no_bit (fun e => e == k) (one_bit k (by omega)) i rfl hi (by rw [e90]; exact hs)) ⟨Nat.le_refl _, Nat.le_refl _⟩ (fun r h1 hq => ?_)
      obtain ⟨rfl, I2, rfl, hO⟩ := hq
      rw [zmT_keep e90, e90] at hO
      refine z_aload_0 (pc := 65) dX9_best_65 ?_
      refine y_getI (pc := 66) dX9_best_66 flX9_168 rfl (by first | rfl | assumption) ?_
      refine z_S1 (pc := 69) dX9_best_69 mlX9_239 kX9_bits vX9_bits (by decide) (by decide) (Nat.le_of_ble_eq_true rfl) (qX9_bits _ (Nat.lt_trans (bs_lt _) (by decide)) hO.2.2.1) ⟨Nat.le_refl _, Nat.le_refl _⟩ (fun r h1 hq => ?_)
      obtain ⟨rfl, rfl⟩ := hq
      rw [hO.2.2.1, show zgo (zmT I 90 n T A B (fun _ => false) (I 90 (48 + i))) (fun e => e == k) (zst (I 90 0) (I 90 1) (I 90 (52 + i)) (I 90 (56 + i))) = zgK I 90 n T A B i (fun e => e == k) from rfl]
      refine z_istore_6 (pc := 72) dX9_best_72 (by decide) rfl ?_
      refine z_iload_6 (pc := 74) dX9_best_74 ?_
      refine z_iload_4 (pc := 76) dX9_best_76 ?_
      refine z_icmp_le (pc := 78) (tgt := 86) dX9_best_78 (by decide) (fun c78 => ?_) (fun c78 => ?_)
      · skip
        refine z_iload_3 (pc := 86) dX9_best_86 ?_
        refine z_istore_3 (pc := 87) dX9_best_87 (by decide) rfl ?_
        refine z_iload_6 (pc := 88) dX9_best_88 ?_
        refine z_iload_4 (pc := 90) dX9_best_90 ?_
        refine z_icmp_le (pc := 92) (tgt := 100) dX9_best_92 (by decide) (fun c92 => ?_) (fun c92 => ?_)
        · skip
          refine z_iload_4 (pc := 100) dX9_best_100 ?_
          refine z_istore_4 (pc := 102) dX9_best_102 (by decide) rfl ?_
          refine z_iinc_5 (pc := 104) (1) dX9_best_104 rfl (by decide) rfl ?_
          refine z_goto (pc := 107) (tgt := 40) dX9_best_107 (by decide) ?_
          rw [← nI_succ]
          have kk := mbest_loop n T A B ht i hi hs hQ f (k + 1) I2 (.int (zbc (nI (bs (zgK I 90 n T A B i (fun e => e == k)).2)))) rfl (zTF_next hF hO) (by omega) (by omega)
          rw [zbest, if_neg (Int32.not_lt.mpr c78)] at kk
          exact kk
        · exact absurd c78 c92
      · skip
        refine z_iload_5 (pc := 81) dX9_best_81 ?_
        refine z_goto (pc := 83) (tgt := 87) dX9_best_83 (by decide) ?_
        refine z_istore_3 (pc := 87) dX9_best_87 (by decide) rfl ?_
        refine z_iload_6 (pc := 88) dX9_best_88 ?_
        refine z_iload_4 (pc := 90) dX9_best_90 ?_
        refine z_icmp_le (pc := 92) (tgt := 100) dX9_best_92 (by decide) (fun c92 => ?_) (fun c92 => ?_)
        · exact absurd c92 c78
        · skip
          refine z_iload_6 (pc := 95) dX9_best_95 ?_
          refine z_goto (pc := 97) (tgt := 102) dX9_best_97 (by decide) ?_
          refine z_istore_4 (pc := 102) dX9_best_102 (by decide) rfl ?_
          refine z_iinc_5 (pc := 104) (1) dX9_best_104 rfl (by decide) rfl ?_
          refine z_goto (pc := 107) (tgt := 40) dX9_best_107 (by decide) ?_
          rw [← nI_succ]
          have kk := mbest_loop n T A B ht i hi hs hQ f (k + 1) I2 (.int (zbc (nI (bs (zgK I 90 n T A B i (fun e => e == k)).2)))) rfl (zTF_next hF hO) (by omega) (by omega)
          rw [zbest, if_pos (Int32.not_le.mp c78)] at kk
          exact kk
set_option maxRecDepth 100000 in
set_option maxHeartbeats 4000000 in
theorem qX9_best {l : zL} {I : Nat → Nat → Int32} {J : Nat → Nat → Int64} {nw : Bool} (n T : Nat) (A B : Nat → Nat) (ht : zRT I 90 n T A B) (hs : ∀ i, i < 4 → -1000 < zst (I 90 0) (I 90 1) (I 90 (52 + i)) (I 90 (56 + i))) {x w : Int32} : zP l mX9_best [.ref 85, .int x, .int w] (hh I J nw) (zPMe (mBest I n T A B x w, I) J nw) := by
  refine z_start [.ref 85, .int x, .int w, zno, zno, zno, zno] (by decide +kernel) (Nat.le_of_ble_eq_true rfl) rfl ?_
  refine z_iload_1 (pc := 0) dX9_best_0 ?_
  refine z_S1 (pc := 1) dX9_best_1 mlX9_216 kX9_isCask vX9_isCask (by decide) (by decide) (Nat.le_of_ble_eq_true rfl) (qX9_isCask) ⟨Nat.le_refl _, Nat.le_refl _⟩ (fun r h1 hq => ?_)
  obtain ⟨rfl, rfl⟩ := hq
  refine z_if_eq (pc := 4) (tgt := 14) dX9_best_4 (by decide) (fun c4 => ?_) (fun c4 => ?_)
  · skip
    refine z_ldc (pc := 14) dX9_best_14 kcX9_70 ?_
    refine z_ret (pc := 16) (r := some (.int _)) rfl dX9_best_16 trivial rfl rfl ?_
    refine zPMe_of (Prod.ext ?_ rfl)
    show mBest _ _ _ _ _ _ _ = _
    unfold mBest
    rw [if_neg (fun q => by rw [(zbb0 _).mp c4] at q; exact absurd q.1 (by decide))]
  · skip
    refine z_iload_2 (pc := 7) dX9_best_7 ?_
    refine z_S1 (pc := 8) dX9_best_8 mlX9_242 kX9_isTwo vX9_isTwo (by decide) (by decide) (Nat.le_of_ble_eq_true rfl) (qX9_isTwo) ⟨Nat.le_refl _, Nat.le_refl _⟩ (fun r h1 hq => ?_)
    obtain ⟨rfl, rfl⟩ := hq
    refine z_if_ne (pc := 11) (tgt := 17) dX9_best_11 (by decide) (fun c11 => ?_) (fun c11 => ?_)
    · skip
      obtain ⟨i, hi, rfl⟩ := zlt_nI (by decide) ((zbb1 _).mp c4)
      have hcl : (nI i).toNatClampNeg = i := nI_clamp (by omega)
      have hqq : zlt (nI i) 4 = true ∧ zlt w 2 = true := ⟨zlt_of hi (by decide), (zbb1 _).mp c11⟩
      refine z_aload_0 (pc := 17) dX9_best_17 ?_
      refine y_getR (pc := 18) dX9_best_18 flX9_22 rfl (by first | rfl | assumption) (by first | rfl | assumption) ?_
      refine z_bipush (pc := 21) (44) dX9_best_21 rfl ?_
      refine z_iload_1 (pc := 23) dX9_best_23 ?_
      refine z_iadd (pc := 24) dX9_best_24 ?_
      refine y_ialdN (pc := 25) (44 + i) dX9_best_25 (by first | rfl | assumption) (nI_add 44 i) (by omega) (by first | decide | omega) ?_
      refine z_if_ne (pc := 26) (tgt := 32) dX9_best_26 (by decide) (fun c26 => ?_) (fun c26 => ?_)
      · skip
        refine z_iconst (pc := 32) (0) dX9_best_32 rfl ?_
        refine z_istore_3 (pc := 33) dX9_best_33 (by decide) rfl ?_
        refine z_iconst (pc := 34) (-1) dX9_best_34 rfl ?_
        refine z_istore_4 (pc := 35) dX9_best_35 (by decide) rfl ?_
        refine z_iconst (pc := 37) (0) dX9_best_37 rfl ?_
        refine z_istore_5 (pc := 38) dX9_best_38 (by decide) rfl ?_
        have k110 : ∀ (I2 : Nat → Nat → Int32) (v5 v6 : Value), zTF I I2 → zW l mX9_best SH.length (zsl SH) 110 [.ref 85, .int (nI i), .int w, .int (zbest (fun d => zbc (nI (bs (zgK I 90 n T A B i (fun e => e == d)).2))) n).1, .int (zbest (fun d => zbc (nI (bs (zgK I 90 n T A B i (fun e => e == d)).2))) n).2, v5, v6] [] (I2, J, RF nw, SH) (zPMe (mBest I n T A B (nI i) w, I) J nw) := by
          intro I2 v5 v6 hF
          refine z_iload_2 (pc := 110) dX9_best_110 ?_
          refine z_if_ne (pc := 111) (tgt := 118) dX9_best_111 (by decide) (fun c111 => ?_) (fun c111 => ?_)
          · skip
            refine z_iload_4 (pc := 118) dX9_best_118 ?_
            refine z_ret (pc := 120) (r := some (.int _)) rfl dX9_best_120 trivial rfl rfl ?_
            refine ⟨?_, I2, rfl, zTF_em hF⟩
            show some (Value.int _) = some (Value.int (mBest _ _ _ _ _ _ _))
            unfold mBest
            rw [if_pos hqq, hcl, if_neg c26, if_neg c111]
          · skip
            refine z_iload_3 (pc := 114) dX9_best_114 ?_
            refine z_goto (pc := 115) (tgt := 120) dX9_best_115 (by decide) ?_
            refine z_ret (pc := 120) (r := some (.int _)) rfl dX9_best_120 trivial rfl rfl ?_
            refine ⟨?_, I2, rfl, zTF_em hF⟩
            show some (Value.int _) = some (Value.int (mBest _ _ _ _ _ _ _))
            unfold mBest
            rw [if_pos hqq, hcl, if_neg c26, if_pos c111]
        exact mbest_loop n T A B ht i hi (hs i hi) k110 (n + 1) 0 I zno rfl (zTF_refl I) (by omega) (by omega)
      · skip
        refine z_ldc (pc := 29) dX9_best_29 kcX9_198 ?_
        refine z_ret (pc := 31) (r := some (.int _)) rfl dX9_best_31 trivial rfl rfl ?_
        refine zPMe_of (Prod.ext ?_ rfl)
        show mBest _ _ _ _ _ _ _ = _
        unfold mBest
        rw [if_pos hqq, hcl, if_pos c26]
    · skip
      refine z_ldc (pc := 14) dX9_best_14 kcX9_70 ?_
      refine z_ret (pc := 16) (r := some (.int _)) rfl dX9_best_16 trivial rfl rfl ?_
      refine zPMe_of (Prod.ext ?_ rfl)
      show mBest _ _ _ _ _ _ _ = _
      unfold mBest
      rw [if_neg (fun q => by rw [(zbb0 _).mp c11] at q; exact absurd q.2 (by decide))]
