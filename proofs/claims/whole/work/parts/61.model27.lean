theorem zfew_in (ok : Nat → Bool) : ∀ s, zfew ok s = -1000000 ∨ ∃ q, q < s ∧ zfew ok s = nI q
  | 0 => Or.inl rfl
  | s + 1 => by
    rw [zfew]
    by_cases h : (zfew ok s = -1000000 ∨ zbc (nI s) < zbc (zfew ok s)) ∧ ok s = true
    · rw [if_pos h]; exact Or.inr ⟨s, by omega, rfl⟩
    · rw [if_neg h]
      rcases zfew_in ok s with z | ⟨q, hq, e⟩
      · exact Or.inl z
      · exact Or.inr ⟨q, by omega, e⟩
theorem nzrc (fs : Nat → Int32) (d : Nat) : (!zrc fs d) = true ↔ fs d < 0 := by unfold zrc; simp
def zokF (I : Nat → Nat → Int32) (n T : Nat) (A B : Nat → Nat) (i : Nat) (a b : Int32) (s : Nat) : Bool := decide (nI (bs (zgK I 90 n T A B i (zbt s)).2) &&& a = a ∧ nI (bs (zgK I 90 n T A B i (zbt s)).2) &&& b = 0)
def zgW (I : Nat → Nat → Int32) (n T : Nat) (A B : Nat → Nat) (i : Nat) (w sm : Nat → Bool) : (Nat → Int32) × (Nat → Bool) := zgo (zmT I 90 n T A B w (I 90 (48 + i))) sm (zst (I 90 0) (I 90 1) (I 90 (52 + i)) (I 90 (56 + i)))
def zokS (I : Nat → Nat → Int32) (n T : Nat) (A B : Nat → Nat) (i a b s : Nat) : Bool := !zrc (zgW I n T A B i (zbt s) (fun e => e == a)).1 b
def mFew (I : Nat → Nat → Int32) (n T : Nat) (A B : Nat → Nat) (x a b w : Int32) : Int32 := if zlt x 4 = true ∧ zsub a n = true ∧ zsub b n = true ∧ a &&& b = 0 ∧ zlt w 2 = true then (if I 90 (44 + x.toNatClampNeg) = 0 then -1000002 else zcs (if a = 0 then 0 else zfew (zokF I n T A B x.toNatClampNeg a b) (2 ^ n)) w) else -1000001
def mSil (I : Nat → Nat → Int32) (n T : Nat) (A B : Nat → Nat) (x a b w : Int32) : Int32 := if zlt x 4 = true ∧ zlt a n = true ∧ zlt b n = true ∧ ¬ a = b ∧ zlt w 2 = true then (if I 90 (44 + x.toNatClampNeg) = 0 then -1000002 else zcs (zfew (zokS I n T A B x.toNatClampNeg a.toNatClampNeg b.toNatClampNeg) (2 ^ T)) w) else -1000001
theorem zgo_none (t : zTn) (s : Int32) : (zgo t (zbt 0) s).2 = fun _ => false := by
  unfold zgo
  rw [zit_done (fun d hd => by unfold zc0 zbt; rw [Nat.zero_testBit, if_neg (by decide)])]
theorem zfew_one {I : Nat → Nat → Int32} {n T : Nat} {A B : Nat → Nat} {i : Nat} {a b : Int32} (ha : ¬ a = 0) : zfew (zokF I n T A B i a b) 1 = -1000000 := by
  rw [zfew, if_neg]
  · rfl
  · intro q
    have h := (of_decide_eq_true q.2).1
    unfold zgK at h
    rw [zgo_none] at h
    exact ha (h.symm.trans (by rw [show nI (bs fun _ => false) = 0 from rfl]; exact Int32.zero_and))
set_option maxRecDepth 100000 in
set_option maxHeartbeats 4000000 in
theorem mfew_loop {l : zL} {I : Nat → Nat → Int32} {J : Nat → Nat → Int64} {nw : Bool} (n T : Nat) (A B : Nat → Nat) (ht : zRT I 90 n T A B) (i : Nat) (hi : i < 4) (hs : -1000 < zst (I 90 0) (I 90 1) (I 90 (52 + i)) (I 90 (56 + i))) {a b w : Int32} (ha : ¬ a = 0) {Q : Option Value → zH → Prop} (hQ : ∀ (I2 : Nat → Nat → Int32) (v6 : Value), zTF I I2 → zW l mX9_fewest SH.length (zsl SH) 149 [.ref 85, .int (nI i), .int a, .int b, .int w, .int (zfew (zokF I n T A B i a b) (2 ^ n)), v6] [] (I2, J, RF nw, SH) Q) : ∀ (f k : Nat) (I1 : Nat → Nat → Int32), zTF I I1 → k ≤ (2 ^ n) → (2 ^ n) - k < f →
    zW l mX9_fewest SH.length (zsl SH) 70 [.ref 85, .int (nI i), .int a, .int b, .int w, .int (zfew (zokF I n T A B i a b) k), .int (nI k)] [] (I1, J, RF nw, SH) Q
  | 0, k, _, _, _, hf => by omega
  | f + 1, k, I1, hF, hk, hf => by
    have hn6 := ht.1
    have e90 := zTF_90 hF
    have h64 := pow6 n hn6
    refine z_aload_0 (pc := 70) dX9_fewest_70 ?_
    refine z_iload_6 (pc := 71) dX9_fewest_71 ?_
    refine z_V1 (pc := 73) dX9_fewest_73 mlX9_232 kX9_areDrinkers vX9_areDrinkers (by decide) (by decide) (by first | rfl | assumption) (Nat.le_of_ble_eq_true rfl) (qX9_areDrinkers n hn6 (by rw [e90]; exact ht.2.1)) ⟨Nat.le_refl _, Nat.le_refl _⟩ (fun r h1 hq => ?_)
    obtain ⟨rfl, rfl⟩ := hq
    refine z_if_eq (pc := 76) (tgt := 149) dX9_fewest_76 (by decide) (fun c76 => ?_) (fun c76 => ?_)
    · skip
      have hkn : k = 2 ^ n := by
        rcases Nat.lt_or_ge k (2 ^ n) with q | q
        · have := zlt_of q (by omega)
          have e := (zbb0 _).mp c76
          unfold zsub at e
          rw [this] at e
          exact absurd e (by decide)
        · omega
      rw [hkn]
      exact hQ _ _ hF
    · skip
      have hlt : k < 2 ^ n := by
        obtain ⟨q, hq, e⟩ := zlt_nI (n := 2 ^ n) (by omega) ((zbb1 _).mp c76)
        have := (nI_eq (a := k) (b := q) (by omega) (by omega)).mp e
        omega
      refine z_iload_2 (pc := 79) dX9_fewest_79 ?_
      refine z_if_eq (pc := 80) (tgt := 149) dX9_fewest_80 (by decide) (fun c80 => ?_) (fun c80 => ?_)
      · exact absurd c80 ha
      · skip
        refine z_iload_5 (pc := 83) dX9_fewest_83 ?_
        refine z_ldc (pc := 85) dX9_fewest_85 kcX9_231 ?_
        refine z_icmp_eq (pc := 87) (tgt := 103) dX9_fewest_87 (by decide) (fun c87 => ?_) (fun c87 => ?_)
        · skip
          refine z_aload_0 (pc := 103) dX9_fewest_103 ?_
          refine z_aload_0 (pc := 104) dX9_fewest_104 ?_
          refine y_getR (pc := 105) dX9_fewest_105 flX9_22 rfl (by first | rfl | assumption) (by first | rfl | assumption) ?_
          refine z_iload_1 (pc := 108) dX9_fewest_108 ?_
          refine z_iload_6 (pc := 109) dX9_fewest_109 ?_
          refine z_iconst (pc := 111) (0) dX9_fewest_111 rfl ?_
          refine z_V4 (pc := 112) dX9_fewest_112 mlX9_191 kX9_tellsCask vX9_tellsCask (by decide) (by decide) (by first | rfl | assumption) (Nat.le_of_ble_eq_true rfl) (qX9_tellsCask 90 rfl (by decide) n T A B (ht.keep e90) (fun _ => false) no_bit (zbt k) (fun e he => sh1_bits k (by omega) e (by omega)) i rfl hi (by rw [e90]; exact hs)) ⟨Nat.le_refl _, Nat.le_refl _⟩ (fun r h1 hq => ?_)
          obtain ⟨rfl, I2, rfl, hO⟩ := hq
          rw [zmT_keep e90, e90] at hO
          refine z_aload_0 (pc := 115) dX9_fewest_115 ?_
          refine y_getI (pc := 116) dX9_fewest_116 flX9_168 rfl (by first | rfl | assumption) ?_
          refine z_iload_2 (pc := 119) dX9_fewest_119 ?_
          refine z_iand (pc := 120) dX9_fewest_120 ?_
          refine z_iload_2 (pc := 121) dX9_fewest_121 ?_
          refine z_icmp_ne (pc := 122) (tgt := 139) dX9_fewest_122 (by decide) (fun c122 => ?_) (fun c122 => ?_)
          · skip
            refine z_iload_5 (pc := 139) dX9_fewest_139 ?_
            refine z_istore_5 (pc := 141) dX9_fewest_141 (by decide) rfl ?_
            refine z_iinc_6 (pc := 143) (1) dX9_fewest_143 rfl (by decide) rfl ?_
            refine z_goto (pc := 146) (tgt := 70) dX9_fewest_146 (by decide) ?_
            rw [hO.2.2.1] at c122
            rw [← nI_succ]
            have kk := mfew_loop n T A B ht i hi hs ha hQ f (k + 1) I2 (zTF_next hF hO) (by omega) (by omega)
            rw [zfew, if_neg (fun q => c122 (of_decide_eq_true q.2).1)] at kk
            exact kk
          · skip
            refine z_aload_0 (pc := 125) dX9_fewest_125 ?_
            refine y_getI (pc := 126) dX9_fewest_126 flX9_168 rfl (by first | rfl | assumption) ?_
            refine z_iload_3 (pc := 129) dX9_fewest_129 ?_
            refine z_iand (pc := 130) dX9_fewest_130 ?_
            refine z_if_ne (pc := 131) (tgt := 139) dX9_fewest_131 (by decide) (fun c131 => ?_) (fun c131 => ?_)
            · skip
              refine z_iload_5 (pc := 139) dX9_fewest_139 ?_
              refine z_istore_5 (pc := 141) dX9_fewest_141 (by decide) rfl ?_
              refine z_iinc_6 (pc := 143) (1) dX9_fewest_143 rfl (by decide) rfl ?_
              refine z_goto (pc := 146) (tgt := 70) dX9_fewest_146 (by decide) ?_
              rw [hO.2.2.1] at c131
              rw [← nI_succ]
              have kk := mfew_loop n T A B ht i hi hs ha hQ f (k + 1) I2 (zTF_next hF hO) (by omega) (by omega)
              rw [zfew, if_neg (fun q => c131 (of_decide_eq_true q.2).2)] at kk
              exact kk
            · skip
              refine z_iload_6 (pc := 134) dX9_fewest_134 ?_
              refine z_goto (pc := 136) (tgt := 141) dX9_fewest_136 (by decide) ?_
              refine z_istore_5 (pc := 141) dX9_fewest_141 (by decide) rfl ?_
              refine z_iinc_6 (pc := 143) (1) dX9_fewest_143 rfl (by decide) rfl ?_
              refine z_goto (pc := 146) (tgt := 70) dX9_fewest_146 (by decide) ?_
              rw [hO.2.2.1] at c122
              rw [hO.2.2.1] at c131
              rw [← nI_succ]
              have kk := mfew_loop n T A B ht i hi hs ha hQ f (k + 1) I2 (zTF_next hF hO) (by omega) (by omega)
              rw [zfew, if_pos ⟨Or.inl c87, decide_eq_true ⟨c122, c131⟩⟩] at kk
              exact kk
        · skip
          obtain ⟨qv, hqv, hqe⟩ := (zfew_in (zokF I n T A B i a b) k).resolve_left c87
          refine z_iload_6 (pc := 90) dX9_fewest_90 ?_
          refine z_S1 (pc := 92) dX9_fewest_92 mlX9_239 kX9_bits vX9_bits (by decide) (by decide) (Nat.le_of_ble_eq_true rfl) (qX9_bits k (by omega) rfl) ⟨Nat.le_refl _, Nat.le_refl _⟩ (fun r h1 hq => ?_)
          obtain ⟨rfl, rfl⟩ := hq
          refine z_iload_5 (pc := 95) dX9_fewest_95 ?_
          refine z_S1 (pc := 97) dX9_fewest_97 mlX9_239 kX9_bits vX9_bits (by decide) (by decide) (Nat.le_of_ble_eq_true rfl) (qX9_bits qv (by omega) hqe) ⟨Nat.le_refl _, Nat.le_refl _⟩ (fun r h1 hq => ?_)
          obtain ⟨rfl, rfl⟩ := hq
          refine z_icmp_ge (pc := 100) (tgt := 143) dX9_fewest_100 (by decide) (fun c100 => ?_) (fun c100 => ?_)
          · skip
            refine z_iinc_6 (pc := 143) (1) dX9_fewest_143 rfl (by decide) rfl ?_
            refine z_goto (pc := 146) (tgt := 70) dX9_fewest_146 (by decide) ?_
            rw [← nI_succ]
            have kk := mfew_loop n T A B ht i hi hs ha hQ f (k + 1) I1 hF (by omega) (by omega)
            rw [zfew, if_neg (fun q => q.1.elim c87 (Int32.not_lt.mpr c100))] at kk
            exact kk
          · skip
            refine z_aload_0 (pc := 103) dX9_fewest_103 ?_
            refine z_aload_0 (pc := 104) dX9_fewest_104 ?_
            refine y_getR (pc := 105) dX9_fewest_105 flX9_22 rfl (by first | rfl | assumption) (by first | rfl | assumption) ?_
            refine z_iload_1 (pc := 108) dX9_fewest_108 ?_
            refine z_iload_6 (pc := 109) dX9_fewest_109 ?_
            refine z_iconst (pc := 111) (0) dX9_fewest_111 rfl ?_
            refine z_V4 (pc := 112) dX9_fewest_112 mlX9_191 kX9_tellsCask vX9_tellsCask (by decide) (by decide) (by first | rfl | assumption) (Nat.le_of_ble_eq_true rfl) (qX9_tellsCask 90 rfl (by decide) n T A B (ht.keep e90) (fun _ => false) no_bit (zbt k) (fun e he => sh1_bits k (by omega) e (by omega)) i rfl hi (by rw [e90]; exact hs)) ⟨Nat.le_refl _, Nat.le_refl _⟩ (fun r h1 hq => ?_)
            obtain ⟨rfl, I2, rfl, hO⟩ := hq
            rw [zmT_keep e90, e90] at hO
            refine z_aload_0 (pc := 115) dX9_fewest_115 ?_
            refine y_getI (pc := 116) dX9_fewest_116 flX9_168 rfl (by first | rfl | assumption) ?_
            refine z_iload_2 (pc := 119) dX9_fewest_119 ?_
            refine z_iand (pc := 120) dX9_fewest_120 ?_
            refine z_iload_2 (pc := 121) dX9_fewest_121 ?_
            refine z_icmp_ne (pc := 122) (tgt := 139) dX9_fewest_122 (by decide) (fun c122 => ?_) (fun c122 => ?_)
            · skip
              refine z_iload_5 (pc := 139) dX9_fewest_139 ?_
              refine z_istore_5 (pc := 141) dX9_fewest_141 (by decide) rfl ?_
              refine z_iinc_6 (pc := 143) (1) dX9_fewest_143 rfl (by decide) rfl ?_
              refine z_goto (pc := 146) (tgt := 70) dX9_fewest_146 (by decide) ?_
              rw [hO.2.2.1] at c122
              rw [← nI_succ]
              have kk := mfew_loop n T A B ht i hi hs ha hQ f (k + 1) I2 (zTF_next hF hO) (by omega) (by omega)
              rw [zfew, if_neg (fun q => c122 (of_decide_eq_true q.2).1)] at kk
              exact kk
            · skip
              refine z_aload_0 (pc := 125) dX9_fewest_125 ?_
              refine y_getI (pc := 126) dX9_fewest_126 flX9_168 rfl (by first | rfl | assumption) ?_
              refine z_iload_3 (pc := 129) dX9_fewest_129 ?_
              refine z_iand (pc := 130) dX9_fewest_130 ?_
              refine z_if_ne (pc := 131) (tgt := 139) dX9_fewest_131 (by decide) (fun c131 => ?_) (fun c131 => ?_)
              · skip
                refine z_iload_5 (pc := 139) dX9_fewest_139 ?_
                refine z_istore_5 (pc := 141) dX9_fewest_141 (by decide) rfl ?_
                refine z_iinc_6 (pc := 143) (1) dX9_fewest_143 rfl (by decide) rfl ?_
                refine z_goto (pc := 146) (tgt := 70) dX9_fewest_146 (by decide) ?_
                rw [hO.2.2.1] at c131
                rw [← nI_succ]
                have kk := mfew_loop n T A B ht i hi hs ha hQ f (k + 1) I2 (zTF_next hF hO) (by omega) (by omega)
                rw [zfew, if_neg (fun q => c131 (of_decide_eq_true q.2).2)] at kk
                exact kk
              · skip
                refine z_iload_6 (pc := 134) dX9_fewest_134 ?_
                refine z_goto (pc := 136) (tgt := 141) dX9_fewest_136 (by decide) ?_
                refine z_istore_5 (pc := 141) dX9_fewest_141 (by decide) rfl ?_
                refine z_iinc_6 (pc := 143) (1) dX9_fewest_143 rfl (by decide) rfl ?_
                refine z_goto (pc := 146) (tgt := 70) dX9_fewest_146 (by decide) ?_
                rw [hO.2.2.1] at c122
                rw [hO.2.2.1] at c131
                rw [← nI_succ]
                have kk := mfew_loop n T A B ht i hi hs ha hQ f (k + 1) I2 (zTF_next hF hO) (by omega) (by omega)
                rw [zfew, if_pos ⟨Or.inr (Int32.not_le.mp c100), decide_eq_true ⟨c122, c131⟩⟩] at kk
                exact kk
set_option maxRecDepth 100000 in
set_option maxHeartbeats 4000000 in
theorem qX9_fewest {l : zL} {I : Nat → Nat → Int32} {J : Nat → Nat → Int64} {nw : Bool} (n T : Nat) (A B : Nat → Nat) (ht : zRT I 90 n T A B) (hs : ∀ i, i < 4 → -1000 < zst (I 90 0) (I 90 1) (I 90 (52 + i)) (I 90 (56 + i))) {x a b w : Int32} : zP l mX9_fewest [.ref 85, .int x, .int a, .int b, .int w] (hh I J nw) (zPMe (mFew I n T A B x a b w, I) J nw) := by
  have hn6 := ht.1
  refine z_start [.ref 85, .int x, .int a, .int b, .int w, zno, zno] (by decide +kernel) (Nat.le_of_ble_eq_true rfl) rfl ?_
  refine z_iload_1 (pc := 0) dX9_fewest_0 ?_
  refine z_S1 (pc := 1) dX9_fewest_1 mlX9_216 kX9_isCask vX9_isCask (by decide) (by decide) (Nat.le_of_ble_eq_true rfl) (qX9_isCask) ⟨Nat.le_refl _, Nat.le_refl _⟩ (fun r h1 hq => ?_)
  obtain ⟨rfl, rfl⟩ := hq
  refine z_if_eq (pc := 4) (tgt := 37) dX9_fewest_4 (by decide) (fun c4 => ?_) (fun c4 => ?_)
  · skip
    refine z_ldc (pc := 37) dX9_fewest_37 kcX9_70 ?_
    refine z_ret (pc := 39) (r := some (.int _)) rfl dX9_fewest_39 trivial rfl rfl ?_
    refine zPMe_of (Prod.ext ?_ rfl)
    show mFew _ _ _ _ _ _ _ _ _ = _
    unfold mFew
    rw [if_neg (fun q => by rw [(zbb0 _).mp c4] at q; exact absurd q.1 (by decide))]
  · skip
    refine z_aload_0 (pc := 7) dX9_fewest_7 ?_
    refine z_iload_2 (pc := 8) dX9_fewest_8 ?_
    refine z_V1 (pc := 9) dX9_fewest_9 mlX9_232 kX9_areDrinkers vX9_areDrinkers (by decide) (by decide) (by first | rfl | assumption) (Nat.le_of_ble_eq_true rfl) (qX9_areDrinkers n hn6 ht.2.1) ⟨Nat.le_refl _, Nat.le_refl _⟩ (fun r h1 hq => ?_)
    obtain ⟨rfl, rfl⟩ := hq
    refine z_if_eq (pc := 12) (tgt := 37) dX9_fewest_12 (by decide) (fun c12 => ?_) (fun c12 => ?_)
    · skip
      refine z_ldc (pc := 37) dX9_fewest_37 kcX9_70 ?_
      refine z_ret (pc := 39) (r := some (.int _)) rfl dX9_fewest_39 trivial rfl rfl ?_
      refine zPMe_of (Prod.ext ?_ rfl)
      show mFew _ _ _ _ _ _ _ _ _ = _
      unfold mFew
      rw [if_neg (fun q => by rw [(zbb0 _).mp c12] at q; exact absurd q.2.1 (by decide))]
    · skip
      refine z_aload_0 (pc := 15) dX9_fewest_15 ?_
      refine z_iload_3 (pc := 16) dX9_fewest_16 ?_
      refine z_V1 (pc := 17) dX9_fewest_17 mlX9_232 kX9_areDrinkers vX9_areDrinkers (by decide) (by decide) (by first | rfl | assumption) (Nat.le_of_ble_eq_true rfl) (qX9_areDrinkers n hn6 ht.2.1) ⟨Nat.le_refl _, Nat.le_refl _⟩ (fun r h1 hq => ?_)
      obtain ⟨rfl, rfl⟩ := hq
      refine z_if_eq (pc := 20) (tgt := 37) dX9_fewest_20 (by decide) (fun c20 => ?_) (fun c20 => ?_)
      · skip
        refine z_ldc (pc := 37) dX9_fewest_37 kcX9_70 ?_
        refine z_ret (pc := 39) (r := some (.int _)) rfl dX9_fewest_39 trivial rfl rfl ?_
        refine zPMe_of (Prod.ext ?_ rfl)
        show mFew _ _ _ _ _ _ _ _ _ = _
        unfold mFew
        rw [if_neg (fun q => by rw [(zbb0 _).mp c20] at q; exact absurd q.2.2.1 (by decide))]
      · skip
        refine z_iload_2 (pc := 23) dX9_fewest_23 ?_
        refine z_iload_3 (pc := 24) dX9_fewest_24 ?_
        refine z_iand (pc := 25) dX9_fewest_25 ?_
        refine z_if_ne (pc := 26) (tgt := 37) dX9_fewest_26 (by decide) (fun c26 => ?_) (fun c26 => ?_)
        · skip
          refine z_ldc (pc := 37) dX9_fewest_37 kcX9_70 ?_
          refine z_ret (pc := 39) (r := some (.int _)) rfl dX9_fewest_39 trivial rfl rfl ?_
          refine zPMe_of (Prod.ext ?_ rfl)
          show mFew _ _ _ _ _ _ _ _ _ = _
          unfold mFew
          rw [if_neg (fun q => c26 q.2.2.2.1)]
        · skip
          refine z_iload_4 (pc := 29) dX9_fewest_29 ?_
          refine z_S1 (pc := 31) dX9_fewest_31 mlX9_242 kX9_isTwo vX9_isTwo (by decide) (by decide) (Nat.le_of_ble_eq_true rfl) (qX9_isTwo) ⟨Nat.le_refl _, Nat.le_refl _⟩ (fun r h1 hq => ?_)
          obtain ⟨rfl, rfl⟩ := hq
          refine z_if_ne (pc := 34) (tgt := 40) dX9_fewest_34 (by decide) (fun c34 => ?_) (fun c34 => ?_)
          · skip
            obtain ⟨i, hi, rfl⟩ := zlt_nI (by decide) ((zbb1 _).mp c4)
            have hcl : (nI i).toNatClampNeg = i := nI_clamp (by omega)
            have hqq : zlt (nI i) 4 = true ∧ zsub a n = true ∧ zsub b n = true ∧ a &&& b = 0 ∧ zlt w 2 = true := ⟨zlt_of hi (by decide), (zbb1 _).mp c12, (zbb1 _).mp c20, c26, (zbb1 _).mp c34⟩
            refine z_aload_0 (pc := 40) dX9_fewest_40 ?_
            refine y_getR (pc := 41) dX9_fewest_41 flX9_22 rfl (by first | rfl | assumption) (by first | rfl | assumption) ?_
            refine z_bipush (pc := 44) (44) dX9_fewest_44 rfl ?_
            refine z_iload_1 (pc := 46) dX9_fewest_46 ?_
            refine z_iadd (pc := 47) dX9_fewest_47 ?_
            refine y_ialdN (pc := 48) (44 + i) dX9_fewest_48 (by first | rfl | assumption) (nI_add 44 i) (by omega) (by first | decide | omega) ?_
            refine z_if_ne (pc := 49) (tgt := 55) dX9_fewest_49 (by decide) (fun c49 => ?_) (fun c49 => ?_)
            · skip
              refine z_iload_2 (pc := 55) dX9_fewest_55 ?_
              refine z_if_ne (pc := 56) (tgt := 63) dX9_fewest_56 (by decide) (fun c56 => ?_) (fun c56 => ?_)
              · skip
                refine z_ldc (pc := 63) dX9_fewest_63 kcX9_231 ?_
                refine z_istore_5 (pc := 65) dX9_fewest_65 (by decide) rfl ?_
                refine z_iconst (pc := 67) (1) dX9_fewest_67 rfl ?_
                refine z_istore_6 (pc := 68) dX9_fewest_68 (by decide) rfl ?_
                have k149 : ∀ (I2 : Nat → Nat → Int32) (v6 : Value), zTF I I2 → zW l mX9_fewest SH.length (zsl SH) 149 [.ref 85, .int (nI i), .int a, .int b, .int w, .int (zfew (zokF I n T A B i a b) (2 ^ n)), v6] [] (I2, J, RF nw, SH) (zPMe (mFew I n T A B (nI i) a b w, I) J nw) := by
                  intro I2 v6 hF
                  refine z_iload_5 (pc := 149) dX9_fewest_149 ?_
                  refine z_ldc (pc := 151) dX9_fewest_151 kcX9_231 ?_
                  refine z_icmp_eq (pc := 153) (tgt := 162) dX9_fewest_153 (by decide) (fun c153 => ?_) (fun c153 => ?_)
                  · skip
                    refine z_iload_5 (pc := 162) dX9_fewest_162 ?_
                    refine z_goto (pc := 164) (tgt := 172) dX9_fewest_164 (by decide) ?_
                    refine z_ret (pc := 172) (r := some (.int _)) rfl dX9_fewest_172 trivial rfl rfl ?_
                    refine ⟨?_, I2, rfl, zTF_em hF⟩
                    show some (Value.int _) = some (Value.int (mFew _ _ _ _ _ _ _ _ _))
                    unfold mFew
                    rw [if_pos hqq, hcl, if_neg c49, if_neg c56]
                    unfold zcs
                    rw [if_pos (Or.inl c153)]
                  · skip
                    obtain ⟨qv, hqv, hqe⟩ := (zfew_in (zokF I n T A B i a b) (2 ^ n)).resolve_left c153
                    have h64 := pow6 n hn6
                    refine z_iload_4 (pc := 156) dX9_fewest_156 ?_
                    refine z_iconst (pc := 158) (1) dX9_fewest_158 rfl ?_
                    refine z_icmp_ne (pc := 159) (tgt := 167) dX9_fewest_159 (by decide) (fun c159 => ?_) (fun c159 => ?_)
                    · skip
                      refine z_iload_5 (pc := 167) dX9_fewest_167 ?_
                      refine z_S1 (pc := 169) dX9_fewest_169 mlX9_239 kX9_bits vX9_bits (by decide) (by decide) (Nat.le_of_ble_eq_true rfl) (qX9_bits qv (by omega) hqe) ⟨Nat.le_refl _, Nat.le_refl _⟩ (fun r h1 hq => ?_)
                      obtain ⟨rfl, rfl⟩ := hq
                      refine z_ret (pc := 172) (r := some (.int _)) rfl dX9_fewest_172 trivial rfl rfl ?_
                      refine ⟨?_, I2, rfl, zTF_em hF⟩
                      show some (Value.int _) = some (Value.int (mFew _ _ _ _ _ _ _ _ _))
                      unfold mFew
                      rw [if_pos hqq, hcl, if_neg c49, if_neg c56]
                      unfold zcs
                      rw [if_neg (fun q => q.elim c153 c159)]
                    · skip
                      refine z_iload_5 (pc := 162) dX9_fewest_162 ?_
                      refine z_goto (pc := 164) (tgt := 172) dX9_fewest_164 (by decide) ?_
                      refine z_ret (pc := 172) (r := some (.int _)) rfl dX9_fewest_172 trivial rfl rfl ?_
                      refine ⟨?_, I2, rfl, zTF_em hF⟩
                      show some (Value.int _) = some (Value.int (mFew _ _ _ _ _ _ _ _ _))
                      unfold mFew
                      rw [if_pos hqq, hcl, if_neg c49, if_neg c56]
                      unfold zcs
                      rw [if_pos (Or.inr c159)]
                have kk := mfew_loop n T A B ht i hi (hs i hi) c56 k149 (2 ^ n) 1 I (zTF_refl I) (Nat.one_le_two_pow) (by have := Nat.one_le_two_pow (n := n); omega)
                rw [zfew_one c56] at kk
                exact kk
              · skip
                refine z_iconst (pc := 59) (0) dX9_fewest_59 rfl ?_
                refine z_goto (pc := 60) (tgt := 65) dX9_fewest_60 (by decide) ?_
                refine z_istore_5 (pc := 65) dX9_fewest_65 (by decide) rfl ?_
                refine z_iconst (pc := 67) (1) dX9_fewest_67 rfl ?_
                refine z_istore_6 (pc := 68) dX9_fewest_68 (by decide) rfl ?_
                refine z_aload_0 (pc := 70) dX9_fewest_70 ?_
                refine z_iload_6 (pc := 71) dX9_fewest_71 ?_
                refine z_V1 (pc := 73) dX9_fewest_73 mlX9_232 kX9_areDrinkers vX9_areDrinkers (by decide) (by decide) (by first | rfl | assumption) (Nat.le_of_ble_eq_true rfl) (qX9_areDrinkers n hn6 ht.2.1) ⟨Nat.le_refl _, Nat.le_refl _⟩ (fun r h1 hq => ?_)
                obtain ⟨rfl, rfl⟩ := hq
                refine z_if_eq (pc := 76) (tgt := 149) dX9_fewest_76 (by decide) (fun c76 => ?_) (fun c76 => ?_)
                · skip
                  refine z_iload_5 (pc := 149) dX9_fewest_149 ?_
                  refine z_ldc (pc := 151) dX9_fewest_151 kcX9_231 ?_
                  refine z_icmp_eq (pc := 153) (tgt := 162) dX9_fewest_153 (by decide) (fun c153 => ?_) (fun c153 => ?_)
                  · exact absurd c153 (by decide)
                  · skip
                    refine z_iload_4 (pc := 156) dX9_fewest_156 ?_
                    refine z_iconst (pc := 158) (1) dX9_fewest_158 rfl ?_
                    refine z_icmp_ne (pc := 159) (tgt := 167) dX9_fewest_159 (by decide) (fun c159 => ?_) (fun c159 => ?_)
                    · skip
                      refine z_iload_5 (pc := 167) dX9_fewest_167 ?_
                      refine z_S1 (pc := 169) dX9_fewest_169 mlX9_239 kX9_bits vX9_bits (by decide) (by decide) (Nat.le_of_ble_eq_true rfl) (qX9_bits 0 (by decide) rfl) ⟨Nat.le_refl _, Nat.le_refl _⟩ (fun r h1 hq => ?_)
                      obtain ⟨rfl, rfl⟩ := hq
                      refine z_ret (pc := 172) (r := some (.int _)) rfl dX9_fewest_172 trivial rfl rfl ?_
                      refine zPMe_of (Prod.ext ?_ rfl)
                      show mFew _ _ _ _ _ _ _ _ _ = _
                      unfold mFew
                      rw [if_pos hqq, hcl, if_neg c49, if_pos c56]
                      unfold zcs
                      rw [if_neg (fun q => q.elim c153 c159)]
                    · skip
                      refine z_iload_5 (pc := 162) dX9_fewest_162 ?_
                      refine z_goto (pc := 164) (tgt := 172) dX9_fewest_164 (by decide) ?_
                      refine z_ret (pc := 172) (r := some (.int _)) rfl dX9_fewest_172 trivial rfl rfl ?_
                      refine zPMe_of (Prod.ext ?_ rfl)
                      show mFew _ _ _ _ _ _ _ _ _ = _
                      unfold mFew
                      rw [if_pos hqq, hcl, if_neg c49, if_pos c56]
                      unfold zcs
                      rw [if_pos (Or.inr c159)]
                · skip
                  refine z_iload_2 (pc := 79) dX9_fewest_79 ?_
                  refine z_if_eq (pc := 80) (tgt := 149) dX9_fewest_80 (by decide) (fun c80 => ?_) (fun c80 => ?_)
                  · skip
                    refine z_iload_5 (pc := 149) dX9_fewest_149 ?_
                    refine z_ldc (pc := 151) dX9_fewest_151 kcX9_231 ?_
                    refine z_icmp_eq (pc := 153) (tgt := 162) dX9_fewest_153 (by decide) (fun c153 => ?_) (fun c153 => ?_)
                    · exact absurd c153 (by decide)
                    · skip
                      refine z_iload_4 (pc := 156) dX9_fewest_156 ?_
                      refine z_iconst (pc := 158) (1) dX9_fewest_158 rfl ?_
                      refine z_icmp_ne (pc := 159) (tgt := 167) dX9_fewest_159 (by decide) (fun c159 => ?_) (fun c159 => ?_)
                      · skip
                        refine z_iload_5 (pc := 167) dX9_fewest_167 ?_
                        refine z_S1 (pc := 169) dX9_fewest_169 mlX9_239 kX9_bits vX9_bits (by decide) (by decide) (Nat.le_of_ble_eq_true rfl) (qX9_bits 0 (by decide) rfl) ⟨Nat.le_refl _, Nat.le_refl _⟩ (fun r h1 hq => ?_)
                        obtain ⟨rfl, rfl⟩ := hq
                        refine z_ret (pc := 172) (r := some (.int _)) rfl dX9_fewest_172 trivial rfl rfl ?_
                        refine zPMe_of (Prod.ext ?_ rfl)
                        show mFew _ _ _ _ _ _ _ _ _ = _
                        unfold mFew
                        rw [if_pos hqq, hcl, if_neg c49, if_pos c56]
                        unfold zcs
                        rw [if_neg (fun q => q.elim c153 c159)]
                      · skip
                        refine z_iload_5 (pc := 162) dX9_fewest_162 ?_
                        refine z_goto (pc := 164) (tgt := 172) dX9_fewest_164 (by decide) ?_
                        refine z_ret (pc := 172) (r := some (.int _)) rfl dX9_fewest_172 trivial rfl rfl ?_
                        refine zPMe_of (Prod.ext ?_ rfl)
                        show mFew _ _ _ _ _ _ _ _ _ = _
                        unfold mFew
                        rw [if_pos hqq, hcl, if_neg c49, if_pos c56]
                        unfold zcs
                        rw [if_pos (Or.inr c159)]
                  · exact absurd c56 c80
            · skip
              refine z_ldc (pc := 52) dX9_fewest_52 kcX9_198 ?_
              refine z_ret (pc := 54) (r := some (.int _)) rfl dX9_fewest_54 trivial rfl rfl ?_
              refine zPMe_of (Prod.ext ?_ rfl)
              show mFew _ _ _ _ _ _ _ _ _ = _
              unfold mFew
              rw [if_pos hqq, hcl, if_pos c49]
          · skip
            refine z_ldc (pc := 37) dX9_fewest_37 kcX9_70 ?_
            refine z_ret (pc := 39) (r := some (.int _)) rfl dX9_fewest_39 trivial rfl rfl ?_
            refine zPMe_of (Prod.ext ?_ rfl)
            show mFew _ _ _ _ _ _ _ _ _ = _
            unfold mFew
            rw [if_neg (fun q => by rw [(zbb0 _).mp c34] at q; exact absurd q.2.2.2.2 (by decide))]
set_option maxRecDepth 100000 in
set_option maxHeartbeats 4000000 in
theorem msil_loop {l : zL} {I : Nat → Nat → Int32} {J : Nat → Nat → Int64} {nw : Bool} (n T : Nat) (A B : Nat → Nat) (ht : zRT I 90 n T A B) (i : Nat) (hi : i < 4) (hs : -1000 < zst (I 90 0) (I 90 1) (I 90 (52 + i)) (I 90 (56 + i))) (a b : Nat) (ha : a < n) (hb : b < n) {w : Int32} {Q : Option Value → zH → Prop} (hQ : ∀ (I2 : Nat → Nat → Int32) (v6 : Value), zTF I I2 → zW l mX9_silence SH.length (zsl SH) 132 [.ref 85, .int (nI i), .int (nI a), .int (nI b), .int w, .int (zfew (zokS I n T A B i a b) (2 ^ T)), v6] [] (I2, J, RF nw, SH) Q) : ∀ (f k : Nat) (I1 : Nat → Nat → Int32), zTF I I1 → k ≤ (2 ^ T) → (2 ^ T) - k < f →
    zW l mX9_silence SH.length (zsl SH) 61 [.ref 85, .int (nI i), .int (nI a), .int (nI b), .int w, .int (zfew (zokS I n T A B i a b) k), .int (nI k)] [] (I1, J, RF nw, SH) Q
  | 0, k, _, _, _, hf => by omega
  | f + 1, k, I1, hF, hk, hf => by
    have hn6 := ht.1
    have e90 := zTF_90 hF
    have hp := pow10 T ht.2.2.1
    refine z_iload_6 (pc := 61) dX9_silence_61 ?_
    refine z_iconst (pc := 63) (1) dX9_silence_63 rfl ?_
    refine z_aload_0 (pc := 64) dX9_silence_64 ?_
    refine y_getR (pc := 65) dX9_silence_65 flX9_22 rfl (by first | rfl | assumption) (by first | rfl | assumption) ?_
    refine z_iconst (pc := 68) (4) dX9_silence_68 rfl ?_
    refine y_ialdN (pc := 69) (4) dX9_silence_69 (by first | rfl | assumption) (rfl) (by decide) (by first | decide | omega) ?_
    refine z_ishl (pc := 70) dX9_silence_70 ?_
    refine z_icmp_ge (pc := 71) (tgt := 132) dX9_silence_71 (by decide) (fun c71 => ?_) (fun c71 => ?_)
    · skip
      rw [e90, ht.2.2.2.1, hp.2] at c71
      have hkn : k = (2 ^ T) := by
        rcases Nat.lt_or_ge k (2 ^ T) with q | q
        · exact absurd c71 (nI_ge (b := (2 ^ T)) q (by omega))
        · omega
      rw [hkn]
      exact hQ _ _ hF
    · skip
      rw [e90, ht.2.2.2.1, hp.2] at c71
      have hlt : k < (2 ^ T) := by
        rcases Nat.lt_or_ge k (2 ^ T) with q | q
        · exact q
        · exact absurd (nI_le (a := (2 ^ T)) q (by omega)) c71
      refine z_iload_5 (pc := 74) dX9_silence_74 ?_
      refine z_ldc (pc := 76) dX9_silence_76 kcX9_231 ?_
      refine z_icmp_eq (pc := 78) (tgt := 94) dX9_silence_78 (by decide) (fun c78 => ?_) (fun c78 => ?_)
      · skip
        refine z_aload_0 (pc := 94) dX9_silence_94 ?_
        refine z_aload_0 (pc := 95) dX9_silence_95 ?_
        refine y_getR (pc := 96) dX9_silence_96 flX9_22 rfl (by first | rfl | assumption) (by first | rfl | assumption) ?_
        refine z_iload_1 (pc := 99) dX9_silence_99 ?_
        refine z_iconst (pc := 100) (1) dX9_silence_100 rfl ?_
        refine z_iload_2 (pc := 101) dX9_silence_101 ?_
        refine z_ishl (pc := 102) dX9_silence_102 ?_
        refine z_iload_6 (pc := 103) dX9_silence_103 ?_
        refine z_V4 (pc := 105) dX9_silence_105 mlX9_191 kX9_tellsCask vX9_tellsCask (by decide) (by decide) (by first | rfl | assumption) (Nat.le_of_ble_eq_true rfl) (qX9_tellsCask 90 rfl (by decide) n T A B (ht.keep e90) (zbt k) (fun e he => sh1_bits k (by omega) e he) (fun e => e == a) (one_bit a (by omega)) i rfl hi (by rw [e90]; exact hs)) ⟨Nat.le_refl _, Nat.le_refl _⟩ (fun r h1 hq => ?_)
        obtain ⟨rfl, I2, rfl, hO⟩ := hq
        rw [zmT_keep e90, e90] at hO
        refine z_aload_0 (pc := 108) dX9_silence_108 ?_
        refine y_getR (pc := 109) dX9_silence_109 flX9_47 rfl (by first | rfl | assumption) (by first | rfl | assumption) ?_
        refine z_iload_3 (pc := 112) dX9_silence_112 ?_
        refine y_ialdN (pc := 113) (b) dX9_silence_113 (by first | rfl | assumption) (rfl) (by omega) (by first | decide | omega) ?_
        refine z_if_ge (pc := 114) (tgt := 122) dX9_silence_114 (by decide) (fun c114 => ?_) (fun c114 => ?_)
        · skip
          refine z_iload_5 (pc := 122) dX9_silence_122 ?_
          refine z_istore_5 (pc := 124) dX9_silence_124 (by decide) rfl ?_
          refine z_iinc_6 (pc := 126) (1) dX9_silence_126 rfl (by decide) rfl ?_
          refine z_goto (pc := 129) (tgt := 61) dX9_silence_129 (by decide) ?_
          rw [hO.2.2.2 b (by omega)] at c114
          rw [← nI_succ]
          have kk := msil_loop n T A B ht i hi hs a b ha hb hQ f (k + 1) I2 (zTF_next hF hO) (by omega) (by omega)
          rw [zfew, if_neg (fun q => Int32.not_lt.mpr c114 ((nzrc _ _).mp q.2))] at kk
          exact kk
        · skip
          refine z_iload_6 (pc := 117) dX9_silence_117 ?_
          refine z_goto (pc := 119) (tgt := 124) dX9_silence_119 (by decide) ?_
          refine z_istore_5 (pc := 124) dX9_silence_124 (by decide) rfl ?_
          refine z_iinc_6 (pc := 126) (1) dX9_silence_126 rfl (by decide) rfl ?_
          refine z_goto (pc := 129) (tgt := 61) dX9_silence_129 (by decide) ?_
          rw [hO.2.2.2 b (by omega)] at c114
          rw [← nI_succ]
          have kk := msil_loop n T A B ht i hi hs a b ha hb hQ f (k + 1) I2 (zTF_next hF hO) (by omega) (by omega)
          rw [zfew, if_pos ⟨Or.inl c78, (nzrc _ _).mpr (Int32.not_le.mp c114)⟩] at kk
          exact kk
      · skip
        obtain ⟨qv, hqv, hqe⟩ := (zfew_in (zokS I n T A B i a b) k).resolve_left c78
        refine z_iload_6 (pc := 81) dX9_silence_81 ?_
        refine z_S1 (pc := 83) dX9_silence_83 mlX9_239 kX9_bits vX9_bits (by decide) (by decide) (Nat.le_of_ble_eq_true rfl) (qX9_bits k (by omega) rfl) ⟨Nat.le_refl _, Nat.le_refl _⟩ (fun r h1 hq => ?_)
        obtain ⟨rfl, rfl⟩ := hq
        refine z_iload_5 (pc := 86) dX9_silence_86 ?_
        refine z_S1 (pc := 88) dX9_silence_88 mlX9_239 kX9_bits vX9_bits (by decide) (by decide) (Nat.le_of_ble_eq_true rfl) (qX9_bits qv (by omega) hqe) ⟨Nat.le_refl _, Nat.le_refl _⟩ (fun r h1 hq => ?_)
        obtain ⟨rfl, rfl⟩ := hq
        refine z_icmp_ge (pc := 91) (tgt := 126) dX9_silence_91 (by decide) (fun c91 => ?_) (fun c91 => ?_)
        · skip
          refine z_iinc_6 (pc := 126) (1) dX9_silence_126 rfl (by decide) rfl ?_
          refine z_goto (pc := 129) (tgt := 61) dX9_silence_129 (by decide) ?_
          rw [← nI_succ]
          have kk := msil_loop n T A B ht i hi hs a b ha hb hQ f (k + 1) I1 hF (by omega) (by omega)
          rw [zfew, if_neg (fun q => q.1.elim c78 (Int32.not_lt.mpr c91))] at kk
          exact kk
        · skip
          refine z_aload_0 (pc := 94) dX9_silence_94 ?_
          refine z_aload_0 (pc := 95) dX9_silence_95 ?_
          refine y_getR (pc := 96) dX9_silence_96 flX9_22 rfl (by first | rfl | assumption) (by first | rfl | assumption) ?_
          refine z_iload_1 (pc := 99) dX9_silence_99 ?_
          refine z_iconst (pc := 100) (1) dX9_silence_100 rfl ?_
          refine z_iload_2 (pc := 101) dX9_silence_101 ?_
          refine z_ishl (pc := 102) dX9_silence_102 ?_
          refine z_iload_6 (pc := 103) dX9_silence_103 ?_
          refine z_V4 (pc := 105) dX9_silence_105 mlX9_191 kX9_tellsCask vX9_tellsCask (by decide) (by decide) (by first | rfl | assumption) (Nat.le_of_ble_eq_true rfl) (qX9_tellsCask 90 rfl (by decide) n T A B (ht.keep e90) (zbt k) (fun e he => sh1_bits k (by omega) e he) (fun e => e == a) (one_bit a (by omega)) i rfl hi (by rw [e90]; exact hs)) ⟨Nat.le_refl _, Nat.le_refl _⟩ (fun r h1 hq => ?_)
          obtain ⟨rfl, I2, rfl, hO⟩ := hq
          rw [zmT_keep e90, e90] at hO
          refine z_aload_0 (pc := 108) dX9_silence_108 ?_
          refine y_getR (pc := 109) dX9_silence_109 flX9_47 rfl (by first | rfl | assumption) (by first | rfl | assumption) ?_
          refine z_iload_3 (pc := 112) dX9_silence_112 ?_
          refine y_ialdN (pc := 113) (b) dX9_silence_113 (by first | rfl | assumption) (rfl) (by omega) (by first | decide | omega) ?_
          refine z_if_ge (pc := 114) (tgt := 122) dX9_silence_114 (by decide) (fun c114 => ?_) (fun c114 => ?_)
          · skip
            refine z_iload_5 (pc := 122) dX9_silence_122 ?_
            refine z_istore_5 (pc := 124) dX9_silence_124 (by decide) rfl ?_
            refine z_iinc_6 (pc := 126) (1) dX9_silence_126 rfl (by decide) rfl ?_
            refine z_goto (pc := 129) (tgt := 61) dX9_silence_129 (by decide) ?_
            rw [hO.2.2.2 b (by omega)] at c114
            rw [← nI_succ]
            have kk := msil_loop n T A B ht i hi hs a b ha hb hQ f (k + 1) I2 (zTF_next hF hO) (by omega) (by omega)
            rw [zfew, if_neg (fun q => Int32.not_lt.mpr c114 ((nzrc _ _).mp q.2))] at kk
            exact kk
          · skip
            refine z_iload_6 (pc := 117) dX9_silence_117 ?_
            refine z_goto (pc := 119) (tgt := 124) dX9_silence_119 (by decide) ?_
            refine z_istore_5 (pc := 124) dX9_silence_124 (by decide) rfl ?_
            refine z_iinc_6 (pc := 126) (1) dX9_silence_126 rfl (by decide) rfl ?_
            refine z_goto (pc := 129) (tgt := 61) dX9_silence_129 (by decide) ?_
            rw [hO.2.2.2 b (by omega)] at c114
            rw [← nI_succ]
            have kk := msil_loop n T A B ht i hi hs a b ha hb hQ f (k + 1) I2 (zTF_next hF hO) (by omega) (by omega)
            rw [zfew, if_pos ⟨Or.inr (Int32.not_le.mp c91), (nzrc _ _).mpr (Int32.not_le.mp c114)⟩] at kk
            exact kk
set_option maxRecDepth 100000 in
set_option maxHeartbeats 4000000 in
theorem qX9_silence {l : zL} {I : Nat → Nat → Int32} {J : Nat → Nat → Int64} {nw : Bool} (n T : Nat) (A B : Nat → Nat) (ht : zRT I 90 n T A B) (hs : ∀ i, i < 4 → -1000 < zst (I 90 0) (I 90 1) (I 90 (52 + i)) (I 90 (56 + i))) {x a b w : Int32} : zP l mX9_silence [.ref 85, .int x, .int a, .int b, .int w] (hh I J nw) (zPMe (mSil I n T A B x a b w, I) J nw) := by
  have hn6 := ht.1
  refine z_start [.ref 85, .int x, .int a, .int b, .int w, zno, zno] (by decide +kernel) (Nat.le_of_ble_eq_true rfl) rfl ?_
  refine z_iload_1 (pc := 0) dX9_silence_0 ?_
  refine z_S1 (pc := 1) dX9_silence_1 mlX9_216 kX9_isCask vX9_isCask (by decide) (by decide) (Nat.le_of_ble_eq_true rfl) (qX9_isCask) ⟨Nat.le_refl _, Nat.le_refl _⟩ (fun r h1 hq => ?_)
  obtain ⟨rfl, rfl⟩ := hq
  refine z_if_eq (pc := 4) (tgt := 36) dX9_silence_4 (by decide) (fun c4 => ?_) (fun c4 => ?_)
  · skip
    refine z_ldc (pc := 36) dX9_silence_36 kcX9_70 ?_
    refine z_ret (pc := 38) (r := some (.int _)) rfl dX9_silence_38 trivial rfl rfl ?_
    refine zPMe_of (Prod.ext ?_ rfl)
    show mSil _ _ _ _ _ _ _ _ _ = _
    unfold mSil
    rw [if_neg (fun q => by rw [(zbb0 _).mp c4] at q; exact absurd q.1 (by decide))]
  · skip
    refine z_aload_0 (pc := 7) dX9_silence_7 ?_
    refine z_iload_2 (pc := 8) dX9_silence_8 ?_
    refine z_V1 (pc := 9) dX9_silence_9 mlX9_199 kX9_isDrinker vX9_isDrinker (by decide) (by decide) (by first | rfl | assumption) (Nat.le_of_ble_eq_true rfl) (qX9_isDrinker n hn6 ht.2.1) ⟨Nat.le_refl _, Nat.le_refl _⟩ (fun r h1 hq => ?_)
    obtain ⟨rfl, rfl⟩ := hq
    refine z_if_eq (pc := 12) (tgt := 36) dX9_silence_12 (by decide) (fun c12 => ?_) (fun c12 => ?_)
    · skip
      refine z_ldc (pc := 36) dX9_silence_36 kcX9_70 ?_
      refine z_ret (pc := 38) (r := some (.int _)) rfl dX9_silence_38 trivial rfl rfl ?_
      refine zPMe_of (Prod.ext ?_ rfl)
      show mSil _ _ _ _ _ _ _ _ _ = _
      unfold mSil
      rw [if_neg (fun q => by rw [(zbb0 _).mp c12] at q; exact absurd q.2.1 (by decide))]
    · skip
      refine z_aload_0 (pc := 15) dX9_silence_15 ?_
      refine z_iload_3 (pc := 16) dX9_silence_16 ?_
      refine z_V1 (pc := 17) dX9_silence_17 mlX9_199 kX9_isDrinker vX9_isDrinker (by decide) (by decide) (by first | rfl | assumption) (Nat.le_of_ble_eq_true rfl) (qX9_isDrinker n hn6 ht.2.1) ⟨Nat.le_refl _, Nat.le_refl _⟩ (fun r h1 hq => ?_)
      obtain ⟨rfl, rfl⟩ := hq
      refine z_if_eq (pc := 20) (tgt := 36) dX9_silence_20 (by decide) (fun c20 => ?_) (fun c20 => ?_)
      · skip
        refine z_ldc (pc := 36) dX9_silence_36 kcX9_70 ?_
        refine z_ret (pc := 38) (r := some (.int _)) rfl dX9_silence_38 trivial rfl rfl ?_
        refine zPMe_of (Prod.ext ?_ rfl)
        show mSil _ _ _ _ _ _ _ _ _ = _
        unfold mSil
        rw [if_neg (fun q => by rw [(zbb0 _).mp c20] at q; exact absurd q.2.2.1 (by decide))]
      · skip
        refine z_iload_2 (pc := 23) dX9_silence_23 ?_
        refine z_iload_3 (pc := 24) dX9_silence_24 ?_
        refine z_icmp_eq (pc := 25) (tgt := 36) dX9_silence_25 (by decide) (fun c25 => ?_) (fun c25 => ?_)
        · skip
          refine z_ldc (pc := 36) dX9_silence_36 kcX9_70 ?_
          refine z_ret (pc := 38) (r := some (.int _)) rfl dX9_silence_38 trivial rfl rfl ?_
          refine zPMe_of (Prod.ext ?_ rfl)
          show mSil _ _ _ _ _ _ _ _ _ = _
          unfold mSil
          rw [if_neg (fun q => q.2.2.2.1 c25)]
        · skip
          refine z_iload_4 (pc := 28) dX9_silence_28 ?_
          refine z_S1 (pc := 30) dX9_silence_30 mlX9_242 kX9_isTwo vX9_isTwo (by decide) (by decide) (Nat.le_of_ble_eq_true rfl) (qX9_isTwo) ⟨Nat.le_refl _, Nat.le_refl _⟩ (fun r h1 hq => ?_)
          obtain ⟨rfl, rfl⟩ := hq
          refine z_if_ne (pc := 33) (tgt := 39) dX9_silence_33 (by decide) (fun c33 => ?_) (fun c33 => ?_)
          · skip
            obtain ⟨i, hi, rfl⟩ := zlt_nI (by decide) ((zbb1 _).mp c4)
            have hcl : (nI i).toNatClampNeg = i := nI_clamp (by omega)
            obtain ⟨a, ha, rfl⟩ := zlt_nI (by omega) ((zbb1 _).mp c12)
            obtain ⟨b, hb, rfl⟩ := zlt_nI (by omega) ((zbb1 _).mp c20)
            have hca : (nI a).toNatClampNeg = a := nI_clamp (by omega)
            have hcb : (nI b).toNatClampNeg = b := nI_clamp (by omega)
            have hqq : zlt (nI i) 4 = true ∧ zlt (nI a) n = true ∧ zlt (nI b) n = true ∧ ¬ nI a = nI b ∧ zlt w 2 = true := ⟨zlt_of hi (by decide), zlt_of ha (by omega), zlt_of hb (by omega), c25, (zbb1 _).mp c33⟩
            refine z_aload_0 (pc := 39) dX9_silence_39 ?_
            refine y_getR (pc := 40) dX9_silence_40 flX9_22 rfl (by first | rfl | assumption) (by first | rfl | assumption) ?_
            refine z_bipush (pc := 43) (44) dX9_silence_43 rfl ?_
            refine z_iload_1 (pc := 45) dX9_silence_45 ?_
            refine z_iadd (pc := 46) dX9_silence_46 ?_
            refine y_ialdN (pc := 47) (44 + i) dX9_silence_47 (by first | rfl | assumption) (nI_add 44 i) (by omega) (by first | decide | omega) ?_
            refine z_if_ne (pc := 48) (tgt := 54) dX9_silence_48 (by decide) (fun c48 => ?_) (fun c48 => ?_)
            · skip
              refine z_ldc (pc := 54) dX9_silence_54 kcX9_231 ?_
              refine z_istore_5 (pc := 56) dX9_silence_56 (by decide) rfl ?_
              refine z_iconst (pc := 58) (0) dX9_silence_58 rfl ?_
              refine z_istore_6 (pc := 59) dX9_silence_59 (by decide) rfl ?_
              have k132 : ∀ (I2 : Nat → Nat → Int32) (v6 : Value), zTF I I2 → zW l mX9_silence SH.length (zsl SH) 132 [.ref 85, .int (nI i), .int (nI a), .int (nI b), .int w, .int (zfew (zokS I n T A B i a b) (2 ^ T)), v6] [] (I2, J, RF nw, SH) (zPMe (mSil I n T A B (nI i) (nI a) (nI b) w, I) J nw) := by
                intro I2 v6 hF
                refine z_iload_5 (pc := 132) dX9_silence_132 ?_
                refine z_ldc (pc := 134) dX9_silence_134 kcX9_231 ?_
                refine z_icmp_eq (pc := 136) (tgt := 145) dX9_silence_136 (by decide) (fun c136 => ?_) (fun c136 => ?_)
                · skip
                  refine z_iload_5 (pc := 145) dX9_silence_145 ?_
                  refine z_goto (pc := 147) (tgt := 155) dX9_silence_147 (by decide) ?_
                  refine z_ret (pc := 155) (r := some (.int _)) rfl dX9_silence_155 trivial rfl rfl ?_
                  refine ⟨?_, I2, rfl, zTF_em hF⟩
                  show some (Value.int _) = some (Value.int (mSil _ _ _ _ _ _ _ _ _))
                  unfold mSil
                  rw [if_pos hqq, hcl, hca, hcb, if_neg c48]
                  unfold zcs
                  rw [if_pos (Or.inl c136)]
                · skip
                  obtain ⟨qv, hqv, hqe⟩ := (zfew_in (zokS I n T A B i a b) (2 ^ T)).resolve_left c136
                  have hp := pow10 T ht.2.2.1
                  refine z_iload_4 (pc := 139) dX9_silence_139 ?_
                  refine z_iconst (pc := 141) (1) dX9_silence_141 rfl ?_
                  refine z_icmp_ne (pc := 142) (tgt := 150) dX9_silence_142 (by decide) (fun c142 => ?_) (fun c142 => ?_)
                  · skip
                    refine z_iload_5 (pc := 150) dX9_silence_150 ?_
                    refine z_S1 (pc := 152) dX9_silence_152 mlX9_239 kX9_bits vX9_bits (by decide) (by decide) (Nat.le_of_ble_eq_true rfl) (qX9_bits qv (by omega) hqe) ⟨Nat.le_refl _, Nat.le_refl _⟩ (fun r h1 hq => ?_)
                    obtain ⟨rfl, rfl⟩ := hq
                    refine z_ret (pc := 155) (r := some (.int _)) rfl dX9_silence_155 trivial rfl rfl ?_
                    refine ⟨?_, I2, rfl, zTF_em hF⟩
                    show some (Value.int _) = some (Value.int (mSil _ _ _ _ _ _ _ _ _))
                    unfold mSil
                    rw [if_pos hqq, hcl, hca, hcb, if_neg c48]
                    unfold zcs
                    rw [if_neg (fun q => q.elim c136 c142)]
                  · skip
                    refine z_iload_5 (pc := 145) dX9_silence_145 ?_
                    refine z_goto (pc := 147) (tgt := 155) dX9_silence_147 (by decide) ?_
                    refine z_ret (pc := 155) (r := some (.int _)) rfl dX9_silence_155 trivial rfl rfl ?_
                    refine ⟨?_, I2, rfl, zTF_em hF⟩
                    show some (Value.int _) = some (Value.int (mSil _ _ _ _ _ _ _ _ _))
                    unfold mSil
                    rw [if_pos hqq, hcl, hca, hcb, if_neg c48]
                    unfold zcs
                    rw [if_pos (Or.inr c142)]
              exact msil_loop n T A B ht i hi (hs i hi) a b ha hb k132 (2 ^ T + 1) 0 I (zTF_refl I) (Nat.zero_le _) (Nat.lt_succ_of_le (Nat.sub_le _ _))
            · skip
              refine z_ldc (pc := 51) dX9_silence_51 kcX9_198 ?_
              refine z_ret (pc := 53) (r := some (.int _)) rfl dX9_silence_53 trivial rfl rfl ?_
              refine zPMe_of (Prod.ext ?_ rfl)
              show mSil _ _ _ _ _ _ _ _ _ = _
              unfold mSil
              rw [if_pos hqq, hcl, if_pos c48]
          · skip
            refine z_ldc (pc := 36) dX9_silence_36 kcX9_70 ?_
            refine z_ret (pc := 38) (r := some (.int _)) rfl dX9_silence_38 trivial rfl rfl ?_
            refine zPMe_of (Prod.ext ?_ rfl)
            show mSil _ _ _ _ _ _ _ _ _ = _
            unfold mSil
            rw [if_neg (fun q => by rw [(zbb0 _).mp c33] at q; exact absurd q.2.2.2.2 (by decide))]
