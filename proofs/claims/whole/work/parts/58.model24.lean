/-- places s .. brought to d .., those from lo to hi -/
def zmv (f : Nat → Int32) (s d lo hi : Nat) : Nat → Int32 := fun q => if d + lo ≤ q ∧ q < d + hi then f (s + (q - d)) else f q
theorem zmv_0 (f : Nat → Int32) (s d lo : Nat) : zmv f s d lo lo = f := by
  funext q; unfold zmv; rw [if_neg (by omega)]
theorem zmv_asc (f : Nat → Int32) {s d k n : Nat} (h : d ≤ s ∨ s + n ≤ d) (hk : k < n) : upd (zmv f s d 0 k) (d + k) (zmv f s d 0 k (s + k)) = zmv f s d 0 (k + 1) := by
  funext q
  unfold upd zmv
  rw [if_neg (c := d + 0 ≤ s + k ∧ s + k < d + k) (by omega)]
  by_cases hq : q = d + k
  · subst hq
    rw [if_pos rfl, if_pos (by omega), Nat.add_sub_cancel_left]
  · rw [if_neg hq]
    by_cases h2 : d + 0 ≤ q ∧ q < d + k
    · rw [if_pos h2, if_pos (by omega)]
    · rw [if_neg h2, if_neg (by omega)]
theorem zmv_desc (f : Nat → Int32) {s d k n : Nat} (h : s ≤ d ∨ d + n ≤ s) (hk : k < n) : upd (zmv f s d (n - k) n) (d + (n - 1 - k)) (zmv f s d (n - k) n (s + (n - 1 - k))) = zmv f s d (n - (k + 1)) n := by
  funext q
  unfold upd zmv
  rw [if_neg (c := d + (n - k) ≤ s + (n - 1 - k) ∧ s + (n - 1 - k) < d + n) (by omega)]
  by_cases hq : q = d + (n - 1 - k)
  · subst hq
    rw [if_pos rfl, if_pos (by omega), Nat.add_sub_cancel_left]
  · rw [if_neg hq]
    by_cases h2 : d + (n - k) ≤ q ∧ q < d + n
    · rw [if_pos h2, if_pos (by omega)]
    · rw [if_neg h2, if_neg (by omega)]
theorem nI_back {n k : Nat} (h : k < n) : nI n - 1 - nI k = nI (n - 1 - k) := by
  rw [show (nI n - 1 : Int32) = nI (n - 1) from by
    obtain ⟨m, rfl⟩ : ∃ m, n = m + 1 := ⟨n - 1, by omega⟩
    exact nI_pred m]
  exact pk_sub (by omega)
def mCopy (I : Nat → Nat → Int32) (x a y b n : Int32) : Int32 × (Nat → Nat → Int32) := if zlt x 8 = true ∧ zlt y 8 = true then (if I 87 x.toNatClampNeg < 0 ∨ I 87 y.toNatClampNeg < 0 then (-1000011, zup I 85 3 1) else if ¬ I 86 x.toNatClampNeg = I 86 y.toNatClampNeg then (-1000015, zup I 85 3 5) else if zhold a n (I 87 x.toNatClampNeg).toNatClampNeg = true ∧ zhold b n (I 87 y.toNatClampNeg).toNatClampNeg = true then (n, zup (zrow I 88 (zmv (I 88) (40 * x.toNatClampNeg + a.toNatClampNeg) (40 * y.toNatClampNeg + b.toNatClampNeg) 0 n.toNatClampNeg)) 85 3 0) else (-1000012, zup I 85 3 2)) else (-1000001, I)
theorem zhold_long {a n : Int32} {q : Nat} (hq : q ≤ 40) : zhold a n q = true ↔ ¬ a < 0 ∧ ¬ n < 0 ∧ ¬ (nI q).toInt64 < a.toInt64 + n.toInt64 := by
  unfold zhold
  rw [decide_eq_true_eq]
  have e0 : ((nI q).toInt64).toInt = q := by rw [Int32.toInt_toInt64, nI_toInt (by omega)]
  have hb := Int32.toInt_lt a
  have ha := Int32.le_toInt a
  have hb2 := Int32.toInt_lt n
  have ha2 := Int32.le_toInt n
  have es : (a.toInt64 + n.toInt64).toInt = a.toInt + n.toInt := by
    rw [Int64.toInt_add, Int32.toInt_toInt64, Int32.toInt_toInt64]
    exact Int.bmod_eq_of_le (by omega) (by omega)
  simp only [Int32.lt_iff_toInt_lt, Int64.lt_iff_toInt_lt, Int32.toInt_zero, e0, es]
  omega
set_option maxRecDepth 100000 in
set_option maxHeartbeats 4000000 in
theorem mcp_loop {l : zL} {I : Nat → Nat → Int32} {J : Nat → Nat → Int64} {nw : Bool} (i a j b n : Nat) (hi : i < 8) (hj : j < 8) (ha : a + n ≤ 40) (hb : b + n ≤ 40) {Q : Option Value → zH → Prop} (hQ : ∀ v w : Value, v.category = 1 → w.category = 1 → zW l mX9_copy SH.length (zsl SH) 182 [.ref 85, .int (nI i), .int (nI a), .int (nI j), .int (nI b), .int (nI n), v, w] [] (zrow I 88 (zmv (I 88) (40 * i + a) (40 * j + b) 0 n), J, RF nw, SH) Q) : ∀ (f k : Nat) (w : Value), w.category = 1 → k ≤ n → n - k < f →
    zW l mX9_copy SH.length (zsl SH) 120 [.ref 85, .int (nI i), .int (nI a), .int (nI j), .int (nI b), .int (nI n), .int (nI k), w] [] (zrow I 88 (zmv (I 88) (40 * i + a) (40 * j + b) (if nI b ≤ nI a then 0 else n - k) (if nI b ≤ nI a then k else n)), J, RF nw, SH) Q
  | 0, k, _, _, _, hf => by omega
  | f + 1, k, w, hw, hk, hf => by
    refine z_iload_6 (pc := 120) dX9_copy_120 ?_
    refine z_iload_5 (pc := 122) dX9_copy_122 ?_
    refine z_icmp_ge (pc := 124) (tgt := 182) dX9_copy_124 (by decide) (fun c124 => ?_) (fun c124 => ?_)
    · skip
      have hkn : k = n := by
        rcases Nat.lt_or_ge k n with q | q
        · exact absurd c124 (nI_ge q (by omega))
        · omega
      rw [hkn, show (if nI b ≤ nI a then 0 else n - n) = 0 from by rw [Nat.sub_self, ite_self], ite_self]
      exact hQ _ _ rfl hw
    · skip
      have hlt : k < n := by
        rcases Nat.lt_or_ge k n with q | q
        · exact q
        · exact absurd (nI_le q (by omega)) c124
      refine z_iload_4 (pc := 127) dX9_copy_127 ?_
      refine z_iload_2 (pc := 129) dX9_copy_129 ?_
      refine z_icmp_le (pc := 130) (tgt := 143) dX9_copy_130 (by decide) (fun c130 => ?_) (fun c130 => ?_)
      · skip
        have hba : b ≤ a := by
          rcases Nat.lt_or_ge a b with q | q
          · exact absurd c130 (nI_ge q (by omega))
          · exact q
        refine z_iload_6 (pc := 143) dX9_copy_143 ?_
        refine z_istore_7 (pc := 145) dX9_copy_145 (by decide) rfl ?_
        refine z_aload_0 (pc := 147) dX9_copy_147 ?_
        refine y_getR (pc := 148) dX9_copy_148 flX9_16 rfl (by first | rfl | assumption) (by first | rfl | assumption) ?_
        refine z_bipush (pc := 151) (40) dX9_copy_151 rfl ?_
        refine z_iload_3 (pc := 153) dX9_copy_153 ?_
        refine z_imul (pc := 154) dX9_copy_154 ?_
        refine z_iload_4 (pc := 155) dX9_copy_155 ?_
        refine z_iadd (pc := 157) dX9_copy_157 ?_
        refine z_iload_7 (pc := 158) dX9_copy_158 ?_
        refine z_iadd (pc := 160) dX9_copy_160 ?_
        refine z_aload_0 (pc := 161) dX9_copy_161 ?_
        refine y_getR (pc := 162) dX9_copy_162 flX9_16 rfl (by first | rfl | assumption) (by first | rfl | assumption) ?_
        refine z_bipush (pc := 165) (40) dX9_copy_165 rfl ?_
        refine z_iload_1 (pc := 167) dX9_copy_167 ?_
        refine z_imul (pc := 168) dX9_copy_168 ?_
        refine z_iload_2 (pc := 169) dX9_copy_169 ?_
        refine z_iadd (pc := 170) dX9_copy_170 ?_
        refine z_iload_7 (pc := 171) dX9_copy_171 ?_
        refine z_iadd (pc := 173) dX9_copy_173 ?_
        refine y_ialdN (pc := 174) (40 * i + a + k) dX9_copy_174 (by first | rfl | assumption) (by rw [nI_40, nI_add]) (by omega) (by first | decide | omega) ?_
        refine y_iastN (pc := 175) (40 * j + b + k) dX9_copy_175 (by first | rfl | assumption) (by rw [nI_40, nI_add]) (by omega) (by first | decide | omega) ?_
        refine z_iinc_6 (pc := 176) (1) dX9_copy_176 rfl (by decide) rfl ?_
        refine z_goto (pc := 179) (tgt := 120) dX9_copy_179 (by decide) ?_
        rw [if_pos c130, if_pos c130, zrow_at, zrow_up, zmv_asc (I 88) (n := n) (by omega) hlt, ← nI_succ]
        have kk := mcp_loop i a j b n hi hj ha hb hQ f (k + 1) (.int (nI k)) rfl (by omega) (by omega)
        rw [if_pos c130, if_pos c130] at kk
        exact kk
      · skip
        have hba : a < b := by
          rcases Nat.lt_or_ge a b with q | q
          · exact q
          · exact absurd (nI_le q (by omega)) c130
        refine z_iload_5 (pc := 133) dX9_copy_133 ?_
        refine z_iconst (pc := 135) (1) dX9_copy_135 rfl ?_
        refine z_isub (pc := 136) dX9_copy_136 ?_
        refine z_iload_6 (pc := 137) dX9_copy_137 ?_
        refine z_isub (pc := 139) dX9_copy_139 ?_
        rw [nI_back hlt]
        refine z_goto (pc := 140) (tgt := 145) dX9_copy_140 (by decide) ?_
        refine z_istore_7 (pc := 145) dX9_copy_145 (by decide) rfl ?_
        refine z_aload_0 (pc := 147) dX9_copy_147 ?_
        refine y_getR (pc := 148) dX9_copy_148 flX9_16 rfl (by first | rfl | assumption) (by first | rfl | assumption) ?_
        refine z_bipush (pc := 151) (40) dX9_copy_151 rfl ?_
        refine z_iload_3 (pc := 153) dX9_copy_153 ?_
        refine z_imul (pc := 154) dX9_copy_154 ?_
        refine z_iload_4 (pc := 155) dX9_copy_155 ?_
        refine z_iadd (pc := 157) dX9_copy_157 ?_
        refine z_iload_7 (pc := 158) dX9_copy_158 ?_
        refine z_iadd (pc := 160) dX9_copy_160 ?_
        refine z_aload_0 (pc := 161) dX9_copy_161 ?_
        refine y_getR (pc := 162) dX9_copy_162 flX9_16 rfl (by first | rfl | assumption) (by first | rfl | assumption) ?_
        refine z_bipush (pc := 165) (40) dX9_copy_165 rfl ?_
        refine z_iload_1 (pc := 167) dX9_copy_167 ?_
        refine z_imul (pc := 168) dX9_copy_168 ?_
        refine z_iload_2 (pc := 169) dX9_copy_169 ?_
        refine z_iadd (pc := 170) dX9_copy_170 ?_
        refine z_iload_7 (pc := 171) dX9_copy_171 ?_
        refine z_iadd (pc := 173) dX9_copy_173 ?_
        refine y_ialdN (pc := 174) (40 * i + a + (n - 1 - k)) dX9_copy_174 (by first | rfl | assumption) (by rw [nI_40, nI_add]) (by omega) (by first | decide | omega) ?_
        refine y_iastN (pc := 175) (40 * j + b + (n - 1 - k)) dX9_copy_175 (by first | rfl | assumption) (by rw [nI_40, nI_add]) (by omega) (by first | decide | omega) ?_
        refine z_iinc_6 (pc := 176) (1) dX9_copy_176 rfl (by decide) rfl ?_
        refine z_goto (pc := 179) (tgt := 120) dX9_copy_179 (by decide) ?_
        rw [if_neg c130, if_neg c130, zrow_at, zrow_up, zmv_desc (I 88) (n := n) (by omega) hlt, ← nI_succ]
        have kk := mcp_loop i a j b n hi hj ha hb hQ f (k + 1) (.int (nI (n - 1 - k))) rfl (by omega) (by omega)
        rw [if_neg c130, if_neg c130] at kk
        exact kk
set_option maxRecDepth 100000 in
set_option maxHeartbeats 4000000 in
theorem qX9_copy {l : zL} {I : Nat → Nat → Int32} {J : Nat → Nat → Int64} {nw : Bool} (hR : ∀ r, r < 8 → I 87 r = -1 ∨ ∃ q, q ≤ 40 ∧ I 87 r = nI q) {x a y b n : Int32} : zP l mX9_copy [.ref 85, .int x, .int a, .int y, .int b, .int n] (hh I J nw) (zPM (mCopy I x a y b n) J nw) := by
  refine z_start [.ref 85, .int x, .int a, .int y, .int b, .int n, zno, zno] (by decide +kernel) (Nat.le_of_ble_eq_true rfl) rfl ?_
  refine z_iload_1 (pc := 0) dX9_copy_0 ?_
  refine z_S1 (pc := 1) dX9_copy_1 mlX9_64 kX9_isRow vX9_isRow (by decide) (by decide) (Nat.le_of_ble_eq_true rfl) (qX9_isRow) ⟨Nat.le_refl _, Nat.le_refl _⟩ (fun r h1 hq => ?_)
  obtain ⟨rfl, rfl⟩ := hq
  refine z_if_eq (pc := 4) (tgt := 14) dX9_copy_4 (by decide) (fun c4 => ?_) (fun c4 => ?_)
  · skip
    refine z_ldc (pc := 14) dX9_copy_14 kcX9_70 ?_
    refine z_ret (pc := 16) (r := some (.int _)) rfl dX9_copy_16 trivial rfl rfl ?_
    refine zPM_of ?_
    unfold mCopy
    rw [if_neg (fun q => by rw [(zbb0 _).mp c4] at q; exact absurd q.1 (by decide))]
  · skip
    refine z_iload_3 (pc := 7) dX9_copy_7 ?_
    refine z_S1 (pc := 8) dX9_copy_8 mlX9_64 kX9_isRow vX9_isRow (by decide) (by decide) (Nat.le_of_ble_eq_true rfl) (qX9_isRow) ⟨Nat.le_refl _, Nat.le_refl _⟩ (fun r h1 hq => ?_)
    obtain ⟨rfl, rfl⟩ := hq
    refine z_if_ne (pc := 11) (tgt := 17) dX9_copy_11 (by decide) (fun c11 => ?_) (fun c11 => ?_)
    · skip
      obtain ⟨i, hi, rfl⟩ := zlt_nI (by decide) ((zbb1 _).mp c4)
      have hcl : (nI i).toNatClampNeg = i := nI_clamp (by omega)
      obtain ⟨j, hj, rfl⟩ := zlt_nI (by decide) ((zbb1 _).mp c11)
      have hcl2 : (nI j).toNatClampNeg = j := nI_clamp (by omega)
      have hqq : zlt (nI i) 8 = true ∧ zlt (nI j) 8 = true := ⟨zlt_of hi (by decide), zlt_of hj (by decide)⟩
      refine z_aload_0 (pc := 17) dX9_copy_17 ?_
      refine y_getR (pc := 18) dX9_copy_18 flX9_13 rfl (by first | rfl | assumption) (by first | rfl | assumption) ?_
      refine z_iload_1 (pc := 21) dX9_copy_21 ?_
      refine y_ialdN (pc := 22) (i) dX9_copy_22 (by first | rfl | assumption) (rfl) (by omega) (by first | decide | omega) ?_
      refine z_if_lt (pc := 23) (tgt := 35) dX9_copy_23 (by decide) (fun c23 => ?_) (fun c23 => ?_)
      · skip
        refine z_aload_0 (pc := 35) dX9_copy_35 ?_
        refine z_iconst (pc := 36) (1) dX9_copy_36 rfl ?_
        refine z_V1 (pc := 37) dX9_copy_37 mlX9_71 kX9_found vX9_found (by decide) (by decide) (by first | rfl | assumption) (Nat.le_of_ble_eq_true rfl) (qX9_found) ⟨Nat.le_refl _, Nat.le_refl _⟩ (fun r h1 hq => ?_)
        obtain ⟨rfl, rfl⟩ := hq
        refine z_ret (pc := 40) (r := some (.int _)) rfl dX9_copy_40 trivial rfl rfl ?_
        refine zPM_of ?_
        unfold mCopy
        rw [if_pos hqq, hcl, hcl2, if_pos (Or.inl c23)]
        rfl
      · skip
        refine z_aload_0 (pc := 26) dX9_copy_26 ?_
        refine y_getR (pc := 27) dX9_copy_27 flX9_13 rfl (by first | rfl | assumption) (by first | rfl | assumption) ?_
        refine z_iload_3 (pc := 30) dX9_copy_30 ?_
        refine y_ialdN (pc := 31) (j) dX9_copy_31 (by first | rfl | assumption) (rfl) (by omega) (by first | decide | omega) ?_
        refine z_if_ge (pc := 32) (tgt := 41) dX9_copy_32 (by decide) (fun c32 => ?_) (fun c32 => ?_)
        · skip
          have hge : ∀ r, r < 8 → 0 ≤ I 87 r → ∃ q, q ≤ 40 ∧ I 87 r = nI q := by
            intro r hr h0
            rcases hR r hr with z | z
            · rw [z] at h0; exact absurd h0 (by decide)
            · exact z
          obtain ⟨q, hq, eq⟩ := hge i hi (Int32.not_lt.mp c23)
          obtain ⟨q2, hq2, eq2⟩ := hge j hj c32
          have hcq : (nI q).toNatClampNeg = q := nI_clamp (by omega)
          have hcq2 : (nI q2).toNatClampNeg = q2 := nI_clamp (by omega)
          have hno : ¬ (I 87 i < 0 ∨ I 87 j < 0) := fun z => z.elim c23 (Int32.not_lt.mpr c32)
          refine z_aload_0 (pc := 41) dX9_copy_41 ?_
          refine y_getR (pc := 42) dX9_copy_42 flX9_7 rfl (by first | rfl | assumption) (by first | rfl | assumption) ?_
          refine z_iload_1 (pc := 45) dX9_copy_45 ?_
          refine y_ialdN (pc := 46) (i) dX9_copy_46 (by first | rfl | assumption) (rfl) (by omega) (by first | decide | omega) ?_
          refine z_aload_0 (pc := 47) dX9_copy_47 ?_
          refine y_getR (pc := 48) dX9_copy_48 flX9_7 rfl (by first | rfl | assumption) (by first | rfl | assumption) ?_
          refine z_iload_3 (pc := 51) dX9_copy_51 ?_
          refine y_ialdN (pc := 52) (j) dX9_copy_52 (by first | rfl | assumption) (rfl) (by omega) (by first | decide | omega) ?_
          refine z_icmp_eq (pc := 53) (tgt := 62) dX9_copy_53 (by decide) (fun c53 => ?_) (fun c53 => ?_)
          · skip
            refine z_iload_2 (pc := 62) dX9_copy_62 ?_
            refine z_if_lt (pc := 63) (tgt := 111) dX9_copy_63 (by decide) (fun c63 => ?_) (fun c63 => ?_)
            · skip
              refine z_aload_0 (pc := 111) dX9_copy_111 ?_
              refine z_iconst (pc := 112) (2) dX9_copy_112 rfl ?_
              refine z_V1 (pc := 113) dX9_copy_113 mlX9_71 kX9_found vX9_found (by decide) (by decide) (by first | rfl | assumption) (Nat.le_of_ble_eq_true rfl) (qX9_found) ⟨Nat.le_refl _, Nat.le_refl _⟩ (fun r h1 hq => ?_)
              obtain ⟨rfl, rfl⟩ := hq
              refine z_ret (pc := 116) (r := some (.int _)) rfl dX9_copy_116 trivial rfl rfl ?_
              refine zPM_of ?_
              unfold mCopy
              rw [if_pos hqq, hcl, hcl2, if_neg hno, if_neg (fun z => z c53), eq, eq2, hcq, hcq2, if_neg (fun z => ((zhold_long hq).mp z.1).1 c63)]
              rfl
            · skip
              refine z_iload_4 (pc := 66) dX9_copy_66 ?_
              refine z_if_lt (pc := 68) (tgt := 111) dX9_copy_68 (by decide) (fun c68 => ?_) (fun c68 => ?_)
              · skip
                refine z_aload_0 (pc := 111) dX9_copy_111 ?_
                refine z_iconst (pc := 112) (2) dX9_copy_112 rfl ?_
                refine z_V1 (pc := 113) dX9_copy_113 mlX9_71 kX9_found vX9_found (by decide) (by decide) (by first | rfl | assumption) (Nat.le_of_ble_eq_true rfl) (qX9_found) ⟨Nat.le_refl _, Nat.le_refl _⟩ (fun r h1 hq => ?_)
                obtain ⟨rfl, rfl⟩ := hq
                refine z_ret (pc := 116) (r := some (.int _)) rfl dX9_copy_116 trivial rfl rfl ?_
                refine zPM_of ?_
                unfold mCopy
                rw [if_pos hqq, hcl, hcl2, if_neg hno, if_neg (fun z => z c53), eq, eq2, hcq, hcq2, if_neg (fun z => ((zhold_long hq2).mp z.2).1 c68)]
                rfl
              · skip
                refine z_iload_5 (pc := 71) dX9_copy_71 ?_
                refine z_if_lt (pc := 73) (tgt := 111) dX9_copy_73 (by decide) (fun c73 => ?_) (fun c73 => ?_)
                · skip
                  refine z_aload_0 (pc := 111) dX9_copy_111 ?_
                  refine z_iconst (pc := 112) (2) dX9_copy_112 rfl ?_
                  refine z_V1 (pc := 113) dX9_copy_113 mlX9_71 kX9_found vX9_found (by decide) (by decide) (by first | rfl | assumption) (Nat.le_of_ble_eq_true rfl) (qX9_found) ⟨Nat.le_refl _, Nat.le_refl _⟩ (fun r h1 hq => ?_)
                  obtain ⟨rfl, rfl⟩ := hq
                  refine z_ret (pc := 116) (r := some (.int _)) rfl dX9_copy_116 trivial rfl rfl ?_
                  refine zPM_of ?_
                  unfold mCopy
                  rw [if_pos hqq, hcl, hcl2, if_neg hno, if_neg (fun z => z c53), eq, eq2, hcq, hcq2, if_neg (fun z => ((zhold_long hq).mp z.1).2.1 c73)]
                  rfl
                · skip
                  refine z_iload_2 (pc := 76) dX9_copy_76 ?_
                  refine z_i2l (pc := 77) dX9_copy_77 ?_
                  refine z_iload_5 (pc := 78) dX9_copy_78 ?_
                  refine z_i2l (pc := 80) dX9_copy_80 ?_
                  refine z_ladd (pc := 81) dX9_copy_81 ?_
                  refine z_aload_0 (pc := 82) dX9_copy_82 ?_
                  refine y_getR (pc := 83) dX9_copy_83 flX9_13 rfl (by first | rfl | assumption) (by first | rfl | assumption) ?_
                  refine z_iload_1 (pc := 86) dX9_copy_86 ?_
                  refine y_ialdN (pc := 87) (i) dX9_copy_87 (by first | rfl | assumption) (rfl) (by omega) (by first | decide | omega) ?_
                  refine z_i2l (pc := 88) dX9_copy_88 ?_
                  refine z_lcmp (pc := 89) dX9_copy_89 ?_
                  refine z_if_gt (pc := 90) (tgt := 111) dX9_copy_90 (by decide) (fun c90 => ?_) (fun c90 => ?_)
                  · skip
                    refine z_aload_0 (pc := 111) dX9_copy_111 ?_
                    refine z_iconst (pc := 112) (2) dX9_copy_112 rfl ?_
                    refine z_V1 (pc := 113) dX9_copy_113 mlX9_71 kX9_found vX9_found (by decide) (by decide) (by first | rfl | assumption) (Nat.le_of_ble_eq_true rfl) (qX9_found) ⟨Nat.le_refl _, Nat.le_refl _⟩ (fun r h1 hq => ?_)
                    obtain ⟨rfl, rfl⟩ := hq
                    refine z_ret (pc := 116) (r := some (.int _)) rfl dX9_copy_116 trivial rfl rfl ?_
                    refine zPM_of ?_
                    unfold mCopy
                    rw [if_pos hqq, hcl, hcl2, if_neg hno, if_neg (fun z => z c53), eq, eq2, hcq, hcq2, if_neg (fun z => ((zhold_long hq).mp z.1).2.2 (by rw [lg_cmp_gt, eq] at c90; exact c90))]
                    rfl
                  · skip
                    refine z_iload_4 (pc := 93) dX9_copy_93 ?_
                    refine z_i2l (pc := 95) dX9_copy_95 ?_
                    refine z_iload_5 (pc := 96) dX9_copy_96 ?_
                    refine z_i2l (pc := 98) dX9_copy_98 ?_
                    refine z_ladd (pc := 99) dX9_copy_99 ?_
                    refine z_aload_0 (pc := 100) dX9_copy_100 ?_
                    refine y_getR (pc := 101) dX9_copy_101 flX9_13 rfl (by first | rfl | assumption) (by first | rfl | assumption) ?_
                    refine z_iload_3 (pc := 104) dX9_copy_104 ?_
                    refine y_ialdN (pc := 105) (j) dX9_copy_105 (by first | rfl | assumption) (rfl) (by omega) (by first | decide | omega) ?_
                    refine z_i2l (pc := 106) dX9_copy_106 ?_
                    refine z_lcmp (pc := 107) dX9_copy_107 ?_
                    refine z_if_le (pc := 108) (tgt := 117) dX9_copy_108 (by decide) (fun c108 => ?_) (fun c108 => ?_)
                    · skip
                      refine z_iconst (pc := 117) (0) dX9_copy_117 rfl ?_
                      refine z_istore_6 (pc := 118) dX9_copy_118 (by decide) rfl ?_
                      have h1 : zhold a n q = true := (zhold_long hq).mpr ⟨c63, c73, fun z => by rw [lg_cmp_gt, eq] at c90; exact c90 z⟩
                      have h2 : zhold b n q2 = true := (zhold_long hq2).mpr ⟨c68, c73, fun z => by rw [lg_cmp_le, eq2] at c108; exact Int64.not_le.mpr z c108⟩
                      obtain ⟨aa, nn, rfl, rfl, han⟩ := zhold_nI hq h1
                      obtain ⟨bb, nn2, rfl, hn2, hbn⟩ := zhold_nI hq2 h2
                      have hnn : nn = nn2 := (nI_eq (by omega) (by omega)).mp hn2
                      subst hnn
                      have hca : (nI aa).toNatClampNeg = aa := nI_clamp (by omega)
                      have hcb : (nI bb).toNatClampNeg = bb := nI_clamp (by omega)
                      have hcn : (nI nn).toNatClampNeg = nn := nI_clamp (by omega)
                      have k182 : ∀ v w : Value, v.category = 1 → w.category = 1 → zW l mX9_copy SH.length (zsl SH) 182 [.ref 85, .int (nI i), .int (nI aa), .int (nI j), .int (nI bb), .int (nI nn), v, w] [] (zrow I 88 (zmv (I 88) (40 * i + aa) (40 * j + bb) 0 nn), J, RF nw, SH) (zPM (mCopy I (nI i) (nI aa) (nI j) (nI bb) (nI nn)) J nw) := by
                        intro v w hv hw
                        refine z_aload_0 (pc := 182) dX9_copy_182 ?_
                        refine z_iload_5 (pc := 183) dX9_copy_183 ?_
                        refine z_V1 (pc := 185) dX9_copy_185 mlX9_75 kX9_well vX9_well (by decide) (by decide) (by first | rfl | assumption) (Nat.le_of_ble_eq_true rfl) (qX9_well) ⟨Nat.le_refl _, Nat.le_refl _⟩ (fun r h1 hq => ?_)
                        obtain ⟨rfl, rfl⟩ := hq
                        refine z_ret (pc := 188) (r := some (.int _)) rfl dX9_copy_188 trivial rfl rfl ?_
                        refine zPM_of ?_
                        unfold mCopy
                        rw [if_pos hqq, hcl, hcl2, if_neg hno, if_neg (fun z => z c53), eq, eq2, hcq, hcq2, if_pos ⟨h1, h2⟩, hca, hcb, hcn]
                      have k := mcp_loop (l := l) (I := I) (J := J) (nw := nw) i aa j bb nn hi hj (by omega) (by omega) k182 (nn + 1) 0 zno rfl (by omega) (by omega)
                      rw [show zmv (I 88) (40 * i + aa) (40 * j + bb) (if nI bb ≤ nI aa then 0 else nn - 0) (if nI bb ≤ nI aa then 0 else nn) = I 88 from by
                        by_cases hq : nI bb ≤ nI aa
                        · rw [if_pos hq, if_pos hq, zmv_0]
                        · rw [if_neg hq, if_neg hq, Nat.sub_zero, zmv_0], zrow_self, nI_0] at k
                      exact k
                    · skip
                      refine z_aload_0 (pc := 111) dX9_copy_111 ?_
                      refine z_iconst (pc := 112) (2) dX9_copy_112 rfl ?_
                      refine z_V1 (pc := 113) dX9_copy_113 mlX9_71 kX9_found vX9_found (by decide) (by decide) (by first | rfl | assumption) (Nat.le_of_ble_eq_true rfl) (qX9_found) ⟨Nat.le_refl _, Nat.le_refl _⟩ (fun r h1 hq => ?_)
                      obtain ⟨rfl, rfl⟩ := hq
                      refine z_ret (pc := 116) (r := some (.int _)) rfl dX9_copy_116 trivial rfl rfl ?_
                      refine zPM_of ?_
                      unfold mCopy
                      rw [if_pos hqq, hcl, hcl2, if_neg hno, if_neg (fun z => z c53), eq, eq2, hcq, hcq2, if_neg (fun z => ((zhold_long hq2).mp z.2).2.2 (by rw [lg_cmp_le, eq2] at c108; exact Int64.not_le.mp c108))]
                      rfl
          · skip
            refine z_aload_0 (pc := 56) dX9_copy_56 ?_
            refine z_iconst (pc := 57) (5) dX9_copy_57 rfl ?_
            refine z_V1 (pc := 58) dX9_copy_58 mlX9_71 kX9_found vX9_found (by decide) (by decide) (by first | rfl | assumption) (Nat.le_of_ble_eq_true rfl) (qX9_found) ⟨Nat.le_refl _, Nat.le_refl _⟩ (fun r h1 hq => ?_)
            obtain ⟨rfl, rfl⟩ := hq
            refine z_ret (pc := 61) (r := some (.int _)) rfl dX9_copy_61 trivial rfl rfl ?_
            refine zPM_of ?_
            unfold mCopy
            rw [if_pos hqq, hcl, hcl2, if_neg hno, if_pos c53]
            rfl
        · skip
          refine z_aload_0 (pc := 35) dX9_copy_35 ?_
          refine z_iconst (pc := 36) (1) dX9_copy_36 rfl ?_
          refine z_V1 (pc := 37) dX9_copy_37 mlX9_71 kX9_found vX9_found (by decide) (by decide) (by first | rfl | assumption) (Nat.le_of_ble_eq_true rfl) (qX9_found) ⟨Nat.le_refl _, Nat.le_refl _⟩ (fun r h1 hq => ?_)
          obtain ⟨rfl, rfl⟩ := hq
          refine z_ret (pc := 40) (r := some (.int _)) rfl dX9_copy_40 trivial rfl rfl ?_
          refine zPM_of ?_
          unfold mCopy
          rw [if_pos hqq, hcl, hcl2, if_pos (Or.inr (Int32.not_le.mp c32))]
          rfl
    · skip
      refine z_ldc (pc := 14) dX9_copy_14 kcX9_70 ?_
      refine z_ret (pc := 16) (r := some (.int _)) rfl dX9_copy_16 trivial rfl rfl ?_
      refine zPM_of ?_
      unfold mCopy
      rw [if_neg (fun q => by rw [(zbb0 _).mp c11] at q; exact absurd q.2 (by decide))]
