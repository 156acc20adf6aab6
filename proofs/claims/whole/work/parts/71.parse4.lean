theorem zbd_inv {r : zR3} {k : Nat → (Nat → Int32) → zR3} {a : Nat} {v : Nat → Int32} (h : zbd r k = (0, a, v)) : ∃ a1 v1, r = (0, a1, v1) ∧ k a1 v1 = (0, a, v) := by
  unfold zbd at h
  by_cases q : r.1 = 0
  · rw [if_pos q] at h; exact ⟨_, _, zok q, h⟩
  · rw [if_neg q] at h; rw [h] at q; exact absurd rfl q
theorem zdr_v {b : Nat → Nat} {s n a a1 : Nat} {v v1 : Nat → Int32} (h : zdr b s n a v = (0, a1, v1)) : n ≠ 6 ∧ ∃ q1 q2, q1 ≤ 12 ∧ q2 ≤ 5 ∧ v1 = upd (upd (upd (upd v (6 + n) (nI s)) 3 (nI (n + 1))) (12 + n) (nI q1)) (18 + n) (nI q2) := by
  unfold zdr at h
  by_cases h6 : n = 6
  · rw [if_pos h6] at h; exact absurd (congrArg (fun r : zR3 => r.1) h) (by dsimp only; decide)
  · rw [if_neg h6] at h
    obtain ⟨x1, y1, e1, h⟩ := zbd_inv h
    obtain ⟨x2, y2, e2, h⟩ := zbd_inv h
    obtain ⟨x3, y3, e3, h⟩ := zbd_inv h
    obtain ⟨q1, -, hq1, f1, -⟩ := znm_v e1
    obtain ⟨f2, -, -⟩ := zsg_v e2
    obtain ⟨q2, -, hq2, f3, -⟩ := znm_v e3
    obtain ⟨f4, -, -⟩ := zsg_v h
    exact ⟨h6, q1, q2, hq1, hq2, by rw [f4, f3, f2, f1]⟩
theorem zti_v {b : Nat → Nat} {n T a a1 : Nat} {v v1 : Nat → Int32} (h : zti b n T a v = (0, a1, v1)) : T ≠ 10 ∧ ∃ q1 q2, q1 ≤ n - 1 ∧ q2 ≤ n - 1 ∧ v1 = upd (upd (upd v (24 + T) (nI q1)) (34 + T) (nI q2)) 4 (nI (T + 1)) := by
  unfold zti at h
  by_cases h6 : T = 10
  · rw [if_pos h6] at h; exact absurd (congrArg (fun r : zR3 => r.1) h) (by dsimp only; decide)
  · rw [if_neg h6] at h
    obtain ⟨x1, y1, e1, h⟩ := zbd_inv h
    obtain ⟨x2, y2, e2, h⟩ := zbd_inv h
    obtain ⟨x3, y3, e3, h⟩ := zbd_inv h
    obtain ⟨q1, -, hq1, f1, -⟩ := znm_v e1
    obtain ⟨f2, -, -⟩ := zsg_v e2
    obtain ⟨q2, -, hq2, f3, -⟩ := znm_v e3
    by_cases hw : zwl y3 T T = true
    · rw [if_pos hw] at h
      obtain ⟨f4, -, -⟩ := zsg_v h
      exact ⟨h6, q1, q2, hq1, hq2, by rw [f4, f3, f2, f1]⟩
    · rw [if_neg hw] at h; exact absurd (congrArg (fun r : zR3 => r.1) h) (by dsimp only; decide)
def zMz (I : Nat → Nat → Int32) (J : Nat → Nat → Int64) (nw : Bool) (R : zR3) : Option Value → zH → Prop := fun r h1 => r = some (.int (zbb (decide (R.1 = 0)))) ∧ ∃ I2, h1 = (I2, J, RF nw, SH) ∧ (R.1 = 0 → zMs I I2 ∧ ∀ q, q < 66 → I2 95 q = R.2.2 q) ∧ (¬ R.1 = 0 → zMf I I2 R.1 R.2.1)
/-- a town as far as it is read -/
def zPv (v : Nat → Int32) (n T : Nat) : Prop := n ≤ 6 ∧ v 3 = nI n ∧ T ≤ 10 ∧ v 4 = nI T ∧ (∀ d, d < n → ∃ k, 1 ≤ k ∧ k ≤ 5 ∧ v (6 + d) = nI k) ∧ (∀ k, k < T → ∃ q, q < n ∧ v (24 + k) = nI q) ∧ (∀ k, k < T → ∃ q, q < n ∧ v (34 + k) = nI q) ∧ v 5 = 0 ∧ ∀ b, 44 ≤ b → b < 66 → v b = 0
def zitm (b : Nat → Nat) (a : Nat) (v : Nat → Int32) : zR3 := if ¬ zsrt (b a) = 0 ∧ v 4 = 0 then zdr b (zsrt (b a)) (v 3).toNatClampNeg a v else if b a = 116 ∧ 0 < (v 3).toNatClampNeg then zti b (v 3).toNatClampNeg (v 4).toNatClampNeg a v else (1, a, v)
def zrst (b : Nat → Nat) : Nat → Nat → (Nat → Int32) → zR3
  | 0, a, v => (1, a, v)
  | f + 1, a, v => if b a = 999 then (if 0 < (v 3).toNatClampNeg then (0, a, v) else (1, a, v)) else zbd (zitm b a v) (fun a v => zrst b f a v)
theorem zPv_dr {b : Nat → Nat} {s n a a1 : Nat} {v v1 : Nat → Int32} (h : zPv v n 0) (hs : 1 ≤ s ∧ s ≤ 5) (e : zdr b s n a v = (0, a1, v1)) : zPv v1 (n + 1) 0 := by
  obtain ⟨h6, q1, q2, hq1, hq2, rfl⟩ := zdr_v e
  obtain ⟨p1, p2, p3, p4, p5, p6, p7, p8, p9⟩ := h
  refine ⟨by omega, by rw [pk_un (by omega), pk_un (by omega), pk_us], p3, by rw [pk_un (by omega), pk_un (by omega), pk_un (by omega), pk_un (by omega)]; exact p4, fun d hd => ?_, fun k hk => by omega, fun k hk => by omega, by rw [pk_un (by omega), pk_un (by omega), pk_un (by omega), pk_un (by omega)]; exact p8, fun b h1 h2 => by rw [pk_un (by omega), pk_un (by omega), pk_un (by omega), pk_un (by omega)]; exact p9 b h1 h2⟩
  rw [pk_un (by omega), pk_un (by omega), pk_un (by omega)]
  by_cases q : d = n
  · subst q; rw [pk_us]; exact ⟨s, hs.1, hs.2, rfl⟩
  · rw [pk_un (by omega)]; exact p5 d (by omega)
theorem zPv_ti {b : Nat → Nat} {n T a a1 : Nat} {v v1 : Nat → Int32} (h : zPv v n T) (hn : 0 < n) (e : zti b n T a v = (0, a1, v1)) : zPv v1 n (T + 1) := by
  obtain ⟨h6, q1, q2, hq1, hq2, rfl⟩ := zti_v e
  obtain ⟨p1, p2, p3, p4, p5, p6, p7, p8, p9⟩ := h
  refine ⟨p1, by rw [pk_un (by omega), pk_un (by omega), pk_un (by omega)]; exact p2, by omega, by rw [pk_us], fun d hd => by rw [pk_un (by omega), pk_un (by omega), pk_un (by omega)]; exact p5 d hd, fun k hk => ?_, fun k hk => ?_, by rw [pk_un (by omega), pk_un (by omega), pk_un (by omega)]; exact p8, fun b h1 h2 => by rw [pk_un (by omega), pk_un (by omega), pk_un (by omega)]; exact p9 b h1 h2⟩
  · rw [pk_un (by omega), pk_un (by omega)]
    by_cases q : k = T
    · subst q; rw [pk_us]; exact ⟨q1, by omega, rfl⟩
    · rw [pk_un (by omega)]; exact p6 k (by omega)
  · rw [pk_un (by omega)]
    by_cases q : k = T
    · subst q; rw [pk_us]; exact ⟨q2, by omega, rfl⟩
    · rw [pk_un (by omega), pk_un (by omega)]; exact p7 k (by omega)
theorem zPv_it {b : Nat → Nat} {n T a a1 : Nat} {v v1 : Nat → Int32} (h : zPv v n T) (e : zitm b a v = (0, a1, v1)) : ∃ n1 T1, zPv v1 n1 T1 ∧ n1 + T1 = n + T + 1 := by
  have hcn : (v 3).toNatClampNeg = n := by rw [h.2.1]; exact nI_clamp (by have := h.1; omega)
  have hcT : (v 4).toNatClampNeg = T := by rw [h.2.2.2.1]; exact nI_clamp (by have := h.2.2.1; omega)
  unfold zitm at e
  rw [hcn, hcT] at e
  by_cases q : ¬ zsrt (b a) = 0 ∧ v 4 = 0
  · rw [if_pos q] at e
    have hT0 : T = 0 := by
      have := q.2
      rw [h.2.2.2.1] at this
      exact (nI_is (by have := h.2.2.1; omega) (by decide) rfl).mp this
    subst hT0
    have := zsrt_lt (b a)
    exact ⟨n + 1, 0, zPv_dr h (by omega) e, by omega⟩
  · rw [if_neg q] at e
    by_cases q2 : b a = 116 ∧ 0 < n
    · rw [if_pos q2] at e
      exact ⟨n, T + 1, zPv_ti h q2.2 e, by omega⟩
    · rw [if_neg q2] at e; exact absurd (congrArg (fun r : zR3 => r.1) e) (by dsimp only; decide)
theorem zsrt_az {c : Nat} (h : ¬ zsrt c = 0) : 97 ≤ c ∧ c ≤ 122 := by
  unfold zsrt at h
  by_cases h1 : c = 100
  · omega
  · rw [if_neg h1] at h
    by_cases h2 : c = 103
    · omega
    · rw [if_neg h2] at h
      by_cases h3 : c = 119
      · omega
      · rw [if_neg h3] at h
        by_cases h4 : c = 98
        · omega
        · rw [if_neg h4] at h
          by_cases h5 : c = 114
          · omega
          · rw [if_neg h5] at h; exact absurd rfl h
set_option maxRecDepth 100000 in
set_option maxHeartbeats 4000000 in
theorem mreads_loop {l : zL} {I : Nat → Nat → Int32} {J : Nat → Nat → Int64} {nw : Bool} {b : Nat → Nat} {L : Nat} (hT : zTp I b L) : ∀ (f a n T : Nat) (v : Nat → Int32) (I1 : Nat → Nat → Int32) (v1 v2 : Value), v1.category = 1 → zPv v n T → 17 ≤ f + n + T → a ≤ 120 → zMn I I1 v b a →
    zW l mX9_reads SH.length (zsl SH) 39 [.ref 85, v1, v2] [] (I1, J, RF nw, SH) (zMz I J nw (zrst b f a v))
  | 0, a, n, T, v, I1, _, _, _, hP, hf, _, _ => by have := hP.1; have := hP.2.2.1; omega
  | f + 1, a, n, T, v, I1, v1, v2, hc1, hP, hf, ha, hN => by
    obtain ⟨hs, h95, h16, h17, h18, h215, h115⟩ := hN
    have htl := ztk_lt b a
    have hbb := zTp_b hT a
    have hn6 := hP.1
    have hT10 := hP.2.2.1
    have hcn : (v 3).toNatClampNeg = n := by rw [hP.2.1]; exact nI_clamp (by omega)
    have hcT : (v 4).toNatClampNeg = T := by rw [hP.2.2.2.1]; exact nI_clamp (by omega)
    have h953 : I1 95 3 = nI n := by rw [h95 3 (by decide)]; exact hP.2.1
    have h954 : I1 95 4 = nI T := by rw [h95 4 (by decide)]; exact hP.2.2.2.1
    have k1 : nI (ztk b a) = 1 → 97 ≤ b a ∧ b a ≤ 122 ∧ I1 85 18 = nI (b a) ∧ I1 85 15 = nI (a + 1) := fun z => by
      have et : ztk b a = 1 := (nI_is (by omega) (by decide) rfl).mp z
      exact ⟨(ztk_1.mp et).1, (ztk_1.mp et).2, h18 et, h115 (Or.inl et)⟩
    have s9 : zsrt 999 = 0 := by decide
    refine z_aload_0 (pc := 39) dX9_reads_39 ?_
    refine y_getI (pc := 40) dX9_reads_40 flX9_104 rfl (by first | rfl | assumption) ?_
    rw [h17]
    refine z_if_eq (pc := 43) (tgt := 152) dX9_reads_43 (by decide) (fun c43 => ?_) (fun c43 => ?_)
    · skip
      refine z_aload_0 (pc := 152) dX9_reads_152 ?_
      refine y_getR (pc := 153) dX9_reads_153 flX9_38 rfl (by first | rfl | assumption) (by first | rfl | assumption) ?_
      refine z_iconst (pc := 156) (3) dX9_reads_156 rfl ?_
      refine y_ialdN (pc := 157) (3) dX9_reads_157 (by first | rfl | assumption) (rfl) (by decide) (by first | decide | omega) ?_
      rw [h953]
      refine z_if_gt (pc := 158) (tgt := 169) dX9_reads_158 (by decide) (fun c158 => ?_) (fun c158 => ?_)
      · skip
        refine z_iconst (pc := 169) (1) dX9_reads_169 rfl ?_
        refine z_goto (pc := 170) (tgt := 174) dX9_reads_170 (by decide) ?_
        refine z_ret (pc := 174) (r := some (.int _)) rfl dX9_reads_174 (by first | exact Or.inl rfl | exact Or.inr rfl | assumption) rfl rfl ?_
        have h999 : b a = 999 := ztk_0.mp ((nI_is (by omega) (by decide) rfl).mp c43)
        have hn0 : 0 < n := by
          rcases Nat.eq_zero_or_pos n with z | z
          · rw [z] at c158; exact absurd c158 (by decide)
          · exact z
        have eR : zrst b (f + 1) a v = (0, a, v) := by rw [zrst, if_pos h999, hcn, if_pos hn0]
        rw [eR]
        exact ⟨rfl, _, rfl, fun _ => ⟨hs, h95⟩, fun z => absurd rfl z⟩
      · skip
        refine z_aload_0 (pc := 161) dX9_reads_161 ?_
        refine z_iconst (pc := 162) (1) dX9_reads_162 rfl ?_
        refine z_V1 (pc := 163) dX9_reads_163 mlX9_116 kX9_fails vX9_fails (by decide) (by decide) (by first | rfl | assumption) (Nat.le_of_ble_eq_true rfl) (qX9_fails) ⟨Nat.le_refl _, Nat.le_refl _⟩ (fun r h1 hq => ?_)
        obtain ⟨rfl, rfl⟩ := hq
        refine z_if_eq (pc := 166) (tgt := 173) dX9_reads_166 (by decide) (fun c166 => ?_) (fun c166 => ?_)
        · skip
          refine z_iconst (pc := 173) (0) dX9_reads_173 rfl ?_
          refine z_ret (pc := 174) (r := some (.int _)) rfl dX9_reads_174 (by first | exact Or.inl rfl | exact Or.inr rfl | assumption) rfl rfl ?_
          have h999 : b a = 999 := ztk_0.mp ((nI_is (by omega) (by decide) rfl).mp c43)
          have hn0 : ¬ 0 < n := fun z => c158 (nI_lt (a := 0) z (by omega))
          have eR : zrst b (f + 1) a v = (1, a, v) := by rw [zrst, if_pos h999, hcn, if_neg hn0]
          rw [eR]
          exact ⟨rfl, _, rfl, fun z => absurd (show (1 : Nat) = 0 from z) (by decide), fun _ => zMf_of hs h16 rfl⟩
        · exact absurd rfl c166
    · skip
      have h999 : ¬ b a = 999 := fun z => c43 (by rw [ztk_0.mpr z]; rfl)
      refine z_aload_0 (pc := 46) dX9_reads_46 ?_
      refine y_getI (pc := 47) dX9_reads_47 flX9_104 rfl (by first | rfl | assumption) ?_
      rw [h17]
      refine z_iconst (pc := 50) (1) dX9_reads_50 rfl ?_
      refine z_icmp_ne (pc := 51) (tgt := 73) dX9_reads_51 (by decide) (fun c51 => ?_) (fun c51 => ?_)
      · skip
        refine z_iconst (pc := 73) (0) dX9_reads_73 rfl ?_
        refine z_istore_1 (pc := 74) dX9_reads_74 (by decide) rfl ?_
        refine z_aload_0 (pc := 75) dX9_reads_75 ?_
        refine y_getI (pc := 76) dX9_reads_76 flX9_104 rfl (by first | rfl | assumption) ?_
        rw [h17]
        refine z_iconst (pc := 79) (1) dX9_reads_79 rfl ?_
        refine z_icmp_ne (pc := 80) (tgt := 105) dX9_reads_80 (by decide) (fun c80 => ?_) (fun c80 => ?_)
        · skip
          refine z_iconst (pc := 105) (0) dX9_reads_105 rfl ?_
          refine z_istore_2 (pc := 106) dX9_reads_106 (by decide) rfl ?_
          refine z_iload_1 (pc := 107) dX9_reads_107 ?_
          refine z_if_ne (pc := 108) (tgt := 121) dX9_reads_108 (by decide) (fun c108 => ?_) (fun c108 => ?_)
          · exact absurd rfl c108
          · skip
            refine z_iload_2 (pc := 111) dX9_reads_111 ?_
            refine z_if_ne (pc := 112) (tgt := 121) dX9_reads_112 (by decide) (fun c112 => ?_) (fun c112 => ?_)
            · exact absurd rfl c112
            · skip
              refine z_aload_0 (pc := 115) dX9_reads_115 ?_
              refine z_iconst (pc := 116) (1) dX9_reads_116 rfl ?_
              refine z_V1 (pc := 117) dX9_reads_117 mlX9_116 kX9_fails vX9_fails (by decide) (by decide) (by first | rfl | assumption) (Nat.le_of_ble_eq_true rfl) (qX9_fails) ⟨Nat.le_refl _, Nat.le_refl _⟩ (fun r h1 hq => ?_)
              obtain ⟨rfl, rfl⟩ := hq
              refine z_ret (pc := 120) (r := some (.int _)) rfl dX9_reads_120 (by first | exact Or.inl rfl | exact Or.inr rfl | assumption) rfl rfl ?_
              have eI : zitm b a v = (1, a, v) := by
                unfold zitm
                rw [if_neg (fun z => c51 (by rw [ztk_1.mpr (zsrt_az z.1)]; rfl)), hcn, if_neg (fun z => c51 (by rw [ztk_1.mpr (by omega)]; rfl))]
              have eR : zrst b (f + 1) a v = (1, a, v) := by
                rw [zrst, if_neg h999, eI]; rfl
              rw [eR]
              exact ⟨rfl, _, rfl, fun z => absurd (show (1 : Nat) = 0 from z) (by decide), fun _ => zMf_of hs h16 rfl⟩
        · exact absurd c80 c51
      · skip
        obtain ⟨k97, k122, k18, k15⟩ := k1 c51
        have hba : ¬ b a = 999 := by omega
        refine z_aload_0 (pc := 54) dX9_reads_54 ?_
        refine y_getR (pc := 55) dX9_reads_55 flX9_38 rfl (by first | rfl | assumption) (by first | rfl | assumption) ?_
        refine z_iconst (pc := 58) (4) dX9_reads_58 rfl ?_
        refine y_ialdN (pc := 59) (4) dX9_reads_59 (by first | rfl | assumption) (rfl) (by decide) (by first | decide | omega) ?_
        rw [h954]
        refine z_if_ne (pc := 60) (tgt := 73) dX9_reads_60 (by decide) (fun c60 => ?_) (fun c60 => ?_)
        · skip
          refine z_iconst (pc := 73) (0) dX9_reads_73 rfl ?_
          refine z_istore_1 (pc := 74) dX9_reads_74 (by decide) rfl ?_
          refine z_aload_0 (pc := 75) dX9_reads_75 ?_
          refine y_getI (pc := 76) dX9_reads_76 flX9_104 rfl (by first | rfl | assumption) ?_
          rw [h17]
          refine z_iconst (pc := 79) (1) dX9_reads_79 rfl ?_
          refine z_icmp_ne (pc := 80) (tgt := 105) dX9_reads_80 (by decide) (fun c80 => ?_) (fun c80 => ?_)
          · exact absurd c51 c80
          · skip
            refine z_aload_0 (pc := 83) dX9_reads_83 ?_
            refine y_getI (pc := 84) dX9_reads_84 flX9_107 rfl (by first | rfl | assumption) ?_
            rw [k18]
            refine z_bipush (pc := 87) (116) dX9_reads_87 rfl ?_
            refine z_icmp_ne (pc := 89) (tgt := 105) dX9_reads_89 (by decide) (fun c89 => ?_) (fun c89 => ?_)
            · skip
              refine z_iconst (pc := 105) (0) dX9_reads_105 rfl ?_
              refine z_istore_2 (pc := 106) dX9_reads_106 (by decide) rfl ?_
              refine z_iload_1 (pc := 107) dX9_reads_107 ?_
              refine z_if_ne (pc := 108) (tgt := 121) dX9_reads_108 (by decide) (fun c108 => ?_) (fun c108 => ?_)
              · exact absurd rfl c108
              · skip
                refine z_iload_2 (pc := 111) dX9_reads_111 ?_
                refine z_if_ne (pc := 112) (tgt := 121) dX9_reads_112 (by decide) (fun c112 => ?_) (fun c112 => ?_)
                · exact absurd rfl c112
                · skip
                  refine z_aload_0 (pc := 115) dX9_reads_115 ?_
                  refine z_iconst (pc := 116) (1) dX9_reads_116 rfl ?_
                  refine z_V1 (pc := 117) dX9_reads_117 mlX9_116 kX9_fails vX9_fails (by decide) (by decide) (by first | rfl | assumption) (Nat.le_of_ble_eq_true rfl) (qX9_fails) ⟨Nat.le_refl _, Nat.le_refl _⟩ (fun r h1 hq => ?_)
                  obtain ⟨rfl, rfl⟩ := hq
                  refine z_ret (pc := 120) (r := some (.int _)) rfl dX9_reads_120 (by first | exact Or.inl rfl | exact Or.inr rfl | assumption) rfl rfl ?_
                  have eI : zitm b a v = (1, a, v) := by
                    unfold zitm
                    rw [if_neg (fun z => c60 (by rw [← hP.2.2.2.1]; exact z.2)), hcn, if_neg (fun z => c89 (by rw [z.1]; rfl))]
                  have eR : zrst b (f + 1) a v = (1, a, v) := by
                    rw [zrst, if_neg h999, eI]; rfl
                  rw [eR]
                  exact ⟨rfl, _, rfl, fun z => absurd (show (1 : Nat) = 0 from z) (by decide), fun _ => zMf_of hs h16 rfl⟩
            · skip
              refine z_aload_0 (pc := 92) dX9_reads_92 ?_
              refine y_getR (pc := 93) dX9_reads_93 flX9_38 rfl (by first | rfl | assumption) (by first | rfl | assumption) ?_
              refine z_iconst (pc := 96) (3) dX9_reads_96 rfl ?_
              refine y_ialdN (pc := 97) (3) dX9_reads_97 (by first | rfl | assumption) (rfl) (by decide) (by first | decide | omega) ?_
              rw [h953]
              refine z_if_le (pc := 98) (tgt := 105) dX9_reads_98 (by decide) (fun c98 => ?_) (fun c98 => ?_)
              · skip
                refine z_iconst (pc := 105) (0) dX9_reads_105 rfl ?_
                refine z_istore_2 (pc := 106) dX9_reads_106 (by decide) rfl ?_
                refine z_iload_1 (pc := 107) dX9_reads_107 ?_
                refine z_if_ne (pc := 108) (tgt := 121) dX9_reads_108 (by decide) (fun c108 => ?_) (fun c108 => ?_)
                · exact absurd rfl c108
                · skip
                  refine z_iload_2 (pc := 111) dX9_reads_111 ?_
                  refine z_if_ne (pc := 112) (tgt := 121) dX9_reads_112 (by decide) (fun c112 => ?_) (fun c112 => ?_)
                  · exact absurd rfl c112
                  · skip
                    refine z_aload_0 (pc := 115) dX9_reads_115 ?_
                    refine z_iconst (pc := 116) (1) dX9_reads_116 rfl ?_
                    refine z_V1 (pc := 117) dX9_reads_117 mlX9_116 kX9_fails vX9_fails (by decide) (by decide) (by first | rfl | assumption) (Nat.le_of_ble_eq_true rfl) (qX9_fails) ⟨Nat.le_refl _, Nat.le_refl _⟩ (fun r h1 hq => ?_)
                    obtain ⟨rfl, rfl⟩ := hq
                    refine z_ret (pc := 120) (r := some (.int _)) rfl dX9_reads_120 (by first | exact Or.inl rfl | exact Or.inr rfl | assumption) rfl rfl ?_
                    have eI : zitm b a v = (1, a, v) := by
                      unfold zitm
                      rw [if_neg (fun z => c60 (by rw [← hP.2.2.2.1]; exact z.2)), hcn, if_neg (fun z => by have hz : nI n ≤ 0 := c98; exact absurd hz (nI_nle z.2 (by omega)))]
                    have eR : zrst b (f + 1) a v = (1, a, v) := by
                      rw [zrst, if_neg h999, eI]; rfl
                    rw [eR]
                    exact ⟨rfl, _, rfl, fun z => absurd (show (1 : Nat) = 0 from z) (by decide), fun _ => zMf_of hs h16 rfl⟩
              · skip
                refine z_iconst (pc := 101) (1) dX9_reads_101 rfl ?_
                refine z_goto (pc := 102) (tgt := 106) dX9_reads_102 (by decide) ?_
                refine z_istore_2 (pc := 106) dX9_reads_106 (by decide) rfl ?_
                refine z_iload_1 (pc := 107) dX9_reads_107 ?_
                refine z_if_ne (pc := 108) (tgt := 121) dX9_reads_108 (by decide) (fun c108 => ?_) (fun c108 => ?_)
                · exact absurd rfl c108
                · skip
                  refine z_iload_2 (pc := 111) dX9_reads_111 ?_
                  refine z_if_ne (pc := 112) (tgt := 121) dX9_reads_112 (by decide) (fun c112 => ?_) (fun c112 => ?_)
                  · skip
                    refine z_iload_2 (pc := 121) dX9_reads_121 ?_
                    refine z_if_eq (pc := 122) (tgt := 135) dX9_reads_122 (by decide) (fun c122 => ?_) (fun c122 => ?_)
                    · exact absurd c122 (by decide)
                    · skip
                      have h116 : b a = 116 := by
                        rw [show (116 : Int32) = nI 116 from rfl] at c89
                        exact (nI_eq (by omega) (by decide)).mp c89
                      have hn0 : 0 < n := by
                        rcases Nat.eq_zero_or_pos n with z | z
                        · exact absurd (by rw [z]; decide) c98
                        · exact z
                      have q1 : ¬ (¬ zsrt (b a) = 0 ∧ v 4 = 0) := fun z => z.1 (by rw [h116]; decide)
                      have eI : zitm b a v = zti b n T a v := by unfold zitm; rw [if_neg q1, hcn, hcT, if_pos ⟨h116, hn0⟩]
                      have hM1 : zMr I I1 v (a + 1) := ⟨hs, h95, k15, by rcases hbb with z | z <;> have := hT.1 <;> omega⟩
                      refine z_aload_0 (pc := 125) dX9_reads_125 ?_
                      refine z_V0 (pc := 126) dX9_reads_126 mlX9_133 kX9_readsTie vX9_readsTie (by decide) (by decide) (by first | rfl | assumption) (Nat.le_of_ble_eq_true rfl) (qX9_readsTie hT hM1 h16 n T ⟨hn0, hn6⟩ hP.2.1 hT10 hP.2.2.2.1) ⟨Nat.le_refl _, Nat.le_refl _⟩ (fun r h1 hq => ?_)
                      obtain ⟨rfl, J1, rfl, hA, hB⟩ := hq
                      refine z_if_eq (pc := 129) (tgt := 143) dX9_reads_129 (by decide) (fun c129 => ?_) (fun c129 => ?_)
                      · skip
                        refine z_iconst (pc := 143) (0) dX9_reads_143 rfl ?_
                        refine z_ret (pc := 144) (r := some (.int _)) rfl dX9_reads_144 (by first | exact Or.inl rfl | exact Or.inr rfl | assumption) rfl rfl ?_
                        have hno : ¬ (_ : zR3).1 = 0 := of_decide_eq_false ((zbb0 _).mp c129)
                        rw [zrst, if_neg h999, eI, zbd_no hno]
                        exact ⟨by rw [decide_eq_false hno]; rfl, _, rfl, fun z => absurd z hno, fun _ => hB hno⟩
                      · skip
                        refine z_goto (pc := 132) (tgt := 145) dX9_reads_132 (by decide) ?_
                        have hok : (_ : zR3).1 = 0 := of_decide_eq_true ((zbb1 _).mp c129)
                        obtain ⟨a1, w1, e1⟩ : ∃ x1 y1, zti b n T a v = (0, x1, y1) := ⟨_, _, zok hok⟩
                        have hM2' := hA hok
                        rw [e1] at hM2'
                        have hM2 : zMr I J1 w1 a1 := hM2'
                        obtain ⟨n1, T1, hP1, hnT⟩ := zPv_it hP (eI.trans e1)
                        refine z_aload_0 (pc := 145) dX9_reads_145 ?_
                        refine z_V0 (pc := 146) dX9_reads_146 mlX9_113 kX9_next vX9_next (by decide) (by decide) (by first | rfl | assumption) (Nat.le_of_ble_eq_true rfl) (qX9_next hT hM2) ⟨Nat.le_refl _, Nat.le_refl _⟩ (fun r h1 hq => ?_)
                        obtain ⟨rfl, J2, rfl, hN2⟩ := hq
                        refine z_goto (pc := 149) (tgt := 39) dX9_reads_149 (by decide) ?_
                        have eR : zrst b (f + 1) a v = zrst b f a1 w1 := by rw [zrst, if_neg h999, eI, zbd_ok e1]
                        rw [eR]
                        exact mreads_loop hT f a1 n1 T1 w1 J2 _ _ rfl hP1 (by omega) hM2.2.2.2 hN2
                  · exact absurd c112 (by decide)
        · skip
          refine z_aload_0 (pc := 63) dX9_reads_63 ?_
          refine y_getI (pc := 64) dX9_reads_64 flX9_107 rfl (by first | rfl | assumption) ?_
          rw [k18]
          refine z_S1 (pc := 67) dX9_reads_67 mlX9_130 kX9_sortOf vX9_sortOf (by decide) (by decide) (Nat.le_of_ble_eq_true rfl) (qX9_sortOf (b a) (by omega)) ⟨Nat.le_refl _, Nat.le_refl _⟩ (fun r h1 hq => ?_)
          obtain ⟨rfl, rfl⟩ := hq
          refine z_goto (pc := 70) (tgt := 74) dX9_reads_70 (by decide) ?_
          refine z_istore_1 (pc := 74) dX9_reads_74 (by decide) rfl ?_
          refine z_aload_0 (pc := 75) dX9_reads_75 ?_
          refine y_getI (pc := 76) dX9_reads_76 flX9_104 rfl (by first | rfl | assumption) ?_
          rw [h17]
          refine z_iconst (pc := 79) (1) dX9_reads_79 rfl ?_
          refine z_icmp_ne (pc := 80) (tgt := 105) dX9_reads_80 (by decide) (fun c80 => ?_) (fun c80 => ?_)
          · exact absurd c51 c80
          · skip
            refine z_aload_0 (pc := 83) dX9_reads_83 ?_
            refine y_getI (pc := 84) dX9_reads_84 flX9_107 rfl (by first | rfl | assumption) ?_
            rw [k18]
            refine z_bipush (pc := 87) (116) dX9_reads_87 rfl ?_
            refine z_icmp_ne (pc := 89) (tgt := 105) dX9_reads_89 (by decide) (fun c89 => ?_) (fun c89 => ?_)
            · skip
              refine z_iconst (pc := 105) (0) dX9_reads_105 rfl ?_
              refine z_istore_2 (pc := 106) dX9_reads_106 (by decide) rfl ?_
              refine z_iload_1 (pc := 107) dX9_reads_107 ?_
              refine z_if_ne (pc := 108) (tgt := 121) dX9_reads_108 (by decide) (fun c108 => ?_) (fun c108 => ?_)
              · skip
                refine z_iload_2 (pc := 121) dX9_reads_121 ?_
                refine z_if_eq (pc := 122) (tgt := 135) dX9_reads_122 (by decide) (fun c122 => ?_) (fun c122 => ?_)
                · skip
                  have q1 : ¬ zsrt (b a) = 0 ∧ v 4 = 0 := ⟨fun z => c108 (by rw [z]; rfl), by rw [hP.2.2.2.1]; exact c60⟩
                  have hT0 : T = 0 := (nI_is (by omega) (by decide) rfl).mp c60
                  have eI : zitm b a v = zdr b (zsrt (b a)) n a v := by unfold zitm; rw [if_pos q1, hcn]
                  have hM1 : zMr I I1 v (a + 1) := ⟨hs, h95, k15, by rcases hbb with z | z <;> have := hT.1 <;> omega⟩
                  refine z_aload_0 (pc := 135) dX9_reads_135 ?_
                  refine z_iload_1 (pc := 136) dX9_reads_136 ?_
                  refine z_V1 (pc := 137) dX9_reads_137 mlX9_136 kX9_readsDrinker vX9_readsDrinker (by decide) (by decide) (by first | rfl | assumption) (Nat.le_of_ble_eq_true rfl) (qX9_readsDrinker hT hM1 h16 (zsrt (b a)) n hn6 hP.2.1) ⟨Nat.le_refl _, Nat.le_refl _⟩ (fun r h1 hq => ?_)
                  obtain ⟨rfl, J1, rfl, hA, hB⟩ := hq
                  refine z_if_ne (pc := 140) (tgt := 145) dX9_reads_140 (by decide) (fun c140 => ?_) (fun c140 => ?_)
                  · skip
                    have hok : (_ : zR3).1 = 0 := of_decide_eq_true ((zbb1 _).mp c140)
                    obtain ⟨a1, w1, e1⟩ : ∃ x1 y1, zdr b (zsrt (b a)) n a v = (0, x1, y1) := ⟨_, _, zok hok⟩
                    have hM2' := hA hok
                    rw [e1] at hM2'
                    have hM2 : zMr I J1 w1 a1 := hM2'
                    obtain ⟨n1, T1, hP1, hnT⟩ := zPv_it hP (eI.trans e1)
                    refine z_aload_0 (pc := 145) dX9_reads_145 ?_
                    refine z_V0 (pc := 146) dX9_reads_146 mlX9_113 kX9_next vX9_next (by decide) (by decide) (by first | rfl | assumption) (Nat.le_of_ble_eq_true rfl) (qX9_next hT hM2) ⟨Nat.le_refl _, Nat.le_refl _⟩ (fun r h1 hq => ?_)
                    obtain ⟨rfl, J2, rfl, hN2⟩ := hq
                    refine z_goto (pc := 149) (tgt := 39) dX9_reads_149 (by decide) ?_
                    have eR : zrst b (f + 1) a v = zrst b f a1 w1 := by rw [zrst, if_neg h999, eI, zbd_ok e1]
                    rw [eR]
                    exact mreads_loop hT f a1 n1 T1 w1 J2 _ _ rfl hP1 (by omega) hM2.2.2.2 hN2
                  · skip
                    refine z_iconst (pc := 143) (0) dX9_reads_143 rfl ?_
                    refine z_ret (pc := 144) (r := some (.int _)) rfl dX9_reads_144 (by first | exact Or.inl rfl | exact Or.inr rfl | assumption) rfl rfl ?_
                    have hno : ¬ (_ : zR3).1 = 0 := of_decide_eq_false ((zbb0 _).mp c140)
                    rw [zrst, if_neg h999, eI, zbd_no hno]
                    exact ⟨by rw [decide_eq_false hno]; rfl, _, rfl, fun z => absurd z hno, fun _ => hB hno⟩
                · exact absurd rfl c122
              · skip
                refine z_iload_2 (pc := 111) dX9_reads_111 ?_
                refine z_if_ne (pc := 112) (tgt := 121) dX9_reads_112 (by decide) (fun c112 => ?_) (fun c112 => ?_)
                · exact absurd rfl c112
                · skip
                  refine z_aload_0 (pc := 115) dX9_reads_115 ?_
                  refine z_iconst (pc := 116) (1) dX9_reads_116 rfl ?_
                  refine z_V1 (pc := 117) dX9_reads_117 mlX9_116 kX9_fails vX9_fails (by decide) (by decide) (by first | rfl | assumption) (Nat.le_of_ble_eq_true rfl) (qX9_fails) ⟨Nat.le_refl _, Nat.le_refl _⟩ (fun r h1 hq => ?_)
                  obtain ⟨rfl, rfl⟩ := hq
                  refine z_ret (pc := 120) (r := some (.int _)) rfl dX9_reads_120 (by first | exact Or.inl rfl | exact Or.inr rfl | assumption) rfl rfl ?_
                  have eI : zitm b a v = (1, a, v) := by
                    unfold zitm
                    rw [if_neg (fun z => z.1 ((nI_is (by have := zsrt_lt (b a); omega) (by decide) rfl).mp c108)), hcn, if_neg (fun z => c89 (by rw [z.1]; rfl))]
                  have eR : zrst b (f + 1) a v = (1, a, v) := by
                    rw [zrst, if_neg h999, eI]; rfl
                  rw [eR]
                  exact ⟨rfl, _, rfl, fun z => absurd (show (1 : Nat) = 0 from z) (by decide), fun _ => zMf_of hs h16 rfl⟩
            · skip
              refine z_aload_0 (pc := 92) dX9_reads_92 ?_
              refine y_getR (pc := 93) dX9_reads_93 flX9_38 rfl (by first | rfl | assumption) (by first | rfl | assumption) ?_
              refine z_iconst (pc := 96) (3) dX9_reads_96 rfl ?_
              refine y_ialdN (pc := 97) (3) dX9_reads_97 (by first | rfl | assumption) (rfl) (by decide) (by first | decide | omega) ?_
              rw [h953]
              refine z_if_le (pc := 98) (tgt := 105) dX9_reads_98 (by decide) (fun c98 => ?_) (fun c98 => ?_)
              · skip
                refine z_iconst (pc := 105) (0) dX9_reads_105 rfl ?_
                refine z_istore_2 (pc := 106) dX9_reads_106 (by decide) rfl ?_
                refine z_iload_1 (pc := 107) dX9_reads_107 ?_
                refine z_if_ne (pc := 108) (tgt := 121) dX9_reads_108 (by decide) (fun c108 => ?_) (fun c108 => ?_)
                · skip
                  refine z_iload_2 (pc := 121) dX9_reads_121 ?_
                  refine z_if_eq (pc := 122) (tgt := 135) dX9_reads_122 (by decide) (fun c122 => ?_) (fun c122 => ?_)
                  · skip
                    have q1 : ¬ zsrt (b a) = 0 ∧ v 4 = 0 := ⟨fun z => c108 (by rw [z]; rfl), by rw [hP.2.2.2.1]; exact c60⟩
                    have hT0 : T = 0 := (nI_is (by omega) (by decide) rfl).mp c60
                    have eI : zitm b a v = zdr b (zsrt (b a)) n a v := by unfold zitm; rw [if_pos q1, hcn]
                    have hM1 : zMr I I1 v (a + 1) := ⟨hs, h95, k15, by rcases hbb with z | z <;> have := hT.1 <;> omega⟩
                    refine z_aload_0 (pc := 135) dX9_reads_135 ?_
                    refine z_iload_1 (pc := 136) dX9_reads_136 ?_
                    refine z_V1 (pc := 137) dX9_reads_137 mlX9_136 kX9_readsDrinker vX9_readsDrinker (by decide) (by decide) (by first | rfl | assumption) (Nat.le_of_ble_eq_true rfl) (qX9_readsDrinker hT hM1 h16 (zsrt (b a)) n hn6 hP.2.1) ⟨Nat.le_refl _, Nat.le_refl _⟩ (fun r h1 hq => ?_)
                    obtain ⟨rfl, J1, rfl, hA, hB⟩ := hq
                    refine z_if_ne (pc := 140) (tgt := 145) dX9_reads_140 (by decide) (fun c140 => ?_) (fun c140 => ?_)
                    · skip
                      have hok : (_ : zR3).1 = 0 := of_decide_eq_true ((zbb1 _).mp c140)
                      obtain ⟨a1, w1, e1⟩ : ∃ x1 y1, zdr b (zsrt (b a)) n a v = (0, x1, y1) := ⟨_, _, zok hok⟩
                      have hM2' := hA hok
                      rw [e1] at hM2'
                      have hM2 : zMr I J1 w1 a1 := hM2'
                      obtain ⟨n1, T1, hP1, hnT⟩ := zPv_it hP (eI.trans e1)
                      refine z_aload_0 (pc := 145) dX9_reads_145 ?_
                      refine z_V0 (pc := 146) dX9_reads_146 mlX9_113 kX9_next vX9_next (by decide) (by decide) (by first | rfl | assumption) (Nat.le_of_ble_eq_true rfl) (qX9_next hT hM2) ⟨Nat.le_refl _, Nat.le_refl _⟩ (fun r h1 hq => ?_)
                      obtain ⟨rfl, J2, rfl, hN2⟩ := hq
                      refine z_goto (pc := 149) (tgt := 39) dX9_reads_149 (by decide) ?_
                      have eR : zrst b (f + 1) a v = zrst b f a1 w1 := by rw [zrst, if_neg h999, eI, zbd_ok e1]
                      rw [eR]
                      exact mreads_loop hT f a1 n1 T1 w1 J2 _ _ rfl hP1 (by omega) hM2.2.2.2 hN2
                    · skip
                      refine z_iconst (pc := 143) (0) dX9_reads_143 rfl ?_
                      refine z_ret (pc := 144) (r := some (.int _)) rfl dX9_reads_144 (by first | exact Or.inl rfl | exact Or.inr rfl | assumption) rfl rfl ?_
                      have hno : ¬ (_ : zR3).1 = 0 := of_decide_eq_false ((zbb0 _).mp c140)
                      rw [zrst, if_neg h999, eI, zbd_no hno]
                      exact ⟨by rw [decide_eq_false hno]; rfl, _, rfl, fun z => absurd z hno, fun _ => hB hno⟩
                  · exact absurd rfl c122
                · skip
                  refine z_iload_2 (pc := 111) dX9_reads_111 ?_
                  refine z_if_ne (pc := 112) (tgt := 121) dX9_reads_112 (by decide) (fun c112 => ?_) (fun c112 => ?_)
                  · exact absurd rfl c112
                  · skip
                    refine z_aload_0 (pc := 115) dX9_reads_115 ?_
                    refine z_iconst (pc := 116) (1) dX9_reads_116 rfl ?_
                    refine z_V1 (pc := 117) dX9_reads_117 mlX9_116 kX9_fails vX9_fails (by decide) (by decide) (by first | rfl | assumption) (Nat.le_of_ble_eq_true rfl) (qX9_fails) ⟨Nat.le_refl _, Nat.le_refl _⟩ (fun r h1 hq => ?_)
                    obtain ⟨rfl, rfl⟩ := hq
                    refine z_ret (pc := 120) (r := some (.int _)) rfl dX9_reads_120 (by first | exact Or.inl rfl | exact Or.inr rfl | assumption) rfl rfl ?_
                    have eI : zitm b a v = (1, a, v) := by
                      unfold zitm
                      rw [if_neg (fun z => z.1 ((nI_is (by have := zsrt_lt (b a); omega) (by decide) rfl).mp c108)), hcn, if_neg (fun z => by have hz : nI n ≤ 0 := c98; exact absurd hz (nI_nle z.2 (by omega)))]
                    have eR : zrst b (f + 1) a v = (1, a, v) := by
                      rw [zrst, if_neg h999, eI]; rfl
                    rw [eR]
                    exact ⟨rfl, _, rfl, fun z => absurd (show (1 : Nat) = 0 from z) (by decide), fun _ => zMf_of hs h16 rfl⟩
              · skip
                refine z_iconst (pc := 101) (1) dX9_reads_101 rfl ?_
                refine z_goto (pc := 102) (tgt := 106) dX9_reads_102 (by decide) ?_
                refine z_istore_2 (pc := 106) dX9_reads_106 (by decide) rfl ?_
                refine z_iload_1 (pc := 107) dX9_reads_107 ?_
                refine z_if_ne (pc := 108) (tgt := 121) dX9_reads_108 (by decide) (fun c108 => ?_) (fun c108 => ?_)
                · exact absurd (by rw [show b a = 116 from by { rw [show (116 : Int32) = nI 116 from rfl] at c89; exact (nI_eq (by omega) (by decide)).mp c89 }]; rfl) c108
                · skip
                  refine z_iload_2 (pc := 111) dX9_reads_111 ?_
                  refine z_if_ne (pc := 112) (tgt := 121) dX9_reads_112 (by decide) (fun c112 => ?_) (fun c112 => ?_)
                  · skip
                    refine z_iload_2 (pc := 121) dX9_reads_121 ?_
                    refine z_if_eq (pc := 122) (tgt := 135) dX9_reads_122 (by decide) (fun c122 => ?_) (fun c122 => ?_)
                    · exact absurd c122 (by decide)
                    · skip
                      have h116 : b a = 116 := by
                        rw [show (116 : Int32) = nI 116 from rfl] at c89
                        exact (nI_eq (by omega) (by decide)).mp c89
                      have hn0 : 0 < n := by
                        rcases Nat.eq_zero_or_pos n with z | z
                        · exact absurd (by rw [z]; decide) c98
                        · exact z
                      have q1 : ¬ (¬ zsrt (b a) = 0 ∧ v 4 = 0) := fun z => z.1 (by rw [h116]; decide)
                      have eI : zitm b a v = zti b n T a v := by unfold zitm; rw [if_neg q1, hcn, hcT, if_pos ⟨h116, hn0⟩]
                      have hM1 : zMr I I1 v (a + 1) := ⟨hs, h95, k15, by rcases hbb with z | z <;> have := hT.1 <;> omega⟩
                      refine z_aload_0 (pc := 125) dX9_reads_125 ?_
                      refine z_V0 (pc := 126) dX9_reads_126 mlX9_133 kX9_readsTie vX9_readsTie (by decide) (by decide) (by first | rfl | assumption) (Nat.le_of_ble_eq_true rfl) (qX9_readsTie hT hM1 h16 n T ⟨hn0, hn6⟩ hP.2.1 hT10 hP.2.2.2.1) ⟨Nat.le_refl _, Nat.le_refl _⟩ (fun r h1 hq => ?_)
                      obtain ⟨rfl, J1, rfl, hA, hB⟩ := hq
                      refine z_if_eq (pc := 129) (tgt := 143) dX9_reads_129 (by decide) (fun c129 => ?_) (fun c129 => ?_)
                      · skip
                        refine z_iconst (pc := 143) (0) dX9_reads_143 rfl ?_
                        refine z_ret (pc := 144) (r := some (.int _)) rfl dX9_reads_144 (by first | exact Or.inl rfl | exact Or.inr rfl | assumption) rfl rfl ?_
                        have hno : ¬ (_ : zR3).1 = 0 := of_decide_eq_false ((zbb0 _).mp c129)
                        rw [zrst, if_neg h999, eI, zbd_no hno]
                        exact ⟨by rw [decide_eq_false hno]; rfl, _, rfl, fun z => absurd z hno, fun _ => hB hno⟩
                      · skip
                        refine z_goto (pc := 132) (tgt := 145) dX9_reads_132 (by decide) ?_
                        have hok : (_ : zR3).1 = 0 := of_decide_eq_true ((zbb1 _).mp c129)
                        obtain ⟨a1, w1, e1⟩ : ∃ x1 y1, zti b n T a v = (0, x1, y1) := ⟨_, _, zok hok⟩
                        have hM2' := hA hok
                        rw [e1] at hM2'
                        have hM2 : zMr I J1 w1 a1 := hM2'
                        obtain ⟨n1, T1, hP1, hnT⟩ := zPv_it hP (eI.trans e1)
                        refine z_aload_0 (pc := 145) dX9_reads_145 ?_
                        refine z_V0 (pc := 146) dX9_reads_146 mlX9_113 kX9_next vX9_next (by decide) (by decide) (by first | rfl | assumption) (Nat.le_of_ble_eq_true rfl) (qX9_next hT hM2) ⟨Nat.le_refl _, Nat.le_refl _⟩ (fun r h1 hq => ?_)
                        obtain ⟨rfl, J2, rfl, hN2⟩ := hq
                        refine z_goto (pc := 149) (tgt := 39) dX9_reads_149 (by decide) ?_
                        have eR : zrst b (f + 1) a v = zrst b f a1 w1 := by rw [zrst, if_neg h999, eI, zbd_ok e1]
                        rw [eR]
                        exact mreads_loop hT f a1 n1 T1 w1 J2 _ _ rfl hP1 (by omega) hM2.2.2.2 hN2
                  · exact absurd c112 (by decide)
def zemp : Nat → Int32 := fun _ => 0
def zprs (b : Nat → Nat) : zR3 := zbd (zlaw b 0 zemp) (fun a v => zrst b 17 a v)
theorem zPv_law {b : Nat → Nat} {a1 : Nat} {v1 : Nat → Int32} (e : zlaw b 0 zemp = (0, a1, v1)) : zPv v1 0 0 := by
  unfold zlaw at e
  obtain ⟨x1, y1, e1, e⟩ := zbd_inv e
  obtain ⟨x2, y2, e2, e⟩ := zbd_inv e
  obtain ⟨x3, y3, e3, e⟩ := zbd_inv e
  obtain ⟨x4, y4, e4, e⟩ := zbd_inv e
  obtain ⟨x5, y5, e5, e⟩ := zbd_inv e
  obtain ⟨x6, y6, e6, e⟩ := zbd_inv e
  obtain ⟨f1, -, -⟩ := zsg_v e1
  obtain ⟨q2, -, -, f2, -⟩ := znm_v e2
  obtain ⟨f3, -, -⟩ := zsg_v e3
  obtain ⟨q4, -, -, f4, -⟩ := znm_v e4
  obtain ⟨f5, -, -⟩ := zsg_v e5
  obtain ⟨q6, -, -, f6, -⟩ := znm_v e6
  obtain ⟨f7, -, -⟩ := zsg_v e
  have ev : ∀ q, 3 ≤ q → v1 q = 0 := by
    intro q hq
    rw [f7, f6, pk_un (by omega), f5, f4, pk_un (by omega), f3, f2, pk_un (by omega), f1]; rfl
  exact ⟨by omega, ev 3 (by omega), by omega, ev 4 (by omega), fun d hd => by omega, fun k hk => by omega, fun k hk => by omega, ev 5 (by omega), fun b h1 h2 => ev b (by omega)⟩
set_option maxRecDepth 100000 in
set_option maxHeartbeats 4000000 in
theorem mzero_loop {l : zL} {I : Nat → Nat → Int32} {J : Nat → Nat → Int64} {nw : Bool} {Q : Option Value → zH → Prop} (hQ : ∀ v1 : Value, v1.category = 1 → zW l mX9_reads SH.length (zsl SH) 21 [.ref 85, v1, zno] [] (zfill I 95 66 0, J, RF nw, SH) Q) : ∀ (f k : Nat), k ≤ 66 → 66 - k < f →
    zW l mX9_reads SH.length (zsl SH) 2 [.ref 85, .int (nI k), zno] [] (zfill I 95 k 0, J, RF nw, SH) Q
  | 0, k, _, hf => by omega
  | f + 1, k, hk, hf => by
    refine z_iload_1 (pc := 2) dX9_reads_2 ?_
    refine z_bipush (pc := 3) (66) dX9_reads_3 rfl ?_
    refine z_icmp_ge (pc := 5) (tgt := 21) dX9_reads_5 (by decide) (fun c5 => ?_) (fun c5 => ?_)
    · skip
      have hkn : k = 66 := by
        rcases Nat.lt_or_ge k 66 with q | q
        · exact absurd c5 (nI_ge (b := 66) q (by omega))
        · omega
      rw [hkn]
      exact hQ _ rfl
    · skip
      have hlt : k < 66 := by
        rcases Nat.lt_or_ge k 66 with q | q
        · exact q
        · exact absurd (nI_le (a := 66) q (by omega)) c5
      refine z_aload_0 (pc := 8) dX9_reads_8 ?_
      refine y_getR (pc := 9) dX9_reads_9 flX9_38 rfl (by first | rfl | assumption) (by first | rfl | assumption) ?_
      refine z_iload_1 (pc := 12) dX9_reads_12 ?_
      refine z_iconst (pc := 13) (0) dX9_reads_13 rfl ?_
      refine y_iastN (pc := 14) (k) dX9_reads_14 (by first | rfl | assumption) (rfl) (by omega) (by first | decide | omega) ?_
      refine z_iinc_1 (pc := 15) (1) dX9_reads_15 rfl (by decide) rfl ?_
      refine z_goto (pc := 18) (tgt := 2) dX9_reads_18 (by decide) ?_
      rw [zfill_s, ← nI_succ]
      exact mzero_loop hQ f (k + 1) (by omega) (by omega)
set_option maxRecDepth 100000 in
set_option maxHeartbeats 4000000 in
theorem qX9_reads {l : zL} {I : Nat → Nat → Int32} {J : Nat → Nat → Int64} {nw : Bool} {b : Nat → Nat} {L : Nat} (hT : zTp I b L) : zP l mX9_reads [.ref 85] (hh I J nw) (zMz I J nw (zprs b)) := by
  refine z_start [.ref 85, zno, zno] (by decide +kernel) (Nat.le_of_ble_eq_true rfl) rfl ?_
  refine z_iconst (pc := 0) (0) dX9_reads_0 rfl ?_
  refine z_istore_1 (pc := 1) dX9_reads_1 (by decide) rfl ?_
  have k21 : ∀ v1 : Value, v1.category = 1 → zW l mX9_reads SH.length (zsl SH) 21 [.ref 85, v1, zno] [] (zfill I 95 66 0, J, RF nw, SH) (zMz I J nw (zprs b)) := by
    intro v1 h1
    refine z_aload_0 (pc := 21) dX9_reads_21 ?_
    refine z_iconst (pc := 22) (0) dX9_reads_22 rfl ?_
    refine y_putI (pc := 23) dX9_reads_23 flX9_88 ffX9_88 rfl (by first | rfl | assumption) ⟨rfl, rfl⟩ ?_
    have hM0 : zMr I (zup (zfill I 95 66 0) 85 15 0) zemp 0 := by
      refine ⟨zMs_up (fun x y h1 h2 => ?_) (by decide), fun q hq => ?_, zup_on, by decide⟩
      · unfold zfill; rw [if_neg (fun z => h1 z.1)]
      · rw [zup_no (Or.inl (by decide))]; unfold zfill; rw [if_pos ⟨rfl, hq⟩]; rfl
    refine z_aload_0 (pc := 26) dX9_reads_26 ?_
    refine z_V0 (pc := 27) dX9_reads_27 mlX9_126 kX9_readsLaw vX9_readsLaw (by decide) (by decide) (by first | rfl | assumption) (Nat.le_of_ble_eq_true rfl) (qX9_readsLaw hT hM0) ⟨Nat.le_refl _, Nat.le_refl _⟩ (fun r h1 hq => ?_)
    obtain ⟨rfl, J1, rfl, hA, hB⟩ := hq
    refine z_if_ne (pc := 30) (tgt := 35) dX9_reads_30 (by decide) (fun c30 => ?_) (fun c30 => ?_)
    · skip
      have hok : (_ : zR3).1 = 0 := of_decide_eq_true ((zbb1 _).mp c30)
      obtain ⟨a1, w1, e1⟩ : ∃ x1 y1, zlaw b 0 zemp = (0, x1, y1) := ⟨_, _, zok hok⟩
      have hM1' := hA hok
      rw [e1] at hM1'
      have hM1 : zMr I J1 w1 a1 := hM1'
      refine z_aload_0 (pc := 35) dX9_reads_35 ?_
      refine z_V0 (pc := 36) dX9_reads_36 mlX9_113 kX9_next vX9_next (by decide) (by decide) (by first | rfl | assumption) (Nat.le_of_ble_eq_true rfl) (qX9_next hT hM1) ⟨Nat.le_refl _, Nat.le_refl _⟩ (fun r h1 hq => ?_)
      obtain ⟨rfl, J2, rfl, hN2⟩ := hq
      have eR : zprs b = zrst b 17 a1 w1 := by unfold zprs; rw [zbd_ok e1]
      rw [eR]
      exact mreads_loop hT 17 a1 0 0 w1 J2 _ _ h1 (zPv_law e1) (by omega) hM1.2.2.2 hN2
    · skip
      refine z_iconst (pc := 33) (0) dX9_reads_33 rfl ?_
      refine z_ret (pc := 34) (r := some (.int _)) rfl dX9_reads_34 (by first | exact Or.inl rfl | exact Or.inr rfl | assumption) rfl rfl ?_
      have hno : ¬ (_ : zR3).1 = 0 := of_decide_eq_false ((zbb0 _).mp c30)
      unfold zprs
      rw [zbd_no hno]
      exact ⟨by rw [decide_eq_false hno]; rfl, _, rfl, fun z => absurd z hno, fun _ => hB hno⟩
  have kk := mzero_loop (l := l) (I := I) k21 67 0 (by omega) (by omega)
  rw [zfill_0] at kk
  exact kk
/-- what town leaves: a fault, or the new town -/
def zMtn (I : Nat → Nat → Int32) (J : Nat → Nat → Int64) (nw : Bool) (R : zR3) : Option Value → zH → Prop := fun r h1 => ∃ I2, h1 = (I2, J, RF nw, SH) ∧ I2 85 5 = 0 ∧ (∀ x y, x ≠ 95 → ¬ (x = 85 ∧ (y = 5 ∨ y = 6 ∨ y = 7 ∨ y = 9 ∨ (15 ≤ y ∧ y ≤ 19))) → ¬ (x = 90 ∧ R.1 = 0) → I2 x y = I x y) ∧ (R.1 = 0 → r = some (.int (R.2.2 3)) ∧ (∀ q, q < 66 → I2 90 q = R.2.2 q) ∧ I2 85 6 = I 85 6 ∧ I2 85 7 = 1 ∧ I2 85 9 = 0) ∧ (¬ R.1 = 0 → r = some (.int (-1000100 - nI R.2.1)) ∧ I2 85 6 = nI R.1 ∧ I2 85 7 = I 85 7 ∧ I2 85 9 = I 85 9)
set_option maxRecDepth 100000 in
set_option maxHeartbeats 4000000 in
theorem qX9_town {l : zL} {I : Nat → Nat → Int32} {J : Nat → Nat → Int64} {nw : Bool} {b : Nat → Nat} {L : Nat} (hL : L ≤ 120) (h5 : I 85 5 = nI L) (hb : (∀ i, i < L → I 89 i = nI (b i) ∧ b i < 256) ∧ ∀ i, L ≤ i → b i = 999) : zP l mX9_town [.ref 85] (hh I J nw) (zMtn I J nw (zprs b)) := by
  refine z_start [.ref 85] (by decide +kernel) (Nat.le_of_ble_eq_true rfl) rfl ?_
  refine z_aload_0 (pc := 0) dX9_town_0 ?_
  refine z_aload_0 (pc := 1) dX9_town_1 ?_
  refine y_getI (pc := 2) dX9_town_2 flX9_80 rfl (by first | rfl | assumption) ?_
  rw [h5]
  refine y_putI (pc := 5) dX9_town_5 flX9_94 ffX9_94 rfl (by first | rfl | assumption) ⟨rfl, rfl⟩ ?_
  refine z_aload_0 (pc := 8) dX9_town_8 ?_
  refine z_iconst (pc := 9) (0) dX9_town_9 rfl ?_
  refine y_putI (pc := 10) dX9_town_10 flX9_80 ffX9_80 rfl (by first | rfl | assumption) ⟨rfl, rfl⟩ ?_
  have hT : zTp (zup (zup I 85 19 (nI L)) 85 5 0) b L := by
    refine ⟨hL, by rw [zup_no (Or.inr (by decide)), zup_on], fun i hi => ?_, hb.2⟩
    rw [zup_no (Or.inl (by decide)), zup_no (Or.inl (by decide))]; exact hb.1 i hi
  have hK : ∀ x y, ¬ (x = 85 ∧ (y = 5 ∨ y = 19)) → zup (zup I 85 19 (nI L)) 85 5 0 x y = I x y := fun x y h => by rw [zup_no (by omega), zup_no (by omega)]
  refine z_aload_0 (pc := 13) dX9_town_13 ?_
  refine z_V0 (pc := 14) dX9_town_14 mlX9_139 kX9_reads vX9_reads (by decide) (by decide) (by first | rfl | assumption) (Nat.le_of_ble_eq_true rfl) (qX9_reads hT) ⟨Nat.le_refl _, Nat.le_refl _⟩ (fun r h1 hq => ?_)
  obtain ⟨rfl, I2, rfl, hA, hB⟩ := hq
  refine z_if_ne (pc := 17) (tgt := 28) dX9_town_17 (by decide) (fun c17 => ?_) (fun c17 => ?_)
  · skip
    have hok : (zprs b).1 = 0 := of_decide_eq_true ((zbb1 _).mp c17)
    obtain ⟨hs, h95⟩ := hA hok
    refine z_aload_0 (pc := 28) dX9_town_28 ?_
    refine z_iconst (pc := 29) (1) dX9_town_29 rfl ?_
    refine y_putI (pc := 30) dX9_town_30 flX9_143 ffX9_143 rfl (by first | rfl | assumption) ⟨rfl, rfl⟩ ?_
    refine z_aload_0 (pc := 33) dX9_town_33 ?_
    refine z_iconst (pc := 34) (0) dX9_town_34 rfl ?_
    refine y_putI (pc := 35) dX9_town_35 flX9_147 ffX9_147 rfl (by first | rfl | assumption) ⟨rfl, rfl⟩ ?_
    refine z_aload_0 (pc := 38) dX9_town_38 ?_
    refine y_getR (pc := 39) dX9_town_39 flX9_38 rfl (by first | rfl | assumption) (by first | rfl | assumption) ?_
    refine z_iconst (pc := 42) (0) dX9_town_42 rfl ?_
    refine z_aload_0 (pc := 43) dX9_town_43 ?_
    refine y_getR (pc := 44) dX9_town_44 flX9_22 rfl (by first | rfl | assumption) (by first | rfl | assumption) ?_
    refine z_iconst (pc := 47) (0) dX9_town_47 rfl ?_
    refine z_S4 (pc := 48) dX9_town_48 mlX9_150 kX9_copies vX9_copies (by decide) (by decide) (Nat.le_of_ble_eq_true rfl) (qX9_copies 95 90 66 66 0 0 rfl rfl (by decide) (by omega) (by omega) (by decide) rfl rfl) ⟨Nat.le_refl _, Nat.le_refl _⟩ (fun r h1 hq => ?_)
    obtain ⟨rfl, rfl⟩ := hq
    have e90 : ∀ q, q < 66 → zcpy (zup (zup I2 85 7 1) 85 9 0) 95 90 0 0 66 90 q = (zprs b).2.2 q := by
      intro q hq
      unfold zcpy va_cpy
      rw [if_pos rfl, if_pos (by omega), zup_no (Or.inl (by decide)), zup_no (Or.inl (by decide)), show 0 + (q - 0) = q by omega]
      exact h95 q hq
    have e903 := e90 3 (by decide)
    refine z_aload_0 (pc := 51) dX9_town_51 ?_
    refine y_getR (pc := 52) dX9_town_52 flX9_22 rfl (by first | rfl | assumption) (by first | rfl | assumption) ?_
    refine z_iconst (pc := 55) (3) dX9_town_55 rfl ?_
    refine y_ialdN (pc := 56) (3) dX9_town_56 (by first | rfl | assumption) (rfl) (by decide) (by first | decide | omega) ?_
    rw [e903]
    refine z_ret (pc := 57) (r := some (.int _)) rfl dX9_town_57 trivial rfl rfl ?_
    have hc : ∀ x y, x ≠ 90 → zcpy (zup (zup I2 85 7 1) 85 9 0) 95 90 0 0 66 x y = zup (zup I2 85 7 1) 85 9 0 x y := fun x y h => by unfold zcpy; rw [if_neg h]
    refine ⟨_, rfl, ?_, fun x y h1 h2 h3 => ?_, fun _ => ⟨rfl, e90, ?_, ?_, ?_⟩, fun z => absurd hok z⟩
    · rw [hc 85 5 (by decide), zup_no (Or.inr (by decide)), zup_no (Or.inr (by decide)), hs 85 5 (by decide) (by omega), zup_on]
    · rw [hc x y (fun z => h3 ⟨z, hok⟩), zup_no (by omega), zup_no (by omega), hs x y h1 (by omega), hK x y (by omega)]
    · rw [hc 85 6 (by decide), zup_no (Or.inr (by decide)), zup_no (Or.inr (by decide)), hs 85 6 (by decide) (by omega), hK 85 6 (by omega)]
    · rw [hc 85 7 (by decide), zup_no (Or.inr (by decide)), zup_on]
    · rw [hc 85 9 (by decide), zup_on]
  · skip
    have hno : ¬ (zprs b).1 = 0 := of_decide_eq_false ((zbb0 _).mp c17)
    have hf := hB hno
    refine z_ldc (pc := 20) dX9_town_20 kcX9_142 ?_
    refine z_aload_0 (pc := 22) dX9_town_22 ?_
    refine y_getI (pc := 23) dX9_town_23 flX9_91 rfl (by first | rfl | assumption) ?_
    rw [hf.2.2]
    refine z_isub (pc := 26) dX9_town_26 ?_
    refine z_ret (pc := 27) (r := some (.int _)) rfl dX9_town_27 trivial rfl rfl ?_
    refine ⟨I2, rfl, ?_, fun x y h1 h2 h3 => ?_, fun z => absurd z hno, fun _ => ⟨rfl, hf.2.1, ?_, ?_⟩⟩
    · rw [hf.1 85 5 (by decide) (by omega), zup_on]
    · rw [hf.1 x y h1 (by omega), hK x y (by omega)]
    · rw [hf.1 85 7 (by decide) (by omega), hK 85 7 (by omega)]
    · rw [hf.1 85 9 (by decide) (by omega), hK 85 9 (by omega)]
