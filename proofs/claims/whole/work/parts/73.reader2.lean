theorem zsg_yes {b : Nat → Nat} {c a : Nat} {v : Nat → Int32} (h : b a = c) : zsg b c a v = (0, a + 1, v) := if_pos h
theorem zsg_nope {b : Nat → Nat} {c a : Nat} {v : Nat → Int32} (h : ¬ b a = c) : zsg b c a v = (1, a, v) := if_neg h
theorem znm_yes {b : Nat → Nat} {pl lo hi a a1 q : Nat} {v : Nat → Int32} (e : zPn b a lo hi = (0, q, a1)) : znm b pl lo hi a v = (0, a1, upd v pl (nI q)) := by unfold znm; rw [e]; rfl
theorem znm_nope {b : Nat → Nat} {pl lo hi a a1 q f : Nat} {v : Nat → Int32} (e : zPn b a lo hi = (f, q, a1)) (hf : ¬ f = 0) : znm b pl lo hi a v = (f, a, v) := by unfold znm; rw [e, if_neg hf]
theorem zr3_no {f p : Nat} {v : Nat → Int32} (h : ¬ f = 0) : ¬ ((f, p, v) : zR3).1 = 0 := h
theorem zPn_le {I : Nat → Nat → Int32} {b : Nat → Nat} {L a lo hi f q a1 : Nat} (h : zTc I b L) (e : zPn b a lo hi = (f, q, a1)) : q < 20000 ∧ (f = 0 → a1 ≤ 120 ∧ q ≤ hi) := by
  unfold zPn at e
  by_cases q1 : znf b a = 1 ∨ znf b a = 2
  · rw [if_pos q1] at e
    by_cases q2 : lo ≤ zvl b a (znf b a) ∧ zvl b a (znf b a) ≤ hi
    · rw [if_pos q2] at e
      have e2 : zvl b a (znf b a) = q := congrArg (fun r : Nat × Nat × Nat => r.2.1) e
      have e3 : a + znf b a = a1 := congrArg (fun r : Nat × Nat × Nat => r.2.2) e
      have h1 := zvl_lt (zTc_tp h) a (znf b a)
      have h2 := znf_le (zTc_tp h) q1
      exact ⟨by omega, fun _ => ⟨by omega, by omega⟩⟩
    · rw [if_neg q2] at e
      have e1 : 2 = f := congrArg (fun r : Nat × Nat × Nat => r.1) e
      have e2 : 0 = q := congrArg (fun r : Nat × Nat × Nat => r.2.1) e
      exact ⟨by omega, fun z => by omega⟩
  · rw [if_neg q1] at e
    have e1 : 1 = f := congrArg (fun r : Nat × Nat × Nat => r.1) e
    have e2 : 0 = q := congrArg (fun r : Nat × Nat × Nat => r.2.1) e
    exact ⟨by omega, fun z => by omega⟩
theorem nf_ok {f q : Nat} (c : ¬ (if f = 0 then nI q else -1) = -1) : f = 0 := by
  by_cases h : f = 0
  · exact h
  · rw [if_neg h] at c; exact absurd rfl c
theorem nf_no {f q : Nat} (hq : q < 20000) (c : (if f = 0 then nI q else -1) = -1) : ¬ f = 0 := by
  intro h
  rw [if_pos h] at c
  have e := congrArg Int32.toInt c
  rw [nI_toInt (by omega)] at e
  have h2 : (-1 : Int32).toInt = -1 := by decide
  omega
theorem zle1 {I : Nat → Nat → Int32} {b : Nat → Nat} {L a c : Nat} (h : zTc I b L) (hc : c < 256) (e : b a = c) : a + 1 ≤ 120 := by
  have := zTp_b (zTc_tp h) a
  have := h.1
  omega
def zCl (I I2 : Nat → Nat → Int32) (v : Nat → Int32) (a : Nat) : Prop := (∀ x y, ¬ (x = 23 ∧ y < 3) → ¬ (x = 13 ∧ y = 2) → I2 x y = I x y) ∧ I2 13 2 = nI a ∧ a ≤ 120 ∧ I2 23 0 = v 0 ∧ I2 23 1 = v 1 ∧ I2 23 2 = v 2
def zCf (I I1 : Nat → Nat → Int32) (f p : Nat) : Prop := (∀ x y, ¬ (23 ≤ x ∧ x ≤ 30) → ¬ (x = 13 ∧ (y = 2 ∨ y = 3)) → I1 x y = I x y) ∧ I1 13 3 = nI f ∧ I1 13 2 = nI p
def zClq (I : Nat → Nat → Int32) (J : Nat → Nat → Int64) (nw : Bool) (R : zR3) : Option Value → zH → Prop := fun r h1 => r = some (.int (zbb (decide (R.1 = 0)))) ∧ ∃ I2, h1 = (I2, J, RF nw, SH) ∧ (R.1 = 0 → zCl I I2 R.2.2 R.2.1) ∧ (¬ R.1 = 0 → zCf I I2 R.1 R.2.1)
set_option maxRecDepth 100000 in
set_option maxHeartbeats 4000000 in
theorem qX4_readsLaw {l : zL} {I : Nat → Nat → Int32} {J : Nat → Nat → Int64} {nw : Bool} {v : Nat → Int32} {b : Nat → Nat} {a L : Nat} (hT1 : zTc I b L) (ha : I 13 2 = nI a) (ha2 : a ≤ 120) : zP l mX4_readsLaw [.ref 13, .ref 23] (hh I J nw) (zClq I J nw (zlaw b a v)) := by
  refine z_start [.ref 13, .ref 23] (by decide +kernel) (Nat.le_of_ble_eq_true rfl) rfl ?_
  refine z_aload_0 (pc := 0) dX4_readsLaw_0 ?_
  refine z_bipush (pc := 1) (111) dX4_readsLaw_1 rfl ?_
  refine z_V1 (pc := 3) dX4_readsLaw_3 mlX4_48 kX4_passes vX4_passes (by decide) (by decide) (by first | rfl | assumption) (Nat.le_of_ble_eq_true rfl) (qX4_passes (by repeat (first | exact hT1 | refine zTc_up ?_ (by decide))) (by first | exact zup_on | (rw [zup_no (Or.inl (by decide))]; exact zup_on) | exact ha) (by omega) 111 (by decide)) ⟨Nat.le_refl _, Nat.le_refl _⟩ (fun r h1 hq => ?_)
  obtain ⟨rfl, rfl⟩ := hq
  refine z_if_ne (pc := 6) (tgt := 11) dX4_readsLaw_6 (by decide) (fun c6 => ?_) (fun c6 => ?_)
  · skip
    have h0 : b a = 111 := of_decide_eq_true ((zbb1 _).mp c6)
    rw [if_pos h0]
    have hl0 := zle1 hT1 (by decide) h0
    refine z_aload_1 (pc := 11) dX4_readsLaw_11 ?_
    refine z_aload_0 (pc := 12) dX4_readsLaw_12 ?_
    refine z_iconst (pc := 13) (0) dX4_readsLaw_13 rfl ?_
    refine z_bipush (pc := 14) (20) dX4_readsLaw_14 rfl ?_
    refine z_V2 (pc := 16) dX4_readsLaw_16 mlX4_52 kX4_number vX4_number (by decide) (by decide) (by first | rfl | assumption) (Nat.le_of_ble_eq_true rfl) (qX4_number (by repeat (first | exact hT1 | refine zTc_up ?_ (by decide))) (by first | exact zup_on | (rw [zup_no (Or.inl (by decide))]; exact zup_on) | exact ha) (by omega) 0 20 (by decide) (by decide)) ⟨Nat.le_refl _, Nat.le_refl _⟩ (fun r h1 hq => ?_)
    obtain ⟨f1, q1, a1, e1, rfl, rfl⟩ := hq
    have hz1 := zPn_le hT1 e1
    refine y_putI (pc := 19) dX4_readsLaw_19 flX4_56 ffX4_56 rfl (by first | rfl | assumption) ⟨rfl, rfl⟩ ?_
    refine z_aload_1 (pc := 22) dX4_readsLaw_22 ?_
    refine y_getI (pc := 23) dX4_readsLaw_23 flX4_56 rfl (by first | rfl | assumption) ?_
    rw [zup_on]
    refine z_iconst (pc := 26) (-1) dX4_readsLaw_26 rfl ?_
    refine z_icmp_eq (pc := 27) (tgt := 39) dX4_readsLaw_27 (by decide) (fun c27 => ?_) (fun c27 => ?_)
    · skip
      refine z_iconst (pc := 39) (0) dX4_readsLaw_39 rfl ?_
      refine z_ret (pc := 40) (r := some (.int _)) rfl dX4_readsLaw_40 (by first | exact Or.inl rfl | exact Or.inr rfl | assumption) rfl rfl ?_
      have hn : ¬ f1 = 0 := nf_no hz1.1 c27
      rw [if_neg hn, if_neg hn]
      have eR : ∃ w, zlaw b a v = (f1, (a + 1), w) := ⟨_, by
        unfold zlaw
        rw [zbd_ok (zsg_yes h0), zbd_no (by rw [znm_nope e1 hn]; exact zr3_no hn), znm_nope e1 hn]⟩
      obtain ⟨w, eR⟩ := eR
      rw [eR]
      refine ⟨by rw [decide_eq_false (zr3_no hn)]; rfl, _, rfl, fun z => absurd z (zr3_no hn), fun _ => ⟨fun x y g1 g2 => by repeat rw [zup_no (by omega)], ?_, ?_⟩⟩
      · repeat (first | rw [zup_on] | rw [zup_no (by decide)])
        try rfl
      · show _ = nI (a + 1)
        repeat (first | rw [zup_on] | rw [zup_no (by decide)])
        try exact ha
    · skip
      have hf1 : f1 = 0 := nf_ok c27
      subst hf1
      rw [if_pos (rfl : (0 : Nat) = 0), if_pos (rfl : (0 : Nat) = 0)]
      have hm1 := hz1.2 rfl
      refine z_aload_0 (pc := 30) dX4_readsLaw_30 ?_
      refine z_bipush (pc := 31) (44) dX4_readsLaw_31 rfl ?_
      refine z_V1 (pc := 33) dX4_readsLaw_33 mlX4_48 kX4_passes vX4_passes (by decide) (by decide) (by first | rfl | assumption) (Nat.le_of_ble_eq_true rfl) (qX4_passes (by repeat (first | exact hT1 | refine zTc_up ?_ (by decide))) (by first | exact zup_on | (rw [zup_no (Or.inl (by decide))]; exact zup_on) | exact ha) (by omega) 44 (by decide)) ⟨Nat.le_refl _, Nat.le_refl _⟩ (fun r h1 hq => ?_)
      obtain ⟨rfl, rfl⟩ := hq
      refine z_if_ne (pc := 36) (tgt := 41) dX4_readsLaw_36 (by decide) (fun c36 => ?_) (fun c36 => ?_)
      · skip
        have h2 : b a1 = 44 := of_decide_eq_true ((zbb1 _).mp c36)
        rw [if_pos h2]
        have hl2 := zle1 hT1 (by decide) h2
        refine z_aload_1 (pc := 41) dX4_readsLaw_41 ?_
        refine z_aload_0 (pc := 42) dX4_readsLaw_42 ?_
        refine z_iconst (pc := 43) (1) dX4_readsLaw_43 rfl ?_
        refine z_bipush (pc := 44) (40) dX4_readsLaw_44 rfl ?_
        refine z_V2 (pc := 46) dX4_readsLaw_46 mlX4_52 kX4_number vX4_number (by decide) (by decide) (by first | rfl | assumption) (Nat.le_of_ble_eq_true rfl) (qX4_number (by repeat (first | exact hT1 | refine zTc_up ?_ (by decide))) (by first | exact zup_on | (rw [zup_no (Or.inl (by decide))]; exact zup_on) | exact ha) (by omega) 1 40 (by decide) (by decide)) ⟨Nat.le_refl _, Nat.le_refl _⟩ (fun r h1 hq => ?_)
        obtain ⟨f2, q2, a2, e2, rfl, rfl⟩ := hq
        have hz2 := zPn_le hT1 e2
        refine y_putI (pc := 49) dX4_readsLaw_49 flX4_59 ffX4_59 rfl (by first | rfl | assumption) ⟨rfl, rfl⟩ ?_
        refine z_aload_1 (pc := 52) dX4_readsLaw_52 ?_
        refine y_getI (pc := 53) dX4_readsLaw_53 flX4_59 rfl (by first | rfl | assumption) ?_
        rw [zup_on]
        refine z_iconst (pc := 56) (-1) dX4_readsLaw_56 rfl ?_
        refine z_icmp_eq (pc := 57) (tgt := 69) dX4_readsLaw_57 (by decide) (fun c57 => ?_) (fun c57 => ?_)
        · skip
          refine z_iconst (pc := 69) (0) dX4_readsLaw_69 rfl ?_
          refine z_ret (pc := 70) (r := some (.int _)) rfl dX4_readsLaw_70 (by first | exact Or.inl rfl | exact Or.inr rfl | assumption) rfl rfl ?_
          have hn : ¬ f2 = 0 := nf_no hz2.1 c57
          rw [if_neg hn, if_neg hn]
          have eR : ∃ w, zlaw b a v = (f2, (a1 + 1), w) := ⟨_, by
            unfold zlaw
            rw [zbd_ok (zsg_yes h0), zbd_ok (znm_yes e1), zbd_ok (zsg_yes h2), zbd_no (by rw [znm_nope e2 hn]; exact zr3_no hn), znm_nope e2 hn]⟩
          obtain ⟨w, eR⟩ := eR
          rw [eR]
          refine ⟨by rw [decide_eq_false (zr3_no hn)]; rfl, _, rfl, fun z => absurd z (zr3_no hn), fun _ => ⟨fun x y g1 g2 => by repeat rw [zup_no (by omega)], ?_, ?_⟩⟩
          · repeat (first | rw [zup_on] | rw [zup_no (by decide)])
            try rfl
          · show _ = nI (a1 + 1)
            repeat (first | rw [zup_on] | rw [zup_no (by decide)])
            try exact ha
        · skip
          have hf2 : f2 = 0 := nf_ok c57
          subst hf2
          rw [if_pos (rfl : (0 : Nat) = 0), if_pos (rfl : (0 : Nat) = 0)]
          have hm2 := hz2.2 rfl
          refine z_aload_0 (pc := 60) dX4_readsLaw_60 ?_
          refine z_bipush (pc := 61) (44) dX4_readsLaw_61 rfl ?_
          refine z_V1 (pc := 63) dX4_readsLaw_63 mlX4_48 kX4_passes vX4_passes (by decide) (by decide) (by first | rfl | assumption) (Nat.le_of_ble_eq_true rfl) (qX4_passes (by repeat (first | exact hT1 | refine zTc_up ?_ (by decide))) (by first | exact zup_on | (rw [zup_no (Or.inl (by decide))]; exact zup_on) | exact ha) (by omega) 44 (by decide)) ⟨Nat.le_refl _, Nat.le_refl _⟩ (fun r h1 hq => ?_)
          obtain ⟨rfl, rfl⟩ := hq
          refine z_if_ne (pc := 66) (tgt := 71) dX4_readsLaw_66 (by decide) (fun c66 => ?_) (fun c66 => ?_)
          · skip
            have h4 : b a2 = 44 := of_decide_eq_true ((zbb1 _).mp c66)
            rw [if_pos h4]
            have hl4 := zle1 hT1 (by decide) h4
            refine z_aload_1 (pc := 71) dX4_readsLaw_71 ?_
            refine z_aload_0 (pc := 72) dX4_readsLaw_72 ?_
            refine z_iconst (pc := 73) (0) dX4_readsLaw_73 rfl ?_
            refine z_bipush (pc := 74) (9) dX4_readsLaw_74 rfl ?_
            refine z_V2 (pc := 76) dX4_readsLaw_76 mlX4_52 kX4_number vX4_number (by decide) (by decide) (by first | rfl | assumption) (Nat.le_of_ble_eq_true rfl) (qX4_number (by repeat (first | exact hT1 | refine zTc_up ?_ (by decide))) (by first | exact zup_on | (rw [zup_no (Or.inl (by decide))]; exact zup_on) | exact ha) (by omega) 0 9 (by decide) (by decide)) ⟨Nat.le_refl _, Nat.le_refl _⟩ (fun r h1 hq => ?_)
            obtain ⟨f3, q3, a3, e3, rfl, rfl⟩ := hq
            have hz3 := zPn_le hT1 e3
            refine y_putI (pc := 79) dX4_readsLaw_79 flX4_62 ffX4_62 rfl (by first | rfl | assumption) ⟨rfl, rfl⟩ ?_
            refine z_aload_1 (pc := 82) dX4_readsLaw_82 ?_
            refine y_getI (pc := 83) dX4_readsLaw_83 flX4_62 rfl (by first | rfl | assumption) ?_
            rw [zup_on]
            refine z_iconst (pc := 86) (-1) dX4_readsLaw_86 rfl ?_
            refine z_icmp_eq (pc := 87) (tgt := 103) dX4_readsLaw_87 (by decide) (fun c87 => ?_) (fun c87 => ?_)
            · skip
              refine z_iconst (pc := 103) (0) dX4_readsLaw_103 rfl ?_
              refine z_ret (pc := 104) (r := some (.int _)) rfl dX4_readsLaw_104 (by first | exact Or.inl rfl | exact Or.inr rfl | assumption) rfl rfl ?_
              have hn : ¬ f3 = 0 := nf_no hz3.1 c87
              rw [if_neg hn, if_neg hn]
              have eR : ∃ w, zlaw b a v = (f3, (a2 + 1), w) := ⟨_, by
                unfold zlaw
                rw [zbd_ok (zsg_yes h0), zbd_ok (znm_yes e1), zbd_ok (zsg_yes h2), zbd_ok (znm_yes e2), zbd_ok (zsg_yes h4), zbd_no (by rw [znm_nope e3 hn]; exact zr3_no hn), znm_nope e3 hn]⟩
              obtain ⟨w, eR⟩ := eR
              rw [eR]
              refine ⟨by rw [decide_eq_false (zr3_no hn)]; rfl, _, rfl, fun z => absurd z (zr3_no hn), fun _ => ⟨fun x y g1 g2 => by repeat rw [zup_no (by omega)], ?_, ?_⟩⟩
              · repeat (first | rw [zup_on] | rw [zup_no (by decide)])
                try rfl
              · show _ = nI (a2 + 1)
                repeat (first | rw [zup_on] | rw [zup_no (by decide)])
                try exact ha
            · skip
              have hf3 : f3 = 0 := nf_ok c87
              subst hf3
              rw [if_pos (rfl : (0 : Nat) = 0), if_pos (rfl : (0 : Nat) = 0)]
              have hm3 := hz3.2 rfl
              refine z_aload_0 (pc := 90) dX4_readsLaw_90 ?_
              refine z_bipush (pc := 91) (59) dX4_readsLaw_91 rfl ?_
              refine z_V1 (pc := 93) dX4_readsLaw_93 mlX4_48 kX4_passes vX4_passes (by decide) (by decide) (by first | rfl | assumption) (Nat.le_of_ble_eq_true rfl) (qX4_passes (by repeat (first | exact hT1 | refine zTc_up ?_ (by decide))) (by first | exact zup_on | (rw [zup_no (Or.inl (by decide))]; exact zup_on) | exact ha) (by omega) 59 (by decide)) ⟨Nat.le_refl _, Nat.le_refl _⟩ (fun r h1 hq => ?_)
              obtain ⟨rfl, rfl⟩ := hq
              refine z_if_eq (pc := 96) (tgt := 103) dX4_readsLaw_96 (by decide) (fun c96 => ?_) (fun c96 => ?_)
              · skip
                refine z_iconst (pc := 103) (0) dX4_readsLaw_103 rfl ?_
                refine z_ret (pc := 104) (r := some (.int _)) rfl dX4_readsLaw_104 (by first | exact Or.inl rfl | exact Or.inr rfl | assumption) rfl rfl ?_
                have hn : ¬ b a3 = 59 := of_decide_eq_false ((zbb0 _).mp c96)
                rw [if_neg hn]
                have eR : ∃ w, zlaw b a v = (1, a3, w) := ⟨_, by
                  unfold zlaw
                  rw [zbd_ok (zsg_yes h0), zbd_ok (znm_yes e1), zbd_ok (zsg_yes h2), zbd_ok (znm_yes e2), zbd_ok (zsg_yes h4), zbd_ok (znm_yes e3), zsg_nope hn]⟩
                obtain ⟨w, eR⟩ := eR
                rw [eR]
                refine ⟨by rw [decide_eq_false (zr3_no (by decide : ¬ (1 : Nat) = 0))]; rfl, _, rfl, fun z => absurd z (zr3_no (by decide : ¬ (1 : Nat) = 0)), fun _ => ⟨fun x y g1 g2 => by repeat rw [zup_no (by omega)], ?_, ?_⟩⟩
                · repeat (first | rw [zup_on] | rw [zup_no (by decide)])
                  try rfl
                · show _ = nI a3
                  repeat (first | rw [zup_on] | rw [zup_no (by decide)])
                  try exact ha
              · skip
                have h6 : b a3 = 59 := of_decide_eq_true ((zbb1 _).mp c96)
                rw [if_pos h6]
                have hl6 := zle1 hT1 (by decide) h6
                refine z_iconst (pc := 99) (1) dX4_readsLaw_99 rfl ?_
                refine z_goto (pc := 100) (tgt := 104) dX4_readsLaw_100 (by decide) ?_
                refine z_ret (pc := 104) (r := some (.int _)) rfl dX4_readsLaw_104 (by first | exact Or.inl rfl | exact Or.inr rfl | assumption) rfl rfl ?_
                have eR : zlaw b a v = (0, a3 + 1, upd (upd (upd v 0 (nI q1)) 1 (nI q2)) 2 (nI q3)) := by
                  unfold zlaw
                  rw [zbd_ok (zsg_yes h0), zbd_ok (znm_yes e1), zbd_ok (zsg_yes h2), zbd_ok (znm_yes e2), zbd_ok (zsg_yes h4), zbd_ok (znm_yes e3), zsg_yes h6]
                rw [eR]
                refine ⟨rfl, _, rfl, fun _ => ⟨fun x y g1 g2 => by repeat rw [zup_no (by omega)], ?_, hl6, ?_, ?_, ?_⟩, fun z => absurd rfl z⟩
                · repeat (first | rw [zup_on] | rw [zup_no (by decide)])
                · show _ = upd (upd (upd v 0 (nI q1)) 1 (nI q2)) 2 (nI q3) 0
                  rw [pk_un (by decide), pk_un (by decide), pk_us]
                  repeat (first | rw [zup_on] | rw [zup_no (by decide)])
                · show _ = upd (upd (upd v 0 (nI q1)) 1 (nI q2)) 2 (nI q3) 1
                  rw [pk_un (by decide), pk_us]
                  repeat (first | rw [zup_on] | rw [zup_no (by decide)])
                · show _ = upd (upd (upd v 0 (nI q1)) 1 (nI q2)) 2 (nI q3) 2
                  rw [pk_us]
                  repeat (first | rw [zup_on] | rw [zup_no (by decide)])
          · skip
            refine z_iconst (pc := 69) (0) dX4_readsLaw_69 rfl ?_
            refine z_ret (pc := 70) (r := some (.int _)) rfl dX4_readsLaw_70 (by first | exact Or.inl rfl | exact Or.inr rfl | assumption) rfl rfl ?_
            have hn : ¬ b a2 = 44 := of_decide_eq_false ((zbb0 _).mp c66)
            rw [if_neg hn]
            have eR : ∃ w, zlaw b a v = (1, a2, w) := ⟨_, by
              unfold zlaw
              rw [zbd_ok (zsg_yes h0), zbd_ok (znm_yes e1), zbd_ok (zsg_yes h2), zbd_ok (znm_yes e2), zbd_no (by rw [zsg_nope hn]; exact zr3_no (by decide)), zsg_nope hn]⟩
            obtain ⟨w, eR⟩ := eR
            rw [eR]
            refine ⟨by rw [decide_eq_false (zr3_no (by decide : ¬ (1 : Nat) = 0))]; rfl, _, rfl, fun z => absurd z (zr3_no (by decide : ¬ (1 : Nat) = 0)), fun _ => ⟨fun x y g1 g2 => by repeat rw [zup_no (by omega)], ?_, ?_⟩⟩
            · repeat (first | rw [zup_on] | rw [zup_no (by decide)])
              try rfl
            · show _ = nI a2
              repeat (first | rw [zup_on] | rw [zup_no (by decide)])
              try exact ha
      · skip
        refine z_iconst (pc := 39) (0) dX4_readsLaw_39 rfl ?_
        refine z_ret (pc := 40) (r := some (.int _)) rfl dX4_readsLaw_40 (by first | exact Or.inl rfl | exact Or.inr rfl | assumption) rfl rfl ?_
        have hn : ¬ b a1 = 44 := of_decide_eq_false ((zbb0 _).mp c36)
        rw [if_neg hn]
        have eR : ∃ w, zlaw b a v = (1, a1, w) := ⟨_, by
          unfold zlaw
          rw [zbd_ok (zsg_yes h0), zbd_ok (znm_yes e1), zbd_no (by rw [zsg_nope hn]; exact zr3_no (by decide)), zsg_nope hn]⟩
        obtain ⟨w, eR⟩ := eR
        rw [eR]
        refine ⟨by rw [decide_eq_false (zr3_no (by decide : ¬ (1 : Nat) = 0))]; rfl, _, rfl, fun z => absurd z (zr3_no (by decide : ¬ (1 : Nat) = 0)), fun _ => ⟨fun x y g1 g2 => by repeat rw [zup_no (by omega)], ?_, ?_⟩⟩
        · repeat (first | rw [zup_on] | rw [zup_no (by decide)])
          try rfl
        · show _ = nI a1
          repeat (first | rw [zup_on] | rw [zup_no (by decide)])
          try exact ha
  · skip
    refine z_iconst (pc := 9) (0) dX4_readsLaw_9 rfl ?_
    refine z_ret (pc := 10) (r := some (.int _)) rfl dX4_readsLaw_10 (by first | exact Or.inl rfl | exact Or.inr rfl | assumption) rfl rfl ?_
    have hn : ¬ b a = 111 := of_decide_eq_false ((zbb0 _).mp c6)
    rw [if_neg hn]
    have eR : ∃ w, zlaw b a v = (1, a, w) := ⟨_, by
      unfold zlaw
      rw [zbd_no (by rw [zsg_nope hn]; exact zr3_no (by decide)), zsg_nope hn]⟩
    obtain ⟨w, eR⟩ := eR
    rw [eR]
    refine ⟨by rw [decide_eq_false (zr3_no (by decide : ¬ (1 : Nat) = 0))]; rfl, _, rfl, fun z => absurd z (zr3_no (by decide : ¬ (1 : Nat) = 0)), fun _ => ⟨fun x y g1 g2 => by repeat rw [zup_no (by omega)], ?_, ?_⟩⟩
    · repeat (first | rw [zup_on] | rw [zup_no (by decide)])
      try rfl
    · show _ = nI a
      repeat (first | rw [zup_on] | rw [zup_no (by decide)])
      try exact ha
def zCs (I I1 : Nat → Nat → Int32) : Prop := ∀ x y, ¬ (23 ≤ x ∧ x ≤ 30) → ¬ (x = 13 ∧ y = 2) → I1 x y = I x y
def zCv (I1 : Nat → Nat → Int32) (v : Nat → Int32) (n T : Nat) : Prop := (n ≤ 6 ∧ T ≤ 10) ∧ (I1 23 0 = v 0 ∧ I1 23 1 = v 1 ∧ I1 23 2 = v 2) ∧ (I1 23 3 = nI n ∧ I1 23 7 = nI T) ∧ (∀ d, d < n → I1 24 d = v (6 + d) ∧ I1 25 d = v (12 + d) ∧ I1 26 d = v (18 + d)) ∧ (∀ k, k < T → I1 27 k = v (24 + k) ∧ I1 28 k = v (34 + k)) ∧ ∀ q, q < 19 → I1 30 q = 0
def zCr (I I1 : Nat → Nat → Int32) (v : Nat → Int32) (a n T : Nat) : Prop := zCs I I1 ∧ I1 13 2 = nI a ∧ a ≤ 120 ∧ zCv I1 v n T
def zCq (I : Nat → Nat → Int32) (J : Nat → Nat → Int64) (nw : Bool) (R : zR3) (n T : Nat) : Option Value → zH → Prop := fun r h1 => r = some (.int (zbb (decide (R.1 = 0)))) ∧ ∃ I2, h1 = (I2, J, RF nw, SH) ∧ (R.1 = 0 → zCr I I2 R.2.2 R.2.1 n T) ∧ (¬ R.1 = 0 → zCf I I2 R.1 R.2.1)
theorem zTc_s {I I1 : Nat → Nat → Int32} {b : Nat → Nat} {L : Nat} (h : zTc I b L) (hs : zCs I I1) : zTc I1 b L := ⟨h.1, by rw [hs 13 1 (by omega) (by omega)]; exact h.2.1, fun i hi => by rw [hs 14 i (by omega) (by omega)]; exact h.2.2.1 i hi, h.2.2.2⟩
def zdrC (b : Nat → Nat) (n a : Nat) (v : Nat → Int32) : zR3 := if zsrt (b a) = 0 then (1, a, v) else zdr b (zsrt (b a)) n a v
def ztiC (b : Nat → Nat) (n T a : Nat) (v : Nat → Int32) : zR3 := if b a = 116 then zti b n T a v else (1, a, v)
set_option maxRecDepth 100000 in
set_option maxHeartbeats 4000000 in
theorem qX4_readsDrinker {l : zL} {I : Nat → Nat → Int32} {J : Nat → Nat → Int64} {nw : Bool} {I1 : Nat → Nat → Int32} {v : Nat → Int32} {b : Nat → Nat} {a L n T : Nat} (hT : zTc I b L) (hR : zCr I I1 v a n T) : zP l mX4_readsDrinker [.ref 13, .ref 23] (hh I1 J nw) (zCq I J nw (zdrC b n a v) (n + 1) T) := by
  obtain ⟨hs, ha, ha2, hv⟩ := hR
  have hT1 := zTc_s hT hs
  have hnn := hv.1.1
  refine z_start [.ref 13, .ref 23, zno, zno, zno] (by decide +kernel) (Nat.le_of_ble_eq_true rfl) rfl ?_
  refine z_aload_0 (pc := 0) dX4_readsDrinker_0 ?_
  refine z_V0 (pc := 1) dX4_readsDrinker_1 mlX4_37 kX4_letter vX4_letter (by decide) (by decide) (by first | rfl | assumption) (Nat.le_of_ble_eq_true rfl) (qX4_letter hT1 ha ha2) ⟨Nat.le_refl _, Nat.le_refl _⟩ (fun r h1 hq => ?_)
  obtain ⟨rfl, rfl⟩ := hq
  refine z_S1 (pc := 4) dX4_readsDrinker_4 mlX4_41 kX4_sortOf vX4_sortOf (by decide) (by decide) (Nat.le_of_ble_eq_true rfl) (qX4_sortOf hT1 a) ⟨Nat.le_refl _, Nat.le_refl _⟩ (fun r h1 hq => ?_)
  obtain ⟨rfl, rfl⟩ := hq
  refine z_istore_2 (pc := 7) dX4_readsDrinker_7 (by decide) rfl ?_
  refine z_iload_2 (pc := 8) dX4_readsDrinker_8 ?_
  refine z_iconst (pc := 9) (-1) dX4_readsDrinker_9 rfl ?_
  refine z_icmp_ne (pc := 10) (tgt := 19) dX4_readsDrinker_10 (by decide) (fun c10 => ?_) (fun c10 => ?_)
  · skip
    have hsr : ¬ zsrt (b a) = 0 := fun z => c10 (by unfold zsrC; rw [if_pos z])
    have hsv : zsrC (b a) = nI (zsrt (b a)) := if_neg hsr
    rw [hsv]
    have hsl := zTp_b (zTc_tp hT1) a
    have hL := hT1.1
    have ha3 : a + 1 ≤ 120 := by
      rcases hsl with z | z
      · omega
      · exact absurd (by rw [z.2]; decide) hsr
    refine z_aload_1 (pc := 19) dX4_readsDrinker_19 ?_
    refine y_getI (pc := 20) dX4_readsDrinker_20 flX4_68 rfl (by first | rfl | assumption) ?_
    rw [hv.2.2.1.1]
    refine z_bipush (pc := 23) (6) dX4_readsDrinker_23 rfl ?_
    refine z_icmp_lt (pc := 25) (tgt := 34) dX4_readsDrinker_25 (by decide) (fun c25 => ?_) (fun c25 => ?_)
    · skip
      have hn6 : ¬ n = 6 := fun z => by rw [z] at c25; exact absurd c25 (by decide)
      refine z_aload_0 (pc := 34) dX4_readsDrinker_34 ?_
      refine z_dup (pc := 35) rfl dX4_readsDrinker_35 ?_
      refine y_getI (pc := 36) dX4_readsDrinker_36 flX4_19 rfl (by first | rfl | assumption) ?_
      rw [ha]
      refine z_iconst (pc := 39) (1) dX4_readsDrinker_39 rfl ?_
      refine z_iadd (pc := 40) dX4_readsDrinker_40 ?_
      rw [nI_1]
      refine y_putI (pc := 41) dX4_readsDrinker_41 flX4_19 ffX4_19 rfl (by first | rfl | assumption) ⟨rfl, rfl⟩ ?_
      refine z_aload_0 (pc := 44) dX4_readsDrinker_44 ?_
      refine z_iconst (pc := 45) (0) dX4_readsDrinker_45 rfl ?_
      refine z_bipush (pc := 46) (12) dX4_readsDrinker_46 rfl ?_
      refine z_V2 (pc := 48) dX4_readsDrinker_48 mlX4_52 kX4_number vX4_number (by decide) (by decide) (by first | rfl | assumption) (Nat.le_of_ble_eq_true rfl) (qX4_number (by repeat (first | exact hT1 | refine zTc_up ?_ (by decide))) (by first | exact zup_on | (rw [zup_no (Or.inl (by decide))]; exact zup_on) | exact ha) (by omega) 0 12 (by decide) (by decide)) ⟨Nat.le_refl _, Nat.le_refl _⟩ (fun r h1 hq => ?_)
      obtain ⟨f1, q1, a1, e1, rfl, rfl⟩ := hq
      have hz1 := zPn_le hT1 e1
      refine z_istore_3 (pc := 51) dX4_readsDrinker_51 (by decide) rfl ?_
      refine z_iload_3 (pc := 52) dX4_readsDrinker_52 ?_
      refine z_iconst (pc := 53) (-1) dX4_readsDrinker_53 rfl ?_
      refine z_icmp_eq (pc := 54) (tgt := 66) dX4_readsDrinker_54 (by decide) (fun c54 => ?_) (fun c54 => ?_)
      · skip
        refine z_iconst (pc := 66) (0) dX4_readsDrinker_66 rfl ?_
        refine z_ret (pc := 67) (r := some (.int _)) rfl dX4_readsDrinker_67 (by first | exact Or.inl rfl | exact Or.inr rfl | assumption) rfl rfl ?_
        have hn : ¬ f1 = 0 := nf_no hz1.1 c54
        rw [if_neg hn]
        have eR : ∃ w, zdrC b n a v = (f1, (a + 1), w) := ⟨_, by
          unfold zdrC zdr
          rw [if_neg hsr, if_neg hn6]
          rw [zbd_no (by rw [znm_nope e1 hn]; exact zr3_no hn), znm_nope e1 hn]⟩
        obtain ⟨w, eR⟩ := eR
        rw [eR]
        refine ⟨by rw [decide_eq_false (zr3_no hn)]; rfl, _, rfl, fun z => absurd z (zr3_no hn), fun _ => ⟨fun x y g1 g2 => ?_, ?_, ?_⟩⟩
        · repeat rw [zup_no (by omega)]
          exact hs x y g1 (by omega)
        · repeat (first | rw [zup_on] | rw [zup_no (by decide)])
          try rfl
        · show _ = nI (a + 1)
          repeat (first | rw [zup_on] | rw [zup_no (by decide)])
          try exact ha
      · skip
        have hf1 : f1 = 0 := nf_ok c54
        subst hf1
        rw [if_pos (rfl : (0 : Nat) = 0), if_pos (rfl : (0 : Nat) = 0)]
        have hm1 := hz1.2 rfl
        refine z_aload_0 (pc := 57) dX4_readsDrinker_57 ?_
        refine z_bipush (pc := 58) (44) dX4_readsDrinker_58 rfl ?_
        refine z_V1 (pc := 60) dX4_readsDrinker_60 mlX4_48 kX4_passes vX4_passes (by decide) (by decide) (by first | rfl | assumption) (Nat.le_of_ble_eq_true rfl) (qX4_passes (by repeat (first | exact hT1 | refine zTc_up ?_ (by decide))) (by first | exact zup_on | (rw [zup_no (Or.inl (by decide))]; exact zup_on) | exact ha) (by omega) 44 (by decide)) ⟨Nat.le_refl _, Nat.le_refl _⟩ (fun r h1 hq => ?_)
        obtain ⟨rfl, rfl⟩ := hq
        refine z_if_ne (pc := 63) (tgt := 68) dX4_readsDrinker_63 (by decide) (fun c63 => ?_) (fun c63 => ?_)
        · skip
          have h2 : b a1 = 44 := of_decide_eq_true ((zbb1 _).mp c63)
          rw [if_pos h2]
          have hl2 := zle1 hT1 (by decide) h2
          refine z_aload_0 (pc := 68) dX4_readsDrinker_68 ?_
          refine z_iconst (pc := 69) (0) dX4_readsDrinker_69 rfl ?_
          refine z_iconst (pc := 70) (5) dX4_readsDrinker_70 rfl ?_
          refine z_V2 (pc := 71) dX4_readsDrinker_71 mlX4_52 kX4_number vX4_number (by decide) (by decide) (by first | rfl | assumption) (Nat.le_of_ble_eq_true rfl) (qX4_number (by repeat (first | exact hT1 | refine zTc_up ?_ (by decide))) (by first | exact zup_on | (rw [zup_no (Or.inl (by decide))]; exact zup_on) | exact ha) (by omega) 0 5 (by decide) (by decide)) ⟨Nat.le_refl _, Nat.le_refl _⟩ (fun r h1 hq => ?_)
          obtain ⟨f2, q2, a2, e2, rfl, rfl⟩ := hq
          have hz2 := zPn_le hT1 e2
          refine z_istore_4 (pc := 74) dX4_readsDrinker_74 (by decide) rfl ?_
          refine z_iload_4 (pc := 76) dX4_readsDrinker_76 ?_
          refine z_iconst (pc := 78) (-1) dX4_readsDrinker_78 rfl ?_
          refine z_icmp_eq (pc := 79) (tgt := 91) dX4_readsDrinker_79 (by decide) (fun c79 => ?_) (fun c79 => ?_)
          · skip
            refine z_iconst (pc := 91) (0) dX4_readsDrinker_91 rfl ?_
            refine z_ret (pc := 92) (r := some (.int _)) rfl dX4_readsDrinker_92 (by first | exact Or.inl rfl | exact Or.inr rfl | assumption) rfl rfl ?_
            have hn : ¬ f2 = 0 := nf_no hz2.1 c79
            rw [if_neg hn]
            have eR : ∃ w, zdrC b n a v = (f2, (a1 + 1), w) := ⟨_, by
              unfold zdrC zdr
              rw [if_neg hsr, if_neg hn6]
              rw [zbd_ok (znm_yes e1), zbd_ok (zsg_yes h2), zbd_no (by rw [znm_nope e2 hn]; exact zr3_no hn), znm_nope e2 hn]⟩
            obtain ⟨w, eR⟩ := eR
            rw [eR]
            refine ⟨by rw [decide_eq_false (zr3_no hn)]; rfl, _, rfl, fun z => absurd z (zr3_no hn), fun _ => ⟨fun x y g1 g2 => ?_, ?_, ?_⟩⟩
            · repeat rw [zup_no (by omega)]
              exact hs x y g1 (by omega)
            · repeat (first | rw [zup_on] | rw [zup_no (by decide)])
              try rfl
            · show _ = nI (a1 + 1)
              repeat (first | rw [zup_on] | rw [zup_no (by decide)])
              try exact ha
          · skip
            have hf2 : f2 = 0 := nf_ok c79
            subst hf2
            rw [if_pos (rfl : (0 : Nat) = 0), if_pos (rfl : (0 : Nat) = 0)]
            have hm2 := hz2.2 rfl
            refine z_aload_0 (pc := 82) dX4_readsDrinker_82 ?_
            refine z_bipush (pc := 83) (59) dX4_readsDrinker_83 rfl ?_
            refine z_V1 (pc := 85) dX4_readsDrinker_85 mlX4_48 kX4_passes vX4_passes (by decide) (by decide) (by first | rfl | assumption) (Nat.le_of_ble_eq_true rfl) (qX4_passes (by repeat (first | exact hT1 | refine zTc_up ?_ (by decide))) (by first | exact zup_on | (rw [zup_no (Or.inl (by decide))]; exact zup_on) | exact ha) (by omega) 59 (by decide)) ⟨Nat.le_refl _, Nat.le_refl _⟩ (fun r h1 hq => ?_)
            obtain ⟨rfl, rfl⟩ := hq
            refine z_if_ne (pc := 88) (tgt := 93) dX4_readsDrinker_88 (by decide) (fun c88 => ?_) (fun c88 => ?_)
            · skip
              have h4 : b a2 = 59 := of_decide_eq_true ((zbb1 _).mp c88)
              rw [if_pos h4]
              have hl4 := zle1 hT1 (by decide) h4
              refine z_aload_1 (pc := 93) dX4_readsDrinker_93 ?_
              refine z_iload_2 (pc := 94) dX4_readsDrinker_94 ?_
              refine z_iload_3 (pc := 95) dX4_readsDrinker_95 ?_
              refine z_iload_4 (pc := 96) dX4_readsDrinker_96 ?_
              refine z_V3 (pc := 98) dX4_readsDrinker_98 mlX4_71 kX7_addDrinker vX7_addDrinker (by decide) (by decide) (by first | rfl | assumption) (Nat.le_of_ble_eq_true rfl) (qX7_addDrinker n (by omega) (by repeat (first | exact hv.2.2.1.1 | rw [zup_no (by omega)]))) ⟨Nat.le_refl _, Nat.le_refl _⟩ (fun r h1 hq => ?_)
              obtain ⟨rfl, rfl⟩ := hq
              refine z_iconst (pc := 101) (1) dX4_readsDrinker_101 rfl ?_
              refine z_ret (pc := 102) (r := some (.int _)) rfl dX4_readsDrinker_102 (by first | exact Or.inl rfl | exact Or.inr rfl | assumption) rfl rfl ?_
              have eR : zdrC b n a v = (0, a2 + 1, upd (upd (upd (upd v (6 + n) (nI (zsrt (b a)))) 3 (nI (n + 1))) (12 + n) (nI q1)) (18 + n) (nI q2)) := by
                unfold zdrC zdr
                rw [if_neg hsr, if_neg hn6, zbd_ok (znm_yes e1), zbd_ok (zsg_yes h2), zbd_ok (znm_yes e2), zsg_yes h4]
              rw [eR]
              refine ⟨rfl, _, rfl, fun _ => ⟨fun x y g1 g2 => ?_, ?_, hl4, ⟨⟨by omega, hv.1.2⟩, ⟨?_, ?_, ?_⟩, ⟨?_, ?_⟩, fun d hd => ⟨?_, ?_, ?_⟩, fun k hk => ⟨?_, ?_⟩, fun q hq => ?_⟩⟩, fun z => absurd rfl z⟩
              · repeat rw [zup_no (by omega)]
                exact hs x y g1 (by omega)
              · show _ = nI (a2 + 1)
                repeat (first | rw [zup_on] | rw [zup_no (by omega)])
              · show _ = upd _ _ _ 0
                rw [pk_un (by omega), pk_un (by omega), pk_un (by omega), pk_un (by omega)]
                repeat rw [zup_no (by omega)]
                exact hv.2.1.1
              · show _ = upd _ _ _ 1
                rw [pk_un (by omega), pk_un (by omega), pk_un (by omega), pk_un (by omega)]
                repeat rw [zup_no (by omega)]
                exact hv.2.1.2.1
              · show _ = upd _ _ _ 2
                rw [pk_un (by omega), pk_un (by omega), pk_un (by omega), pk_un (by omega)]
                repeat rw [zup_no (by omega)]
                exact hv.2.1.2.2
              · rw [zup_on]
              · repeat rw [zup_no (by omega)]
                exact hv.2.2.1.2
              · show _ = upd _ _ _ (6 + d)
                rw [pk_un (by omega), pk_un (by omega), pk_un (by omega), zup_no (by omega), zup_no (by omega), zup_no (by omega)]
                by_cases z : d = n
                · subst z; rw [zup_on, pk_us]
                · rw [zup_no (Or.inr z), pk_un (by omega)]
                  repeat rw [zup_no (by omega)]
                  exact (hv.2.2.2.1 d (by omega)).1
              · show _ = upd _ _ _ (12 + d)
                rw [pk_un (by omega), zup_no (by omega), zup_no (by omega)]
                by_cases z : d = n
                · subst z; rw [zup_on, pk_us]
                · rw [zup_no (Or.inr z), pk_un (by omega), pk_un (by omega), pk_un (by omega)]
                  repeat rw [zup_no (by omega)]
                  exact (hv.2.2.2.1 d (by omega)).2.1
              · show _ = upd _ _ _ (18 + d)
                rw [zup_no (by omega)]
                by_cases z : d = n
                · subst z; rw [zup_on, pk_us]
                · rw [zup_no (Or.inr z), pk_un (by omega), pk_un (by omega), pk_un (by omega), pk_un (by omega)]
                  repeat rw [zup_no (by omega)]
                  exact (hv.2.2.2.1 d (by omega)).2.2
              · show _ = upd _ _ _ (24 + k)
                have := hv.1.2
                rw [pk_un (by omega), pk_un (by omega), pk_un (by omega), pk_un (by omega)]
                repeat rw [zup_no (by omega)]
                exact (hv.2.2.2.2.1 k hk).1
              · show _ = upd _ _ _ (34 + k)
                have := hv.1.2
                rw [pk_un (by omega), pk_un (by omega), pk_un (by omega), pk_un (by omega)]
                repeat rw [zup_no (by omega)]
                exact (hv.2.2.2.2.1 k hk).2
              · repeat rw [zup_no (by omega)]
                exact hv.2.2.2.2.2 q hq
            · skip
              refine z_iconst (pc := 91) (0) dX4_readsDrinker_91 rfl ?_
              refine z_ret (pc := 92) (r := some (.int _)) rfl dX4_readsDrinker_92 (by first | exact Or.inl rfl | exact Or.inr rfl | assumption) rfl rfl ?_
              have hn : ¬ b a2 = 59 := of_decide_eq_false ((zbb0 _).mp c88)
              rw [if_neg hn]
              have eR : ∃ w, zdrC b n a v = (1, a2, w) := ⟨_, by
                unfold zdrC zdr
                rw [if_neg hsr, if_neg hn6]
                rw [zbd_ok (znm_yes e1), zbd_ok (zsg_yes h2), zbd_ok (znm_yes e2), zsg_nope hn]⟩
              obtain ⟨w, eR⟩ := eR
              rw [eR]
              refine ⟨by rw [decide_eq_false (zr3_no (by decide : ¬ (1 : Nat) = 0))]; rfl, _, rfl, fun z => absurd z (zr3_no (by decide : ¬ (1 : Nat) = 0)), fun _ => ⟨fun x y g1 g2 => ?_, ?_, ?_⟩⟩
              · repeat rw [zup_no (by omega)]
                exact hs x y g1 (by omega)
              · repeat (first | rw [zup_on] | rw [zup_no (by decide)])
                try rfl
              · show _ = nI a2
                repeat (first | rw [zup_on] | rw [zup_no (by decide)])
                try exact ha
        · skip
          refine z_iconst (pc := 66) (0) dX4_readsDrinker_66 rfl ?_
          refine z_ret (pc := 67) (r := some (.int _)) rfl dX4_readsDrinker_67 (by first | exact Or.inl rfl | exact Or.inr rfl | assumption) rfl rfl ?_
          have hn : ¬ b a1 = 44 := of_decide_eq_false ((zbb0 _).mp c63)
          rw [if_neg hn]
          have eR : ∃ w, zdrC b n a v = (1, a1, w) := ⟨_, by
            unfold zdrC zdr
            rw [if_neg hsr, if_neg hn6]
            rw [zbd_ok (znm_yes e1), zbd_no (by rw [zsg_nope hn]; exact zr3_no (by decide)), zsg_nope hn]⟩
          obtain ⟨w, eR⟩ := eR
          rw [eR]
          refine ⟨by rw [decide_eq_false (zr3_no (by decide : ¬ (1 : Nat) = 0))]; rfl, _, rfl, fun z => absurd z (zr3_no (by decide : ¬ (1 : Nat) = 0)), fun _ => ⟨fun x y g1 g2 => ?_, ?_, ?_⟩⟩
          · repeat rw [zup_no (by omega)]
            exact hs x y g1 (by omega)
          · repeat (first | rw [zup_on] | rw [zup_no (by decide)])
            try rfl
          · show _ = nI a1
            repeat (first | rw [zup_on] | rw [zup_no (by decide)])
            try exact ha
    · skip
      refine z_aload_0 (pc := 28) dX4_readsDrinker_28 ?_
      refine z_iconst (pc := 29) (3) dX4_readsDrinker_29 rfl ?_
      refine z_V1 (pc := 30) dX4_readsDrinker_30 mlX4_65 kX4_fails vX4_fails (by decide) (by decide) (by first | rfl | assumption) (Nat.le_of_ble_eq_true rfl) (qX4_fails) ⟨Nat.le_refl _, Nat.le_refl _⟩ (fun r h1 hq => ?_)
      obtain ⟨rfl, rfl⟩ := hq
      refine z_ret (pc := 33) (r := some (.int _)) rfl dX4_readsDrinker_33 (by first | exact Or.inl rfl | exact Or.inr rfl | assumption) rfl rfl ?_
      have h6 : n = 6 := by
        have := hv.1.1
        rcases Nat.lt_or_ge n 6 with z | z
        · exact absurd (nI_lt z (by decide)) c25
        · omega
      have eR : zdrC b n a v = (3, a, v) := by unfold zdrC zdr; rw [if_neg hsr, if_pos h6]
      rw [eR]
      refine ⟨by rw [decide_eq_false (zr3_no (by decide : ¬ (3 : Nat) = 0))]; rfl, _, rfl, fun z => absurd z (zr3_no (by decide : ¬ (3 : Nat) = 0)), fun _ => ⟨fun x y g1 g2 => ?_, ?_, ?_⟩⟩
      · repeat rw [zup_no (by omega)]
        exact hs x y g1 (by omega)
      · repeat (first | rw [zup_on] | rw [zup_no (by decide)])
        try rfl
      · show _ = nI a
        repeat (first | rw [zup_on] | rw [zup_no (by decide)])
        try exact ha
  · skip
    refine z_aload_0 (pc := 13) dX4_readsDrinker_13 ?_
    refine z_iconst (pc := 14) (1) dX4_readsDrinker_14 rfl ?_
    refine z_V1 (pc := 15) dX4_readsDrinker_15 mlX4_65 kX4_fails vX4_fails (by decide) (by decide) (by first | rfl | assumption) (Nat.le_of_ble_eq_true rfl) (qX4_fails) ⟨Nat.le_refl _, Nat.le_refl _⟩ (fun r h1 hq => ?_)
    obtain ⟨rfl, rfl⟩ := hq
    refine z_ret (pc := 18) (r := some (.int _)) rfl dX4_readsDrinker_18 (by first | exact Or.inl rfl | exact Or.inr rfl | assumption) rfl rfl ?_
    have hsr : zsrt (b a) = 0 := by
      by_cases z : zsrt (b a) = 0
      · exact z
      · have c10 : zsrC (b a) = -1 := c10
        unfold zsrC at c10
        rw [if_neg z] at c10
        have e := congrArg Int32.toInt c10
        have := zsrt_lt (b a)
        rw [nI_toInt (by omega)] at e
        have h2 : (-1 : Int32).toInt = -1 := by decide
        omega
    have eR : zdrC b n a v = (1, a, v) := if_pos hsr
    rw [eR]
    refine ⟨by rw [decide_eq_false (zr3_no (by decide : ¬ (1 : Nat) = 0))]; rfl, _, rfl, fun z => absurd z (zr3_no (by decide : ¬ (1 : Nat) = 0)), fun _ => ⟨fun x y g1 g2 => ?_, ?_, ?_⟩⟩
    · repeat rw [zup_no (by omega)]
      exact hs x y g1 (by omega)
    · repeat (first | rw [zup_on] | rw [zup_no (by decide)])
      try rfl
    · show _ = nI a
      repeat (first | rw [zup_on] | rw [zup_no (by decide)])
      try exact ha
