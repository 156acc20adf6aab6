theorem zPub_fr {P : Int32 × (Nat → Nat → Int32)} {v : Int32} {I I2 : Nat → Nat → Int32} {J : Nat → Nat → Int64} {nw : Bool} (e : P = (v, I)) (hF : zFr I I2) : zPub P (some (.int v)) (I2, J, RF nw, SH) := by
  subst e; exact ⟨rfl, I2, J, nw, rfl, fun a h _ => hF a h⟩
/-- the town for a telling of cask i, without these ties -/
def ztE (I : Nat → Nat → Int32) (n T : Nat) (A B : Nat → Nat) (w : Nat → Bool) (i : Nat) : zTn := zTe I (I 16) n T A B w (I 22 (1 + i) - 1)
def zmxs (fs : Nat → Int32) : Nat := max (fs 0).toNatClampNeg (max (fs 1).toNatClampNeg (max (fs 2).toNatClampNeg (max (fs 3).toNatClampNeg (max (fs 4).toNatClampNeg (fs 5).toNatClampNeg))))
theorem zmxs_ge (fs : Nat → Int32) : ∀ d, d < 6 → (fs d).toNatClampNeg ≤ zmxs fs := by
  unfold zmxs
  apply six <;> omega
theorem zmxs_le {fs : Nat → Int32} {m : Nat} (h : ∀ d, d < 6 → (fs d).toNatClampNeg ≤ m) : zmxs fs ≤ m := by
  have h0 := h 0 (by decide); have h1 := h 1 (by decide); have h2 := h 2 (by decide); have h3 := h 3 (by decide); have h4 := h 4 (by decide); have h5 := h 5 (by decide)
  unfold zmxs
  omega
theorem zst7_eq {fs : Nat → Int32} {st : Nat} (h : zst7 fs st) (hr : ∀ d, d < 6 → fs d = -1 ∨ ∃ q, q < 8 ∧ fs d = nI q) (h8 : st < 8) : st = zmxs fs := by
  apply Nat.le_antisymm
  · rcases h.2 with h0 | ⟨d, hd, e⟩
    · omega
    · have := zmxs_ge fs d hd
      rw [e, nI_clamp (by omega)] at this
      exact this
  · refine zmxs_le (fun d hd => ?_)
    rcases hr d hd with e | ⟨q, hq, e⟩
    · rw [e]; exact Nat.zero_le _
    · rw [e, nI_clamp (by omega)]; exact h.1 d hd q hq e
def pTell (I : Nat → Nat → Int32) (n T : Nat) (A B : Nat → Nat) (x s w : Int32) : Int32 × (Nat → Nat → Int32) := if zlt x 4 = true ∧ ¬ s = 0 ∧ zsub s n = true ∧ zlt w 4 = true then (if I 22 (1 + x.toNatClampNeg) = 0 then (-1000002, I) else (if w = 0 then nI (bs (zgo (ztE I n T A B (fun _ => false) x.toNatClampNeg) (zbt s.toNatClampNeg) (zsc I x.toNatClampNeg)).2) else if w = 1 then nI (bs (zrc (zgo (ztE I n T A B (fun _ => false) x.toNatClampNeg) (zbt s.toNatClampNeg) (zsc I x.toNatClampNeg)).1)) else if w = 2 then nI (zmxs (zgo (ztE I n T A B (fun _ => false) x.toNatClampNeg) (zbt s.toNatClampNeg) (zsc I x.toNatClampNeg)).1) else I 15 2 * zbc (nI (bs (zrc (zgo (ztE I n T A B (fun _ => false) x.toNatClampNeg) (zbt s.toNatClampNeg) (zsc I x.toNatClampNeg)).1))), I)) else (-1000001, I)
def zcs (s w : Int32) : Int32 := if s = -1000000 ∨ w = 1 then s else zbc s
def pFew (I : Nat → Nat → Int32) (n T : Nat) (A B : Nat → Nat) (x a b w : Int32) : Int32 × (Nat → Nat → Int32) := if zlt x 4 = true ∧ zsub a n = true ∧ zsub b n = true ∧ a &&& b = 0 ∧ zlt w 2 = true then (if I 22 (1 + x.toNatClampNeg) = 0 then (-1000002, I) else (zcs (zfew (fun s => decide (nI (bs (zgo (ztE I n T A B (fun _ => false) x.toNatClampNeg) (zbt s) (zsc I x.toNatClampNeg)).2) &&& (a ||| b) = a)) (2 ^ n)) w, I)) else (-1000001, I)
def pSil (I : Nat → Nat → Int32) (n T : Nat) (A B : Nat → Nat) (x a b w : Int32) : Int32 × (Nat → Nat → Int32) := if zlt x 4 = true ∧ (zlt a n = true ∧ zlt b n = true ∧ ¬ a = b) ∧ zlt w 2 = true then (if I 22 (1 + x.toNatClampNeg) = 0 then (-1000002, I) else (zcs (zfew (fun s => !zrc (zgo (ztE I n T A B (zbt s) x.toNatClampNeg) (fun e => e == a.toNatClampNeg) (zsc I x.toNatClampNeg)).1 b.toNatClampNeg) (2 ^ T)) w, I)) else (-1000001, I)
def zmany1 (I : Nat → Nat → Int32) (n T : Nat) (A B : Nat → Nat) (i d : Nat) : Int32 := zbc (nI (bs (zgo (ztE I n T A B (fun _ => false) i) (fun e => e == d) (zsc I i)).2))
def pBest (I : Nat → Nat → Int32) (n T : Nat) (A B : Nat → Nat) (x w : Int32) : Int32 × (Nat → Nat → Int32) := if zlt x 4 = true ∧ zlt w 2 = true then (if I 22 (1 + x.toNatClampNeg) = 0 then (-1000002, I) else (if w = 0 then (zbest (zmany1 I n T A B x.toNatClampNeg) n).1 else zmany1 I n T A B x.toNatClampNeg (zbest (zmany1 I n T A B x.toNatClampNeg) n).1.toNatClampNeg, I)) else (-1000001, I)
def pBld (I : Nat → Nat → Int32) (n T : Nat) (A B : Nat → Nat) (x y d : Int32) : Int32 × (Nat → Nat → Int32) := if (zlt x 4 = true ∧ zlt y 4 = true ∧ ¬ x = y) ∧ zlt d n = true then (if I 22 (1 + x.toNatClampNeg) = 0 ∨ I 22 (1 + y.toNatClampNeg) = 0 then (-1000002, I) else (zbc (nI (bs (zgo (ztE I n T A B (fun _ => false) y.toNatClampNeg) (fun e => e == d.toNatClampNeg) (zst (I 15 0) (I 15 1) (zblm I x.toNatClampNeg y.toNatClampNeg) (I 22 (9 + y.toNatClampNeg)))).2)), I)) else (-1000001, I)
theorem zbest_in (f : Nat → Int32) : ∀ n, 1 ≤ n → (∃ d, d < n ∧ (zbest f n).1 = nI d)
  | 0, h => by omega
  | 1, _ => by
    refine ⟨0, by decide, ?_⟩
    rw [zbest]
    by_cases h : (zbest f 0).2 < f 0
    · rw [if_pos h]
    · rw [if_neg h]; rfl
  | n + 2, _ => by
    obtain ⟨d, h1, h2⟩ := zbest_in f (n + 1) (by omega)
    rw [zbest]
    by_cases h : (zbest f (n + 1)).2 < f (n + 1)
    · rw [if_pos h]; exact ⟨n + 1, by omega, rfl⟩
    · rw [if_neg h]; exact ⟨d, by omega, h2⟩
set_option maxRecDepth 100000 in
set_option maxHeartbeats 4000000 in
theorem qX8_telling {l : zL} {I : Nat → Nat → Int32} {J : Nat → Nat → Int64} {nw : Bool} (n T : Nat) (A B : Nat → Nat) (ht : zTown I n T A B) (hWh : ∀ i, i < 4 → I 22 (1 + i) = 0 ∨ ∃ w, w < n ∧ I 22 (1 + i) = nI (w + 1)) {x s w : Int32} : zP l mX8_telling [.ref 0, .int x, .int s, .int w] (hh I J nw) (zPub (pTell I n T A B x s w)) := by
  refine z_start [.ref 0, .int x, .int s, .int w] (by decide +kernel) (Nat.le_of_ble_eq_true rfl) rfl ?_
  refine z_iload_1 (pc := 0) dX8_telling_0 ?_
  refine z_S1 (pc := 1) dX8_telling_1 mlX8_185 kX8_isCask vX8_isCask (by decide) (by decide) (Nat.le_of_ble_eq_true rfl) (qX8_isCask) ⟨Nat.le_refl _, Nat.le_refl _⟩ (fun r h1 hq => ?_)
  obtain ⟨rfl, rfl⟩ := hq
  refine z_if_eq (pc := 4) (tgt := 28) dX8_telling_4 (by decide) (fun c4 => ?_) (fun c4 => ?_)
  · skip
    refine z_ldc (pc := 28) dX8_telling_28 kcX8_77 ?_
    refine z_ret (pc := 30) (r := some (.int _)) rfl dX8_telling_30 trivial rfl rfl ?_
    refine zPub_of ?_
    simp only [zbb0, zbb1, zb_eq0, zb_ne0, Classical.not_not, Bool.not_eq_false] at *
    simp [pTell, c4]
  · skip
    refine z_iload_2 (pc := 7) dX8_telling_7 ?_
    refine z_if_eq (pc := 8) (tgt := 28) dX8_telling_8 (by decide) (fun c8 => ?_) (fun c8 => ?_)
    · skip
      refine z_ldc (pc := 28) dX8_telling_28 kcX8_77 ?_
      refine z_ret (pc := 30) (r := some (.int _)) rfl dX8_telling_30 trivial rfl rfl ?_
      refine zPub_of ?_
      simp only [zbb0, zbb1, zb_eq0, zb_ne0, Classical.not_not, Bool.not_eq_false] at *
      simp [pTell, c8]
    · skip
      refine z_aload_0 (pc := 11) dX8_telling_11 ?_
      refine z_iload_2 (pc := 12) dX8_telling_12 ?_
      refine z_V1 (pc := 13) dX8_telling_13 mlX8_231 kX8_areDrinkers vX8_areDrinkers (by decide) (by decide) (by first | rfl | assumption) (Nat.le_of_ble_eq_true rfl) (qX8_areDrinkers n ht.1 ht.2.1) ⟨Nat.le_refl _, Nat.le_refl _⟩ (fun r h1 hq => ?_)
      obtain ⟨rfl, rfl⟩ := hq
      refine z_if_eq (pc := 16) (tgt := 28) dX8_telling_16 (by decide) (fun c16 => ?_) (fun c16 => ?_)
      · skip
        refine z_ldc (pc := 28) dX8_telling_28 kcX8_77 ?_
        refine z_ret (pc := 30) (r := some (.int _)) rfl dX8_telling_30 trivial rfl rfl ?_
        refine zPub_of ?_
        simp only [zbb0, zbb1, zb_eq0, zb_ne0, Classical.not_not, Bool.not_eq_false] at *
        simp [pTell, c16]
      · skip
        refine z_iload_3 (pc := 19) dX8_telling_19 ?_
        refine z_if_lt (pc := 20) (tgt := 28) dX8_telling_20 (by decide) (fun c20 => ?_) (fun c20 => ?_)
        · skip
          refine z_ldc (pc := 28) dX8_telling_28 kcX8_77 ?_
          refine z_ret (pc := 30) (r := some (.int _)) rfl dX8_telling_30 trivial rfl rfl ?_
          refine zPub_of ?_
          simp only [zbb0, zbb1, zb_eq0, zb_ne0, Classical.not_not, Bool.not_eq_false] at *
          simp [pTell, zle_no (x := w) (c := 3) (m := 3) (by decide) (Or.inl c20)]
        · skip
          refine z_iload_3 (pc := 23) dX8_telling_23 ?_
          refine z_iconst (pc := 24) (3) dX8_telling_24 rfl ?_
          refine z_icmp_le (pc := 25) (tgt := 31) dX8_telling_25 (by decide) (fun c25 => ?_) (fun c25 => ?_)
          · skip
            obtain ⟨i, hi, rfl⟩ := zlt_nI (by decide) ((zbb1 _).mp c4)
            have hcl : (nI i).toNatClampNeg = i := nI_clamp (by omega)
            have hsub := (zbb1 _).mp c16
            obtain ⟨m, hm, rfl⟩ := zlt_nI (by have := pow6 n ht.1; omega) hsub
            have hcl2 : (nI m).toNatClampNeg = m := nI_clamp (by have := pow6 n ht.1; omega)
            have hw4 : zlt w 4 = true := (zle_yes (m := 3) (by decide) c20 c25)
            refine z_aload_0 (pc := 31) dX8_telling_31 ?_
            refine y_getR (pc := 32) dX8_telling_32 flX8_26 rfl (by first | rfl | assumption) (by first | rfl | assumption) ?_
            refine y_getR (pc := 35) dX8_telling_35 flX8_148 rfl (by first | rfl | assumption) (by first | rfl | assumption) ?_
            refine z_iload_1 (pc := 38) dX8_telling_38 ?_
            refine z_V1 (pc := 39) dX8_telling_39 mlX8_188 kX2_isMissing vX2_isMissing (by decide) (by decide) (by first | rfl | assumption) (Nat.le_of_ble_eq_true rfl) (qX2_isMissing rfl rfl rfl i rfl hi) ⟨Nat.le_refl _, Nat.le_refl _⟩ (fun r h1 hq => ?_)
            obtain ⟨rfl, rfl⟩ := hq
            refine z_if_eq (pc := 42) (tgt := 48) dX8_telling_42 (by decide) (fun c42 => ?_) (fun c42 => ?_)
            · skip
              obtain ⟨w0, hw0, hwe⟩ := (hWh i hi).resolve_left ((zb_eq0 _).mp c42)
              have ew : I 22 (1 + i) - 1 = nI w0 := by rw [hwe, nI_pred]
              refine z_aload_0 (pc := 48) dX8_telling_48 ?_
              refine y_getR (pc := 49) dX8_telling_49 flX8_49 rfl (by first | rfl | assumption) (by first | rfl | assumption) ?_
              refine z_V0 (pc := 52) dX8_telling_52 mlX8_234 kX6_beAsTold vX6_beAsTold (by decide) (by decide) (by first | rfl | assumption) (Nat.le_of_ble_eq_true rfl) (qX6_beAsTold T ht.2.2.1 ht.2.2.2.1 A B (fun k hk => ⟨(ht.2.2.2.2.1 k hk).1, by have := (ht.2.2.2.2.1 k hk).2; have := ht.1; omega⟩) (fun k hk => ⟨(ht.2.2.2.2.2.1 k hk).1, by have := (ht.2.2.2.2.2.1 k hk).2; have := ht.1; omega⟩)) ⟨Nat.le_refl _, Nat.le_refl _⟩ (fun r h1 hq => ?_)
              obtain ⟨rfl, g2, rfl, hg2⟩ := hq
              have hT := zTold.first ht hg2
              refine z_aload_0 (pc := 55) dX8_telling_55 ?_
              refine y_getR (pc := 56) dX8_telling_56 flX8_49 rfl (by first | rfl | assumption) (by first | rfl | assumption) ?_
              refine z_iload_1 (pc := 59) dX8_telling_59 ?_
              refine z_iload_2 (pc := 60) dX8_telling_60 ?_
              refine z_V2 (pc := 61) dX8_telling_61 mlX8_237 kX6_spreadCask vX6_spreadCask (by decide) (by decide) (by first | rfl | assumption) (Nat.le_of_ble_eq_true rfl) (qX6_spreadCask (zTe I (I 16) n T A B (fun _ => false) (nI w0)) (hT.set ht) i rfl hi (by rw [hT.1 22 (by omega)]; exact ew.symm) (zbt m) (by rw [bs_bits m (by have := pow6 n ht.1; omega)]) (zbt_lt hm)) ⟨Nat.le_refl _, Nat.le_refl _⟩ (fun r h1 hq => ?_)
              obtain ⟨rfl, I2, nw2, rfl, f1, f2, f3, f4, f5, st, f6, f7, f8⟩ := hq
              have hF2 : zFr I I2 := hT.1.trans (fun a ha => f1 a (by omega) (by omega) (by omega))
              rw [zsc_keep hT.1] at f3 f4 f5 f7
              obtain ⟨j, hj, rfl⟩ := zlt_nI (by decide) hw4
              refine z_iload_3 (pc := 64) dX8_telling_64 ?_
              have hc : j = 0 ∨ j = 1 ∨ j = 2 ∨ j = 3 := by omega
              rcases hc with rfl | rfl | rfl | rfl
              · skip
                refine z_tableIn (pc := 65) (tgt := 92) dX8_telling_65 (by decide) (by decide) rfl (by decide) ?_
                refine z_aload_0 (pc := 92) dX8_telling_92 ?_
                refine y_getR (pc := 93) dX8_telling_93 flX8_49 rfl (by first | rfl | assumption) (by first | rfl | assumption) ?_
                refine y_getI (pc := 96) dX8_telling_96 flX8_240 rfl (by first | rfl | assumption) ?_
                refine z_ret (pc := 99) (r := some (.int _)) rfl dX8_telling_99 trivial rfl rfl ?_
                refine zPub_fr ?_ hF2
                rw [zb_eq0] at c42
                unfold pTell ztE
                rw [if_pos ⟨zlt_of hi (by decide), c8, hsub, hw4⟩, hcl, hcl2, if_neg c42, ew, f3]
                rfl
              · skip
                refine z_tableIn (pc := 65) (tgt := 100) dX8_telling_65 (by decide) (by decide) rfl (by decide) ?_
                refine z_aload_0 (pc := 100) dX8_telling_100 ?_
                refine y_getR (pc := 101) dX8_telling_101 flX8_49 rfl (by first | rfl | assumption) (by first | rfl | assumption) ?_
                refine y_getI (pc := 104) dX8_telling_104 flX8_243 rfl (by first | rfl | assumption) ?_
                refine z_ret (pc := 107) (r := some (.int _)) rfl dX8_telling_107 trivial rfl rfl ?_
                refine zPub_fr ?_ hF2
                rw [zb_eq0] at c42
                unfold pTell ztE
                rw [if_pos ⟨zlt_of hi (by decide), c8, hsub, hw4⟩, hcl, hcl2, if_neg c42, ew, f4]
                rfl
              · skip
                refine z_tableIn (pc := 65) (tgt := 108) dX8_telling_65 (by decide) (by decide) rfl (by decide) ?_
                refine z_aload_0 (pc := 108) dX8_telling_108 ?_
                refine y_getR (pc := 109) dX8_telling_109 flX8_49 rfl (by first | rfl | assumption) (by first | rfl | assumption) ?_
                refine y_getI (pc := 112) dX8_telling_112 flX8_246 rfl (by first | rfl | assumption) ?_
                refine z_ret (pc := 115) (r := some (.int _)) rfl dX8_telling_115 trivial rfl rfl ?_
                refine zPub_fr ?_ hF2
                rw [zb_eq0] at c42
                unfold pTell ztE
                rw [if_pos ⟨zlt_of hi (by decide), c8, hsub, hw4⟩, hcl, hcl2, if_neg c42, ew, f6, zst7_eq f7 f5 f8]
                rfl
              · skip
                refine z_tableOut (pc := 65) (tgt := 116) dX8_telling_65 (Or.inr (by decide)) (by decide) ?_
                refine z_aload_0 (pc := 116) dX8_telling_116 ?_
                refine y_getR (pc := 117) dX8_telling_117 flX8_26 rfl (by first | rfl | assumption) (by first | rfl | assumption) ?_
                refine y_getI (pc := 120) dX8_telling_120 flX8_249 rfl (by first | rfl | assumption) ?_
                refine z_aload_0 (pc := 123) dX8_telling_123 ?_
                refine y_getR (pc := 124) dX8_telling_124 flX8_49 rfl (by first | rfl | assumption) (by first | rfl | assumption) ?_
                refine y_getI (pc := 127) dX8_telling_127 flX8_243 rfl (by first | rfl | assumption) ?_
                refine z_S1 (pc := 130) dX8_telling_130 mlX8_252 kJ6_bitCount_0f7a4 vJ6_bitCount_0f7a4 (by decide) (by decide) (Nat.le_of_ble_eq_true rfl) (qJ6_bitCount_0f7a4) ⟨Nat.le_refl _, Nat.le_refl _⟩ (fun r h1 hq => ?_)
                obtain ⟨rfl, rfl⟩ := hq
                refine z_imul (pc := 133) dX8_telling_133 ?_
                refine z_ret (pc := 134) (r := some (.int _)) rfl dX8_telling_134 trivial rfl rfl ?_
                refine zPub_fr ?_ hF2
                rw [zb_eq0] at c42
                unfold pTell ztE
                rw [if_pos ⟨zlt_of hi (by decide), c8, hsub, hw4⟩, hcl, hcl2, if_neg c42, ew, f4, hF2 15 (by omega)]
                rfl
            · skip
              refine z_ldc (pc := 45) dX8_telling_45 kcX8_147 ?_
              refine z_ret (pc := 47) (r := some (.int _)) rfl dX8_telling_47 trivial rfl rfl ?_
              refine zPub_of ?_
              simp only [zbb0, zbb1, zb_eq0, zb_ne0, Classical.not_not, Bool.not_eq_false] at *
              unfold pTell
              rw [if_pos ⟨zlt_of hi (by decide), c8, hsub, hw4⟩, hcl, if_pos c42]
          · skip
            refine z_ldc (pc := 28) dX8_telling_28 kcX8_77 ?_
            refine z_ret (pc := 30) (r := some (.int _)) rfl dX8_telling_30 trivial rfl rfl ?_
            refine zPub_of ?_
            simp only [zbb0, zbb1, zb_eq0, zb_ne0, Classical.not_not, Bool.not_eq_false] at *
            simp [pTell, zle_no (x := w) (c := 3) (m := 3) (by decide) (Or.inr c25)]
set_option maxRecDepth 100000 in
set_option maxHeartbeats 4000000 in
theorem qX8_fewest {l : zL} {I : Nat → Nat → Int32} {J : Nat → Nat → Int64} {nw : Bool} (n T : Nat) (A B : Nat → Nat) (ht : zTown I n T A B) (hWh : ∀ i, i < 4 → I 22 (1 + i) = 0 ∨ ∃ w, w < n ∧ I 22 (1 + i) = nI (w + 1)) {x a b w : Int32} : zP l mX8_fewest [.ref 0, .int x, .int a, .int b, .int w] (hh I J nw) (zPub (pFew I n T A B x a b w)) := by
  refine z_start [.ref 0, .int x, .int a, .int b, .int w] (by decide +kernel) (Nat.le_of_ble_eq_true rfl) rfl ?_
  refine z_iload_1 (pc := 0) dX8_fewest_0 ?_
  refine z_S1 (pc := 1) dX8_fewest_1 mlX8_185 kX8_isCask vX8_isCask (by decide) (by decide) (Nat.le_of_ble_eq_true rfl) (qX8_isCask) ⟨Nat.le_refl _, Nat.le_refl _⟩ (fun r h1 hq => ?_)
  obtain ⟨rfl, rfl⟩ := hq
  refine z_if_eq (pc := 4) (tgt := 37) dX8_fewest_4 (by decide) (fun c4 => ?_) (fun c4 => ?_)
  · skip
    refine z_ldc (pc := 37) dX8_fewest_37 kcX8_77 ?_
    refine z_ret (pc := 39) (r := some (.int _)) rfl dX8_fewest_39 trivial rfl rfl ?_
    refine zPub_of ?_
    simp only [zbb0, zbb1, zb_eq0, zb_ne0, Classical.not_not, Bool.not_eq_false] at *
    simp [pFew, c4]
  · skip
    refine z_aload_0 (pc := 7) dX8_fewest_7 ?_
    refine z_iload_2 (pc := 8) dX8_fewest_8 ?_
    refine z_V1 (pc := 9) dX8_fewest_9 mlX8_231 kX8_areDrinkers vX8_areDrinkers (by decide) (by decide) (by first | rfl | assumption) (Nat.le_of_ble_eq_true rfl) (qX8_areDrinkers n ht.1 ht.2.1) ⟨Nat.le_refl _, Nat.le_refl _⟩ (fun r h1 hq => ?_)
    obtain ⟨rfl, rfl⟩ := hq
    refine z_if_eq (pc := 12) (tgt := 37) dX8_fewest_12 (by decide) (fun c12 => ?_) (fun c12 => ?_)
    · skip
      refine z_ldc (pc := 37) dX8_fewest_37 kcX8_77 ?_
      refine z_ret (pc := 39) (r := some (.int _)) rfl dX8_fewest_39 trivial rfl rfl ?_
      refine zPub_of ?_
      simp only [zbb0, zbb1, zb_eq0, zb_ne0, Classical.not_not, Bool.not_eq_false] at *
      simp [pFew, c12]
    · skip
      refine z_aload_0 (pc := 15) dX8_fewest_15 ?_
      refine z_iload_3 (pc := 16) dX8_fewest_16 ?_
      refine z_V1 (pc := 17) dX8_fewest_17 mlX8_231 kX8_areDrinkers vX8_areDrinkers (by decide) (by decide) (by first | rfl | assumption) (Nat.le_of_ble_eq_true rfl) (qX8_areDrinkers n ht.1 ht.2.1) ⟨Nat.le_refl _, Nat.le_refl _⟩ (fun r h1 hq => ?_)
      obtain ⟨rfl, rfl⟩ := hq
      refine z_if_eq (pc := 20) (tgt := 37) dX8_fewest_20 (by decide) (fun c20 => ?_) (fun c20 => ?_)
      · skip
        refine z_ldc (pc := 37) dX8_fewest_37 kcX8_77 ?_
        refine z_ret (pc := 39) (r := some (.int _)) rfl dX8_fewest_39 trivial rfl rfl ?_
        refine zPub_of ?_
        simp only [zbb0, zbb1, zb_eq0, zb_ne0, Classical.not_not, Bool.not_eq_false] at *
        simp [pFew, c20]
      · skip
        refine z_iload_2 (pc := 23) dX8_fewest_23 ?_
        refine z_iload_3 (pc := 24) dX8_fewest_24 ?_
        refine z_iand (pc := 25) dX8_fewest_25 ?_
        refine z_if_ne (pc := 26) (tgt := 37) dX8_fewest_26 (by decide) (fun c26 => ?_) (fun c26 => ?_)
        · skip
          refine z_ldc (pc := 37) dX8_fewest_37 kcX8_77 ?_
          refine z_ret (pc := 39) (r := some (.int _)) rfl dX8_fewest_39 trivial rfl rfl ?_
          refine zPub_of ?_
          simp only [zbb0, zbb1, zb_eq0, zb_ne0, Classical.not_not, Bool.not_eq_false] at *
          simp [pFew, c26]
        · skip
          refine z_iload_4 (pc := 29) dX8_fewest_29 ?_
          refine z_S1 (pc := 31) dX8_fewest_31 mlX8_257 kX8_isFirstOrSecond vX8_isFirstOrSecond (by decide) (by decide) (Nat.le_of_ble_eq_true rfl) (qX8_isFirstOrSecond) ⟨Nat.le_refl _, Nat.le_refl _⟩ (fun r h1 hq => ?_)
          obtain ⟨rfl, rfl⟩ := hq
          refine z_if_ne (pc := 34) (tgt := 40) dX8_fewest_34 (by decide) (fun c34 => ?_) (fun c34 => ?_)
          · skip
            obtain ⟨i, hi, rfl⟩ := zlt_nI (by decide) ((zbb1 _).mp c4)
            have hcl : (nI i).toNatClampNeg = i := nI_clamp (by omega)
            refine z_aload_0 (pc := 40) dX8_fewest_40 ?_
            refine y_getR (pc := 41) dX8_fewest_41 flX8_26 rfl (by first | rfl | assumption) (by first | rfl | assumption) ?_
            refine y_getR (pc := 44) dX8_fewest_44 flX8_148 rfl (by first | rfl | assumption) (by first | rfl | assumption) ?_
            refine z_iload_1 (pc := 47) dX8_fewest_47 ?_
            refine z_V1 (pc := 48) dX8_fewest_48 mlX8_188 kX2_isMissing vX2_isMissing (by decide) (by decide) (by first | rfl | assumption) (Nat.le_of_ble_eq_true rfl) (qX2_isMissing rfl rfl rfl i rfl hi) ⟨Nat.le_refl _, Nat.le_refl _⟩ (fun r h1 hq => ?_)
            obtain ⟨rfl, rfl⟩ := hq
            refine z_if_eq (pc := 51) (tgt := 57) dX8_fewest_51 (by decide) (fun c51 => ?_) (fun c51 => ?_)
            · skip
              obtain ⟨w0, hw0, hwe⟩ := (hWh i hi).resolve_left ((zb_eq0 _).mp c51)
              have ew : I 22 (1 + i) - 1 = nI w0 := by rw [hwe, nI_pred]
              refine z_aload_0 (pc := 57) dX8_fewest_57 ?_
              refine y_getR (pc := 58) dX8_fewest_58 flX8_58 rfl (by first | rfl | assumption) (by first | rfl | assumption) ?_
              refine z_iload_1 (pc := 61) dX8_fewest_61 ?_
              refine z_iload_2 (pc := 62) dX8_fewest_62 ?_
              refine z_iload_3 (pc := 63) dX8_fewest_63 ?_
              refine z_V3 (pc := 64) dX8_fewest_64 mlX8_260 kX3_fewestTold vX3_fewestTold (by decide) (by decide) (by first | rfl | assumption) (Nat.le_of_ble_eq_true rfl) (qX3_fewestTold n T A B ht i rfl hi w0 ew) ⟨Nat.le_refl _, Nat.le_refl _⟩ (fun r h1 hq => ?_)
              obtain ⟨rfl, I2, nw2, rfl, hF⟩ := hq
              refine z_iload_4 (pc := 67) dX8_fewest_67 ?_
              refine z_S2 (pc := 69) dX8_fewest_69 mlX8_263 kX8_countOrSet vX8_countOrSet (by decide) (by decide) (Nat.le_of_ble_eq_true rfl) (qX8_countOrSet) ⟨Nat.le_refl _, Nat.le_refl _⟩ (fun r h1 hq => ?_)
              obtain ⟨rfl, rfl⟩ := hq
              refine z_ret (pc := 72) (r := some (.int _)) rfl dX8_fewest_72 trivial rfl rfl ?_
              refine zPub_fr ?_ hF
              simp only [zbb1, zb_eq0] at c12 c20 c34 c51
              unfold pFew ztE zcs
              rw [if_pos ⟨zlt_of hi (by decide), c12, c20, c26, c34⟩, hcl, if_neg c51, ew]
            · skip
              refine z_ldc (pc := 54) dX8_fewest_54 kcX8_147 ?_
              refine z_ret (pc := 56) (r := some (.int _)) rfl dX8_fewest_56 trivial rfl rfl ?_
              refine zPub_of ?_
              simp only [zbb0, zbb1, zb_eq0, zb_ne0, Classical.not_not, Bool.not_eq_false] at *
              unfold pFew
              rw [if_pos ⟨zlt_of hi (by decide), c12, c20, c26, c34⟩, hcl, if_pos c51]
          · skip
            refine z_ldc (pc := 37) dX8_fewest_37 kcX8_77 ?_
            refine z_ret (pc := 39) (r := some (.int _)) rfl dX8_fewest_39 trivial rfl rfl ?_
            refine zPub_of ?_
            simp only [zbb0, zbb1, zb_eq0, zb_ne0, Classical.not_not, Bool.not_eq_false] at *
            simp [pFew, c34]
set_option maxRecDepth 100000 in
set_option maxHeartbeats 4000000 in
theorem qX8_silence {l : zL} {I : Nat → Nat → Int32} {J : Nat → Nat → Int64} {nw : Bool} (n T : Nat) (A B : Nat → Nat) (ht : zTown I n T A B) (hWh : ∀ i, i < 4 → I 22 (1 + i) = 0 ∨ ∃ w, w < n ∧ I 22 (1 + i) = nI (w + 1)) {x a b w : Int32} : zP l mX8_silence [.ref 0, .int x, .int a, .int b, .int w] (hh I J nw) (zPub (pSil I n T A B x a b w)) := by
  refine z_start [.ref 0, .int x, .int a, .int b, .int w] (by decide +kernel) (Nat.le_of_ble_eq_true rfl) rfl ?_
  refine z_iload_1 (pc := 0) dX8_silence_0 ?_
  refine z_S1 (pc := 1) dX8_silence_1 mlX8_185 kX8_isCask vX8_isCask (by decide) (by decide) (Nat.le_of_ble_eq_true rfl) (qX8_isCask) ⟨Nat.le_refl _, Nat.le_refl _⟩ (fun r h1 hq => ?_)
  obtain ⟨rfl, rfl⟩ := hq
  refine z_if_eq (pc := 4) (tgt := 24) dX8_silence_4 (by decide) (fun c4 => ?_) (fun c4 => ?_)
  · skip
    refine z_ldc (pc := 24) dX8_silence_24 kcX8_77 ?_
    refine z_ret (pc := 26) (r := some (.int _)) rfl dX8_silence_26 trivial rfl rfl ?_
    refine zPub_of ?_
    simp only [zbb0, zbb1, zb_eq0, zb_ne0, Classical.not_not, Bool.not_eq_false] at *
    simp [pSil, c4]
  · skip
    refine z_aload_0 (pc := 7) dX8_silence_7 ?_
    refine z_iload_2 (pc := 8) dX8_silence_8 ?_
    refine z_iload_3 (pc := 9) dX8_silence_9 ?_
    refine z_V2 (pc := 10) dX8_silence_10 mlX8_266 kX8_areTwoDrinkers vX8_areTwoDrinkers (by decide) (by decide) (by first | rfl | assumption) (Nat.le_of_ble_eq_true rfl) (qX8_areTwoDrinkers n ht.1 ht.2.1) ⟨Nat.le_refl _, Nat.le_refl _⟩ (fun r h1 hq => ?_)
    obtain ⟨rfl, rfl⟩ := hq
    refine z_if_eq (pc := 13) (tgt := 24) dX8_silence_13 (by decide) (fun c13 => ?_) (fun c13 => ?_)
    · skip
      refine z_ldc (pc := 24) dX8_silence_24 kcX8_77 ?_
      refine z_ret (pc := 26) (r := some (.int _)) rfl dX8_silence_26 trivial rfl rfl ?_
      refine zPub_of ?_
      rw [zbb0] at c13
      unfold pSil
      rw [if_neg]
      intro q
      rw [show (zlt a n && zlt b n && !decide (a = b)) = true from by simp [q.2.1.1, q.2.1.2.1, q.2.1.2.2]] at c13
      cases c13
    · skip
      refine z_iload_4 (pc := 16) dX8_silence_16 ?_
      refine z_S1 (pc := 18) dX8_silence_18 mlX8_257 kX8_isFirstOrSecond vX8_isFirstOrSecond (by decide) (by decide) (Nat.le_of_ble_eq_true rfl) (qX8_isFirstOrSecond) ⟨Nat.le_refl _, Nat.le_refl _⟩ (fun r h1 hq => ?_)
      obtain ⟨rfl, rfl⟩ := hq
      refine z_if_ne (pc := 21) (tgt := 27) dX8_silence_21 (by decide) (fun c21 => ?_) (fun c21 => ?_)
      · skip
        obtain ⟨i, hi, rfl⟩ := zlt_nI (by decide) ((zbb1 _).mp c4)
        have hcl : (nI i).toNatClampNeg = i := nI_clamp (by omega)
        have h2 := (zbb1 _).mp c13
        simp only [Bool.and_eq_true, Bool.not_eq_true', decide_eq_false_iff_not] at h2
        obtain ⟨⟨ha0, hb0⟩, hab⟩ := h2
        have hn6 := ht.1
        obtain ⟨a1, ha, rfl⟩ := zlt_nI (by omega) ha0
        obtain ⟨b1, hb, rfl⟩ := zlt_nI (by omega) hb0
        have hcla : (nI a1).toNatClampNeg = a1 := nI_clamp (by omega)
        have hclb : (nI b1).toNatClampNeg = b1 := nI_clamp (by omega)
        refine z_aload_0 (pc := 27) dX8_silence_27 ?_
        refine y_getR (pc := 28) dX8_silence_28 flX8_26 rfl (by first | rfl | assumption) (by first | rfl | assumption) ?_
        refine y_getR (pc := 31) dX8_silence_31 flX8_148 rfl (by first | rfl | assumption) (by first | rfl | assumption) ?_
        refine z_iload_1 (pc := 34) dX8_silence_34 ?_
        refine z_V1 (pc := 35) dX8_silence_35 mlX8_188 kX2_isMissing vX2_isMissing (by decide) (by decide) (by first | rfl | assumption) (Nat.le_of_ble_eq_true rfl) (qX2_isMissing rfl rfl rfl i rfl hi) ⟨Nat.le_refl _, Nat.le_refl _⟩ (fun r h1 hq => ?_)
        obtain ⟨rfl, rfl⟩ := hq
        refine z_if_eq (pc := 38) (tgt := 44) dX8_silence_38 (by decide) (fun c38 => ?_) (fun c38 => ?_)
        · skip
          obtain ⟨w0, hw0, hwe⟩ := (hWh i hi).resolve_left ((zb_eq0 _).mp c38)
          have ew : I 22 (1 + i) - 1 = nI w0 := by rw [hwe, nI_pred]
          refine z_aload_0 (pc := 44) dX8_silence_44 ?_
          refine y_getR (pc := 45) dX8_silence_45 flX8_58 rfl (by first | rfl | assumption) (by first | rfl | assumption) ?_
          refine z_iload_1 (pc := 48) dX8_silence_48 ?_
          refine z_iload_2 (pc := 49) dX8_silence_49 ?_
          refine z_iload_3 (pc := 50) dX8_silence_50 ?_
          refine z_V3 (pc := 51) dX8_silence_51 mlX8_270 kX3_fewestWithout vX3_fewestWithout (by decide) (by decide) (by first | rfl | assumption) (Nat.le_of_ble_eq_true rfl) (qX3_fewestWithout n T A B ht i rfl hi w0 ew a1 rfl ha b1 rfl hb) ⟨Nat.le_refl _, Nat.le_refl _⟩ (fun r h1 hq => ?_)
          obtain ⟨rfl, I2, nw2, rfl, hF⟩ := hq
          refine z_iload_4 (pc := 54) dX8_silence_54 ?_
          refine z_S2 (pc := 56) dX8_silence_56 mlX8_263 kX8_countOrSet vX8_countOrSet (by decide) (by decide) (Nat.le_of_ble_eq_true rfl) (qX8_countOrSet) ⟨Nat.le_refl _, Nat.le_refl _⟩ (fun r h1 hq => ?_)
          obtain ⟨rfl, rfl⟩ := hq
          refine z_ret (pc := 59) (r := some (.int _)) rfl dX8_silence_59 trivial rfl rfl ?_
          refine zPub_fr ?_ hF
          simp only [zbb1, zb_eq0] at c21 c38
          unfold pSil ztE zcs
          rw [if_pos ⟨zlt_of hi (by decide), ⟨ha0, hb0, hab⟩, c21⟩, hcl, hcla, hclb, if_neg c38, ew]
        · skip
          refine z_ldc (pc := 41) dX8_silence_41 kcX8_147 ?_
          refine z_ret (pc := 43) (r := some (.int _)) rfl dX8_silence_43 trivial rfl rfl ?_
          refine zPub_of ?_
          simp only [zbb0, zbb1, zb_eq0, zb_ne0, Classical.not_not, Bool.not_eq_false] at *
          unfold pSil
          rw [if_pos ⟨zlt_of hi (by decide), ⟨ha0, hb0, hab⟩, c21⟩, hcl, if_pos c38]
      · skip
        refine z_ldc (pc := 24) dX8_silence_24 kcX8_77 ?_
        refine z_ret (pc := 26) (r := some (.int _)) rfl dX8_silence_26 trivial rfl rfl ?_
        refine zPub_of ?_
        simp only [zbb0, zbb1, zb_eq0, zb_ne0, Classical.not_not, Bool.not_eq_false] at *
        simp [pSil, c21]
set_option maxRecDepth 100000 in
set_option maxHeartbeats 4000000 in
theorem qX8_best {l : zL} {I : Nat → Nat → Int32} {J : Nat → Nat → Int64} {nw : Bool} (n T : Nat) (A B : Nat → Nat) (ht : zTown I n T A B) (hWh : ∀ i, i < 4 → I 22 (1 + i) = 0 ∨ ∃ w, w < n ∧ I 22 (1 + i) = nI (w + 1)) {x w : Int32} : zP l mX8_best [.ref 0, .int x, .int w] (hh I J nw) (zPub (pBest I n T A B x w)) := by
  refine z_start [.ref 0, .int x, .int w, zno] (by decide +kernel) (Nat.le_of_ble_eq_true rfl) rfl ?_
  refine z_iload_1 (pc := 0) dX8_best_0 ?_
  refine z_S1 (pc := 1) dX8_best_1 mlX8_185 kX8_isCask vX8_isCask (by decide) (by decide) (Nat.le_of_ble_eq_true rfl) (qX8_isCask) ⟨Nat.le_refl _, Nat.le_refl _⟩ (fun r h1 hq => ?_)
  obtain ⟨rfl, rfl⟩ := hq
  refine z_if_eq (pc := 4) (tgt := 14) dX8_best_4 (by decide) (fun c4 => ?_) (fun c4 => ?_)
  · skip
    refine z_ldc (pc := 14) dX8_best_14 kcX8_77 ?_
    refine z_ret (pc := 16) (r := some (.int _)) rfl dX8_best_16 trivial rfl rfl ?_
    refine zPub_of ?_
    simp only [zbb0, zbb1, zb_eq0, zb_ne0, Classical.not_not, Bool.not_eq_false] at *
    simp [pBest, c4]
  · skip
    refine z_iload_2 (pc := 7) dX8_best_7 ?_
    refine z_S1 (pc := 8) dX8_best_8 mlX8_257 kX8_isFirstOrSecond vX8_isFirstOrSecond (by decide) (by decide) (Nat.le_of_ble_eq_true rfl) (qX8_isFirstOrSecond) ⟨Nat.le_refl _, Nat.le_refl _⟩ (fun r h1 hq => ?_)
    obtain ⟨rfl, rfl⟩ := hq
    refine z_if_ne (pc := 11) (tgt := 17) dX8_best_11 (by decide) (fun c11 => ?_) (fun c11 => ?_)
    · skip
      obtain ⟨i, hi, rfl⟩ := zlt_nI (by decide) ((zbb1 _).mp c4)
      have hcl : (nI i).toNatClampNeg = i := nI_clamp (by omega)
      refine z_aload_0 (pc := 17) dX8_best_17 ?_
      refine y_getR (pc := 18) dX8_best_18 flX8_26 rfl (by first | rfl | assumption) (by first | rfl | assumption) ?_
      refine y_getR (pc := 21) dX8_best_21 flX8_148 rfl (by first | rfl | assumption) (by first | rfl | assumption) ?_
      refine z_iload_1 (pc := 24) dX8_best_24 ?_
      refine z_V1 (pc := 25) dX8_best_25 mlX8_188 kX2_isMissing vX2_isMissing (by decide) (by decide) (by first | rfl | assumption) (Nat.le_of_ble_eq_true rfl) (qX2_isMissing rfl rfl rfl i rfl hi) ⟨Nat.le_refl _, Nat.le_refl _⟩ (fun r h1 hq => ?_)
      obtain ⟨rfl, rfl⟩ := hq
      refine z_if_eq (pc := 28) (tgt := 34) dX8_best_28 (by decide) (fun c28 => ?_) (fun c28 => ?_)
      · skip
        obtain ⟨w0, hw0, hwe⟩ := (hWh i hi).resolve_left ((zb_eq0 _).mp c28)
        have ew : I 22 (1 + i) - 1 = nI w0 := by rw [hwe, nI_pred]
        refine z_aload_0 (pc := 34) dX8_best_34 ?_
        refine y_getR (pc := 35) dX8_best_35 flX8_58 rfl (by first | rfl | assumption) (by first | rfl | assumption) ?_
        refine z_iload_1 (pc := 38) dX8_best_38 ?_
        refine z_V1 (pc := 39) dX8_best_39 mlX8_296 kX3_bestTap vX3_bestTap (by decide) (by decide) (by first | rfl | assumption) (Nat.le_of_ble_eq_true rfl) (qX3_bestTap n T A B ht i rfl hi w0 ew) ⟨Nat.le_refl _, Nat.le_refl _⟩ (fun r h1 hq => ?_)
        obtain ⟨rfl, I2, nw2, rfl, hF⟩ := hq
        have em : (fun d => zbc (nI (bs (zgo (zTe I (I 16) n T A B (fun _ => false) (nI w0)) (fun e => e == d) (zsc I i)).2))) = zmany1 I n T A B i := by unfold zmany1 ztE; rw [ew]
        rw [em]
        have hn1 : 1 ≤ n := by omega
        refine z_istore_3 (pc := 42) dX8_best_42 (by decide) rfl ?_
        refine z_iload_2 (pc := 43) dX8_best_43 ?_
        refine z_if_ne (pc := 44) (tgt := 51) dX8_best_44 (by decide) (fun c44 => ?_) (fun c44 => ?_)
        · skip
          obtain ⟨d0, hd0, hd0e⟩ := zbest_in (zmany1 I n T A B i) n hn1
          refine z_aload_0 (pc := 51) dX8_best_51 ?_
          refine y_getR (pc := 52) dX8_best_52 flX8_58 rfl (by first | rfl | assumption) (by first | rfl | assumption) ?_
          refine z_iload_1 (pc := 55) dX8_best_55 ?_
          refine z_iload_3 (pc := 56) dX8_best_56 ?_
          refine z_V2 (pc := 57) dX8_best_57 mlX8_299 kX3_believersAt vX3_believersAt (by decide) (by decide) (by first | rfl | assumption) (Nat.le_of_ble_eq_true rfl) (qX3_believersAt n T A B (ht.keep hF) i rfl hi w0 (by rw [hF 22 (by omega)]; exact ew) d0 hd0e hd0) ⟨Nat.le_refl _, Nat.le_refl _⟩ (fun r h1 hq => ?_)
          obtain ⟨rfl, I3, nw3, rfl, hF3⟩ := hq
          refine z_ret (pc := 60) (r := some (.int _)) rfl dX8_best_60 trivial rfl rfl ?_
          refine zPub_fr ?_ (hF.trans hF3)
          simp only [zbb1, zb_eq0] at c11 c28
          have eT : zTe I2 (I2 16) n T A B (fun _ => false) (nI w0) = zTe I (I 16) n T A B (fun _ => false) (nI w0) := by unfold zTe; rw [hF 16 (by omega), hF 17 (by omega), hF 18 (by omega)]
          have eS : zsc I2 i = zsc I i := by unfold zsc; rw [hF 15 (by omega), hF 22 (by omega)]
          unfold pBest
          rw [if_pos ⟨zlt_of hi (by decide), c11⟩, hcl, if_neg c28, if_neg c44, hd0e, nI_clamp (by have := ht.1; omega), eT, eS]
          unfold zmany1 ztE
          rw [ew]
        · skip
          refine z_iload_3 (pc := 47) dX8_best_47 ?_
          refine z_goto (pc := 48) (tgt := 60) dX8_best_48 (by decide) ?_
          refine z_ret (pc := 60) (r := some (.int _)) rfl dX8_best_60 trivial rfl rfl ?_
          refine zPub_fr ?_ hF
          simp only [zbb1, zb_eq0] at c11 c28
          unfold pBest
          rw [if_pos ⟨zlt_of hi (by decide), c11⟩, hcl, if_neg c28, if_pos c44]
      · skip
        refine z_ldc (pc := 31) dX8_best_31 kcX8_147 ?_
        refine z_ret (pc := 33) (r := some (.int _)) rfl dX8_best_33 trivial rfl rfl ?_
        refine zPub_of ?_
        simp only [zbb0, zbb1, zb_eq0, zb_ne0, Classical.not_not, Bool.not_eq_false] at *
        unfold pBest
        rw [if_pos ⟨zlt_of hi (by decide), c11⟩, hcl, if_pos c28]
    · skip
      refine z_ldc (pc := 14) dX8_best_14 kcX8_77 ?_
      refine z_ret (pc := 16) (r := some (.int _)) rfl dX8_best_16 trivial rfl rfl ?_
      refine zPub_of ?_
      simp only [zbb0, zbb1, zb_eq0, zb_ne0, Classical.not_not, Bool.not_eq_false] at *
      simp [pBest, c11]
set_option maxRecDepth 100000 in
set_option maxHeartbeats 4000000 in
theorem qX8_blended {l : zL} {I : Nat → Nat → Int32} {J : Nat → Nat → Int64} {nw : Bool} (n T : Nat) (A B : Nat → Nat) (ht : zTown I n T A B) (hWh : ∀ i, i < 4 → I 22 (1 + i) = 0 ∨ ∃ w, w < n ∧ I 22 (1 + i) = nI (w + 1)) {x y d : Int32} : zP l mX8_blended [.ref 0, .int x, .int y, .int d] (hh I J nw) (zPub (pBld I n T A B x y d)) := by
  refine z_start [.ref 0, .int x, .int y, .int d] (by decide +kernel) (Nat.le_of_ble_eq_true rfl) rfl ?_
  refine z_iload_1 (pc := 0) dX8_blended_0 ?_
  refine z_S1 (pc := 1) dX8_blended_1 mlX8_185 kX8_isCask vX8_isCask (by decide) (by decide) (Nat.le_of_ble_eq_true rfl) (qX8_isCask) ⟨Nat.le_refl _, Nat.le_refl _⟩ (fun r h1 hq => ?_)
  obtain ⟨rfl, rfl⟩ := hq
  refine z_if_eq (pc := 4) (tgt := 27) dX8_blended_4 (by decide) (fun c4 => ?_) (fun c4 => ?_)
  · skip
    refine z_ldc (pc := 27) dX8_blended_27 kcX8_77 ?_
    refine z_ret (pc := 29) (r := some (.int _)) rfl dX8_blended_29 trivial rfl rfl ?_
    refine zPub_of ?_
    simp only [zbb0, zbb1, zb_eq0, zb_ne0, Classical.not_not, Bool.not_eq_false] at *
    simp [pBld, c4]
  · skip
    refine z_iload_2 (pc := 7) dX8_blended_7 ?_
    refine z_S1 (pc := 8) dX8_blended_8 mlX8_185 kX8_isCask vX8_isCask (by decide) (by decide) (Nat.le_of_ble_eq_true rfl) (qX8_isCask) ⟨Nat.le_refl _, Nat.le_refl _⟩ (fun r h1 hq => ?_)
    obtain ⟨rfl, rfl⟩ := hq
    refine z_if_eq (pc := 11) (tgt := 27) dX8_blended_11 (by decide) (fun c11 => ?_) (fun c11 => ?_)
    · skip
      refine z_ldc (pc := 27) dX8_blended_27 kcX8_77 ?_
      refine z_ret (pc := 29) (r := some (.int _)) rfl dX8_blended_29 trivial rfl rfl ?_
      refine zPub_of ?_
      simp only [zbb0, zbb1, zb_eq0, zb_ne0, Classical.not_not, Bool.not_eq_false] at *
      simp [pBld, c11]
    · skip
      refine z_iload_1 (pc := 14) dX8_blended_14 ?_
      refine z_iload_2 (pc := 15) dX8_blended_15 ?_
      refine z_icmp_eq (pc := 16) (tgt := 27) dX8_blended_16 (by decide) (fun c16 => ?_) (fun c16 => ?_)
      · skip
        refine z_ldc (pc := 27) dX8_blended_27 kcX8_77 ?_
        refine z_ret (pc := 29) (r := some (.int _)) rfl dX8_blended_29 trivial rfl rfl ?_
        refine zPub_of ?_
        simp only [zbb0, zbb1, zb_eq0, zb_ne0, Classical.not_not, Bool.not_eq_false] at *
        simp [pBld, c16]
      · skip
        refine z_aload_0 (pc := 19) dX8_blended_19 ?_
        refine z_iload_3 (pc := 20) dX8_blended_20 ?_
        refine z_V1 (pc := 21) dX8_blended_21 mlX8_156 kX8_isDrinker vX8_isDrinker (by decide) (by decide) (by first | rfl | assumption) (Nat.le_of_ble_eq_true rfl) (qX8_isDrinker n ht.1 ht.2.1) ⟨Nat.le_refl _, Nat.le_refl _⟩ (fun r h1 hq => ?_)
        obtain ⟨rfl, rfl⟩ := hq
        refine z_if_ne (pc := 24) (tgt := 30) dX8_blended_24 (by decide) (fun c24 => ?_) (fun c24 => ?_)
        · skip
          obtain ⟨i, hi, rfl⟩ := zlt_nI (by decide) ((zbb1 _).mp c4)
          have hcl : (nI i).toNatClampNeg = i := nI_clamp (by omega)
          obtain ⟨j, hj, rfl⟩ := zlt_nI (by decide) ((zbb1 _).mp c11)
          have hcl2 : (nI j).toNatClampNeg = j := nI_clamp (by omega)
          have hn6 := ht.1
          obtain ⟨d1, hd1, rfl⟩ := zlt_nI (by omega) ((zbb1 _).mp c24)
          have hcl3 : (nI d1).toNatClampNeg = d1 := nI_clamp (by omega)
          refine z_aload_0 (pc := 30) dX8_blended_30 ?_
          refine y_getR (pc := 31) dX8_blended_31 flX8_26 rfl (by first | rfl | assumption) (by first | rfl | assumption) ?_
          refine y_getR (pc := 34) dX8_blended_34 flX8_148 rfl (by first | rfl | assumption) (by first | rfl | assumption) ?_
          refine z_iload_1 (pc := 37) dX8_blended_37 ?_
          refine z_V1 (pc := 38) dX8_blended_38 mlX8_188 kX2_isMissing vX2_isMissing (by decide) (by decide) (by first | rfl | assumption) (Nat.le_of_ble_eq_true rfl) (qX2_isMissing rfl rfl rfl i rfl hi) ⟨Nat.le_refl _, Nat.le_refl _⟩ (fun r h1 hq => ?_)
          obtain ⟨rfl, rfl⟩ := hq
          refine z_if_ne (pc := 41) (tgt := 58) dX8_blended_41 (by decide) (fun c41 => ?_) (fun c41 => ?_)
          · skip
            refine z_ldc (pc := 58) dX8_blended_58 kcX8_147 ?_
            refine z_ret (pc := 60) (r := some (.int _)) rfl dX8_blended_60 trivial rfl rfl ?_
            refine zPub_of ?_
            simp only [zbb0, zbb1, zb_eq0, zb_ne0, Classical.not_not, Bool.not_eq_false] at *
            unfold pBld
            rw [if_pos ⟨⟨zlt_of hi (by decide), zlt_of hj (by decide), c16⟩, zlt_of hd1 (by omega)⟩, hcl, hcl2, if_pos (Or.inl c41)]
          · skip
            refine z_aload_0 (pc := 44) dX8_blended_44 ?_
            refine y_getR (pc := 45) dX8_blended_45 flX8_26 rfl (by first | rfl | assumption) (by first | rfl | assumption) ?_
            refine y_getR (pc := 48) dX8_blended_48 flX8_148 rfl (by first | rfl | assumption) (by first | rfl | assumption) ?_
            refine z_iload_2 (pc := 51) dX8_blended_51 ?_
            refine z_V1 (pc := 52) dX8_blended_52 mlX8_188 kX2_isMissing vX2_isMissing (by decide) (by decide) (by first | rfl | assumption) (Nat.le_of_ble_eq_true rfl) (qX2_isMissing rfl rfl rfl j rfl hj) ⟨Nat.le_refl _, Nat.le_refl _⟩ (fun r h1 hq => ?_)
            obtain ⟨rfl, rfl⟩ := hq
            refine z_if_eq (pc := 55) (tgt := 61) dX8_blended_55 (by decide) (fun c55 => ?_) (fun c55 => ?_)
            · skip
              obtain ⟨w0, hw0, hwe⟩ := (hWh j hj).resolve_left ((zb_eq0 _).mp c55)
              have ew : I 22 (1 + j) - 1 = nI w0 := by rw [hwe, nI_pred]
              refine z_aload_0 (pc := 61) dX8_blended_61 ?_
              refine y_getR (pc := 62) dX8_blended_62 flX8_58 rfl (by first | rfl | assumption) (by first | rfl | assumption) ?_
              refine z_iload_1 (pc := 65) dX8_blended_65 ?_
              refine z_iload_2 (pc := 66) dX8_blended_66 ?_
              refine z_iload_3 (pc := 67) dX8_blended_67 ?_
              refine z_V3 (pc := 68) dX8_blended_68 mlX8_302 kX3_believersOfBlend vX3_believersOfBlend (by decide) (by decide) (by first | rfl | assumption) (Nat.le_of_ble_eq_true rfl) (qX3_believersOfBlend n T A B ht i rfl hi j rfl hj w0 ew d1 rfl hd1) ⟨Nat.le_refl _, Nat.le_refl _⟩ (fun r h1 hq => ?_)
              obtain ⟨rfl, I2, nw2, rfl, hF⟩ := hq
              refine z_ret (pc := 71) (r := some (.int _)) rfl dX8_blended_71 trivial rfl rfl ?_
              refine zPub_fr ?_ hF
              simp only [zb_eq0] at c41 c55
              unfold pBld ztE zblm
              rw [if_pos ⟨⟨zlt_of hi (by decide), zlt_of hj (by decide), c16⟩, zlt_of hd1 (by omega)⟩, hcl, hcl2, hcl3, if_neg (fun z => z.elim c41 c55), ew]
            · skip
              refine z_ldc (pc := 58) dX8_blended_58 kcX8_147 ?_
              refine z_ret (pc := 60) (r := some (.int _)) rfl dX8_blended_60 trivial rfl rfl ?_
              refine zPub_of ?_
              simp only [zbb0, zbb1, zb_eq0, zb_ne0, Classical.not_not, Bool.not_eq_false] at *
              unfold pBld
              rw [if_pos ⟨⟨zlt_of hi (by decide), zlt_of hj (by decide), c16⟩, zlt_of hd1 (by omega)⟩, hcl, hcl2, if_pos (Or.inr c55)]
        · skip
          refine z_ldc (pc := 27) dX8_blended_27 kcX8_77 ?_
          refine z_ret (pc := 29) (r := some (.int _)) rfl dX8_blended_29 trivial rfl rfl ?_
          refine zPub_of ?_
          simp only [zbb0, zbb1, zb_eq0, zb_ne0, Classical.not_not, Bool.not_eq_false] at *
          simp [pBld, c24]
