set_option maxRecDepth 100000 in
set_option maxHeartbeats 4000000 in
theorem tells_loop {l : zL} {I : Nat → Nat → Int32} {J : Nat → Nat → Int64} {nw : Bool} (n T : Nat) (A B : Nat → Nat) (ht : zTown I n T A B) (r : Nat) (hr : r < 8) (a m : Nat) (ham : a + 2 * m ≤ 40) : ∀ (f k : Nat), k ≤ m → m - k < f → zfits (fun k => zlt (I (3 + r) (a + 2 * k)) n) k = true →
    zW l mX8_tellsDrinkers SH.length (zsl SH) 3 [.ref 0, .int (nI r), .int (nI a), .int (nI m), .int (nI k)] [] (hh I J nw) (zR (some (.int (zbb (zfits (fun k => zlt (I (3 + r) (a + 2 * k)) n) m)))) (hh I J nw))
  | 0, k, _, hf, _ => by omega
  | f + 1, k, hk, hf, hz => by
    refine z_iload_4 (pc := 3) dX8_tellsDrinkers_3 ?_
    refine z_iload_3 (pc := 5) dX8_tellsDrinkers_5 ?_
    refine z_icmp_ge (pc := 6) (tgt := 40) dX8_tellsDrinkers_6 (by decide) (fun c6 => ?_) (fun c6 => ?_)
    · skip
      refine z_iconst (pc := 40) (1) dX8_tellsDrinkers_40 rfl ?_
      refine z_ret (pc := 41) (r := some (.int _)) rfl dX8_tellsDrinkers_41 (by first | exact Or.inl rfl | exact Or.inr rfl | assumption) rfl rfl ?_
      have : k = m := by
        rcases Nat.lt_or_ge k m with q | q
        · exact absurd c6 (nI_ge q (by omega))
        · omega
      subst this
      exact ⟨by rw [hz]; rfl, rfl⟩
    · skip
      have hlt : k < m := by
        rcases Nat.lt_or_ge k m with q | q
        · exact q
        · exact absurd (nI_le q (by omega)) c6
      refine z_aload_0 (pc := 9) dX8_tellsDrinkers_9 ?_
      refine z_aload_0 (pc := 10) dX8_tellsDrinkers_10 ?_
      refine y_getR (pc := 11) dX8_tellsDrinkers_11 flX8_10 rfl (by first | rfl | assumption) (by first | rfl | assumption) ?_
      refine y_getR (pc := 14) dX8_tellsDrinkers_14 flX8_104 rfl (by first | rfl | assumption) (by first | rfl | assumption) ?_
      refine z_iload_1 (pc := 17) dX8_tellsDrinkers_17 ?_
      refine y_aaldIN (pc := 18) (r) dX8_tellsDrinkers_18 rfl rfl hr (by decide) (RF_items nw r hr) ?_
      refine z_iload_2 (pc := 19) dX8_tellsDrinkers_19 ?_
      refine z_iconst (pc := 20) (2) dX8_tellsDrinkers_20 rfl ?_
      refine z_iload_4 (pc := 21) dX8_tellsDrinkers_21 ?_
      refine z_imul (pc := 23) dX8_tellsDrinkers_23 ?_
      refine z_iadd (pc := 24) dX8_tellsDrinkers_24 ?_
      refine y_ialdN (pc := 25) (a + 2 * k) dX8_tellsDrinkers_25 (SH_items r hr) (by show nI a + nI 2 * nI k = nI (a + 2 * k); rw [pk_mul, nI_add]) (by omega) (by decide) ?_
      refine z_V1 (pc := 26) dX8_tellsDrinkers_26 mlX8_156 kX8_isDrinker vX8_isDrinker (by decide) (by decide) (by first | rfl | assumption) (Nat.le_of_ble_eq_true rfl) (qX8_isDrinker n ht.1 ht.2.1) ⟨Nat.le_refl _, Nat.le_refl _⟩ (fun r h1 hq => ?_)
      obtain ⟨rfl, rfl⟩ := hq
      refine z_if_ne (pc := 29) (tgt := 34) dX8_tellsDrinkers_29 (by decide) (fun c29 => ?_) (fun c29 => ?_)
      · skip
        refine z_iinc_4 (pc := 34) (1) dX8_tellsDrinkers_34 rfl (by decide) rfl ?_
        refine z_goto (pc := 37) (tgt := 3) dX8_tellsDrinkers_37 (by decide) ?_
        rw [← nI_succ]
        exact tells_loop n T A B ht r hr a m ham f (k + 1) (by omega) (by omega) (by rw [zfits, hz, Bool.true_and]; exact (zbb1 _).mp c29)
      · skip
        refine z_iconst (pc := 32) (0) dX8_tellsDrinkers_32 rfl ?_
        refine z_ret (pc := 33) (r := some (.int _)) rfl dX8_tellsDrinkers_33 (by first | exact Or.inl rfl | exact Or.inr rfl | assumption) rfl rfl ?_
        rw [zbb0] at c29
        exact ⟨by rw [zfits_no m hlt c29]; rfl, rfl⟩
set_option maxRecDepth 100000 in
set_option maxHeartbeats 4000000 in
theorem qX8_tellsDrinkers {l : zL} {I : Nat → Nat → Int32} {J : Nat → Nat → Int64} {nw : Bool} (n T : Nat) (A B : Nat → Nat) (ht : zTown I n T A B) (r : Nat) (hr : r < 8) (a m : Nat) (ham : a + 2 * m ≤ 40) {x y z : Int32} (hx : x = nI r) (hy : y = nI a) (hz : z = nI m) : zP l mX8_tellsDrinkers [.ref 0, .int x, .int y, .int z] (hh I J nw) (zR (some (.int (zbb (zfits (fun k => zlt (I (3 + r) (a + 2 * k)) n) m)))) (hh I J nw)) := by
  refine z_start [.ref 0, .int x, .int y, .int z, zno] (by decide +kernel) (Nat.le_of_ble_eq_true rfl) rfl ?_
  refine z_iconst (pc := 0) (0) dX8_tellsDrinkers_0 rfl ?_
  refine z_istore_4 (pc := 1) dX8_tellsDrinkers_1 (by decide) rfl ?_
  subst hx; subst hy; subst hz
  exact tells_loop n T A B ht r hr a m ham (m + 1) 0 (by omega) (by omega) rfl
def pRef (I : Nat → Nat → Int32) (n i r : Nat) (y z : Int32) : Int32 × (Nat → Nat → Int32) := if I 22 (1 + i) = 0 then (-1000002, I) else if I 12 r = -1 then (-1000011, zup I 0 9 1) else if zhold y (2 * z) (I 12 r).toNatClampNeg = true then (if zfits (fun k => zlt (I (3 + r) (y.toNatClampNeg + 2 * k)) n) z.toNatClampNeg = true then (0, I) else (-1000001, I)) else (-1000012, zup I 0 9 2)
theorem dbl {m : Nat} : (2 : Int32) * nI m = nI (2 * m) := pk_mul 2 m
set_option maxRecDepth 100000 in
set_option maxHeartbeats 4000000 in
theorem qX8_refusalOfTaps {l : zL} {I : Nat → Nat → Int32} {J : Nat → Nat → Int64} {nw : Bool} (n T : Nat) (A B : Nat → Nat) (ht : zTown I n T A B) (hR : ∀ r, r < 8 → I 12 r = -1 ∨ ∃ q, q ≤ 40 ∧ I 12 r = nI q) (i : Nat) (hi : i < 4) (r : Nat) (hr : r < 8) (m : Nat) (hm : m ≤ 6) {x v y z : Int32} (hx : x = nI i) (hv : v = nI r) (hz : z = nI m) : zP l mX8_refusalOfTaps [.ref 0, .int x, .int v, .int y, .int z] (hh I J nw) (fun rr h1 => rr = some (.int (pRef I n i r y z).1) ∧ h1 = ((pRef I n i r y z).2, J, RF nw, SH)) := by
  refine z_start [.ref 0, .int x, .int v, .int y, .int z] (by decide +kernel) (Nat.le_of_ble_eq_true rfl) rfl ?_
  refine z_aload_0 (pc := 0) dX8_refusalOfTaps_0 ?_
  refine y_getR (pc := 1) dX8_refusalOfTaps_1 flX8_26 rfl (by first | rfl | assumption) (by first | rfl | assumption) ?_
  refine y_getR (pc := 4) dX8_refusalOfTaps_4 flX8_148 rfl (by first | rfl | assumption) (by first | rfl | assumption) ?_
  refine z_iload_1 (pc := 7) dX8_refusalOfTaps_7 ?_
  refine z_V1 (pc := 8) dX8_refusalOfTaps_8 mlX8_188 kX2_isMissing vX2_isMissing (by decide) (by decide) (by first | rfl | assumption) (Nat.le_of_ble_eq_true rfl) (qX2_isMissing rfl rfl rfl i hx hi) ⟨Nat.le_refl _, Nat.le_refl _⟩ (fun r h1 hq => ?_)
  obtain ⟨rfl, rfl⟩ := hq
  refine z_if_eq (pc := 11) (tgt := 17) dX8_refusalOfTaps_11 (by decide) (fun c11 => ?_) (fun c11 => ?_)
  · skip
    refine z_aload_0 (pc := 17) dX8_refusalOfTaps_17 ?_
    refine y_getR (pc := 18) dX8_refusalOfTaps_18 flX8_10 rfl (by first | rfl | assumption) (by first | rfl | assumption) ?_
    refine z_iload_2 (pc := 21) dX8_refusalOfTaps_21 ?_
    refine z_V1 (pc := 22) dX8_refusalOfTaps_22 mlX8_89 kX5_isMissing vX5_isMissing (by decide) (by decide) (by first | rfl | assumption) (Nat.le_of_ble_eq_true rfl) (qX5_isMissing r hv hr) ⟨Nat.le_refl _, Nat.le_refl _⟩ (fun r h1 hq => ?_)
    obtain ⟨rfl, rfl⟩ := hq
    refine z_if_eq (pc := 25) (tgt := 34) dX8_refusalOfTaps_25 (by decide) (fun c25 => ?_) (fun c25 => ?_)
    · skip
      obtain ⟨q, hq, eq⟩ := (hR r hr).resolve_left ((zb_eq0 _).mp c25)
      refine z_aload_0 (pc := 34) dX8_refusalOfTaps_34 ?_
      refine y_getR (pc := 35) dX8_refusalOfTaps_35 flX8_10 rfl (by first | rfl | assumption) (by first | rfl | assumption) ?_
      refine z_iload_2 (pc := 38) dX8_refusalOfTaps_38 ?_
      refine z_iload_3 (pc := 39) dX8_refusalOfTaps_39 ?_
      refine z_iconst (pc := 40) (2) dX8_refusalOfTaps_40 rfl ?_
      refine z_iload_4 (pc := 41) dX8_refusalOfTaps_41 ?_
      refine z_imul (pc := 43) dX8_refusalOfTaps_43 ?_
      refine z_V3 (pc := 44) dX8_refusalOfTaps_44 mlX8_92 kX5_holds vX5_holds (by decide) (by decide) (by first | rfl | assumption) (Nat.le_of_ble_eq_true rfl) (qX5_holdsQ r hv hr q hq eq) ⟨Nat.le_refl _, Nat.le_refl _⟩ (fun r h1 hq => ?_)
      obtain ⟨rfl, rfl⟩ := hq
      refine z_if_ne (pc := 47) (tgt := 56) dX8_refusalOfTaps_47 (by decide) (fun c47 => ?_) (fun c47 => ?_)
      · skip
        obtain ⟨aa, nn, rfl, hn2, han⟩ := zhold_nI hq ((zbb1 _).mp c47)
        have hnn : 2 * m = nn := by
          rw [hz, dbl] at hn2
          exact (nI_eq (by omega) (by omega)).mp hn2
        refine z_aload_0 (pc := 56) dX8_refusalOfTaps_56 ?_
        refine z_iload_2 (pc := 57) dX8_refusalOfTaps_57 ?_
        refine z_iload_3 (pc := 58) dX8_refusalOfTaps_58 ?_
        refine z_iload_4 (pc := 59) dX8_refusalOfTaps_59 ?_
        refine z_V3 (pc := 61) dX8_refusalOfTaps_61 mlX8_360 kX8_tellsDrinkers vX8_tellsDrinkers (by decide) (by decide) (by first | rfl | assumption) (Nat.le_of_ble_eq_true rfl) (qX8_tellsDrinkers n T A B ht r hr aa m (by omega) hv rfl hz) ⟨Nat.le_refl _, Nat.le_refl _⟩ (fun r h1 hq => ?_)
        obtain ⟨rfl, rfl⟩ := hq
        refine z_if_eq (pc := 64) (tgt := 71) dX8_refusalOfTaps_64 (by decide) (fun c64 => ?_) (fun c64 => ?_)
        · skip
          refine z_ldc (pc := 71) dX8_refusalOfTaps_71 kcX8_77 ?_
          refine z_ret (pc := 73) (r := some (.int _)) rfl dX8_refusalOfTaps_73 trivial rfl rfl ?_
          rw [zb_eq0] at c11 c25
          rw [zbb1] at c47
          rw [zbb0] at c64
          unfold pRef
          rw [if_neg c11, if_neg c25, eq, nI_clamp (n := q) (by omega), if_pos c47, nI_clamp (n := aa) (by omega), hz, nI_clamp (n := m) (by omega), if_neg (by rw [c64]; decide)]
          exact ⟨rfl, rfl⟩
        · skip
          refine z_iconst (pc := 67) (0) dX8_refusalOfTaps_67 rfl ?_
          refine z_goto (pc := 68) (tgt := 73) dX8_refusalOfTaps_68 (by decide) ?_
          refine z_ret (pc := 73) (r := some (.int _)) rfl dX8_refusalOfTaps_73 trivial rfl rfl ?_
          rw [zb_eq0] at c11 c25
          rw [zbb1] at c47
          rw [zbb1] at c64
          unfold pRef
          rw [if_neg c11, if_neg c25, eq, nI_clamp (n := q) (by omega), if_pos c47, nI_clamp (n := aa) (by omega), hz, nI_clamp (n := m) (by omega), if_pos c64]
          exact ⟨rfl, rfl⟩
      · skip
        refine z_aload_0 (pc := 50) dX8_refusalOfTaps_50 ?_
        refine z_iconst (pc := 51) (2) dX8_refusalOfTaps_51 rfl ?_
        refine z_V1 (pc := 52) dX8_refusalOfTaps_52 mlX8_78 kX8_found vX8_found (by decide) (by decide) (by first | rfl | assumption) (Nat.le_of_ble_eq_true rfl) (qX8_found) ⟨Nat.le_refl _, Nat.le_refl _⟩ (fun r h1 hq => ?_)
        obtain ⟨rfl, rfl⟩ := hq
        refine z_ret (pc := 55) (r := some (.int _)) rfl dX8_refusalOfTaps_55 trivial rfl rfl ?_
        rw [zb_eq0] at c11 c25
        rw [zbb0] at c47
        unfold pRef
        rw [if_neg c11, if_neg c25, eq, nI_clamp (by omega), if_neg (by rw [c47]; decide)]
        exact ⟨rfl, rfl⟩
    · skip
      refine z_aload_0 (pc := 28) dX8_refusalOfTaps_28 ?_
      refine z_iconst (pc := 29) (1) dX8_refusalOfTaps_29 rfl ?_
      refine z_V1 (pc := 30) dX8_refusalOfTaps_30 mlX8_78 kX8_found vX8_found (by decide) (by decide) (by first | rfl | assumption) (Nat.le_of_ble_eq_true rfl) (qX8_found) ⟨Nat.le_refl _, Nat.le_refl _⟩ (fun r h1 hq => ?_)
      obtain ⟨rfl, rfl⟩ := hq
      refine z_ret (pc := 33) (r := some (.int _)) rfl dX8_refusalOfTaps_33 trivial rfl rfl ?_
      rw [zb_eq0] at c11
      rw [zb_ne0] at c25
      unfold pRef
      rw [if_neg c11, if_pos c25]
      exact ⟨rfl, rfl⟩
  · skip
    refine z_ldc (pc := 14) dX8_refusalOfTaps_14 kcX8_147 ?_
    refine z_ret (pc := 16) (r := some (.int _)) rfl dX8_refusalOfTaps_16 trivial rfl rfl ?_
    rw [zb_ne0] at c11
    unfold pRef
    rw [if_pos c11]
    exact ⟨rfl, rfl⟩
def pMal (I : Nat → Nat → Int32) (n T : Nat) (A B : Nat → Nat) (x y v z : Int32) : Int32 × (Nat → Nat → Int32) := if zlt x 4 = true ∧ zlt y 8 = true ∧ ¬ z < 1 ∧ z ≤ 6 then (if (pRef I n x.toNatClampNeg y.toNatClampNeg v z).1 = 0 then (zset (fun q => zfits (fun k => decide (nI (bs (zgo (ztE I n T A B (fun _ => false) x.toNatClampNeg) (fun e => e == (I (3 + y.toNatClampNeg) (v.toNatClampNeg + 2 * k)).toNatClampNeg) (zst (I 15 0) (I 15 1) (nI q) (I 22 (9 + x.toNatClampNeg)))).2) = I (3 + y.toNatClampNeg) (v.toNatClampNeg + 2 * k + 1))) z.toNatClampNeg) 21, zup I 0 9 0) else pRef I n x.toNatClampNeg y.toNatClampNeg v z) else (-1000001, I)
def pWho (I : Nat → Nat → Int32) (n T : Nat) (A B : Nat → Nat) (d x y v z : Int32) : Int32 × (Nat → Nat → Int32) := if zlt d n = true ∧ zlt x 4 = true ∧ zlt y 8 = true ∧ ¬ z < 1 ∧ z ≤ 6 then (if (pRef I n x.toNatClampNeg y.toNatClampNeg v z).1 = 0 then (zset (fun q => !(q == 0) && zfits (fun k => decide (nI (bs (zgo (zTe I (fun e => if e = d.toNatClampNeg then nI q else I 16 e) n T A B (fun _ => false) (I 22 (1 + x.toNatClampNeg) - 1)) (fun e => e == (I (3 + y.toNatClampNeg) (v.toNatClampNeg + 2 * k)).toNatClampNeg) (zst (I 15 0) (I 15 1) (I 22 (5 + x.toNatClampNeg)) (I 22 (9 + x.toNatClampNeg)))).2) = I (3 + y.toNatClampNeg) (v.toNatClampNeg + 2 * k + 1))) z.toNatClampNeg) 6, zup I 0 9 0) else pRef I n x.toNatClampNeg y.toNatClampNeg v z) else (-1000001, I)
theorem pRef_ok {I : Nat → Nat → Int32} {n i r m : Nat} {y : Int32} (hm : m ≤ 6) (hR : ∀ r, r < 8 → I 12 r = -1 ∨ ∃ q, q ≤ 40 ∧ I 12 r = nI q) (hr : r < 8) (h : (pRef I n i r y (nI m)).1 = 0) : pRef I n i r y (nI m) = (0, I) ∧ ¬ I 22 (1 + i) = 0 ∧ ∃ aa, y = nI aa ∧ aa + 2 * m ≤ 40 ∧ zfits (fun k => zlt (I (3 + r) (aa + 2 * k)) n) m = true := by
  unfold pRef at h ⊢
  by_cases h1 : I 22 (1 + i) = 0
  · rw [if_pos h1] at h; exact absurd (show (-1000002 : Int32) = 0 from h) (by decide)
  · rw [if_neg h1] at h ⊢
    by_cases h2 : I 12 r = -1
    · rw [if_pos h2] at h; exact absurd (show (-1000011 : Int32) = 0 from h) (by decide)
    · rw [if_neg h2] at h ⊢
      obtain ⟨q, hq, eq⟩ := (hR r hr).resolve_left h2
      rw [eq, nI_clamp (by omega)] at h ⊢
      by_cases h3 : zhold y (2 * nI m) q = true
      · rw [if_pos h3] at h ⊢
        obtain ⟨aa, nn, rfl, hn2, han⟩ := zhold_nI hq h3
        have hnn : 2 * m = nn := by
          rw [dbl] at hn2
          exact (nI_eq (by omega) (by omega)).mp hn2
        rw [nI_clamp (n := aa) (by omega), nI_clamp (n := m) (by omega)] at h ⊢
        by_cases h4 : zfits (fun k => zlt (I (3 + r) (aa + 2 * k)) n) m = true
        · rw [if_pos h4]; exact ⟨rfl, h1, aa, rfl, by omega, h4⟩
        · rw [if_neg h4] at h; exact absurd (show (-1000001 : Int32) = 0 from h) (by decide)
      · rw [if_neg h3] at h; exact absurd (show (-1000012 : Int32) = 0 from h) (by decide)
theorem zfits_all {ok : Nat → Bool} : ∀ m, zfits ok m = true → ∀ k, k < m → ok k = true
  | 0, _, k, h => by omega
  | m + 1, h, k, hk => by
    rw [zfits, Bool.and_eq_true] at h
    rcases Nat.lt_or_ge k m with q | q
    · exact zfits_all m h.1 k q
    · have : k = m := by omega
      subst this; exact h.2
set_option maxRecDepth 100000 in
set_option maxHeartbeats 4000000 in
theorem qX8_malts {l : zL} {I : Nat → Nat → Int32} {J : Nat → Nat → Int64} {nw : Bool} (n T : Nat) (A B : Nat → Nat) (ht : zTown I n T A B) (hWh : ∀ i, i < 4 → I 22 (1 + i) = 0 ∨ ∃ w, w < n ∧ I 22 (1 + i) = nI (w + 1)) (hR : ∀ r, r < 8 → I 12 r = -1 ∨ ∃ q, q ≤ 40 ∧ I 12 r = nI q) {x y v z : Int32} : zP l mX8_malts [.ref 0, .int x, .int y, .int v, .int z] (hh I J nw) (zPub (pMal I n T A B x y v z)) := by
  refine z_start [.ref 0, .int x, .int y, .int v, .int z, zno] (by decide +kernel) (Nat.le_of_ble_eq_true rfl) rfl ?_
  refine z_iload_1 (pc := 0) dX8_malts_0 ?_
  refine z_S1 (pc := 1) dX8_malts_1 mlX8_185 kX8_isCask vX8_isCask (by decide) (by decide) (Nat.le_of_ble_eq_true rfl) (qX8_isCask) ⟨Nat.le_refl _, Nat.le_refl _⟩ (fun r h1 hq => ?_)
  obtain ⟨rfl, rfl⟩ := hq
  refine z_if_eq (pc := 4) (tgt := 27) dX8_malts_4 (by decide) (fun c4 => ?_) (fun c4 => ?_)
  · skip
    refine z_ldc (pc := 27) dX8_malts_27 kcX8_77 ?_
    refine z_ret (pc := 29) (r := some (.int _)) rfl dX8_malts_29 trivial rfl rfl ?_
    refine zPub_of ?_
    simp only [zbb0, zbb1, zb_eq0, zb_ne0, Classical.not_not, Bool.not_eq_false] at *
    simp [pMal, c4]
  · skip
    refine z_iload_2 (pc := 7) dX8_malts_7 ?_
    refine z_S1 (pc := 8) dX8_malts_8 mlX8_73 kX8_isRow vX8_isRow (by decide) (by decide) (Nat.le_of_ble_eq_true rfl) (qX8_isRow) ⟨Nat.le_refl _, Nat.le_refl _⟩ (fun r h1 hq => ?_)
    obtain ⟨rfl, rfl⟩ := hq
    refine z_if_eq (pc := 11) (tgt := 27) dX8_malts_11 (by decide) (fun c11 => ?_) (fun c11 => ?_)
    · skip
      refine z_ldc (pc := 27) dX8_malts_27 kcX8_77 ?_
      refine z_ret (pc := 29) (r := some (.int _)) rfl dX8_malts_29 trivial rfl rfl ?_
      refine zPub_of ?_
      simp only [zbb0, zbb1, zb_eq0, zb_ne0, Classical.not_not, Bool.not_eq_false] at *
      simp [pMal, c11]
    · skip
      refine z_iload_4 (pc := 14) dX8_malts_14 ?_
      refine z_iconst (pc := 16) (1) dX8_malts_16 rfl ?_
      refine z_icmp_lt (pc := 17) (tgt := 27) dX8_malts_17 (by decide) (fun c17 => ?_) (fun c17 => ?_)
      · skip
        refine z_ldc (pc := 27) dX8_malts_27 kcX8_77 ?_
        refine z_ret (pc := 29) (r := some (.int _)) rfl dX8_malts_29 trivial rfl rfl ?_
        refine zPub_of ?_
        simp only [zbb0, zbb1, zb_eq0, zb_ne0, Classical.not_not, Bool.not_eq_false] at *
        simp [pMal, c17]
      · skip
        refine z_iload_4 (pc := 20) dX8_malts_20 ?_
        refine z_bipush (pc := 22) (6) dX8_malts_22 rfl ?_
        refine z_icmp_le (pc := 24) (tgt := 30) dX8_malts_24 (by decide) (fun c24 => ?_) (fun c24 => ?_)
        · skip
          obtain ⟨i, hi, rfl⟩ := zlt_nI (by decide) ((zbb1 _).mp c4)
          have hcl : (nI i).toNatClampNeg = i := nI_clamp (by omega)
          obtain ⟨r, hr, rfl⟩ := zlt_nI (by decide) ((zbb1 _).mp c11)
          have hcl2 : (nI r).toNatClampNeg = r := nI_clamp (by omega)
          have hz6 : zlt z 7 = true := zle_yes (m := 6) (by decide) (fun q => c17 (Int32.lt_of_lt_of_le q (by decide : (0 : Int32) ≤ 1))) c24
          obtain ⟨m, hm, rfl⟩ := zlt_nI (by decide) hz6
          have hclm : (nI m).toNatClampNeg = m := nI_clamp (by omega)
          refine z_aload_0 (pc := 30) dX8_malts_30 ?_
          refine z_iload_1 (pc := 31) dX8_malts_31 ?_
          refine z_iload_2 (pc := 32) dX8_malts_32 ?_
          refine z_iload_3 (pc := 33) dX8_malts_33 ?_
          refine z_iload_4 (pc := 34) dX8_malts_34 ?_
          refine z_V4 (pc := 36) dX8_malts_36 mlX8_273 kX8_refusalOfTaps vX8_refusalOfTaps (by decide) (by decide) (by first | rfl | assumption) (Nat.le_of_ble_eq_true rfl) (qX8_refusalOfTaps n T A B ht hR i hi r hr m (by omega) rfl rfl rfl) ⟨Nat.le_refl _, Nat.le_refl _⟩ (fun r h1 hq => ?_)
          obtain ⟨rfl, rfl⟩ := hq
          refine z_istore_5 (pc := 39) dX8_malts_39 (by decide) rfl ?_
          refine z_iload_5 (pc := 41) dX8_malts_41 ?_
          refine z_if_eq (pc := 43) (tgt := 51) dX8_malts_43 (by decide) (fun c43 => ?_) (fun c43 => ?_)
          · skip
            obtain ⟨eR, hmis, aa, rfl, ham, hall⟩ := pRef_ok (by omega) hR hr c43
            rw [eR]
            have hcla : (nI aa).toNatClampNeg = aa := nI_clamp (by omega)
            obtain ⟨w0, hw0, hwe⟩ := (hWh i hi).resolve_left hmis
            have ew : I 22 (1 + i) - 1 = nI w0 := by rw [hwe, nI_pred]
            have hD : ∀ k, k < m → I (3 + r) (aa + 2 * k) = nI ((I (3 + r) (aa + 2 * k)).toNatClampNeg) ∧ (I (3 + r) (aa + 2 * k)).toNatClampNeg < n := fun k hk => by
              obtain ⟨j, hj, ej⟩ := zlt_nI (by have := ht.1; omega) (zfits_all m hall k hk)
              rw [ej, nI_clamp (by have := ht.1; omega)]; exact ⟨rfl, hj⟩
            refine z_aload_0 (pc := 51) dX8_malts_51 ?_
            refine z_aload_0 (pc := 52) dX8_malts_52 ?_
            refine y_getR (pc := 53) dX8_malts_53 flX8_58 rfl (by first | rfl | assumption) (by first | rfl | assumption) ?_
            refine z_iload_1 (pc := 56) dX8_malts_56 ?_
            refine z_aload_0 (pc := 57) dX8_malts_57 ?_
            refine y_getR (pc := 58) dX8_malts_58 flX8_10 rfl (by first | rfl | assumption) (by first | rfl | assumption) ?_
            refine y_getR (pc := 61) dX8_malts_61 flX8_104 rfl (by first | rfl | assumption) (by first | rfl | assumption) ?_
            refine z_iload_2 (pc := 64) dX8_malts_64 ?_
            refine y_aaldIN (pc := 65) (r) dX8_malts_65 rfl rfl hr (by decide) (RF_items nw r hr) ?_
            refine z_iload_3 (pc := 66) dX8_malts_66 ?_
            refine z_iload_4 (pc := 67) dX8_malts_67 ?_
            refine z_V4 (pc := 69) dX8_malts_69 mlX8_277 kX3_fittingMalts vX3_fittingMalts (by decide) (by decide) (by first | rfl | assumption) (Nat.le_of_ble_eq_true rfl) (qX3_fittingMalts n T A B ht i rfl hi w0 ew (3 + r) (SH_items r hr) (by omega) aa m rfl rfl ham (fun k => (I (3 + r) (aa + 2 * k)).toNatClampNeg) hD) ⟨Nat.le_refl _, Nat.le_refl _⟩ (fun r h1 hq => ?_)
            obtain ⟨rfl, I2, nw2, rfl, hF⟩ := hq
            refine z_V1 (pc := 72) dX8_malts_72 mlX8_86 kX8_fine vX8_fine (by decide) (by decide) (by first | rfl | assumption) (Nat.le_of_ble_eq_true rfl) (qX8_fine) ⟨Nat.le_refl _, Nat.le_refl _⟩ (fun r h1 hq => ?_)
            obtain ⟨rfl, rfl⟩ := hq
            refine z_ret (pc := 75) (r := some (.int _)) rfl dX8_malts_75 trivial rfl rfl ?_
            have eP : pMal I n T A B (nI i) (nI r) (nI aa) (nI m) = (zset (fun q => zfits (fun k => decide (nI (bs (zgo (zTe I (I 16) n T A B (fun _ => false) (nI w0)) (fun e => e == (I (3 + r) (aa + 2 * k)).toNatClampNeg) (zst (I 15 0) (I 15 1) (nI q) (I 22 (9 + i)))).2) = I (3 + r) (aa + 2 * k + 1))) m) 21, zup I 0 9 0) := by
              unfold pMal ztE
              rw [if_pos ⟨zlt_of hi (by decide), zlt_of hr (by decide), c17, c24⟩, hcl, hcl2, hcla, hclm, if_pos c43, ew]
            rw [eP]
            exact ⟨rfl, _, J, nw2, rfl, fun a h1 _ => by funext b; unfold zup; rw [hF a h1]⟩
          · skip
            refine z_iload_5 (pc := 46) dX8_malts_46 ?_
            refine z_goto (pc := 48) (tgt := 75) dX8_malts_48 (by decide) ?_
            refine z_ret (pc := 75) (r := some (.int _)) rfl dX8_malts_75 trivial rfl rfl ?_
            refine zPub_of ?_
            unfold pMal
            rw [if_pos ⟨zlt_of hi (by decide), zlt_of hr (by decide), c17, c24⟩, hcl, hcl2, if_neg c43]
        · skip
          refine z_ldc (pc := 27) dX8_malts_27 kcX8_77 ?_
          refine z_ret (pc := 29) (r := some (.int _)) rfl dX8_malts_29 trivial rfl rfl ?_
          refine zPub_of ?_
          simp only [zbb0, zbb1, zb_eq0, zb_ne0, Classical.not_not, Bool.not_eq_false] at *
          unfold pMal
          rw [if_neg (fun q => c24 q.2.2.2)]
set_option maxRecDepth 100000 in
set_option maxHeartbeats 4000000 in
theorem qX8_who {l : zL} {I : Nat → Nat → Int32} {J : Nat → Nat → Int64} {nw : Bool} (n T : Nat) (A B : Nat → Nat) (ht : zTown I n T A B) (hWh : ∀ i, i < 4 → I 22 (1 + i) = 0 ∨ ∃ w, w < n ∧ I 22 (1 + i) = nI (w + 1)) (hR : ∀ r, r < 8 → I 12 r = -1 ∨ ∃ q, q ≤ 40 ∧ I 12 r = nI q) {d x y v z : Int32} : zP l mX8_who [.ref 0, .int d, .int x, .int y, .int v, .int z] (hh I J nw) (zPub (pWho I n T A B d x y v z)) := by
  refine z_start [.ref 0, .int d, .int x, .int y, .int v, .int z, zno] (by decide +kernel) (Nat.le_of_ble_eq_true rfl) rfl ?_
  refine z_aload_0 (pc := 0) dX8_who_0 ?_
  refine z_iload_1 (pc := 1) dX8_who_1 ?_
  refine z_V1 (pc := 2) dX8_who_2 mlX8_156 kX8_isDrinker vX8_isDrinker (by decide) (by decide) (by first | rfl | assumption) (Nat.le_of_ble_eq_true rfl) (qX8_isDrinker n ht.1 ht.2.1) ⟨Nat.le_refl _, Nat.le_refl _⟩ (fun r h1 hq => ?_)
  obtain ⟨rfl, rfl⟩ := hq
  refine z_if_eq (pc := 5) (tgt := 35) dX8_who_5 (by decide) (fun c5 => ?_) (fun c5 => ?_)
  · skip
    refine z_ldc (pc := 35) dX8_who_35 kcX8_77 ?_
    refine z_ret (pc := 37) (r := some (.int _)) rfl dX8_who_37 trivial rfl rfl ?_
    refine zPub_of ?_
    simp only [zbb0, zbb1, zb_eq0, zb_ne0, Classical.not_not, Bool.not_eq_false] at *
    simp [pWho, c5]
  · skip
    refine z_iload_2 (pc := 8) dX8_who_8 ?_
    refine z_S1 (pc := 9) dX8_who_9 mlX8_185 kX8_isCask vX8_isCask (by decide) (by decide) (Nat.le_of_ble_eq_true rfl) (qX8_isCask) ⟨Nat.le_refl _, Nat.le_refl _⟩ (fun r h1 hq => ?_)
    obtain ⟨rfl, rfl⟩ := hq
    refine z_if_eq (pc := 12) (tgt := 35) dX8_who_12 (by decide) (fun c12 => ?_) (fun c12 => ?_)
    · skip
      refine z_ldc (pc := 35) dX8_who_35 kcX8_77 ?_
      refine z_ret (pc := 37) (r := some (.int _)) rfl dX8_who_37 trivial rfl rfl ?_
      refine zPub_of ?_
      simp only [zbb0, zbb1, zb_eq0, zb_ne0, Classical.not_not, Bool.not_eq_false] at *
      simp [pWho, c12]
    · skip
      refine z_iload_3 (pc := 15) dX8_who_15 ?_
      refine z_S1 (pc := 16) dX8_who_16 mlX8_73 kX8_isRow vX8_isRow (by decide) (by decide) (Nat.le_of_ble_eq_true rfl) (qX8_isRow) ⟨Nat.le_refl _, Nat.le_refl _⟩ (fun r h1 hq => ?_)
      obtain ⟨rfl, rfl⟩ := hq
      refine z_if_eq (pc := 19) (tgt := 35) dX8_who_19 (by decide) (fun c19 => ?_) (fun c19 => ?_)
      · skip
        refine z_ldc (pc := 35) dX8_who_35 kcX8_77 ?_
        refine z_ret (pc := 37) (r := some (.int _)) rfl dX8_who_37 trivial rfl rfl ?_
        refine zPub_of ?_
        simp only [zbb0, zbb1, zb_eq0, zb_ne0, Classical.not_not, Bool.not_eq_false] at *
        simp [pWho, c19]
      · skip
        refine z_iload_5 (pc := 22) dX8_who_22 ?_
        refine z_iconst (pc := 24) (1) dX8_who_24 rfl ?_
        refine z_icmp_lt (pc := 25) (tgt := 35) dX8_who_25 (by decide) (fun c25 => ?_) (fun c25 => ?_)
        · skip
          refine z_ldc (pc := 35) dX8_who_35 kcX8_77 ?_
          refine z_ret (pc := 37) (r := some (.int _)) rfl dX8_who_37 trivial rfl rfl ?_
          refine zPub_of ?_
          simp only [zbb0, zbb1, zb_eq0, zb_ne0, Classical.not_not, Bool.not_eq_false] at *
          simp [pWho, c25]
        · skip
          refine z_iload_5 (pc := 28) dX8_who_28 ?_
          refine z_bipush (pc := 30) (6) dX8_who_30 rfl ?_
          refine z_icmp_le (pc := 32) (tgt := 38) dX8_who_32 (by decide) (fun c32 => ?_) (fun c32 => ?_)
          · skip
            obtain ⟨i, hi, rfl⟩ := zlt_nI (by decide) ((zbb1 _).mp c12)
            have hcl : (nI i).toNatClampNeg = i := nI_clamp (by omega)
            have hn6 := ht.1
            obtain ⟨d1, hd1, rfl⟩ := zlt_nI (by omega) ((zbb1 _).mp c5)
            have hcld : (nI d1).toNatClampNeg = d1 := nI_clamp (by omega)
            obtain ⟨r, hr, rfl⟩ := zlt_nI (by decide) ((zbb1 _).mp c19)
            have hcl2 : (nI r).toNatClampNeg = r := nI_clamp (by omega)
            have hz6 : zlt z 7 = true := zle_yes (m := 6) (by decide) (fun q => c25 (Int32.lt_of_lt_of_le q (by decide : (0 : Int32) ≤ 1))) c32
            obtain ⟨m, hm, rfl⟩ := zlt_nI (by decide) hz6
            have hclm : (nI m).toNatClampNeg = m := nI_clamp (by omega)
            refine z_aload_0 (pc := 38) dX8_who_38 ?_
            refine z_iload_2 (pc := 39) dX8_who_39 ?_
            refine z_iload_3 (pc := 40) dX8_who_40 ?_
            refine z_iload_4 (pc := 41) dX8_who_41 ?_
            refine z_iload_5 (pc := 43) dX8_who_43 ?_
            refine z_V4 (pc := 45) dX8_who_45 mlX8_273 kX8_refusalOfTaps vX8_refusalOfTaps (by decide) (by decide) (by first | rfl | assumption) (Nat.le_of_ble_eq_true rfl) (qX8_refusalOfTaps n T A B ht hR i hi r hr m (by omega) rfl rfl rfl) ⟨Nat.le_refl _, Nat.le_refl _⟩ (fun r h1 hq => ?_)
            obtain ⟨rfl, rfl⟩ := hq
            refine z_istore_6 (pc := 48) dX8_who_48 (by decide) rfl ?_
            refine z_iload_6 (pc := 50) dX8_who_50 ?_
            refine z_if_eq (pc := 52) (tgt := 60) dX8_who_52 (by decide) (fun c52 => ?_) (fun c52 => ?_)
            · skip
              obtain ⟨eR, hmis, aa, rfl, ham, hall⟩ := pRef_ok (by omega) hR hr c52
              rw [eR]
              have hcla : (nI aa).toNatClampNeg = aa := nI_clamp (by omega)
              obtain ⟨w0, hw0, hwe⟩ := (hWh i hi).resolve_left hmis
              have ew : I 22 (1 + i) - 1 = nI w0 := by rw [hwe, nI_pred]
              have hD : ∀ k, k < m → I (3 + r) (aa + 2 * k) = nI ((I (3 + r) (aa + 2 * k)).toNatClampNeg) ∧ (I (3 + r) (aa + 2 * k)).toNatClampNeg < n := fun k hk => by
                obtain ⟨j, hj, ej⟩ := zlt_nI (by have := ht.1; omega) (zfits_all m hall k hk)
                rw [ej, nI_clamp (by have := ht.1; omega)]; exact ⟨rfl, hj⟩
              refine z_aload_0 (pc := 60) dX8_who_60 ?_
              refine z_aload_0 (pc := 61) dX8_who_61 ?_
              refine y_getR (pc := 62) dX8_who_62 flX8_58 rfl (by first | rfl | assumption) (by first | rfl | assumption) ?_
              refine z_iload_1 (pc := 65) dX8_who_65 ?_
              refine z_iload_2 (pc := 66) dX8_who_66 ?_
              refine z_aload_0 (pc := 67) dX8_who_67 ?_
              refine y_getR (pc := 68) dX8_who_68 flX8_10 rfl (by first | rfl | assumption) (by first | rfl | assumption) ?_
              refine y_getR (pc := 71) dX8_who_71 flX8_104 rfl (by first | rfl | assumption) (by first | rfl | assumption) ?_
              refine z_iload_3 (pc := 74) dX8_who_74 ?_
              refine y_aaldIN (pc := 75) (r) dX8_who_75 rfl rfl hr (by decide) (RF_items nw r hr) ?_
              refine z_iload_4 (pc := 76) dX8_who_76 ?_
              refine z_iload_5 (pc := 78) dX8_who_78 ?_
              refine z_V5 (pc := 80) dX8_who_80 mlX8_281 kX3_fittingKinds vX3_fittingKinds (by decide) (by decide) (by first | rfl | assumption) (Nat.le_of_ble_eq_true rfl) (qX3_fittingKinds n T A B ht i rfl hi w0 ew (3 + r) (SH_items r hr) (by omega) aa m rfl rfl ham (fun k => (I (3 + r) (aa + 2 * k)).toNatClampNeg) hD d1 rfl hd1) ⟨Nat.le_refl _, Nat.le_refl _⟩ (fun r h1 hq => ?_)
              obtain ⟨rfl, I2, nw2, rfl, hF⟩ := hq
              refine z_V1 (pc := 83) dX8_who_83 mlX8_86 kX8_fine vX8_fine (by decide) (by decide) (by first | rfl | assumption) (Nat.le_of_ble_eq_true rfl) (qX8_fine) ⟨Nat.le_refl _, Nat.le_refl _⟩ (fun r h1 hq => ?_)
              obtain ⟨rfl, rfl⟩ := hq
              refine z_ret (pc := 86) (r := some (.int _)) rfl dX8_who_86 trivial rfl rfl ?_
              have eP : pWho I n T A B (nI d1) (nI i) (nI r) (nI aa) (nI m) = (zset (fun q => !(q == 0) && zfits (fun k => decide (nI (bs (zgo (zTe I (fun e => if e = d1 then nI q else I 16 e) n T A B (fun _ => false) (nI w0)) (fun e => e == (I (3 + r) (aa + 2 * k)).toNatClampNeg) (zst (I 15 0) (I 15 1) (I 22 (5 + i)) (I 22 (9 + i)))).2) = I (3 + r) (aa + 2 * k + 1))) m) 6, zup I 0 9 0) := by
                unfold pWho
                rw [if_pos ⟨zlt_of hd1 (by omega), zlt_of hi (by decide), zlt_of hr (by decide), c25, c32⟩, hcl, hcl2, hcla, hclm, hcld, if_pos c52, ew]
              rw [eP]
              exact ⟨rfl, _, J, nw2, rfl, fun a h1 _ => by funext b; unfold zup; rw [hF a h1]⟩
            · skip
              refine z_iload_6 (pc := 55) dX8_who_55 ?_
              refine z_goto (pc := 57) (tgt := 86) dX8_who_57 (by decide) ?_
              refine z_ret (pc := 86) (r := some (.int _)) rfl dX8_who_86 trivial rfl rfl ?_
              refine zPub_of ?_
              unfold pWho
              rw [if_pos ⟨zlt_of hd1 (by omega), zlt_of hi (by decide), zlt_of hr (by decide), c25, c32⟩, hcl, hcl2, if_neg c52]
          · skip
            refine z_ldc (pc := 35) dX8_who_35 kcX8_77 ?_
            refine z_ret (pc := 37) (r := some (.int _)) rfl dX8_who_37 trivial rfl rfl ?_
            refine zPub_of ?_
            simp only [zbb0, zbb1, zb_eq0, zb_ne0, Classical.not_not, Bool.not_eq_false] at *
            unfold pWho
            rw [if_neg (fun q => c32 q.2.2.2.2)]
