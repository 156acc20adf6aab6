set_option maxRecDepth 100000 in
set_option maxHeartbeats 4000000 in
theorem s_row {l : zL} {I : Nat → Nat → Int32} {J : Nat → Nat → Int64} {nw : Bool} (h : Rel I I) {x y m : Int32} : zStep l mX8_row mX9_row [.int x, .int y, .int m] I J nw := by
  obtain ⟨n, T, A, B, nx, kp, L, h⟩ := h
  have hRT := h.2.2.2.2.1.1
  have hn := hRT.1.1
  have ht := RT_town hRT
  have hWh := zRc_wh hRT.2.2
  have hRw : ∀ r, r < 8 → I 12 r = -1 ∨ ∃ q, q ≤ 40 ∧ I 12 r = nI q := fun r hr => (h.1 r hr).2.2.1
  have hnx := h.2.2.2.2.2.1.1
  have hkp := h.2.2.2.2.2.1.2.1
  have en1 := h.2.2.2.2.2.1.2.2.1
  have ek1 := h.2.2.2.2.2.1.2.2.2.1
  have hL := h.2.2.1.1
  have eL := h.2.2.1.2.1
  refine step_of (P := pRow I x y m) h (qX8_row) ?_ (fun I2 => mRow I2 x y m) (fun I2 J2 nw2 g => ?_) (fun I2 g => ?_) (fun I2 kk jj ha => ?_)
  · intro kk jj ha
    unfold pRow
    by_cases q : zlt x 8 = true ∧ zlt y 3 = true ∧ m ≤ 40
    · rw [if_pos q]
      have hb := zlt_clamp (by decide) q.1
      by_cases h0 : m < 0
      · rw [if_pos h0]; dsimp only; repeat (first | rw [zup_no (by omega)] | rw [zfill_no (by omega)] | rw [zcpy_no (by omega)] | rw [pKeep_ge hnx ha] | rw [ztown_ne (by omega)])
      · rw [if_neg h0]; dsimp only; repeat (first | rw [zup_no (by omega)] | rw [zfill_no (by omega)] | rw [zcpy_no (by omega)] | rw [pKeep_ge hnx ha] | rw [ztown_ne (by omega)])
    · rw [if_neg q]
  · have gT := g.2.2.2.2.1.1
    have gt := RT_rt gT
    have ge := gt.2.1
    have gk := g.2.2.2.2.2.1.2.2.2.2.1
    have gs := fun i (hi : i < 4) => zRc_zst gT.2.2 hi (I2 90 0) (I2 90 1) (I2 90 (56 + i))
    have gw := fun i (hi : i < 4) (q : ¬ I2 90 (44 + i) = 0) => zRc_u gT.2.2 hn hi q
    exact zPM_e (qX9_row)
  · have e := r_row g x y m
    exact ⟨e.1, n, T, A, B, nx, kp, L, e.2⟩
  · unfold mRow
    repeat' split
    all_goals first
      | rfl
      | (dsimp only
         repeat (first | rw [zup_no (by omega)] | rw [zfill_no (by omega)] | rw [zcpy_no (by omega)] | rw [zrow_ne _ _ _ (by omega)] | rw [zrem_lt _ ha] | rw [pKeep_ge hnx ha] | rw [ztown_ne (by omega)] | rw [ztr_ge ha]))
set_option maxRecDepth 100000 in
set_option maxHeartbeats 4000000 in
theorem s_drop {l : zL} {I : Nat → Nat → Int32} {J : Nat → Nat → Int64} {nw : Bool} (h : Rel I I) {x : Int32} : zStep l mX8_drop mX9_drop [.int x] I J nw := by
  obtain ⟨n, T, A, B, nx, kp, L, h⟩ := h
  have hRT := h.2.2.2.2.1.1
  have hn := hRT.1.1
  have ht := RT_town hRT
  have hWh := zRc_wh hRT.2.2
  have hRw : ∀ r, r < 8 → I 12 r = -1 ∨ ∃ q, q ≤ 40 ∧ I 12 r = nI q := fun r hr => (h.1 r hr).2.2.1
  have hnx := h.2.2.2.2.2.1.1
  have hkp := h.2.2.2.2.2.1.2.1
  have en1 := h.2.2.2.2.2.1.2.2.1
  have ek1 := h.2.2.2.2.2.1.2.2.2.1
  have hL := h.2.2.1.1
  have eL := h.2.2.1.2.1
  refine step_of (P := pDrop I x) h (qX8_drop) ?_ (fun I2 => mDrop I2 x) (fun I2 J2 nw2 g => ?_) (fun I2 g => ?_) (fun I2 kk jj ha => ?_)
  · intro kk jj ha
    unfold pDrop
    by_cases q : zlt x 8 = true
    · rw [if_pos q]
      by_cases h0 : I 12 x.toNatClampNeg = -1
      · rw [if_pos h0]; dsimp only; repeat (first | rw [zup_no (by omega)] | rw [zfill_no (by omega)] | rw [zcpy_no (by omega)] | rw [pKeep_ge hnx ha] | rw [ztown_ne (by omega)])
      · rw [if_neg h0]; dsimp only; repeat (first | rw [zup_no (by omega)] | rw [zfill_no (by omega)] | rw [zcpy_no (by omega)] | rw [pKeep_ge hnx ha] | rw [ztown_ne (by omega)])
    · rw [if_neg q]
  · have gT := g.2.2.2.2.1.1
    have gt := RT_rt gT
    have ge := gt.2.1
    have gk := g.2.2.2.2.2.1.2.2.2.2.1
    have gs := fun i (hi : i < 4) => zRc_zst gT.2.2 hi (I2 90 0) (I2 90 1) (I2 90 (56 + i))
    have gw := fun i (hi : i < 4) (q : ¬ I2 90 (44 + i) = 0) => zRc_u gT.2.2 hn hi q
    exact zPM_e (qX9_drop)
  · have e := r_drop g x
    exact ⟨e.1, n, T, A, B, nx, kp, L, e.2⟩
  · unfold mDrop
    repeat' split
    all_goals first
      | rfl
      | (dsimp only
         repeat (first | rw [zup_no (by omega)] | rw [zfill_no (by omega)] | rw [zcpy_no (by omega)] | rw [zrow_ne _ _ _ (by omega)] | rw [zrem_lt _ ha] | rw [pKeep_ge hnx ha] | rw [ztown_ne (by omega)] | rw [ztr_ge ha]))
set_option maxRecDepth 100000 in
set_option maxHeartbeats 4000000 in
theorem s_set {l : zL} {I : Nat → Nat → Int32} {J : Nat → Nat → Int64} {nw : Bool} (h : Rel I I) {x u v : Int32} : zStep l mX8_set mX9_set [.int x, .int u, .int v] I J nw := by
  obtain ⟨n, T, A, B, nx, kp, L, h⟩ := h
  have hRT := h.2.2.2.2.1.1
  have hn := hRT.1.1
  have ht := RT_town hRT
  have hWh := zRc_wh hRT.2.2
  have hRw : ∀ r, r < 8 → I 12 r = -1 ∨ ∃ q, q ≤ 40 ∧ I 12 r = nI q := fun r hr => (h.1 r hr).2.2.1
  have hnx := h.2.2.2.2.2.1.1
  have hkp := h.2.2.2.2.2.1.2.1
  have en1 := h.2.2.2.2.2.1.2.2.1
  have ek1 := h.2.2.2.2.2.1.2.2.2.1
  have hL := h.2.2.1.1
  have eL := h.2.2.1.2.1
  refine step_of (P := pSet I x u v) h (qX8_set hRw) ?_ (fun I2 => mSet I2 x u v) (fun I2 J2 nw2 g => ?_) (fun I2 g => ?_) (fun I2 kk jj ha => ?_)
  · intro kk jj ha
    unfold pSet
    by_cases q : zlt x 8 = true
    · rw [if_pos q]
      have hb := zlt_clamp (by decide) q
      by_cases h0 : I 12 x.toNatClampNeg = -1
      · rw [if_pos h0]; dsimp only; repeat (first | rw [zup_no (by omega)] | rw [zfill_no (by omega)] | rw [zcpy_no (by omega)] | rw [pKeep_ge hnx ha] | rw [ztown_ne (by omega)])
      · rw [if_neg h0]
        by_cases h1 : zhold u 1 (I 12 x.toNatClampNeg).toNatClampNeg = true
        · rw [if_pos h1]; dsimp only; repeat (first | rw [zup_no (by omega)] | rw [zfill_no (by omega)] | rw [zcpy_no (by omega)] | rw [pKeep_ge hnx ha] | rw [ztown_ne (by omega)])
        · rw [if_neg h1]; dsimp only; repeat (first | rw [zup_no (by omega)] | rw [zfill_no (by omega)] | rw [zcpy_no (by omega)] | rw [pKeep_ge hnx ha] | rw [ztown_ne (by omega)])
    · rw [if_neg q]
  · have gT := g.2.2.2.2.1.1
    have gt := RT_rt gT
    have ge := gt.2.1
    have gk := g.2.2.2.2.2.1.2.2.2.2.1
    have gs := fun i (hi : i < 4) => zRc_zst gT.2.2 hi (I2 90 0) (I2 90 1) (I2 90 (56 + i))
    have gw := fun i (hi : i < 4) (q : ¬ I2 90 (44 + i) = 0) => zRc_u gT.2.2 hn hi q
    exact zPM_e (qX9_set (RW_m g.1))
  · have e := r_set g x u v
    exact ⟨e.1, n, T, A, B, nx, kp, L, e.2⟩
  · unfold mSet
    repeat' split
    all_goals first
      | rfl
      | (dsimp only
         repeat (first | rw [zup_no (by omega)] | rw [zfill_no (by omega)] | rw [zcpy_no (by omega)] | rw [zrow_ne _ _ _ (by omega)] | rw [zrem_lt _ ha] | rw [pKeep_ge hnx ha] | rw [ztown_ne (by omega)] | rw [ztr_ge ha]))
set_option maxRecDepth 100000 in
set_option maxHeartbeats 4000000 in
theorem s_copy {l : zL} {I : Nat → Nat → Int32} {J : Nat → Nat → Int64} {nw : Bool} (h : Rel I I) {x u y v m : Int32} : zStep l mX8_copy mX9_copy [.int x, .int u, .int y, .int v, .int m] I J nw := by
  obtain ⟨n, T, A, B, nx, kp, L, h⟩ := h
  have hRT := h.2.2.2.2.1.1
  have hn := hRT.1.1
  have ht := RT_town hRT
  have hWh := zRc_wh hRT.2.2
  have hRw : ∀ r, r < 8 → I 12 r = -1 ∨ ∃ q, q ≤ 40 ∧ I 12 r = nI q := fun r hr => (h.1 r hr).2.2.1
  have hnx := h.2.2.2.2.2.1.1
  have hkp := h.2.2.2.2.2.1.2.1
  have en1 := h.2.2.2.2.2.1.2.2.1
  have ek1 := h.2.2.2.2.2.1.2.2.2.1
  have hL := h.2.2.1.1
  have eL := h.2.2.1.2.1
  refine step_of (P := pCopy I x u y v m) h (qX8_copy hRw) ?_ (fun I2 => mCopy I2 x u y v m) (fun I2 J2 nw2 g => ?_) (fun I2 g => ?_) (fun I2 kk jj ha => ?_)
  · intro kk jj ha
    unfold pCopy
    by_cases q : zlt x 8 = true ∧ zlt y 8 = true
    · rw [if_pos q]
      have hb := zlt_clamp (by decide) q.2
      by_cases h0 : I 12 x.toNatClampNeg = -1 ∨ I 12 y.toNatClampNeg = -1
      · rw [if_pos h0]; dsimp only; repeat (first | rw [zup_no (by omega)] | rw [zfill_no (by omega)] | rw [zcpy_no (by omega)] | rw [pKeep_ge hnx ha] | rw [ztown_ne (by omega)])
      · rw [if_neg h0]
        by_cases h2 : ¬ I 11 x.toNatClampNeg = I 11 y.toNatClampNeg
        · rw [if_pos h2]; dsimp only; repeat (first | rw [zup_no (by omega)] | rw [zfill_no (by omega)] | rw [zcpy_no (by omega)] | rw [pKeep_ge hnx ha] | rw [ztown_ne (by omega)])
        · rw [if_neg h2]
          by_cases h1 : zhold u m (I 12 x.toNatClampNeg).toNatClampNeg = true ∧ zhold v m (I 12 y.toNatClampNeg).toNatClampNeg = true
          · rw [if_pos h1]; dsimp only; repeat (first | rw [zup_no (by omega)] | rw [zfill_no (by omega)] | rw [zcpy_no (by omega)] | rw [pKeep_ge hnx ha] | rw [ztown_ne (by omega)])
          · rw [if_neg h1]; dsimp only; repeat (first | rw [zup_no (by omega)] | rw [zfill_no (by omega)] | rw [zcpy_no (by omega)] | rw [pKeep_ge hnx ha] | rw [ztown_ne (by omega)])
    · rw [if_neg q]
  · have gT := g.2.2.2.2.1.1
    have gt := RT_rt gT
    have ge := gt.2.1
    have gk := g.2.2.2.2.2.1.2.2.2.2.1
    have gs := fun i (hi : i < 4) => zRc_zst gT.2.2 hi (I2 90 0) (I2 90 1) (I2 90 (56 + i))
    have gw := fun i (hi : i < 4) (q : ¬ I2 90 (44 + i) = 0) => zRc_u gT.2.2 hn hi q
    exact zPM_e (qX9_copy (RW_m g.1))
  · have e := r_copy g x u y v m
    exact ⟨e.1, n, T, A, B, nx, kp, L, e.2⟩
  · unfold mCopy
    repeat' split
    all_goals first
      | rfl
      | (dsimp only
         repeat (first | rw [zup_no (by omega)] | rw [zfill_no (by omega)] | rw [zcpy_no (by omega)] | rw [zrow_ne _ _ _ (by omega)] | rw [zrem_lt _ ha] | rw [pKeep_ge hnx ha] | rw [ztown_ne (by omega)] | rw [ztr_ge ha]))
set_option maxRecDepth 100000 in
set_option maxHeartbeats 4000000 in
theorem s_feed {l : zL} {I : Nat → Nat → Int32} {J : Nat → Nat → Int64} {nw : Bool} (h : Rel I I) {x : Int32} : zStep l mX8_feed mX9_feed [.int x] I J nw := by
  obtain ⟨n, T, A, B, nx, kp, L, h⟩ := h
  have hRT := h.2.2.2.2.1.1
  have hn := hRT.1.1
  have ht := RT_town hRT
  have hWh := zRc_wh hRT.2.2
  have hRw : ∀ r, r < 8 → I 12 r = -1 ∨ ∃ q, q ≤ 40 ∧ I 12 r = nI q := fun r hr => (h.1 r hr).2.2.1
  have hnx := h.2.2.2.2.2.1.1
  have hkp := h.2.2.2.2.2.1.2.1
  have en1 := h.2.2.2.2.2.1.2.2.1
  have ek1 := h.2.2.2.2.2.1.2.2.2.1
  have hL := h.2.2.1.1
  have eL := h.2.2.1.2.1
  refine step_of (P := pFeed I L x) h (qX8_feed L hL eL) ?_ (fun I2 => mFeed I2 L x) (fun I2 J2 nw2 g => ?_) (fun I2 g => ?_) (fun I2 kk jj ha => ?_)
  · intro kk jj ha
    unfold pFeed
    by_cases q : zlt x 256 = true
    · rw [if_pos q]
      by_cases h0 : L < 120
      · rw [if_pos h0]; dsimp only; repeat (first | rw [zup_no (by omega)] | rw [zfill_no (by omega)] | rw [zcpy_no (by omega)] | rw [pKeep_ge hnx ha] | rw [ztown_ne (by omega)])
      · rw [if_neg h0]
    · rw [if_neg q]
  · have gT := g.2.2.2.2.1.1
    have gt := RT_rt gT
    have ge := gt.2.1
    have gk := g.2.2.2.2.2.1.2.2.2.2.1
    have gs := fun i (hi : i < 4) => zRc_zst gT.2.2 hi (I2 90 0) (I2 90 1) (I2 90 (56 + i))
    have gw := fun i (hi : i < 4) (q : ¬ I2 90 (44 + i) = 0) => zRc_u gT.2.2 hn hi q
    exact zPM_e (qX9_feed L g.2.2.1.2.2.1 hL)
  · exact r_feed g x
  · unfold mFeed
    repeat' split
    all_goals first
      | rfl
      | (dsimp only
         repeat (first | rw [zup_no (by omega)] | rw [zfill_no (by omega)] | rw [zcpy_no (by omega)] | rw [zrow_ne _ _ _ (by omega)] | rw [zrem_lt _ ha] | rw [pKeep_ge hnx ha] | rw [ztown_ne (by omega)] | rw [ztr_ge ha]))
set_option maxRecDepth 100000 in
set_option maxHeartbeats 4000000 in
theorem s_as {l : zL} {I : Nat → Nat → Int32} {J : Nat → Nat → Int64} {nw : Bool} (h : Rel I I) {x k : Int32} : zStep l mX8_as mX9_as [.int x, .int k] I J nw := by
  obtain ⟨n, T, A, B, nx, kp, L, h⟩ := h
  have hRT := h.2.2.2.2.1.1
  have hn := hRT.1.1
  have ht := RT_town hRT
  have hWh := zRc_wh hRT.2.2
  have hRw : ∀ r, r < 8 → I 12 r = -1 ∨ ∃ q, q ≤ 40 ∧ I 12 r = nI q := fun r hr => (h.1 r hr).2.2.1
  have hnx := h.2.2.2.2.2.1.1
  have hkp := h.2.2.2.2.2.1.2.1
  have en1 := h.2.2.2.2.2.1.2.2.1
  have ek1 := h.2.2.2.2.2.1.2.2.2.1
  have hL := h.2.2.1.1
  have eL := h.2.2.1.2.1
  refine step_of (P := pAs I n x k) h (qX8_as n T A B ht) ?_ (fun I2 => mAs I2 n x k) (fun I2 J2 nw2 g => ?_) (fun I2 g => ?_) (fun I2 kk jj ha => ?_)
  · intro kk jj ha
    unfold pAs
    by_cases q : zlt x n = true ∧ zlt k 6 = true
    · rw [if_pos q]
      by_cases h0 : zkof (I 16 x.toNatClampNeg) k = true
      · rw [if_pos h0]; dsimp only; repeat (first | rw [zup_no (by omega)] | rw [zfill_no (by omega)] | rw [zcpy_no (by omega)] | rw [pKeep_ge hnx ha] | rw [ztown_ne (by omega)])
      · rw [if_neg h0]; dsimp only; repeat (first | rw [zup_no (by omega)] | rw [zfill_no (by omega)] | rw [zcpy_no (by omega)] | rw [pKeep_ge hnx ha] | rw [ztown_ne (by omega)])
    · rw [if_neg q]
  · have gT := g.2.2.2.2.1.1
    have gt := RT_rt gT
    have ge := gt.2.1
    have gk := g.2.2.2.2.2.1.2.2.2.2.1
    have gs := fun i (hi : i < 4) => zRc_zst gT.2.2 hi (I2 90 0) (I2 90 1) (I2 90 (56 + i))
    have gw := fun i (hi : i < 4) (q : ¬ I2 90 (44 + i) = 0) => zRc_u gT.2.2 hn hi q
    exact zPM_e (qX9_as n hn ge)
  · have e := r_as g x k
    exact ⟨e.1, n, T, A, B, nx, kp, L, e.2⟩
  · unfold mAs
    repeat' split
    all_goals first
      | rfl
      | (dsimp only
         repeat (first | rw [zup_no (by omega)] | rw [zfill_no (by omega)] | rw [zcpy_no (by omega)] | rw [zrow_ne _ _ _ (by omega)] | rw [zrem_lt _ ha] | rw [pKeep_ge hnx ha] | rw [ztown_ne (by omega)] | rw [ztr_ge ha]))
set_option maxRecDepth 100000 in
set_option maxHeartbeats 4000000 in
theorem s_malts {l : zL} {I : Nat → Nat → Int32} {J : Nat → Nat → Int64} {nw : Bool} (h : Rel I I) {x y v z : Int32} : zStep l mX8_malts mX9_malts [.int x, .int y, .int v, .int z] I J nw := by
  obtain ⟨n, T, A, B, nx, kp, L, h⟩ := h
  have hRT := h.2.2.2.2.1.1
  have hn := hRT.1.1
  have ht := RT_town hRT
  have hWh := zRc_wh hRT.2.2
  have hRw : ∀ r, r < 8 → I 12 r = -1 ∨ ∃ q, q ≤ 40 ∧ I 12 r = nI q := fun r hr => (h.1 r hr).2.2.1
  have hnx := h.2.2.2.2.2.1.1
  have hkp := h.2.2.2.2.2.1.2.1
  have en1 := h.2.2.2.2.2.1.2.2.1
  have ek1 := h.2.2.2.2.2.1.2.2.2.1
  have hL := h.2.2.1.1
  have eL := h.2.2.1.2.1
  refine step_of (P := pMal I n T A B x y v z) h (qX8_malts n T A B ht hWh hRw) ?_ (fun I2 => mMal I2 n T A B x y v z) (fun I2 J2 nw2 g => ?_) (fun I2 g => ?_) (fun I2 kk jj ha => ?_)
  · intro kk jj ha
    have hpr : ∀ i r y z, (pRef I n i r y z).2 kk jj = I kk jj := by
      intro i r y z
      unfold pRef
      by_cases h0 : I 22 (1 + i) = 0
      · rw [if_pos h0]
      · rw [if_neg h0]
        by_cases h1 : I 12 r = -1
        · rw [if_pos h1]; dsimp only; repeat (first | rw [zup_no (by omega)] | rw [zfill_no (by omega)] | rw [zcpy_no (by omega)] | rw [pKeep_ge hnx ha] | rw [ztown_ne (by omega)])
        · rw [if_neg h1]
          by_cases h2 : zhold y (2 * z) (I 12 r).toNatClampNeg = true
          · rw [if_pos h2]
            by_cases h3 : zfits (fun k => zlt (I (3 + r) (y.toNatClampNeg + 2 * k)) n) z.toNatClampNeg = true
            · rw [if_pos h3]
            · rw [if_neg h3]
          · rw [if_neg h2]; dsimp only; repeat (first | rw [zup_no (by omega)] | rw [zfill_no (by omega)] | rw [zcpy_no (by omega)] | rw [pKeep_ge hnx ha] | rw [ztown_ne (by omega)])
    unfold pMal
    by_cases q : zlt x 4 = true ∧ zlt y 8 = true ∧ ¬ z < 1 ∧ z ≤ 6
    · rw [if_pos q]
      by_cases h0 : (pRef I n x.toNatClampNeg y.toNatClampNeg v z).1 = 0
      · rw [if_pos h0]; dsimp only; repeat (first | rw [zup_no (by omega)] | rw [zfill_no (by omega)] | rw [zcpy_no (by omega)] | rw [pKeep_ge hnx ha] | rw [ztown_ne (by omega)])
      · rw [if_neg h0]; exact hpr _ _ _ _
    · rw [if_neg q]
  · have gT := g.2.2.2.2.1.1
    have gt := RT_rt gT
    have ge := gt.2.1
    have gk := g.2.2.2.2.2.1.2.2.2.2.1
    have gs := fun i (hi : i < 4) => zRc_zst gT.2.2 hi (I2 90 0) (I2 90 1) (I2 90 (56 + i))
    have gw := fun i (hi : i < 4) (q : ¬ I2 90 (44 + i) = 0) => zRc_u gT.2.2 hn hi q
    exact (qX9_malts n T A B gt (RW_m g.1))
  · have e := r_mal g x y v z
    exact ⟨e.1, n, T, A, B, nx, kp, L, e.2⟩
  · have htw : (mTw I2 n x y v z).2 kk jj = I2 kk jj := by
      unfold mTw
      repeat' split
      all_goals first
        | rfl
        | (dsimp only; rw [zup_no (by omega)])
    unfold mMal
    by_cases h0 : (mTw I2 n x y v z).1 = 0
    · rw [if_pos h0]; dsimp only; rw [zup_no (by omega)]
    · rw [if_neg h0]; exact htw
set_option maxRecDepth 100000 in
set_option maxHeartbeats 4000000 in
theorem s_who {l : zL} {I : Nat → Nat → Int32} {J : Nat → Nat → Int64} {nw : Bool} (h : Rel I I) {d x y v z : Int32} : zStep l mX8_who mX9_who [.int d, .int x, .int y, .int v, .int z] I J nw := by
  obtain ⟨n, T, A, B, nx, kp, L, h⟩ := h
  have hRT := h.2.2.2.2.1.1
  have hn := hRT.1.1
  have ht := RT_town hRT
  have hWh := zRc_wh hRT.2.2
  have hRw : ∀ r, r < 8 → I 12 r = -1 ∨ ∃ q, q ≤ 40 ∧ I 12 r = nI q := fun r hr => (h.1 r hr).2.2.1
  have hnx := h.2.2.2.2.2.1.1
  have hkp := h.2.2.2.2.2.1.2.1
  have en1 := h.2.2.2.2.2.1.2.2.1
  have ek1 := h.2.2.2.2.2.1.2.2.2.1
  have hL := h.2.2.1.1
  have eL := h.2.2.1.2.1
  refine step_of (P := pWho I n T A B d x y v z) h (qX8_who n T A B ht hWh hRw) ?_ (fun I2 => mWho I2 n T A B d x y v z) (fun I2 J2 nw2 g => ?_) (fun I2 g => ?_) (fun I2 kk jj ha => ?_)
  · intro kk jj ha
    have hpr : ∀ i r y z, (pRef I n i r y z).2 kk jj = I kk jj := by
      intro i r y z
      unfold pRef
      by_cases h0 : I 22 (1 + i) = 0
      · rw [if_pos h0]
      · rw [if_neg h0]
        by_cases h1 : I 12 r = -1
        · rw [if_pos h1]; dsimp only; repeat (first | rw [zup_no (by omega)] | rw [zfill_no (by omega)] | rw [zcpy_no (by omega)] | rw [pKeep_ge hnx ha] | rw [ztown_ne (by omega)])
        · rw [if_neg h1]
          by_cases h2 : zhold y (2 * z) (I 12 r).toNatClampNeg = true
          · rw [if_pos h2]
            by_cases h3 : zfits (fun k => zlt (I (3 + r) (y.toNatClampNeg + 2 * k)) n) z.toNatClampNeg = true
            · rw [if_pos h3]
            · rw [if_neg h3]
          · rw [if_neg h2]; dsimp only; repeat (first | rw [zup_no (by omega)] | rw [zfill_no (by omega)] | rw [zcpy_no (by omega)] | rw [pKeep_ge hnx ha] | rw [ztown_ne (by omega)])
    unfold pWho
    by_cases q : zlt d n = true ∧ zlt x 4 = true ∧ zlt y 8 = true ∧ ¬ z < 1 ∧ z ≤ 6
    · rw [if_pos q]
      by_cases h0 : (pRef I n x.toNatClampNeg y.toNatClampNeg v z).1 = 0
      · rw [if_pos h0]; dsimp only; repeat (first | rw [zup_no (by omega)] | rw [zfill_no (by omega)] | rw [zcpy_no (by omega)] | rw [pKeep_ge hnx ha] | rw [ztown_ne (by omega)])
      · rw [if_neg h0]; exact hpr _ _ _ _
    · rw [if_neg q]
  · have gT := g.2.2.2.2.1.1
    have gt := RT_rt gT
    have ge := gt.2.1
    have gk := g.2.2.2.2.2.1.2.2.2.2.1
    have gs := fun i (hi : i < 4) => zRc_zst gT.2.2 hi (I2 90 0) (I2 90 1) (I2 90 (56 + i))
    have gw := fun i (hi : i < 4) (q : ¬ I2 90 (44 + i) = 0) => zRc_u gT.2.2 hn hi q
    exact (qX9_who n T A B gt (RW_m g.1) gs)
  · have e := r_who g d x y v z
    exact ⟨e.1, n, T, A, B, nx, kp, L, e.2⟩
  · have htw : (mTw I2 n x y v z).2 kk jj = I2 kk jj := by
      unfold mTw
      repeat' split
      all_goals first
        | rfl
        | (dsimp only; rw [zup_no (by omega)])
    unfold mWho
    by_cases q : zlt d n = true
    · rw [if_pos q]
      by_cases h0 : (mTw I2 n x y v z).1 = 0
      · rw [if_pos h0]; dsimp only; rw [zup_no (by omega)]
      · rw [if_neg h0]; exact htw
    · rw [if_neg q]
set_option maxRecDepth 100000 in
set_option maxHeartbeats 4000000 in
theorem s_undo {l : zL} {I : Nat → Nat → Int32} {J : Nat → Nat → Int64} {nw : Bool} (h : Rel I I) : zStep l mX8_undo mX9_undo [] I J nw := by
  obtain ⟨n, T, A, B, nx, kp, L, h⟩ := h
  have hRT := h.2.2.2.2.1.1
  have hn := hRT.1.1
  have ht := RT_town hRT
  have hWh := zRc_wh hRT.2.2
  have hRw : ∀ r, r < 8 → I 12 r = -1 ∨ ∃ q, q ≤ 40 ∧ I 12 r = nI q := fun r hr => (h.1 r hr).2.2.1
  have hnx := h.2.2.2.2.2.1.1
  have hkp := h.2.2.2.2.2.1.2.1
  have en1 := h.2.2.2.2.2.1.2.2.1
  have ek1 := h.2.2.2.2.2.1.2.2.2.1
  have hL := h.2.2.1.1
  have eL := h.2.2.1.2.1
  refine step_of (P := pUndo I nx kp) h (qX8_undo nx kp hnx hkp en1 ek1) ?_ (fun I2 => mUndo I2 kp) (fun I2 J2 nw2 g => ?_) (fun I2 g => ?_) (fun I2 kk jj ha => ?_)
  · intro kk jj ha
    unfold pUndo
    by_cases q : kp = 0
    · rw [if_pos q]
    · rw [if_neg q]; dsimp only; repeat (first | rw [zup_no (by omega)] | rw [zfill_no (by omega)] | rw [zcpy_no (by omega)] | rw [pKeep_ge hnx ha] | rw [ztown_ne (by omega)])
  · have gT := g.2.2.2.2.1.1
    have gt := RT_rt gT
    have ge := gt.2.1
    have gk := g.2.2.2.2.2.1.2.2.2.2.1
    have gs := fun i (hi : i < 4) => zRc_zst gT.2.2 hi (I2 90 0) (I2 90 1) (I2 90 (56 + i))
    have gw := fun i (hi : i < 4) (q : ¬ I2 90 (44 + i) = 0) => zRc_u gT.2.2 hn hi q
    exact zPM_e (qX9_undo kp gk hkp)
  · exact r_undo g
  · unfold mUndo
    repeat' split
    all_goals first
      | rfl
      | (dsimp only
         repeat (first | rw [zup_no (by omega)] | rw [zfill_no (by omega)] | rw [zcpy_no (by omega)] | rw [zrow_ne _ _ _ (by omega)] | rw [zrem_lt _ ha] | rw [pKeep_ge hnx ha] | rw [ztown_ne (by omega)] | rw [ztr_ge ha]))
set_option maxRecDepth 100000 in
set_option maxHeartbeats 4000000 in
theorem s_water {l : zL} {I : Nat → Nat → Int32} {J : Nat → Nat → Int64} {nw : Bool} (h : Rel I I) {x : Int32} : zStep l mX8_water mX9_water [.int x] I J nw := by
  obtain ⟨n, T, A, B, nx, kp, L, h⟩ := h
  have hRT := h.2.2.2.2.1.1
  have hn := hRT.1.1
  have ht := RT_town hRT
  have hWh := zRc_wh hRT.2.2
  have hRw : ∀ r, r < 8 → I 12 r = -1 ∨ ∃ q, q ≤ 40 ∧ I 12 r = nI q := fun r hr => (h.1 r hr).2.2.1
  have hnx := h.2.2.2.2.2.1.1
  have hkp := h.2.2.2.2.2.1.2.1
  have en1 := h.2.2.2.2.2.1.2.2.1
  have ek1 := h.2.2.2.2.2.1.2.2.2.1
  have hL := h.2.2.1.1
  have eL := h.2.2.1.2.1
  refine step_of (P := pWater I nx kp x) h (qX8_water nx kp hnx hkp en1 ek1) ?_ (fun I2 => mWater I2 kp x) (fun I2 J2 nw2 g => ?_) (fun I2 g => ?_) (fun I2 kk jj ha => ?_)
  · intro kk jj ha
    unfold pWater
    by_cases q : zlt x 4 = true
    · rw [if_pos q]
      by_cases h0 : I 22 (1 + x.toNatClampNeg) = 0
      · rw [if_pos h0]
      · rw [if_neg h0]; dsimp only; repeat (first | rw [zup_no (by omega)] | rw [zfill_no (by omega)] | rw [zcpy_no (by omega)] | rw [pKeep_ge hnx ha] | rw [ztown_ne (by omega)])
    · rw [if_neg q]
  · have gT := g.2.2.2.2.1.1
    have gt := RT_rt gT
    have ge := gt.2.1
    have gk := g.2.2.2.2.2.1.2.2.2.2.1
    have gs := fun i (hi : i < 4) => zRc_zst gT.2.2 hi (I2 90 0) (I2 90 1) (I2 90 (56 + i))
    have gw := fun i (hi : i < 4) (q : ¬ I2 90 (44 + i) = 0) => zRc_u gT.2.2 hn hi q
    exact zPM_e (qX9_water kp gk hkp)
  · exact r_water g x
  · unfold mWater
    repeat' split
    all_goals first
      | rfl
      | (dsimp only
         repeat (first | rw [zup_no (by omega)] | rw [zfill_no (by omega)] | rw [zcpy_no (by omega)] | rw [zrow_ne _ _ _ (by omega)] | rw [zrem_lt _ ha] | rw [pKeep_ge hnx ha] | rw [ztown_ne (by omega)] | rw [ztr_ge ha]))
set_option maxRecDepth 100000 in
set_option maxHeartbeats 4000000 in
theorem s_brew {l : zL} {I : Nat → Nat → Int32} {J : Nat → Nat → Int64} {nw : Bool} (h : Rel I I) {x m : Int32} : zStep l mX8_brew mX9_brew [.int x, .int m] I J nw := by
  obtain ⟨n, T, A, B, nx, kp, L, h⟩ := h
  have hRT := h.2.2.2.2.1.1
  have hn := hRT.1.1
  have ht := RT_town hRT
  have hWh := zRc_wh hRT.2.2
  have hRw : ∀ r, r < 8 → I 12 r = -1 ∨ ∃ q, q ≤ 40 ∧ I 12 r = nI q := fun r hr => (h.1 r hr).2.2.1
  have hnx := h.2.2.2.2.2.1.1
  have hkp := h.2.2.2.2.2.1.2.1
  have en1 := h.2.2.2.2.2.1.2.2.1
  have ek1 := h.2.2.2.2.2.1.2.2.2.1
  have hL := h.2.2.1.1
  have eL := h.2.2.1.2.1
  refine step_of (P := pBrew I n nx kp x m) h (qX8_brew n T A B ht nx kp hnx hkp en1 ek1) ?_ (fun I2 => mBrew I2 kp n x m) (fun I2 J2 nw2 g => ?_) (fun I2 g => ?_) (fun I2 kk jj ha => ?_)
  · intro kk jj ha
    unfold pBrew
    by_cases q : zlt x n = true ∧ zlt m 21 = true
    · rw [if_pos q]
      by_cases h0 : zleast I 22 = -1000000
      · rw [if_pos h0]
      · rw [if_neg h0]; dsimp only; repeat (first | rw [zup_no (by omega)] | rw [zfill_no (by omega)] | rw [zcpy_no (by omega)] | rw [pKeep_ge hnx ha] | rw [ztown_ne (by omega)])
    · rw [if_neg q]
  · have gT := g.2.2.2.2.1.1
    have gt := RT_rt gT
    have ge := gt.2.1
    have gk := g.2.2.2.2.2.1.2.2.2.2.1
    have gs := fun i (hi : i < 4) => zRc_zst gT.2.2 hi (I2 90 0) (I2 90 1) (I2 90 (56 + i))
    have gw := fun i (hi : i < 4) (q : ¬ I2 90 (44 + i) = 0) => zRc_u gT.2.2 hn hi q
    exact zPM_e (qX9_brew n hn ge kp gk hkp)
  · exact r_brew g x m
  · unfold mBrew
    repeat' split
    all_goals first
      | rfl
      | (dsimp only
         unfold zfil
         repeat (first | rw [zup_no (by omega)] | rw [zfill_no (by omega)] | rw [zcpy_no (by omega)] | rw [zrow_ne _ _ _ (by omega)] | rw [zrem_lt _ ha] | rw [pKeep_ge hnx ha] | rw [ztown_ne (by omega)] | rw [ztr_ge ha]))
set_option maxRecDepth 100000 in
set_option maxHeartbeats 4000000 in
theorem s_blend {l : zL} {I : Nat → Nat → Int32} {J : Nat → Nat → Int64} {nw : Bool} (h : Rel I I) {x y : Int32} : zStep l mX8_blend mX9_blend [.int x, .int y] I J nw := by
  obtain ⟨n, T, A, B, nx, kp, L, h⟩ := h
  have hRT := h.2.2.2.2.1.1
  have hn := hRT.1.1
  have ht := RT_town hRT
  have hWh := zRc_wh hRT.2.2
  have hRw : ∀ r, r < 8 → I 12 r = -1 ∨ ∃ q, q ≤ 40 ∧ I 12 r = nI q := fun r hr => (h.1 r hr).2.2.1
  have hnx := h.2.2.2.2.2.1.1
  have hkp := h.2.2.2.2.2.1.2.1
  have en1 := h.2.2.2.2.2.1.2.2.1
  have ek1 := h.2.2.2.2.2.1.2.2.2.1
  have hL := h.2.2.1.1
  have eL := h.2.2.1.2.1
  refine step_of (P := pBlend I nx kp x y) h (qX8_blend nx kp hnx hkp en1 ek1) ?_ (fun I2 => mBlend I2 kp x y) (fun I2 J2 nw2 g => ?_) (fun I2 g => ?_) (fun I2 kk jj ha => ?_)
  · intro kk jj ha
    unfold pBlend
    by_cases q : zlt x 4 = true ∧ zlt y 4 = true ∧ ¬ x = y
    · rw [if_pos q]
      by_cases h0 : I 22 (1 + x.toNatClampNeg) = 0 ∨ I 22 (1 + y.toNatClampNeg) = 0
      · rw [if_pos h0]
      · rw [if_neg h0]; dsimp only; repeat (first | rw [zup_no (by omega)] | rw [zfill_no (by omega)] | rw [zcpy_no (by omega)] | rw [pKeep_ge hnx ha] | rw [ztown_ne (by omega)])
    · rw [if_neg q]
  · have gT := g.2.2.2.2.1.1
    have gt := RT_rt gT
    have ge := gt.2.1
    have gk := g.2.2.2.2.2.1.2.2.2.2.1
    have gs := fun i (hi : i < 4) => zRc_zst gT.2.2 hi (I2 90 0) (I2 90 1) (I2 90 (56 + i))
    have gw := fun i (hi : i < 4) (q : ¬ I2 90 (44 + i) = 0) => zRc_u gT.2.2 hn hi q
    exact zPM_e (qX9_blend kp gk hkp)
  · exact r_blend g x y
  · unfold mBlend
    repeat' split
    all_goals first
      | rfl
      | (dsimp only
         unfold zBl
         repeat (first | rw [zup_no (by omega)] | rw [zfill_no (by omega)] | rw [zcpy_no (by omega)] | rw [zrow_ne _ _ _ (by omega)] | rw [zrem_lt _ ha] | rw [pKeep_ge hnx ha] | rw [ztown_ne (by omega)] | rw [ztr_ge ha]))
set_option maxRecDepth 100000 in
set_option maxHeartbeats 4000000 in
theorem s_tap {l : zL} {I : Nat → Nat → Int32} {J : Nat → Nat → Int64} {nw : Bool} (h : Rel I I) {x y : Int32} : zStep l mX8_tap mX9_tap [.int x, .int y] I J nw := by
  obtain ⟨n, T, A, B, nx, kp, L, h⟩ := h
  have hRT := h.2.2.2.2.1.1
  have hn := hRT.1.1
  have ht := RT_town hRT
  have hWh := zRc_wh hRT.2.2
  have hRw : ∀ r, r < 8 → I 12 r = -1 ∨ ∃ q, q ≤ 40 ∧ I 12 r = nI q := fun r hr => (h.1 r hr).2.2.1
  have hnx := h.2.2.2.2.2.1.1
  have hkp := h.2.2.2.2.2.1.2.1
  have en1 := h.2.2.2.2.2.1.2.2.1
  have ek1 := h.2.2.2.2.2.1.2.2.2.1
  have hL := h.2.2.1.1
  have eL := h.2.2.1.2.1
  refine step_of (P := pTap I n T A B nx kp x y) h (qX8_tap n T A B ht nx kp hnx hkp en1 ek1 hWh) ?_ (fun I2 => mTap I2 kp n T A B x y) (fun I2 J2 nw2 g => ?_) (fun I2 g => ?_) (fun I2 kk jj ha => ?_)
  · intro kk jj ha
    unfold pTap
    by_cases q : zlt x 4 = true ∧ zlt y n = true
    · rw [if_pos q]
      by_cases h0 : I 22 (1 + x.toNatClampNeg) = 0
      · rw [if_pos h0]
      · rw [if_neg h0]; dsimp only; repeat (first | rw [zup_no (by omega)] | rw [zfill_no (by omega)] | rw [zcpy_no (by omega)] | rw [pKeep_ge hnx ha] | rw [ztown_ne (by omega)])
    · rw [if_neg q]
  · have gT := g.2.2.2.2.1.1
    have gt := RT_rt gT
    have ge := gt.2.1
    have gk := g.2.2.2.2.2.1.2.2.2.2.1
    have gs := fun i (hi : i < 4) => zRc_zst gT.2.2 hi (I2 90 0) (I2 90 1) (I2 90 (56 + i))
    have gw := fun i (hi : i < 4) (q : ¬ I2 90 (44 + i) = 0) => zRc_u gT.2.2 hn hi q
    exact (qX9_tap n T A B gt gs gw kp gk hkp)
  · exact r_tap g x y
  · unfold mTap
    by_cases q : zlt x 4 = true ∧ zlt y n = true
    · rw [if_pos q]
      by_cases h0 : I2 90 (44 + x.toNatClampNeg) = 0
      · rw [if_pos h0]
      · rw [if_neg h0]; dsimp only; rw [zup_no (by omega), zup_no (by omega), zrem_lt _ ha]
    · rw [if_neg q]
set_option maxRecDepth 100000 in
set_option maxHeartbeats 4000000 in
theorem s_days {l : zL} {I : Nat → Nat → Int32} {J : Nat → Nat → Int64} {nw : Bool} (h : Rel I I) {x : Int32} : zStep l mX8_days mX9_days [.int x] I J nw := by
  obtain ⟨n, T, A, B, nx, kp, L, h⟩ := h
  have hRT := h.2.2.2.2.1.1
  have hn := hRT.1.1
  have ht := RT_town hRT
  have hWh := zRc_wh hRT.2.2
  have hRw : ∀ r, r < 8 → I 12 r = -1 ∨ ∃ q, q ≤ 40 ∧ I 12 r = nI q := fun r hr => (h.1 r hr).2.2.1
  have hnx := h.2.2.2.2.2.1.1
  have hkp := h.2.2.2.2.2.1.2.1
  have en1 := h.2.2.2.2.2.1.2.2.1
  have ek1 := h.2.2.2.2.2.1.2.2.2.1
  have hL := h.2.2.1.1
  have eL := h.2.2.1.2.1
  refine step_of (P := pDays I n nx kp x) h (qX8_days n T A B ht nx kp hnx hkp en1 ek1) ?_ (fun I2 => mDays I2 kp x) (fun I2 J2 nw2 g => ?_) (fun I2 g => ?_) (fun I2 kk jj ha => ?_)
  · intro kk jj ha
    unfold pDays
    by_cases q : 0 < n
    · rw [if_pos q]
      by_cases h0 : ¬ x < 1 ∧ x ≤ 24
      · rw [if_pos h0]
        by_cases h1 : I 22 0 + x ≤ 999
        · rw [if_pos h1]; exact zdys_ge I ha _
        · rw [if_neg h1]
      · rw [if_neg h0]
    · rw [if_neg q]
  · have gT := g.2.2.2.2.1.1
    have gt := RT_rt gT
    have ge := gt.2.1
    have gk := g.2.2.2.2.2.1.2.2.2.2.1
    have gs := fun i (hi : i < 4) => zRc_zst gT.2.2 hi (I2 90 0) (I2 90 1) (I2 90 (56 + i))
    have gw := fun i (hi : i < 4) (q : ¬ I2 90 (44 + i) = 0) => zRc_u gT.2.2 hn hi q
    exact zPM_e (qX9_days kp gk hkp)
  · exact r_days g x
  · unfold mDays
    by_cases q : I2 85 7 = 0
    · rw [if_pos q]
    · rw [if_neg q]
      by_cases h0 : ¬ x < 1 ∧ x ≤ 24
      · rw [if_pos h0]
        by_cases h1 : I2 90 5 + x ≤ 999
        · rw [if_pos h1]; exact mdys_lt I2 kp ha _
        · rw [if_neg h1]
      · rw [if_neg h0]
set_option maxRecDepth 100000 in
set_option maxHeartbeats 4000000 in
theorem s_image {l : zL} {I : Nat → Nat → Int32} {J : Nat → Nat → Int64} {nw : Bool} (h : Rel I I) {x : Int32} : zStep l mX8_image mX9_image [.int x] I J nw := by
  obtain ⟨n, T, A, B, nx, kp, L, h⟩ := h
  have hRT := h.2.2.2.2.1.1
  have hn := hRT.1.1
  have ht := RT_town hRT
  have hWh := zRc_wh hRT.2.2
  have hRw : ∀ r, r < 8 → I 12 r = -1 ∨ ∃ q, q ≤ 40 ∧ I 12 r = nI q := fun r hr => (h.1 r hr).2.2.1
  have hnx := h.2.2.2.2.2.1.1
  have hkp := h.2.2.2.2.2.1.2.1
  have en1 := h.2.2.2.2.2.1.2.2.1
  have ek1 := h.2.2.2.2.2.1.2.2.2.1
  have hL := h.2.2.1.1
  have eL := h.2.2.1.2.1
  refine step_of (P := pImg I n x) h (qX8_image n T A B ht) ?_ (fun I2 => mImg I2 x) (fun I2 J2 nw2 g => ?_) (fun I2 g => ?_) (fun I2 kk jj ha => ?_)
  · intro kk jj ha
    unfold pImg
    by_cases q : zlt x 2 = true
    · rw [if_pos q]
      by_cases h0 : 0 < n
      · rw [if_pos h0]
        by_cases h1 : x = 0
        · rw [if_pos h1]; dsimp only; repeat (first | rw [zup_no (by omega)] | rw [zfill_no (by omega)] | rw [zcpy_no (by omega)] | rw [pKeep_ge hnx ha] | rw [ztown_ne (by omega)])
        · rw [if_neg h1]; dsimp only; repeat (first | rw [zup_no (by omega)] | rw [zfill_no (by omega)] | rw [zcpy_no (by omega)] | rw [pKeep_ge hnx ha] | rw [ztown_ne (by omega)])
      · rw [if_neg h0]
    · rw [if_neg q]
  · have gT := g.2.2.2.2.1.1
    have gt := RT_rt gT
    have ge := gt.2.1
    have gk := g.2.2.2.2.2.1.2.2.2.2.1
    have gs := fun i (hi : i < 4) => zRc_zst gT.2.2 hi (I2 90 0) (I2 90 1) (I2 90 (56 + i))
    have gw := fun i (hi : i < 4) (q : ¬ I2 90 (44 + i) = 0) => zRc_u gT.2.2 hn hi q
    exact zPM_e (qX9_image)
  · exact r_img g x
  · unfold mImg
    repeat' split
    all_goals first
      | rfl
      | (dsimp only
         repeat (first | rw [zup_no (by omega)] | rw [zfill_no (by omega)] | rw [zcpy_no (by omega)] | rw [zrow_ne _ _ _ (by omega)] | rw [zrem_lt _ ha] | rw [pKeep_ge hnx ha] | rw [ztown_ne (by omega)] | rw [ztr_ge ha]))
set_option maxRecDepth 100000 in
set_option maxHeartbeats 4000000 in
theorem s_restore {l : zL} {I : Nat → Nat → Int32} {J : Nat → Nat → Int64} {nw : Bool} (h : Rel I I) {x : Int32} : zStep l mX8_restore mX9_restore [.int x] I J nw := by
  obtain ⟨n, T, A, B, nx, kp, L, h⟩ := h
  have hRT := h.2.2.2.2.1.1
  have hn := hRT.1.1
  have ht := RT_town hRT
  have hWh := zRc_wh hRT.2.2
  have hRw : ∀ r, r < 8 → I 12 r = -1 ∨ ∃ q, q ≤ 40 ∧ I 12 r = nI q := fun r hr => (h.1 r hr).2.2.1
  have hnx := h.2.2.2.2.2.1.1
  have hkp := h.2.2.2.2.2.1.2.1
  have en1 := h.2.2.2.2.2.1.2.2.1
  have ek1 := h.2.2.2.2.2.1.2.2.2.1
  have hL := h.2.2.1.1
  have eL := h.2.2.1.2.1
  refine step_of (P := pRes I x) h (qX8_restore) ?_ (fun I2 => mRes I2 x) (fun I2 J2 nw2 g => ?_) (fun I2 g => ?_) (fun I2 kk jj ha => ?_)
  · intro kk jj ha
    unfold pRes
    by_cases q : zlt x 2 = true
    · rw [if_pos q]
      by_cases h1 : x = 0
      · rw [if_pos h1, if_pos h1]
        by_cases h0 : I 32 3 = 0
        · rw [if_pos h0]
        · rw [if_neg h0]; dsimp only; repeat (first | rw [zup_no (by omega)] | rw [zfill_no (by omega)] | rw [zcpy_no (by omega)] | rw [pKeep_ge hnx ha] | rw [ztown_ne (by omega)])
      · rw [if_neg h1, if_neg h1]
        by_cases h0 : I 40 3 = 0
        · rw [if_pos h0]
        · rw [if_neg h0]; dsimp only; repeat (first | rw [zup_no (by omega)] | rw [zfill_no (by omega)] | rw [zcpy_no (by omega)] | rw [pKeep_ge hnx ha] | rw [ztown_ne (by omega)])
    · rw [if_neg q]
  · have gT := g.2.2.2.2.1.1
    have gt := RT_rt gT
    have ge := gt.2.1
    have gk := g.2.2.2.2.2.1.2.2.2.2.1
    have gs := fun i (hi : i < 4) => zRc_zst gT.2.2 hi (I2 90 0) (I2 90 1) (I2 90 (56 + i))
    have gw := fun i (hi : i < 4) (q : ¬ I2 90 (44 + i) = 0) => zRc_u gT.2.2 hn hi q
    exact zPM_e (qX9_restore)
  · exact r_res g x
  · unfold mRes
    repeat' split
    all_goals first
      | rfl
      | (dsimp only
         repeat (first | rw [zup_no (by omega)] | rw [zfill_no (by omega)] | rw [zcpy_no (by omega)] | rw [zrow_ne _ _ _ (by omega)] | rw [zrem_lt _ ha] | rw [pKeep_ge hnx ha] | rw [ztown_ne (by omega)] | rw [ztr_ge ha]))
set_option maxRecDepth 100000 in
set_option maxHeartbeats 4000000 in
theorem s_ask {l : zL} {I : Nat → Nat → Int32} {J : Nat → Nat → Int64} {nw : Bool} (h : Rel I I) {x w : Int32} : zStep l mX8_ask mX9_ask [.int x, .int w] I J nw := by
  obtain ⟨n, T, A, B, nx, kp, L, h⟩ := h
  have hRT := h.2.2.2.2.1.1
  have hn := hRT.1.1
  have ht := RT_town hRT
  have hWh := zRc_wh hRT.2.2
  have hRw : ∀ r, r < 8 → I 12 r = -1 ∨ ∃ q, q ≤ 40 ∧ I 12 r = nI q := fun r hr => (h.1 r hr).2.2.1
  have hnx := h.2.2.2.2.2.1.1
  have hkp := h.2.2.2.2.2.1.2.1
  have en1 := h.2.2.2.2.2.1.2.2.1
  have ek1 := h.2.2.2.2.2.1.2.2.2.1
  have hL := h.2.2.1.1
  have eL := h.2.2.1.2.1
  refine step_of (P := pAsk I n x w) h (qX8_ask n T A B ht) ?_ (fun I2 => mAsk I2 n x w) (fun I2 J2 nw2 g => ?_) (fun I2 g => ?_) (fun I2 kk jj ha => ?_)
  · intro kk jj ha
    unfold pAsk
    by_cases q : zlt x n = true ∧ zlt w 2 = true
    · rw [if_pos q]
      unfold pAskV
      repeat' split
      all_goals first
        | rfl
        | (dsimp only
           repeat (first | rw [ztr_ge ha] | rw [zup_no (by omega)]))
    · rw [if_neg q]
  · have gT := g.2.2.2.2.1.1
    have gt := RT_rt gT
    have ge := gt.2.1
    have gk := g.2.2.2.2.2.1.2.2.2.2.1
    have gs := fun i (hi : i < 4) => zRc_zst gT.2.2 hi (I2 90 0) (I2 90 1) (I2 90 (56 + i))
    have gw := fun i (hi : i < 4) (q : ¬ I2 90 (44 + i) = 0) => zRc_u gT.2.2 hn hi q
    exact zPM_e (qX9_ask n hn ge gt.2.2.2.2.2.2)
  · have e := r_ask g x w
    exact ⟨e.1, n, T, A, B, nx, kp, L, e.2⟩
  · unfold mAsk
    by_cases q : zlt x n = true ∧ zlt w 2 = true
    · rw [if_pos q]; dsimp only; rw [zleft_lt _ _ _ _ _ ha, zup_no (by omega)]
    · rw [if_neg q]
set_option maxRecDepth 100000 in
set_option maxHeartbeats 4000000 in
theorem s_silent {l : zL} {I : Nat → Nat → Int32} {J : Nat → Nat → Int64} {nw : Bool} (h : Rel I I) {x a b q w : Int32} : zP l mX8_silent [.ref 0, .int x, .int a, .int b, .int q, .int w] (hh I J nw) (fun r h1 => ∃ v I2 J2 nw2, r = some (.long v) ∧ h1 = (I2, J2, RF nw2, SH) ∧ zP l mX9_silent [.ref 85, .int x, .int a, .int b, .int q, .int w] (hh I2 J2 nw2) (fun r h2 => r = some (.long v) ∧ ∃ I3 J3 nw3, h2 = (I3, J3, RF nw3, SH) ∧ Rel I3 I3)) := by
  obtain ⟨n, T, A, B, nx, kp, L, h⟩ := h
  have hRT := h.2.2.2.2.1.1
  have hn := hRT.1.1
  have ht := RT_town hRT
  have hWh := zRc_wh hRT.2.2
  have hRw : ∀ r, r < 8 → I 12 r = -1 ∨ ∃ q, q ≤ 40 ∧ I 12 r = nI q := fun r hr => (h.1 r hr).2.2.1
  have hnx := h.2.2.2.2.2.1.1
  have hkp := h.2.2.2.2.2.1.2.1
  have en1 := h.2.2.2.2.2.1.2.2.1
  have ek1 := h.2.2.2.2.2.1.2.2.2.1
  have hL := h.2.2.1.1
  have eL := h.2.2.1.2.1
  refine zMet.mono (qX8_silent n T A B ht hWh) (fun r h1 z => ?_)
  obtain ⟨rfl, I2, J2, nw2, rfl, hE⟩ := z
  have g : Rel2 I I2 n T A B nx kp L := Rel2_congr h (fun _ _ => rfl) (fun a h1 h2 => hE a (by omega) (by omega)) (fun y _ => by rw [hE 85 (by omega) (by omega)])
  have gT := g.2.2.2.2.1.1
  refine ⟨_, I2, J2, nw2, rfl, rfl, zMet.mono (qX9_silent n T A B (RT_rt gT) (fun i hi => zRc_zst gT.2.2 hi (I2 90 0) (I2 90 1) (I2 90 (56 + i)))) (fun r h2 z => ?_)⟩
  obtain ⟨rfl, I3, rfl, hE3⟩ := z
  refine ⟨by rw [v_sln gT], I3, J2, nw2, rfl, n, T, A, B, nx, kp, L, Rel2_congr g (fun a ha => ?_) (fun a h1 h2 => ?_) (fun y hy => hE3 85 y (by omega))⟩
  · unfold zKC at ha
    funext b
    rw [hE3 a b (by omega), hE a (by omega) (by omega)]
  · funext b
    exact hE3 a b (by omega)
set_option maxRecDepth 100000 in
set_option maxHeartbeats 4000000 in
theorem s_town {l : zL} {I : Nat → Nat → Int32} {J : Nat → Nat → Int64} {nw : Bool} (h : Rel I I) : zStep l mX8_town mX9_town [] I J nw := by
  obtain ⟨n, T, A, B, nx, kp, L, h⟩ := h
  have hRT := h.2.2.2.2.1.1
  have hn := hRT.1.1
  have ht := RT_town hRT
  have hWh := zRc_wh hRT.2.2
  have hRw : ∀ r, r < 8 → I 12 r = -1 ∨ ∃ q, q ≤ 40 ∧ I 12 r = nI q := fun r hr => (h.1 r hr).2.2.1
  have hnx := h.2.2.2.2.2.1.1
  have hkp := h.2.2.2.2.2.1.2.1
  have en1 := h.2.2.2.2.2.1.2.2.1
  have ek1 := h.2.2.2.2.2.1.2.2.2.1
  have hL := h.2.2.1.1
  have eL := h.2.2.1.2.1
  have hTP := h.2.2.1
  have hbx : ∀ i, i < L → I 14 i = nI (I 14 i).toNatClampNeg ∧ (I 14 i).toNatClampNeg < 256 := fun i hi => by
    obtain ⟨e, q, hq, e2⟩ := hTP.2.2.2 i hi
    rw [e2, nI_clamp (by omega)]
    exact ⟨rfl, hq⟩
  have hT : zTc I (fun i => if i < L then (I 14 i).toNatClampNeg else 999) L := by
    refine ⟨hL, eL, fun i hi => ?_, fun i hi => ?_⟩
    · dsimp only; rw [if_pos hi]; exact hbx i hi
    · dsimp only; rw [if_neg (by omega)]
  refine zMet.mono (qX8_town hT) (fun r h1 z => ?_)
  obtain ⟨I2, rfl, t1, t2, t3, t4⟩ := z
  have hM2 : ∀ a b, 85 ≤ a → I2 a b = I a b := fun a b ha => t2 a b (by omega) (by omega) (by omega) (by omega)
  have hb2 : (∀ i, i < L → I2 89 i = nI ((fun i => if i < L then (I 14 i).toNatClampNeg else 999) i) ∧ (fun i => if i < L then (I 14 i).toNatClampNeg else 999) i < 256) ∧ ∀ i, L ≤ i → (fun i => if i < L then (I 14 i).toNatClampNeg else 999) i = 999 := by
    refine ⟨fun i hi => ?_, hT.2.2.2⟩
    dsimp only
    rw [if_pos hi, hM2 89 i (by omega), ← (hTP.2.2.2 i hi).1]
    exact hbx i hi
  have hm := qX9_town (l := l) (J := J) (nw := nw) hL (by rw [hM2 85 5 (by omega)]; exact hTP.2.2.1) hb2
  generalize zprs (fun i => if i < L then (I 14 i).toNatClampNeg else 999) = R at t2 t3 t4 hm
  by_cases ok : R.1 = 0
  · obtain ⟨rfl, u1, u2, n', T', hn', hP', hv', h22⟩ := t3 ok
    refine ⟨_, I2, J, nw, rfl, rfl, zMet.mono hm (fun r h2 z => ?_)⟩
    obtain ⟨I3, rfl, w1, w2, w3, w4⟩ := z
    obtain ⟨rfl, x1, x2, x3, x4⟩ := w3 ok
    refine ⟨rfl, I3, J, nw, rfl, ?_⟩
    have hC3 : ∀ a b, a < 85 → I3 a b = I2 a b := fun a b ha => w2 a b (by omega) (by omega) (by omega)
    have hM3 : ∀ a b, 86 ≤ a → a ≠ 90 → a ≠ 95 → I3 a b = I a b := fun a b h1 h2 h3 => by rw [w2 a b h3 (by omega) (by omega), hM2 a b (by omega)]
    obtain ⟨p1, p2, p3, p4, p5, p6, p7, p8, p9⟩ := hP'
    have hpk : zPk R.2.2 n' T' (fun k => (R.2.2 (24 + k)).toNatClampNeg) (fun k => (R.2.2 (34 + k)).toNatClampNeg) := by
      refine ⟨p1, p2, p3, p4, fun k hk => ?_, fun k hk => ?_, p5⟩
      · obtain ⟨q, hq, e⟩ := p6 k hk
        dsimp only
        rw [e, nI_clamp (by omega)]; exact ⟨rfl, hq⟩
      · obtain ⟨q, hq, e⟩ := p7 k hk
        dsimp only
        rw [e, nI_clamp (by omega)]; exact ⟨rfl, hq⟩
    have hrc : zRc n' (I3 22) (I3 90) := by
      have e22 : ∀ q, q < 19 → I3 22 q = 0 := fun q hq => by rw [hC3 22 q (by omega)]; exact h22 q hq
      have e90 : ∀ q, 44 ≤ q → q < 66 → I3 90 q = 0 := fun q h1 h2 => by rw [x1 q h2]; exact p9 q h1 h2
      refine ⟨by rw [e22 0 (by omega), x1 5 (by omega), p8], fun i hi => Or.inl ⟨e22 _ (by omega), e90 _ (by omega) (by omega), e90 _ (by omega) (by omega), e90 _ (by omega) (by omega), e90 _ (by omega) (by omega)⟩, fun d hd => ⟨by rw [e22 _ (by omega), e90 _ (by omega) (by omega)], 0, by omega, e22 _ (by omega)⟩⟩
    refine Rel2_new h (L' := 0) hn' ⟨zPk_cg hpk (fun b hb => x1 b hb), zTv_cg hv' (fun a h1 h2 => funext (fun b => hC3 a b (by omega))) (fun b hb => x1 b hb), hrc⟩ x3 ⟨by omega, by rw [hC3 13 1 (by omega)]; exact t1, w1, fun i hi => by omega⟩ ?_ (fun a h1 h2 => funext (fun b => ?_)) ?_ ?_ (fun a h1 h2 h3 => funext (fun b => hM3 a b h1 h2 h3)) ?_ x4 ?_
    · rw [hC3 13 3 (by omega), u1, x2, hM2 85 6 (by omega)]; exact h.2.2.2.1
    · rw [hC3 a b (by omega), t2 a b (by omega) (by omega) (by omega) (by omega)]
    · rw [hC3 48 1 (by omega), t2 48 1 (by omega) (by omega) (by omega) (by omega)]
    · rw [hC3 48 2 (by omega)]; exact u2
    · rw [w2 85 3 (by omega) (by omega) (by omega), hM2 85 3 (by omega)]
    · rw [w2 85 13 (by omega) (by omega) (by omega), hM2 85 13 (by omega)]
  · obtain ⟨rfl, u1⟩ := t4 ok
    refine ⟨_, I2, J, nw, rfl, rfl, zMet.mono hm (fun r h2 z => ?_)⟩
    obtain ⟨I3, rfl, w1, w2, w3, w4⟩ := z
    obtain ⟨rfl, x1, x2, x3⟩ := w4 ok
    refine ⟨rfl, I3, J, nw, rfl, n, T, A, B, nx, kp, 0, ?_⟩
    have hC3 : ∀ a b, a < 85 → I3 a b = I2 a b := fun a b ha => w2 a b (by omega) (by omega) (fun z => ok z.2)
    have hCC : ∀ a, a ≠ 13 → a < 23 ∨ (30 < a ∧ a < 85) → I3 a = I a := fun a h1 h2 => funext (fun b => by rw [hC3 a b (by omega), t2 a b (by omega) (by omega) (fun z => ok z.2.2) (fun z => ok z.2.2)])
    have hMM : ∀ a, 86 ≤ a → a ≠ 95 → I3 a = I a := fun a h1 h2 => funext (fun b => by rw [w2 a b h2 (by omega) (fun z => ok z.2), hM2 a b (by omega)])
    obtain ⟨r1, r2, r3, r4, r5, r6, r7, r8⟩ := h
    refine ⟨RW_congr r1 (fun a h1 h2 => hCC a (by omega) (by omega)) (fun a h1 h2 => hMM a (by omega) (by omega)), ?_, ⟨by omega, by rw [hC3 13 1 (by omega)]; exact t1, w1, fun i hi => by omega⟩, ?_, ⟨?_, ?_⟩, ?_, fun k hk => ⟨?_, ?_⟩, ?_⟩
    · rw [hCC 0 (by omega) (by omega), w2 85 3 (by omega) (by omega) (by omega), hM2 85 3 (by omega)]; exact r2
    · rw [hC3 13 3 (by omega), u1, x1]
    · exact RT_congr r5.1 (fun a h1 h2 => hCC a (by omega) (by omega)) (hMM 90 (by omega) (by omega))
    · rw [x2, hM2 85 7 (by omega)]; exact r5.2
    · exact AC_congr r6 (by rw [hCC 48 (by omega) (by omega)]) (by rw [hCC 48 (by omega) (by omega)]) (fun a h1 h2 => hCC a (by omega) (by omega)) (by rw [x3, hM2 85 9 (by omega)]) (hMM 91 (by omega) (by omega)) (fun b _ _ => by rw [hMM 90 (by omega) (by omega)])
    · exact IM_congr hk (r7 k hk).1 (fun a h1 h2 => hCC a (by omega) (by omega)) (hMM 92 (by omega) (by omega)) (hMM 93 (by omega) (by omega))
    · rw [hMM 93 (by omega) (by omega)]; exact (r7 k hk).2
    · exact TR_congr r8 (by rw [hCC 83 (by omega) (by omega)]) (hCC 84 (by omega) (by omega)) (by rw [w2 85 13 (by omega) (by omega) (by omega), hM2 85 13 (by omega)]) (hMM 94 (by omega) (by omega))
