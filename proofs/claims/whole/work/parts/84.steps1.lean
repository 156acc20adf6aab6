theorem zlt_clamp {x : Int32} {n : Nat} (hn : n < 2 ^ 31) (h : zlt x n = true) : x.toNatClampNeg < n := by
  obtain ⟨i, hi, rfl⟩ := zlt_nI hn h
  rw [nI_clamp (by omega)]; exact hi
theorem zrem_lt (M : Nat → Nat → Int32) {c a b : Nat} (h : a < 85) : zrem M c a b = M a b := by rw [zrem_ne M (by omega) (by omega)]
theorem zleft_lt : ∀ (ws : List Int32) (I : Nat → Nat → Int32) (c a b : Nat), a < 85 → zleft I c ws a b = I a b
  | [], _, _, _, _, _ => rfl
  | w :: ws, I, c, a, b, h => by rw [zleft, zleft_lt ws _ _ a b h, zup_no (by omega), zup_no (by omega)]
theorem mdys_lt (M : Nat → Nat → Int32) (c : Nat) {a b : Nat} (h : a < 85) : ∀ k, mdys M c k a b = M a b
  | 0 => rfl
  | k + 1 => by rw [mdys, zDg_ne _ (by omega), zrem_lt _ h, mdys_lt M c h k]
theorem zdys_ge (C : Nat → Nat → Int32) {nx kp a b : Nat} (h : 85 ≤ a) : ∀ k, zdys C nx kp k a b = C a b
  | 0 => rfl
  | k + 1 => by
    rw [zdys]
    unfold zday
    rw [if_neg (by omega), pKeep_ne _ (by omega) (by omega) (by omega), zdys_ge C h k]
theorem pKeep_ge {C : Nat → Nat → Int32} {nx kp a b : Nat} (hn : nx < 24) (h : 85 ≤ a) : pKeep C nx kp a b = C a b := by rw [pKeep_ne C hn (by omega) (by omega)]
theorem ztr_ge {C : Nat → Nat → Int32} {c a b : Nat} {w : Int32} (h : 85 ≤ a) : ztr C c w a b = C a b := by unfold ztr; rw [zup_no (by omega), zup_no (by omega)]
set_option maxRecDepth 100000 in
set_option maxHeartbeats 4000000 in
theorem qX8_ask {l : zL} {I : Nat → Nat → Int32} {J : Nat → Nat → Int64} {nw : Bool} (n T : Nat) (A B : Nat → Nat) (ht : zTown I n T A B) {x w : Int32} : zP l mX8_ask [.ref 0, .int x, .int w] (hh I J nw) (zPub (pAsk I n x w)) := by
  by_cases hb : zlt x n = true ∧ zlt w 2 = true
  · obtain ⟨d, hd, hx⟩ := zlt_nI (by have := ht.1; omega) hb.1
    obtain ⟨k, h1, h5, ek⟩ := ht.2.2.2.2.2.2 d hd
    have hk5 : k = 1 ∨ k = 2 ∨ k = 3 ∨ k = 4 ∨ k = 5 := by omega
    rcases hk5 with rfl | rfl | rfl | rfl | rfl
    · exact qX8_ask_1 n T A B ht d hd hx ek hb.2
    · exact qX8_ask_2 n T A B ht d hd hx ek hb.2
    · exact qX8_ask_3 n T A B ht d hd hx ek hb.2
    · exact qX8_ask_4 n T A B ht d hd hx ek hb.2
    · exact qX8_ask_5 n T A B ht d hd hx ek hb.2
  · exact qX8_ask_no n T A B ht hb
set_option maxRecDepth 100000 in
set_option maxHeartbeats 4000000 in
theorem s_kind {l : zL} {I : Nat → Nat → Int32} {J : Nat → Nat → Int64} {nw : Bool} (h : Rel I I) {x : Int32} : zStep l mX8_kind mX9_kind [.int x] I J nw := by
  obtain ⟨n, T, A, B, nx, kp, L, h⟩ := h
  have hRT := h.2.2.2.2.1.1
  have hn := hRT.1.1
  have ht := RT_town hRT
  have hWh := zRc_wh hRT.2.2
  have hRw : ∀ r, r < 8 → I 12 r = -1 ∨ ∃ q, q ≤ 40 ∧ I 12 r = nI q := fun r hr => (h.1 r hr).2.2.1
  have hnx := h.2.2.2.2.2.1.1
  have hkp := h.2.2.2.2.2.1.2.1
  have en1 := h.2.2.2.2.2.1.2.2.1
  have ek1 := h.2.2.2.2.2.1.2.2.2.1
  have hL := h.2.2.1.1
  have eL := h.2.2.1.2.1
  refine step_of (P := pKind I n x) h (qX8_kind n T A B ht) ?_ (fun I2 => (if zlt x n = true then I2 90 (6 + x.toNatClampNeg) else -1000001, I2)) (fun I2 J2 nw2 g => ?_) (fun I2 g => ?_) (fun I2 kk jj ha => ?_)
  · intro kk jj ha
    have e := (v_kind hRT x).2
    rw [show (pKind I n x).2 = I from e]
  · have gT := g.2.2.2.2.1.1
    have gt := RT_rt gT
    have ge := gt.2.1
    have gk := g.2.2.2.2.2.1.2.2.2.2.1
    have gs := fun i (hi : i < 4) => zRc_zst gT.2.2 hi (I2 90 0) (I2 90 1) (I2 90 (56 + i))
    have gw := fun i (hi : i < 4) (q : ¬ I2 90 (44 + i) = 0) => zRc_u gT.2.2 hn hi q
    exact zPM_e (qX9_kind n hn ge)
  · have gT := g.2.2.2.2.1.1
    have e := v_kind gT x
    refine ⟨e.1, ?_⟩
    rw [show (pKind I n x).2 = I from e.2]
    exact ⟨n, T, A, B, nx, kp, L, g⟩
  · rfl
set_option maxRecDepth 100000 in
set_option maxHeartbeats 4000000 in
theorem s_rumour {l : zL} {I : Nat → Nat → Int32} {J : Nat → Nat → Int64} {nw : Bool} (h : Rel I I) {x : Int32} : zStep l mX8_rumour mX9_rumour [.int x] I J nw := by
  obtain ⟨n, T, A, B, nx, kp, L, h⟩ := h
  have hRT := h.2.2.2.2.1.1
  have hn := hRT.1.1
  have ht := RT_town hRT
  have hWh := zRc_wh hRT.2.2
  have hRw : ∀ r, r < 8 → I 12 r = -1 ∨ ∃ q, q ≤ 40 ∧ I 12 r = nI q := fun r hr => (h.1 r hr).2.2.1
  have hnx := h.2.2.2.2.2.1.1
  have hkp := h.2.2.2.2.2.1.2.1
  have en1 := h.2.2.2.2.2.1.2.2.1
  have ek1 := h.2.2.2.2.2.1.2.2.2.1
  have hL := h.2.2.1.1
  have eL := h.2.2.1.2.1
  refine step_of (P := pRum I n x) h (qX8_rumour n T A B ht) ?_ (fun I2 => (if zlt x n = true then I2 90 (60 + x.toNatClampNeg) else -1000001, I2)) (fun I2 J2 nw2 g => ?_) (fun I2 g => ?_) (fun I2 kk jj ha => ?_)
  · intro kk jj ha
    have e := (v_rum hRT x).2
    rw [show (pRum I n x).2 = I from e]
  · have gT := g.2.2.2.2.1.1
    have gt := RT_rt gT
    have ge := gt.2.1
    have gk := g.2.2.2.2.2.1.2.2.2.2.1
    have gs := fun i (hi : i < 4) => zRc_zst gT.2.2 hi (I2 90 0) (I2 90 1) (I2 90 (56 + i))
    have gw := fun i (hi : i < 4) (q : ¬ I2 90 (44 + i) = 0) => zRc_u gT.2.2 hn hi q
    exact zPM_e (qX9_rumour n hn ge)
  · have gT := g.2.2.2.2.1.1
    have e := v_rum gT x
    refine ⟨e.1, ?_⟩
    rw [show (pRum I n x).2 = I from e.2]
    exact ⟨n, T, A, B, nx, kp, L, g⟩
  · rfl
set_option maxRecDepth 100000 in
set_option maxHeartbeats 4000000 in
theorem s_cask {l : zL} {I : Nat → Nat → Int32} {J : Nat → Nat → Int64} {nw : Bool} (h : Rel I I) {x w : Int32} : zStep l mX8_cask mX9_cask [.int x, .int w] I J nw := by
  obtain ⟨n, T, A, B, nx, kp, L, h⟩ := h
  have hRT := h.2.2.2.2.1.1
  have hn := hRT.1.1
  have ht := RT_town hRT
  have hWh := zRc_wh hRT.2.2
  have hRw : ∀ r, r < 8 → I 12 r = -1 ∨ ∃ q, q ≤ 40 ∧ I 12 r = nI q := fun r hr => (h.1 r hr).2.2.1
  have hnx := h.2.2.2.2.2.1.1
  have hkp := h.2.2.2.2.2.1.2.1
  have en1 := h.2.2.2.2.2.1.2.2.1
  have ek1 := h.2.2.2.2.2.1.2.2.2.1
  have hL := h.2.2.1.1
  have eL := h.2.2.1.2.1
  refine step_of (P := pCask I x w) h (qX8_cask) ?_ (fun I2 => (mCask I2 x w, I2)) (fun I2 J2 nw2 g => ?_) (fun I2 g => ?_) (fun I2 kk jj ha => ?_)
  · intro kk jj ha
    have e := (v_cask hRT x w).2
    rw [show (pCask I x w).2 = I from e]
  · have gT := g.2.2.2.2.1.1
    have gt := RT_rt gT
    have ge := gt.2.1
    have gk := g.2.2.2.2.2.1.2.2.2.2.1
    have gs := fun i (hi : i < 4) => zRc_zst gT.2.2 hi (I2 90 0) (I2 90 1) (I2 90 (56 + i))
    have gw := fun i (hi : i < 4) (q : ¬ I2 90 (44 + i) = 0) => zRc_u gT.2.2 hn hi q
    exact zPM_e (qX9_cask)
  · have gT := g.2.2.2.2.1.1
    have e := v_cask gT x w
    refine ⟨e.1, ?_⟩
    rw [show (pCask I x w).2 = I from e.2]
    exact ⟨n, T, A, B, nx, kp, L, g⟩
  · rfl
set_option maxRecDepth 100000 in
set_option maxHeartbeats 4000000 in
theorem s_drinker {l : zL} {I : Nat → Nat → Int32} {J : Nat → Nat → Int64} {nw : Bool} (h : Rel I I) {x w : Int32} : zStep l mX8_drinker mX9_drinker [.int x, .int w] I J nw := by
  obtain ⟨n, T, A, B, nx, kp, L, h⟩ := h
  have hRT := h.2.2.2.2.1.1
  have hn := hRT.1.1
  have ht := RT_town hRT
  have hWh := zRc_wh hRT.2.2
  have hRw : ∀ r, r < 8 → I 12 r = -1 ∨ ∃ q, q ≤ 40 ∧ I 12 r = nI q := fun r hr => (h.1 r hr).2.2.1
  have hnx := h.2.2.2.2.2.1.1
  have hkp := h.2.2.2.2.2.1.2.1
  have en1 := h.2.2.2.2.2.1.2.2.1
  have ek1 := h.2.2.2.2.2.1.2.2.2.1
  have hL := h.2.2.1.1
  have eL := h.2.2.1.2.1
  refine step_of (P := pDrk I n T x w) h (qX8_drinker n T A B ht) ?_ (fun I2 => (mDrk I2 n T x w, I2)) (fun I2 J2 nw2 g => ?_) (fun I2 g => ?_) (fun I2 kk jj ha => ?_)
  · intro kk jj ha
    have e := (v_drk hRT x w).2
    rw [show (pDrk I n T x w).2 = I from e]
  · have gT := g.2.2.2.2.1.1
    have gt := RT_rt gT
    have ge := gt.2.1
    have gk := g.2.2.2.2.2.1.2.2.2.2.1
    have gs := fun i (hi : i < 4) => zRc_zst gT.2.2 hi (I2 90 0) (I2 90 1) (I2 90 (56 + i))
    have gw := fun i (hi : i < 4) (q : ¬ I2 90 (44 + i) = 0) => zRc_u gT.2.2 hn hi q
    exact zPM_e (qX9_drinker n T hn ge gt.2.2.1 gt.2.2.2.1)
  · have gT := g.2.2.2.2.1.1
    have e := v_drk gT x w
    refine ⟨e.1, ?_⟩
    rw [show (pDrk I n T x w).2 = I from e.2]
    exact ⟨n, T, A, B, nx, kp, L, g⟩
  · rfl
set_option maxRecDepth 100000 in
set_option maxHeartbeats 4000000 in
theorem s_goesOff {l : zL} {I : Nat → Nat → Int32} {J : Nat → Nat → Int64} {nw : Bool} (h : Rel I I) {x w : Int32} : zStep l mX8_goesOff mX9_goesOff [.int x, .int w] I J nw := by
  obtain ⟨n, T, A, B, nx, kp, L, h⟩ := h
  have hRT := h.2.2.2.2.1.1
  have hn := hRT.1.1
  have ht := RT_town hRT
  have hWh := zRc_wh hRT.2.2
  have hRw : ∀ r, r < 8 → I 12 r = -1 ∨ ∃ q, q ≤ 40 ∧ I 12 r = nI q := fun r hr => (h.1 r hr).2.2.1
  have hnx := h.2.2.2.2.2.1.1
  have hkp := h.2.2.2.2.2.1.2.1
  have en1 := h.2.2.2.2.2.1.2.2.1
  have ek1 := h.2.2.2.2.2.1.2.2.2.1
  have hL := h.2.2.1.1
  have eL := h.2.2.1.2.1
  refine step_of (P := pGoes I x w) h (qX8_goesOff) ?_ (fun I2 => (mOff I2 x w, I2)) (fun I2 J2 nw2 g => ?_) (fun I2 g => ?_) (fun I2 kk jj ha => ?_)
  · intro kk jj ha
    have e := (v_off hRT x w).2
    rw [show (pGoes I x w).2 = I from e]
  · have gT := g.2.2.2.2.1.1
    have gt := RT_rt gT
    have ge := gt.2.1
    have gk := g.2.2.2.2.2.1.2.2.2.2.1
    have gs := fun i (hi : i < 4) => zRc_zst gT.2.2 hi (I2 90 0) (I2 90 1) (I2 90 (56 + i))
    have gw := fun i (hi : i < 4) (q : ¬ I2 90 (44 + i) = 0) => zRc_u gT.2.2 hn hi q
    exact zPM_e (qX9_goesOff)
  · have gT := g.2.2.2.2.1.1
    have e := v_off gT x w
    refine ⟨e.1, ?_⟩
    rw [show (pGoes I x w).2 = I from e.2]
    exact ⟨n, T, A, B, nx, kp, L, g⟩
  · rfl
set_option maxRecDepth 100000 in
set_option maxHeartbeats 4000000 in
theorem s_count {l : zL} {I : Nat → Nat → Int32} {J : Nat → Nat → Int64} {nw : Bool} (h : Rel I I) {w : Int32} : zStep l mX8_count mX9_count [.int w] I J nw := by
  obtain ⟨n, T, A, B, nx, kp, L, h⟩ := h
  have hRT := h.2.2.2.2.1.1
  have hn := hRT.1.1
  have ht := RT_town hRT
  have hWh := zRc_wh hRT.2.2
  have hRw : ∀ r, r < 8 → I 12 r = -1 ∨ ∃ q, q ≤ 40 ∧ I 12 r = nI q := fun r hr => (h.1 r hr).2.2.1
  have hnx := h.2.2.2.2.2.1.1
  have hkp := h.2.2.2.2.2.1.2.1
  have en1 := h.2.2.2.2.2.1.2.2.1
  have ek1 := h.2.2.2.2.2.1.2.2.2.1
  have hL := h.2.2.1.1
  have eL := h.2.2.1.2.1
  refine step_of (P := pCount I w) h (qX8_count) ?_ (fun I2 => (mCount I2 w, I2)) (fun I2 J2 nw2 g => ?_) (fun I2 g => ?_) (fun I2 kk jj ha => ?_)
  · intro kk jj ha
    have e := (v_count h w).2
    rw [show (pCount I w).2 = I from e]
  · have gT := g.2.2.2.2.1.1
    have gt := RT_rt gT
    have ge := gt.2.1
    have gk := g.2.2.2.2.2.1.2.2.2.2.1
    have gs := fun i (hi : i < 4) => zRc_zst gT.2.2 hi (I2 90 0) (I2 90 1) (I2 90 (56 + i))
    have gw := fun i (hi : i < 4) (q : ¬ I2 90 (44 + i) = 0) => zRc_u gT.2.2 hn hi q
    obtain ⟨zz, hzz⟩ : ∃ zz : Nat → Nat, ∀ k, k < 6 → zz k < 1024 ∧ I2 90 (60 + k) = nI (zz k) := by
      refine ⟨fun k => (I2 90 (60 + k)).toNatClampNeg, fun k hk => ?_⟩
      obtain ⟨e, z, hz, e2⟩ := gT.2.2.2.2 k hk
      dsimp only
      rw [← e, e2, nI_clamp (by omega)]
      exact ⟨by omega, rfl⟩
    exact zPM_e (qX9_count zz hzz)
  · have gT := g.2.2.2.2.1.1
    have e := v_count g w
    refine ⟨e.1, ?_⟩
    rw [show (pCount I w).2 = I from e.2]
    exact ⟨n, T, A, B, nx, kp, L, g⟩
  · rfl
set_option maxRecDepth 100000 in
set_option maxHeartbeats 4000000 in
theorem s_telling {l : zL} {I : Nat → Nat → Int32} {J : Nat → Nat → Int64} {nw : Bool} (h : Rel I I) {x s w : Int32} : zStep l mX8_telling mX9_telling [.int x, .int s, .int w] I J nw := by
  obtain ⟨n, T, A, B, nx, kp, L, h⟩ := h
  have hRT := h.2.2.2.2.1.1
  have hn := hRT.1.1
  have ht := RT_town hRT
  have hWh := zRc_wh hRT.2.2
  have hRw : ∀ r, r < 8 → I 12 r = -1 ∨ ∃ q, q ≤ 40 ∧ I 12 r = nI q := fun r hr => (h.1 r hr).2.2.1
  have hnx := h.2.2.2.2.2.1.1
  have hkp := h.2.2.2.2.2.1.2.1
  have en1 := h.2.2.2.2.2.1.2.2.1
  have ek1 := h.2.2.2.2.2.1.2.2.2.1
  have hL := h.2.2.1.1
  have eL := h.2.2.1.2.1
  refine step_of (P := pTell I n T A B x s w) h (qX8_telling n T A B ht hWh) ?_ (fun I2 => (mTell I2 n T A B x s w, I2)) (fun I2 J2 nw2 g => ?_) (fun I2 g => ?_) (fun I2 kk jj ha => ?_)
  · intro kk jj ha
    have e := (v_tell hRT x s w).2
    rw [show (pTell I n T A B x s w).2 = I from e]
  · have gT := g.2.2.2.2.1.1
    have gt := RT_rt gT
    have ge := gt.2.1
    have gk := g.2.2.2.2.2.1.2.2.2.2.1
    have gs := fun i (hi : i < 4) => zRc_zst gT.2.2 hi (I2 90 0) (I2 90 1) (I2 90 (56 + i))
    have gw := fun i (hi : i < 4) (q : ¬ I2 90 (44 + i) = 0) => zRc_u gT.2.2 hn hi q
    exact (qX9_telling n T A B gt gs)
  · have gT := g.2.2.2.2.1.1
    have e := v_tell gT x s w
    refine ⟨e.1, ?_⟩
    rw [show (pTell I n T A B x s w).2 = I from e.2]
    exact ⟨n, T, A, B, nx, kp, L, g⟩
  · rfl
set_option maxRecDepth 100000 in
set_option maxHeartbeats 4000000 in
theorem s_fewest {l : zL} {I : Nat → Nat → Int32} {J : Nat → Nat → Int64} {nw : Bool} (h : Rel I I) {x a b w : Int32} : zStep l mX8_fewest mX9_fewest [.int x, .int a, .int b, .int w] I J nw := by
  obtain ⟨n, T, A, B, nx, kp, L, h⟩ := h
  have hRT := h.2.2.2.2.1.1
  have hn := hRT.1.1
  have ht := RT_town hRT
  have hWh := zRc_wh hRT.2.2
  have hRw : ∀ r, r < 8 → I 12 r = -1 ∨ ∃ q, q ≤ 40 ∧ I 12 r = nI q := fun r hr => (h.1 r hr).2.2.1
  have hnx := h.2.2.2.2.2.1.1
  have hkp := h.2.2.2.2.2.1.2.1
  have en1 := h.2.2.2.2.2.1.2.2.1
  have ek1 := h.2.2.2.2.2.1.2.2.2.1
  have hL := h.2.2.1.1
  have eL := h.2.2.1.2.1
  refine step_of (P := pFew I n T A B x a b w) h (qX8_fewest n T A B ht hWh) ?_ (fun I2 => (mFew I2 n T A B x a b w, I2)) (fun I2 J2 nw2 g => ?_) (fun I2 g => ?_) (fun I2 kk jj ha => ?_)
  · intro kk jj ha
    have e := (v_few hRT x a b w).2
    rw [show (pFew I n T A B x a b w).2 = I from e]
  · have gT := g.2.2.2.2.1.1
    have gt := RT_rt gT
    have ge := gt.2.1
    have gk := g.2.2.2.2.2.1.2.2.2.2.1
    have gs := fun i (hi : i < 4) => zRc_zst gT.2.2 hi (I2 90 0) (I2 90 1) (I2 90 (56 + i))
    have gw := fun i (hi : i < 4) (q : ¬ I2 90 (44 + i) = 0) => zRc_u gT.2.2 hn hi q
    exact (qX9_fewest n T A B gt gs)
  · have gT := g.2.2.2.2.1.1
    have e := v_few gT x a b w
    refine ⟨e.1, ?_⟩
    rw [show (pFew I n T A B x a b w).2 = I from e.2]
    exact ⟨n, T, A, B, nx, kp, L, g⟩
  · rfl
set_option maxRecDepth 100000 in
set_option maxHeartbeats 4000000 in
theorem s_silence {l : zL} {I : Nat → Nat → Int32} {J : Nat → Nat → Int64} {nw : Bool} (h : Rel I I) {x a b w : Int32} : zStep l mX8_silence mX9_silence [.int x, .int a, .int b, .int w] I J nw := by
  obtain ⟨n, T, A, B, nx, kp, L, h⟩ := h
  have hRT := h.2.2.2.2.1.1
  have hn := hRT.1.1
  have ht := RT_town hRT
  have hWh := zRc_wh hRT.2.2
  have hRw : ∀ r, r < 8 → I 12 r = -1 ∨ ∃ q, q ≤ 40 ∧ I 12 r = nI q := fun r hr => (h.1 r hr).2.2.1
  have hnx := h.2.2.2.2.2.1.1
  have hkp := h.2.2.2.2.2.1.2.1
  have en1 := h.2.2.2.2.2.1.2.2.1
  have ek1 := h.2.2.2.2.2.1.2.2.2.1
  have hL := h.2.2.1.1
  have eL := h.2.2.1.2.1
  refine step_of (P := pSil I n T A B x a b w) h (qX8_silence n T A B ht hWh) ?_ (fun I2 => (mSil I2 n T A B x a b w, I2)) (fun I2 J2 nw2 g => ?_) (fun I2 g => ?_) (fun I2 kk jj ha => ?_)
  · intro kk jj ha
    have e := (v_sil hRT x a b w).2
    rw [show (pSil I n T A B x a b w).2 = I from e]
  · have gT := g.2.2.2.2.1.1
    have gt := RT_rt gT
    have ge := gt.2.1
    have gk := g.2.2.2.2.2.1.2.2.2.2.1
    have gs := fun i (hi : i < 4) => zRc_zst gT.2.2 hi (I2 90 0) (I2 90 1) (I2 90 (56 + i))
    have gw := fun i (hi : i < 4) (q : ¬ I2 90 (44 + i) = 0) => zRc_u gT.2.2 hn hi q
    exact (qX9_silence n T A B gt gs)
  · have gT := g.2.2.2.2.1.1
    have e := v_sil gT x a b w
    refine ⟨e.1, ?_⟩
    rw [show (pSil I n T A B x a b w).2 = I from e.2]
    exact ⟨n, T, A, B, nx, kp, L, g⟩
  · rfl
set_option maxRecDepth 100000 in
set_option maxHeartbeats 4000000 in
theorem s_best {l : zL} {I : Nat → Nat → Int32} {J : Nat → Nat → Int64} {nw : Bool} (h : Rel I I) {x w : Int32} : zStep l mX8_best mX9_best [.int x, .int w] I J nw := by
  obtain ⟨n, T, A, B, nx, kp, L, h⟩ := h
  have hRT := h.2.2.2.2.1.1
  have hn := hRT.1.1
  have ht := RT_town hRT
  have hWh := zRc_wh hRT.2.2
  have hRw : ∀ r, r < 8 → I 12 r = -1 ∨ ∃ q, q ≤ 40 ∧ I 12 r = nI q := fun r hr => (h.1 r hr).2.2.1
  have hnx := h.2.2.2.2.2.1.1
  have hkp := h.2.2.2.2.2.1.2.1
  have en1 := h.2.2.2.2.2.1.2.2.1
  have ek1 := h.2.2.2.2.2.1.2.2.2.1
  have hL := h.2.2.1.1
  have eL := h.2.2.1.2.1
  refine step_of (P := pBest I n T A B x w) h (qX8_best n T A B ht hWh) ?_ (fun I2 => (mBest I2 n T A B x w, I2)) (fun I2 J2 nw2 g => ?_) (fun I2 g => ?_) (fun I2 kk jj ha => ?_)
  · intro kk jj ha
    have e := (v_best hRT x w).2
    rw [show (pBest I n T A B x w).2 = I from e]
  · have gT := g.2.2.2.2.1.1
    have gt := RT_rt gT
    have ge := gt.2.1
    have gk := g.2.2.2.2.2.1.2.2.2.2.1
    have gs := fun i (hi : i < 4) => zRc_zst gT.2.2 hi (I2 90 0) (I2 90 1) (I2 90 (56 + i))
    have gw := fun i (hi : i < 4) (q : ¬ I2 90 (44 + i) = 0) => zRc_u gT.2.2 hn hi q
    exact (qX9_best n T A B gt gs)
  · have gT := g.2.2.2.2.1.1
    have e := v_best gT x w
    refine ⟨e.1, ?_⟩
    rw [show (pBest I n T A B x w).2 = I from e.2]
    exact ⟨n, T, A, B, nx, kp, L, g⟩
  · rfl
set_option maxRecDepth 100000 in
set_option maxHeartbeats 4000000 in
theorem s_blended {l : zL} {I : Nat → Nat → Int32} {J : Nat → Nat → Int64} {nw : Bool} (h : Rel I I) {x y d : Int32} : zStep l mX8_blended mX9_blended [.int x, .int y, .int d] I J nw := by
  obtain ⟨n, T, A, B, nx, kp, L, h⟩ := h
  have hRT := h.2.2.2.2.1.1
  have hn := hRT.1.1
  have ht := RT_town hRT
  have hWh := zRc_wh hRT.2.2
  have hRw : ∀ r, r < 8 → I 12 r = -1 ∨ ∃ q, q ≤ 40 ∧ I 12 r = nI q := fun r hr => (h.1 r hr).2.2.1
  have hnx := h.2.2.2.2.2.1.1
  have hkp := h.2.2.2.2.2.1.2.1
  have en1 := h.2.2.2.2.2.1.2.2.1
  have ek1 := h.2.2.2.2.2.1.2.2.2.1
  have hL := h.2.2.1.1
  have eL := h.2.2.1.2.1
  refine step_of (P := pBld I n T A B x y d) h (qX8_blended n T A B ht hWh) ?_ (fun I2 => (mBlended I2 n T A B x y d, I2)) (fun I2 J2 nw2 g => ?_) (fun I2 g => ?_) (fun I2 kk jj ha => ?_)
  · intro kk jj ha
    have e := (v_bld hRT x y d).2
    rw [show (pBld I n T A B x y d).2 = I from e]
  · have gT := g.2.2.2.2.1.1
    have gt := RT_rt gT
    have ge := gt.2.1
    have gk := g.2.2.2.2.2.1.2.2.2.2.1
    have gs := fun i (hi : i < 4) => zRc_zst gT.2.2 hi (I2 90 0) (I2 90 1) (I2 90 (56 + i))
    have gw := fun i (hi : i < 4) (q : ¬ I2 90 (44 + i) = 0) => zRc_u gT.2.2 hn hi q
    exact (qX9_blended n T A B gt (mBl2_zst gT))
  · have gT := g.2.2.2.2.1.1
    have e := v_bld gT x y d
    refine ⟨e.1, ?_⟩
    rw [show (pBld I n T A B x y d).2 = I from e.2]
    exact ⟨n, T, A, B, nx, kp, L, g⟩
  · rfl
set_option maxRecDepth 100000 in
set_option maxHeartbeats 4000000 in
theorem s_drawn {l : zL} {I : Nat → Nat → Int32} {J : Nat → Nat → Int64} {nw : Bool} (h : Rel I I) {m x w : Int32} : zStep l mX8_drawn mX9_drawn [.int m, .int x, .int w] I J nw := by
  obtain ⟨n, T, A, B, nx, kp, L, h⟩ := h
  have hRT := h.2.2.2.2.1.1
  have hn := hRT.1.1
  have ht := RT_town hRT
  have hWh := zRc_wh hRT.2.2
  have hRw : ∀ r, r < 8 → I 12 r = -1 ∨ ∃ q, q ≤ 40 ∧ I 12 r = nI q := fun r hr => (h.1 r hr).2.2.1
  have hnx := h.2.2.2.2.2.1.1
  have hkp := h.2.2.2.2.2.1.2.1
  have en1 := h.2.2.2.2.2.1.2.2.1
  have ek1 := h.2.2.2.2.2.1.2.2.2.1
  have hL := h.2.2.1.1
  have eL := h.2.2.1.2.1
  refine step_of (P := pDrw I n T A B m x w) h (qX8_drawn n T A B ht hWh) ?_ (fun I2 => (mDrw I2 n T A B m x w, I2)) (fun I2 J2 nw2 g => ?_) (fun I2 g => ?_) (fun I2 kk jj ha => ?_)
  · intro kk jj ha
    have e := (v_drw hRT h.2.2.2.2.1.2 m x w).2
    rw [show (pDrw I n T A B m x w).2 = I from e]
  · have gT := g.2.2.2.2.1.1
    have gt := RT_rt gT
    have ge := gt.2.1
    have gk := g.2.2.2.2.2.1.2.2.2.2.1
    have gs := fun i (hi : i < 4) => zRc_zst gT.2.2 hi (I2 90 0) (I2 90 1) (I2 90 (56 + i))
    have gw := fun i (hi : i < 4) (q : ¬ I2 90 (44 + i) = 0) => zRc_u gT.2.2 hn hi q
    have hV : zWv I2 (I2 90) := ⟨fun _ _ _ => rfl, fun _ _ _ => rfl, fun i hi => zRc_malt gT.2.2 hi, fun k hk => by
      obtain ⟨e, z, hz, e2⟩ := gT.2.2.2.2 k hk
      exact ⟨z, hz, by rw [← e]; exact e2⟩⟩
    exact (qX9_drawn n T A B gt (fun q => by
      have g7 := g.2.2.2.2.1.2
      by_cases z : 0 < n
      · exact z
      · rw [g7, decide_eq_false z] at q; exact absurd rfl q) gw hV)
  · have gT := g.2.2.2.2.1.1
    have e := v_drw gT g.2.2.2.2.1.2 m x w
    refine ⟨e.1, ?_⟩
    rw [show (pDrw I n T A B m x w).2 = I from e.2]
    exact ⟨n, T, A, B, nx, kp, L, g⟩
  · rfl
set_option maxRecDepth 100000 in
set_option maxHeartbeats 4000000 in
theorem s_fault {l : zL} {I : Nat → Nat → Int32} {J : Nat → Nat → Int64} {nw : Bool} (h : Rel I I) : zStep l mX8_fault mX9_fault [] I J nw := by
  obtain ⟨n, T, A, B, nx, kp, L, h⟩ := h
  have hRT := h.2.2.2.2.1.1
  have hn := hRT.1.1
  have ht := RT_town hRT
  have hWh := zRc_wh hRT.2.2
  have hRw : ∀ r, r < 8 → I 12 r = -1 ∨ ∃ q, q ≤ 40 ∧ I 12 r = nI q := fun r hr => (h.1 r hr).2.2.1
  have hnx := h.2.2.2.2.2.1.1
  have hkp := h.2.2.2.2.2.1.2.1
  have en1 := h.2.2.2.2.2.1.2.2.1
  have ek1 := h.2.2.2.2.2.1.2.2.2.1
  have hL := h.2.2.1.1
  have eL := h.2.2.1.2.1
  exact step_of (P := (I 13 3, I)) h qX8_fault (fun a b ha => rfl) (fun I2 => (I2 85 6, I2)) (fun I2 J2 nw2 g => zPM_e qX9_fault) (fun I2 g => ⟨g.2.2.2.1, n, T, A, B, nx, kp, L, g⟩) (fun I2 a b ha => rfl)
set_option maxRecDepth 100000 in
set_option maxHeartbeats 4000000 in
theorem s_status {l : zL} {I : Nat → Nat → Int32} {J : Nat → Nat → Int64} {nw : Bool} (h : Rel I I) : zStep l mX8_status mX9_status [] I J nw := by
  obtain ⟨n, T, A, B, nx, kp, L, h⟩ := h
  have hRT := h.2.2.2.2.1.1
  have hn := hRT.1.1
  have ht := RT_town hRT
  have hWh := zRc_wh hRT.2.2
  have hRw : ∀ r, r < 8 → I 12 r = -1 ∨ ∃ q, q ≤ 40 ∧ I 12 r = nI q := fun r hr => (h.1 r hr).2.2.1
  have hnx := h.2.2.2.2.2.1.1
  have hkp := h.2.2.2.2.2.1.2.1
  have en1 := h.2.2.2.2.2.1.2.2.1
  have ek1 := h.2.2.2.2.2.1.2.2.2.1
  have hL := h.2.2.1.1
  have eL := h.2.2.1.2.1
  exact step_of (P := (I 0 9, I)) h qX8_status (fun a b ha => rfl) (fun I2 => (I2 85 3, I2)) (fun I2 J2 nw2 g => zPM_e qX9_status) (fun I2 g => ⟨g.2.1, n, T, A, B, nx, kp, L, g⟩) (fun I2 a b ha => rfl)
set_option maxRecDepth 100000 in
set_option maxHeartbeats 4000000 in
theorem s_trace {l : zL} {I : Nat → Nat → Int32} {J : Nat → Nat → Int64} {nw : Bool} (h : Rel I I) {x : Int32} : zStep l mX8_trace mX9_trace [.int x] I J nw := by
  obtain ⟨n, T, A, B, nx, kp, L, h⟩ := h
  have hRT := h.2.2.2.2.1.1
  have hn := hRT.1.1
  have ht := RT_town hRT
  have hWh := zRc_wh hRT.2.2
  have hRw : ∀ r, r < 8 → I 12 r = -1 ∨ ∃ q, q ≤ 40 ∧ I 12 r = nI q := fun r hr => (h.1 r hr).2.2.1
  have hnx := h.2.2.2.2.2.1.1
  have hkp := h.2.2.2.2.2.1.2.1
  have en1 := h.2.2.2.2.2.1.2.2.1
  have ek1 := h.2.2.2.2.2.1.2.2.2.1
  have hL := h.2.2.1.1
  have eL := h.2.2.1.2.1
  obtain ⟨c, hc, e1, e2, e3⟩ := h.2.2.2.2.2.2.2
  refine step_of (P := (if zlt x c = true then I 84 x.toNatClampNeg else -1000000, I)) h (qX8_trace c hc e1) (fun a b ha => rfl) (fun I2 => (if zlt x c = true then I2 94 x.toNatClampNeg else -1000000, I2)) (fun I2 J2 nw2 g => ?_) (fun I2 g => ⟨?_, n, T, A, B, nx, kp, L, g⟩) (fun I2 a b ha => rfl)
  · obtain ⟨c2, hc2, f1, f2, f3⟩ := g.2.2.2.2.2.2.2
    have : c = c2 := (nI_eq (by omega) (by omega)).mp (e1.symm.trans f1)
    subst this
    exact zPM_e (qX9_trace c f2 hc)
  · obtain ⟨c2, hc2, f1, f2, f3⟩ := g.2.2.2.2.2.2.2
    have : c = c2 := (nI_eq (by omega) (by omega)).mp (e1.symm.trans f1)
    subst this
    by_cases q : zlt x c = true
    · rw [if_pos q, if_pos q]
      exact f3 _ (zlt_clamp (by omega) q)
    · rw [if_neg q, if_neg q]
