-- ===== cells being made, one behind the other, up to the 100 of SH =====
theorem zarr_congr {cA : ClassId} {n : Nat} {f g : Nat → Value} (h : ∀ j, j < n → f j = g j) : arrV cA n f = arrV cA n g := by
  unfold arrV
  have e : (fun j : Fin n => f j.val) = fun j : Fin n => g j.val := funext fun j => h j.val j.isLt
  rw [e]
theorem zsl_app (a b : List zSh) : zsl (a ++ b) = zsl a + zsl b := by
  unfold zsl
  rw [List.map_append, List.sum_append]
theorem zsl_rep (w v : Nat) : zsl (List.replicate w (10, v)) = w * v := by
  unfold zsl
  rw [List.map_replicate, List.sum_replicate_nat]
  rfl
/-- the references that a table made in one brings -/
def zmr (r : Nat → Nat → Option Nat) (k w : Nat) : Nat → Nat → Option Nat := fun a b => if a = k then (if b < w then some (k + 1 + b) else none) else r a b
section ZB
variable {l : zL} {M : zMd} {N S pc : Nat} {L st : List Value} {Q : Option Value → zH → Prop} {I : Nat → Nat → Int32} {J : Nat → Nat → Int64} {r : Nat → Nat → Option Nat} {sh : List zSh}
set_option maxHeartbeats 1000000 in
theorem z_multi {idx w v : Nat} {n k : Int32} (hd : decode M.2.1 pc = .ok (.multianewarray idx 2, 4)) (hov : Cond.arrayOver (.array .int) ∈ zTs) (har : Cond.arrayClass .int ∈ zTs) (hlk : Cond.classLink M.1.cls idx "[[I" ∈ zTs) (hn : ¬ n < 0) (hk : ¬ k < 0) (hw : n.toNatClampNeg = w) (hv : k.toNatClampNeg = v) (hw2 : w ≤ 10000) (hv2 : v ≤ 10000)
    (hz : ∀ a b, sh.length ≤ a → I a b = 0) (hb : sh.length + (1 + w) ≤ N) (hsb : zsl sh + (w + w * v) ≤ S)
    (kk : zW l M N S (pc + 4) L (.ref sh.length :: st) (I, J, zmr r sh.length w, sh ++ ((14, w) :: List.replicate w (10, v))) Q) : zW l M N S pc L (.int k :: .int n :: st) (I, J, r, sh) Q := by
  intro p e s m args below meth c E n0 z0 H locs cells slots ls R Z C A hl hR K
  have hts := zTb_arg C.2.2.2.2.2.2.1 args
  have a3 : cells + n0 = sh.length := A.2.2.1
  have a4 : slots + z0 = zsl sh := A.2.2.2.1
  have a7 := A.2.2.2.2.2.2
  refine W.sized (fun hsz => ?_)
  have hzz := C.2.2.2.2.2.2.2.2.1
  have hH : H.size = E.2.2.1 + sh.length := zsize hzz A hsz
  have hK := C.2.2.2.2.2.2.2.1
  subst hw; subst hv
  refine zg_W C.1 C.2.1 C.2.2.2.2.2.1 (hts _ hlk) (hts _ hov) (hts _ har) hd hn hk hw2 hv2 (by omega) (by omega) (fun cA cB H1 ps f1 f2 hps h1 h2 h3 h4 => ?_)
  generalize n.toNatClampNeg = w at *
  generalize k.toNatClampNeg = v at *
  have eA : cA = E.2.1 4 := Option.some.inj (f1.symm.trans (hK.2 4 _ rfl).2)
  have eB : cB = E.2.1 0 := Option.some.inj (f2.symm.trans (hK.2 0 _ rfl).2)
  subst eA; subst eB
  have eq : zad E sh.length = H.size := by rw [zad_lo (by omega), hH]
  have q := kk p e s m args below meth c E n0 z0 H1 (locs ++ ps) (cells + 1 + w) (slots + w + w * v) ls R Z C ?_ hl hR K
  · rw [List.map_cons, show ze E (.ref sh.length) = .ref (zad E sh.length) from rfl, eq] at q
    exact q
  · have hlen : (sh ++ ((14, w) :: List.replicate w (10, v)) : List zSh).length = sh.length + (1 + w) := by rw [List.length_append, List.length_cons, List.length_replicate]; omega
    have hsl : zsl (sh ++ ((14, w) :: List.replicate w (10, v))) = zsl sh + (w + w * v) := by
      rw [zsl_app, show ((14, w) :: List.replicate w (10, v) : List zSh) = [(14, w)] ++ List.replicate w (10, v) from rfl, zsl_app, zsl_rep]
      rfl
    refine ⟨?_, ⟨Nat.le_trans A.2.1.1 (by omega), fun q g1 g2 => ?_, fun x hx => ?_⟩, by rw [hlen]; omega, by rw [hsl]; omega, by rw [hlen]; exact hb, by rw [hsl]; exact hsb, a7⟩
    · intro i q hi
      have hil := (List.getElem?_eq_some_iff.mp hi).1
      rw [zws_len] at hil
      have hil2 : i < sh.length + (1 + w) := by rw [← hlen]; exact hil
      rw [zws_get] at hi
      by_cases c1 : i < sh.length
      · have e1 : (sh ++ ((14, w) :: List.replicate w (10, v)))[i]? = sh[i]? := List.getElem?_append_left c1
        rw [show ((I, J, zmr r sh.length w, sh ++ ((14, w) :: List.replicate w (10, v))) : zH).2.2.2[i]? = sh[i]? from e1] at hi
        have e2 : zmr r sh.length w i = r i := by
          funext b
          unfold zmr
          rw [if_neg (by omega)]
        rw [show ((I, J, zmr r sh.length w, sh ++ ((14, w) :: List.replicate w (10, v))) : zH).2.2.1 i = r i from e2] at hi
        have hq := A.1 i q (by rw [zws_get]; exact hi)
        exact hq.kept (h3 _ hq.lt)
      · by_cases c2 : i = sh.length
        · subst c2
          have e1 : (sh ++ ((14, w) :: List.replicate w (10, v)))[sh.length]? = some (14, w) := by rw [List.getElem?_append_right (Nat.le_refl _), Nat.sub_self]; rfl
          rw [show ((I, J, zmr r sh.length w, sh ++ ((14, w) :: List.replicate w (10, v))) : zH).2.2.2[sh.length]? = some (14, w) from e1] at hi
          cases hi
          show H1[zad E sh.length]? = some (arrV (E.2.1 4) w (fun j => va_rf (zrf E (zmr r sh.length w sh.length) j)))
          rw [eq, h2]
          refine congrArg some (zarr_congr (fun j hj => ?_))
          unfold zgA zrf zmr
          rw [if_pos hj, if_pos rfl, if_pos hj]
          show Value.ref (H.size + 1 + j) = Value.ref (zad E (sh.length + 1 + j))
          rw [zad_lo (by omega), show E.2.2.1 + (sh.length + 1 + j) = H.size + 1 + j by omega]
        · obtain ⟨t, rfl⟩ : ∃ t, i = sh.length + 1 + t := ⟨i - (sh.length + 1), by omega⟩
          have ht : t < w := by omega
          have e1 : (sh ++ ((14, w) :: List.replicate w (10, v)))[sh.length + 1 + t]? = some (10, v) := by
            rw [List.getElem?_append_right (by omega), show sh.length + 1 + t - sh.length = t + 1 by omega, List.getElem?_cons_succ, List.getElem?_replicate, if_pos ht]
          rw [show ((I, J, zmr r sh.length w, sh ++ ((14, w) :: List.replicate w (10, v))) : zH).2.2.2[sh.length + 1 + t]? = some (10, v) from e1] at hi
          cases hi
          show H1[zad E (sh.length + 1 + t)]? = some (arrV (E.2.1 0) v (fun j => .int (I (sh.length + 1 + t) j)))
          rw [zad_lo (by omega), show E.2.2.1 + (sh.length + 1 + t) = H.size + 1 + t by omega, h4 t ht]
          refine congrArg some (zarr_congr (fun j hj => ?_))
          rw [hz _ _ (by omega)]
    · exact (h3 q (Nat.lt_of_lt_of_le g1 A.2.1.1)).trans (A.2.1.2.1 q g1 g2)
    · rcases List.mem_append.mp hx with hx | hx
      · exact A.2.1.2.2 x hx
      · rw [hps x hx]
        unfold zA
        omega
end ZB
/-- no references from cell n on; only zeros -/
def zF (n : Nat) (r : Nat → Nat → Option Nat) : Prop := ∀ a b, n ≤ a → r a b = none
def zG (n : Nat) (I : Nat → Nat → Int32) : Prop := ∀ a b, n ≤ a → I a b = 0
theorem zF_le {n m : Nat} {r : Nat → Nat → Option Nat} (h : zF n r) (hm : n ≤ m) : zF m r := fun a b ha => h a b (Nat.le_trans hm ha)
theorem zG_le {n m : Nat} {I : Nat → Nat → Int32} (h : zG n I) (hm : n ≤ m) : zG m I := fun a b ha => h a b (Nat.le_trans hm ha)
theorem zF_up {n k j : Nat} {v : Option Nat} {r : Nat → Nat → Option Nat} (h : zF n r) (hk : k < n) : zF n (zupR r k j v) := fun a b ha => by
  unfold zupR
  rw [if_neg (by omega)]
  exact h a b ha
theorem zG_up {n k j : Nat} {v : Int32} {I : Nat → Nat → Int32} (h : zG n I) (hk : k < n) : zG n (zup I k j v) := fun a b ha => by
  unfold zup
  rw [if_neg (by omega)]
  exact h a b ha
theorem zF_mr {n k w : Nat} {r : Nat → Nat → Option Nat} (h : zF n r) (hk : k < n) : zF n (zmr r k w) := fun a b ha => by
  unfold zmr
  rw [if_neg (by omega)]
  exact h a b ha
/-- what the tables say of a class that can be made -/
def zNw (ci : Nat) (nm : String) : Prop := ∃ q : vw_C, vwCl[ci]? = some q ∧ q.1 = nm ∧ Cond.instantiable q.1 q.2.2 ∈ zTs ∧ Cond.initialized q.1 ∈ zTs ∧ ((zft ci).length = q.2.2 ∧ ∀ j, j < q.2.2 → defaultValue (zty ci j) = if (zft ci).getD j false = true then .null else .int 0)
theorem nX0 : zNw 0 "RumourBrew$Acts" := ⟨_, rfl, rfl, (zmem 195 (by decide +kernel) (by decide +kernel)), kX0_init.2.1, rfl, by decide +kernel⟩
theorem nX1 : zNw 1 "RumourBrew$Asking" := ⟨_, rfl, rfl, (zmem 277 (by decide +kernel) (by decide +kernel)), kX1_init.2.1, rfl, by decide +kernel⟩
theorem nX2 : zNw 2 "RumourBrew$Cellar" := ⟨_, rfl, rfl, (zmem 121 (by decide +kernel) (by decide +kernel)), kX2_init.2.1, rfl, by decide +kernel⟩
theorem nX3 : zNw 3 "RumourBrew$Foretelling" := ⟨_, rfl, rfl, (zmem 255 (by decide +kernel) (by decide +kernel)), kX3_init.2.1, rfl, by decide +kernel⟩
theorem nX4 : zNw 4 "RumourBrew$Reader" := ⟨_, rfl, rfl, (zmem 93 (by decide +kernel) (by decide +kernel)), kX4_init.2.1, rfl, by decide +kernel⟩
theorem nX5 : zNw 5 "RumourBrew$Rows" := ⟨_, rfl, rfl, (zmem 72 (by decide +kernel) (by decide +kernel)), kX5_init.2.1, rfl, by decide +kernel⟩
theorem nX6 : zNw 6 "RumourBrew$Telling" := ⟨_, rfl, rfl, (zmem 213 (by decide +kernel) (by decide +kernel)), kX6_init.2.1, rfl, by decide +kernel⟩
theorem nX7 : zNw 7 "RumourBrew$Town" := ⟨_, rfl, rfl, (zmem 115 (by decide +kernel) (by decide +kernel)), kX7_init.2.1, rfl, by decide +kernel⟩
theorem nX8 : zNw 8 "RumourBrew" := ⟨_, rfl, rfl, (zmem 64 (by decide +kernel) (by decide +kernel)), kX8_init.2.1, rfl, by decide +kernel⟩
theorem nX9 : zNw 9 "RumourBrewModel" := ⟨_, rfl, rfl, (zmem 893 (by decide +kernel) (by decide +kernel)), kX9_init.2.1, rfl, by decide +kernel⟩
theorem w_ai : Cond.arrayClass .int ∈ zTs := (zmem 91 (by decide +kernel) (by decide +kernel))
theorem w_aj : Cond.arrayClass .long ∈ zTs := (zmem 275 (by decide +kernel) (by decide +kernel))
theorem w_az : Cond.arrayClass .boolean ∈ zTs := (zmem 977 (by decide +kernel) (by decide +kernel))
theorem w_aT : Cond.arrayOver (.object "RumourBrew$Town") ∈ zTs := (zmem 193 (by decide +kernel) (by decide +kernel))
theorem w_aa : Cond.arrayOver (.array .int) ∈ zTs := (zmem 78 (by decide +kernel) (by decide +kernel))
section ZX
variable {l : zL} {M : zMd} {N S pc : Nat} {L st : List Value} {Q : Option Value → zH → Prop} {I : Nat → Nat → Int32} {J : Nat → Nat → Int64} {r : Nat → Nat → Option Nat} {sh : List zSh}
theorem x_nI (n w : Nat) {k : Int32} (hd : decode M.2.1 pc = .ok (.newarray .int, 2)) (hn : ¬ k < 0) (hw : k.toNatClampNeg = w) (hw2 : w ≤ 10000) (hz : zG n I) (he : SH.take n ++ [(10, w)] = SH.take (n + 1)) (hl : (SH.take n).length = n) (hb : n + 1 ≤ N) (hsb : zsl (SH.take n) + w ≤ S)
    (kk : zW l M N S (pc + 2) L (.ref n :: st) (I, J, r, SH.take (n + 1)) Q) : zW l M N S pc L (.int k :: st) (I, J, r, SH.take n) Q := by
  have hl0 : ((I, J, r, SH.take n) : zH).2.2.2.length = n := hl
  refine z_newI (h := (I, J, r, SH.take n)) hd w_ai hn hw hw2 (fun j => by rw [hl0]; exact hz n j (Nat.le_refl n)) (by rw [hl0]; exact hb) hsb ?_
  rw [hl0]
  show zW l M N S (pc + 2) L (.ref n :: st) (I, J, r, SH.take n ++ [(10, w)]) Q
  rw [he]
  exact kk
theorem x_nJ (n w : Nat) {k : Int32} (hd : decode M.2.1 pc = .ok (.newarray .long, 2)) (hn : ¬ k < 0) (hw : k.toNatClampNeg = w) (hw2 : w ≤ 10000) (hz : ∀ a b, J a b = 0) (he : SH.take n ++ [(11, w)] = SH.take (n + 1)) (hl : (SH.take n).length = n) (hb : n + 1 ≤ N) (hsb : zsl (SH.take n) + w ≤ S)
    (kk : zW l M N S (pc + 2) L (.ref n :: st) (I, J, r, SH.take (n + 1)) Q) : zW l M N S pc L (.int k :: st) (I, J, r, SH.take n) Q := by
  have hl0 : ((I, J, r, SH.take n) : zH).2.2.2.length = n := hl
  refine z_newJ (h := (I, J, r, SH.take n)) hd w_aj hn hw hw2 (fun j => hz _ j) (by rw [hl0]; exact hb) hsb ?_
  rw [hl0]
  show zW l M N S (pc + 2) L (.ref n :: st) (I, J, r, SH.take n ++ [(11, w)]) Q
  rw [he]
  exact kk
theorem x_nZ (n w : Nat) {k : Int32} (hd : decode M.2.1 pc = .ok (.newarray .boolean, 2)) (hn : ¬ k < 0) (hw : k.toNatClampNeg = w) (hw2 : w ≤ 10000) (hz : zG n I) (he : SH.take n ++ [(12, w)] = SH.take (n + 1)) (hl : (SH.take n).length = n) (hb : n + 1 ≤ N) (hsb : zsl (SH.take n) + w ≤ S)
    (kk : zW l M N S (pc + 2) L (.ref n :: st) (I, J, r, SH.take (n + 1)) Q) : zW l M N S pc L (.int k :: st) (I, J, r, SH.take n) Q := by
  have hl0 : ((I, J, r, SH.take n) : zH).2.2.2.length = n := hl
  refine z_newZ (h := (I, J, r, SH.take n)) hd w_az hn hw hw2 (fun j => by rw [hl0]; exact hz n j (Nat.le_refl n)) (by rw [hl0]; exact hb) hsb ?_
  rw [hl0]
  show zW l M N S (pc + 2) L (.ref n :: st) (I, J, r, SH.take n ++ [(12, w)]) Q
  rw [he]
  exact kk
theorem x_nT (n w : Nat) {k : Int32} {idx : Nat} (hd : decode M.2.1 pc = .ok (.anewarray idx, 3)) (hlk : Cond.classLink M.1.cls idx "RumourBrew$Town" ∈ zTs) (hn : ¬ k < 0) (hw : k.toNatClampNeg = w) (hw2 : w ≤ 10000) (hz : zF n r) (he : SH.take n ++ [(13, w)] = SH.take (n + 1)) (hl : (SH.take n).length = n) (hb : n + 1 ≤ N) (hsb : zsl (SH.take n) + w ≤ S)
    (kk : zW l M N S (pc + 3) L (.ref n :: st) (I, J, r, SH.take (n + 1)) Q) : zW l M N S pc L (.int k :: st) (I, J, r, SH.take n) Q := by
  have hl0 : ((I, J, r, SH.take n) : zH).2.2.2.length = n := hl
  refine z_newT (h := (I, J, r, SH.take n)) hd w_aT hlk hn hw hw2 (fun j => by rw [hl0]; exact hz n j (Nat.le_refl n)) (by rw [hl0]; exact hb) hsb ?_
  rw [hl0]
  show zW l M N S (pc + 3) L (.ref n :: st) (I, J, r, SH.take n ++ [(13, w)]) Q
  rw [he]
  exact kk
theorem x_nw (n ci : Nat) {idx : Nat} {nm : String} (hd : decode M.2.1 pc = .ok (.new idx, 3)) (hN : zNw ci nm) (hlk : Cond.classLink M.1.cls idx nm ∈ zTs) (hg : zG n I) (hz : zF n r) (he : SH.take n ++ [(ci, 0)] = SH.take (n + 1)) (hl : (SH.take n).length = n) (hb : n + 1 ≤ N) (hsb : zsl (SH.take n) + (zft ci).length ≤ S)
    (kk : zW l M N S (pc + 3) L (.ref n :: st) (I, J, r, SH.take (n + 1)) Q) : zW l M N S pc L st (I, J, r, SH.take n) Q := by
  have hl0 : ((I, J, r, SH.take n) : zH).2.2.2.length = n := hl
  obtain ⟨q, h1, h2, h3, h4, h5⟩ := hN
  subst h2
  refine z_new (h := (I, J, r, SH.take n)) 0 hd h1 hlk h3 h4 h5 (fun j => by rw [hl0]; exact hg n j (Nat.le_refl n)) (fun j => by rw [hl0]; exact hz n j (Nat.le_refl n)) (by rw [hl0]; exact hb) (by rw [← h5.1]; exact hsb) ?_
  rw [hl0]
  show zW l M N S (pc + 3) L (.ref n :: st) (I, J, r, SH.take n ++ [(ci, 0)]) Q
  rw [he]
  exact kk
theorem x_nM (n w v : Nat) {idx : Nat} {k k1 : Int32} (hd : decode M.2.1 pc = .ok (.multianewarray idx 2, 4)) (hlk : Cond.classLink M.1.cls idx "[[I" ∈ zTs) (hn : ¬ k < 0) (hk : ¬ k1 < 0) (hw : k.toNatClampNeg = w) (hv : k1.toNatClampNeg = v) (hw2 : w ≤ 10000) (hv2 : v ≤ 10000) (hg : zG n I) (hz : zF n r) (he : SH.take n ++ ((14, w) :: List.replicate w (10, v)) = SH.take (n + (1 + w))) (hl : (SH.take n).length = n) (hb : n + (1 + w) ≤ N) (hsb : zsl (SH.take n) + (w + w * v) ≤ S)
    (kk : ∀ r1, r1 = zmr r n w → zF (n + (1 + w)) r1 → zW l M N S (pc + 4) L (.ref n :: st) (I, J, r1, SH.take (n + (1 + w))) Q) : zW l M N S pc L (.int k1 :: .int k :: st) (I, J, r, SH.take n) Q := by
  have q := kk _ rfl (zF_mr (zF_le hz (by omega)) (by omega))
  refine z_multi (w := w) (v := v) hd w_aa w_ai hlk hn hk hw hv hw2 hv2 (by rw [hl]; exact hg) (by rw [hl]; exact hb) hsb ?_
  rw [hl, he]
  exact q
theorem x_putR {n idx ci j k k0 k1 : Nat} (hd : decode M.2.1 pc = .ok (.putfield idx, 3)) (hf : zFL M.1.cls idx ci j) (hfin : zFin ci j false ∨ (zFin ci j true ∧ M.1.name = "<init>" ∧ ∃ q : vw_C, vwCl[ci]? = some q ∧ (q.2.1 j).1 = M.1.cls ∧ Cond.fieldLink M.1.cls idx (q.2.1 j).1 (q.2.1 j).2.1 (q.2.1 j).2.2.1 ∈ zTs)) (ht : (zft ci)[j]? = some true) (hs : sh[k]? = some (ci, k0)) (hfit : ∀ a : Nat, narrow (zty ci j) (.ref a) = .ref a ∧ fits (zty ci j) (.ref a) = true) (hz : zF n r) (hk : k < n)
    (kk : ∀ r1, r1 = zupR r k j (some k1) → zF n r1 → zW l M N S (pc + 3) L st (I, J, r1, sh) Q) : zW l M N S pc L (.ref k1 :: .ref k :: st) (I, J, r, sh) Q :=
  y_putR hd hf hfin ht hs hfit (kk _ rfl (zF_up hz hk))
theorem x_put0 {idx ci j k k0 : Nat} {v : Int32} (hd : decode M.2.1 pc = .ok (.putfield idx, 3)) (hf : zFL M.1.cls idx ci j) (hfin : zFin ci j false) (ht : (zft ci)[j]? = some false) (hs : sh[k]? = some (ci, k0)) (hfit : narrow (zty ci j) (.int v) = .int v ∧ fits (zty ci j) (.int v) = true) (hv : I k j = v)
    (kk : zW l M N S (pc + 3) L st (I, J, r, sh) Q) : zW l M N S pc L (.int v :: .ref k :: st) (I, J, r, sh) Q := by
  refine y_putI hd hf hfin ht hs hfit ?_
  have e : zup I k j v = I := by
    funext a b
    unfold zup
    by_cases h : a = k ∧ b = j
    · rw [if_pos h, h.1, h.2, hv]
    · rw [if_neg h]
  rw [e]
  exact kk
theorem x_iast {n k k0 : Nat} {i v : Int32} (j : Nat) (hd : decode M.2.1 pc = .ok (.iastore, 1)) (hs : sh[k]? = some (10, k0)) (hi : vp_in i k0) (hj : i.toNatClampNeg = j) (hz : zG n I) (hk : k < n)
    (kk : ∀ I1, I1 = zup I k j v → zG n I1 → zW l M N S (pc + 1) L st (I1, J, r, sh) Q) : zW l M N S pc L (.int v :: .int i :: .ref k :: st) (I, J, r, sh) Q := by
  refine y_iast hd hs hi ?_
  rw [hj]
  exact kk _ rfl (zG_up hz hk)
theorem x_aast {n k k1 n0 n1 : Nat} {i : Int32} (j : Nat) (hd : decode M.2.1 pc = .ok (.aastore, 1)) (hs : sh[k]? = some (13, n0)) (hs1 : sh[k1]? = some (7, n1)) (hi : vp_in i n0) (hj : i.toNatClampNeg = j) (hz : zF n r) (hk : k < n)
    (kk : ∀ r1, r1 = zupR r k j (some k1) → zF n r1 → zW l M N S (pc + 1) L st (I, J, r1, sh) Q) : zW l M N S pc L (.ref k1 :: .int i :: .ref k :: st) (I, J, r, sh) Q := by
  refine z_aast (h := (I, J, r, sh)) hd hs hs1 hi ?_
  rw [hj]
  exact kk _ rfl (zF_up hz hk)
variable {h : zH} {y1 : MethodName} {c1 : ByteArray} {nl1 d1 N1 S1 idx b : Nat} {Q1 : Option Value → zH → Prop}
theorem z_I0 (hd : decode M.2.1 pc = .ok (.invokespecial idx, 3)) (hlk : zML M.1.cls idx (y1, c1, nl1, none, d1)) (hk : zMk (y1, c1, nl1, none, d1) 0) (hv : Cond.instanceMethod y1 ∈ zTs ∧ y1.name = "<init>") (hd1 : d1 + 1 ≤ M.2.2.2.2) (hd2 : 8 + (nl1 + 11) + 64 * d1 ≤ 64 * M.2.2.2.2) (hst : (st.map Value.category).sum ≤ 8) (hm : zMet l (y1, c1, nl1, none, d1) N1 S1 (.ref b :: []) h Q1) (hNS : N1 ≤ N ∧ S1 ≤ S ∧ h.2.2.2.length ≤ N1 ∧ zsl h.2.2.2 ≤ S1)
    (kk : ∀ (r : Option Value) (h1 : zH), Q1 r h1 → zW l M N S (pc + 3) L (r.toList ++ st) h1 Q) : zW l M N S pc L (.ref b :: st) h Q :=
  z_callI (As := []) hd hlk hk hv hd1 hd2 rfl hst hm hNS kk
theorem z_I1 {a1 : Value} (hd : decode M.2.1 pc = .ok (.invokespecial idx, 3)) (hlk : zML M.1.cls idx (y1, c1, nl1, none, d1)) (hk : zMk (y1, c1, nl1, none, d1) 1) (hv : Cond.instanceMethod y1 ∈ zTs ∧ y1.name = "<init>") (hd1 : d1 + 1 ≤ M.2.2.2.2) (hd2 : 8 + (nl1 + 11) + 64 * d1 ≤ 64 * M.2.2.2.2) (hst : (st.map Value.category).sum ≤ 8) (hm : zMet l (y1, c1, nl1, none, d1) N1 S1 (.ref b :: [a1]) h Q1) (hNS : N1 ≤ N ∧ S1 ≤ S ∧ h.2.2.2.length ≤ N1 ∧ zsl h.2.2.2 ≤ S1)
    (kk : ∀ (r : Option Value) (h1 : zH), Q1 r h1 → zW l M N S (pc + 3) L (r.toList ++ st) h1 Q) : zW l M N S pc L (a1 :: .ref b :: st) h Q :=
  z_callI (As := [a1]) hd hlk hk hv hd1 hd2 rfl hst hm hNS kk
theorem z_I2 {a1 a2 : Value} (hd : decode M.2.1 pc = .ok (.invokespecial idx, 3)) (hlk : zML M.1.cls idx (y1, c1, nl1, none, d1)) (hk : zMk (y1, c1, nl1, none, d1) 2) (hv : Cond.instanceMethod y1 ∈ zTs ∧ y1.name = "<init>") (hd1 : d1 + 1 ≤ M.2.2.2.2) (hd2 : 8 + (nl1 + 11) + 64 * d1 ≤ 64 * M.2.2.2.2) (hst : (st.map Value.category).sum ≤ 8) (hm : zMet l (y1, c1, nl1, none, d1) N1 S1 (.ref b :: [a1, a2]) h Q1) (hNS : N1 ≤ N ∧ S1 ≤ S ∧ h.2.2.2.length ≤ N1 ∧ zsl h.2.2.2 ≤ S1)
    (kk : ∀ (r : Option Value) (h1 : zH), Q1 r h1 → zW l M N S (pc + 3) L (r.toList ++ st) h1 Q) : zW l M N S pc L (a2 :: a1 :: .ref b :: st) h Q :=
  z_callI (As := [a1, a2]) hd hlk hk hv hd1 hd2 rfl hst hm hNS kk
end ZX
