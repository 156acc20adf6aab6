def rX2 (r : Nat → Nat → Option Nat) (c : Nat) : Nat → Nat → Option Nat := zupR r c 0 (some (c + 1))
def rX7 (r : Nat → Nat → Option Nat) (c : Nat) : Nat → Nat → Option Nat := zupR (rX2 (zupR (zupR (zupR (zupR (zupR r c 4 (some (c + 1))) c 5 (some (c + 2))) c 6 (some (c + 3))) c 8 (some (c + 4))) c 9 (some (c + 5))) (c + 6)) c 10 (some (c + 6))
def rX5 (r : Nat → Nat → Option Nat) (c : Nat) : Nat → Nat → Option Nat := zupR (zupR (zupR (zmr r (c + 1) 8) c 0 (some (c + 1))) c 1 (some (c + 10))) c 2 (some (c + 11))
def zm8 (I : Nat → Nat → Int32) (c : Nat) : Nat → Nat → Int32 := zup (zup (zup (zup (zup (zup (zup (zup I c 0 (-1)) c 1 (-1)) c 2 (-1)) c 3 (-1)) c 4 (-1)) c 5 (-1)) c 6 (-1)) c 7 (-1)
def rX4 (r : Nat → Nat → Option Nat) (c : Nat) : Nat → Nat → Option Nat := zupR r c 0 (some (c + 1))
def rX0 (r : Nat → Nat → Option Nat) (c : Nat) : Nat → Nat → Option Nat := zupR (zmr r (c + 1) 24) c 0 (some (c + 1))
def rX6 (r : Nat → Nat → Option Nat) (c : Nat) : Nat → Nat → Option Nat := zupR (zupR (zupR (zupR (zupR (r) c 1 (some (c + 1))) c 2 (some (c + 2))) c 3 (some (c + 3))) c 4 (some (c + 4))) c 0 (some 15)
def rX3 (r : Nat → Nat → Option Nat) (c : Nat) : Nat → Nat → Option Nat := zupR (zupR (zupR (zupR (rX2 r (c + 1)) c 2 (some (c + 1))) c 3 (some (c + 3))) c 0 (some 15)) c 1 (some 74)
def rX1 (r : Nat → Nat → Option Nat) (c : Nat) : Nat → Nat → Option Nat := zupR (zupR (r) c 1 (some (c + 1))) c 0 (some 15)
def rX9 (r : Nat → Nat → Option Nat) (c : Nat) : Nat → Nat → Option Nat := zupR (zupR (zupR (zupR (zupR (zupR (zupR (zupR (zupR (zupR (zupR (zupR (zupR (zupR (r) c 0 (some (c + 1))) c 1 (some (c + 2))) c 2 (some (c + 3))) c 4 (some (c + 4))) c 8 (some (c + 5))) c 10 (some (c + 6))) c 11 (some (c + 7))) c 12 (some (c + 8))) c 14 (some (c + 9))) c 20 (some (c + 10))) c 21 (some (c + 11))) c 22 (some (c + 12))) c 23 (some (c + 13))) c 25 (some (c + 14))
set_option maxRecDepth 100000 in
set_option maxHeartbeats 4000000 in
theorem qX2_init_21 {l : zL} {I : Nat → Nat → Int32} {J : Nat → Nat → Int64} {r : Nat → Nat → Option Nat} (hg : zG 21 I) (hf : zF 22 r) : zMet l mX2_init 23 (zsl (SH.take 23)) [.ref 21] (I, J, r, SH.take 22) (fun v h => v = none ∧ ∃ r1, r1 = rX2 r 21 ∧ zF 23 r1 ∧ h = (I, J, r1, SH.take 23)) := by
  refine z_start [.ref 21] (by decide +kernel) (Nat.le_of_ble_eq_true rfl) rfl ?_
  refine z_aload_0 (pc := 0) dX2_init_0 ?_
  refine z_objInit (pc := 1) dX2_init_1 mlX2_5 w_oi w_oc (by decide) (by decide) ?_
  refine z_aload_0 (pc := 4) dX2_init_4 ?_
  refine z_bipush (pc := 5) (19) dX2_init_5 rfl ?_
  refine x_nI (pc := 7) 22 19 dX2_init_7 (by decide) (by decide) (by decide) (zG_le hg (by decide)) (by decide +kernel) (by decide +kernel) (by decide) (by decide +kernel) ?_
  refine x_putR (pc := 9) (n := 23) dX2_init_9 flX2_11 ffX2_11 rfl rfl (fun a => ⟨rfl, rfl⟩) (zF_le hf (by decide)) (by decide) (fun r1 e1 f1 => ?_)
  refine z_ret (pc := 12) (r := none) rfl dX2_init_12 trivial rfl rfl ?_
  exact ⟨rfl, _, (by subst e1; rfl), zF_le f1 (by decide), rfl⟩
set_option maxRecDepth 100000 in
set_option maxHeartbeats 4000000 in
theorem qX2_init_29 {l : zL} {I : Nat → Nat → Int32} {J : Nat → Nat → Int64} {r : Nat → Nat → Option Nat} (hg : zG 29 I) (hf : zF 30 r) : zMet l mX2_init 31 (zsl (SH.take 31)) [.ref 29] (I, J, r, SH.take 30) (fun v h => v = none ∧ ∃ r1, r1 = rX2 r 29 ∧ zF 31 r1 ∧ h = (I, J, r1, SH.take 31)) := by
  refine z_start [.ref 29] (by decide +kernel) (Nat.le_of_ble_eq_true rfl) rfl ?_
  refine z_aload_0 (pc := 0) dX2_init_0 ?_
  refine z_objInit (pc := 1) dX2_init_1 mlX2_5 w_oi w_oc (by decide) (by decide) ?_
  refine z_aload_0 (pc := 4) dX2_init_4 ?_
  refine z_bipush (pc := 5) (19) dX2_init_5 rfl ?_
  refine x_nI (pc := 7) 30 19 dX2_init_7 (by decide) (by decide) (by decide) (zG_le hg (by decide)) (by decide +kernel) (by decide +kernel) (by decide) (by decide +kernel) ?_
  refine x_putR (pc := 9) (n := 31) dX2_init_9 flX2_11 ffX2_11 rfl rfl (fun a => ⟨rfl, rfl⟩) (zF_le hf (by decide)) (by decide) (fun r1 e1 f1 => ?_)
  refine z_ret (pc := 12) (r := none) rfl dX2_init_12 trivial rfl rfl ?_
  exact ⟨rfl, _, (by subst e1; rfl), zF_le f1 (by decide), rfl⟩
set_option maxRecDepth 100000 in
set_option maxHeartbeats 4000000 in
theorem qX2_init_38 {l : zL} {I : Nat → Nat → Int32} {J : Nat → Nat → Int64} {r : Nat → Nat → Option Nat} (hg : zG 38 I) (hf : zF 39 r) : zMet l mX2_init 40 (zsl (SH.take 40)) [.ref 38] (I, J, r, SH.take 39) (fun v h => v = none ∧ ∃ r1, r1 = rX2 r 38 ∧ zF 40 r1 ∧ h = (I, J, r1, SH.take 40)) := by
  refine z_start [.ref 38] (by decide +kernel) (Nat.le_of_ble_eq_true rfl) rfl ?_
  refine z_aload_0 (pc := 0) dX2_init_0 ?_
  refine z_objInit (pc := 1) dX2_init_1 mlX2_5 w_oi w_oc (by decide) (by decide) ?_
  refine z_aload_0 (pc := 4) dX2_init_4 ?_
  refine z_bipush (pc := 5) (19) dX2_init_5 rfl ?_
  refine x_nI (pc := 7) 39 19 dX2_init_7 (by decide) (by decide) (by decide) (zG_le hg (by decide)) (by decide +kernel) (by decide +kernel) (by decide) (by decide +kernel) ?_
  refine x_putR (pc := 9) (n := 40) dX2_init_9 flX2_11 ffX2_11 rfl rfl (fun a => ⟨rfl, rfl⟩) (zF_le hf (by decide)) (by decide) (fun r1 e1 f1 => ?_)
  refine z_ret (pc := 12) (r := none) rfl dX2_init_12 trivial rfl rfl ?_
  exact ⟨rfl, _, (by subst e1; rfl), zF_le f1 (by decide), rfl⟩
set_option maxRecDepth 100000 in
set_option maxHeartbeats 4000000 in
theorem qX2_init_46 {l : zL} {I : Nat → Nat → Int32} {J : Nat → Nat → Int64} {r : Nat → Nat → Option Nat} (hg : zG 46 I) (hf : zF 47 r) : zMet l mX2_init 48 (zsl (SH.take 48)) [.ref 46] (I, J, r, SH.take 47) (fun v h => v = none ∧ ∃ r1, r1 = rX2 r 46 ∧ zF 48 r1 ∧ h = (I, J, r1, SH.take 48)) := by
  refine z_start [.ref 46] (by decide +kernel) (Nat.le_of_ble_eq_true rfl) rfl ?_
  refine z_aload_0 (pc := 0) dX2_init_0 ?_
  refine z_objInit (pc := 1) dX2_init_1 mlX2_5 w_oi w_oc (by decide) (by decide) ?_
  refine z_aload_0 (pc := 4) dX2_init_4 ?_
  refine z_bipush (pc := 5) (19) dX2_init_5 rfl ?_
  refine x_nI (pc := 7) 47 19 dX2_init_7 (by decide) (by decide) (by decide) (zG_le hg (by decide)) (by decide +kernel) (by decide +kernel) (by decide) (by decide +kernel) ?_
  refine x_putR (pc := 9) (n := 48) dX2_init_9 flX2_11 ffX2_11 rfl rfl (fun a => ⟨rfl, rfl⟩) (zF_le hf (by decide)) (by decide) (fun r1 e1 f1 => ?_)
  refine z_ret (pc := 12) (r := none) rfl dX2_init_12 trivial rfl rfl ?_
  exact ⟨rfl, _, (by subst e1; rfl), zF_le f1 (by decide), rfl⟩
set_option maxRecDepth 100000 in
set_option maxHeartbeats 4000000 in
theorem qX2_init_80 {l : zL} {I : Nat → Nat → Int32} {J : Nat → Nat → Int64} {r : Nat → Nat → Option Nat} (hg : zG 80 I) (hf : zF 81 r) : zMet l mX2_init 82 (zsl (SH.take 82)) [.ref 80] (I, J, r, SH.take 81) (fun v h => v = none ∧ ∃ r1, r1 = rX2 r 80 ∧ zF 82 r1 ∧ h = (I, J, r1, SH.take 82)) := by
  refine z_start [.ref 80] (by decide +kernel) (Nat.le_of_ble_eq_true rfl) rfl ?_
  refine z_aload_0 (pc := 0) dX2_init_0 ?_
  refine z_objInit (pc := 1) dX2_init_1 mlX2_5 w_oi w_oc (by decide) (by decide) ?_
  refine z_aload_0 (pc := 4) dX2_init_4 ?_
  refine z_bipush (pc := 5) (19) dX2_init_5 rfl ?_
  refine x_nI (pc := 7) 81 19 dX2_init_7 (by decide) (by decide) (by decide) (zG_le hg (by decide)) (by decide +kernel) (by decide +kernel) (by decide) (by decide +kernel) ?_
  refine x_putR (pc := 9) (n := 82) dX2_init_9 flX2_11 ffX2_11 rfl rfl (fun a => ⟨rfl, rfl⟩) (zF_le hf (by decide)) (by decide) (fun r1 e1 f1 => ?_)
  refine z_ret (pc := 12) (r := none) rfl dX2_init_12 trivial rfl rfl ?_
  exact ⟨rfl, _, (by subst e1; rfl), zF_le f1 (by decide), rfl⟩
set_option maxRecDepth 100000 in
set_option maxHeartbeats 4000000 in
theorem qX7_init_15 {l : zL} {I : Nat → Nat → Int32} {J : Nat → Nat → Int64} {r : Nat → Nat → Option Nat} (hg : zG 15 I) (hf : zF 16 r) : zMet l mX7_init 23 (zsl (SH.take 23)) [.ref 15] (I, J, r, SH.take 16) (fun v h => v = none ∧ ∃ r1, r1 = rX7 r 15 ∧ zF 23 r1 ∧ h = (I, J, r1, SH.take 23)) := by
  refine z_start [.ref 15] (by decide +kernel) (Nat.le_of_ble_eq_true rfl) rfl ?_
  refine z_aload_0 (pc := 0) dX7_init_0 ?_
  refine z_objInit (pc := 1) dX7_init_1 mlX7_3 w_oi w_oc (by decide) (by decide) ?_
  refine z_aload_0 (pc := 4) dX7_init_4 ?_
  refine z_iconst (pc := 5) (0) dX7_init_5 rfl ?_
  refine x_put0 (pc := 6) dX7_init_6 flX7_9 ffX7_9 rfl rfl ⟨rfl, rfl⟩ (hg _ _ (by decide)) ?_
  refine z_aload_0 (pc := 9) dX7_init_9 ?_
  refine z_iconst (pc := 10) (0) dX7_init_10 rfl ?_
  refine x_put0 (pc := 11) dX7_init_11 flX7_15 ffX7_15 rfl rfl ⟨rfl, rfl⟩ (hg _ _ (by decide)) ?_
  refine z_aload_0 (pc := 14) dX7_init_14 ?_
  refine z_iconst (pc := 15) (0) dX7_init_15 rfl ?_
  refine x_put0 (pc := 16) dX7_init_16 flX7_18 ffX7_18 rfl rfl ⟨rfl, rfl⟩ (hg _ _ (by decide)) ?_
  refine z_aload_0 (pc := 19) dX7_init_19 ?_
  refine z_iconst (pc := 20) (0) dX7_init_20 rfl ?_
  refine x_put0 (pc := 21) dX7_init_21 flX7_21 ffX7_21 rfl rfl ⟨rfl, rfl⟩ (hg _ _ (by decide)) ?_
  refine z_aload_0 (pc := 24) dX7_init_24 ?_
  refine z_bipush (pc := 25) (6) dX7_init_25 rfl ?_
  refine x_nI (pc := 27) 16 6 dX7_init_27 (by decide) (by decide) (by decide) (zG_le hg (by decide)) (by decide +kernel) (by decide +kernel) (by decide) (by decide +kernel) ?_
  refine x_putR (pc := 29) (n := 17) dX7_init_29 flX7_24 ffX7_24 rfl rfl (fun a => ⟨rfl, rfl⟩) (zF_le hf (by decide)) (by decide) (fun r1 e1 f1 => ?_)
  refine z_aload_0 (pc := 32) dX7_init_32 ?_
  refine z_bipush (pc := 33) (6) dX7_init_33 rfl ?_
  refine x_nI (pc := 35) 17 6 dX7_init_35 (by decide) (by decide) (by decide) (zG_le hg (by decide)) (by decide +kernel) (by decide +kernel) (by decide) (by decide +kernel) ?_
  refine x_putR (pc := 37) (n := 18) dX7_init_37 flX7_28 ffX7_28 rfl rfl (fun a => ⟨rfl, rfl⟩) (zF_le f1 (by decide)) (by decide) (fun r2 e2 f2 => ?_)
  refine z_aload_0 (pc := 40) dX7_init_40 ?_
  refine z_bipush (pc := 41) (6) dX7_init_41 rfl ?_
  refine x_nI (pc := 43) 18 6 dX7_init_43 (by decide) (by decide) (by decide) (zG_le hg (by decide)) (by decide +kernel) (by decide +kernel) (by decide) (by decide +kernel) ?_
  refine x_putR (pc := 45) (n := 19) dX7_init_45 flX7_31 ffX7_31 rfl rfl (fun a => ⟨rfl, rfl⟩) (zF_le f2 (by decide)) (by decide) (fun r3 e3 f3 => ?_)
  refine z_aload_0 (pc := 48) dX7_init_48 ?_
  refine z_iconst (pc := 49) (0) dX7_init_49 rfl ?_
  refine x_put0 (pc := 50) dX7_init_50 flX7_34 ffX7_34 rfl rfl ⟨rfl, rfl⟩ (hg _ _ (by decide)) ?_
  refine z_aload_0 (pc := 53) dX7_init_53 ?_
  refine z_bipush (pc := 54) (10) dX7_init_54 rfl ?_
  refine x_nI (pc := 56) 19 10 dX7_init_56 (by decide) (by decide) (by decide) (zG_le hg (by decide)) (by decide +kernel) (by decide +kernel) (by decide) (by decide +kernel) ?_
  refine x_putR (pc := 58) (n := 20) dX7_init_58 flX7_37 ffX7_37 rfl rfl (fun a => ⟨rfl, rfl⟩) (zF_le f3 (by decide)) (by decide) (fun r4 e4 f4 => ?_)
  refine z_aload_0 (pc := 61) dX7_init_61 ?_
  refine z_bipush (pc := 62) (10) dX7_init_62 rfl ?_
  refine x_nI (pc := 64) 20 10 dX7_init_64 (by decide) (by decide) (by decide) (zG_le hg (by decide)) (by decide +kernel) (by decide +kernel) (by decide) (by decide +kernel) ?_
  refine x_putR (pc := 66) (n := 21) dX7_init_66 flX7_40 ffX7_40 rfl rfl (fun a => ⟨rfl, rfl⟩) (zF_le f4 (by decide)) (by decide) (fun r5 e5 f5 => ?_)
  refine z_aload_0 (pc := 69) dX7_init_69 ?_
  refine x_nw (pc := 70) 21 2 dX7_init_70 nX2 clX7_43 (zG_le hg (by decide)) (zF_le f5 (by decide)) (by decide +kernel) (by decide +kernel) (by decide) (by decide +kernel) ?_
  refine z_dup (pc := 73) rfl dX7_init_73 ?_
  refine z_I0 (pc := 74) dX7_init_74 mlX7_45 kX2_init vX2_init (by decide) (by decide) (Nat.le_of_ble_eq_true rfl) (qX2_init_21 (r := r5) (zG_le hg (by decide)) (zF_le f5 (by decide))) ⟨Nat.le_of_ble_eq_true rfl, Nat.le_of_ble_eq_true rfl, Nat.le_of_ble_eq_true rfl, Nat.le_of_ble_eq_true rfl⟩ (fun v h1 hq => ?_)
  obtain ⟨rfl, r6, e6, f6, rfl⟩ := hq
  dsimp only [Option.toList, List.nil_append]
  refine x_putR (pc := 77) (n := 23) dX7_init_77 flX7_46 ffX7_46 rfl rfl (fun a => ⟨rfl, rfl⟩) (zF_le f6 (by decide)) (by decide) (fun r7 e7 f7 => ?_)
  refine z_ret (pc := 80) (r := none) rfl dX7_init_80 trivial rfl rfl ?_
  exact ⟨rfl, _, (by subst e1 e2 e3 e4 e5 e6 e7; rfl), zF_le f7 (by decide), rfl⟩
set_option maxRecDepth 100000 in
set_option maxHeartbeats 4000000 in
theorem qX7_init_23 {l : zL} {I : Nat → Nat → Int32} {J : Nat → Nat → Int64} {r : Nat → Nat → Option Nat} (hg : zG 23 I) (hf : zF 24 r) : zMet l mX7_init 31 (zsl (SH.take 31)) [.ref 23] (I, J, r, SH.take 24) (fun v h => v = none ∧ ∃ r1, r1 = rX7 r 23 ∧ zF 31 r1 ∧ h = (I, J, r1, SH.take 31)) := by
  refine z_start [.ref 23] (by decide +kernel) (Nat.le_of_ble_eq_true rfl) rfl ?_
  refine z_aload_0 (pc := 0) dX7_init_0 ?_
  refine z_objInit (pc := 1) dX7_init_1 mlX7_3 w_oi w_oc (by decide) (by decide) ?_
  refine z_aload_0 (pc := 4) dX7_init_4 ?_
  refine z_iconst (pc := 5) (0) dX7_init_5 rfl ?_
  refine x_put0 (pc := 6) dX7_init_6 flX7_9 ffX7_9 rfl rfl ⟨rfl, rfl⟩ (hg _ _ (by decide)) ?_
  refine z_aload_0 (pc := 9) dX7_init_9 ?_
  refine z_iconst (pc := 10) (0) dX7_init_10 rfl ?_
  refine x_put0 (pc := 11) dX7_init_11 flX7_15 ffX7_15 rfl rfl ⟨rfl, rfl⟩ (hg _ _ (by decide)) ?_
  refine z_aload_0 (pc := 14) dX7_init_14 ?_
  refine z_iconst (pc := 15) (0) dX7_init_15 rfl ?_
  refine x_put0 (pc := 16) dX7_init_16 flX7_18 ffX7_18 rfl rfl ⟨rfl, rfl⟩ (hg _ _ (by decide)) ?_
  refine z_aload_0 (pc := 19) dX7_init_19 ?_
  refine z_iconst (pc := 20) (0) dX7_init_20 rfl ?_
  refine x_put0 (pc := 21) dX7_init_21 flX7_21 ffX7_21 rfl rfl ⟨rfl, rfl⟩ (hg _ _ (by decide)) ?_
  refine z_aload_0 (pc := 24) dX7_init_24 ?_
  refine z_bipush (pc := 25) (6) dX7_init_25 rfl ?_
  refine x_nI (pc := 27) 24 6 dX7_init_27 (by decide) (by decide) (by decide) (zG_le hg (by decide)) (by decide +kernel) (by decide +kernel) (by decide) (by decide +kernel) ?_
  refine x_putR (pc := 29) (n := 25) dX7_init_29 flX7_24 ffX7_24 rfl rfl (fun a => ⟨rfl, rfl⟩) (zF_le hf (by decide)) (by decide) (fun r1 e1 f1 => ?_)
  refine z_aload_0 (pc := 32) dX7_init_32 ?_
  refine z_bipush (pc := 33) (6) dX7_init_33 rfl ?_
  refine x_nI (pc := 35) 25 6 dX7_init_35 (by decide) (by decide) (by decide) (zG_le hg (by decide)) (by decide +kernel) (by decide +kernel) (by decide) (by decide +kernel) ?_
  refine x_putR (pc := 37) (n := 26) dX7_init_37 flX7_28 ffX7_28 rfl rfl (fun a => ⟨rfl, rfl⟩) (zF_le f1 (by decide)) (by decide) (fun r2 e2 f2 => ?_)
  refine z_aload_0 (pc := 40) dX7_init_40 ?_
  refine z_bipush (pc := 41) (6) dX7_init_41 rfl ?_
  refine x_nI (pc := 43) 26 6 dX7_init_43 (by decide) (by decide) (by decide) (zG_le hg (by decide)) (by decide +kernel) (by decide +kernel) (by decide) (by decide +kernel) ?_
  refine x_putR (pc := 45) (n := 27) dX7_init_45 flX7_31 ffX7_31 rfl rfl (fun a => ⟨rfl, rfl⟩) (zF_le f2 (by decide)) (by decide) (fun r3 e3 f3 => ?_)
  refine z_aload_0 (pc := 48) dX7_init_48 ?_
  refine z_iconst (pc := 49) (0) dX7_init_49 rfl ?_
  refine x_put0 (pc := 50) dX7_init_50 flX7_34 ffX7_34 rfl rfl ⟨rfl, rfl⟩ (hg _ _ (by decide)) ?_
  refine z_aload_0 (pc := 53) dX7_init_53 ?_
  refine z_bipush (pc := 54) (10) dX7_init_54 rfl ?_
  refine x_nI (pc := 56) 27 10 dX7_init_56 (by decide) (by decide) (by decide) (zG_le hg (by decide)) (by decide +kernel) (by decide +kernel) (by decide) (by decide +kernel) ?_
  refine x_putR (pc := 58) (n := 28) dX7_init_58 flX7_37 ffX7_37 rfl rfl (fun a => ⟨rfl, rfl⟩) (zF_le f3 (by decide)) (by decide) (fun r4 e4 f4 => ?_)
  refine z_aload_0 (pc := 61) dX7_init_61 ?_
  refine z_bipush (pc := 62) (10) dX7_init_62 rfl ?_
  refine x_nI (pc := 64) 28 10 dX7_init_64 (by decide) (by decide) (by decide) (zG_le hg (by decide)) (by decide +kernel) (by decide +kernel) (by decide) (by decide +kernel) ?_
  refine x_putR (pc := 66) (n := 29) dX7_init_66 flX7_40 ffX7_40 rfl rfl (fun a => ⟨rfl, rfl⟩) (zF_le f4 (by decide)) (by decide) (fun r5 e5 f5 => ?_)
  refine z_aload_0 (pc := 69) dX7_init_69 ?_
  refine x_nw (pc := 70) 29 2 dX7_init_70 nX2 clX7_43 (zG_le hg (by decide)) (zF_le f5 (by decide)) (by decide +kernel) (by decide +kernel) (by decide) (by decide +kernel) ?_
  refine z_dup (pc := 73) rfl dX7_init_73 ?_
  refine z_I0 (pc := 74) dX7_init_74 mlX7_45 kX2_init vX2_init (by decide) (by decide) (Nat.le_of_ble_eq_true rfl) (qX2_init_29 (r := r5) (zG_le hg (by decide)) (zF_le f5 (by decide))) ⟨Nat.le_of_ble_eq_true rfl, Nat.le_of_ble_eq_true rfl, Nat.le_of_ble_eq_true rfl, Nat.le_of_ble_eq_true rfl⟩ (fun v h1 hq => ?_)
  obtain ⟨rfl, r6, e6, f6, rfl⟩ := hq
  dsimp only [Option.toList, List.nil_append]
  refine x_putR (pc := 77) (n := 31) dX7_init_77 flX7_46 ffX7_46 rfl rfl (fun a => ⟨rfl, rfl⟩) (zF_le f6 (by decide)) (by decide) (fun r7 e7 f7 => ?_)
  refine z_ret (pc := 80) (r := none) rfl dX7_init_80 trivial rfl rfl ?_
  exact ⟨rfl, _, (by subst e1 e2 e3 e4 e5 e6 e7; rfl), zF_le f7 (by decide), rfl⟩
set_option maxRecDepth 100000 in
set_option maxHeartbeats 4000000 in
theorem qX7_init_32 {l : zL} {I : Nat → Nat → Int32} {J : Nat → Nat → Int64} {r : Nat → Nat → Option Nat} (hg : zG 32 I) (hf : zF 33 r) : zMet l mX7_init 40 (zsl (SH.take 40)) [.ref 32] (I, J, r, SH.take 33) (fun v h => v = none ∧ ∃ r1, r1 = rX7 r 32 ∧ zF 40 r1 ∧ h = (I, J, r1, SH.take 40)) := by
  refine z_start [.ref 32] (by decide +kernel) (Nat.le_of_ble_eq_true rfl) rfl ?_
  refine z_aload_0 (pc := 0) dX7_init_0 ?_
  refine z_objInit (pc := 1) dX7_init_1 mlX7_3 w_oi w_oc (by decide) (by decide) ?_
  refine z_aload_0 (pc := 4) dX7_init_4 ?_
  refine z_iconst (pc := 5) (0) dX7_init_5 rfl ?_
  refine x_put0 (pc := 6) dX7_init_6 flX7_9 ffX7_9 rfl rfl ⟨rfl, rfl⟩ (hg _ _ (by decide)) ?_
  refine z_aload_0 (pc := 9) dX7_init_9 ?_
  refine z_iconst (pc := 10) (0) dX7_init_10 rfl ?_
  refine x_put0 (pc := 11) dX7_init_11 flX7_15 ffX7_15 rfl rfl ⟨rfl, rfl⟩ (hg _ _ (by decide)) ?_
  refine z_aload_0 (pc := 14) dX7_init_14 ?_
  refine z_iconst (pc := 15) (0) dX7_init_15 rfl ?_
  refine x_put0 (pc := 16) dX7_init_16 flX7_18 ffX7_18 rfl rfl ⟨rfl, rfl⟩ (hg _ _ (by decide)) ?_
  refine z_aload_0 (pc := 19) dX7_init_19 ?_
  refine z_iconst (pc := 20) (0) dX7_init_20 rfl ?_
  refine x_put0 (pc := 21) dX7_init_21 flX7_21 ffX7_21 rfl rfl ⟨rfl, rfl⟩ (hg _ _ (by decide)) ?_
  refine z_aload_0 (pc := 24) dX7_init_24 ?_
  refine z_bipush (pc := 25) (6) dX7_init_25 rfl ?_
  refine x_nI (pc := 27) 33 6 dX7_init_27 (by decide) (by decide) (by decide) (zG_le hg (by decide)) (by decide +kernel) (by decide +kernel) (by decide) (by decide +kernel) ?_
  refine x_putR (pc := 29) (n := 34) dX7_init_29 flX7_24 ffX7_24 rfl rfl (fun a => ⟨rfl, rfl⟩) (zF_le hf (by decide)) (by decide) (fun r1 e1 f1 => ?_)
  refine z_aload_0 (pc := 32) dX7_init_32 ?_
  refine z_bipush (pc := 33) (6) dX7_init_33 rfl ?_
  refine x_nI (pc := 35) 34 6 dX7_init_35 (by decide) (by decide) (by decide) (zG_le hg (by decide)) (by decide +kernel) (by decide +kernel) (by decide) (by decide +kernel) ?_
  refine x_putR (pc := 37) (n := 35) dX7_init_37 flX7_28 ffX7_28 rfl rfl (fun a => ⟨rfl, rfl⟩) (zF_le f1 (by decide)) (by decide) (fun r2 e2 f2 => ?_)
  refine z_aload_0 (pc := 40) dX7_init_40 ?_
  refine z_bipush (pc := 41) (6) dX7_init_41 rfl ?_
  refine x_nI (pc := 43) 35 6 dX7_init_43 (by decide) (by decide) (by decide) (zG_le hg (by decide)) (by decide +kernel) (by decide +kernel) (by decide) (by decide +kernel) ?_
  refine x_putR (pc := 45) (n := 36) dX7_init_45 flX7_31 ffX7_31 rfl rfl (fun a => ⟨rfl, rfl⟩) (zF_le f2 (by decide)) (by decide) (fun r3 e3 f3 => ?_)
  refine z_aload_0 (pc := 48) dX7_init_48 ?_
  refine z_iconst (pc := 49) (0) dX7_init_49 rfl ?_
  refine x_put0 (pc := 50) dX7_init_50 flX7_34 ffX7_34 rfl rfl ⟨rfl, rfl⟩ (hg _ _ (by decide)) ?_
  refine z_aload_0 (pc := 53) dX7_init_53 ?_
  refine z_bipush (pc := 54) (10) dX7_init_54 rfl ?_
  refine x_nI (pc := 56) 36 10 dX7_init_56 (by decide) (by decide) (by decide) (zG_le hg (by decide)) (by decide +kernel) (by decide +kernel) (by decide) (by decide +kernel) ?_
  refine x_putR (pc := 58) (n := 37) dX7_init_58 flX7_37 ffX7_37 rfl rfl (fun a => ⟨rfl, rfl⟩) (zF_le f3 (by decide)) (by decide) (fun r4 e4 f4 => ?_)
  refine z_aload_0 (pc := 61) dX7_init_61 ?_
  refine z_bipush (pc := 62) (10) dX7_init_62 rfl ?_
  refine x_nI (pc := 64) 37 10 dX7_init_64 (by decide) (by decide) (by decide) (zG_le hg (by decide)) (by decide +kernel) (by decide +kernel) (by decide) (by decide +kernel) ?_
  refine x_putR (pc := 66) (n := 38) dX7_init_66 flX7_40 ffX7_40 rfl rfl (fun a => ⟨rfl, rfl⟩) (zF_le f4 (by decide)) (by decide) (fun r5 e5 f5 => ?_)
  refine z_aload_0 (pc := 69) dX7_init_69 ?_
  refine x_nw (pc := 70) 38 2 dX7_init_70 nX2 clX7_43 (zG_le hg (by decide)) (zF_le f5 (by decide)) (by decide +kernel) (by decide +kernel) (by decide) (by decide +kernel) ?_
  refine z_dup (pc := 73) rfl dX7_init_73 ?_
  refine z_I0 (pc := 74) dX7_init_74 mlX7_45 kX2_init vX2_init (by decide) (by decide) (Nat.le_of_ble_eq_true rfl) (qX2_init_38 (r := r5) (zG_le hg (by decide)) (zF_le f5 (by decide))) ⟨Nat.le_of_ble_eq_true rfl, Nat.le_of_ble_eq_true rfl, Nat.le_of_ble_eq_true rfl, Nat.le_of_ble_eq_true rfl⟩ (fun v h1 hq => ?_)
  obtain ⟨rfl, r6, e6, f6, rfl⟩ := hq
  dsimp only [Option.toList, List.nil_append]
  refine x_putR (pc := 77) (n := 40) dX7_init_77 flX7_46 ffX7_46 rfl rfl (fun a => ⟨rfl, rfl⟩) (zF_le f6 (by decide)) (by decide) (fun r7 e7 f7 => ?_)
  refine z_ret (pc := 80) (r := none) rfl dX7_init_80 trivial rfl rfl ?_
  exact ⟨rfl, _, (by subst e1 e2 e3 e4 e5 e6 e7; rfl), zF_le f7 (by decide), rfl⟩
set_option maxRecDepth 100000 in
set_option maxHeartbeats 4000000 in
theorem qX7_init_40 {l : zL} {I : Nat → Nat → Int32} {J : Nat → Nat → Int64} {r : Nat → Nat → Option Nat} (hg : zG 40 I) (hf : zF 41 r) : zMet l mX7_init 48 (zsl (SH.take 48)) [.ref 40] (I, J, r, SH.take 41) (fun v h => v = none ∧ ∃ r1, r1 = rX7 r 40 ∧ zF 48 r1 ∧ h = (I, J, r1, SH.take 48)) := by
  refine z_start [.ref 40] (by decide +kernel) (Nat.le_of_ble_eq_true rfl) rfl ?_
  refine z_aload_0 (pc := 0) dX7_init_0 ?_
  refine z_objInit (pc := 1) dX7_init_1 mlX7_3 w_oi w_oc (by decide) (by decide) ?_
  refine z_aload_0 (pc := 4) dX7_init_4 ?_
  refine z_iconst (pc := 5) (0) dX7_init_5 rfl ?_
  refine x_put0 (pc := 6) dX7_init_6 flX7_9 ffX7_9 rfl rfl ⟨rfl, rfl⟩ (hg _ _ (by decide)) ?_
  refine z_aload_0 (pc := 9) dX7_init_9 ?_
  refine z_iconst (pc := 10) (0) dX7_init_10 rfl ?_
  refine x_put0 (pc := 11) dX7_init_11 flX7_15 ffX7_15 rfl rfl ⟨rfl, rfl⟩ (hg _ _ (by decide)) ?_
  refine z_aload_0 (pc := 14) dX7_init_14 ?_
  refine z_iconst (pc := 15) (0) dX7_init_15 rfl ?_
  refine x_put0 (pc := 16) dX7_init_16 flX7_18 ffX7_18 rfl rfl ⟨rfl, rfl⟩ (hg _ _ (by decide)) ?_
  refine z_aload_0 (pc := 19) dX7_init_19 ?_
  refine z_iconst (pc := 20) (0) dX7_init_20 rfl ?_
  refine x_put0 (pc := 21) dX7_init_21 flX7_21 ffX7_21 rfl rfl ⟨rfl, rfl⟩ (hg _ _ (by decide)) ?_
  refine z_aload_0 (pc := 24) dX7_init_24 ?_
  refine z_bipush (pc := 25) (6) dX7_init_25 rfl ?_
  refine x_nI (pc := 27) 41 6 dX7_init_27 (by decide) (by decide) (by decide) (zG_le hg (by decide)) (by decide +kernel) (by decide +kernel) (by decide) (by decide +kernel) ?_
  refine x_putR (pc := 29) (n := 42) dX7_init_29 flX7_24 ffX7_24 rfl rfl (fun a => ⟨rfl, rfl⟩) (zF_le hf (by decide)) (by decide) (fun r1 e1 f1 => ?_)
  refine z_aload_0 (pc := 32) dX7_init_32 ?_
  refine z_bipush (pc := 33) (6) dX7_init_33 rfl ?_
  refine x_nI (pc := 35) 42 6 dX7_init_35 (by decide) (by decide) (by decide) (zG_le hg (by decide)) (by decide +kernel) (by decide +kernel) (by decide) (by decide +kernel) ?_
  refine x_putR (pc := 37) (n := 43) dX7_init_37 flX7_28 ffX7_28 rfl rfl (fun a => ⟨rfl, rfl⟩) (zF_le f1 (by decide)) (by decide) (fun r2 e2 f2 => ?_)
  refine z_aload_0 (pc := 40) dX7_init_40 ?_
  refine z_bipush (pc := 41) (6) dX7_init_41 rfl ?_
  refine x_nI (pc := 43) 43 6 dX7_init_43 (by decide) (by decide) (by decide) (zG_le hg (by decide)) (by decide +kernel) (by decide +kernel) (by decide) (by decide +kernel) ?_
  refine x_putR (pc := 45) (n := 44) dX7_init_45 flX7_31 ffX7_31 rfl rfl (fun a => ⟨rfl, rfl⟩) (zF_le f2 (by decide)) (by decide) (fun r3 e3 f3 => ?_)
  refine z_aload_0 (pc := 48) dX7_init_48 ?_
  refine z_iconst (pc := 49) (0) dX7_init_49 rfl ?_
  refine x_put0 (pc := 50) dX7_init_50 flX7_34 ffX7_34 rfl rfl ⟨rfl, rfl⟩ (hg _ _ (by decide)) ?_
  refine z_aload_0 (pc := 53) dX7_init_53 ?_
  refine z_bipush (pc := 54) (10) dX7_init_54 rfl ?_
  refine x_nI (pc := 56) 44 10 dX7_init_56 (by decide) (by decide) (by decide) (zG_le hg (by decide)) (by decide +kernel) (by decide +kernel) (by decide) (by decide +kernel) ?_
  refine x_putR (pc := 58) (n := 45) dX7_init_58 flX7_37 ffX7_37 rfl rfl (fun a => ⟨rfl, rfl⟩) (zF_le f3 (by decide)) (by decide) (fun r4 e4 f4 => ?_)
  refine z_aload_0 (pc := 61) dX7_init_61 ?_
  refine z_bipush (pc := 62) (10) dX7_init_62 rfl ?_
  refine x_nI (pc := 64) 45 10 dX7_init_64 (by decide) (by decide) (by decide) (zG_le hg (by decide)) (by decide +kernel) (by decide +kernel) (by decide) (by decide +kernel) ?_
  refine x_putR (pc := 66) (n := 46) dX7_init_66 flX7_40 ffX7_40 rfl rfl (fun a => ⟨rfl, rfl⟩) (zF_le f4 (by decide)) (by decide) (fun r5 e5 f5 => ?_)
  refine z_aload_0 (pc := 69) dX7_init_69 ?_
  refine x_nw (pc := 70) 46 2 dX7_init_70 nX2 clX7_43 (zG_le hg (by decide)) (zF_le f5 (by decide)) (by decide +kernel) (by decide +kernel) (by decide) (by decide +kernel) ?_
  refine z_dup (pc := 73) rfl dX7_init_73 ?_
  refine z_I0 (pc := 74) dX7_init_74 mlX7_45 kX2_init vX2_init (by decide) (by decide) (Nat.le_of_ble_eq_true rfl) (qX2_init_46 (r := r5) (zG_le hg (by decide)) (zF_le f5 (by decide))) ⟨Nat.le_of_ble_eq_true rfl, Nat.le_of_ble_eq_true rfl, Nat.le_of_ble_eq_true rfl, Nat.le_of_ble_eq_true rfl⟩ (fun v h1 hq => ?_)
  obtain ⟨rfl, r6, e6, f6, rfl⟩ := hq
  dsimp only [Option.toList, List.nil_append]
  refine x_putR (pc := 77) (n := 48) dX7_init_77 flX7_46 ffX7_46 rfl rfl (fun a => ⟨rfl, rfl⟩) (zF_le f6 (by decide)) (by decide) (fun r7 e7 f7 => ?_)
  refine z_ret (pc := 80) (r := none) rfl dX7_init_80 trivial rfl rfl ?_
  exact ⟨rfl, _, (by subst e1 e2 e3 e4 e5 e6 e7; rfl), zF_le f7 (by decide), rfl⟩
set_option maxRecDepth 100000 in
set_option maxHeartbeats 4000000 in
theorem qX5_init_1 {l : zL} {I : Nat → Nat → Int32} {J : Nat → Nat → Int64} {r : Nat → Nat → Option Nat} (hg : zG 1 I) (hf : zF 2 r) : zMet l mX5_init 13 (zsl (SH.take 13)) [.ref 1] (I, J, r, SH.take 2) (fun v h => v = none ∧ ∃ r1, r1 = rX5 r 1 ∧ zF 13 r1 ∧ ∃ I1, I1 = zm8 I (12) ∧ zG 13 I1 ∧ h = (I1, J, r1, SH.take 13)) := by
  refine z_start [.ref 1] (by decide +kernel) (Nat.le_of_ble_eq_true rfl) rfl ?_
  refine z_aload_0 (pc := 0) dX5_init_0 ?_
  refine z_objInit (pc := 1) dX5_init_1 mlX5_3 w_oi w_oc (by decide) (by decide) ?_
  refine z_aload_0 (pc := 4) dX5_init_4 ?_
  refine z_bipush (pc := 5) (8) dX5_init_5 rfl ?_
  refine z_bipush (pc := 7) (40) dX5_init_7 rfl ?_
  refine x_nM (pc := 9) 2 8 40 dX5_init_9 clX5_9 (by decide) (by decide) (by decide) (by decide) (by decide) (by decide) (zG_le hg (by decide)) (zF_le hf (by decide)) (by decide +kernel) (by decide +kernel) (by decide) (by decide +kernel) (fun r1 e1 f1 => ?_)
  refine x_putR (pc := 13) (n := 11) dX5_init_13 flX5_11 ffX5_11 rfl rfl (fun a => ⟨rfl, rfl⟩) (zF_le f1 (by decide)) (by decide) (fun r2 e2 f2 => ?_)
  refine z_aload_0 (pc := 16) dX5_init_16 ?_
  refine z_bipush (pc := 17) (8) dX5_init_17 rfl ?_
  refine x_nI (pc := 19) 11 8 dX5_init_19 (by decide) (by decide) (by decide) (zG_le hg (by decide)) (by decide +kernel) (by decide +kernel) (by decide) (by decide +kernel) ?_
  refine x_putR (pc := 21) (n := 12) dX5_init_21 flX5_16 ffX5_16 rfl rfl (fun a => ⟨rfl, rfl⟩) (zF_le f2 (by decide)) (by decide) (fun r3 e3 f3 => ?_)
  refine z_aload_0 (pc := 24) dX5_init_24 ?_
  refine z_bipush (pc := 25) (8) dX5_init_25 rfl ?_
  refine x_nI (pc := 27) 12 8 dX5_init_27 (by decide) (by decide) (by decide) (zG_le hg (by decide)) (by decide +kernel) (by decide +kernel) (by decide) (by decide +kernel) ?_
  refine z_dup (pc := 29) rfl dX5_init_29 ?_
  refine z_iconst (pc := 30) (0) dX5_init_30 rfl ?_
  refine z_iconst (pc := 31) (-1) dX5_init_31 rfl ?_
  refine x_iast (pc := 32) (n := 13) 0 dX5_init_32 rfl (by unfold vp_in; decide) (by decide) (zG_le hg (by decide)) (by decide) (fun I4 u4 g4 => ?_)
  refine z_dup (pc := 33) rfl dX5_init_33 ?_
  refine z_iconst (pc := 34) (1) dX5_init_34 rfl ?_
  refine z_iconst (pc := 35) (-1) dX5_init_35 rfl ?_
  refine x_iast (pc := 36) (n := 13) 1 dX5_init_36 rfl (by unfold vp_in; decide) (by decide) (zG_le g4 (by decide)) (by decide) (fun I5 u5 g5 => ?_)
  refine z_dup (pc := 37) rfl dX5_init_37 ?_
  refine z_iconst (pc := 38) (2) dX5_init_38 rfl ?_
  refine z_iconst (pc := 39) (-1) dX5_init_39 rfl ?_
  refine x_iast (pc := 40) (n := 13) 2 dX5_init_40 rfl (by unfold vp_in; decide) (by decide) (zG_le g5 (by decide)) (by decide) (fun I6 u6 g6 => ?_)
  refine z_dup (pc := 41) rfl dX5_init_41 ?_
  refine z_iconst (pc := 42) (3) dX5_init_42 rfl ?_
  refine z_iconst (pc := 43) (-1) dX5_init_43 rfl ?_
  refine x_iast (pc := 44) (n := 13) 3 dX5_init_44 rfl (by unfold vp_in; decide) (by decide) (zG_le g6 (by decide)) (by decide) (fun I7 u7 g7 => ?_)
  refine z_dup (pc := 45) rfl dX5_init_45 ?_
  refine z_iconst (pc := 46) (4) dX5_init_46 rfl ?_
  refine z_iconst (pc := 47) (-1) dX5_init_47 rfl ?_
  refine x_iast (pc := 48) (n := 13) 4 dX5_init_48 rfl (by unfold vp_in; decide) (by decide) (zG_le g7 (by decide)) (by decide) (fun I8 u8 g8 => ?_)
  refine z_dup (pc := 49) rfl dX5_init_49 ?_
  refine z_iconst (pc := 50) (5) dX5_init_50 rfl ?_
  refine z_iconst (pc := 51) (-1) dX5_init_51 rfl ?_
  refine x_iast (pc := 52) (n := 13) 5 dX5_init_52 rfl (by unfold vp_in; decide) (by decide) (zG_le g8 (by decide)) (by decide) (fun I9 u9 g9 => ?_)
  refine z_dup (pc := 53) rfl dX5_init_53 ?_
  refine z_bipush (pc := 54) (6) dX5_init_54 rfl ?_
  refine z_iconst (pc := 56) (-1) dX5_init_56 rfl ?_
  refine x_iast (pc := 57) (n := 13) 6 dX5_init_57 rfl (by unfold vp_in; decide) (by decide) (zG_le g9 (by decide)) (by decide) (fun I10 u10 g10 => ?_)
  refine z_dup (pc := 58) rfl dX5_init_58 ?_
  refine z_bipush (pc := 59) (7) dX5_init_59 rfl ?_
  refine z_iconst (pc := 61) (-1) dX5_init_61 rfl ?_
  refine x_iast (pc := 62) (n := 13) 7 dX5_init_62 rfl (by unfold vp_in; decide) (by decide) (zG_le g10 (by decide)) (by decide) (fun I11 u11 g11 => ?_)
  refine x_putR (pc := 63) (n := 13) dX5_init_63 flX5_20 ffX5_20 rfl rfl (fun a => ⟨rfl, rfl⟩) (zF_le f3 (by decide)) (by decide) (fun r12 e12 f12 => ?_)
  refine z_ret (pc := 66) (r := none) rfl dX5_init_66 trivial rfl rfl ?_
  exact ⟨rfl, _, (by subst e1 e2 e3 e12; rfl), zF_le f12 (by decide), _, (by subst u4 u5 u6 u7 u8 u9 u10 u11; rfl), zG_le g11 (by decide), rfl⟩
set_option maxRecDepth 100000 in
set_option maxHeartbeats 4000000 in
theorem qX4_init_13 {l : zL} {I : Nat → Nat → Int32} {J : Nat → Nat → Int64} {r : Nat → Nat → Option Nat} (hg : zG 13 I) (hf : zF 14 r) : zMet l mX4_init 15 (zsl (SH.take 15)) [.ref 13] (I, J, r, SH.take 14) (fun v h => v = none ∧ ∃ r1, r1 = rX4 r 13 ∧ zF 15 r1 ∧ h = (I, J, r1, SH.take 15)) := by
  refine z_start [.ref 13] (by decide +kernel) (Nat.le_of_ble_eq_true rfl) rfl ?_
  refine z_aload_0 (pc := 0) dX4_init_0 ?_
  refine z_objInit (pc := 1) dX4_init_1 mlX4_3 w_oi w_oc (by decide) (by decide) ?_
  refine z_aload_0 (pc := 4) dX4_init_4 ?_
  refine z_bipush (pc := 5) (120) dX4_init_5 rfl ?_
  refine x_nI (pc := 7) 14 120 dX4_init_7 (by decide) (by decide) (by decide) (zG_le hg (by decide)) (by decide +kernel) (by decide +kernel) (by decide) (by decide +kernel) ?_
  refine x_putR (pc := 9) (n := 15) dX4_init_9 flX4_9 ffX4_9 rfl rfl (fun a => ⟨rfl, rfl⟩) (zF_le hf (by decide)) (by decide) (fun r1 e1 f1 => ?_)
  refine z_aload_0 (pc := 12) dX4_init_12 ?_
  refine z_iconst (pc := 13) (0) dX4_init_13 rfl ?_
  refine x_put0 (pc := 14) dX4_init_14 flX4_15 ffX4_15 rfl rfl ⟨rfl, rfl⟩ (hg _ _ (by decide)) ?_
  refine z_aload_0 (pc := 17) dX4_init_17 ?_
  refine z_iconst (pc := 18) (0) dX4_init_18 rfl ?_
  refine x_put0 (pc := 19) dX4_init_19 flX4_19 ffX4_19 rfl rfl ⟨rfl, rfl⟩ (hg _ _ (by decide)) ?_
  refine z_aload_0 (pc := 22) dX4_init_22 ?_
  refine z_iconst (pc := 23) (0) dX4_init_23 rfl ?_
  refine x_put0 (pc := 24) dX4_init_24 flX4_22 ffX4_22 rfl rfl ⟨rfl, rfl⟩ (hg _ _ (by decide)) ?_
  refine z_ret (pc := 27) (r := none) rfl dX4_init_27 trivial rfl rfl ?_
  exact ⟨rfl, _, (by subst e1; rfl), zF_le f1 (by decide), rfl⟩
set_option maxRecDepth 100000 in
set_option maxHeartbeats 4000000 in
theorem qX0_init_48 {l : zL} {I : Nat → Nat → Int32} {J : Nat → Nat → Int64} {r : Nat → Nat → Option Nat} (hg : zG 48 I) (hf : zF 49 r) : zMet l mX0_init 74 (zsl (SH.take 74)) [.ref 48] (I, J, r, SH.take 49) (fun v h => v = none ∧ ∃ r1, r1 = rX0 r 48 ∧ zF 74 r1 ∧ h = (I, J, r1, SH.take 74)) := by
  refine z_start [.ref 48] (by decide +kernel) (Nat.le_of_ble_eq_true rfl) rfl ?_
  refine z_aload_0 (pc := 0) dX0_init_0 ?_
  refine z_objInit (pc := 1) dX0_init_1 mlX0_3 w_oi w_oc (by decide) (by decide) ?_
  refine z_aload_0 (pc := 4) dX0_init_4 ?_
  refine z_bipush (pc := 5) (24) dX0_init_5 rfl ?_
  refine z_bipush (pc := 7) (19) dX0_init_7 rfl ?_
  refine x_nM (pc := 9) 49 24 19 dX0_init_9 clX0_11 (by decide) (by decide) (by decide) (by decide) (by decide) (by decide) (zG_le hg (by decide)) (zF_le hf (by decide)) (by decide +kernel) (by decide +kernel) (by decide) (by decide +kernel) (fun r1 e1 f1 => ?_)
  refine x_putR (pc := 13) (n := 74) dX0_init_13 flX0_13 ffX0_13 rfl rfl (fun a => ⟨rfl, rfl⟩) (zF_le f1 (by decide)) (by decide) (fun r2 e2 f2 => ?_)
  refine z_aload_0 (pc := 16) dX0_init_16 ?_
  refine z_iconst (pc := 17) (0) dX0_init_17 rfl ?_
  refine x_put0 (pc := 18) dX0_init_18 flX0_18 ffX0_18 rfl rfl ⟨rfl, rfl⟩ (hg _ _ (by decide)) ?_
  refine z_aload_0 (pc := 21) dX0_init_21 ?_
  refine z_iconst (pc := 22) (0) dX0_init_22 rfl ?_
  refine x_put0 (pc := 23) dX0_init_23 flX0_22 ffX0_22 rfl rfl ⟨rfl, rfl⟩ (hg _ _ (by decide)) ?_
  refine z_ret (pc := 26) (r := none) rfl dX0_init_26 trivial rfl rfl ?_
  exact ⟨rfl, _, (by subst e1 e2; rfl), zF_le f2 (by decide), rfl⟩
set_option maxRecDepth 100000 in
set_option maxHeartbeats 4000000 in
theorem qX6_init_74 {l : zL} {I : Nat → Nat → Int32} {J : Nat → Nat → Int64} {r : Nat → Nat → Option Nat} (hg : zG 74 I) (hf : zF 75 r) : zMet l mX6_init 79 (zsl (SH.take 79)) [.ref 74, .ref 15] (I, J, r, SH.take 75) (fun v h => v = none ∧ ∃ r1, r1 = rX6 r 74 ∧ zF 79 r1 ∧ h = (I, J, r1, SH.take 79)) := by
  refine z_start [.ref 74, .ref 15] (by decide +kernel) (Nat.le_of_ble_eq_true rfl) rfl ?_
  refine z_aload_0 (pc := 0) dX6_init_0 ?_
  refine z_objInit (pc := 1) dX6_init_1 mlX6_3 w_oi w_oc (by decide) (by decide) ?_
  refine z_aload_0 (pc := 4) dX6_init_4 ?_
  refine z_bipush (pc := 5) (6) dX6_init_5 rfl ?_
  refine x_nI (pc := 7) 75 6 dX6_init_7 (by decide) (by decide) (by decide) (zG_le hg (by decide)) (by decide +kernel) (by decide +kernel) (by decide) (by decide +kernel) ?_
  refine x_putR (pc := 9) (n := 76) dX6_init_9 flX6_9 ffX6_9 rfl rfl (fun a => ⟨rfl, rfl⟩) (zF_le hf (by decide)) (by decide) (fun r1 e1 f1 => ?_)
  refine z_aload_0 (pc := 12) dX6_init_12 ?_
  refine z_bipush (pc := 13) (6) dX6_init_13 rfl ?_
  refine x_nI (pc := 15) 76 6 dX6_init_15 (by decide) (by decide) (by decide) (zG_le hg (by decide)) (by decide +kernel) (by decide +kernel) (by decide) (by decide +kernel) ?_
  refine x_putR (pc := 17) (n := 77) dX6_init_17 flX6_15 ffX6_15 rfl rfl (fun a => ⟨rfl, rfl⟩) (zF_le f1 (by decide)) (by decide) (fun r2 e2 f2 => ?_)
  refine z_aload_0 (pc := 20) dX6_init_20 ?_
  refine z_bipush (pc := 21) (6) dX6_init_21 rfl ?_
  refine x_nI (pc := 23) 77 6 dX6_init_23 (by decide) (by decide) (by decide) (zG_le hg (by decide)) (by decide +kernel) (by decide +kernel) (by decide) (by decide +kernel) ?_
  refine x_putR (pc := 25) (n := 78) dX6_init_25 flX6_18 (Or.inl ffX6_18) rfl rfl (fun a => ⟨rfl, rfl⟩) (zF_le f2 (by decide)) (by decide) (fun r3 e3 f3 => ?_)
  refine z_aload_0 (pc := 28) dX6_init_28 ?_
  refine z_bipush (pc := 29) (6) dX6_init_29 rfl ?_
  refine x_nI (pc := 31) 78 6 dX6_init_31 (by decide) (by decide) (by decide) (zG_le hg (by decide)) (by decide +kernel) (by decide +kernel) (by decide) (by decide +kernel) ?_
  refine x_putR (pc := 33) (n := 79) dX6_init_33 flX6_21 (Or.inl ffX6_21) rfl rfl (fun a => ⟨rfl, rfl⟩) (zF_le f3 (by decide)) (by decide) (fun r4 e4 f4 => ?_)
  refine z_aload_0 (pc := 36) dX6_init_36 ?_
  refine z_iconst (pc := 37) (0) dX6_init_37 rfl ?_
  refine x_put0 (pc := 38) dX6_init_38 flX6_24 ffX6_24 rfl rfl ⟨rfl, rfl⟩ (hg _ _ (by decide)) ?_
  refine z_aload_0 (pc := 41) dX6_init_41 ?_
  refine z_iconst (pc := 42) (0) dX6_init_42 rfl ?_
  refine x_put0 (pc := 43) dX6_init_43 flX6_28 ffX6_28 rfl rfl ⟨rfl, rfl⟩ (hg _ _ (by decide)) ?_
  refine z_aload_0 (pc := 46) dX6_init_46 ?_
  refine z_iconst (pc := 47) (0) dX6_init_47 rfl ?_
  refine x_put0 (pc := 48) dX6_init_48 flX6_31 ffX6_31 rfl rfl ⟨rfl, rfl⟩ (hg _ _ (by decide)) ?_
  refine z_aload_0 (pc := 51) dX6_init_51 ?_
  refine z_iconst (pc := 52) (0) dX6_init_52 rfl ?_
  refine x_put0 (pc := 53) dX6_init_53 flX6_34 ffX6_34 rfl rfl ⟨rfl, rfl⟩ (hg _ _ (by decide)) ?_
  refine z_aload_0 (pc := 56) dX6_init_56 ?_
  refine z_iconst (pc := 57) (0) dX6_init_57 rfl ?_
  refine x_put0 (pc := 58) dX6_init_58 flX6_37 ffX6_37 rfl rfl ⟨rfl, rfl⟩ (hg _ _ (by decide)) ?_
  refine z_aload_0 (pc := 61) dX6_init_61 ?_
  refine z_aload_1 (pc := 62) dX6_init_62 ?_
  refine x_putR (pc := 63) (n := 79) dX6_init_63 flX6_40 ffX6_40 rfl rfl (fun a => ⟨rfl, rfl⟩) (zF_le f4 (by decide)) (by decide) (fun r5 e5 f5 => ?_)
  refine z_ret (pc := 66) (r := none) rfl dX6_init_66 trivial rfl rfl ?_
  exact ⟨rfl, _, (by subst e1 e2 e3 e4 e5; rfl), zF_le f5 (by decide), rfl⟩
set_option maxRecDepth 100000 in
set_option maxHeartbeats 4000000 in
theorem qX3_init_79 {l : zL} {I : Nat → Nat → Int32} {J : Nat → Nat → Int64} {r : Nat → Nat → Option Nat} (hg : zG 79 I) (hf : zF 80 r) (hJ : ∀ a b, J a b = 0) : zMet l mX3_init 83 (zsl (SH.take 83)) [.ref 79, .ref 15, .ref 74] (I, J, r, SH.take 80) (fun v h => v = none ∧ ∃ r1, r1 = rX3 r 79 ∧ zF 83 r1 ∧ h = (I, J, r1, SH.take 83)) := by
  refine z_start [.ref 79, .ref 15, .ref 74] (by decide +kernel) (Nat.le_of_ble_eq_true rfl) rfl ?_
  refine z_aload_0 (pc := 0) dX3_init_0 ?_
  refine z_objInit (pc := 1) dX3_init_1 mlX3_3 w_oi w_oc (by decide) (by decide) ?_
  refine z_aload_0 (pc := 4) dX3_init_4 ?_
  refine x_nw (pc := 5) 80 2 dX3_init_5 nX2 clX3_9 (zG_le hg (by decide)) (zF_le hf (by decide)) (by decide +kernel) (by decide +kernel) (by decide) (by decide +kernel) ?_
  refine z_dup (pc := 8) rfl dX3_init_8 ?_
  refine z_I0 (pc := 9) dX3_init_9 mlX3_11 kX2_init vX2_init (by decide) (by decide) (Nat.le_of_ble_eq_true rfl) (qX2_init_80 (r := r) (zG_le hg (by decide)) (zF_le hf (by decide))) ⟨Nat.le_of_ble_eq_true rfl, Nat.le_of_ble_eq_true rfl, Nat.le_of_ble_eq_true rfl, Nat.le_of_ble_eq_true rfl⟩ (fun v h1 hq => ?_)
  obtain ⟨rfl, r1, e1, f1, rfl⟩ := hq
  dsimp only [Option.toList, List.nil_append]
  refine x_putR (pc := 12) (n := 82) dX3_init_12 flX3_12 ffX3_12 rfl rfl (fun a => ⟨rfl, rfl⟩) (zF_le f1 (by decide)) (by decide) (fun r2 e2 f2 => ?_)
  refine z_aload_0 (pc := 15) dX3_init_15 ?_
  refine z_bipush (pc := 16) (11) dX3_init_16 rfl ?_
  refine x_nJ (pc := 18) 82 11 dX3_init_18 (by decide) (by decide) (by decide) hJ (by decide +kernel) (by decide +kernel) (by decide) (by decide +kernel) ?_
  refine x_putR (pc := 20) (n := 83) dX3_init_20 flX3_18 ffX3_18 rfl rfl (fun a => ⟨rfl, rfl⟩) (zF_le f2 (by decide)) (by decide) (fun r3 e3 f3 => ?_)
  refine z_aload_0 (pc := 23) dX3_init_23 ?_
  refine z_aload_1 (pc := 24) dX3_init_24 ?_
  refine x_putR (pc := 25) (n := 83) dX3_init_25 flX3_22 ffX3_22 rfl rfl (fun a => ⟨rfl, rfl⟩) (zF_le f3 (by decide)) (by decide) (fun r4 e4 f4 => ?_)
  refine z_aload_0 (pc := 28) dX3_init_28 ?_
  refine z_aload_2 (pc := 29) dX3_init_29 ?_
  refine x_putR (pc := 30) (n := 83) dX3_init_30 flX3_26 ffX3_26 rfl rfl (fun a => ⟨rfl, rfl⟩) (zF_le f4 (by decide)) (by decide) (fun r5 e5 f5 => ?_)
  refine z_ret (pc := 33) (r := none) rfl dX3_init_33 trivial rfl rfl ?_
  exact ⟨rfl, _, (by subst e1 e2 e3 e4 e5; rfl), zF_le f5 (by decide), rfl⟩
set_option maxRecDepth 100000 in
set_option maxHeartbeats 4000000 in
theorem qX1_init_83 {l : zL} {I : Nat → Nat → Int32} {J : Nat → Nat → Int64} {r : Nat → Nat → Option Nat} (hg : zG 83 I) (hf : zF 84 r) : zMet l mX1_init 85 (zsl (SH.take 85)) [.ref 83, .ref 15] (I, J, r, SH.take 84) (fun v h => v = none ∧ ∃ r1, r1 = rX1 r 83 ∧ zF 85 r1 ∧ h = (I, J, r1, SH.take 85)) := by
  refine z_start [.ref 83, .ref 15] (by decide +kernel) (Nat.le_of_ble_eq_true rfl) rfl ?_
  refine z_aload_0 (pc := 0) dX1_init_0 ?_
  refine z_objInit (pc := 1) dX1_init_1 mlX1_3 w_oi w_oc (by decide) (by decide) ?_
  refine z_aload_0 (pc := 4) dX1_init_4 ?_
  refine z_bipush (pc := 5) (16) dX1_init_5 rfl ?_
  refine x_nI (pc := 7) 84 16 dX1_init_7 (by decide) (by decide) (by decide) (zG_le hg (by decide)) (by decide +kernel) (by decide +kernel) (by decide) (by decide +kernel) ?_
  refine x_putR (pc := 9) (n := 85) dX1_init_9 flX1_11 ffX1_11 rfl rfl (fun a => ⟨rfl, rfl⟩) (zF_le hf (by decide)) (by decide) (fun r1 e1 f1 => ?_)
  refine z_aload_0 (pc := 12) dX1_init_12 ?_
  refine z_iconst (pc := 13) (0) dX1_init_13 rfl ?_
  refine x_put0 (pc := 14) dX1_init_14 flX1_15 ffX1_15 rfl rfl ⟨rfl, rfl⟩ (hg _ _ (by decide)) ?_
  refine z_aload_0 (pc := 17) dX1_init_17 ?_
  refine z_aload_1 (pc := 18) dX1_init_18 ?_
  refine x_putR (pc := 19) (n := 85) dX1_init_19 flX1_19 ffX1_19 rfl rfl (fun a => ⟨rfl, rfl⟩) (zF_le f1 (by decide)) (by decide) (fun r2 e2 f2 => ?_)
  refine z_ret (pc := 22) (r := none) rfl dX1_init_22 trivial rfl rfl ?_
  exact ⟨rfl, _, (by subst e1 e2; rfl), zF_le f2 (by decide), rfl⟩
def rX8 (r : Nat → Nat → Option Nat) (c : Nat) : Nat → Nat → Option Nat := zupR (rX1 (zupR (rX3 (zupR (rX6 (zupR (rX0 (zupR (zupR (rX7 (zupR (rX7 (zupR (rX7 (zupR (rX7 (zupR (rX4 (zupR (rX5 (r) 1) 0 0 (some 1)) 13) 0 1 (some 13)) 15) 0 2 (some 15)) 23) 0 3 (some 23)) 32) 31 0 (some 32)) 40) 31 1 (some 40)) 0 4 (some 31)) 48) 0 5 (some 48)) 74) 0 6 (some 74)) 79) 0 7 (some 79)) 83) 0 8 (some 83)
set_option maxRecDepth 100000 in
set_option maxHeartbeats 4000000 in
theorem qX8_init_0 {l : zL} {I : Nat → Nat → Int32} {J : Nat → Nat → Int64} {r : Nat → Nat → Option Nat} (hg : zG 0 I) (hf : zF 1 r) (hJ : ∀ a b, J a b = 0) : zMet l mX8_init 85 (zsl (SH.take 85)) [.ref 0] (I, J, r, SH.take 1) (fun v h => v = none ∧ ∃ r1, r1 = rX8 r 0 ∧ zF 85 r1 ∧ ∃ I1, I1 = zm8 I (12) ∧ zG 85 I1 ∧ h = (I1, J, r1, SH.take 85)) := by
  refine z_start [.ref 0] (by decide +kernel) (Nat.le_of_ble_eq_true rfl) rfl ?_
  refine z_aload_0 (pc := 0) dX8_init_0 ?_
  refine z_objInit (pc := 1) dX8_init_1 mlX8_1 w_oi w_oc (by decide) (by decide) ?_
  refine z_aload_0 (pc := 4) dX8_init_4 ?_
  refine x_nw (pc := 5) 1 5 dX8_init_5 nX5 clX8_7 (zG_le hg (by decide)) (zF_le hf (by decide)) (by decide +kernel) (by decide +kernel) (by decide) (by decide +kernel) ?_
  refine z_dup (pc := 8) rfl dX8_init_8 ?_
  refine z_I0 (pc := 9) dX8_init_9 mlX8_9 kX5_init vX5_init (by decide) (by decide) (Nat.le_of_ble_eq_true rfl) (qX5_init_1 (r := r) (zG_le hg (by decide)) (zF_le hf (by decide))) ⟨Nat.le_of_ble_eq_true rfl, Nat.le_of_ble_eq_true rfl, Nat.le_of_ble_eq_true rfl, Nat.le_of_ble_eq_true rfl⟩ (fun v h1 hq => ?_)
  obtain ⟨rfl, r1, e1, f1, I1, u1, g1, rfl⟩ := hq
  dsimp only [Option.toList, List.nil_append]
  refine x_putR (pc := 12) (n := 13) dX8_init_12 flX8_10 ffX8_10 rfl rfl (fun a => ⟨rfl, rfl⟩) (zF_le f1 (by decide)) (by decide) (fun r2 e2 f2 => ?_)
  refine z_aload_0 (pc := 15) dX8_init_15 ?_
  refine x_nw (pc := 16) 13 4 dX8_init_16 nX4 clX8_16 (zG_le g1 (by decide)) (zF_le f2 (by decide)) (by decide +kernel) (by decide +kernel) (by decide) (by decide +kernel) ?_
  refine z_dup (pc := 19) rfl dX8_init_19 ?_
  refine z_I0 (pc := 20) dX8_init_20 mlX8_18 kX4_init vX4_init (by decide) (by decide) (Nat.le_of_ble_eq_true rfl) (qX4_init_13 (r := r2) (zG_le g1 (by decide)) (zF_le f2 (by decide))) ⟨Nat.le_of_ble_eq_true rfl, Nat.le_of_ble_eq_true rfl, Nat.le_of_ble_eq_true rfl, Nat.le_of_ble_eq_true rfl⟩ (fun v h1 hq => ?_)
  obtain ⟨rfl, r3, e3, f3, rfl⟩ := hq
  dsimp only [Option.toList, List.nil_append]
  refine x_putR (pc := 23) (n := 15) dX8_init_23 flX8_19 ffX8_19 rfl rfl (fun a => ⟨rfl, rfl⟩) (zF_le f3 (by decide)) (by decide) (fun r4 e4 f4 => ?_)
  refine z_aload_0 (pc := 26) dX8_init_26 ?_
  refine x_nw (pc := 27) 15 7 dX8_init_27 nX7 clX8_23 (zG_le g1 (by decide)) (zF_le f4 (by decide)) (by decide +kernel) (by decide +kernel) (by decide) (by decide +kernel) ?_
  refine z_dup (pc := 30) rfl dX8_init_30 ?_
  refine z_I0 (pc := 31) dX8_init_31 mlX8_25 kX7_init vX7_init (by decide) (by decide) (Nat.le_of_ble_eq_true rfl) (qX7_init_15 (r := r4) (zG_le g1 (by decide)) (zF_le f4 (by decide))) ⟨Nat.le_of_ble_eq_true rfl, Nat.le_of_ble_eq_true rfl, Nat.le_of_ble_eq_true rfl, Nat.le_of_ble_eq_true rfl⟩ (fun v h1 hq => ?_)
  obtain ⟨rfl, r5, e5, f5, rfl⟩ := hq
  dsimp only [Option.toList, List.nil_append]
  refine x_putR (pc := 34) (n := 23) dX8_init_34 flX8_26 ffX8_26 rfl rfl (fun a => ⟨rfl, rfl⟩) (zF_le f5 (by decide)) (by decide) (fun r6 e6 f6 => ?_)
  refine z_aload_0 (pc := 37) dX8_init_37 ?_
  refine x_nw (pc := 38) 23 7 dX8_init_38 nX7 clX8_23 (zG_le g1 (by decide)) (zF_le f6 (by decide)) (by decide +kernel) (by decide +kernel) (by decide) (by decide +kernel) ?_
  refine z_dup (pc := 41) rfl dX8_init_41 ?_
  refine z_I0 (pc := 42) dX8_init_42 mlX8_25 kX7_init vX7_init (by decide) (by decide) (Nat.le_of_ble_eq_true rfl) (qX7_init_23 (r := r6) (zG_le g1 (by decide)) (zF_le f6 (by decide))) ⟨Nat.le_of_ble_eq_true rfl, Nat.le_of_ble_eq_true rfl, Nat.le_of_ble_eq_true rfl, Nat.le_of_ble_eq_true rfl⟩ (fun v h1 hq => ?_)
  obtain ⟨rfl, r7, e7, f7, rfl⟩ := hq
  dsimp only [Option.toList, List.nil_append]
  refine x_putR (pc := 45) (n := 31) dX8_init_45 flX8_30 ffX8_30 rfl rfl (fun a => ⟨rfl, rfl⟩) (zF_le f7 (by decide)) (by decide) (fun r8 e8 f8 => ?_)
  refine z_aload_0 (pc := 48) dX8_init_48 ?_
  refine z_iconst (pc := 49) (2) dX8_init_49 rfl ?_
  refine x_nT (pc := 50) 31 2 dX8_init_50 clX8_23 (by decide) (by decide) (by decide) (zF_le f8 (by decide)) (by decide +kernel) (by decide +kernel) (by decide) (by decide +kernel) ?_
  refine z_dup (pc := 53) rfl dX8_init_53 ?_
  refine z_iconst (pc := 54) (0) dX8_init_54 rfl ?_
  refine x_nw (pc := 55) 32 7 dX8_init_55 nX7 clX8_23 (zG_le g1 (by decide)) (zF_le f8 (by decide)) (by decide +kernel) (by decide +kernel) (by decide) (by decide +kernel) ?_
  refine z_dup (pc := 58) rfl dX8_init_58 ?_
  refine z_I0 (pc := 59) dX8_init_59 mlX8_25 kX7_init vX7_init (by decide) (by decide) (Nat.le_of_ble_eq_true rfl) (qX7_init_32 (r := r8) (zG_le g1 (by decide)) (zF_le f8 (by decide))) ⟨Nat.le_of_ble_eq_true rfl, Nat.le_of_ble_eq_true rfl, Nat.le_of_ble_eq_true rfl, Nat.le_of_ble_eq_true rfl⟩ (fun v h1 hq => ?_)
  obtain ⟨rfl, r9, e9, f9, rfl⟩ := hq
  dsimp only [Option.toList, List.nil_append]
  refine x_aast (pc := 62) (n := 40) 0 dX8_init_62 rfl rfl (by unfold vp_in; decide) (by decide) (zF_le f9 (by decide)) (by decide) (fun r10 e10 f10 => ?_)
  refine z_dup (pc := 63) rfl dX8_init_63 ?_
  refine z_iconst (pc := 64) (1) dX8_init_64 rfl ?_
  refine x_nw (pc := 65) 40 7 dX8_init_65 nX7 clX8_23 (zG_le g1 (by decide)) (zF_le f10 (by decide)) (by decide +kernel) (by decide +kernel) (by decide) (by decide +kernel) ?_
  refine z_dup (pc := 68) rfl dX8_init_68 ?_
  refine z_I0 (pc := 69) dX8_init_69 mlX8_25 kX7_init vX7_init (by decide) (by decide) (Nat.le_of_ble_eq_true rfl) (qX7_init_40 (r := r10) (zG_le g1 (by decide)) (zF_le f10 (by decide))) ⟨Nat.le_of_ble_eq_true rfl, Nat.le_of_ble_eq_true rfl, Nat.le_of_ble_eq_true rfl, Nat.le_of_ble_eq_true rfl⟩ (fun v h1 hq => ?_)
  obtain ⟨rfl, r11, e11, f11, rfl⟩ := hq
  dsimp only [Option.toList, List.nil_append]
  refine x_aast (pc := 72) (n := 48) 1 dX8_init_72 rfl rfl (by unfold vp_in; decide) (by decide) (zF_le f11 (by decide)) (by decide) (fun r12 e12 f12 => ?_)
  refine x_putR (pc := 73) (n := 48) dX8_init_73 flX8_33 ffX8_33 rfl rfl (fun a => ⟨rfl, rfl⟩) (zF_le f12 (by decide)) (by decide) (fun r13 e13 f13 => ?_)
  refine z_aload_0 (pc := 76) dX8_init_76 ?_
  refine x_nw (pc := 77) 48 0 dX8_init_77 nX0 clX8_37 (zG_le g1 (by decide)) (zF_le f13 (by decide)) (by decide +kernel) (by decide +kernel) (by decide) (by decide +kernel) ?_
  refine z_dup (pc := 80) rfl dX8_init_80 ?_
  refine z_I0 (pc := 81) dX8_init_81 mlX8_39 kX0_init vX0_init (by decide) (by decide) (Nat.le_of_ble_eq_true rfl) (qX0_init_48 (r := r13) (zG_le g1 (by decide)) (zF_le f13 (by decide))) ⟨Nat.le_of_ble_eq_true rfl, Nat.le_of_ble_eq_true rfl, Nat.le_of_ble_eq_true rfl, Nat.le_of_ble_eq_true rfl⟩ (fun v h1 hq => ?_)
  obtain ⟨rfl, r14, e14, f14, rfl⟩ := hq
  dsimp only [Option.toList, List.nil_append]
  refine x_putR (pc := 84) (n := 74) dX8_init_84 flX8_40 ffX8_40 rfl rfl (fun a => ⟨rfl, rfl⟩) (zF_le f14 (by decide)) (by decide) (fun r15 e15 f15 => ?_)
  refine z_aload_0 (pc := 87) dX8_init_87 ?_
  refine x_nw (pc := 88) 74 6 dX8_init_88 nX6 clX8_44 (zG_le g1 (by decide)) (zF_le f15 (by decide)) (by decide +kernel) (by decide +kernel) (by decide) (by decide +kernel) ?_
  refine z_dup (pc := 91) rfl dX8_init_91 ?_
  refine z_aload_0 (pc := 92) dX8_init_92 ?_
  refine y_getR (pc := 93) (k1 := 15) dX8_init_93 flX8_26 rfl rfl (by subst e1 e2 e3 e4 e5 e6 e7 e8 e9 e10 e11 e12 e13 e14 e15; rfl) ?_
  refine z_I1 (pc := 96) dX8_init_96 mlX8_46 kX6_init vX6_init (by decide) (by decide) (Nat.le_of_ble_eq_true rfl) (qX6_init_74 (r := r15) (zG_le g1 (by decide)) (zF_le f15 (by decide))) ⟨Nat.le_of_ble_eq_true rfl, Nat.le_of_ble_eq_true rfl, Nat.le_of_ble_eq_true rfl, Nat.le_of_ble_eq_true rfl⟩ (fun v h1 hq => ?_)
  obtain ⟨rfl, r16, e16, f16, rfl⟩ := hq
  dsimp only [Option.toList, List.nil_append]
  refine x_putR (pc := 99) (n := 79) dX8_init_99 flX8_49 ffX8_49 rfl rfl (fun a => ⟨rfl, rfl⟩) (zF_le f16 (by decide)) (by decide) (fun r17 e17 f17 => ?_)
  refine z_aload_0 (pc := 102) dX8_init_102 ?_
  refine x_nw (pc := 103) 79 3 dX8_init_103 nX3 clX8_53 (zG_le g1 (by decide)) (zF_le f17 (by decide)) (by decide +kernel) (by decide +kernel) (by decide) (by decide +kernel) ?_
  refine z_dup (pc := 106) rfl dX8_init_106 ?_
  refine z_aload_0 (pc := 107) dX8_init_107 ?_
  refine y_getR (pc := 108) (k1 := 15) dX8_init_108 flX8_26 rfl rfl (by subst e1 e2 e3 e4 e5 e6 e7 e8 e9 e10 e11 e12 e13 e14 e15 e16 e17; rfl) ?_
  refine z_aload_0 (pc := 111) dX8_init_111 ?_
  refine y_getR (pc := 112) (k1 := 74) dX8_init_112 flX8_49 rfl rfl (by subst e1 e2 e3 e4 e5 e6 e7 e8 e9 e10 e11 e12 e13 e14 e15 e16 e17; rfl) ?_
  refine z_I2 (pc := 115) dX8_init_115 mlX8_55 kX3_init vX3_init (by decide) (by decide) (Nat.le_of_ble_eq_true rfl) (qX3_init_79 (r := r17) (zG_le g1 (by decide)) (zF_le f17 (by decide)) hJ) ⟨Nat.le_of_ble_eq_true rfl, Nat.le_of_ble_eq_true rfl, Nat.le_of_ble_eq_true rfl, Nat.le_of_ble_eq_true rfl⟩ (fun v h1 hq => ?_)
  obtain ⟨rfl, r18, e18, f18, rfl⟩ := hq
  dsimp only [Option.toList, List.nil_append]
  refine x_putR (pc := 118) (n := 83) dX8_init_118 flX8_58 ffX8_58 rfl rfl (fun a => ⟨rfl, rfl⟩) (zF_le f18 (by decide)) (by decide) (fun r19 e19 f19 => ?_)
  refine z_aload_0 (pc := 121) dX8_init_121 ?_
  refine x_nw (pc := 122) 83 1 dX8_init_122 nX1 clX8_62 (zG_le g1 (by decide)) (zF_le f19 (by decide)) (by decide +kernel) (by decide +kernel) (by decide) (by decide +kernel) ?_
  refine z_dup (pc := 125) rfl dX8_init_125 ?_
  refine z_aload_0 (pc := 126) dX8_init_126 ?_
  refine y_getR (pc := 127) (k1 := 15) dX8_init_127 flX8_26 rfl rfl (by subst e1 e2 e3 e4 e5 e6 e7 e8 e9 e10 e11 e12 e13 e14 e15 e16 e17 e18 e19; rfl) ?_
  refine z_I1 (pc := 130) dX8_init_130 mlX8_64 kX1_init vX1_init (by decide) (by decide) (Nat.le_of_ble_eq_true rfl) (qX1_init_83 (r := r19) (zG_le g1 (by decide)) (zF_le f19 (by decide))) ⟨Nat.le_of_ble_eq_true rfl, Nat.le_of_ble_eq_true rfl, Nat.le_of_ble_eq_true rfl, Nat.le_of_ble_eq_true rfl⟩ (fun v h1 hq => ?_)
  obtain ⟨rfl, r20, e20, f20, rfl⟩ := hq
  dsimp only [Option.toList, List.nil_append]
  refine x_putR (pc := 133) (n := 85) dX8_init_133 flX8_65 ffX8_65 rfl rfl (fun a => ⟨rfl, rfl⟩) (zF_le f20 (by decide)) (by decide) (fun r21 e21 f21 => ?_)
  refine z_aload_0 (pc := 136) dX8_init_136 ?_
  refine z_iconst (pc := 137) (0) dX8_init_137 rfl ?_
  refine x_put0 (pc := 138) dX8_init_138 flX8_69 ffX8_69 rfl rfl ⟨rfl, rfl⟩ (by subst u1; exact hg 0 9 (by decide)) ?_
  refine z_ret (pc := 141) (r := none) rfl dX8_init_141 trivial rfl rfl ?_
  exact ⟨rfl, _, (by subst e1 e2 e3 e4 e5 e6 e7 e8 e9 e10 e11 e12 e13 e14 e15 e16 e17 e18 e19 e20 e21; rfl), zF_le f21 (by decide), _, (by subst u1; rfl), zG_le g1 (by decide), rfl⟩
set_option maxRecDepth 100000 in
set_option maxHeartbeats 4000000 in
theorem qX9_init_85 {l : zL} {I : Nat → Nat → Int32} {J : Nat → Nat → Int64} {r : Nat → Nat → Option Nat} (hg : zG 85 I) (hf : zF 86 r) : zMet l mX9_init 100 (zsl (SH.take 100)) [.ref 85] (I, J, r, SH.take 86) (fun v h => v = none ∧ ∃ r1, r1 = rX9 r 85 ∧ zF 100 r1 ∧ ∃ I1, I1 = zm8 I (87) ∧ zG 100 I1 ∧ h = (I1, J, r1, SH.take 100)) := by
  refine z_start [.ref 85, zno] (by decide +kernel) (Nat.le_of_ble_eq_true rfl) rfl ?_
  refine z_aload_0 (pc := 0) dX9_init_0 ?_
  refine z_objInit (pc := 1) dX9_init_1 mlX9_1 w_oi w_oc (by decide) (by decide) ?_
  refine z_aload_0 (pc := 4) dX9_init_4 ?_
  refine z_bipush (pc := 5) (8) dX9_init_5 rfl ?_
  refine x_nI (pc := 7) 86 8 dX9_init_7 (by decide) (by decide) (by decide) (zG_le hg (by decide)) (by decide +kernel) (by decide +kernel) (by decide) (by decide +kernel) ?_
  refine x_putR (pc := 9) (n := 87) dX9_init_9 flX9_7 ffX9_7 rfl rfl (fun a => ⟨rfl, rfl⟩) (zF_le hf (by decide)) (by decide) (fun r1 e1 f1 => ?_)
  refine z_aload_0 (pc := 12) dX9_init_12 ?_
  refine z_bipush (pc := 13) (8) dX9_init_13 rfl ?_
  refine x_nI (pc := 15) 87 8 dX9_init_15 (by decide) (by decide) (by decide) (zG_le hg (by decide)) (by decide +kernel) (by decide +kernel) (by decide) (by decide +kernel) ?_
  refine x_putR (pc := 17) (n := 88) dX9_init_17 flX9_13 ffX9_13 rfl rfl (fun a => ⟨rfl, rfl⟩) (zF_le f1 (by decide)) (by decide) (fun r2 e2 f2 => ?_)
  refine z_aload_0 (pc := 20) dX9_init_20 ?_
  refine z_sipush (pc := 21) (320) dX9_init_21 rfl ?_
  refine x_nI (pc := 24) 88 320 dX9_init_24 (by decide) (by decide) (by decide) (zG_le hg (by decide)) (by decide +kernel) (by decide +kernel) (by decide) (by decide +kernel) ?_
  refine x_putR (pc := 26) (n := 89) dX9_init_26 flX9_16 ffX9_16 rfl rfl (fun a => ⟨rfl, rfl⟩) (zF_le f2 (by decide)) (by decide) (fun r3 e3 f3 => ?_)
  refine z_aload_0 (pc := 29) dX9_init_29 ?_
  refine z_bipush (pc := 30) (120) dX9_init_30 rfl ?_
  refine x_nI (pc := 32) 89 120 dX9_init_32 (by decide) (by decide) (by decide) (zG_le hg (by decide)) (by decide +kernel) (by decide +kernel) (by decide) (by decide +kernel) ?_
  refine x_putR (pc := 34) (n := 90) dX9_init_34 flX9_19 ffX9_19 rfl rfl (fun a => ⟨rfl, rfl⟩) (zF_le f3 (by decide)) (by decide) (fun r4 e4 f4 => ?_)
  refine z_aload_0 (pc := 37) dX9_init_37 ?_
  refine z_bipush (pc := 38) (66) dX9_init_38 rfl ?_
  refine x_nI (pc := 40) 90 66 dX9_init_40 (by decide) (by decide) (by decide) (zG_le hg (by decide)) (by decide +kernel) (by decide +kernel) (by decide) (by decide +kernel) ?_
  refine x_putR (pc := 42) (n := 91) dX9_init_42 flX9_22 ffX9_22 rfl rfl (fun a => ⟨rfl, rfl⟩) (zF_le f4 (by decide)) (by decide) (fun r5 e5 f5 => ?_)
  refine z_aload_0 (pc := 45) dX9_init_45 ?_
  refine z_sipush (pc := 46) (1584) dX9_init_46 rfl ?_
  refine x_nI (pc := 49) 91 1584 dX9_init_49 (by decide) (by decide) (by decide) (zG_le hg (by decide)) (by decide +kernel) (by decide +kernel) (by decide) (by decide +kernel) ?_
  refine x_putR (pc := 51) (n := 92) dX9_init_51 flX9_25 ffX9_25 rfl rfl (fun a => ⟨rfl, rfl⟩) (zF_le f5 (by decide)) (by decide) (fun r6 e6 f6 => ?_)
  refine z_aload_0 (pc := 54) dX9_init_54 ?_
  refine z_sipush (pc := 55) (132) dX9_init_55 rfl ?_
  refine x_nI (pc := 58) 92 132 dX9_init_58 (by decide) (by decide) (by decide) (zG_le hg (by decide)) (by decide +kernel) (by decide +kernel) (by decide) (by decide +kernel) ?_
  refine x_putR (pc := 60) (n := 93) dX9_init_60 flX9_28 ffX9_28 rfl rfl (fun a => ⟨rfl, rfl⟩) (zF_le f6 (by decide)) (by decide) (fun r7 e7 f7 => ?_)
  refine z_aload_0 (pc := 63) dX9_init_63 ?_
  refine z_iconst (pc := 64) (2) dX9_init_64 rfl ?_
  refine x_nZ (pc := 65) 93 2 dX9_init_65 (by decide) (by decide) (by decide) (zG_le hg (by decide)) (by decide +kernel) (by decide +kernel) (by decide) (by decide +kernel) ?_
  refine x_putR (pc := 67) (n := 94) dX9_init_67 flX9_31 ffX9_31 rfl rfl (fun a => ⟨rfl, rfl⟩) (zF_le f7 (by decide)) (by decide) (fun r8 e8 f8 => ?_)
  refine z_aload_0 (pc := 70) dX9_init_70 ?_
  refine z_bipush (pc := 71) (16) dX9_init_71 rfl ?_
  refine x_nI (pc := 73) 94 16 dX9_init_73 (by decide) (by decide) (by decide) (zG_le hg (by decide)) (by decide +kernel) (by decide +kernel) (by decide) (by decide +kernel) ?_
  refine x_putR (pc := 75) (n := 95) dX9_init_75 flX9_35 ffX9_35 rfl rfl (fun a => ⟨rfl, rfl⟩) (zF_le f8 (by decide)) (by decide) (fun r9 e9 f9 => ?_)
  refine z_aload_0 (pc := 78) dX9_init_78 ?_
  refine z_bipush (pc := 79) (66) dX9_init_79 rfl ?_
  refine x_nI (pc := 81) 95 66 dX9_init_81 (by decide) (by decide) (by decide) (zG_le hg (by decide)) (by decide +kernel) (by decide +kernel) (by decide) (by decide +kernel) ?_
  refine x_putR (pc := 83) (n := 96) dX9_init_83 flX9_38 ffX9_38 rfl rfl (fun a => ⟨rfl, rfl⟩) (zF_le f9 (by decide)) (by decide) (fun r10 e10 f10 => ?_)
  refine z_aload_0 (pc := 86) dX9_init_86 ?_
  refine z_bipush (pc := 87) (6) dX9_init_87 rfl ?_
  refine x_nI (pc := 89) 96 6 dX9_init_89 (by decide) (by decide) (by decide) (zG_le hg (by decide)) (by decide +kernel) (by decide +kernel) (by decide) (by decide +kernel) ?_
  refine x_putR (pc := 91) (n := 97) dX9_init_91 flX9_41 ffX9_41 rfl rfl (fun a => ⟨rfl, rfl⟩) (zF_le f10 (by decide)) (by decide) (fun r11 e11 f11 => ?_)
  refine z_aload_0 (pc := 94) dX9_init_94 ?_
  refine z_bipush (pc := 95) (6) dX9_init_95 rfl ?_
  refine x_nI (pc := 97) 97 6 dX9_init_97 (by decide) (by decide) (by decide) (zG_le hg (by decide)) (by decide +kernel) (by decide +kernel) (by decide) (by decide +kernel) ?_
  refine x_putR (pc := 99) (n := 98) dX9_init_99 flX9_44 ffX9_44 rfl rfl (fun a => ⟨rfl, rfl⟩) (zF_le f11 (by decide)) (by decide) (fun r12 e12 f12 => ?_)
  refine z_aload_0 (pc := 102) dX9_init_102 ?_
  refine z_bipush (pc := 103) (6) dX9_init_103 rfl ?_
  refine x_nI (pc := 105) 98 6 dX9_init_105 (by decide) (by decide) (by decide) (zG_le hg (by decide)) (by decide +kernel) (by decide +kernel) (by decide) (by decide +kernel) ?_
  refine x_putR (pc := 107) (n := 99) dX9_init_107 flX9_47 ffX9_47 rfl rfl (fun a => ⟨rfl, rfl⟩) (zF_le f12 (by decide)) (by decide) (fun r13 e13 f13 => ?_)
  refine z_aload_0 (pc := 110) dX9_init_110 ?_
  refine z_bipush (pc := 111) (66) dX9_init_111 rfl ?_
  refine x_nI (pc := 113) 99 66 dX9_init_113 (by decide) (by decide) (by decide) (zG_le hg (by decide)) (by decide +kernel) (by decide +kernel) (by decide) (by decide +kernel) ?_
  refine x_putR (pc := 115) (n := 100) dX9_init_115 flX9_50 ffX9_50 rfl rfl (fun a => ⟨rfl, rfl⟩) (zF_le f13 (by decide)) (by decide) (fun r14 e14 f14 => ?_)
  refine z_iconst (pc := 118) (0) dX9_init_118 rfl ?_
  refine z_istore_1 (pc := 119) dX9_init_119 (by decide) rfl ?_
  refine z_iload_1 (pc := 120) dX9_init_120 ?_
  refine z_bipush (pc := 121) (8) dX9_init_121 rfl ?_
  refine z_icmp_ge (pc := 123) (tgt := 139) dX9_init_123 (by decide) (fun c15 => ?_) (fun c15 => ?_)
  · exact absurd c15 (by decide)
  refine z_aload_0 (pc := 126) dX9_init_126 ?_
  refine y_getR (pc := 127) (k1 := 87) dX9_init_127 flX9_13 rfl rfl (by subst e1 e2 e3 e4 e5 e6 e7 e8 e9 e10 e11 e12 e13 e14; rfl) ?_
  refine z_iload_1 (pc := 130) dX9_init_130 ?_
  refine z_iconst (pc := 131) (-1) dX9_init_131 rfl ?_
  refine x_iast (pc := 132) (n := 100) 0 dX9_init_132 rfl (by unfold vp_in; decide) (by decide) (zG_le hg (by decide)) (by decide) (fun I16 u16 g16 => ?_)
  refine z_iinc_1 (pc := 133) (1) dX9_init_133 rfl (by decide) rfl ?_
  refine z_goto (pc := 136) (tgt := 120) dX9_init_136 (by decide) ?_
  refine z_iload_1 (pc := 120) dX9_init_120 ?_
  refine z_bipush (pc := 121) (8) dX9_init_121 rfl ?_
  refine z_icmp_ge (pc := 123) (tgt := 139) dX9_init_123 (by decide) (fun c17 => ?_) (fun c17 => ?_)
  · exact absurd c17 (by decide)
  refine z_aload_0 (pc := 126) dX9_init_126 ?_
  refine y_getR (pc := 127) (k1 := 87) dX9_init_127 flX9_13 rfl rfl (by subst e1 e2 e3 e4 e5 e6 e7 e8 e9 e10 e11 e12 e13 e14; rfl) ?_
  refine z_iload_1 (pc := 130) dX9_init_130 ?_
  refine z_iconst (pc := 131) (-1) dX9_init_131 rfl ?_
  refine x_iast (pc := 132) (n := 100) 1 dX9_init_132 rfl (by unfold vp_in; decide) (by decide) (zG_le g16 (by decide)) (by decide) (fun I18 u18 g18 => ?_)
  refine z_iinc_1 (pc := 133) (1) dX9_init_133 rfl (by decide) rfl ?_
  refine z_goto (pc := 136) (tgt := 120) dX9_init_136 (by decide) ?_
  refine z_iload_1 (pc := 120) dX9_init_120 ?_
  refine z_bipush (pc := 121) (8) dX9_init_121 rfl ?_
  refine z_icmp_ge (pc := 123) (tgt := 139) dX9_init_123 (by decide) (fun c19 => ?_) (fun c19 => ?_)
  · exact absurd c19 (by decide)
  refine z_aload_0 (pc := 126) dX9_init_126 ?_
  refine y_getR (pc := 127) (k1 := 87) dX9_init_127 flX9_13 rfl rfl (by subst e1 e2 e3 e4 e5 e6 e7 e8 e9 e10 e11 e12 e13 e14; rfl) ?_
  refine z_iload_1 (pc := 130) dX9_init_130 ?_
  refine z_iconst (pc := 131) (-1) dX9_init_131 rfl ?_
  refine x_iast (pc := 132) (n := 100) 2 dX9_init_132 rfl (by unfold vp_in; decide) (by decide) (zG_le g18 (by decide)) (by decide) (fun I20 u20 g20 => ?_)
  refine z_iinc_1 (pc := 133) (1) dX9_init_133 rfl (by decide) rfl ?_
  refine z_goto (pc := 136) (tgt := 120) dX9_init_136 (by decide) ?_
  refine z_iload_1 (pc := 120) dX9_init_120 ?_
  refine z_bipush (pc := 121) (8) dX9_init_121 rfl ?_
  refine z_icmp_ge (pc := 123) (tgt := 139) dX9_init_123 (by decide) (fun c21 => ?_) (fun c21 => ?_)
  · exact absurd c21 (by decide)
  refine z_aload_0 (pc := 126) dX9_init_126 ?_
  refine y_getR (pc := 127) (k1 := 87) dX9_init_127 flX9_13 rfl rfl (by subst e1 e2 e3 e4 e5 e6 e7 e8 e9 e10 e11 e12 e13 e14; rfl) ?_
  refine z_iload_1 (pc := 130) dX9_init_130 ?_
  refine z_iconst (pc := 131) (-1) dX9_init_131 rfl ?_
  refine x_iast (pc := 132) (n := 100) 3 dX9_init_132 rfl (by unfold vp_in; decide) (by decide) (zG_le g20 (by decide)) (by decide) (fun I22 u22 g22 => ?_)
  refine z_iinc_1 (pc := 133) (1) dX9_init_133 rfl (by decide) rfl ?_
  refine z_goto (pc := 136) (tgt := 120) dX9_init_136 (by decide) ?_
  refine z_iload_1 (pc := 120) dX9_init_120 ?_
  refine z_bipush (pc := 121) (8) dX9_init_121 rfl ?_
  refine z_icmp_ge (pc := 123) (tgt := 139) dX9_init_123 (by decide) (fun c23 => ?_) (fun c23 => ?_)
  · exact absurd c23 (by decide)
  refine z_aload_0 (pc := 126) dX9_init_126 ?_
  refine y_getR (pc := 127) (k1 := 87) dX9_init_127 flX9_13 rfl rfl (by subst e1 e2 e3 e4 e5 e6 e7 e8 e9 e10 e11 e12 e13 e14; rfl) ?_
  refine z_iload_1 (pc := 130) dX9_init_130 ?_
  refine z_iconst (pc := 131) (-1) dX9_init_131 rfl ?_
  refine x_iast (pc := 132) (n := 100) 4 dX9_init_132 rfl (by unfold vp_in; decide) (by decide) (zG_le g22 (by decide)) (by decide) (fun I24 u24 g24 => ?_)
  refine z_iinc_1 (pc := 133) (1) dX9_init_133 rfl (by decide) rfl ?_
  refine z_goto (pc := 136) (tgt := 120) dX9_init_136 (by decide) ?_
  refine z_iload_1 (pc := 120) dX9_init_120 ?_
  refine z_bipush (pc := 121) (8) dX9_init_121 rfl ?_
  refine z_icmp_ge (pc := 123) (tgt := 139) dX9_init_123 (by decide) (fun c25 => ?_) (fun c25 => ?_)
  · exact absurd c25 (by decide)
  refine z_aload_0 (pc := 126) dX9_init_126 ?_
  refine y_getR (pc := 127) (k1 := 87) dX9_init_127 flX9_13 rfl rfl (by subst e1 e2 e3 e4 e5 e6 e7 e8 e9 e10 e11 e12 e13 e14; rfl) ?_
  refine z_iload_1 (pc := 130) dX9_init_130 ?_
  refine z_iconst (pc := 131) (-1) dX9_init_131 rfl ?_
  refine x_iast (pc := 132) (n := 100) 5 dX9_init_132 rfl (by unfold vp_in; decide) (by decide) (zG_le g24 (by decide)) (by decide) (fun I26 u26 g26 => ?_)
  refine z_iinc_1 (pc := 133) (1) dX9_init_133 rfl (by decide) rfl ?_
  refine z_goto (pc := 136) (tgt := 120) dX9_init_136 (by decide) ?_
  refine z_iload_1 (pc := 120) dX9_init_120 ?_
  refine z_bipush (pc := 121) (8) dX9_init_121 rfl ?_
  refine z_icmp_ge (pc := 123) (tgt := 139) dX9_init_123 (by decide) (fun c27 => ?_) (fun c27 => ?_)
  · exact absurd c27 (by decide)
  refine z_aload_0 (pc := 126) dX9_init_126 ?_
  refine y_getR (pc := 127) (k1 := 87) dX9_init_127 flX9_13 rfl rfl (by subst e1 e2 e3 e4 e5 e6 e7 e8 e9 e10 e11 e12 e13 e14; rfl) ?_
  refine z_iload_1 (pc := 130) dX9_init_130 ?_
  refine z_iconst (pc := 131) (-1) dX9_init_131 rfl ?_
  refine x_iast (pc := 132) (n := 100) 6 dX9_init_132 rfl (by unfold vp_in; decide) (by decide) (zG_le g26 (by decide)) (by decide) (fun I28 u28 g28 => ?_)
  refine z_iinc_1 (pc := 133) (1) dX9_init_133 rfl (by decide) rfl ?_
  refine z_goto (pc := 136) (tgt := 120) dX9_init_136 (by decide) ?_
  refine z_iload_1 (pc := 120) dX9_init_120 ?_
  refine z_bipush (pc := 121) (8) dX9_init_121 rfl ?_
  refine z_icmp_ge (pc := 123) (tgt := 139) dX9_init_123 (by decide) (fun c29 => ?_) (fun c29 => ?_)
  · exact absurd c29 (by decide)
  refine z_aload_0 (pc := 126) dX9_init_126 ?_
  refine y_getR (pc := 127) (k1 := 87) dX9_init_127 flX9_13 rfl rfl (by subst e1 e2 e3 e4 e5 e6 e7 e8 e9 e10 e11 e12 e13 e14; rfl) ?_
  refine z_iload_1 (pc := 130) dX9_init_130 ?_
  refine z_iconst (pc := 131) (-1) dX9_init_131 rfl ?_
  refine x_iast (pc := 132) (n := 100) 7 dX9_init_132 rfl (by unfold vp_in; decide) (by decide) (zG_le g28 (by decide)) (by decide) (fun I30 u30 g30 => ?_)
  refine z_iinc_1 (pc := 133) (1) dX9_init_133 rfl (by decide) rfl ?_
  refine z_goto (pc := 136) (tgt := 120) dX9_init_136 (by decide) ?_
  refine z_iload_1 (pc := 120) dX9_init_120 ?_
  refine z_bipush (pc := 121) (8) dX9_init_121 rfl ?_
  refine z_icmp_ge (pc := 123) (tgt := 139) dX9_init_123 (by decide) (fun c31 => ?_) (fun c31 => ?_)
  rotate_left
  · exact absurd (by decide) c31
  refine z_ret (pc := 139) (r := none) rfl dX9_init_139 trivial rfl rfl ?_
  exact ⟨rfl, _, (by subst e1 e2 e3 e4 e5 e6 e7 e8 e9 e10 e11 e12 e13 e14; rfl), zF_le f14 (by decide), _, (by subst u16 u18 u20 u22 u24 u26 u28 u30; rfl), zG_le g30 (by decide), rfl⟩
