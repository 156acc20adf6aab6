def mBrew (I : Nat → Nat → Int32) (c n : Nat) (x m : Int32) : Int32 × (Nat → Nat → Int32) := if zlt x n = true ∧ zlt m 21 = true then (if I 90 44 = 0 then (0, zfil (zrem I c) 0 x m) else if I 90 45 = 0 then (1, zfil (zrem I c) 1 x m) else if I 90 46 = 0 then (2, zfil (zrem I c) 2 x m) else if I 90 47 = 0 then (3, zfil (zrem I c) 3 x m) else (-1000003, I)) else (-1000001, I)
set_option maxRecDepth 100000 in
set_option maxHeartbeats 4000000 in
theorem qX9_brew {l : zL} {I : Nat → Nat → Int32} {J : Nat → Nat → Int64} {nw : Bool} (n : Nat) (hn : n ≤ 6) (en : I 90 3 = nI n) (c : Nat) (hc : I 85 9 = nI c) (hl : c ≤ 24) {x m : Int32} : zP l mX9_brew [.ref 85, .int x, .int m] (hh I J nw) (zPM (mBrew I c n x m) J nw) := by
  refine z_start [.ref 85, .int x, .int m, zno] (by decide +kernel) (Nat.le_of_ble_eq_true rfl) rfl ?_
  refine z_aload_0 (pc := 0) dX9_brew_0 ?_
  refine z_iload_1 (pc := 1) dX9_brew_1 ?_
  refine z_V1 (pc := 2) dX9_brew_2 mlX9_199 kX9_isDrinker vX9_isDrinker (by decide) (by decide) (by first | rfl | assumption) (Nat.le_of_ble_eq_true rfl) (qX9_isDrinker n hn en) ⟨Nat.le_refl _, Nat.le_refl _⟩ (fun r h1 hq => ?_)
  obtain ⟨rfl, rfl⟩ := hq
  refine z_if_eq (pc := 5) (tgt := 20) dX9_brew_5 (by decide) (fun c5 => ?_) (fun c5 => ?_)
  · skip
    refine z_ldc (pc := 20) dX9_brew_20 kcX9_70 ?_
    refine z_ret (pc := 22) (r := some (.int _)) rfl dX9_brew_22 trivial rfl rfl ?_
    refine zPM_of ?_
    unfold mBrew
    rw [if_neg (fun q => by rw [(zbb0 _).mp c5] at q; exact absurd q.1 (by decide))]
  · skip
    refine z_iload_2 (pc := 8) dX9_brew_8 ?_
    refine z_i2l (pc := 9) dX9_brew_9 ?_
    refine z_lconst (pc := 10) 0 dX9_brew_10 rfl ?_
    refine z_ldc2 (pc := 11) dX9_brew_11 kcX9_202 ?_
    refine z_S3 (pc := 14) dX9_brew_14 mlX9_60 kX9_in vX9_in (by decide) (by decide) (Nat.le_of_ble_eq_true rfl) (qX9_in) ⟨Nat.le_refl _, Nat.le_refl _⟩ (fun r h1 hq => ?_)
    obtain ⟨rfl, rfl⟩ := hq
    refine z_if_ne (pc := 17) (tgt := 23) dX9_brew_17 (by decide) (fun c17 => ?_) (fun c17 => ?_)
    · skip
      rw [in_zlt (m := 21) (by decide)] at c17
      have hx1 := (zbb1 _).mp c5
      have hx2 := (zbb1 _).mp c17
      refine z_iconst (pc := 23) (0) dX9_brew_23 rfl ?_
      refine z_istore_3 (pc := 24) dX9_brew_24 (by decide) rfl ?_
      refine z_iload_3 (pc := 25) dX9_brew_25 ?_
      refine z_iconst (pc := 26) (4) dX9_brew_26 rfl ?_
      refine z_icmp_ge (pc := 27) (tgt := 94) dX9_brew_27 (by decide) (fun c27 => ?_) (fun c27 => ?_)
      · exact absurd c27 (by decide)
      · skip
        refine z_aload_0 (pc := 30) dX9_brew_30 ?_
        refine y_getR (pc := 31) dX9_brew_31 flX9_22 rfl (by first | rfl | assumption) (by first | rfl | assumption) ?_
        refine z_bipush (pc := 34) (44) dX9_brew_34 rfl ?_
        refine z_iload_3 (pc := 36) dX9_brew_36 ?_
        refine z_iadd (pc := 37) dX9_brew_37 ?_
        refine y_ialdN (pc := 38) (44) dX9_brew_38 (by first | rfl | assumption) (rfl) (by decide) (by first | decide | omega) ?_
        refine z_if_ne (pc := 39) (tgt := 88) dX9_brew_39 (by decide) (fun c39 => ?_) (fun c39 => ?_)
        · skip
          refine z_iinc_3 (pc := 88) (1) dX9_brew_88 rfl (by decide) rfl ?_
          refine z_goto (pc := 91) (tgt := 25) dX9_brew_91 (by decide) ?_
          refine z_iload_3 (pc := 25) dX9_brew_25 ?_
          refine z_iconst (pc := 26) (4) dX9_brew_26 rfl ?_
          refine z_icmp_ge (pc := 27) (tgt := 94) dX9_brew_27 (by decide) (fun c27_2 => ?_) (fun c27_2 => ?_)
          · exact absurd c27_2 (by decide)
          · skip
            refine z_aload_0 (pc := 30) dX9_brew_30 ?_
            refine y_getR (pc := 31) dX9_brew_31 flX9_22 rfl (by first | rfl | assumption) (by first | rfl | assumption) ?_
            refine z_bipush (pc := 34) (44) dX9_brew_34 rfl ?_
            refine z_iload_3 (pc := 36) dX9_brew_36 ?_
            refine z_iadd (pc := 37) dX9_brew_37 ?_
            refine y_ialdN (pc := 38) (45) dX9_brew_38 (by first | rfl | assumption) (rfl) (by decide) (by first | decide | omega) ?_
            refine z_if_ne (pc := 39) (tgt := 88) dX9_brew_39 (by decide) (fun c39_2 => ?_) (fun c39_2 => ?_)
            · skip
              refine z_iinc_3 (pc := 88) (1) dX9_brew_88 rfl (by decide) rfl ?_
              refine z_goto (pc := 91) (tgt := 25) dX9_brew_91 (by decide) ?_
              refine z_iload_3 (pc := 25) dX9_brew_25 ?_
              refine z_iconst (pc := 26) (4) dX9_brew_26 rfl ?_
              refine z_icmp_ge (pc := 27) (tgt := 94) dX9_brew_27 (by decide) (fun c27_3 => ?_) (fun c27_3 => ?_)
              · exact absurd c27_3 (by decide)
              · skip
                refine z_aload_0 (pc := 30) dX9_brew_30 ?_
                refine y_getR (pc := 31) dX9_brew_31 flX9_22 rfl (by first | rfl | assumption) (by first | rfl | assumption) ?_
                refine z_bipush (pc := 34) (44) dX9_brew_34 rfl ?_
                refine z_iload_3 (pc := 36) dX9_brew_36 ?_
                refine z_iadd (pc := 37) dX9_brew_37 ?_
                refine y_ialdN (pc := 38) (46) dX9_brew_38 (by first | rfl | assumption) (rfl) (by decide) (by first | decide | omega) ?_
                refine z_if_ne (pc := 39) (tgt := 88) dX9_brew_39 (by decide) (fun c39_3 => ?_) (fun c39_3 => ?_)
                · skip
                  refine z_iinc_3 (pc := 88) (1) dX9_brew_88 rfl (by decide) rfl ?_
                  refine z_goto (pc := 91) (tgt := 25) dX9_brew_91 (by decide) ?_
                  refine z_iload_3 (pc := 25) dX9_brew_25 ?_
                  refine z_iconst (pc := 26) (4) dX9_brew_26 rfl ?_
                  refine z_icmp_ge (pc := 27) (tgt := 94) dX9_brew_27 (by decide) (fun c27_4 => ?_) (fun c27_4 => ?_)
                  · exact absurd c27_4 (by decide)
                  · skip
                    refine z_aload_0 (pc := 30) dX9_brew_30 ?_
                    refine y_getR (pc := 31) dX9_brew_31 flX9_22 rfl (by first | rfl | assumption) (by first | rfl | assumption) ?_
                    refine z_bipush (pc := 34) (44) dX9_brew_34 rfl ?_
                    refine z_iload_3 (pc := 36) dX9_brew_36 ?_
                    refine z_iadd (pc := 37) dX9_brew_37 ?_
                    refine y_ialdN (pc := 38) (47) dX9_brew_38 (by first | rfl | assumption) (rfl) (by decide) (by first | decide | omega) ?_
                    refine z_if_ne (pc := 39) (tgt := 88) dX9_brew_39 (by decide) (fun c39_4 => ?_) (fun c39_4 => ?_)
                    · skip
                      refine z_iinc_3 (pc := 88) (1) dX9_brew_88 rfl (by decide) rfl ?_
                      refine z_goto (pc := 91) (tgt := 25) dX9_brew_91 (by decide) ?_
                      refine z_iload_3 (pc := 25) dX9_brew_25 ?_
                      refine z_iconst (pc := 26) (4) dX9_brew_26 rfl ?_
                      refine z_icmp_ge (pc := 27) (tgt := 94) dX9_brew_27 (by decide) (fun c27_5 => ?_) (fun c27_5 => ?_)
                      · skip
                        refine z_ldc (pc := 94) dX9_brew_94 kcX9_83 ?_
                        refine z_ret (pc := 96) (r := some (.int _)) rfl dX9_brew_96 trivial rfl rfl ?_
                        refine zPM_of ?_
                        unfold mBrew
                        rw [if_pos ⟨hx1, hx2⟩]
                        simp only [*, if_false]
                      · exact absurd (by decide) c27_5
                    · skip
                      refine z_aload_0 (pc := 42) dX9_brew_42 ?_
                      refine z_V0 (pc := 43) dX9_brew_43 mlX9_204 kX9_remember vX9_remember (by decide) (by decide) (by first | rfl | assumption) (Nat.le_of_ble_eq_true rfl) (qX9_remember c hc hl) ⟨Nat.le_refl _, Nat.le_refl _⟩ (fun r h1 hq => ?_)
                      obtain ⟨rfl, rfl⟩ := hq
                      refine z_aload_0 (pc := 46) dX9_brew_46 ?_
                      refine y_getR (pc := 47) dX9_brew_47 flX9_22 rfl (by first | rfl | assumption) (by first | rfl | assumption) ?_
                      refine z_bipush (pc := 50) (44) dX9_brew_50 rfl ?_
                      refine z_iload_3 (pc := 52) dX9_brew_52 ?_
                      refine z_iadd (pc := 53) dX9_brew_53 ?_
                      refine z_iconst (pc := 54) (1) dX9_brew_54 rfl ?_
                      refine y_iastN (pc := 55) (47) dX9_brew_55 (by first | rfl | assumption) (rfl) (by decide) (by first | decide | omega) ?_
                      refine z_aload_0 (pc := 56) dX9_brew_56 ?_
                      refine y_getR (pc := 57) dX9_brew_57 flX9_22 rfl (by first | rfl | assumption) (by first | rfl | assumption) ?_
                      refine z_bipush (pc := 60) (48) dX9_brew_60 rfl ?_
                      refine z_iload_3 (pc := 62) dX9_brew_62 ?_
                      refine z_iadd (pc := 63) dX9_brew_63 ?_
                      refine z_iload_1 (pc := 64) dX9_brew_64 ?_
                      refine y_iastN (pc := 65) (51) dX9_brew_65 (by first | rfl | assumption) (rfl) (by decide) (by first | decide | omega) ?_
                      refine z_aload_0 (pc := 66) dX9_brew_66 ?_
                      refine y_getR (pc := 67) dX9_brew_67 flX9_22 rfl (by first | rfl | assumption) (by first | rfl | assumption) ?_
                      refine z_bipush (pc := 70) (52) dX9_brew_70 rfl ?_
                      refine z_iload_3 (pc := 72) dX9_brew_72 ?_
                      refine z_iadd (pc := 73) dX9_brew_73 ?_
                      refine z_iload_2 (pc := 74) dX9_brew_74 ?_
                      refine y_iastN (pc := 75) (55) dX9_brew_75 (by first | rfl | assumption) (rfl) (by decide) (by first | decide | omega) ?_
                      refine z_aload_0 (pc := 76) dX9_brew_76 ?_
                      refine y_getR (pc := 77) dX9_brew_77 flX9_22 rfl (by first | rfl | assumption) (by first | rfl | assumption) ?_
                      refine z_bipush (pc := 80) (56) dX9_brew_80 rfl ?_
                      refine z_iload_3 (pc := 82) dX9_brew_82 ?_
                      refine z_iadd (pc := 83) dX9_brew_83 ?_
                      refine z_iconst (pc := 84) (0) dX9_brew_84 rfl ?_
                      refine y_iastN (pc := 85) (59) dX9_brew_85 (by first | rfl | assumption) (rfl) (by decide) (by first | decide | omega) ?_
                      refine z_iload_3 (pc := 86) dX9_brew_86 ?_
                      refine z_ret (pc := 87) (r := some (.int _)) rfl dX9_brew_87 trivial rfl rfl ?_
                      refine zPM_of ?_
                      unfold mBrew
                      rw [if_pos ⟨hx1, hx2⟩]
                      simp only [*, if_true, if_false]
                      rfl
                · skip
                  refine z_aload_0 (pc := 42) dX9_brew_42 ?_
                  refine z_V0 (pc := 43) dX9_brew_43 mlX9_204 kX9_remember vX9_remember (by decide) (by decide) (by first | rfl | assumption) (Nat.le_of_ble_eq_true rfl) (qX9_remember c hc hl) ⟨Nat.le_refl _, Nat.le_refl _⟩ (fun r h1 hq => ?_)
                  obtain ⟨rfl, rfl⟩ := hq
                  refine z_aload_0 (pc := 46) dX9_brew_46 ?_
                  refine y_getR (pc := 47) dX9_brew_47 flX9_22 rfl (by first | rfl | assumption) (by first | rfl | assumption) ?_
                  refine z_bipush (pc := 50) (44) dX9_brew_50 rfl ?_
                  refine z_iload_3 (pc := 52) dX9_brew_52 ?_
                  refine z_iadd (pc := 53) dX9_brew_53 ?_
                  refine z_iconst (pc := 54) (1) dX9_brew_54 rfl ?_
                  refine y_iastN (pc := 55) (46) dX9_brew_55 (by first | rfl | assumption) (rfl) (by decide) (by first | decide | omega) ?_
                  refine z_aload_0 (pc := 56) dX9_brew_56 ?_
                  refine y_getR (pc := 57) dX9_brew_57 flX9_22 rfl (by first | rfl | assumption) (by first | rfl | assumption) ?_
                  refine z_bipush (pc := 60) (48) dX9_brew_60 rfl ?_
                  refine z_iload_3 (pc := 62) dX9_brew_62 ?_
                  refine z_iadd (pc := 63) dX9_brew_63 ?_
                  refine z_iload_1 (pc := 64) dX9_brew_64 ?_
                  refine y_iastN (pc := 65) (50) dX9_brew_65 (by first | rfl | assumption) (rfl) (by decide) (by first | decide | omega) ?_
                  refine z_aload_0 (pc := 66) dX9_brew_66 ?_
                  refine y_getR (pc := 67) dX9_brew_67 flX9_22 rfl (by first | rfl | assumption) (by first | rfl | assumption) ?_
                  refine z_bipush (pc := 70) (52) dX9_brew_70 rfl ?_
                  refine z_iload_3 (pc := 72) dX9_brew_72 ?_
                  refine z_iadd (pc := 73) dX9_brew_73 ?_
                  refine z_iload_2 (pc := 74) dX9_brew_74 ?_
                  refine y_iastN (pc := 75) (54) dX9_brew_75 (by first | rfl | assumption) (rfl) (by decide) (by first | decide | omega) ?_
                  refine z_aload_0 (pc := 76) dX9_brew_76 ?_
                  refine y_getR (pc := 77) dX9_brew_77 flX9_22 rfl (by first | rfl | assumption) (by first | rfl | assumption) ?_
                  refine z_bipush (pc := 80) (56) dX9_brew_80 rfl ?_
                  refine z_iload_3 (pc := 82) dX9_brew_82 ?_
                  refine z_iadd (pc := 83) dX9_brew_83 ?_
                  refine z_iconst (pc := 84) (0) dX9_brew_84 rfl ?_
                  refine y_iastN (pc := 85) (58) dX9_brew_85 (by first | rfl | assumption) (rfl) (by decide) (by first | decide | omega) ?_
                  refine z_iload_3 (pc := 86) dX9_brew_86 ?_
                  refine z_ret (pc := 87) (r := some (.int _)) rfl dX9_brew_87 trivial rfl rfl ?_
                  refine zPM_of ?_
                  unfold mBrew
                  rw [if_pos ⟨hx1, hx2⟩]
                  simp only [*, if_true, if_false]
                  rfl
            · skip
              refine z_aload_0 (pc := 42) dX9_brew_42 ?_
              refine z_V0 (pc := 43) dX9_brew_43 mlX9_204 kX9_remember vX9_remember (by decide) (by decide) (by first | rfl | assumption) (Nat.le_of_ble_eq_true rfl) (qX9_remember c hc hl) ⟨Nat.le_refl _, Nat.le_refl _⟩ (fun r h1 hq => ?_)
              obtain ⟨rfl, rfl⟩ := hq
              refine z_aload_0 (pc := 46) dX9_brew_46 ?_
              refine y_getR (pc := 47) dX9_brew_47 flX9_22 rfl (by first | rfl | assumption) (by first | rfl | assumption) ?_
              refine z_bipush (pc := 50) (44) dX9_brew_50 rfl ?_
              refine z_iload_3 (pc := 52) dX9_brew_52 ?_
              refine z_iadd (pc := 53) dX9_brew_53 ?_
              refine z_iconst (pc := 54) (1) dX9_brew_54 rfl ?_
              refine y_iastN (pc := 55) (45) dX9_brew_55 (by first | rfl | assumption) (rfl) (by decide) (by first | decide | omega) ?_
              refine z_aload_0 (pc := 56) dX9_brew_56 ?_
              refine y_getR (pc := 57) dX9_brew_57 flX9_22 rfl (by first | rfl | assumption) (by first | rfl | assumption) ?_
              refine z_bipush (pc := 60) (48) dX9_brew_60 rfl ?_
              refine z_iload_3 (pc := 62) dX9_brew_62 ?_
              refine z_iadd (pc := 63) dX9_brew_63 ?_
              refine z_iload_1 (pc := 64) dX9_brew_64 ?_
              refine y_iastN (pc := 65) (49) dX9_brew_65 (by first | rfl | assumption) (rfl) (by decide) (by first | decide | omega) ?_
              refine z_aload_0 (pc := 66) dX9_brew_66 ?_
              refine y_getR (pc := 67) dX9_brew_67 flX9_22 rfl (by first | rfl | assumption) (by first | rfl | assumption) ?_
              refine z_bipush (pc := 70) (52) dX9_brew_70 rfl ?_
              refine z_iload_3 (pc := 72) dX9_brew_72 ?_
              refine z_iadd (pc := 73) dX9_brew_73 ?_
              refine z_iload_2 (pc := 74) dX9_brew_74 ?_
              refine y_iastN (pc := 75) (53) dX9_brew_75 (by first | rfl | assumption) (rfl) (by decide) (by first | decide | omega) ?_
              refine z_aload_0 (pc := 76) dX9_brew_76 ?_
              refine y_getR (pc := 77) dX9_brew_77 flX9_22 rfl (by first | rfl | assumption) (by first | rfl | assumption) ?_
              refine z_bipush (pc := 80) (56) dX9_brew_80 rfl ?_
              refine z_iload_3 (pc := 82) dX9_brew_82 ?_
              refine z_iadd (pc := 83) dX9_brew_83 ?_
              refine z_iconst (pc := 84) (0) dX9_brew_84 rfl ?_
              refine y_iastN (pc := 85) (57) dX9_brew_85 (by first | rfl | assumption) (rfl) (by decide) (by first | decide | omega) ?_
              refine z_iload_3 (pc := 86) dX9_brew_86 ?_
              refine z_ret (pc := 87) (r := some (.int _)) rfl dX9_brew_87 trivial rfl rfl ?_
              refine zPM_of ?_
              unfold mBrew
              rw [if_pos ⟨hx1, hx2⟩]
              simp only [*, if_true, if_false]
              rfl
        · skip
          refine z_aload_0 (pc := 42) dX9_brew_42 ?_
          refine z_V0 (pc := 43) dX9_brew_43 mlX9_204 kX9_remember vX9_remember (by decide) (by decide) (by first | rfl | assumption) (Nat.le_of_ble_eq_true rfl) (qX9_remember c hc hl) ⟨Nat.le_refl _, Nat.le_refl _⟩ (fun r h1 hq => ?_)
          obtain ⟨rfl, rfl⟩ := hq
          refine z_aload_0 (pc := 46) dX9_brew_46 ?_
          refine y_getR (pc := 47) dX9_brew_47 flX9_22 rfl (by first | rfl | assumption) (by first | rfl | assumption) ?_
          refine z_bipush (pc := 50) (44) dX9_brew_50 rfl ?_
          refine z_iload_3 (pc := 52) dX9_brew_52 ?_
          refine z_iadd (pc := 53) dX9_brew_53 ?_
          refine z_iconst (pc := 54) (1) dX9_brew_54 rfl ?_
          refine y_iastN (pc := 55) (44) dX9_brew_55 (by first | rfl | assumption) (rfl) (by decide) (by first | decide | omega) ?_
          refine z_aload_0 (pc := 56) dX9_brew_56 ?_
          refine y_getR (pc := 57) dX9_brew_57 flX9_22 rfl (by first | rfl | assumption) (by first | rfl | assumption) ?_
          refine z_bipush (pc := 60) (48) dX9_brew_60 rfl ?_
          refine z_iload_3 (pc := 62) dX9_brew_62 ?_
          refine z_iadd (pc := 63) dX9_brew_63 ?_
          refine z_iload_1 (pc := 64) dX9_brew_64 ?_
          refine y_iastN (pc := 65) (48) dX9_brew_65 (by first | rfl | assumption) (rfl) (by decide) (by first | decide | omega) ?_
          refine z_aload_0 (pc := 66) dX9_brew_66 ?_
          refine y_getR (pc := 67) dX9_brew_67 flX9_22 rfl (by first | rfl | assumption) (by first | rfl | assumption) ?_
          refine z_bipush (pc := 70) (52) dX9_brew_70 rfl ?_
          refine z_iload_3 (pc := 72) dX9_brew_72 ?_
          refine z_iadd (pc := 73) dX9_brew_73 ?_
          refine z_iload_2 (pc := 74) dX9_brew_74 ?_
          refine y_iastN (pc := 75) (52) dX9_brew_75 (by first | rfl | assumption) (rfl) (by decide) (by first | decide | omega) ?_
          refine z_aload_0 (pc := 76) dX9_brew_76 ?_
          refine y_getR (pc := 77) dX9_brew_77 flX9_22 rfl (by first | rfl | assumption) (by first | rfl | assumption) ?_
          refine z_bipush (pc := 80) (56) dX9_brew_80 rfl ?_
          refine z_iload_3 (pc := 82) dX9_brew_82 ?_
          refine z_iadd (pc := 83) dX9_brew_83 ?_
          refine z_iconst (pc := 84) (0) dX9_brew_84 rfl ?_
          refine y_iastN (pc := 85) (56) dX9_brew_85 (by first | rfl | assumption) (rfl) (by decide) (by first | decide | omega) ?_
          refine z_iload_3 (pc := 86) dX9_brew_86 ?_
          refine z_ret (pc := 87) (r := some (.int _)) rfl dX9_brew_87 trivial rfl rfl ?_
          refine zPM_of ?_
          unfold mBrew
          rw [if_pos ⟨hx1, hx2⟩]
          simp only [*, if_true, if_false]
          rfl
    · skip
      refine z_ldc (pc := 20) dX9_brew_20 kcX9_70 ?_
      refine z_ret (pc := 22) (r := some (.int _)) rfl dX9_brew_22 trivial rfl rfl ?_
      refine zPM_of ?_
      unfold mBrew
      rw [in_zlt (m := 21) (by decide)] at c17
      rw [if_neg (fun q => by rw [(zbb0 _).mp c17] at q; exact absurd q.2 (by decide))]
