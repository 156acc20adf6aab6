section ZR14
variable {l : zL} {M : zMd} {N S pc : Nat} {L st : List Value} {h : zH} {Q : Option Value → zH → Prop}
theorem z_lload_14 {x0 x1 x2 x3 x4 x5 x6 x7 x8 x9 x10 x11 x12 x13 : Value} {t : List Value} {x : Int64} (hd : decode M.2.1 pc = .ok (.lload 14, 2)) (k : zW l M N S (pc + 2) (x0 :: x1 :: x2 :: x3 :: x4 :: x5 :: x6 :: x7 :: x8 :: x9 :: x10 :: x11 :: x12 :: x13 :: .long x :: t) (.long x :: st) h Q) : zW l M N S pc (x0 :: x1 :: x2 :: x3 :: x4 :: x5 :: x6 :: x7 :: x8 :: x9 :: x10 :: x11 :: x12 :: x13 :: .long x :: t) st h Q := by
  intro p e s m args below meth c E n0 z0 H locs cells slots ls R Z C A hl hR K
  exact lv_lload C.1 C.2.1 hd (hl.2.2 14 (.long x) rfl (fun q => Value.noConfusion q)) (k p e s m args below meth c E n0 z0 H locs cells slots ls R Z C A hl hR K)
theorem z_lstore_14 {x0 x1 x2 x3 x4 x5 x6 x7 x8 x9 x10 x11 x12 x13 : Value} {y y2 : Value} {t : List Value} {x : Int64} (hd : decode M.2.1 pc = .ok (.lstore 14, 2)) (hn : 15 < M.2.2.1) (hc : x13.category = 1) (k : zW l M N S (pc + 2) (x0 :: x1 :: x2 :: x3 :: x4 :: x5 :: x6 :: x7 :: x8 :: x9 :: x10 :: x11 :: x12 :: x13 :: .long x :: zno :: t) st h Q) : zW l M N S pc (x0 :: x1 :: x2 :: x3 :: x4 :: x5 :: x6 :: x7 :: x8 :: x9 :: x10 :: x11 :: x12 :: x13 :: y :: y2 :: t) (.long x :: st) h Q := by
  intro p e s m args below meth c E n0 z0 H locs cells slots ls R Z C A hl hR K
  refine lv_lstore C.1 C.2.1 hd (zlv_has hl) hn rfl (fun ls2 hl2 => ?_)
  refine k p e s m args below meth c E n0 z0 H locs cells slots ls2 R Z C A (zlv_store2 (v := .long x) hl2 ?_) hR K
  intro j w hj hw
  cases j with
  | zero => exact Or.inr ⟨hj, by omega, by omega, fun q => by omega⟩
  | succ j =>
    cases j with
    | zero => exact Or.inr ⟨hj, by omega, by omega, fun q => by omega⟩
    | succ j =>
      cases j with
      | zero => exact Or.inr ⟨hj, by omega, by omega, fun q => by omega⟩
      | succ j =>
        cases j with
        | zero => exact Or.inr ⟨hj, by omega, by omega, fun q => by omega⟩
        | succ j =>
          cases j with
          | zero => exact Or.inr ⟨hj, by omega, by omega, fun q => by omega⟩
          | succ j =>
            cases j with
            | zero => exact Or.inr ⟨hj, by omega, by omega, fun q => by omega⟩
            | succ j =>
              cases j with
              | zero => exact Or.inr ⟨hj, by omega, by omega, fun q => by omega⟩
              | succ j =>
                cases j with
                | zero => exact Or.inr ⟨hj, by omega, by omega, fun q => by omega⟩
                | succ j =>
                  cases j with
                  | zero => exact Or.inr ⟨hj, by omega, by omega, fun q => by omega⟩
                  | succ j =>
                    cases j with
                    | zero => exact Or.inr ⟨hj, by omega, by omega, fun q => by omega⟩
                    | succ j =>
                      cases j with
                      | zero => exact Or.inr ⟨hj, by omega, by omega, fun q => by omega⟩
                      | succ j =>
                        cases j with
                        | zero => exact Or.inr ⟨hj, by omega, by omega, fun q => by omega⟩
                        | succ j =>
                          cases j with
                          | zero => exact Or.inr ⟨hj, by omega, by omega, fun q => by omega⟩
                          | succ j =>
                            cases j with
                            | zero => exact Or.inr ⟨hj, by omega, by omega, fun _ => (Option.some.inj hj) ▸ hc⟩
                            | succ j =>
                              cases j with
                              | zero => exact Or.inl ⟨rfl, (Option.some.inj hj).symm⟩
                              | succ j =>
                                cases j with
                                | zero => exact absurd (Option.some.inj hj).symm hw
                                | succ j => exact Or.inr ⟨hj, by omega, by omega, fun q => by omega⟩
theorem z_lstoreK_14 {x0 x1 x2 x3 x4 x5 x6 x7 x8 x9 x10 x11 x12 x13 : Value} {y y2 : Value} {t : List Value} {x : Int64} (hd : decode M.2.1 pc = .ok (.lstore 14, 2)) (hn : 15 < M.2.2.1) (k : zW l M N S (pc + 2) (x0 :: x1 :: x2 :: x3 :: x4 :: x5 :: x6 :: x7 :: x8 :: x9 :: x10 :: x11 :: x12 :: zno :: .long x :: zno :: t) st h Q) : zW l M N S pc (x0 :: x1 :: x2 :: x3 :: x4 :: x5 :: x6 :: x7 :: x8 :: x9 :: x10 :: x11 :: x12 :: x13 :: y :: y2 :: t) (.long x :: st) h Q := by
  intro p e s m args below meth c E n0 z0 H locs cells slots ls R Z C A hl hR K
  refine lv_lstore C.1 C.2.1 hd (zlv_has hl) hn rfl (fun ls2 hl2 => ?_)
  refine k p e s m args below meth c E n0 z0 H locs cells slots ls2 R Z C A (zlv_store2 (v := .long x) hl2 ?_) hR K
  intro j w hj hw
  cases j with
  | zero => exact Or.inr ⟨hj, by omega, by omega, fun q => by omega⟩
  | succ j =>
    cases j with
    | zero => exact Or.inr ⟨hj, by omega, by omega, fun q => by omega⟩
    | succ j =>
      cases j with
      | zero => exact Or.inr ⟨hj, by omega, by omega, fun q => by omega⟩
      | succ j =>
        cases j with
        | zero => exact Or.inr ⟨hj, by omega, by omega, fun q => by omega⟩
        | succ j =>
          cases j with
          | zero => exact Or.inr ⟨hj, by omega, by omega, fun q => by omega⟩
          | succ j =>
            cases j with
            | zero => exact Or.inr ⟨hj, by omega, by omega, fun q => by omega⟩
            | succ j =>
              cases j with
              | zero => exact Or.inr ⟨hj, by omega, by omega, fun q => by omega⟩
              | succ j =>
                cases j with
                | zero => exact Or.inr ⟨hj, by omega, by omega, fun q => by omega⟩
                | succ j =>
                  cases j with
                  | zero => exact Or.inr ⟨hj, by omega, by omega, fun q => by omega⟩
                  | succ j =>
                    cases j with
                    | zero => exact Or.inr ⟨hj, by omega, by omega, fun q => by omega⟩
                    | succ j =>
                      cases j with
                      | zero => exact Or.inr ⟨hj, by omega, by omega, fun q => by omega⟩
                      | succ j =>
                        cases j with
                        | zero => exact Or.inr ⟨hj, by omega, by omega, fun q => by omega⟩
                        | succ j =>
                          cases j with
                          | zero => exact Or.inr ⟨hj, by omega, by omega, fun q => by omega⟩
                          | succ j =>
                            cases j with
                            | zero => exact absurd (Option.some.inj hj).symm hw
                            | succ j =>
                              cases j with
                              | zero => exact Or.inl ⟨rfl, (Option.some.inj hj).symm⟩
                              | succ j =>
                                cases j with
                                | zero => exact absurd (Option.some.inj hj).symm hw
                                | succ j => exact Or.inr ⟨hj, by omega, by omega, fun q => by omega⟩
end ZR14
