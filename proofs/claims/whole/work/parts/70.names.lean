/-! the reference: the names in an IF -/
theorem blk_stop {T : Nat → Int} {N : Nat} : ∀ f p, f + p = N → ¬ (blk T N f p < N ∧ (T (blk T N f p) = 32 ∨ T (blk T N f p) = 10))
  | 0, p, h => by
    show ¬ (p < N ∧ _)
    rintro ⟨a, -⟩; omega
  | f + 1, p, h => by
    have e : blk T N (f + 1) p = if p < N ∧ (T p = 32 ∨ T p = 10) then blk T N f (p + 1) else p := rfl
    by_cases c : p < N ∧ (T p = 32 ∨ T p = 10)
    · rw [e, if_pos c]; exact blk_stop f (p + 1) (by omega)
    · rw [e, if_neg c]; exact c
theorem bl_bl {T : Nat → Int} {N p : Nat} (h : p ≤ N) : bl T N (bl T N p) = bl T N p := by
  have hs := blk_stop (T := T) (N := N) (N - p) p (by omega)
  have e : blk T N (N - p) p = bl T N p := rfl
  rw [e] at hs
  generalize bl T N p = r at hs
  unfold bl
  generalize N - r = f
  cases f with
  | zero => rfl
  | succ f => exact if_neg hs
set_option maxRecDepth 4000 in
theorem e318 {d L : Nat} {I : Nat → Nat → Int32} {R : Nat → Nat → Option Nat} {S : List (Nat × Nat)} {K : Int32 → mM → Prop} {A : aS} (hR : RM I A)  (hE : ∃ (T1 : Nat → Int) (N2 p3 : Nat), Tx I T1 N2 p3 ∧ (((tkOk T1 N2 (bl T1 N2 p3) (Int64.ofInt 6383461)) → ∀ (I6 : mI), (Fr [] [(91, 69)] I I6) → (RM I6 A) → (Tx I6 T1 N2 (lt T1 N2 (bl T1 N2 p3))) → K (oI 0) (bd L I6 R S)) ∧ (¬ (tkOk T1 N2 (bl T1 N2 p3) (Int64.ofInt 6383461)) → ∀ (I6 : mI), (Fr [] [(91, 69)] I I6) → (RM I6 A) → (Tx I6 T1 N2 (bl T1 N2 p3)) → ∃ (T13 : Nat → Int) (N14 p15 : Nat), Tx I6 T13 N14 p15 ∧ (((tkOk T13 N14 (bl T13 N14 p15) (Int64.ofInt 8319381538418553444)) → ∀ (I18 : mI), (Fr [] [(91, 69)] I6 I18) → (RM I18 A) → (Tx I18 T13 N14 (lt T13 N14 (bl T13 N14 p15))) → K (oI 1) (bd L I18 R S)) ∧ (¬ (tkOk T13 N14 (bl T13 N14 p15) (Int64.ofInt 8319381538418553444)) → ∀ (I18 : mI), (Fr [] [(91, 69)] I6 I18) → (RM I18 A) → (Tx I18 T13 N14 (bl T13 N14 p15)) → ∃ (T25 : Nat → Int) (N26 p27 : Nat), Tx I18 T25 N26 p27 ∧ (((tkOk T25 N26 (bl T25 N26 p27) (Int64.ofInt 6578553)) → ∀ (I30 : mI), (Fr [] [(91, 69)] I18 I30) → (RM I30 A) → (Tx I30 T25 N26 (lt T25 N26 (bl T25 N26 p27))) → K (oI 2) (bd L I30 R S)) ∧ (¬ (tkOk T25 N26 (bl T25 N26 p27) (Int64.ofInt 6578553)) → ∀ (I30 : mI), (Fr [] [(91, 69)] I18 I30) → (RM I30 A) → (Tx I30 T25 N26 (bl T25 N26 p27)) → ∃ (T37 : Nat → Int) (N38 p39 : Nat), Tx I30 T37 N38 p39 ∧ (((tkOk T37 N38 (bl T37 N38 p39) (Int64.ofInt 2036687218)) → ∀ (I42 : mI), (Fr [] [(91, 69)] I30 I42) → (RM I42 A) → (Tx I42 T37 N38 (lt T37 N38 (bl T37 N38 p39))) → K (oI 3) (bd L I42 R S)) ∧ (¬ (tkOk T37 N38 (bl T37 N38 p39) (Int64.ofInt 2036687218)) → ∀ (I42 : mI), (Fr [] [(91, 69)] I30 I42) → (RM I42 A) → (Tx I42 T37 N38 (bl T37 N38 p39)) → ∃ (T49 : Nat → Int) (N50 p51 : Nat), Tx I42 T49 N50 p51 ∧ (((tkOk T49 N50 (bl T49 N50 p51) (Int64.ofInt 1751215206)) → ∀ (I54 : mI), (Fr [] [(91, 69)] I42 I54) → (RM I54 A) → (Tx I54 T49 N50 (lt T49 N50 (bl T49 N50 p51))) → K (oI 4) (bd L I54 R S)) ∧ (¬ (tkOk T49 N50 (bl T49 N50 p51) (Int64.ofInt 1751215206)) → ∀ (I54 : mI), (Fr [] [(91, 69)] I42 I54) → (RM I54 A) → (Tx I54 T49 N50 (bl T49 N50 p51)) → ∃ (T61 : Nat → Int) (N62 p63 : Nat), Tx I54 T61 N62 p63 ∧ (((tkOk T61 N62 (bl T61 N62 p63) (Int64.ofInt 28561341215368548)) → ∀ (I66 : mI), (Fr [] [(91, 69)] I54 I66) → (RM I66 A) → (Tx I66 T61 N62 (lt T61 N62 (bl T61 N62 p63))) → K (oI 5) (bd L I66 R S)) ∧ (¬ (tkOk T61 N62 (bl T61 N62 p63) (Int64.ofInt 28561341215368548)) → ∀ (I66 : mI), (Fr [] [(91, 69)] I54 I66) → (RM I66 A) → (Tx I66 T61 N62 (bl T61 N62 p63)) → ∃ (T73 : Nat → Int) (N74 p75 : Nat), Tx I66 T73 N74 p75 ∧ (((tkOk T73 N74 (bl T73 N74 p75) (Int64.ofInt 499984983410)) → ∀ (I78 : mI), (Fr [] [(91, 69)] I66 I78) → (RM I78 A) → (Tx I78 T73 N74 (lt T73 N74 (bl T73 N74 p75))) → K (oI 6) (bd L I78 R S)) ∧ (¬ (tkOk T73 N74 (bl T73 N74 p75) (Int64.ofInt 499984983410)) → ∀ (I78 : mI), (Fr [] [(91, 69)] I66 I78) → (RM I78 A) → (Tx I78 T73 N74 (bl T73 N74 p75)) → ∃ (T85 : Nat → Int) (N86 p87 : Nat), Tx I78 T85 N86 p87 ∧ (((tkOk T85 N86 (bl T85 N86 p87) (Int64.ofInt 123563851081075)) → ∀ (I90 : mI), (Fr [] [(91, 69)] I78 I90) → (RM I90 A) → (Tx I90 T85 N86 (lt T85 N86 (bl T85 N86 p87))) → K (oI 7) (bd L I90 R S)) ∧ (¬ (tkOk T85 N86 (bl T85 N86 p87) (Int64.ofInt 123563851081075)) → ∀ (I90 : mI), (Fr [] [(91, 69)] I78 I90) → (RM I90 A) → (Tx I90 T85 N86 (bl T85 N86 p87)) → ∃ (T97 : Nat → Int) (N98 p99 : Nat), Tx I90 T97 N98 p99 ∧ (((tkOk T97 N98 (bl T97 N98 p99) (Int64.ofInt 8175547842767975027)) → ∀ (I102 : mI), (Fr [] [(91, 69)] I90 I102) → (RM I102 A) → (Tx I102 T97 N98 (lt T97 N98 (bl T97 N98 p99))) → K (oI 8) (bd L I102 R S)) ∧ (¬ (tkOk T97 N98 (bl T97 N98 p99) (Int64.ofInt 8175547842767975027)) → ∀ (I102 : mI), (Fr [] [(91, 69)] I90 I102) → (RM I102 A) → (Tx I102 T97 N98 (bl T97 N98 p99)) → ∃ (T109 : Nat → Int) (N110 p111 : Nat), Tx I102 T109 N110 p111 ∧ (((tkOk T109 N110 (bl T109 N110 p111) (Int64.ofInt 32498687873999732)) → ∀ (I114 : mI), (Fr [] [(91, 69)] I102 I114) → (RM I114 A) → (Tx I114 T109 N110 (lt T109 N110 (bl T109 N110 p111))) → K (oI 9) (bd L I114 R S)) ∧ (¬ (tkOk T109 N110 (bl T109 N110 p111) (Int64.ofInt 32498687873999732)) → ∀ (I114 : mI), (Fr [] [(91, 69)] I102 I114) → (RM I114 A) → (Tx I114 T109 N110 (bl T109 N110 p111)) → ∃ (T121 : Nat → Int) (N122 p123 : Nat), Tx I114 T121 N122 p123 ∧ (((tkOk T121 N122 (bl T121 N122 p123) (Int64.ofInt 1835102827)) → ∀ (I126 : mI), (Fr [] [(91, 69)] I114 I126) → (RM I126 A) → (Tx I126 T121 N122 (lt T121 N122 (bl T121 N122 p123))) → K (oI 10) (bd L I126 R S)) ∧ (¬ (tkOk T121 N122 (bl T121 N122 p123) (Int64.ofInt 1835102827)) → ∀ (I126 : mI), (Fr [] [(91, 69)] I114 I126) → (RM I126 A) → (Tx I126 T121 N122 (bl T121 N122 p123)) → ∃ (T133 : Nat → Int) (N134 p135 : Nat), Tx I126 T133 N134 p135 ∧ (((tkOk T133 N134 (bl T133 N134 p135) (Int64.ofInt 1886351218)) → ∀ (I138 : mI), (Fr [] [(91, 69)] I126 I138) → (RM I138 A) → (Tx I138 T133 N134 (lt T133 N134 (bl T133 N134 p135))) → K (oI 11) (bd L I138 R S)) ∧ (¬ (tkOk T133 N134 (bl T133 N134 p135) (Int64.ofInt 1886351218)) → ∀ (I138 : mI), (Fr [] [(91, 69)] I126 I138) → (RM I138 A) → (Tx I138 T133 N134 (bl T133 N134 p135)) → K (oI (-1)) (bd L I138 R S)))))))))))))))))))))))))) : CallI (d + 2) 318 [.ref 91] (bd L I R S) K := by
  refine cI_of (ls := [.ref 91]) rfl ?_
  refine xG gb318.1 ?_
  refine s6 (p := 91) rfl ?_
  refine s2 ?_
  obtain ⟨T1, N2, p3, k4, hE⟩ := hE
  refine sI rc304 rfl (Nat.le_of_ble_eq_true rfl) ?_
  refine k304 hR k4 (fun c5 I6 q7 q8 q9 => ?_) (fun c5 I6 q7 q8 q9 => ?_)
  · replace hE := hE.1 c5 I6 q7 q8 q9
    refine s67 (inRd rfl) (fun c11 => absurd c11 (by decide)) (fun _ => ?_)
    refine s0 ?_
    refine s60 ?_
    refine xG gb318.2.2.2.2.2.2.2.2.2.2.2.2.2 ?_
    refine s80 ?_
    exact rqI_of hE
  · replace hE := hE.2 c5 I6 q7 q8 q9
    refine s67 (inRd rfl) (fun _ => ?_) (fun c12 => absurd (by decide) c12)
    refine xG gb318.2.1 ?_
    refine s6 (p := 91) rfl ?_
    refine s2 ?_
    obtain ⟨T13, N14, p15, k16, hE⟩ := hE
    refine sI rc304 rfl (Nat.le_of_ble_eq_true rfl) ?_
    refine k304 q8 k16 (fun c17 I18 q19 q20 q21 => ?_) (fun c17 I18 q19 q20 q21 => ?_)
    · replace hE := hE.1 c17 I18 q19 q20 q21
      refine s67 (inRd rfl) (fun c23 => absurd c23 (by decide)) (fun _ => ?_)
      refine s0 ?_
      refine s60 ?_
      refine xG gb318.2.2.2.2.2.2.2.2.2.2.2.2.2 ?_
      refine s80 ?_
      exact rqI_of hE
    · replace hE := hE.2 c17 I18 q19 q20 q21
      refine s67 (inRd rfl) (fun _ => ?_) (fun c24 => absurd (by decide) c24)
      refine xG gb318.2.2.1 ?_
      refine s6 (p := 91) rfl ?_
      refine s2 ?_
      obtain ⟨T25, N26, p27, k28, hE⟩ := hE
      refine sI rc304 rfl (Nat.le_of_ble_eq_true rfl) ?_
      refine k304 q20 k28 (fun c29 I30 q31 q32 q33 => ?_) (fun c29 I30 q31 q32 q33 => ?_)
      · replace hE := hE.1 c29 I30 q31 q32 q33
        refine s67 (inRd rfl) (fun c35 => absurd c35 (by decide)) (fun _ => ?_)
        refine s0 ?_
        refine s60 ?_
        refine xG gb318.2.2.2.2.2.2.2.2.2.2.2.2.2 ?_
        refine s80 ?_
        exact rqI_of hE
      · replace hE := hE.2 c29 I30 q31 q32 q33
        refine s67 (inRd rfl) (fun _ => ?_) (fun c36 => absurd (by decide) c36)
        refine xG gb318.2.2.2.1 ?_
        refine s6 (p := 91) rfl ?_
        refine s2 ?_
        obtain ⟨T37, N38, p39, k40, hE⟩ := hE
        refine sI rc304 rfl (Nat.le_of_ble_eq_true rfl) ?_
        refine k304 q32 k40 (fun c41 I42 q43 q44 q45 => ?_) (fun c41 I42 q43 q44 q45 => ?_)
        · replace hE := hE.1 c41 I42 q43 q44 q45
          refine s67 (inRd rfl) (fun c47 => absurd c47 (by decide)) (fun _ => ?_)
          refine s0 ?_
          refine s60 ?_
          refine xG gb318.2.2.2.2.2.2.2.2.2.2.2.2.2 ?_
          refine s80 ?_
          exact rqI_of hE
        · replace hE := hE.2 c41 I42 q43 q44 q45
          refine s67 (inRd rfl) (fun _ => ?_) (fun c48 => absurd (by decide) c48)
          refine xG gb318.2.2.2.2.1 ?_
          refine s6 (p := 91) rfl ?_
          refine s2 ?_
          obtain ⟨T49, N50, p51, k52, hE⟩ := hE
          refine sI rc304 rfl (Nat.le_of_ble_eq_true rfl) ?_
          refine k304 q44 k52 (fun c53 I54 q55 q56 q57 => ?_) (fun c53 I54 q55 q56 q57 => ?_)
          · replace hE := hE.1 c53 I54 q55 q56 q57
            refine s67 (inRd rfl) (fun c59 => absurd c59 (by decide)) (fun _ => ?_)
            refine s0 ?_
            refine s60 ?_
            refine xG gb318.2.2.2.2.2.2.2.2.2.2.2.2.2 ?_
            refine s80 ?_
            exact rqI_of hE
          · replace hE := hE.2 c53 I54 q55 q56 q57
            refine s67 (inRd rfl) (fun _ => ?_) (fun c60 => absurd (by decide) c60)
            refine xG gb318.2.2.2.2.2.1 ?_
            refine s6 (p := 91) rfl ?_
            refine s2 ?_
            obtain ⟨T61, N62, p63, k64, hE⟩ := hE
            refine sI rc304 rfl (Nat.le_of_ble_eq_true rfl) ?_
            refine k304 q56 k64 (fun c65 I66 q67 q68 q69 => ?_) (fun c65 I66 q67 q68 q69 => ?_)
            · replace hE := hE.1 c65 I66 q67 q68 q69
              refine s67 (inRd rfl) (fun c71 => absurd c71 (by decide)) (fun _ => ?_)
              refine s0 ?_
              refine s60 ?_
              refine xG gb318.2.2.2.2.2.2.2.2.2.2.2.2.2 ?_
              refine s80 ?_
              exact rqI_of hE
            · replace hE := hE.2 c65 I66 q67 q68 q69
              refine s67 (inRd rfl) (fun _ => ?_) (fun c72 => absurd (by decide) c72)
              refine xG gb318.2.2.2.2.2.2.1 ?_
              refine s6 (p := 91) rfl ?_
              refine s2 ?_
              obtain ⟨T73, N74, p75, k76, hE⟩ := hE
              refine sI rc304 rfl (Nat.le_of_ble_eq_true rfl) ?_
              refine k304 q68 k76 (fun c77 I78 q79 q80 q81 => ?_) (fun c77 I78 q79 q80 q81 => ?_)
              · replace hE := hE.1 c77 I78 q79 q80 q81
                refine s67 (inRd rfl) (fun c83 => absurd c83 (by decide)) (fun _ => ?_)
                refine s0 ?_
                refine s60 ?_
                refine xG gb318.2.2.2.2.2.2.2.2.2.2.2.2.2 ?_
                refine s80 ?_
                exact rqI_of hE
              · replace hE := hE.2 c77 I78 q79 q80 q81
                refine s67 (inRd rfl) (fun _ => ?_) (fun c84 => absurd (by decide) c84)
                refine xG gb318.2.2.2.2.2.2.2.1 ?_
                refine s6 (p := 91) rfl ?_
                refine s2 ?_
                obtain ⟨T85, N86, p87, k88, hE⟩ := hE
                refine sI rc304 rfl (Nat.le_of_ble_eq_true rfl) ?_
                refine k304 q80 k88 (fun c89 I90 q91 q92 q93 => ?_) (fun c89 I90 q91 q92 q93 => ?_)
                · replace hE := hE.1 c89 I90 q91 q92 q93
                  refine s67 (inRd rfl) (fun c95 => absurd c95 (by decide)) (fun _ => ?_)
                  refine s0 ?_
                  refine s60 ?_
                  refine xG gb318.2.2.2.2.2.2.2.2.2.2.2.2.2 ?_
                  refine s80 ?_
                  exact rqI_of hE
                · replace hE := hE.2 c89 I90 q91 q92 q93
                  refine s67 (inRd rfl) (fun _ => ?_) (fun c96 => absurd (by decide) c96)
                  refine xG gb318.2.2.2.2.2.2.2.2.1 ?_
                  refine s6 (p := 91) rfl ?_
                  refine s2 ?_
                  obtain ⟨T97, N98, p99, k100, hE⟩ := hE
                  refine sI rc304 rfl (Nat.le_of_ble_eq_true rfl) ?_
                  refine k304 q92 k100 (fun c101 I102 q103 q104 q105 => ?_) (fun c101 I102 q103 q104 q105 => ?_)
                  · replace hE := hE.1 c101 I102 q103 q104 q105
                    refine s67 (inRd rfl) (fun c107 => absurd c107 (by decide)) (fun _ => ?_)
                    refine s0 ?_
                    refine s60 ?_
                    refine xG gb318.2.2.2.2.2.2.2.2.2.2.2.2.2 ?_
                    refine s80 ?_
                    exact rqI_of hE
                  · replace hE := hE.2 c101 I102 q103 q104 q105
                    refine s67 (inRd rfl) (fun _ => ?_) (fun c108 => absurd (by decide) c108)
                    refine xG gb318.2.2.2.2.2.2.2.2.2.1 ?_
                    refine s6 (p := 91) rfl ?_
                    refine s2 ?_
                    obtain ⟨T109, N110, p111, k112, hE⟩ := hE
                    refine sI rc304 rfl (Nat.le_of_ble_eq_true rfl) ?_
                    refine k304 q104 k112 (fun c113 I114 q115 q116 q117 => ?_) (fun c113 I114 q115 q116 q117 => ?_)
                    · replace hE := hE.1 c113 I114 q115 q116 q117
                      refine s67 (inRd rfl) (fun c119 => absurd c119 (by decide)) (fun _ => ?_)
                      refine s0 ?_
                      refine s60 ?_
                      refine xG gb318.2.2.2.2.2.2.2.2.2.2.2.2.2 ?_
                      refine s80 ?_
                      exact rqI_of hE
                    · replace hE := hE.2 c113 I114 q115 q116 q117
                      refine s67 (inRd rfl) (fun _ => ?_) (fun c120 => absurd (by decide) c120)
                      refine xG gb318.2.2.2.2.2.2.2.2.2.2.1 ?_
                      refine s6 (p := 91) rfl ?_
                      refine s2 ?_
                      obtain ⟨T121, N122, p123, k124, hE⟩ := hE
                      refine sI rc304 rfl (Nat.le_of_ble_eq_true rfl) ?_
                      refine k304 q116 k124 (fun c125 I126 q127 q128 q129 => ?_) (fun c125 I126 q127 q128 q129 => ?_)
                      · replace hE := hE.1 c125 I126 q127 q128 q129
                        refine s67 (inRd rfl) (fun c131 => absurd c131 (by decide)) (fun _ => ?_)
                        refine s0 ?_
                        refine s60 ?_
                        refine xG gb318.2.2.2.2.2.2.2.2.2.2.2.2.2 ?_
                        refine s80 ?_
                        exact rqI_of hE
                      · replace hE := hE.2 c125 I126 q127 q128 q129
                        refine s67 (inRd rfl) (fun _ => ?_) (fun c132 => absurd (by decide) c132)
                        refine xG gb318.2.2.2.2.2.2.2.2.2.2.2.1 ?_
                        refine s6 (p := 91) rfl ?_
                        refine s2 ?_
                        obtain ⟨T133, N134, p135, k136, hE⟩ := hE
                        refine sI rc304 rfl (Nat.le_of_ble_eq_true rfl) ?_
                        refine k304 q128 k136 (fun c137 I138 q139 q140 q141 => ?_) (fun c137 I138 q139 q140 q141 => ?_)
                        · replace hE := hE.1 c137 I138 q139 q140 q141
                          refine s67 (inRd rfl) (fun c143 => absurd c143 (by decide)) (fun _ => ?_)
                          refine s0 ?_
                          refine s60 ?_
                          refine xG gb318.2.2.2.2.2.2.2.2.2.2.2.2.2 ?_
                          refine s80 ?_
                          exact rqI_of hE
                        · replace hE := hE.2 c137 I138 q139 q140 q141
                          refine s67 (inRd rfl) (fun _ => ?_) (fun c144 => absurd (by decide) c144)
                          refine xG gb318.2.2.2.2.2.2.2.2.2.2.2.2.1 ?_
                          refine s0 ?_
                          refine s79 ?_
                          refine xG gb318.2.2.2.2.2.2.2.2.2.2.2.2.2 ?_
                          refine s80 ?_
                          exact rqI_of hE
def nmS (T : Nat → Int) (N q : Nat) : Int := (if tkOk T N q (Int64.ofInt 6383461) then 0 else (if tkOk T N q (Int64.ofInt 8319381538418553444) then 1 else (if tkOk T N q (Int64.ofInt 6578553) then 2 else (if tkOk T N q (Int64.ofInt 2036687218) then 3 else (if tkOk T N q (Int64.ofInt 1751215206) then 4 else (if tkOk T N q (Int64.ofInt 28561341215368548) then 5 else (if tkOk T N q (Int64.ofInt 499984983410) then 6 else (if tkOk T N q (Int64.ofInt 123563851081075) then 7 else (if tkOk T N q (Int64.ofInt 8175547842767975027) then 8 else (if tkOk T N q (Int64.ofInt 32498687873999732) then 9 else (if tkOk T N q (Int64.ofInt 1835102827) then 10 else (if tkOk T N q (Int64.ofInt 1886351218) then 11 else -1))))))))))))
theorem k318 {d L : Nat} {I I0 : mI} {R : Nat → Nat → Option Nat} {S : List (Nat × Nat)} {Q : Option Value → mM → Prop} {A : aS} {T : Nat → Int} {N p : Nat} {K : Int32 → mM → Prop} (hR : RM I A) (ht : Tx I T N p) (hK : ∀ I1, Fr [] [(91, 69)] I I1 → RM I1 A → Tx I1 T N (if nmS T N (bl T N p) = -1 then bl T N p else lt T N (bl T N p)) → K (oI (nmS T N (bl T N p))) (bd L I1 R S)) : CallI (d + 2) 318 [.ref 91] (bd L I R S) K := by
  have bb := bl_bl (T := T) ht.2.2.2.1
  have t0 := ht
  refine e318 (d := d) hR ?_
  refine ⟨T, N, p, t0, ?_⟩
  refine ⟨fun c0 I1 g0 r0 t1 => ?_, fun c0 I1 g0 r0 t1 => ?_⟩
  · have e : nmS T N (bl T N p) = 0 := by unfold nmS; rw [if_pos c0]
    rw [e] at hK
    exact hK I1 g0 r0 (by rw [if_neg (by decide)]; exact t1)
  refine ⟨T, N, bl T N p, t1, ?_⟩
  rw [bb]
  refine ⟨fun c1 I2 g1 r1 t2 => ?_, fun c1 I2 g1 r1 t2 => ?_⟩
  · have e : nmS T N (bl T N p) = 1 := by unfold nmS; rw [if_neg c0, if_pos c1]
    rw [e] at hK
    exact hK I2 (Fr.trans g0 g1) r1 (by rw [if_neg (by decide)]; exact t2)
  refine ⟨T, N, bl T N p, t2, ?_⟩
  rw [bb]
  refine ⟨fun c2 I3 g2 r2 t3 => ?_, fun c2 I3 g2 r2 t3 => ?_⟩
  · have e : nmS T N (bl T N p) = 2 := by unfold nmS; rw [if_neg c0, if_neg c1, if_pos c2]
    rw [e] at hK
    exact hK I3 (Fr.trans (Fr.trans g0 g1) g2) r2 (by rw [if_neg (by decide)]; exact t3)
  refine ⟨T, N, bl T N p, t3, ?_⟩
  rw [bb]
  refine ⟨fun c3 I4 g3 r3 t4 => ?_, fun c3 I4 g3 r3 t4 => ?_⟩
  · have e : nmS T N (bl T N p) = 3 := by unfold nmS; rw [if_neg c0, if_neg c1, if_neg c2, if_pos c3]
    rw [e] at hK
    exact hK I4 (Fr.trans (Fr.trans (Fr.trans g0 g1) g2) g3) r3 (by rw [if_neg (by decide)]; exact t4)
  refine ⟨T, N, bl T N p, t4, ?_⟩
  rw [bb]
  refine ⟨fun c4 I5 g4 r4 t5 => ?_, fun c4 I5 g4 r4 t5 => ?_⟩
  · have e : nmS T N (bl T N p) = 4 := by unfold nmS; rw [if_neg c0, if_neg c1, if_neg c2, if_neg c3, if_pos c4]
    rw [e] at hK
    exact hK I5 (Fr.trans (Fr.trans (Fr.trans (Fr.trans g0 g1) g2) g3) g4) r4 (by rw [if_neg (by decide)]; exact t5)
  refine ⟨T, N, bl T N p, t5, ?_⟩
  rw [bb]
  refine ⟨fun c5 I6 g5 r5 t6 => ?_, fun c5 I6 g5 r5 t6 => ?_⟩
  · have e : nmS T N (bl T N p) = 5 := by unfold nmS; rw [if_neg c0, if_neg c1, if_neg c2, if_neg c3, if_neg c4, if_pos c5]
    rw [e] at hK
    exact hK I6 (Fr.trans (Fr.trans (Fr.trans (Fr.trans (Fr.trans g0 g1) g2) g3) g4) g5) r5 (by rw [if_neg (by decide)]; exact t6)
  refine ⟨T, N, bl T N p, t6, ?_⟩
  rw [bb]
  refine ⟨fun c6 I7 g6 r6 t7 => ?_, fun c6 I7 g6 r6 t7 => ?_⟩
  · have e : nmS T N (bl T N p) = 6 := by unfold nmS; rw [if_neg c0, if_neg c1, if_neg c2, if_neg c3, if_neg c4, if_neg c5, if_pos c6]
    rw [e] at hK
    exact hK I7 (Fr.trans (Fr.trans (Fr.trans (Fr.trans (Fr.trans (Fr.trans g0 g1) g2) g3) g4) g5) g6) r6 (by rw [if_neg (by decide)]; exact t7)
  refine ⟨T, N, bl T N p, t7, ?_⟩
  rw [bb]
  refine ⟨fun c7 I8 g7 r7 t8 => ?_, fun c7 I8 g7 r7 t8 => ?_⟩
  · have e : nmS T N (bl T N p) = 7 := by unfold nmS; rw [if_neg c0, if_neg c1, if_neg c2, if_neg c3, if_neg c4, if_neg c5, if_neg c6, if_pos c7]
    rw [e] at hK
    exact hK I8 (Fr.trans (Fr.trans (Fr.trans (Fr.trans (Fr.trans (Fr.trans (Fr.trans g0 g1) g2) g3) g4) g5) g6) g7) r7 (by rw [if_neg (by decide)]; exact t8)
  refine ⟨T, N, bl T N p, t8, ?_⟩
  rw [bb]
  refine ⟨fun c8 I9 g8 r8 t9 => ?_, fun c8 I9 g8 r8 t9 => ?_⟩
  · have e : nmS T N (bl T N p) = 8 := by unfold nmS; rw [if_neg c0, if_neg c1, if_neg c2, if_neg c3, if_neg c4, if_neg c5, if_neg c6, if_neg c7, if_pos c8]
    rw [e] at hK
    exact hK I9 (Fr.trans (Fr.trans (Fr.trans (Fr.trans (Fr.trans (Fr.trans (Fr.trans (Fr.trans g0 g1) g2) g3) g4) g5) g6) g7) g8) r8 (by rw [if_neg (by decide)]; exact t9)
  refine ⟨T, N, bl T N p, t9, ?_⟩
  rw [bb]
  refine ⟨fun c9 I10 g9 r9 t10 => ?_, fun c9 I10 g9 r9 t10 => ?_⟩
  · have e : nmS T N (bl T N p) = 9 := by unfold nmS; rw [if_neg c0, if_neg c1, if_neg c2, if_neg c3, if_neg c4, if_neg c5, if_neg c6, if_neg c7, if_neg c8, if_pos c9]
    rw [e] at hK
    exact hK I10 (Fr.trans (Fr.trans (Fr.trans (Fr.trans (Fr.trans (Fr.trans (Fr.trans (Fr.trans (Fr.trans g0 g1) g2) g3) g4) g5) g6) g7) g8) g9) r9 (by rw [if_neg (by decide)]; exact t10)
  refine ⟨T, N, bl T N p, t10, ?_⟩
  rw [bb]
  refine ⟨fun c10 I11 g10 r10 t11 => ?_, fun c10 I11 g10 r10 t11 => ?_⟩
  · have e : nmS T N (bl T N p) = 10 := by unfold nmS; rw [if_neg c0, if_neg c1, if_neg c2, if_neg c3, if_neg c4, if_neg c5, if_neg c6, if_neg c7, if_neg c8, if_neg c9, if_pos c10]
    rw [e] at hK
    exact hK I11 (Fr.trans (Fr.trans (Fr.trans (Fr.trans (Fr.trans (Fr.trans (Fr.trans (Fr.trans (Fr.trans (Fr.trans g0 g1) g2) g3) g4) g5) g6) g7) g8) g9) g10) r10 (by rw [if_neg (by decide)]; exact t11)
  refine ⟨T, N, bl T N p, t11, ?_⟩
  rw [bb]
  refine ⟨fun c11 I12 g11 r11 t12 => ?_, fun c11 I12 g11 r11 t12 => ?_⟩
  · have e : nmS T N (bl T N p) = 11 := by unfold nmS; rw [if_neg c0, if_neg c1, if_neg c2, if_neg c3, if_neg c4, if_neg c5, if_neg c6, if_neg c7, if_neg c8, if_neg c9, if_neg c10, if_pos c11]
    rw [e] at hK
    exact hK I12 (Fr.trans (Fr.trans (Fr.trans (Fr.trans (Fr.trans (Fr.trans (Fr.trans (Fr.trans (Fr.trans (Fr.trans (Fr.trans g0 g1) g2) g3) g4) g5) g6) g7) g8) g9) g10) g11) r11 (by rw [if_neg (by decide)]; exact t12)
  have e : nmS T N (bl T N p) = -1 := by unfold nmS; rw [if_neg c0, if_neg c1, if_neg c2, if_neg c3, if_neg c4, if_neg c5, if_neg c6, if_neg c7, if_neg c8, if_neg c9, if_neg c10, if_neg c11]
  rw [e] at hK
  exact hK I12 (Fr.trans (Fr.trans (Fr.trans (Fr.trans (Fr.trans (Fr.trans (Fr.trans (Fr.trans (Fr.trans (Fr.trans (Fr.trans g0 g1) g2) g3) g4) g5) g6) g7) g8) g9) g10) g11) r11 (by rw [if_pos rfl]; exact t12)
theorem nmS_in {T : Nat → Int} {N q : Nat} : -1 ≤ nmS T N q ∧ nmS T N q < 12 := by
  unfold nmS
  repeat' split
  all_goals decide
