/-! the reference: single, all, any, as they are walked -/
theorem CallI.mono {d m : Nat} {as : List Value} {σ : mM} {K K2 : Int32 → mM → Prop} (h : CallI d m as σ K) (hk : ∀ y s, K y s → K2 y s) : CallI d m as σ K2 := Wp.mono h (fun _ _ ⟨x, a, b⟩ => ⟨x, a, hk _ _ b⟩)
theorem nmS_inR {T : Nat → Int} {N q : Nat} : inR (nmS T N q) := by have := nmS_in (T := T) (N := N) (q := q); unfold inR; omega
set_option maxRecDepth 4000 in
theorem e317 {d L : Nat} {I : Nat → Nat → Int32} {R : Nat → Nat → Option Nat} {S : List (Nat × Nat)} {K : Int32 → mM → Prop} {A : aS} (hR : RM I A)  (hE : ∃ (T1 : Nat → Int) (N2 p3 : Nat), Tx I T1 N2 p3 ∧ (∀ (I5 : mI), (Fr [] [(91, 69)] I I5) → (RM I5 A) → (Tx I5 T1 N2 (bl T1 N2 p3)) → ∃ (T9 : Nat → Int) (N10 p11 : Nat), Tx I5 T9 N10 p11 ∧ (((tkOk T9 N10 (bl T9 N10 p11) (Int64.ofInt 7237492)) → ∀ (I14 : mI), (Fr [] [(91, 69)] I5 I14) → (RM I14 A) → (Tx I14 T9 N10 (lt T9 N10 (bl T9 N10 p11))) → ((ld I14 91 70 = 10) → K (oI (-1)) (bd L (u2 I14 91 69 (oI (ld I5 91 69))) R S)) ∧ (¬ (ld I14 91 70 = 10) → (0 ≤ A 91 66 ∧ A 91 66 < 7200) ∧ (inR (A 91 66 + 1) ∧ (∀ (I23 : mI) (A24 : aS), (I23 = (u2 (u2 (u2 (u2 (u2 I14 91 70 (oI (ld I14 91 70 + 1))) 144 (A 91 66).toNat (oI 2)) 145 (A 91 66).toNat (oI (-1))) 146 (A 91 66).toNat (oI (-1))) 91 66 (oI (A 91 66 + 1)))) → (A24 = (u2 (u2 (u2 (u2 A 144 (A 91 66).toNat 2) 145 (A 91 66).toNat (-1)) 146 (A 91 66).toNat (-1)) 91 66 (A 91 66 + 1))) → (RM I23 A24) → CallI (d + 2) 317 [.ref 91] (bd L I23 R S) (fun y s => ∃ (y28 : Int) (I29 : mI) (A30 : aS), y = oI y28 ∧ s = bd L I29 R S ∧ inR y28 ∧ RM I29 A30 ∧ ((0 ≤ A 91 66 + 1 - 1 ∧ A 91 66 + 1 - 1 < 7200) ∧ (((y28 = (-1)) → K (oI (-1)) (bd L (u2 (u2 I29 145 (A 91 66 + 1 - 1).toNat (oI y28)) 91 70 (oI (ld I29 91 70 - 1))) R S)) ∧ (¬ (y28 = (-1)) → K (oI (A 91 66 + 1 - 1)) (bd L (u2 (u2 I29 145 (A 91 66 + 1 - 1).toNat (oI y28)) 91 70 (oI (ld I29 91 70 - 1))) R S))))))))) ∧ (¬ (tkOk T9 N10 (bl T9 N10 p11) (Int64.ofInt 7237492)) → ∀ (I14 : mI), (Fr [] [(91, 69)] I5 I14) → (RM I14 A) → (Tx I14 T9 N10 (bl T9 N10 p11)) → ∃ (T35 : Nat → Int) (N36 p37 : Nat), Tx I14 T35 N36 p37 ∧ ((((bl T35 N36 p37) < N36 ∧ T35 (bl T35 N36 p37) = 40) → ∀ (I40 : mI), (Fr [] [(91, 69)] I14 I40) → (RM I40 A) → (Tx I40 T35 N36 ((bl T35 N36 p37) + 1)) → ((ld I40 91 70 = 10) → K (oI (-1)) (bd L (u2 I40 91 69 (oI (ld I5 91 69))) R S)) ∧ (¬ (ld I40 91 70 = 10) → CallI (d + 2) 314 [.ref 91] (bd L (u2 I40 91 70 (oI (ld I40 91 70 + 1))) R S) (fun y s => ∃ (y47 : Int) (I48 : mI) (A49 : aS), y = oI y47 ∧ s = bd L I48 R S ∧ inR y47 ∧ RM I48 A49 ∧ (((y47 = (-1)) → K (oI (-1)) (bd L (u2 I48 91 70 (oI (ld I48 91 70 - 1))) R S)) ∧ (¬ (y47 = (-1)) → ∃ (T52 : Nat → Int) (N53 p54 : Nat), Tx (u2 I48 91 70 (oI (ld I48 91 70 - 1))) T52 N53 p54 ∧ ((((bl T52 N53 p54) < N53 ∧ T52 (bl T52 N53 p54) = 41) → ∀ (I57 : mI), (Fr [] [(91, 69)] (u2 I48 91 70 (oI (ld I48 91 70 - 1))) I57) → (RM I57 A49) → (Tx I57 T52 N53 ((bl T52 N53 p54) + 1)) → K (oI y47) (bd L I57 R S)) ∧ (¬ ((bl T52 N53 p54) < N53 ∧ T52 (bl T52 N53 p54) = 41) → ∀ (I57 : mI), (Fr [] [(91, 69)] (u2 I48 91 70 (oI (ld I48 91 70 - 1))) I57) → (RM I57 A49) → (Tx I57 T52 N53 (bl T52 N53 p54)) → K (oI (-1)) (bd L I57 R S)))))))) ∧ (¬ ((bl T35 N36 p37) < N36 ∧ T35 (bl T35 N36 p37) = 40) → ∀ (I40 : mI), (Fr [] [(91, 69)] I14 I40) → (RM I40 A) → (Tx I40 T35 N36 (bl T35 N36 p37)) → (0 ≤ A 91 66 ∧ A 91 66 < 7200) ∧ (inR (A 91 66 + 1) ∧ (∀ (I67 : mI) (A68 : aS), (I67 = (u2 (u2 (u2 (u2 I40 144 (A 91 66).toNat (oI 3)) 145 (A 91 66).toNat (oI (-1))) 146 (A 91 66).toNat (oI (-1))) 91 66 (oI (A 91 66 + 1)))) → (A68 = (u2 (u2 (u2 (u2 A 144 (A 91 66).toNat 3) 145 (A 91 66).toNat (-1)) 146 (A 91 66).toNat (-1)) 91 66 (A 91 66 + 1))) → (RM I67 A68) → ∃ (T72 : Nat → Int) (N73 p74 : Nat), Tx I67 T72 N73 p74 ∧ (∀ (I76 : mI), (Fr [] [(91, 69)] I67 I76) → (RM I76 A68) → (Tx I76 T72 N73 (if nmS T72 N73 (bl T72 N73 p74) = -1 then bl T72 N73 p74 else lt T72 N73 (bl T72 N73 p74))) → (0 ≤ A 91 66 + 1 - 1 ∧ A 91 66 + 1 - 1 < 7200) ∧ (((nmS T72 N73 (bl T72 N73 p74) = (-1)) → K (oI (-1)) (bd L (u2 I76 147 (A 91 66 + 1 - 1).toNat (oI (nmS T72 N73 (bl T72 N73 p74)))) R S)) ∧ (¬ (nmS T72 N73 (bl T72 N73 p74) = (-1)) → ∀ (I82 : mI) (A83 : aS), (I82 = (u2 I76 147 (A 91 66 + 1 - 1).toNat (oI (nmS T72 N73 (bl T72 N73 p74))))) → (A83 = (u2 A68 147 (A 91 66 + 1 - 1).toNat (nmS T72 N73 (bl T72 N73 p74)))) → (RM I82 A83) → ∃ (T87 : Nat → Int) (N88 p89 : Nat), Tx I82 T87 N88 p89 ∧ ((((bl T87 N88 p89) < N88 ∧ T87 (bl T87 N88 p89) = 60) → ∀ (I92 : mI), (Fr [] [(91, 69)] I82 I92) → (RM I92 A83) → (Tx I92 T87 N88 ((bl T87 N88 p89) + 1)) → ∀ (I99 : mI) (A100 : aS), (I99 = (u2 I92 148 (A 91 66 + 1 - 1).toNat (oI 60))) → (A100 = (u2 A83 148 (A 91 66 + 1 - 1).toNat 60)) → (RM I99 A100) → ∃ (T104 : Nat → Int) (N105 p106 : Nat), Tx I99 T104 N105 p106 ∧ (((nmOk T104 N105 (bl T104 N105 p106) 0 9999) → ∀ (I109 : mI), (Fr [] [(91, 69), (91, 90)] I99 I109) → (RM I109 A100) → (Tx I109 T104 N105 (dg T104 N105 (bl T104 N105 p106))) → (ld I109 91 90 = nv T104 N105 (bl T104 N105 p106)) → K (oI (A 91 66 + 1 - 1)) (bd L (u2 I109 149 (A 91 66 + 1 - 1).toNat (oI (ld I109 91 90))) R S)) ∧ (¬ (nmOk T104 N105 (bl T104 N105 p106) 0 9999) → ∀ (I109 : mI), (Fr [] [(91, 69), (91, 90)] I99 I109) → (RM I109 A100) → (Tx I109 T104 N105 (bl T104 N105 p106)) → K (oI (-1)) (bd L I109 R S)))) ∧ (¬ ((bl T87 N88 p89) < N88 ∧ T87 (bl T87 N88 p89) = 60) → ∀ (I92 : mI), (Fr [] [(91, 69)] I82 I92) → (RM I92 A83) → (Tx I92 T87 N88 (bl T87 N88 p89)) → ∃ (T117 : Nat → Int) (N118 p119 : Nat), Tx I92 T117 N118 p119 ∧ ((((bl T117 N118 p119) < N118 ∧ T117 (bl T117 N118 p119) = 62) → ∀ (I122 : mI), (Fr [] [(91, 69)] I92 I122) → (RM I122 A83) → (Tx I122 T117 N118 ((bl T117 N118 p119) + 1)) → ∀ (I129 : mI) (A130 : aS), (I129 = (u2 I122 148 (A 91 66 + 1 - 1).toNat (oI 62))) → (A130 = (u2 A83 148 (A 91 66 + 1 - 1).toNat 62)) → (RM I129 A130) → ∃ (T134 : Nat → Int) (N135 p136 : Nat), Tx I129 T134 N135 p136 ∧ (((nmOk T134 N135 (bl T134 N135 p136) 0 9999) → ∀ (I139 : mI), (Fr [] [(91, 69), (91, 90)] I129 I139) → (RM I139 A130) → (Tx I139 T134 N135 (dg T134 N135 (bl T134 N135 p136))) → (ld I139 91 90 = nv T134 N135 (bl T134 N135 p136)) → K (oI (A 91 66 + 1 - 1)) (bd L (u2 I139 149 (A 91 66 + 1 - 1).toNat (oI (ld I139 91 90))) R S)) ∧ (¬ (nmOk T134 N135 (bl T134 N135 p136) 0 9999) → ∀ (I139 : mI), (Fr [] [(91, 69), (91, 90)] I129 I139) → (RM I139 A130) → (Tx I139 T134 N135 (bl T134 N135 p136)) → K (oI (-1)) (bd L I139 R S)))) ∧ (¬ ((bl T117 N118 p119) < N118 ∧ T117 (bl T117 N118 p119) = 62) → ∀ (I122 : mI), (Fr [] [(91, 69)] I92 I122) → (RM I122 A83) → (Tx I122 T117 N118 (bl T117 N118 p119)) → ∃ (T147 : Nat → Int) (N148 p149 : Nat), Tx I122 T147 N148 p149 ∧ ((((bl T147 N148 p149) < N148 ∧ T147 (bl T147 N148 p149) = 61) → ∀ (I152 : mI), (Fr [] [(91, 69)] I122 I152) → (RM I152 A83) → (Tx I152 T147 N148 ((bl T147 N148 p149) + 1)) → ∀ (I159 : mI) (A160 : aS), (I159 = (u2 I152 148 (A 91 66 + 1 - 1).toNat (oI 61))) → (A160 = (u2 A83 148 (A 91 66 + 1 - 1).toNat 61)) → (RM I159 A160) → ∃ (T164 : Nat → Int) (N165 p166 : Nat), Tx I159 T164 N165 p166 ∧ (((nmOk T164 N165 (bl T164 N165 p166) 0 9999) → ∀ (I169 : mI), (Fr [] [(91, 69), (91, 90)] I159 I169) → (RM I169 A160) → (Tx I169 T164 N165 (dg T164 N165 (bl T164 N165 p166))) → (ld I169 91 90 = nv T164 N165 (bl T164 N165 p166)) → K (oI (A 91 66 + 1 - 1)) (bd L (u2 I169 149 (A 91 66 + 1 - 1).toNat (oI (ld I169 91 90))) R S)) ∧ (¬ (nmOk T164 N165 (bl T164 N165 p166) 0 9999) → ∀ (I169 : mI), (Fr [] [(91, 69), (91, 90)] I159 I169) → (RM I169 A160) → (Tx I169 T164 N165 (bl T164 N165 p166)) → K (oI (-1)) (bd L I169 R S)))) ∧ (¬ ((bl T147 N148 p149) < N148 ∧ T147 (bl T147 N148 p149) = 61) → ∀ (I152 : mI), (Fr [] [(91, 69)] I122 I152) → (RM I152 A83) → (Tx I152 T147 N148 (bl T147 N148 p149)) → K (oI (-1)) (bd L (u2 I152 148 (A 91 66 + 1 - 1).toNat (oI (-1))) R S)))))))))))))))))) : CallI (d + 3) 317 [.ref 91] (bd L I R S) K := by
  refine cI_of (ls := [.ref 91, mUn, mUn, mUn]) rfl ?_
  refine xG gb317.1 ?_
  refine s6 (p := 91) rfl ?_
  obtain ⟨T1, N2, p3, k4, hE⟩ := hE
  refine sV rc302 rfl (Nat.le_of_ble_eq_true rfl) ?_
  refine k302 hR k4 (fun I5 q6 q7 q8 => ?_)
  replace hE := hE I5 q6 q7 q8
  refine s6 (p := 91) rfl ?_
  refine s50 (v := ld I5 91 69) sh91 (by decide) (by decide) (oI_ld _ _ _) ?_
  refine s7 (ls' := [.ref 91, .int (oI (ld I5 91 69)), mUn, mUn]) (Nat.le_of_ble_eq_true rfl) rfl ?_
  refine s6 (p := 91) rfl ?_
  refine s2 ?_
  obtain ⟨T9, N10, p11, k12, hE⟩ := hE
  refine sI rc304 rfl (Nat.le_of_ble_eq_true rfl) ?_
  refine k304 q7 k12 (fun c13 I14 q15 q16 q17 => ?_) (fun c13 I14 q15 q16 q17 => ?_)
  · replace hE := hE.1 c13 I14 q15 q16 q17
    refine s67 (inRd rfl) (fun c19 => absurd c19 (by decide)) (fun _ => ?_)
    refine s6 (p := 91) rfl ?_
    refine s50 (v := ld I14 91 70) sh91 (by decide) (by decide) (oI_ld _ _ _) ?_
    refine s0 ?_
    refine s62 (ld_inR _ _ _) (inRd rfl) (fun c20 => ?_) (fun c20 => ?_)
    · replace hE := hE.1 c20
      refine s6 (p := 91) rfl ?_
      refine s4 (x := ld I5 91 69) rfl ?_
      refine s52 sh91 (by decide) (by decide) ?_
      refine s0 ?_
      refine s80 ?_
      exact rqI_of hE
    · replace hE := hE.2 c20
      refine xG gb317.2.1 ?_
      refine s6 (p := 91) rfl ?_
      refine s13r ?_
      refine s50 (v := ld I14 91 70) sh91 (by decide) (by decide) (oI_ld _ _ _) ?_
      refine s0 ?_
      refine s16 ?_
      refine s52 sh91 (by decide) (by decide) ?_
      refine s6 (p := 91) rfl ?_
      refine s0 ?_
      refine sI rc315 rfl (Nat.le_of_ble_eq_true rfl) ?_
      refine cI_of (ls := [.ref 91, .int (oI 2)]) rfl ?_
      refine xG gb315 ?_
      refine s6 (p := 91) rfl ?_
      refine s51 sh91 (by decide) (by decide) rf91_79 ?_
      refine s6 (p := 91) rfl ?_
      refine s50 (v := A 91 66) sh91 (by decide) (by decide) ((v2_nk (by decide)).trans (rdM q16.1 rfl)) ?_
      refine s4 (x := 2) rfl ?_
      obtain ⟨g21, hE⟩ := hE
      refine s44 sh144 (by decide) g21 rfl ?_
      refine s6 (p := 91) rfl ?_
      refine s51 sh91 (by decide) (by decide) rf91_80 ?_
      refine s6 (p := 91) rfl ?_
      refine s50 (v := A 91 66) sh91 (by decide) (by decide) ((v2_ne (by decide)).trans ((v2_nk (by decide)).trans (rdM q16.1 rfl))) ?_
      refine s0 ?_
      refine s44 sh145 (by decide) g21 rfl ?_
      refine s6 (p := 91) rfl ?_
      refine s51 sh91 (by decide) (by decide) rf91_81 ?_
      refine s6 (p := 91) rfl ?_
      refine s50 (v := A 91 66) sh91 (by decide) (by decide) ((v2_ne (by decide)).trans ((v2_ne (by decide)).trans ((v2_nk (by decide)).trans (rdM q16.1 rfl)))) ?_
      refine s0 ?_
      refine s44 sh146 (by decide) g21 rfl ?_
      refine s6 (p := 91) rfl ?_
      refine s13r ?_
      refine s50 (v := A 91 66) sh91 (by decide) (by decide) ((v2_ne (by decide)).trans ((v2_ne (by decide)).trans ((v2_ne (by decide)).trans ((v2_nk (by decide)).trans (rdM q16.1 rfl))))) ?_
      refine s0 ?_
      refine s16 ?_
      refine s52 sh91 (by decide) (by decide) ?_
      refine s6 (p := 91) rfl ?_
      refine s50 (v := A 91 66 + 1) sh91 (by decide) (by decide) (v2_eq) ?_
      refine s0 ?_
      refine s17 ?_
      refine s80 ?_
      refine rqI_of ?_
      refine s7 (ls' := [.ref 91, .int (oI (ld I5 91 69)), .int (oI (A 91 66 + 1 - 1)), mUn]) (Nat.le_of_ble_eq_true rfl) rfl ?_
      refine s6 (p := 91) rfl ?_
      obtain ⟨g22, hE⟩ := hE
      obtain ⟨I23, q25⟩ : ∃ i : mI, i = (u2 (u2 (u2 (u2 (u2 I14 91 70 (oI (ld I14 91 70 + 1))) 144 (A 91 66).toNat (oI 2)) 145 (A 91 66).toNat (oI (-1))) 146 (A 91 66).toNat (oI (-1))) 91 66 (oI (A 91 66 + 1))) := ⟨_, rfl⟩
      obtain ⟨A24, q26⟩ : ∃ i : aS, i = (u2 (u2 (u2 (u2 A 144 (A 91 66).toNat 2) 145 (A 91 66).toNat (-1)) 146 (A 91 66).toNat (-1)) 91 66 (A 91 66 + 1)) := ⟨_, rfl⟩
      have q27 : RM I23 A24 := by rw [q25, q26]; exact (RM.set (RM.set (RM.set (RM.set (RM.scr q16 rfl) 144 (A 91 66).toNat (inRd rfl) rfl) 145 (A 91 66).toNat (inRd rfl) rfl) 146 (A 91 66).toNat (inRd rfl) rfl) 91 66 g22 rfl)
      replace hE := hE I23 A24 q25 q26 q27
      refine sI rc317 rfl (Nat.le_of_ble_eq_true rfl) ?_
      rw [← q25]
      refine CallI.mono hE ?_
      rintro _ _ ⟨y28, I29, A30, rfl, rfl, gy28, q31, hE⟩
      refine s7 (ls' := [.ref 91, .int (oI (ld I5 91 69)), .int (oI (A 91 66 + 1 - 1)), .int (oI y28)]) (Nat.le_of_ble_eq_true rfl) rfl ?_
      refine s6 (p := 91) rfl ?_
      refine s51 sh91 (by decide) (by decide) rf91_80 ?_
      refine s4 (x := A 91 66 + 1 - 1) rfl ?_
      refine s4 (x := y28) rfl ?_
      obtain ⟨g32, hE⟩ := hE
      refine s44 sh145 (by decide) g32 rfl ?_
      refine s6 (p := 91) rfl ?_
      refine s13r ?_
      refine s50 (v := ld I29 91 70) sh91 (by decide) (by decide) ((v2_ne (by decide)).trans (oI_ld _ _ _)) ?_
      refine s0 ?_
      refine s17 ?_
      refine s52 sh91 (by decide) (by decide) ?_
      refine s4 (x := y28) rfl ?_
      refine s0 ?_
      refine s62 gy28 (inRd rfl) (fun c33 => ?_) (fun c33 => ?_)
      · replace hE := hE.1 c33
        refine s0 ?_
        refine s60 ?_
        refine xG gb317.2.2.2.1 ?_
        refine s80 ?_
        exact rqI_of hE
      · replace hE := hE.2 c33
        refine xG gb317.2.2.1 ?_
        refine s4 (x := A 91 66 + 1 - 1) rfl ?_
        refine s79 ?_
        refine xG gb317.2.2.2.1 ?_
        refine s80 ?_
        exact rqI_of hE
  · replace hE := hE.2 c13 I14 q15 q16 q17
    refine s67 (inRd rfl) (fun _ => ?_) (fun c34 => absurd (by decide) c34)
    refine xG gb317.2.2.2.2.1 ?_
    refine s6 (p := 91) rfl ?_
    refine s0 ?_
    obtain ⟨T35, N36, p37, k38, hE⟩ := hE
    refine sI rc306 rfl (Nat.le_of_ble_eq_true rfl) ?_
    refine k306 q16 k38 (inRd rfl) (fun c39 I40 q41 q42 q43 => ?_) (fun c39 I40 q41 q42 q43 => ?_)
    · replace hE := hE.1 c39 I40 q41 q42 q43
      refine s67 (inRd rfl) (fun c45 => absurd c45 (by decide)) (fun _ => ?_)
      refine s6 (p := 91) rfl ?_
      refine s50 (v := ld I40 91 70) sh91 (by decide) (by decide) (oI_ld _ _ _) ?_
      refine s0 ?_
      refine s62 (ld_inR _ _ _) (inRd rfl) (fun c46 => ?_) (fun c46 => ?_)
      · replace hE := hE.1 c46
        refine s6 (p := 91) rfl ?_
        refine s4 (x := ld I5 91 69) rfl ?_
        refine s52 sh91 (by decide) (by decide) ?_
        refine s0 ?_
        refine s80 ?_
        exact rqI_of hE
      · replace hE := hE.2 c46
        refine xG gb317.2.2.2.2.2.1 ?_
        refine s6 (p := 91) rfl ?_
        refine s13r ?_
        refine s50 (v := ld I40 91 70) sh91 (by decide) (by decide) (oI_ld _ _ _) ?_
        refine s0 ?_
        refine s16 ?_
        refine s52 sh91 (by decide) (by decide) ?_
        refine s6 (p := 91) rfl ?_
        refine sI rc314 rfl (Nat.le_of_ble_eq_true rfl) ?_
        refine CallI.mono hE ?_
        rintro _ _ ⟨y47, I48, A49, rfl, rfl, gy47, q50, hE⟩
        refine s7 (ls' := [.ref 91, .int (oI (ld I5 91 69)), .int (oI y47), mUn]) (Nat.le_of_ble_eq_true rfl) rfl ?_
        refine s6 (p := 91) rfl ?_
        refine s13r ?_
        refine s50 (v := ld I48 91 70) sh91 (by decide) (by decide) (oI_ld _ _ _) ?_
        refine s0 ?_
        refine s17 ?_
        refine s52 sh91 (by decide) (by decide) ?_
        refine s4 (x := y47) rfl ?_
        refine s0 ?_
        refine s61 gy47 (inRd rfl) (fun c51 => ?_) (fun c51 => ?_)
        · replace hE := hE.1 c51
          refine xG gb317.2.2.2.2.2.2.1 ?_
          refine s0 ?_
          refine s60 ?_
          refine xG gb317.2.2.2.2.2.2.2.2.1 ?_
          refine s80 ?_
          exact rqI_of hE
        · replace hE := hE.2 c51
          refine s6 (p := 91) rfl ?_
          refine s0 ?_
          obtain ⟨T52, N53, p54, k55, hE⟩ := hE
          refine sI rc306 rfl (Nat.le_of_ble_eq_true rfl) ?_
          refine k306 (RM.scr q50 rfl) k55 (inRd rfl) (fun c56 I57 q58 q59 q60 => ?_) (fun c56 I57 q58 q59 q60 => ?_)
          · replace hE := hE.1 c56 I57 q58 q59 q60
            refine s68 (inRd rfl) (fun c62 => absurd c62 (by decide)) (fun _ => ?_)
            refine xG gb317.2.2.2.2.2.2.2.1 ?_
            refine s4 (x := y47) rfl ?_
            refine s79 ?_
            refine xG gb317.2.2.2.2.2.2.2.2.1 ?_
            refine s80 ?_
            exact rqI_of hE
          · replace hE := hE.2 c56 I57 q58 q59 q60
            refine s68 (inRd rfl) (fun _ => ?_) (fun c63 => absurd (by decide) c63)
            refine s79 ?_
            refine xG gb317.2.2.2.2.2.2.1 ?_
            refine s0 ?_
            refine s60 ?_
            refine xG gb317.2.2.2.2.2.2.2.2.1 ?_
            refine s80 ?_
            exact rqI_of hE
    · replace hE := hE.2 c39 I40 q41 q42 q43
      refine s67 (inRd rfl) (fun _ => ?_) (fun c64 => absurd (by decide) c64)
      refine xG gb317.2.2.2.2.2.2.2.2.2.1 ?_
      refine s6 (p := 91) rfl ?_
      refine s0 ?_
      refine sI rc315 rfl (Nat.le_of_ble_eq_true rfl) ?_
      refine cI_of (ls := [.ref 91, .int (oI 3)]) rfl ?_
      refine xG gb315 ?_
      refine s6 (p := 91) rfl ?_
      refine s51 sh91 (by decide) (by decide) rf91_79 ?_
      refine s6 (p := 91) rfl ?_
      refine s50 (v := A 91 66) sh91 (by decide) (by decide) (rdM q42.1 rfl) ?_
      refine s4 (x := 3) rfl ?_
      obtain ⟨g65, hE⟩ := hE
      refine s44 sh144 (by decide) g65 rfl ?_
      refine s6 (p := 91) rfl ?_
      refine s51 sh91 (by decide) (by decide) rf91_80 ?_
      refine s6 (p := 91) rfl ?_
      refine s50 (v := A 91 66) sh91 (by decide) (by decide) ((v2_ne (by decide)).trans (rdM q42.1 rfl)) ?_
      refine s0 ?_
      refine s44 sh145 (by decide) g65 rfl ?_
      refine s6 (p := 91) rfl ?_
      refine s51 sh91 (by decide) (by decide) rf91_81 ?_
      refine s6 (p := 91) rfl ?_
      refine s50 (v := A 91 66) sh91 (by decide) (by decide) ((v2_ne (by decide)).trans ((v2_ne (by decide)).trans (rdM q42.1 rfl))) ?_
      refine s0 ?_
      refine s44 sh146 (by decide) g65 rfl ?_
      refine s6 (p := 91) rfl ?_
      refine s13r ?_
      refine s50 (v := A 91 66) sh91 (by decide) (by decide) ((v2_ne (by decide)).trans ((v2_ne (by decide)).trans ((v2_ne (by decide)).trans (rdM q42.1 rfl)))) ?_
      refine s0 ?_
      refine s16 ?_
      refine s52 sh91 (by decide) (by decide) ?_
      refine s6 (p := 91) rfl ?_
      refine s50 (v := A 91 66 + 1) sh91 (by decide) (by decide) (v2_eq) ?_
      refine s0 ?_
      refine s17 ?_
      refine s80 ?_
      refine rqI_of ?_
      refine s7 (ls' := [.ref 91, .int (oI (ld I5 91 69)), .int (oI (A 91 66 + 1 - 1)), mUn]) (Nat.le_of_ble_eq_true rfl) rfl ?_
      refine s6 (p := 91) rfl ?_
      refine s51 sh91 (by decide) (by decide) rf91_82 ?_
      refine s4 (x := A 91 66 + 1 - 1) rfl ?_
      refine s6 (p := 91) rfl ?_
      obtain ⟨g66, hE⟩ := hE
      obtain ⟨I67, q69⟩ : ∃ i : mI, i = (u2 (u2 (u2 (u2 I40 144 (A 91 66).toNat (oI 3)) 145 (A 91 66).toNat (oI (-1))) 146 (A 91 66).toNat (oI (-1))) 91 66 (oI (A 91 66 + 1))) := ⟨_, rfl⟩
      obtain ⟨A68, q70⟩ : ∃ i : aS, i = (u2 (u2 (u2 (u2 A 144 (A 91 66).toNat 3) 145 (A 91 66).toNat (-1)) 146 (A 91 66).toNat (-1)) 91 66 (A 91 66 + 1)) := ⟨_, rfl⟩
      have q71 : RM I67 A68 := by rw [q69, q70]; exact (RM.set (RM.set (RM.set (RM.set q42 144 (A 91 66).toNat (inRd rfl) rfl) 145 (A 91 66).toNat (inRd rfl) rfl) 146 (A 91 66).toNat (inRd rfl) rfl) 91 66 g66 rfl)
      replace hE := hE I67 A68 q69 q70 q71
      obtain ⟨T72, N73, p74, k75, hE⟩ := hE
      refine sI rc318 rfl (Nat.le_of_ble_eq_true rfl) ?_
      rw [← q69]
      refine k318 (I0 := I) (Q := fun _ _ => True) q71 k75 (fun I76 q77 q78 q79 => ?_)
      replace hE := hE I76 q77 q78 q79
      obtain ⟨g80, hE⟩ := hE
      refine s44 sh147 (by decide) g80 rfl ?_
      refine s6 (p := 91) rfl ?_
      refine s51 sh91 (by decide) (by decide) rf91_82 ?_
      refine s4 (x := A 91 66 + 1 - 1) rfl ?_
      refine s40 (v := nmS T72 N73 (bl T72 N73 p74)) sh147 g80 rfl (v2_eq) ?_
      refine s0 ?_
      refine s62 (nmS_inR) (inRd rfl) (fun c81 => ?_) (fun c81 => ?_)
      · replace hE := hE.1 c81
        refine s0 ?_
        refine s80 ?_
        exact rqI_of hE
      · replace hE := hE.2 c81
        refine xG gb317.2.2.2.2.2.2.2.2.2.2.1 ?_
        refine s6 (p := 91) rfl ?_
        refine s51 sh91 (by decide) (by decide) rf91_83 ?_
        refine s4 (x := A 91 66 + 1 - 1) rfl ?_
        refine s6 (p := 91) rfl ?_
        refine s0 ?_
        obtain ⟨I82, q84⟩ : ∃ i : mI, i = (u2 I76 147 (A 91 66 + 1 - 1).toNat (oI (nmS T72 N73 (bl T72 N73 p74)))) := ⟨_, rfl⟩
        obtain ⟨A83, q85⟩ : ∃ i : aS, i = (u2 A68 147 (A 91 66 + 1 - 1).toNat (nmS T72 N73 (bl T72 N73 p74))) := ⟨_, rfl⟩
        have q86 : RM I82 A83 := by rw [q84, q85]; exact (RM.set q78 147 (A 91 66 + 1 - 1).toNat (nmS_inR) rfl)
        replace hE := hE I82 A83 q84 q85 q86
        obtain ⟨T87, N88, p89, k90, hE⟩ := hE
        refine sI rc306 rfl (Nat.le_of_ble_eq_true rfl) ?_
        rw [← q84]
        refine k306 q86 k90 (inRd rfl) (fun c91 I92 q93 q94 q95 => ?_) (fun c91 I92 q93 q94 q95 => ?_)
        · replace hE := hE.1 c91 I92 q93 q94 q95
          refine s67 (inRd rfl) (fun c97 => absurd c97 (by decide)) (fun _ => ?_)
          refine s0 ?_
          refine s60 ?_
          refine xG gb317.2.2.2.2.2.2.2.2.2.2.2.2.2.2.1 ?_
          refine s44 sh148 (by decide) g80 rfl ?_
          refine s6 (p := 91) rfl ?_
          refine s51 sh91 (by decide) (by decide) rf91_83 ?_
          refine s4 (x := A 91 66 + 1 - 1) rfl ?_
          refine s40 (v := 60) sh148 g80 rfl (v2_eq) ?_
          refine s0 ?_
          refine s61 (inRd rfl) (inRd rfl) (fun c98 => absurd c98 (by decide)) (fun _ => ?_)
          refine s6 (p := 91) rfl ?_
          refine sI rc309 rfl (Nat.le_of_ble_eq_true rfl) ?_
          refine cI_of (ls := [.ref 91]) rfl ?_
          refine xG gb309 ?_
          refine s6 (p := 91) rfl ?_
          refine s0 ?_
          refine s0 ?_
          obtain ⟨I99, q101⟩ : ∃ i : mI, i = (u2 I92 148 (A 91 66 + 1 - 1).toNat (oI 60)) := ⟨_, rfl⟩
          obtain ⟨A100, q102⟩ : ∃ i : aS, i = (u2 A83 148 (A 91 66 + 1 - 1).toNat 60) := ⟨_, rfl⟩
          have q103 : RM I99 A100 := by rw [q101, q102]; exact (RM.set q94 148 (A 91 66 + 1 - 1).toNat (inRd rfl) rfl)
          replace hE := hE I99 A100 q101 q102 q103
          obtain ⟨T104, N105, p106, k107, hE⟩ := hE
          refine sI rc305 rfl (Nat.le_of_ble_eq_true rfl) ?_
          rw [← q101]
          refine k305 q103 k107 (inRd rfl) (inRd rfl) (fun c108 I109 q110 q111 q112 q113 => ?_) (fun c108 I109 q110 q111 q112 => ?_)
          · replace hE := hE.1 c108 I109 q110 q111 q112 q113
            refine s84 (by decide) ?_
            refine rqI_of ?_
            refine s68 (inRd rfl) (fun c114 => absurd c114 (by decide)) (fun _ => ?_)
            refine xG gb317.2.2.2.2.2.2.2.2.2.2.2.2.2.2.2.2 ?_
            refine s6 (p := 91) rfl ?_
            refine s51 sh91 (by decide) (by decide) rf91_84 ?_
            refine s4 (x := A 91 66 + 1 - 1) rfl ?_
            refine s6 (p := 91) rfl ?_
            refine s50 (v := ld I109 91 90) sh91 (by decide) (by decide) (oI_ld _ _ _) ?_
            refine s44 sh149 (by decide) g80 rfl ?_
            refine s4 (x := A 91 66 + 1 - 1) rfl ?_
            refine s80 ?_
            exact rqI_of hE
          · replace hE := hE.2 c108 I109 q110 q111 q112
            refine s84 (by decide) ?_
            refine rqI_of ?_
            refine s68 (inRd rfl) (fun _ => ?_) (fun c115 => absurd (by decide) c115)
            refine s79 ?_
            refine xG gb317.2.2.2.2.2.2.2.2.2.2.2.2.2.2.2.1 ?_
            refine s0 ?_
            refine s80 ?_
            exact rqI_of hE
        · replace hE := hE.2 c91 I92 q93 q94 q95
          refine s67 (inRd rfl) (fun _ => ?_) (fun c116 => absurd (by decide) c116)
          refine xG gb317.2.2.2.2.2.2.2.2.2.2.2.1 ?_
          refine s6 (p := 91) rfl ?_
          refine s0 ?_
          obtain ⟨T117, N118, p119, k120, hE⟩ := hE
          refine sI rc306 rfl (Nat.le_of_ble_eq_true rfl) ?_
          refine k306 q94 k120 (inRd rfl) (fun c121 I122 q123 q124 q125 => ?_) (fun c121 I122 q123 q124 q125 => ?_)
          · replace hE := hE.1 c121 I122 q123 q124 q125
            refine s67 (inRd rfl) (fun c127 => absurd c127 (by decide)) (fun _ => ?_)
            refine s0 ?_
            refine s60 ?_
            refine xG gb317.2.2.2.2.2.2.2.2.2.2.2.2.2.2.1 ?_
            refine s44 sh148 (by decide) g80 rfl ?_
            refine s6 (p := 91) rfl ?_
            refine s51 sh91 (by decide) (by decide) rf91_83 ?_
            refine s4 (x := A 91 66 + 1 - 1) rfl ?_
            refine s40 (v := 62) sh148 g80 rfl (v2_eq) ?_
            refine s0 ?_
            refine s61 (inRd rfl) (inRd rfl) (fun c128 => absurd c128 (by decide)) (fun _ => ?_)
            refine s6 (p := 91) rfl ?_
            refine sI rc309 rfl (Nat.le_of_ble_eq_true rfl) ?_
            refine cI_of (ls := [.ref 91]) rfl ?_
            refine xG gb309 ?_
            refine s6 (p := 91) rfl ?_
            refine s0 ?_
            refine s0 ?_
            obtain ⟨I129, q131⟩ : ∃ i : mI, i = (u2 I122 148 (A 91 66 + 1 - 1).toNat (oI 62)) := ⟨_, rfl⟩
            obtain ⟨A130, q132⟩ : ∃ i : aS, i = (u2 A83 148 (A 91 66 + 1 - 1).toNat 62) := ⟨_, rfl⟩
            have q133 : RM I129 A130 := by rw [q131, q132]; exact (RM.set q124 148 (A 91 66 + 1 - 1).toNat (inRd rfl) rfl)
            replace hE := hE I129 A130 q131 q132 q133
            obtain ⟨T134, N135, p136, k137, hE⟩ := hE
            refine sI rc305 rfl (Nat.le_of_ble_eq_true rfl) ?_
            rw [← q131]
            refine k305 q133 k137 (inRd rfl) (inRd rfl) (fun c138 I139 q140 q141 q142 q143 => ?_) (fun c138 I139 q140 q141 q142 => ?_)
            · replace hE := hE.1 c138 I139 q140 q141 q142 q143
              refine s84 (by decide) ?_
              refine rqI_of ?_
              refine s68 (inRd rfl) (fun c144 => absurd c144 (by decide)) (fun _ => ?_)
              refine xG gb317.2.2.2.2.2.2.2.2.2.2.2.2.2.2.2.2 ?_
              refine s6 (p := 91) rfl ?_
              refine s51 sh91 (by decide) (by decide) rf91_84 ?_
              refine s4 (x := A 91 66 + 1 - 1) rfl ?_
              refine s6 (p := 91) rfl ?_
              refine s50 (v := ld I139 91 90) sh91 (by decide) (by decide) (oI_ld _ _ _) ?_
              refine s44 sh149 (by decide) g80 rfl ?_
              refine s4 (x := A 91 66 + 1 - 1) rfl ?_
              refine s80 ?_
              exact rqI_of hE
            · replace hE := hE.2 c138 I139 q140 q141 q142
              refine s84 (by decide) ?_
              refine rqI_of ?_
              refine s68 (inRd rfl) (fun _ => ?_) (fun c145 => absurd (by decide) c145)
              refine s79 ?_
              refine xG gb317.2.2.2.2.2.2.2.2.2.2.2.2.2.2.2.1 ?_
              refine s0 ?_
              refine s80 ?_
              exact rqI_of hE
          · replace hE := hE.2 c121 I122 q123 q124 q125
            refine s67 (inRd rfl) (fun _ => ?_) (fun c146 => absurd (by decide) c146)
            refine xG gb317.2.2.2.2.2.2.2.2.2.2.2.2.1 ?_
            refine s6 (p := 91) rfl ?_
            refine s0 ?_
            obtain ⟨T147, N148, p149, k150, hE⟩ := hE
            refine sI rc306 rfl (Nat.le_of_ble_eq_true rfl) ?_
            refine k306 q124 k150 (inRd rfl) (fun c151 I152 q153 q154 q155 => ?_) (fun c151 I152 q153 q154 q155 => ?_)
            · replace hE := hE.1 c151 I152 q153 q154 q155
              refine s67 (inRd rfl) (fun c157 => absurd c157 (by decide)) (fun _ => ?_)
              refine s0 ?_
              refine s60 ?_
              refine xG gb317.2.2.2.2.2.2.2.2.2.2.2.2.2.2.1 ?_
              refine s44 sh148 (by decide) g80 rfl ?_
              refine s6 (p := 91) rfl ?_
              refine s51 sh91 (by decide) (by decide) rf91_83 ?_
              refine s4 (x := A 91 66 + 1 - 1) rfl ?_
              refine s40 (v := 61) sh148 g80 rfl (v2_eq) ?_
              refine s0 ?_
              refine s61 (inRd rfl) (inRd rfl) (fun c158 => absurd c158 (by decide)) (fun _ => ?_)
              refine s6 (p := 91) rfl ?_
              refine sI rc309 rfl (Nat.le_of_ble_eq_true rfl) ?_
              refine cI_of (ls := [.ref 91]) rfl ?_
              refine xG gb309 ?_
              refine s6 (p := 91) rfl ?_
              refine s0 ?_
              refine s0 ?_
              obtain ⟨I159, q161⟩ : ∃ i : mI, i = (u2 I152 148 (A 91 66 + 1 - 1).toNat (oI 61)) := ⟨_, rfl⟩
              obtain ⟨A160, q162⟩ : ∃ i : aS, i = (u2 A83 148 (A 91 66 + 1 - 1).toNat 61) := ⟨_, rfl⟩
              have q163 : RM I159 A160 := by rw [q161, q162]; exact (RM.set q154 148 (A 91 66 + 1 - 1).toNat (inRd rfl) rfl)
              replace hE := hE I159 A160 q161 q162 q163
              obtain ⟨T164, N165, p166, k167, hE⟩ := hE
              refine sI rc305 rfl (Nat.le_of_ble_eq_true rfl) ?_
              rw [← q161]
              refine k305 q163 k167 (inRd rfl) (inRd rfl) (fun c168 I169 q170 q171 q172 q173 => ?_) (fun c168 I169 q170 q171 q172 => ?_)
              · replace hE := hE.1 c168 I169 q170 q171 q172 q173
                refine s84 (by decide) ?_
                refine rqI_of ?_
                refine s68 (inRd rfl) (fun c174 => absurd c174 (by decide)) (fun _ => ?_)
                refine xG gb317.2.2.2.2.2.2.2.2.2.2.2.2.2.2.2.2 ?_
                refine s6 (p := 91) rfl ?_
                refine s51 sh91 (by decide) (by decide) rf91_84 ?_
                refine s4 (x := A 91 66 + 1 - 1) rfl ?_
                refine s6 (p := 91) rfl ?_
                refine s50 (v := ld I169 91 90) sh91 (by decide) (by decide) (oI_ld _ _ _) ?_
                refine s44 sh149 (by decide) g80 rfl ?_
                refine s4 (x := A 91 66 + 1 - 1) rfl ?_
                refine s80 ?_
                exact rqI_of hE
              · replace hE := hE.2 c168 I169 q170 q171 q172
                refine s84 (by decide) ?_
                refine rqI_of ?_
                refine s68 (inRd rfl) (fun _ => ?_) (fun c175 => absurd (by decide) c175)
                refine s79 ?_
                refine xG gb317.2.2.2.2.2.2.2.2.2.2.2.2.2.2.2.1 ?_
                refine s0 ?_
                refine s80 ?_
                exact rqI_of hE
            · replace hE := hE.2 c151 I152 q153 q154 q155
              refine s67 (inRd rfl) (fun _ => ?_) (fun c176 => absurd (by decide) c176)
              refine xG gb317.2.2.2.2.2.2.2.2.2.2.2.2.2.1 ?_
              refine s0 ?_
              refine s79 ?_
              refine xG gb317.2.2.2.2.2.2.2.2.2.2.2.2.2.2.1 ?_
              refine s44 sh148 (by decide) g80 rfl ?_
              refine s6 (p := 91) rfl ?_
              refine s51 sh91 (by decide) (by decide) rf91_83 ?_
              refine s4 (x := A 91 66 + 1 - 1) rfl ?_
              refine s40 (v := (-1)) sh148 g80 rfl (v2_eq) ?_
              refine s0 ?_
              refine s61 (inRd rfl) (inRd rfl) (fun _ => ?_) (fun c177 => absurd (by decide) c177)
              refine xG gb317.2.2.2.2.2.2.2.2.2.2.2.2.2.2.2.1 ?_
              refine s0 ?_
              refine s80 ?_
              exact rqI_of hE
def h316_1 (d L : Nat) (I : Nat → Nat → Int32) (R : Nat → Nat → Option Nat) (S : List (Nat × Nat)) (Q : Option Value → mM → Prop) (x1 : Int) (x2 : Int) (w3 : Value) : Prop := Wp d (gb 316 1) [.ref 91, .int (oI x1), .int (oI x2), w3] [] (bd L I R S) Q
set_option maxRecDepth 4000 in
theorem e316_1 {d L : Nat} {I : Nat → Nat → Int32} {R : Nat → Nat → Option Nat} {S : List (Nat × Nat)} {Q : Option Value → mM → Prop} {A : aS} (hR : RM I A) {x1 : Int} {x2 : Int} {w3 : Value} (hE : CallI (d + 1) 317 [.ref 91] (bd L I R S) (fun y s => ∃ (y1 : Int) (I2 : mI) (A3 : aS), y = oI y1 ∧ s = bd L I2 R S ∧ inR y1 ∧ RM I2 A3 ∧ (((y1 = (-1)) → Q (some (.int (oI (-1)))) (bd L I2 R S)) ∧ (¬ (y1 = (-1)) → inR x2 ∧ (((x2 = (-1)) → (0 ≤ x1 ∧ x1 < 7200) ∧ (∀ (I9 : mI) (A10 : aS), (I9 = (u2 I2 145 x1.toNat (oI y1))) → (A10 = (u2 A3 145 x1.toNat y1)) → (RM I9 A10) → ∃ (T14 : Nat → Int) (N15 p16 : Nat), Tx I9 T14 N15 p16 ∧ (((tkOk T14 N15 (bl T14 N15 p16) (Int64.ofInt 6385252)) → ∀ (I19 : mI), (Fr [] [(91, 69)] I9 I19) → (RM I19 A10) → (Tx I19 T14 N15 (lt T14 N15 (bl T14 N15 p16))) → h316_1 (d + 2) L I19 R S Q x1 y1 (.int (oI y1))) ∧ (¬ (tkOk T14 N15 (bl T14 N15 p16) (Int64.ofInt 6385252)) → ∀ (I19 : mI), (Fr [] [(91, 69)] I9 I19) → (RM I19 A10) → (Tx I19 T14 N15 (bl T14 N15 p16)) → Q (some (.int (oI x1))) (bd L I19 R S))))) ∧ (¬ (x2 = (-1)) → (0 ≤ x2 ∧ x2 < 7200) ∧ (∀ (I27 : mI) (A28 : aS), (I27 = (u2 I2 146 x2.toNat (oI y1))) → (A28 = (u2 A3 146 x2.toNat y1)) → (RM I27 A28) → ∃ (T32 : Nat → Int) (N33 p34 : Nat), Tx I27 T32 N33 p34 ∧ (((tkOk T32 N33 (bl T32 N33 p34) (Int64.ofInt 6385252)) → ∀ (I37 : mI), (Fr [] [(91, 69)] I27 I37) → (RM I37 A28) → (Tx I37 T32 N33 (lt T32 N33 (bl T32 N33 p34))) → h316_1 (d + 2) L I37 R S Q x1 y1 (.int (oI y1))) ∧ (¬ (tkOk T32 N33 (bl T32 N33 p34) (Int64.ofInt 6385252)) → ∀ (I37 : mI), (Fr [] [(91, 69)] I27 I37) → (RM I37 A28) → (Tx I37 T32 N33 (bl T32 N33 p34)) → Q (some (.int (oI x1))) (bd L I37 R S)))))))))) : h316_1 (d + 2) L I R S Q x1 x2 w3 := by
  unfold h316_1
  refine xG gb316.2.1 ?_
  refine s6 (p := 91) rfl ?_
  refine sI rc317 rfl (Nat.le_of_ble_eq_true rfl) ?_
  refine CallI.mono hE ?_
  rintro _ _ ⟨y1, I2, A3, rfl, rfl, gy1, q4, hE⟩
  refine s7 (ls' := [.ref 91, .int (oI x1), .int (oI x2), .int (oI y1)]) (Nat.le_of_ble_eq_true rfl) rfl ?_
  refine s4 (x := y1) rfl ?_
  refine s0 ?_
  refine s62 gy1 (inRd rfl) (fun c5 => ?_) (fun c5 => ?_)
  · replace hE := hE.1 c5
    refine s0 ?_
    refine s80 ?_
    exact hE
  · replace hE := hE.2 c5
    refine xG gb316.2.2.1 ?_
    refine s4 (x := x2) rfl ?_
    refine s0 ?_
    obtain ⟨g6, hE⟩ := hE
    refine s62 g6 (inRd rfl) (fun c7 => ?_) (fun c7 => ?_)
    · replace hE := hE.1 c7
      refine s6 (p := 91) rfl ?_
      refine s51 sh91 (by decide) (by decide) rf91_80 ?_
      refine s4 (x := x1) rfl ?_
      refine s4 (x := y1) rfl ?_
      obtain ⟨g8, hE⟩ := hE
      refine s44 sh145 (by decide) g8 rfl ?_
      refine s60 ?_
      refine xG gb316.2.2.2.2 ?_
      refine s4 (x := y1) rfl ?_
      refine s7 (ls' := [.ref 91, .int (oI x1), .int (oI y1), .int (oI y1)]) (Nat.le_of_ble_eq_true rfl) rfl ?_
      refine s6 (p := 91) rfl ?_
      refine s2 ?_
      obtain ⟨I9, q11⟩ : ∃ i : mI, i = (u2 I2 145 x1.toNat (oI y1)) := ⟨_, rfl⟩
      obtain ⟨A10, q12⟩ : ∃ i : aS, i = (u2 A3 145 x1.toNat y1) := ⟨_, rfl⟩
      have q13 : RM I9 A10 := by rw [q11, q12]; exact (RM.set q4 145 x1.toNat gy1 rfl)
      replace hE := hE I9 A10 q11 q12 q13
      obtain ⟨T14, N15, p16, k17, hE⟩ := hE
      refine sI rc304 rfl (Nat.le_of_ble_eq_true rfl) ?_
      rw [← q11]
      refine k304 q13 k17 (fun c18 I19 q20 q21 q22 => ?_) (fun c18 I19 q20 q21 q22 => ?_)
      · replace hE := hE.1 c18 I19 q20 q21 q22
        refine s68 (inRd rfl) (fun c24 => absurd c24 (by decide)) (fun _ => ?_)
        exact hE
      · replace hE := hE.2 c18 I19 q20 q21 q22
        refine s68 (inRd rfl) (fun _ => ?_) (fun c25 => absurd (by decide) c25)
        refine s4 (x := x1) rfl ?_
        refine s80 ?_
        exact hE
    · replace hE := hE.2 c7
      refine xG gb316.2.2.2.1 ?_
      refine s6 (p := 91) rfl ?_
      refine s51 sh91 (by decide) (by decide) rf91_81 ?_
      refine s4 (x := x2) rfl ?_
      refine s4 (x := y1) rfl ?_
      obtain ⟨g26, hE⟩ := hE
      refine s44 sh146 (by decide) g26 rfl ?_
      refine s79 ?_
      refine xG gb316.2.2.2.2 ?_
      refine s4 (x := y1) rfl ?_
      refine s7 (ls' := [.ref 91, .int (oI x1), .int (oI y1), .int (oI y1)]) (Nat.le_of_ble_eq_true rfl) rfl ?_
      refine s6 (p := 91) rfl ?_
      refine s2 ?_
      obtain ⟨I27, q29⟩ : ∃ i : mI, i = (u2 I2 146 x2.toNat (oI y1)) := ⟨_, rfl⟩
      obtain ⟨A28, q30⟩ : ∃ i : aS, i = (u2 A3 146 x2.toNat y1) := ⟨_, rfl⟩
      have q31 : RM I27 A28 := by rw [q29, q30]; exact (RM.set q4 146 x2.toNat gy1 rfl)
      replace hE := hE I27 A28 q29 q30 q31
      obtain ⟨T32, N33, p34, k35, hE⟩ := hE
      refine sI rc304 rfl (Nat.le_of_ble_eq_true rfl) ?_
      rw [← q29]
      refine k304 q31 k35 (fun c36 I37 q38 q39 q40 => ?_) (fun c36 I37 q38 q39 q40 => ?_)
      · replace hE := hE.1 c36 I37 q38 q39 q40
        refine s68 (inRd rfl) (fun c42 => absurd c42 (by decide)) (fun _ => ?_)
        exact hE
      · replace hE := hE.2 c36 I37 q38 q39 q40
        refine s68 (inRd rfl) (fun _ => ?_) (fun c43 => absurd (by decide) c43)
        refine s4 (x := x1) rfl ?_
        refine s80 ?_
        exact hE
set_option maxRecDepth 4000 in
theorem e316 {d L : Nat} {I : Nat → Nat → Int32} {R : Nat → Nat → Option Nat} {S : List (Nat × Nat)} {K : Int32 → mM → Prop} {A : aS} (hR : RM I A)  (hE : (0 ≤ A 91 66 ∧ A 91 66 < 7200) ∧ (h316_1 (d + 1) L (u2 (u2 (u2 (u2 I 144 (A 91 66).toNat (oI 1)) 145 (A 91 66).toNat (oI (-1))) 146 (A 91 66).toNat (oI (-1))) 91 66 (oI (A 91 66 + 1))) R S (rqI K) (A 91 66 + 1 - 1) (-1) mUn)) : CallI (d + 1) 316 [.ref 91] (bd L I R S) K := by
  refine cI_of (ls := [.ref 91, mUn, mUn, mUn]) rfl ?_
  refine xG gb316.1 ?_
  refine s6 (p := 91) rfl ?_
  refine s0 ?_
  refine sI rc315 rfl (Nat.le_of_ble_eq_true rfl) ?_
  refine cI_of (ls := [.ref 91, .int (oI 1)]) rfl ?_
  refine xG gb315 ?_
  refine s6 (p := 91) rfl ?_
  refine s51 sh91 (by decide) (by decide) rf91_79 ?_
  refine s6 (p := 91) rfl ?_
  refine s50 (v := A 91 66) sh91 (by decide) (by decide) (rdM hR.1 rfl) ?_
  refine s4 (x := 1) rfl ?_
  obtain ⟨g1, hE⟩ := hE
  refine s44 sh144 (by decide) g1 rfl ?_
  refine s6 (p := 91) rfl ?_
  refine s51 sh91 (by decide) (by decide) rf91_80 ?_
  refine s6 (p := 91) rfl ?_
  refine s50 (v := A 91 66) sh91 (by decide) (by decide) ((v2_ne (by decide)).trans (rdM hR.1 rfl)) ?_
  refine s0 ?_
  refine s44 sh145 (by decide) g1 rfl ?_
  refine s6 (p := 91) rfl ?_
  refine s51 sh91 (by decide) (by decide) rf91_81 ?_
  refine s6 (p := 91) rfl ?_
  refine s50 (v := A 91 66) sh91 (by decide) (by decide) ((v2_ne (by decide)).trans ((v2_ne (by decide)).trans (rdM hR.1 rfl))) ?_
  refine s0 ?_
  refine s44 sh146 (by decide) g1 rfl ?_
  refine s6 (p := 91) rfl ?_
  refine s13r ?_
  refine s50 (v := A 91 66) sh91 (by decide) (by decide) ((v2_ne (by decide)).trans ((v2_ne (by decide)).trans ((v2_ne (by decide)).trans (rdM hR.1 rfl)))) ?_
  refine s0 ?_
  refine s16 ?_
  refine s52 sh91 (by decide) (by decide) ?_
  refine s6 (p := 91) rfl ?_
  refine s50 (v := A 91 66 + 1) sh91 (by decide) (by decide) (v2_eq) ?_
  refine s0 ?_
  refine s17 ?_
  refine s80 ?_
  refine rqI_of ?_
  refine s7 (ls' := [.ref 91, .int (oI (A 91 66 + 1 - 1)), mUn, mUn]) (Nat.le_of_ble_eq_true rfl) rfl ?_
  refine s0 ?_
  refine s7 (ls' := [.ref 91, .int (oI (A 91 66 + 1 - 1)), .int (oI (-1)), mUn]) (Nat.le_of_ble_eq_true rfl) rfl ?_
  refine s79 ?_
  exact hE
def h314_1 (d L : Nat) (I : Nat → Nat → Int32) (R : Nat → Nat → Option Nat) (S : List (Nat × Nat)) (Q : Option Value → mM → Prop) (x1 : Int) (x2 : Int) (w3 : Value) : Prop := Wp d (gb 314 1) [.ref 91, .int (oI x1), .int (oI x2), w3] [] (bd L I R S) Q
set_option maxRecDepth 4000 in
theorem e314_1 {d L : Nat} {I : Nat → Nat → Int32} {R : Nat → Nat → Option Nat} {S : List (Nat × Nat)} {Q : Option Value → mM → Prop} {A : aS} (hR : RM I A) {x1 : Int} {x2 : Int} {w3 : Value} (hE : CallI (d + 1) 316 [.ref 91] (bd L I R S) (fun y s => ∃ (y1 : Int) (I2 : mI) (A3 : aS), y = oI y1 ∧ s = bd L I2 R S ∧ inR y1 ∧ RM I2 A3 ∧ (((y1 = (-1)) → Q (some (.int (oI (-1)))) (bd L I2 R S)) ∧ (¬ (y1 = (-1)) → inR x2 ∧ (((x2 = (-1)) → (0 ≤ x1 ∧ x1 < 7200) ∧ (∀ (I9 : mI) (A10 : aS), (I9 = (u2 I2 145 x1.toNat (oI y1))) → (A10 = (u2 A3 145 x1.toNat y1)) → (RM I9 A10) → ∃ (T14 : Nat → Int) (N15 p16 : Nat), Tx I9 T14 N15 p16 ∧ (((tkOk T14 N15 (bl T14 N15 p16) (Int64.ofInt 28530)) → ∀ (I19 : mI), (Fr [] [(91, 69)] I9 I19) → (RM I19 A10) → (Tx I19 T14 N15 (lt T14 N15 (bl T14 N15 p16))) → h314_1 (d + 2) L I19 R S Q x1 y1 (.int (oI y1))) ∧ (¬ (tkOk T14 N15 (bl T14 N15 p16) (Int64.ofInt 28530)) → ∀ (I19 : mI), (Fr [] [(91, 69)] I9 I19) → (RM I19 A10) → (Tx I19 T14 N15 (bl T14 N15 p16)) → Q (some (.int (oI x1))) (bd L I19 R S))))) ∧ (¬ (x2 = (-1)) → (0 ≤ x2 ∧ x2 < 7200) ∧ (∀ (I27 : mI) (A28 : aS), (I27 = (u2 I2 146 x2.toNat (oI y1))) → (A28 = (u2 A3 146 x2.toNat y1)) → (RM I27 A28) → ∃ (T32 : Nat → Int) (N33 p34 : Nat), Tx I27 T32 N33 p34 ∧ (((tkOk T32 N33 (bl T32 N33 p34) (Int64.ofInt 28530)) → ∀ (I37 : mI), (Fr [] [(91, 69)] I27 I37) → (RM I37 A28) → (Tx I37 T32 N33 (lt T32 N33 (bl T32 N33 p34))) → h314_1 (d + 2) L I37 R S Q x1 y1 (.int (oI y1))) ∧ (¬ (tkOk T32 N33 (bl T32 N33 p34) (Int64.ofInt 28530)) → ∀ (I37 : mI), (Fr [] [(91, 69)] I27 I37) → (RM I37 A28) → (Tx I37 T32 N33 (bl T32 N33 p34)) → Q (some (.int (oI x1))) (bd L I37 R S)))))))))) : h314_1 (d + 2) L I R S Q x1 x2 w3 := by
  unfold h314_1
  refine xG gb314.2.1 ?_
  refine s6 (p := 91) rfl ?_
  refine sI rc316 rfl (Nat.le_of_ble_eq_true rfl) ?_
  refine CallI.mono hE ?_
  rintro _ _ ⟨y1, I2, A3, rfl, rfl, gy1, q4, hE⟩
  refine s7 (ls' := [.ref 91, .int (oI x1), .int (oI x2), .int (oI y1)]) (Nat.le_of_ble_eq_true rfl) rfl ?_
  refine s4 (x := y1) rfl ?_
  refine s0 ?_
  refine s62 gy1 (inRd rfl) (fun c5 => ?_) (fun c5 => ?_)
  · replace hE := hE.1 c5
    refine s0 ?_
    refine s80 ?_
    exact hE
  · replace hE := hE.2 c5
    refine xG gb314.2.2.1 ?_
    refine s4 (x := x2) rfl ?_
    refine s0 ?_
    obtain ⟨g6, hE⟩ := hE
    refine s62 g6 (inRd rfl) (fun c7 => ?_) (fun c7 => ?_)
    · replace hE := hE.1 c7
      refine s6 (p := 91) rfl ?_
      refine s51 sh91 (by decide) (by decide) rf91_80 ?_
      refine s4 (x := x1) rfl ?_
      refine s4 (x := y1) rfl ?_
      obtain ⟨g8, hE⟩ := hE
      refine s44 sh145 (by decide) g8 rfl ?_
      refine s60 ?_
      refine xG gb314.2.2.2.2 ?_
      refine s4 (x := y1) rfl ?_
      refine s7 (ls' := [.ref 91, .int (oI x1), .int (oI y1), .int (oI y1)]) (Nat.le_of_ble_eq_true rfl) rfl ?_
      refine s6 (p := 91) rfl ?_
      refine s2 ?_
      obtain ⟨I9, q11⟩ : ∃ i : mI, i = (u2 I2 145 x1.toNat (oI y1)) := ⟨_, rfl⟩
      obtain ⟨A10, q12⟩ : ∃ i : aS, i = (u2 A3 145 x1.toNat y1) := ⟨_, rfl⟩
      have q13 : RM I9 A10 := by rw [q11, q12]; exact (RM.set q4 145 x1.toNat gy1 rfl)
      replace hE := hE I9 A10 q11 q12 q13
      obtain ⟨T14, N15, p16, k17, hE⟩ := hE
      refine sI rc304 rfl (Nat.le_of_ble_eq_true rfl) ?_
      rw [← q11]
      refine k304 q13 k17 (fun c18 I19 q20 q21 q22 => ?_) (fun c18 I19 q20 q21 q22 => ?_)
      · replace hE := hE.1 c18 I19 q20 q21 q22
        refine s68 (inRd rfl) (fun c24 => absurd c24 (by decide)) (fun _ => ?_)
        exact hE
      · replace hE := hE.2 c18 I19 q20 q21 q22
        refine s68 (inRd rfl) (fun _ => ?_) (fun c25 => absurd (by decide) c25)
        refine s4 (x := x1) rfl ?_
        refine s80 ?_
        exact hE
    · replace hE := hE.2 c7
      refine xG gb314.2.2.2.1 ?_
      refine s6 (p := 91) rfl ?_
      refine s51 sh91 (by decide) (by decide) rf91_81 ?_
      refine s4 (x := x2) rfl ?_
      refine s4 (x := y1) rfl ?_
      obtain ⟨g26, hE⟩ := hE
      refine s44 sh146 (by decide) g26 rfl ?_
      refine s79 ?_
      refine xG gb314.2.2.2.2 ?_
      refine s4 (x := y1) rfl ?_
      refine s7 (ls' := [.ref 91, .int (oI x1), .int (oI y1), .int (oI y1)]) (Nat.le_of_ble_eq_true rfl) rfl ?_
      refine s6 (p := 91) rfl ?_
      refine s2 ?_
      obtain ⟨I27, q29⟩ : ∃ i : mI, i = (u2 I2 146 x2.toNat (oI y1)) := ⟨_, rfl⟩
      obtain ⟨A28, q30⟩ : ∃ i : aS, i = (u2 A3 146 x2.toNat y1) := ⟨_, rfl⟩
      have q31 : RM I27 A28 := by rw [q29, q30]; exact (RM.set q4 146 x2.toNat gy1 rfl)
      replace hE := hE I27 A28 q29 q30 q31
      obtain ⟨T32, N33, p34, k35, hE⟩ := hE
      refine sI rc304 rfl (Nat.le_of_ble_eq_true rfl) ?_
      rw [← q29]
      refine k304 q31 k35 (fun c36 I37 q38 q39 q40 => ?_) (fun c36 I37 q38 q39 q40 => ?_)
      · replace hE := hE.1 c36 I37 q38 q39 q40
        refine s68 (inRd rfl) (fun c42 => absurd c42 (by decide)) (fun _ => ?_)
        exact hE
      · replace hE := hE.2 c36 I37 q38 q39 q40
        refine s68 (inRd rfl) (fun _ => ?_) (fun c43 => absurd (by decide) c43)
        refine s4 (x := x1) rfl ?_
        refine s80 ?_
        exact hE
set_option maxRecDepth 4000 in
theorem e314 {d L : Nat} {I : Nat → Nat → Int32} {R : Nat → Nat → Option Nat} {S : List (Nat × Nat)} {K : Int32 → mM → Prop} {A : aS} (hR : RM I A)  (hE : (0 ≤ A 91 66 ∧ A 91 66 < 7200) ∧ (h314_1 (d + 1) L (u2 (u2 (u2 (u2 I 144 (A 91 66).toNat (oI 0)) 145 (A 91 66).toNat (oI (-1))) 146 (A 91 66).toNat (oI (-1))) 91 66 (oI (A 91 66 + 1))) R S (rqI K) (A 91 66 + 1 - 1) (-1) mUn)) : CallI (d + 1) 314 [.ref 91] (bd L I R S) K := by
  refine cI_of (ls := [.ref 91, mUn, mUn, mUn]) rfl ?_
  refine xG gb314.1 ?_
  refine s6 (p := 91) rfl ?_
  refine s0 ?_
  refine sI rc315 rfl (Nat.le_of_ble_eq_true rfl) ?_
  refine cI_of (ls := [.ref 91, .int (oI 0)]) rfl ?_
  refine xG gb315 ?_
  refine s6 (p := 91) rfl ?_
  refine s51 sh91 (by decide) (by decide) rf91_79 ?_
  refine s6 (p := 91) rfl ?_
  refine s50 (v := A 91 66) sh91 (by decide) (by decide) (rdM hR.1 rfl) ?_
  refine s4 (x := 0) rfl ?_
  obtain ⟨g1, hE⟩ := hE
  refine s44 sh144 (by decide) g1 rfl ?_
  refine s6 (p := 91) rfl ?_
  refine s51 sh91 (by decide) (by decide) rf91_80 ?_
  refine s6 (p := 91) rfl ?_
  refine s50 (v := A 91 66) sh91 (by decide) (by decide) ((v2_ne (by decide)).trans (rdM hR.1 rfl)) ?_
  refine s0 ?_
  refine s44 sh145 (by decide) g1 rfl ?_
  refine s6 (p := 91) rfl ?_
  refine s51 sh91 (by decide) (by decide) rf91_81 ?_
  refine s6 (p := 91) rfl ?_
  refine s50 (v := A 91 66) sh91 (by decide) (by decide) ((v2_ne (by decide)).trans ((v2_ne (by decide)).trans (rdM hR.1 rfl))) ?_
  refine s0 ?_
  refine s44 sh146 (by decide) g1 rfl ?_
  refine s6 (p := 91) rfl ?_
  refine s13r ?_
  refine s50 (v := A 91 66) sh91 (by decide) (by decide) ((v2_ne (by decide)).trans ((v2_ne (by decide)).trans ((v2_ne (by decide)).trans (rdM hR.1 rfl)))) ?_
  refine s0 ?_
  refine s16 ?_
  refine s52 sh91 (by decide) (by decide) ?_
  refine s6 (p := 91) rfl ?_
  refine s50 (v := A 91 66 + 1) sh91 (by decide) (by decide) (v2_eq) ?_
  refine s0 ?_
  refine s17 ?_
  refine s80 ?_
  refine rqI_of ?_
  refine s7 (ls' := [.ref 91, .int (oI (A 91 66 + 1 - 1)), mUn, mUn]) (Nat.le_of_ble_eq_true rfl) rfl ?_
  refine s0 ?_
  refine s7 (ls' := [.ref 91, .int (oI (A 91 66 + 1 - 1)), .int (oI (-1)), mUn]) (Nat.le_of_ble_eq_true rfl) rfl ?_
  refine s79 ?_
  exact hE
