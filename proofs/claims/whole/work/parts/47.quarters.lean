/-! the reference: quarters of a half, of a year -/
theorem tdiv_bd {x : Int} {a b : Int} (h1 : -100 * a ≤ x) (h2 : x ≤ 100 * b) (ha : 0 ≤ a) (hb : 0 ≤ b) : -a ≤ Int.tdiv x 100 ∧ Int.tdiv x 100 ≤ b := by
  rcases Int.le_total 0 x with h | h
  · rw [Int.tdiv_eq_ediv_of_nonneg h]; omega
  · have e : Int.tdiv x 100 = -((-x) / 100) := by
      have h9 := Int.neg_tdiv (a := -x) (b := 100)
      rw [Int.neg_neg] at h9
      rw [h9, Int.tdiv_eq_ediv_of_nonneg (by omega)]
    rw [e]; omega
def ageS (A : aS) (c day : Int) : Int := max 0 (Int.tdiv (day - A 92 c.toNat) 100)
def zE : Nat → Int := fun _ => 0
def putE (h : Nat → Int) (k : Nat) (v : Int) : Nat → Int := fun i => if i = k then v else h i
theorem EnvI.zero {I : mI} (h : ∀ j : Nat, j < 12 → ld I 150 j = 0) : EnvI I zE := h
theorem EnvI.put {I : mI} {h : Nat → Int} {k : Nat} {v : Int} (hh : EnvI I h) (hv : inR v) : EnvI (u2 I 150 k (oI v)) (putE h k v) := by
  intro i hi
  rw [ld_w hv]
  unfold putE
  by_cases e : i = k
  · rw [if_pos e, if_pos e]
  · rw [if_neg e, if_neg e]; exact hh i hi
theorem fsF_prop {A : aS} (hC : WfC A) {h : Nat → Int} {y kind key : Int} : ∀ f n : Nat, fsF A h y kind key f n = -1 ∨ ∃ m s : Nat, fsF A h y kind key f n = m ∧ n ≤ m ∧ m < n + f ∧ cdS A y m = s ∧ s < 320 ∧ WfS A s ∧ ¬ A 140 s = 0 ∧ A 140 s = kind ∧ (key = -1 ∨ A 141 s = key)
  | 0, n => Or.inl rfl
  | f + 1, n => by
    unfold fsF
    cases hb : fsC A h y kind key n with
    | false =>
      rcases fsF_prop hC (h := h) (y := y) (kind := kind) (key := key) f (n + 1) with h1 | ⟨m, s, h1, h2, h3, h4⟩
      · exact Or.inl h1
      · exact Or.inr ⟨m, s, h1, by omega, by omega, h4⟩
    | true =>
      unfold fsC at hb
      simp only [Bool.and_eq_true, Bool.not_eq_true', beq_eq_false_iff_ne, beq_iff_eq, Bool.or_eq_true] at hb
      obtain ⟨b1, b2, b3, -⟩ := hb
      obtain ⟨s, s1, s2, s3, s4, s5, -⟩ := cdS_wf hC b1
      have e : (cdS A y n).toNat = s := by omega
      rw [e] at b2 b3
      exact Or.inr ⟨n, s, rfl, by omega, by omega, s1, s2, s3, s5, b2, b3⟩
theorem fsS_prop {A : aS} (hC : WfC A) {h : Nat → Int} {y kind key : Int} : fsS A h y kind key = -1 ∨ ∃ m s : Nat, fsS A h y kind key = m ∧ 1 ≤ m ∧ m < 61 ∧ cdS A y m = s ∧ s < 320 ∧ WfS A s ∧ ¬ A 140 s = 0 ∧ A 140 s = kind ∧ (key = -1 ∨ A 141 s = key) := fsF_prop hC 60 1
theorem feF_prop {A : aS} (hC : WfC A) {h : Nat → Int} {y kinds : Int} : ∀ f n : Nat, feF A h y kinds f n = -1 ∨ ∃ m s : Nat, feF A h y kinds f n = m ∧ n ≤ m ∧ m < n + f ∧ cdS A y m = s ∧ s < 320 ∧ WfS A s ∧ ¬ A 140 s = 0 ∧ A 140 s = 2
  | 0, n => Or.inl rfl
  | f + 1, n => by
    unfold feF
    cases hb : feC A h y kinds n with
    | false =>
      rcases feF_prop hC (h := h) (y := y) (kinds := kinds) f (n + 1) with h1 | ⟨m, s, h1, h2, h3, h4⟩
      · exact Or.inl h1
      · exact Or.inr ⟨m, s, h1, by omega, by omega, h4⟩
    | true =>
      unfold feC at hb
      simp only [Bool.and_eq_true, Bool.not_eq_true', beq_eq_false_iff_ne, beq_iff_eq] at hb
      obtain ⟨b1, b2, -⟩ := hb
      obtain ⟨s, s1, s2, s3, s4, s5, -⟩ := cdS_wf hC b1
      have e : (cdS A y n).toNat = s := by omega
      rw [e] at b2
      exact Or.inr ⟨n, s, rfl, by omega, by omega, s1, s2, s3, s5, b2⟩
theorem feS_prop {A : aS} (hC : WfC A) {h : Nat → Int} {y kinds : Int} : feS A h y kinds = -1 ∨ ∃ m s : Nat, feS A h y kinds = m ∧ 1 ≤ m ∧ m < 61 ∧ cdS A y m = s ∧ s < 320 ∧ WfS A s ∧ ¬ A 140 s = 0 ∧ A 140 s = 2 := feF_prop hC 60 1
/-- the second number of the clause at a number; 0 where there is none -/
def seS (A : aS) (code n : Int) : Int := if n = -1 then 0 else A 142 (cdS A code n).toNat
/-- its first number -/
def nuS (A : aS) (code n : Int) : Int := A 141 (cdS A code n).toNat
noncomputable def qE (A : aS) (c year d half std known : Int) : Nat → Int := putE (putE (putE (putE (putE (putE (putE (putE zE 0 (ageS A c (100 * year + d))) 1 std) 2 d) 3 year) 4 half) 5 (if kdS A c (100 * year + d) known = 0 then 0 else 1)) 6 (bI (spS A 4 c (100 * year + d) known))) 11 (bI (spS A 5 c (100 * year + d) known))
noncomputable def qnS (A : aS) (c year d half code std known : Int) : Int := if mkS A c (2 * (100 * year + d) + half) known = 0 then feS A (qE A c year d half std known) code (kdS A c (100 * year + d) known) else fsS A (qE A c year d half std known) code 1 (mkS A c (2 * (100 * year + d) + half) known)
noncomputable def qtS (A : aS) (c year d half code std known : Int) : Int := if onS A c (100 * year + d) known = -1 ∨ spS A 1 (onS A c (100 * year + d) known) (100 * year + d) known = true then 0 else seS A code (qnS A c year d half code std known)
theorem onL_in {A : aS} (hW : WfA A) {c day known : Int} : ∀ k, k ≤ nN A → -1 ≤ (onL A c day known k).1 ∧ (onL A c day known k).1 < 6
  | 0, _ => by unfold onL; dsimp only; omega
  | k + 1, h => by
    rw [onL_succ]
    split
    · rename_i h1
      have := (hW.2.2.2.2 k (by omega)).entry h1.1
      have := hW.2.2.1
      dsimp only
      omega
    · exact onL_in hW k (by omega)
theorem onS_in {A : aS} (hW : WfA A) {c day known : Int} : -1 ≤ onS A c day known ∧ onS A c day known < 6 := onL_in hW _ (Nat.le_refl _)
def WfP (A : aS) : Prop := ∀ c : Nat, c < (A 91 1).toNat → (-1500 ≤ A 92 c ∧ A 92 c ≤ 799) ∧ (0 ≤ A 93 c ∧ A 93 c ≤ 9) ∧ (0 ≤ A 94 c ∧ A 94 c ≤ 7) ∧ (0 ≤ A 95 c ∧ A 95 c ≤ 6) ∧ (0 ≤ A 96 c ∧ A 96 c ≤ 999999)
theorem seS_in {A : aS} (hC : WfC A) {h : Nat → Int} {y c year d half std known : Int} : 0 ≤ seS A y (qnS A c year d half y std known) ∧ seS A y (qnS A c year d half y std known) ≤ 2 := by
  unfold seS
  split
  · omega
  · rename_i hq
    have key : ∀ (n : Int), n = -1 ∨ (∃ m s : Nat, n = m ∧ cdS A y m = s ∧ WfS A s ∧ ¬ A 140 s = 0 ∧ (A 140 s = 1 ∨ A 140 s = 2)) → ¬ n = -1 → 0 ≤ A 142 (cdS A y n).toNat ∧ A 142 (cdS A y n).toNat ≤ 2 := by
      rintro n (h1 | ⟨m, s, h1, h2, h3, h4, h5⟩) h0
      · exact absurd h1 h0
      · have w := h3.2.2 h4
        rw [h1, h2, Int.toNat_natCast]
        rcases h5 with h5 | h5
        · have a1 := w.2.1 (Or.inl h5); have a2 := (w.2.2.2.1 h5).2; omega
        · have a1 := w.2.1 (Or.inr (Or.inl h5)); have a2 := (w.2.2.2.2.1 h5).2; omega
    refine key _ ?_ hq
    unfold qnS
    split
    · rcases feS_prop hC (h := qE A c year d half std known) (y := y) (kinds := kdS A c (100 * year + d) known) with h1 | ⟨m, s, h1, -, -, h2, -, h3, h4, h5⟩
      · exact Or.inl h1
      · exact Or.inr ⟨m, s, h1, h2, h3, h4, Or.inr h5⟩
    · rcases fsS_prop hC (h := qE A c year d half std known) (y := y) (kind := 1) (key := mkS A c (2 * (100 * year + d) + half) known) with h1 | ⟨m, s, h1, -, -, h2, -, h3, h4, h5, -⟩
      · exact Or.inl h1
      · exact Or.inr ⟨m, s, h1, h2, h3, h4, Or.inl h5⟩
theorem qtS_in {A : aS} (hC : WfC A) {y c year d half std known : Int} : 0 ≤ qtS A c year d half y std known ∧ qtS A c year d half y std known ≤ 2 := by
  unfold qtS
  split
  · omega
  · exact seS_in hC (h := zE)
set_option maxRecDepth 4000 in
theorem e253 {d L : Nat} {I : Nat → Nat → Int32} {R : Nat → Nat → Option Nat} {S : List (Nat × Nat)} {K : Int32 → mM → Prop} {A : aS} (hR : RM I A) {x1 : Int} {x2 : Int} {x3 : Int} {x4 : Int} {x5 : Int} {x6 : Int} (hE : (0 ≤ x3 ∧ x3 < 100) ∧ (((ld I 111 x3.toNat = (-1)) → K (oI 0) (bd L I R S)) ∧ (¬ (ld I 111 x3.toNat = (-1)) → (0 ≤ (100 * (ld I 111 x3.toNat)) + x3 ∧ (100 * (ld I 111 x3.toNat)) + x3 < 600) ∧ (((ld I 116 ((100 * (ld I 111 x3.toNat)) + x3).toNat = 0) → ∀ (I5 : mI), (Fr [150] [] I I5) → (∀ j : Nat, j < 12 → ld I5 150 j = 0) → (0 ≤ x1 ∧ x1 < 40) ∧ (inR (((100 * x2) + x3) - (A 92 x1.toNat)) ∧ (inR (Int.tdiv (((100 * x2) + x3) - (A 92 x1.toNat)) 100) ∧ ((ld I5 114 x3.toNat = 0 ∨ ld I5 114 x3.toNat = 1) ∧ ((ld I5 115 x3.toNat = 0 ∨ ld I5 115 x3.toNat = 1) ∧ ((0 ≤ (2 * x3) + x4 ∧ (2 * x3) + x4 < 200) ∧ (((ld I5 112 ((2 * x3) + x4).toNat = 0) → WfC A ∧ ((0 ≤ x5 ∧ x5 ≤ 7) ∧ (∃ e17 : Nat → Int, EnvI (u2 (u2 (u2 (u2 (u2 (u2 (u2 (u2 I5 150 0 (oI (max 0 (Int.tdiv (((100 * x2) + x3) - (A 92 x1.toNat)) 100)))) 150 1 (oI x6)) 150 2 (oI x3)) 150 3 (oI x2)) 150 4 (oI x4)) 150 5 (oI (if ld I5 113 x3.toNat = 0 then (0 : Int) else 1))) 150 6 (oI (ld I5 114 x3.toNat))) 150 11 (oI (ld I5 115 x3.toNat))) e17 ∧ (∀ (I19 : mI), (Fr [151] [(91, 87)] (u2 (u2 (u2 (u2 (u2 (u2 (u2 (u2 I5 150 0 (oI (max 0 (Int.tdiv (((100 * x2) + x3) - (A 92 x1.toNat)) 100)))) 150 1 (oI x6)) 150 2 (oI x3)) 150 3 (oI x2)) 150 4 (oI x4)) 150 5 (oI (if ld I5 113 x3.toNat = 0 then (0 : Int) else 1))) 150 6 (oI (ld I5 114 x3.toNat))) 150 11 (oI (ld I5 115 x3.toNat))) I19) → (RM I19 A) → inR (feS A e17 x5 (ld I5 113 x3.toNat)) ∧ (((feS A e17 x5 (ld I5 113 x3.toNat) = (-1)) → K (oI 0) (bd L I19 R S)) ∧ (¬ (feS A e17 x5 (ld I5 113 x3.toNat) = (-1)) → (0 ≤ feS A e17 x5 (ld I5 113 x3.toNat) ∧ feS A e17 x5 (ld I5 113 x3.toNat) ≤ 60) ∧ (∀ (I25 : mI), (Fr [151] [(91, 87)] I19 I25) → (RM I25 A) → (0 ≤ cdS A x5 (feS A e17 x5 (ld I5 113 x3.toNat)) ∧ cdS A x5 (feS A e17 x5 (ld I5 113 x3.toNat)) < 360) ∧ (K (oI (A 142 (cdS A x5 (feS A e17 x5 (ld I5 113 x3.toNat))).toNat)) (bd L I25 R S))))))))) ∧ (¬ (ld I5 112 ((2 * x3) + x4).toNat = 0) → WfC A ∧ ((0 ≤ x5 ∧ x5 ≤ 7) ∧ (∃ e31 : Nat → Int, EnvI (u2 (u2 (u2 (u2 (u2 (u2 (u2 (u2 I5 150 0 (oI (max 0 (Int.tdiv (((100 * x2) + x3) - (A 92 x1.toNat)) 100)))) 150 1 (oI x6)) 150 2 (oI x3)) 150 3 (oI x2)) 150 4 (oI x4)) 150 5 (oI (if ld I5 113 x3.toNat = 0 then (0 : Int) else 1))) 150 6 (oI (ld I5 114 x3.toNat))) 150 11 (oI (ld I5 115 x3.toNat))) e31 ∧ (∀ (I33 : mI), (Fr [151] [(91, 87)] (u2 (u2 (u2 (u2 (u2 (u2 (u2 (u2 I5 150 0 (oI (max 0 (Int.tdiv (((100 * x2) + x3) - (A 92 x1.toNat)) 100)))) 150 1 (oI x6)) 150 2 (oI x3)) 150 3 (oI x2)) 150 4 (oI x4)) 150 5 (oI (if ld I5 113 x3.toNat = 0 then (0 : Int) else 1))) 150 6 (oI (ld I5 114 x3.toNat))) 150 11 (oI (ld I5 115 x3.toNat))) I33) → (RM I33 A) → inR (fsS A e31 x5 1 (ld I5 112 ((2 * x3) + x4).toNat)) ∧ (((fsS A e31 x5 1 (ld I5 112 ((2 * x3) + x4).toNat) = (-1)) → K (oI 0) (bd L I33 R S)) ∧ (¬ (fsS A e31 x5 1 (ld I5 112 ((2 * x3) + x4).toNat) = (-1)) → (0 ≤ fsS A e31 x5 1 (ld I5 112 ((2 * x3) + x4).toNat) ∧ fsS A e31 x5 1 (ld I5 112 ((2 * x3) + x4).toNat) ≤ 60) ∧ (∀ (I39 : mI), (Fr [151] [(91, 87)] I33 I39) → (RM I39 A) → (0 ≤ cdS A x5 (fsS A e31 x5 1 (ld I5 112 ((2 * x3) + x4).toNat)) ∧ cdS A x5 (fsS A e31 x5 1 (ld I5 112 ((2 * x3) + x4).toNat)) < 360) ∧ (K (oI (A 142 (cdS A x5 (fsS A e31 x5 1 (ld I5 112 ((2 * x3) + x4).toNat))).toNat)) (bd L I39 R S)))))))))))))))) ∧ (¬ (ld I 116 ((100 * (ld I 111 x3.toNat)) + x3).toNat = 0) → K (oI 0) (bd L I R S)))))) : CallI (d + 26) 253 [.ref 91, .int (oI x1), .int (oI x2), .int (oI x3), .int (oI x4), .int (oI x5), .int (oI x6)] (bd L I R S) K := by
  refine cI_of (ls := [.ref 91, .int (oI x1), .int (oI x2), .int (oI x3), .int (oI x4), .int (oI x5), .int (oI x6), mUn, mUn]) rfl ?_
  refine xG gb253.1 ?_
  refine s6 (p := 91) rfl ?_
  refine s51 sh91 (by decide) (by decide) rf91_24 ?_
  refine s4 (x := x3) rfl ?_
  obtain ⟨g1, hE⟩ := hE
  refine s40 (v := ld I 111 x3.toNat) sh111 g1 rfl (oI_ld _ _ _) ?_
  refine s0 ?_
  refine s61 (ld_inR _ _ _) (inRd rfl) (fun c2 => ?_) (fun c2 => ?_)
  · replace hE := hE.1 c2
    refine xG gb253.2.1 ?_
    refine s0 ?_
    refine s80 ?_
    exact rqI_of hE
  · replace hE := hE.2 c2
    refine s6 (p := 91) rfl ?_
    refine s51 sh91 (by decide) (by decide) rf91_29 ?_
    refine s0 ?_
    refine s6 (p := 91) rfl ?_
    refine s51 sh91 (by decide) (by decide) rf91_24 ?_
    refine s4 (x := x3) rfl ?_
    refine s40 (v := ld I 111 x3.toNat) sh111 g1 rfl (oI_ld _ _ _) ?_
    refine s18 ?_
    refine s4 (x := x3) rfl ?_
    refine s16 ?_
    obtain ⟨g3, hE⟩ := hE
    refine s42 (v := ld I 116 ((100 * (ld I 111 x3.toNat)) + x3).toNat) sh116 g3 rfl (oI_ld _ _ _) ?_
    refine s67 (ld_inR _ _ _) (fun c4 => ?_) (fun c4 => ?_)
    · replace hE := hE.1 c4
      refine xG gb253.2.2.1 ?_
      refine s6 (p := 91) rfl ?_
      refine sV rc236 rfl (Nat.le_of_ble_eq_true rfl) ?_
      refine k236R hR (fun I5 q6 q7 => ?_)
      replace hE := hE I5 q6 q7
      refine s6 (p := 91) rfl ?_
      refine s51 sh91 (by decide) (by decide) rf91_85 ?_
      refine s0 ?_
      refine s6 (p := 91) rfl ?_
      refine s4 (x := x1) rfl ?_
      refine s0 ?_
      refine s4 (x := x2) rfl ?_
      refine s18 ?_
      refine s4 (x := x3) rfl ?_
      refine s16 ?_
      refine sI rc237 rfl (Nat.le_of_ble_eq_true rfl) ?_
      refine cI_of (ls := [.ref 91, .int (oI x1), .int (oI ((100 * x2) + x3))]) rfl ?_
      refine xG gb237 ?_
      refine s0 ?_
      refine s4 (x := (100 * x2) + x3) rfl ?_
      refine s6 (p := 91) rfl ?_
      refine s51 sh91 (by decide) (by decide) rf91_5 ?_
      refine s4 (x := x1) rfl ?_
      obtain ⟨g8, hE⟩ := hE
      refine s40 (v := A 92 x1.toNat) sh92 g8 rfl (rdM (RM.fr hR q6 rfl rfl (fun _ => rfl)).1 rfl) ?_
      refine s17 ?_
      refine s0 ?_
      obtain ⟨g9, hE⟩ := hE
      refine s19 g9 ⟨(inRd rfl), by decide⟩ ?_
      obtain ⟨g10, hE⟩ := hE
      refine sI rc346 rfl (Nat.le_of_ble_eq_true rfl) ?_
      refine k346 (inRd rfl) g10 ?_
      refine s80 ?_
      refine rqI_of ?_
      refine s44 sh150 (by decide) (⟨by decide, by decide⟩ : (0 : Int) ≤ 0 ∧ (0 : Int) < 12) rfl ?_
      refine s6 (p := 91) rfl ?_
      refine s51 sh91 (by decide) (by decide) rf91_85 ?_
      refine s0 ?_
      refine s4 (x := x6) rfl ?_
      refine s44 sh150 (by decide) (⟨by decide, by decide⟩ : (0 : Int) ≤ 1 ∧ (1 : Int) < 12) rfl ?_
      refine s6 (p := 91) rfl ?_
      refine s51 sh91 (by decide) (by decide) rf91_85 ?_
      refine s0 ?_
      refine s4 (x := x3) rfl ?_
      refine s44 sh150 (by decide) (⟨by decide, by decide⟩ : (0 : Int) ≤ 2 ∧ (2 : Int) < 12) rfl ?_
      refine s6 (p := 91) rfl ?_
      refine s51 sh91 (by decide) (by decide) rf91_85 ?_
      refine s0 ?_
      refine s4 (x := x2) rfl ?_
      refine s44 sh150 (by decide) (⟨by decide, by decide⟩ : (0 : Int) ≤ 3 ∧ (3 : Int) < 12) rfl ?_
      refine s6 (p := 91) rfl ?_
      refine s51 sh91 (by decide) (by decide) rf91_85 ?_
      refine s0 ?_
      refine s4 (x := x4) rfl ?_
      refine s44 sh150 (by decide) (⟨by decide, by decide⟩ : (0 : Int) ≤ 4 ∧ (4 : Int) < 12) rfl ?_
      refine s6 (p := 91) rfl ?_
      refine s51 sh91 (by decide) (by decide) rf91_85 ?_
      refine s0 ?_
      refine s6 (p := 91) rfl ?_
      refine s51 sh91 (by decide) (by decide) rf91_26 ?_
      refine s4 (x := x3) rfl ?_
      refine s40 (v := ld I5 113 x3.toNat) sh113 g1 rfl ((v2_ne (by decide)).trans ((v2_ne (by decide)).trans ((v2_ne (by decide)).trans ((v2_ne (by decide)).trans ((v2_ne (by decide)).trans (oI_ld _ _ _)))))) ?_
      refine s67j (j := 4) (v1 := 0) (v0 := 1) (ld_inR _ _ _) (fun hJ => ?_) (fun hJ => ?_) ?_
      · refine xG gb253.2.2.2.1 ?_
        exact s0 (s79 hJ)
      · exact s0 (s60 hJ)
      refine xG gb253.2.2.2.2.1 ?_
      refine sI rc227 rfl (Nat.le_of_ble_eq_true rfl) ?_
      refine k227 (ite_01 (by decide) (by decide)) ?_
      refine s44 sh150 (by decide) (⟨by decide, by decide⟩ : (0 : Int) ≤ 5 ∧ (5 : Int) < 12) rfl ?_
      refine s6 (p := 91) rfl ?_
      refine s51 sh91 (by decide) (by decide) rf91_85 ?_
      refine s0 ?_
      refine s6 (p := 91) rfl ?_
      refine s51 sh91 (by decide) (by decide) rf91_27 ?_
      refine s4 (x := x3) rfl ?_
      refine s42 (v := ld I5 114 x3.toNat) sh114 g1 rfl ((v2_ne (by decide)).trans ((v2_ne (by decide)).trans ((v2_ne (by decide)).trans ((v2_ne (by decide)).trans ((v2_ne (by decide)).trans ((v2_ne (by decide)).trans (oI_ld _ _ _))))))) ?_
      obtain ⟨g11, hE⟩ := hE
      refine sI rc227 rfl (Nat.le_of_ble_eq_true rfl) ?_
      refine k227 g11 ?_
      refine s44 sh150 (by decide) (⟨by decide, by decide⟩ : (0 : Int) ≤ 6 ∧ (6 : Int) < 12) rfl ?_
      refine s6 (p := 91) rfl ?_
      refine s51 sh91 (by decide) (by decide) rf91_85 ?_
      refine s0 ?_
      refine s6 (p := 91) rfl ?_
      refine s51 sh91 (by decide) (by decide) rf91_28 ?_
      refine s4 (x := x3) rfl ?_
      refine s42 (v := ld I5 115 x3.toNat) sh115 g1 rfl ((v2_ne (by decide)).trans ((v2_ne (by decide)).trans ((v2_ne (by decide)).trans ((v2_ne (by decide)).trans ((v2_ne (by decide)).trans ((v2_ne (by decide)).trans ((v2_ne (by decide)).trans (oI_ld _ _ _)))))))) ?_
      obtain ⟨g12, hE⟩ := hE
      refine sI rc227 rfl (Nat.le_of_ble_eq_true rfl) ?_
      refine k227 g12 ?_
      refine s44 sh150 (by decide) (⟨by decide, by decide⟩ : (0 : Int) ≤ 11 ∧ (11 : Int) < 12) rfl ?_
      refine s6 (p := 91) rfl ?_
      refine s51 sh91 (by decide) (by decide) rf91_25 ?_
      refine s0 ?_
      refine s4 (x := x3) rfl ?_
      refine s18 ?_
      refine s4 (x := x4) rfl ?_
      refine s16 ?_
      obtain ⟨g13, hE⟩ := hE
      refine s40 (v := ld I5 112 ((2 * x3) + x4).toNat) sh112 g13 rfl ((v2_ne (by decide)).trans ((v2_ne (by decide)).trans ((v2_ne (by decide)).trans ((v2_ne (by decide)).trans ((v2_ne (by decide)).trans ((v2_ne (by decide)).trans ((v2_ne (by decide)).trans ((v2_ne (by decide)).trans (oI_ld _ _ _))))))))) ?_
      refine s7 (ls' := [.ref 91, .int (oI x1), .int (oI x2), .int (oI x3), .int (oI x4), .int (oI x5), .int (oI x6), .int (oI (ld I5 112 ((2 * x3) + x4).toNat)), mUn]) (Nat.le_of_ble_eq_true rfl) rfl ?_
      refine s4 (x := ld I5 112 ((2 * x3) + x4).toNat) rfl ?_
      refine s68 (ld_inR _ _ _) (fun c14 => ?_) (fun c14 => ?_)
      · replace hE := hE.1 c14
        refine s6 (p := 91) rfl ?_
        refine s4 (x := x5) rfl ?_
        refine s6 (p := 91) rfl ?_
        refine s51 sh91 (by decide) (by decide) rf91_26 ?_
        refine s4 (x := x3) rfl ?_
        refine s40 (v := ld I5 113 x3.toNat) sh113 g1 rfl ((v2_ne (by decide)).trans ((v2_ne (by decide)).trans ((v2_ne (by decide)).trans ((v2_ne (by decide)).trans ((v2_ne (by decide)).trans ((v2_ne (by decide)).trans ((v2_ne (by decide)).trans ((v2_ne (by decide)).trans (oI_ld _ _ _))))))))) ?_
        obtain ⟨g15, hE⟩ := hE
        obtain ⟨g16, hE⟩ := hE
        obtain ⟨e17, k18, hE⟩ := hE
        refine sI rc254 rfl (Nat.le_of_ble_eq_true rfl) ?_
        refine k254 k18 (RM.scr (RM.scr (RM.scr (RM.scr (RM.scr (RM.scr (RM.scr (RM.scr (RM.fr hR q6 rfl rfl (fun _ => rfl)) rfl) rfl) rfl) rfl) rfl) rfl) rfl) rfl) g15 g16 (ld_inR _ _ _) (fun I19 q20 q21 => ?_)
        replace hE := hE I19 q20 q21
        refine s60 ?_
        refine xG gb253.2.2.2.2.2.2.1 ?_
        refine s7 (ls' := [.ref 91, .int (oI x1), .int (oI x2), .int (oI x3), .int (oI x4), .int (oI x5), .int (oI x6), .int (oI (ld I5 112 ((2 * x3) + x4).toNat)), .int (oI (feS A e17 x5 (ld I5 113 x3.toNat)))]) (Nat.le_of_ble_eq_true rfl) rfl ?_
        refine s4 (x := feS A e17 x5 (ld I5 113 x3.toNat)) rfl ?_
        refine s0 ?_
        obtain ⟨g22, hE⟩ := hE
        refine s62 g22 (inRd rfl) (fun c23 => ?_) (fun c23 => ?_)
        · replace hE := hE.1 c23
          refine s0 ?_
          refine s60 ?_
          refine xG gb253.2.2.2.2.2.2.2.2 ?_
          refine s80 ?_
          exact rqI_of hE
        · replace hE := hE.2 c23
          refine xG gb253.2.2.2.2.2.2.2.1 ?_
          refine s6 (p := 91) rfl ?_
          refine s51 sh91 (by decide) (by decide) rf91_77 ?_
          refine s6 (p := 91) rfl ?_
          refine s4 (x := x5) rfl ?_
          refine s4 (x := feS A e17 x5 (ld I5 113 x3.toNat)) rfl ?_
          obtain ⟨g24, hE⟩ := hE
          refine sI rc221 rfl (Nat.le_of_ble_eq_true rfl) ?_
          refine k221 q21 g15 g16 g24 (fun I25 q26 q27 => ?_)
          replace hE := hE I25 q26 q27
          obtain ⟨g28, hE⟩ := hE
          refine s40 (v := A 142 (cdS A x5 (feS A e17 x5 (ld I5 113 x3.toNat))).toNat) sh142 g28 rfl (rdM (q27).1 rfl) ?_
          refine s79 ?_
          refine xG gb253.2.2.2.2.2.2.2.2 ?_
          refine s80 ?_
          exact rqI_of hE
      · replace hE := hE.2 c14
        refine xG gb253.2.2.2.2.2.1 ?_
        refine s6 (p := 91) rfl ?_
        refine s4 (x := x5) rfl ?_
        refine s0 ?_
        refine s4 (x := ld I5 112 ((2 * x3) + x4).toNat) rfl ?_
        obtain ⟨g29, hE⟩ := hE
        obtain ⟨g30, hE⟩ := hE
        obtain ⟨e31, k32, hE⟩ := hE
        refine sI rc220 rfl (Nat.le_of_ble_eq_true rfl) ?_
        refine k220 k32 (RM.scr (RM.scr (RM.scr (RM.scr (RM.scr (RM.scr (RM.scr (RM.scr (RM.fr hR q6 rfl rfl (fun _ => rfl)) rfl) rfl) rfl) rfl) rfl) rfl) rfl) rfl) g29 g30 (inRd rfl) (ld_inR _ _ _) (fun I33 q34 q35 => ?_)
        replace hE := hE I33 q34 q35
        refine s79 ?_
        refine xG gb253.2.2.2.2.2.2.1 ?_
        refine s7 (ls' := [.ref 91, .int (oI x1), .int (oI x2), .int (oI x3), .int (oI x4), .int (oI x5), .int (oI x6), .int (oI (ld I5 112 ((2 * x3) + x4).toNat)), .int (oI (fsS A e31 x5 1 (ld I5 112 ((2 * x3) + x4).toNat)))]) (Nat.le_of_ble_eq_true rfl) rfl ?_
        refine s4 (x := fsS A e31 x5 1 (ld I5 112 ((2 * x3) + x4).toNat)) rfl ?_
        refine s0 ?_
        obtain ⟨g36, hE⟩ := hE
        refine s62 g36 (inRd rfl) (fun c37 => ?_) (fun c37 => ?_)
        · replace hE := hE.1 c37
          refine s0 ?_
          refine s60 ?_
          refine xG gb253.2.2.2.2.2.2.2.2 ?_
          refine s80 ?_
          exact rqI_of hE
        · replace hE := hE.2 c37
          refine xG gb253.2.2.2.2.2.2.2.1 ?_
          refine s6 (p := 91) rfl ?_
          refine s51 sh91 (by decide) (by decide) rf91_77 ?_
          refine s6 (p := 91) rfl ?_
          refine s4 (x := x5) rfl ?_
          refine s4 (x := fsS A e31 x5 1 (ld I5 112 ((2 * x3) + x4).toNat)) rfl ?_
          obtain ⟨g38, hE⟩ := hE
          refine sI rc221 rfl (Nat.le_of_ble_eq_true rfl) ?_
          refine k221 q35 g29 g30 g38 (fun I39 q40 q41 => ?_)
          replace hE := hE I39 q40 q41
          obtain ⟨g42, hE⟩ := hE
          refine s40 (v := A 142 (cdS A x5 (fsS A e31 x5 1 (ld I5 112 ((2 * x3) + x4).toNat))).toNat) sh142 g42 rfl (rdM (q41).1 rfl) ?_
          refine s79 ?_
          refine xG gb253.2.2.2.2.2.2.2.2 ?_
          refine s80 ?_
          exact rqI_of hE
    · replace hE := hE.2 c4
      refine s79 ?_
      refine xG gb253.2.1 ?_
      refine s0 ?_
      refine s80 ?_
      exact rqI_of hE
section
variable {d L : Nat} {I I0 : mI} {R : Nat → Nat → Option Nat} {S : List (Nat × Nat)} {Q : Option Value → mM → Prop} {A : aS} {c day known kind half year subj code : Int}
theorem k253 {K : Int32 → mM → Prop} {dd std : Int} (hR : RM I A) (hW : WfA A) (hC : WfC A) (hP : WfP A) (hc : 0 ≤ c ∧ c < A 91 1) (hy : 0 ≤ year ∧ year ≤ 7) (hdd : 0 ≤ dd ∧ dd < 100) (hh : 0 ≤ half ∧ half ≤ 1) (hcd : 0 ≤ code ∧ code ≤ 7) (hst : inR std) (hS : PShut A year known I) (hN : Pnt A c year known I) (hK : ∀ I1, Fr [150, 151] [(91, 87)] I I1 → RM I1 A → K (oI (qtS A c year dd half code std known)) (bd L I1 R S)) : CallI (d + 26) 253 [.ref 91, .int (oI c), .int (oI year), .int (oI dd), .int (oI half), .int (oI code), .int (oI std)] (bd L I R S) K := by
  obtain ⟨p1, p2, p3, p4⟩ := hN.1 dd.toNat (by omega)
  have p5 := hN.2 (2 * dd + half).toNat (by omega)
  have ed : (100 * year + (dd.toNat : Int)) = 100 * year + dd := by omega
  have eh : (200 * year + ((2 * dd + half).toNat : Int)) = 2 * (100 * year + dd) + half := by omega
  rw [ed] at p1 p2 p3 p4
  rw [eh] at p5
  have on := onS_in hW (c := c) (day := 100 * year + dd) (known := known)
  have wp := hP c.toNat (by omega)
  have hW1 := hW.2.1
  obtain ⟨b1, -⟩ := wp
  have d1 : -799 ≤ Int.tdiv (100 * year + dd - A 92 c.toNat) 100 ∧ Int.tdiv (100 * year + dd - A 92 c.toNat) 100 ≤ 2299 := by
    exact tdiv_bd (a := 799) (b := 2299) (by omega) (by omega) (by omega) (by omega)
  refine e253 hR ?_
  rw [p1]
  refine ⟨hdd, fun h => ?_, fun h => ⟨by omega, fun hs => ?_, fun hs => ?_⟩⟩
  · have e : qtS A c year dd half code std known = 0 := by unfold qtS; rw [if_pos (Or.inl h)]
    have := hK I (Fr.refl _ _ _) hR
    rw [e] at this; exact this
  · have sh := hS (onS A c (100 * year + dd) known).toNat dd.toNat (by omega) (by omega)
    rw [ed, show (((onS A c (100 * year + dd) known).toNat : Nat) : Int) = onS A c (100 * year + dd) known by omega] at sh
    rw [show (100 * onS A c (100 * year + dd) known + dd).toNat = 100 * (onS A c (100 * year + dd) known).toNat + dd.toNat by omega, sh] at hs
    have hs2 : spS A 1 (onS A c (100 * year + dd) known) (100 * year + dd) known = false := by
      cases hb : spS A 1 (onS A c (100 * year + dd) known) (100 * year + dd) known
      · rfl
      · rw [hb] at hs; exact absurd hs (by decide)
    have eq : qtS A c year dd half code std known = seS A code (qnS A c year dd half code std known) := by
      unfold qtS; rw [if_neg]; rintro (h1 | h1)
      · exact h h1
      · rw [hs2] at h1; cases h1
    rw [eq] at hK
    intro I5 hf5 hz5
    rw [hf5.ld (a := 113) rfl, hf5.ld (a := 114) rfl, hf5.ld (a := 115) rfl, hf5.ld (a := 112) rfl, p2, p3, p4, p5]
    have hag : inR (max 0 (Int.tdiv (100 * year + dd - A 92 c.toNat) 100)) := ⟨by omega, by omega⟩
    have env := ((((((((EnvI.zero hz5).put (k := 0) hag).put (k := 1) hst).put (k := 2) (v := dd) ⟨by omega, by omega⟩).put (k := 3) (v := year) ⟨by omega, by omega⟩).put (k := 4) (v := half) ⟨by omega, by omega⟩).put (k := 5) (v := if kdS A c (100 * year + dd) known = 0 then 0 else 1) (ite_in (inRd rfl) (inRd rfl))).put (k := 6) (v := bI (spS A 4 c (100 * year + dd) known)) (bI_in _)).put (k := 11) (v := bI (spS A 5 c (100 * year + dd) known)) (bI_in _)
    have b01 : ∀ b : Bool, bI b = 0 ∨ bI b = 1 := fun b => by cases b <;> simp [bI]
    have fr5 : Fr [150, 151] [(91, 87)] I (u2 (u2 (u2 (u2 (u2 (u2 (u2 (u2 I5 150 0 (oI (max 0 (Int.tdiv (((100 * year) + dd) - (A 92 c.toNat)) 100)))) 150 1 (oI std)) 150 2 (oI dd)) 150 3 (oI year)) 150 4 (oI half)) 150 5 (oI (if kdS A c (100 * year + dd) known = 0 then 0 else 1))) 150 6 (oI (bI (spS A 4 c (100 * year + dd) known)))) 150 11 (oI (bI (spS A 5 c (100 * year + dd) known)))) := (((((((((hf5.sub rfl rfl).wr rfl).wr rfl).wr rfl).wr rfl).wr rfl).wr rfl).wr rfl).wr rfl)
    refine ⟨by omega, ⟨by omega, by omega⟩, ⟨by omega, by omega⟩, b01 _, b01 _, by omega, fun hm => ⟨hC, hcd, qE A c year dd half std known, env, fun I1 hf1 hR1 => ?_⟩, fun hm => ⟨hC, hcd, qE A c year dd half std known, env, fun I1 hf1 hR1 => ?_⟩⟩
    · have en : qnS A c year dd half code std known = feS A (qE A c year dd half std known) code (kdS A c (100 * year + dd) known) := by unfold qnS; rw [if_pos hm]
      rw [en] at hK
      rcases feS_prop hC (h := qE A c year dd half std known) (y := code) (kinds := kdS A c (100 * year + dd) known) with h1 | ⟨m, s, h1, h2, h3, h4, h5, -⟩
      · rw [h1] at hK ⊢
        exact ⟨inRd rfl, fun _ => hK I1 (fr5.trans (hf1.sub rfl rfl)) hR1, fun h => absurd rfl h⟩
      · rw [h1] at hK ⊢
        unfold seS at hK
        rw [if_neg (by omega)] at hK
        exact ⟨⟨by omega, by omega⟩, fun h => by exfalso; omega, fun _ => ⟨by omega, fun I2 hf2 hR2 => ⟨by omega, hK I2 (fr5.trans ((hf1.trans hf2).sub rfl rfl)) hR2⟩⟩⟩
    · have en : qnS A c year dd half code std known = fsS A (qE A c year dd half std known) code 1 (mkS A c (2 * (100 * year + dd) + half) known) := by unfold qnS; rw [if_neg hm]
      rw [en] at hK
      rcases fsS_prop hC (h := qE A c year dd half std known) (y := code) (kind := 1) (key := mkS A c (2 * (100 * year + dd) + half) known) with h1 | ⟨m, s, h1, h2, h3, h4, h5, -⟩
      · rw [h1] at hK ⊢
        exact ⟨inRd rfl, fun _ => hK I1 (fr5.trans (hf1.sub rfl rfl)) hR1, fun h => absurd rfl h⟩
      · rw [h1] at hK ⊢
        unfold seS at hK
        rw [if_neg (by omega)] at hK
        exact ⟨⟨by omega, by omega⟩, fun h => by exfalso; omega, fun _ => ⟨by omega, fun I2 hf2 hR2 => ⟨by omega, hK I2 (fr5.trans ((hf1.trans hf2).sub rfl rfl)) hR2⟩⟩⟩
  · have sh := hS (onS A c (100 * year + dd) known).toNat dd.toNat (by omega) (by omega)
    rw [ed, show (((onS A c (100 * year + dd) known).toNat : Nat) : Int) = onS A c (100 * year + dd) known by omega] at sh
    rw [show (100 * onS A c (100 * year + dd) known + dd).toNat = 100 * (onS A c (100 * year + dd) known).toNat + dd.toNat by omega, sh] at hs
    have hs2 : spS A 1 (onS A c (100 * year + dd) known) (100 * year + dd) known = true := by
      cases hb : spS A 1 (onS A c (100 * year + dd) known) (100 * year + dd) known
      · rw [hb] at hs; exact absurd rfl hs
      · rfl
    have e : qtS A c year dd half code std known = 0 := by unfold qtS; rw [if_pos (Or.inr hs2)]
    have := hK I (Fr.refl _ _ _) hR
    rw [e] at this; exact this
end
