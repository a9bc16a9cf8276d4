section
variable {d L : Nat} {I I0 : mI} {R : mR} {S : mSh} {Q : Option Value → mM → Prop} {A : aS} {c day known kind half year subj code : Int}
theorem bit_add0 : ∀ s : Fin 6, ∀ l : Fin 64, ∀ j : Fin 6, l.val < 2 ^ s.val → (iAnd (iShr ((2 ^ s.val + l.val : Nat) : Int) (j.val : Int)) 1 = 0 ↔ iAnd (iShr (l.val : Int) (j.val : Int)) 1 = 0 ∧ ¬ j.val = s.val) ∧ iAnd (iShr (l.val : Int) (s.val : Int)) 1 = 0 := by decide +kernel
theorem hrL_add {y : Int} {s l : Nat} (hs : s < 6) (hl : l < 2 ^ s) : ∀ k : Nat, k ≤ 6 → hrL A y ((2 ^ s + l : Nat) : Int) k = hrL A y l k + (if s < k then teS A y s else 0)
  | 0, _ => by rw [if_neg (by omega)]; rfl
  | k + 1, hk => by
    have ih := hrL_add (y := y) hs hl k (by omega)
    have h64 : l < 64 := Nat.lt_of_lt_of_le hl (show 2 ^ s ≤ 2 ^ 6 from Nat.pow_le_pow_right (by decide) (by omega))
    have b := bit_add0 ⟨s, hs⟩ ⟨l, h64⟩ ⟨k, by omega⟩ hl
    dsimp only at b
    have e1 : hrL A y ((2 ^ s + l : Nat) : Int) (k + 1) = if iAnd (iShr ((2 ^ s + l : Nat) : Int) k) 1 = 0 then hrL A y ((2 ^ s + l : Nat) : Int) k else hrL A y ((2 ^ s + l : Nat) : Int) k + teS A y k := rfl
    have e2 : hrL A y l (k + 1) = if iAnd (iShr (l : Int) k) 1 = 0 then hrL A y l k else hrL A y l k + teS A y k := rfl
    rw [e1, e2, ih]
    by_cases q : iAnd (iShr (l : Int) k) 1 = 0
    · by_cases e : k = s
      · rw [if_neg (fun h => (b.1.mp h).2 e), if_pos q, if_neg (by omega), if_pos (by omega), e]; omega
      · rw [if_pos (b.1.mpr ⟨q, e⟩), if_pos q]
        by_cases e3 : s < k
        · rw [if_pos e3, if_pos (by omega)]
        · rw [if_neg e3, if_neg (by omega)]
    · have ne : ¬ k = s := fun e => q (by rw [e]; exact b.2)
      rw [if_neg (fun h => q (b.1.mp h).1), if_neg q]
      by_cases e3 : s < k
      · rw [if_pos e3, if_pos (by omega)]; omega
      · rw [if_neg e3, if_neg (by omega)]; omega
theorem hrS_add {y : Int} {s l : Nat} (hs : s < 6) (hl : l < 2 ^ s) : hrS A y ((2 ^ s + l : Nat) : Int) = teS A y s + hrS A y l := by
  unfold hrS
  rw [hrL_add hs hl 6 (Nat.le_refl _), if_pos hs]; omega
theorem hrS_in (hC : WfC A) {y set : Int} : 0 ≤ hrS A y set ∧ hrS A y set ≤ 60000 := by
  have := hrL_in hC (code := y) (set := set) 6
  unfold hrS; omega
theorem shl6 {s : Nat} (hs : s < 6) : iShl 1 s = ((2 ^ s : Nat) : Int) := by
  have h1 : 2 ^ s ≤ 2 ^ 5 := Nat.pow_le_pow_right (by decide) (by omega)
  have e1 := iShl_nat (m := 1) (k := s) (by omega) (by omega)
  rw [Nat.one_mul] at e1
  exact e1
def HrC (A : aS) (y : Int) (n : Nat) (I : mI) : Prop := ∀ t : Nat, t < n → ld I 81 t = hrS A y t
theorem l171_2 {y : Int} {s : Nat} (hWC : WfC A) (hs : s < 6) (hK : ∀ I1 w3 w4 w5, Fr [81] [] I0 I1 → RC R S I1 A → HrC A y (2 ^ (s + 1)) I1 → h171_1 (d + 26) L I1 R S Q y ((s : Int) + 1) w3 w4 w5) : ∀ (n l : Nat) (I : mI), l + n = 2 ^ s → Fr [81] [] I0 I → RC R S I A → HrC A y (2 ^ s + l) I → h171_2 (d + 26) L I R S Q y s ((2 ^ s : Nat) : Int) (teS A y s) l := by
  have h1 : 2 ^ s ≤ 2 ^ 5 := Nat.pow_le_pow_right (by decide) (by omega)
  have h2 : 2 ^ (s + 1) = 2 ^ s + 2 ^ s := by rw [Nat.pow_succ]; omega
  have h0 : 1 ≤ 2 ^ s := Nat.one_le_two_pow
  intro n
  induction n with
  | zero =>
    intro l I hl hf hC hh
    refine e171_2 (d := d + 26) hC ⟨by unfold inR; omega, by unfold inR; omega, fun q => by exfalso; omega, fun _ => hK I _ _ _ hf hC ?_⟩
    rw [h2]
    intro t ht
    exact hh t (by omega)
  | succ n ih =>
    intro l I hl hf hC hh
    have hv := hrS_add (A := A) (y := y) hs (show l < 2 ^ s by omega)
    have hi := hrS_in hWC (y := y) (set := ((2 ^ s + l : Nat) : Int))
    refine e171_2 (d := d + 26) hC ⟨by unfold inR; omega, by unfold inR; omega, fun _ => ⟨by omega, by omega, ?_⟩, fun q => by exfalso; omega⟩
    rw [Int.toNat_natCast, show (((2 ^ s : Nat) : Int) + (l : Int)).toNat = 2 ^ s + l by omega, hh l (by omega), ← hv]
    refine ih (l + 1) _ (by omega) (hf.wr rfl) (hC.scr rfl) (fun t ht => ?_)
    rw [ld_w (by unfold inR; omega)]
    split
    · rename_i e; rw [e]
    · exact hh t (by omega)
theorem l171_1 {y : Int} (hWC : WfC A) (hy : 0 ≤ y ∧ y ≤ 7) (hK : ∀ I1, Fr [81] [] I0 I1 → RC R S I1 A → HrC A y 64 I1 → Q none (bd L I1 R S)) : ∀ (n s : Nat) (I : mI) (w3 w4 w5 : Value), s + n = 6 → Fr [81] [] I0 I → RC R S I A → HrC A y (2 ^ s) I → h171_1 (d + 26) L I R S Q y s w3 w4 w5 := by
  intro n
  induction n with
  | zero =>
    intro s I w3 w4 w5 hs hf hC hh
    obtain rfl : s = 6 := by omega
    exact e171_1 (d := d) hC ⟨by unfold inR; omega, fun q => by exfalso; omega, fun _ => hK I hf hC hh⟩
  | succ n ih =>
    intro s I w3 w4 w5 hs hf hC hh
    have et := tlS_key (A := A) (h := zE) (y := y) (b := 14) (key := (s : Int)) (ow := 1) hWC (by omega) (by omega)
    have et2 : tlS A zE y 142 (iShl 1 s) 1 = teS A y s := et
    refine e171_1 (d := d) hC ⟨by unfold inR; omega, fun _ => ⟨hWC, hy, ?_⟩, fun q => by exfalso; omega⟩
    rw [et2, shl6 (by omega)]
    exact l171_2 (d := d) (I0 := I) hWC (by omega) (fun I1 w3 w4 w5 f1 hC1 h1 => ih (s + 1) I1 _ _ _ (by omega) (hf.trans f1) hC1 h1) (2 ^ s) 0 I (by omega) (Fr.refl _ _ _) hC (fun t ht => hh t (by omega))
theorem k171 {y : Int} {K : mM → Prop} (hC : RC R S I A) (hWC : WfC A) (hy : 0 ≤ y ∧ y ≤ 7) (h0 : ld I 81 0 = 0) (hK : ∀ I1, Fr [81] [] I I1 → RC R S I1 A → HrC A y 64 I1 → K (bd L I1 R S)) : CallV (d + 26) 171 [.ref 77, .int (oI y)] (bd L I R S) K :=
  e171 (d := d + 26) hC (l171_1 (d := d) (I0 := I) hWC hy (fun I1 f1 h1 h2 => rqV_of (hK I1 f1 h1 h2)) 6 0 I _ _ _ rfl (Fr.refl _ _ _) hC (fun t ht => by
    obtain rfl : t = 0 := by have : t < 1 := ht; omega
    rw [h0]; exact hrS_0.symm))
/-! gains -/
noncomputable def gnL (A : aS) (e : Nat → Int) (year s : Int) : Nat → Int
  | 0 => 0
  | n + 1 => if ¬ cdS A year (n + 1 : Nat) = -1 ∧ A 140 (cdS A year (n + 1 : Nat)).toNat = 6 ∧ A 142 (cdS A year (n + 1 : Nat)).toNat = s ∧ hdB A e (cdS A year (n + 1 : Nat)).toNat = true then gnL A e year s n + A 141 (cdS A year (n + 1 : Nat)).toNat else gnL A e year s n
theorem gnL_in (hC : WfC A) {e : Nat → Int} {s : Int} : ∀ n : Nat, 0 ≤ gnL A e year s n ∧ gnL A e year s n ≤ 9999 * n
  | 0 => by show (0 : Int) ≤ 0 ∧ (0 : Int) ≤ 9999 * ((0 : Nat) : Int); omega
  | n + 1 => by
    have ih := gnL_in hC (e := e) (s := s) n
    have e9 : gnL A e year s (n + 1) = if ¬ cdS A year (n + 1 : Nat) = -1 ∧ A 140 (cdS A year (n + 1 : Nat)).toNat = 6 ∧ A 142 (cdS A year (n + 1 : Nat)).toNat = s ∧ hdB A e (cdS A year (n + 1 : Nat)).toNat = true then gnL A e year s n + A 141 (cdS A year (n + 1 : Nat)).toNat else gnL A e year s n := rfl
    rw [e9]
    split
    · rename_i q
      obtain ⟨z, s1, s2, s3, s4, s5, -⟩ := cdS_wf hC q.1
      rw [s1, Int.toNat_natCast] at q ⊢
      have w1 := (s3.2.2 s5).1 (by omega)
      omega
    · omega
theorem l173_2 {y p : Nat} {s : Int} {e : Nat → Int} (hWC : WfC A) (hy : y < 8) (hs : 0 ≤ s ∧ s < 6) (hC : RC R S I A) (hE : EnvC 60 I e) (hK : ∀ w5 w6 w7, h173_1 (d + 25) L (u2 I 84 (s * 7 + p).toNat (oI (gnL A e y s 60))) R S Q s y ((bsY A y + stK A y 6 : Nat) : Int) ((p : Int) + 1) w5 w6 w7) (hp : p ≤ 6) : ∀ (f n : Nat) (w : Value), n + f = 60 → h173_2 (d + 25) L I R S Q s y ((bsY A y + stK A y 6 : Nat) : Int) p (gnL A e y s n) ((bsY A y + stK A y 5 + cnt (isK A y 5) n : Nat) : Int) w := by
  have hst : stK A y 6 = stK A y 5 + cnt (isK A y 5) 60 := rfl
  have hle := stK_le (A := A) (y := y) (k := 6)
  have hbs := bsY_le (A := A) (y := y)
  intro f
  induction f with
  | zero =>
    intro n w hn
    obtain rfl : n = 60 := by omega
    exact e173_2 (d := d + 24) hC ⟨by unfold inR; omega, by unfold inR; omega, fun q => by exfalso; omega, fun _ => ⟨by omega, hK _ _ _⟩⟩
  | succ f ih =>
    intro n w hn
    have eg : gnL A e y s (n + 1) = if ¬ cdS A y (n + 1 : Nat) = -1 ∧ A 140 (cdS A y (n + 1 : Nat)).toNat = 6 ∧ A 142 (cdS A y (n + 1 : Nat)).toNat = s ∧ hdB A e (cdS A y (n + 1 : Nat)).toNat = true then gnL A e y s n + A 141 (cdS A y (n + 1 : Nat)).toNat else gnL A e y s n := rfl
    cases hb : isK A y 5 (n + 1) with
    | false =>
      have e0 : gnL A e y s (n + 1) = gnL A e y s n := by
        rw [eg, if_neg]
        rintro ⟨h1, h2, -⟩
        obtain ⟨z, s1, s2, s3, s4, s5, -⟩ := cdS_wf hWC h1
        rw [s1, Int.toNat_natCast] at h2
        exact seg_not hb s1 (by rw [h2]; rfl)
      rw [← seg_no hb, ← e0]
      exact ih (n + 1) w (by omega)
    | true =>
      obtain ⟨q, z, r1, r2, r3, r4, r5, r6, r7, r8, r9, r10⟩ := seg_yes hC hWC hy (by decide) (by omega) hb
      have h6 := ckd6 r4.2.1 r7
      have cl := r8
      obtain ⟨o1, o2, o3, o4, o5⟩ := r8
      obtain ⟨a1, a2, a3, -⟩ := o5 r6
      have ix : ((bsY A y + stK A y 5 + cnt (isK A y 5) n : Nat) : Int) + 1 = ((bsY A y + stK A y 5 + cnt (isK A y 5) (n + 1) : Nat) : Int) := by rw [r9]; omega
      have w2 := (r4.2.2 r6).2.2.1 h6
      have e3 : cVal (A 140 z) (A 141 z) (A 142 z) = A 141 z := by unfold cVal; rw [if_neg (by omega), if_neg (by omega)]
      rw [r2, Int.toNat_natCast] at eg
      have ih := fun w => ih (n + 1) w (by omega)
      have sk : ∀ w, ¬ (A 142 z = s ∧ hdB A e z = true) → h173_2 (d + 25) L I R S Q s y ((bsY A y + stK A y 6 : Nat) : Int) p (gnL A e y s n) ((bsY A y + stK A y 5 + cnt (isK A y 5) (n + 1) : Nat) : Int) w := fun w hn => by
        have := ih w
        rw [eg, if_neg (fun h => hn h.2.2)] at this
        exact this
      refine e173_2 (d := d + 24) hC ⟨by unfold inR; omega, by unfold inR; omega, fun _ => ⟨by omega, ?_⟩, fun q => by exfalso; omega⟩
      rw [Int.toNat_natCast, r1, ix]
      refine ⟨fun x => absurd x (by simp), fun p' hp' => ?_⟩
      cases hp'
      refine ⟨o1, ?_⟩
      rw [a1, a2, a3, e3]
      have eper : cPer (A 140 z) (A 142 z) = 133 ↔ 0 ≤ A 142 z := by
        unfold cPer; rw [if_pos h6]
        constructor
        · intro x; split at x
          · omega
          · split at x <;> omega
        · intro x; rw [if_neg (by omega), if_neg (by omega)]
      rw [eper]
      refine ⟨fun q1 => ?_, fun q1 => sk _ (by omega)⟩
      rw [show cOf (A 140 z) (A 141 z) (A 142 z) = A 142 z by unfold cOf; rw [if_neg (by omega), if_pos ⟨h6, q1⟩]]
      refine ⟨by unfold inR; omega, fun q2 => ⟨hdB A e z, k190 (d := d) hE cl r6 hC, fun q3 => sk _ ?_, fun q3 => ?_⟩, fun q2 => sk _ (fun h => q2 h.1)⟩
      · rintro ⟨-, hv⟩; rw [hv] at q3; exact absurd q3 (by decide)
      · have hv : hdB A e z = true := by
          cases hv : hdB A e z
          · rw [hv] at q3; exact absurd rfl q3
          · rfl
        have := ih (.ref q)
        rw [eg, if_pos ⟨by omega, h6, q2, hv⟩] at this
        exact this
theorem putE_same {h : Nat → Int} {k : Nat} {x y : Int} : putE (putE h k x) k y = putE h k y := by
  funext i; unfold putE; split <;> rfl
theorem l173_1 {y : Nat} {s : Int} {e : Nat → Int} (hWC : WfC A) (hy : y < 8) (hs : 0 ≤ s ∧ s < 6) (hK : ∀ I1, Fr [60, 84] [] I0 I1 → RC R S I1 A → (∃ v, EnvC 60 I1 (putE e 7 v)) → (∀ q : Nat, 1 ≤ q → q ≤ 6 → ld I1 84 (7 * s.toNat + q) = gnL A (putE e 7 q) y s 60) → (∀ j : Nat, j < 7 * s.toNat → ld I1 84 j = ld I0 84 j) → Q none (bd L I1 R S)) : ∀ (n p : Nat) (I : mI) (w5 w6 w7 : Value), p + n = 7 → 1 ≤ p → Fr [60, 84] [] I0 I → RC R S I A → (∃ v, EnvC 60 I (putE e 7 v)) → (∀ q : Nat, 1 ≤ q → q < p → ld I 84 (7 * s.toNat + q) = gnL A (putE e 7 q) y s 60) → (∀ j : Nat, j < 7 * s.toNat → ld I 84 j = ld I0 84 j) → h173_1 (d + 25) L I R S Q s y ((bsY A y + stK A y 6 : Nat) : Int) p w5 w6 w7 := by
  intro n
  induction n with
  | zero =>
    intro p I w5 w6 w7 hp h1 hf hC hE hq hj
    exact e173_1 (d := d + 24) hC ⟨by unfold inR; omega, fun _ => hK I hf hC hE (fun q a b => hq q a (by omega)) hj, fun q => by exfalso; omega⟩
  | succ n ih =>
    intro p I w5 w6 w7 hp h1 hf hC hE hq hj
    obtain ⟨v, hE⟩ := hE
    have rp : inR (p : Int) := by unfold inR; omega
    have hE2 := hE.put (k := 7) (j := 7) (by decide) rp (by decide)
    rw [putE_same] at hE2
    have gi := gnL_in hWC (year := (y : Int)) (e := putE e 7 p) (s := s) 60
    have rg : inR (gnL A (putE e 7 p) y s 60) := by unfold inR; omega
    refine e173_1 (d := d + 24) hC ⟨by unfold inR; omega, fun q => by exfalso; omega, fun _ => ⟨by omega, ?_⟩⟩
    rw [show ((y : Int) * 16 + 135 - 130).toNat = 16 * y + 5 by omega, hC.2.1.2.1 y 5 hy (by decide)]
    refine l173_2 (d := d) (e := putE e 7 p) hWC hy hs (hC.scr rfl) hE2 (fun w5 w6 w7 => ?_) (by omega) 60 0 _ rfl
    have f2 : Fr [60, 84] [] I0 (u2 (u2 I 60 7 (oI (p : Int))) 84 (s * 7 + p).toNat (oI (gnL A (putE e 7 p) y s 60))) := (hf.wr rfl).wr rfl
    have := ih (p + 1) (u2 (u2 I 60 7 (oI (p : Int))) 84 (s * 7 + p).toNat (oI (gnL A (putE e 7 p) y s 60))) w5 w6 w7 (by omega) (by omega) f2 ((hC.scr rfl).scr rfl) ⟨p, hE2.fr (frA _ 84 _ _) (fun _ => rfl)⟩ (fun q a b => ?_) (fun j hj2 => ?_)
    · rw [show ((p + 1 : Nat) : Int) = (p : Int) + 1 by omega] at this; exact this
    · rw [ld_w rg]
      by_cases e1 : q = p
      · rw [if_pos (by omega), e1]
      · rw [if_neg (by omega), ld_o (by decide)]; exact hq q a (by omega)
    · rw [ld_w rg, if_neg (by omega), ld_o (by decide)]; exact hj j hj2
theorem k173 {y s : Int} {e : Nat → Int} {K : mM → Prop} (hC : RC R S I A) (hWC : WfC A) (hy : 0 ≤ y ∧ y ≤ 7) (hs : 0 ≤ s ∧ s < 6) (hE : ∃ v, EnvC 60 I (putE e 7 v)) (hK : ∀ I1, Fr [60, 84] [] I I1 → RC R S I1 A → (∃ v, EnvC 60 I1 (putE e 7 v)) → (∀ q : Nat, 1 ≤ q → q ≤ 6 → ld I1 84 (7 * s.toNat + q) = gnL A (putE e 7 q) y s 60) → (∀ j : Nat, j < 7 * s.toNat → ld I1 84 j = ld I 84 j) → K (bd L I1 R S)) : CallV (d + 25) 173 [.ref 77, .int (oI s), .int (oI y)] (bd L I R S) K := by
  obtain ⟨y, rfl⟩ : ∃ n : Nat, y = n := ⟨y.toNat, by omega⟩
  refine e173 (d := d + 24) hC ⟨by omega, ?_⟩
  rw [show ((y : Int) * 16 + 135 - 130 + 1).toNat = 16 * y + 6 by omega, hC.2.1.2.1 y 6 (by omega) (by omega)]
  exact l173_1 (d := d) (I0 := I) hWC (by omega) hs (fun I1 a b c q1 q2 => rqV_of (hK I1 a b c q1 q2)) 6 1 I _ _ _ rfl (Nat.le_refl _) (Fr.refl _ _ _) hC hE (fun q a b => by omega) (fun _ _ => rfl)
/-! what a set brings -/
noncomputable def gsL (A : aS) (e : Nat → Int) (c year set : Int) (n : Nat) : Nat → Int
  | 0 => 0
  | s + 1 => if iAnd (iShr set s) 1 = 0 then gsL A e c year set n s else gsL A e c year set n s + gnL A (putE (putE e 9 s) 10 (A 97 (6 * c + s).toNat)) year s n
theorem gsL_0 {e : Nat → Int} {set : Int} : ∀ s, gsL A e c year set 0 s = 0
  | 0 => rfl
  | s + 1 => by
    show (if iAnd (iShr set s) 1 = 0 then gsL A e c year set 0 s else gsL A e c year set 0 s + gnL A (putE (putE e 9 s) 10 (A 97 (6 * c + s).toNat)) year s 0) = 0
    rw [gsL_0 s, show gnL A (putE (putE e 9 s) 10 (A 97 (6 * c + s).toNat)) year s 0 = 0 from rfl]; split <;> rfl
theorem gsL_n {e : Nat → Int} {set : Int} {n : Nat} : ∀ s, gsL A e c year set (n + 1) s = gsL A e c year set n s + (if ¬ cdS A year (n + 1 : Nat) = -1 ∧ A 140 (cdS A year (n + 1 : Nat)).toNat = 6 ∧ (0 ≤ A 142 (cdS A year (n + 1 : Nat)).toNat ∧ A 142 (cdS A year (n + 1 : Nat)).toNat < s) ∧ ¬ iAnd (iShr set (A 142 (cdS A year (n + 1 : Nat)).toNat)) 1 = 0 ∧ hdB A (putE (putE e 9 (A 142 (cdS A year (n + 1 : Nat)).toNat)) 10 (A 97 (6 * c + A 142 (cdS A year (n + 1 : Nat)).toNat).toNat)) (cdS A year (n + 1 : Nat)).toNat = true then A 141 (cdS A year (n + 1 : Nat)).toNat else 0)
  | 0 => by rw [if_neg (by omega)]; rfl
  | s + 1 => by
    have ih := gsL_n (e := e) (set := set) (n := n) s
    have e1 : gsL A e c year set (n + 1) (s + 1) = if iAnd (iShr set s) 1 = 0 then gsL A e c year set (n + 1) s else gsL A e c year set (n + 1) s + gnL A (putE (putE e 9 s) 10 (A 97 (6 * c + s).toNat)) year s (n + 1) := rfl
    have e2 : gsL A e c year set n (s + 1) = if iAnd (iShr set s) 1 = 0 then gsL A e c year set n s else gsL A e c year set n s + gnL A (putE (putE e 9 s) 10 (A 97 (6 * c + s).toNat)) year s n := rfl
    have e3 : gnL A (putE (putE e 9 s) 10 (A 97 (6 * c + s).toNat)) year s (n + 1) = if ¬ cdS A year (n + 1 : Nat) = -1 ∧ A 140 (cdS A year (n + 1 : Nat)).toNat = 6 ∧ A 142 (cdS A year (n + 1 : Nat)).toNat = s ∧ hdB A (putE (putE e 9 s) 10 (A 97 (6 * c + s).toNat)) (cdS A year (n + 1 : Nat)).toNat = true then gnL A (putE (putE e 9 s) 10 (A 97 (6 * c + s).toNat)) year s n + A 141 (cdS A year (n + 1 : Nat)).toNat else gnL A (putE (putE e 9 s) 10 (A 97 (6 * c + s).toNat)) year s n := rfl
    by_cases q : A 142 (cdS A year (n + 1 : Nat)).toNat = s
    · have hno : ¬ (¬ cdS A year (n + 1 : Nat) = -1 ∧ A 140 (cdS A year (n + 1 : Nat)).toNat = 6 ∧ (0 ≤ A 142 (cdS A year (n + 1 : Nat)).toNat ∧ A 142 (cdS A year (n + 1 : Nat)).toNat < s) ∧ ¬ iAnd (iShr set (A 142 (cdS A year (n + 1 : Nat)).toNat)) 1 = 0 ∧ hdB A (putE (putE e 9 (A 142 (cdS A year (n + 1 : Nat)).toNat)) 10 (A 97 (6 * c + A 142 (cdS A year (n + 1 : Nat)).toNat).toNat)) (cdS A year (n + 1 : Nat)).toNat = true) := fun h => by have := h.2.2.1.2; omega
      rw [if_neg hno, Int.add_zero] at ih
      rw [e1, e2, ih]
      by_cases b : iAnd (iShr set s) 1 = 0
      · rw [if_pos b, if_pos b, if_neg (fun h => h.2.2.2.1 (by rw [q]; exact b)), Int.add_zero]
      · rw [if_neg b, if_neg b, e3]
        by_cases h : ¬ cdS A year (n + 1 : Nat) = -1 ∧ A 140 (cdS A year (n + 1 : Nat)).toNat = 6 ∧ hdB A (putE (putE e 9 s) 10 (A 97 (6 * c + s).toNat)) (cdS A year (n + 1 : Nat)).toNat = true
        · rw [if_pos ⟨h.1, h.2.1, q, h.2.2⟩, if_pos ⟨h.1, h.2.1, by omega, by rw [q]; exact b, by rw [q]; exact h.2.2⟩]; omega
        · rw [if_neg (fun h' => h ⟨h'.1, h'.2.1, h'.2.2.2⟩), if_neg (fun h' => h ⟨h'.1, h'.2.1, by have := h'.2.2.2.2; rw [q] at this; exact this⟩)]; omega
    · have e4 : gnL A (putE (putE e 9 s) 10 (A 97 (6 * c + s).toNat)) year s (n + 1) = gnL A (putE (putE e 9 s) 10 (A 97 (6 * c + s).toNat)) year s n := by rw [e3, if_neg (fun h => q h.2.2.1)]
      rw [e1, e2, e4]
      by_cases h : ¬ cdS A year (n + 1 : Nat) = -1 ∧ A 140 (cdS A year (n + 1 : Nat)).toNat = 6 ∧ (0 ≤ A 142 (cdS A year (n + 1 : Nat)).toNat ∧ A 142 (cdS A year (n + 1 : Nat)).toNat < s) ∧ ¬ iAnd (iShr set (A 142 (cdS A year (n + 1 : Nat)).toNat)) 1 = 0 ∧ hdB A (putE (putE e 9 (A 142 (cdS A year (n + 1 : Nat)).toNat)) 10 (A 97 (6 * c + A 142 (cdS A year (n + 1 : Nat)).toNat).toNat)) (cdS A year (n + 1 : Nat)).toNat = true
      · rw [if_pos h] at ih
        rw [if_pos (c := ¬ cdS A year (n + 1 : Nat) = -1 ∧ _) ⟨h.1, h.2.1, by have := h.2.2.1; omega, h.2.2.2⟩, ih]
        by_cases b : iAnd (iShr set s) 1 = 0
        · rw [if_pos b, if_pos b]
        · rw [if_neg b, if_neg b]; omega
      · rw [if_neg h] at ih
        rw [if_neg (c := ¬ cdS A year (n + 1 : Nat) = -1 ∧ _) (fun h' => h ⟨h'.1, h'.2.1, by have := h'.2.2.1; omega, h'.2.2.2⟩), ih]
        by_cases b : iAnd (iShr set s) 1 = 0
        · rw [if_pos b, if_pos b]
        · rw [if_neg b, if_neg b]; omega
theorem br_gs {e : Nat → Int} {set : Int} : ∀ n, brL A e c year set n = gsL A e c year set n 6
  | 0 => by rw [gsL_0]; rfl
  | n + 1 => by
    have ih := br_gs (e := e) (set := set) n
    have e1 : brL A e c year set (n + 1) = if ¬ cdS A year (n + 1 : Nat) = -1 ∧ A 140 (cdS A year (n + 1 : Nat)).toNat = 6 ∧ (0 ≤ A 142 (cdS A year (n + 1 : Nat)).toNat ∧ A 142 (cdS A year (n + 1 : Nat)).toNat ≤ 5) ∧ ¬ iAnd (iShr set (A 142 (cdS A year (n + 1 : Nat)).toNat)) 1 = 0 ∧ hdB A (putE (putE e 9 (A 142 (cdS A year (n + 1 : Nat)).toNat)) 10 (A 97 (6 * c + A 142 (cdS A year (n + 1 : Nat)).toNat).toNat)) (cdS A year (n + 1 : Nat)).toNat = true then brL A e c year set n + A 141 (cdS A year (n + 1 : Nat)).toNat else brL A e c year set n := rfl
    rw [e1, gsL_n, ← ih]
    by_cases h : ¬ cdS A year (n + 1 : Nat) = -1 ∧ A 140 (cdS A year (n + 1 : Nat)).toNat = 6 ∧ (0 ≤ A 142 (cdS A year (n + 1 : Nat)).toNat ∧ A 142 (cdS A year (n + 1 : Nat)).toNat ≤ 5) ∧ ¬ iAnd (iShr set (A 142 (cdS A year (n + 1 : Nat)).toNat)) 1 = 0 ∧ hdB A (putE (putE e 9 (A 142 (cdS A year (n + 1 : Nat)).toNat)) 10 (A 97 (6 * c + A 142 (cdS A year (n + 1 : Nat)).toNat).toNat)) (cdS A year (n + 1 : Nat)).toNat = true
    · rw [if_pos h, if_pos ⟨h.1, h.2.1, by have := h.2.2.1; omega, h.2.2.2⟩]
    · rw [if_neg h, if_neg (fun h' => h ⟨h'.1, h'.2.1, by have := h'.2.2.1; omega, h'.2.2.2⟩), Int.add_zero]
end
