/-! the class between calls -/
def mmL : List Nat := [70, 71, 72, 73, 77, 81, 82, 83]
def MmK (I I1 : mI) : Prop := ∀ a k, mmL.contains a = true → I1 a k = I a k
def GrM (I : mI) (A : aS) : Prop := ∀ sc year code kn : Int, 0 ≤ sc → GrK I sc year code kn (ld I 8 9) → GrC A I sc year code kn
def EnM (I : mI) (A : aS) : Prop := ld I 81 0 = 0 ∧ ∀ sc hours : Int, 0 ≤ sc → EnK I sc hours (ld I 8 9) → EnC A sc hours I
def ChM (I : mI) (n : Nat) : Prop := (0 ≤ ld I 8 9 ∧ ld I 8 9 ≤ n) ∧ ld I 70 19 ≤ ld I 8 9 ∧ ld I 77 15 ≤ ld I 8 9
def CX (R : mR) (S : mSh) (I : mI) (A : aS) (n : Nat) : Prop := RC R S I A ∧ GrM I A ∧ EnM I A ∧ ChM I n
section
variable {R : mR} {S : mSh} {I I1 : mI} {A A1 : aS} {n : Nat}
theorem MmK.ld {a k : Nat} (h : MmK I I1) (ha : mmL.contains a = true) : ld I1 a k = ld I a k := by show (I1 a k).toInt = (I a k).toInt; rw [h a k ha]
theorem LinesC.mm {l : List Ln} (h : LinesC I l) (hk : MmK I I1) : LinesC I1 l := by
  refine ⟨(hk.ld rfl).trans h.1, h.2.1, (hk 70 14 rfl).trans h.2.2.1, fun i hi => ?_⟩
  rw [hk.ld rfl, hk.ld rfl, hk.ld rfl]
  exact h.2.2.2 i hi
theorem GrC.mm {sc year code kn : Int} (h : GrC A I sc year code kn) (hk : MmK I I1) : GrC A I1 sc year code kn := by
  refine ⟨h.1.mm hk, ?_⟩
  rw [hk.ld rfl, hk.ld rfl, hk.ld rfl, hk.ld rfl]
  exact h.2
theorem GrK.mm {sc year code kn ch : Int} (h : GrK I1 sc year code kn ch) (hk : MmK I I1) : GrK I sc year code kn ch := by
  unfold GrK at h
  rw [hk.ld rfl, hk.ld rfl, hk.ld rfl, hk.ld rfl, hk.ld rfl] at h
  exact h
theorem EnC.mm {sc hours : Int} (h : EnC A sc hours I) (hk : MmK I I1) : EnC A sc hours I1 := by
  unfold EnC
  rw [hk.ld rfl, hk.ld rfl, hk.ld rfl]
  exact ⟨h.1, h.2.1, h.2.2.1, fun c hc => (hk.ld rfl).trans (h.2.2.2 c hc)⟩
theorem EnK.mm {sc hours ch : Int} (h : EnK I1 sc hours ch) (hk : MmK I I1) : EnK I sc hours ch := by
  unfold EnK at h
  rw [hk.ld rfl, hk.ld rfl, hk.ld rfl] at h
  exact h
theorem CX.up {m : Nat} (h : CX R S I A n) (hm : n ≤ m) : CX R S I A m := ⟨h.1, h.2.1, h.2.2.1, ⟨h.2.2.2.1.1, by have := h.2.2.2.1.2; omega⟩, h.2.2.2.2⟩
theorem ChM.mm (h : ChM I n) (hk : MmK I I1) (h9 : ld I1 8 9 = ld I 8 9) : ChM I1 n := by
  unfold ChM
  rw [h9, hk.ld (a := 70) rfl, hk.ld (a := 77) rfl]
  exact h
theorem CX.mm (h : CX R S I A n) (hr : RC R S I1 A) (hk : MmK I I1) (h9 : ld I1 8 9 = ld I 8 9) : CX R S I1 A n := by
  refine ⟨hr, fun sc year code kn hs hg => ?_, ⟨(hk.ld rfl).trans h.2.2.1.1, fun sc hours hs hg => ?_⟩, h.2.2.2.mm hk h9⟩
  · rw [h9] at hg
    exact (h.2.1 sc year code kn hs (hg.mm hk)).mm hk
  · rw [h9] at hg
    exact (h.2.2.1.2 sc hours hs (hg.mm hk)).mm hk
theorem GrC_rs {sc year code kn : Int} : GrC (rsA A) I sc year code kn = GrC A I sc year code kn := by
  unfold GrC
  rw [gtL_rs, avS_rs, opS_rs, puL_rs, sfS_rs]
  rfl
theorem EnC_rs {sc hours : Int} : EnC (rsA A) sc hours I = EnC A sc hours I := by
  unfold EnC
  simp only [yrT_rs, hrS_rs, wsL_rs, rwN_rs, lfP_rs, enP_rs, stP_rs]
abbrev KoM (A A1 : aS) : Prop := Ko [0, 1, 3, 40, 65, 66] [92, 94, 95, 97, 103, 104, 105, 106, 107, 108, 109, 121, 122, 137, 138, 139, 140, 141, 142, 143, 144, 145, 146, 147, 148, 149] A A1
theorem CX.ko (h : CX R S I A n) (hA : KoM A A1) (hr : RC R S I1 A1) (hk : MmK I I1) (h9 : ld I1 8 9 = ld I 8 9) : CX R S I1 A1 n := by
  have e := rs_eq hA
  refine ⟨hr, fun sc year code kn hs hg => ?_, ⟨(hk.ld rfl).trans h.2.2.1.1, fun sc hours hs hg => ?_⟩, h.2.2.2.mm hk h9⟩
  · rw [h9] at hg
    rw [← GrC_rs, e, GrC_rs]
    exact (h.2.1 sc year code kn hs (hg.mm hk)).mm hk
  · rw [h9] at hg
    rw [← EnC_rs, e, EnC_rs]
    exact (h.2.2.1.2 sc hours hs (hg.mm hk)).mm hk
theorem CX.bump (h : CX R S I A n) (hr : RC R S I1 A1) (hk : MmK I I1) (h9 : ld I1 8 9 = ld I 8 9 + 1) : CX R S I1 A1 (n + 1) := by
  obtain ⟨-, -, ⟨h81, -⟩, ⟨c1, c2⟩, c3, c4⟩ := h
  refine ⟨hr, fun sc year code kn hs hg => ?_, ⟨(hk.ld rfl).trans h81, fun sc hours hs hg => ?_⟩, ⟨by omega, by omega⟩, by rw [hk.ld rfl]; omega, by rw [hk.ld rfl]; omega⟩
  · have := (hg.mm hk).2.2.2.2
    omega
  · have := (hg.mm hk).2.2
    omega
def mmN (ws : List Nat) (os : List (Nat × Nat)) : Bool := ws.all (fun a => !mmL.contains a && !(a == 8)) && os.all (fun q => !mmL.contains q.1 && !(q.1 == 8))
theorem Fr.mm {ws : List Nat} {os : List (Nat × Nat)} (hf : Fr ws os I I1) (hm : mmN ws os = true) : MmK I I1 ∧ ∀ k, I1 8 k = I 8 k := by
  unfold mmN at hm
  simp only [Bool.and_eq_true, List.all_eq_true, Bool.not_eq_true', beq_eq_false_iff_ne] at hm
  have key : ∀ a k, (mmL.contains a = true ∨ a = 8) → I1 a k = I a k := by
    intro a k ha
    refine hf a k ?_
    cases hc : ws.contains a with
    | true =>
      have h1 := hm.1 a (List.contains_iff_mem.mp hc)
      rcases ha with ha | ha
      · rw [h1.1] at ha; cases ha
      · exact absurd ha h1.2
    | false =>
      cases hc2 : os.contains (a, k) with
      | false => rfl
      | true =>
        have h1 := hm.2 (a, k) (List.contains_iff_mem.mp hc2)
        rcases ha with ha | ha
        · dsimp only at h1; rw [h1.1] at ha; cases ha
        · exact absurd ha h1.2
  exact ⟨fun a k ha => key a k (Or.inl ha), fun k => key 8 k (Or.inr rfl)⟩
theorem CX.fr {ws : List Nat} {os : List (Nat × Nat)} (h : CX R S I A n) (hf : Fr ws os I I1) (hw : nkC ws os = true) (hm : mmN ws os = true) : CX R S I1 A n :=
  h.mm (h.1.fr hf hw) (hf.mm hm).1 (by unfold ld; rw [(hf.mm hm).2])
/-! a mirrored cell is written -/
theorem mrA_inj : ∀ q ∈ mrA, (∀ r ∈ mrA, q.2 = r.2 → q.1 = r.1) ∧ ¬ q.2 = 91 := by decide
theorem mrS_inj : ∀ q ∈ mrS, ∀ r ∈ mrS, q.2.2 = r.2.2 → q = r := by decide
theorem mr_cases {a k : Nat} {q : Nat × Nat} (h : mr a k = some q) : (∃ r ∈ mrA, r.1 = a ∧ q = (r.2, k)) ∨ (∃ r ∈ mrS, r.1 = a ∧ r.2.1 = k ∧ q = (91, r.2.2)) := by
  unfold mr at h
  split at h
  · rename_i r hr
    have h2 := List.find?_some hr
    refine Or.inl ⟨r, List.mem_of_find?_eq_some hr, eq_of_beq h2, ?_⟩
    cases h; rfl
  · split at h
    · rename_i r hr
      have h2 := List.find?_some hr
      simp only [Bool.and_eq_true, beq_iff_eq] at h2
      refine Or.inr ⟨r, List.mem_of_find?_eq_some hr, h2.1, h2.2, ?_⟩
      cases h; rfl
    · cases h
theorem mr_inj {a k b j : Nat} {q : Nat × Nat} (h : mr a k = some q) (h2 : mr b j = some q) : b = a ∧ j = k := by
  rcases mr_cases h with ⟨r, r1, r2, r3⟩ | ⟨r, r1, r2, r3, r4⟩ <;> rcases mr_cases h2 with ⟨s, s1, s2, s3⟩ | ⟨s, s1, s2, s3, s4⟩
  · rw [r3] at s3
    injection s3 with e1 e2
    have := (mrA_inj r r1).1 s s1 e1
    omega
  · rw [r3] at s4
    injection s4 with e1 e2
    exact absurd e1 (mrA_inj r r1).2
  · rw [r4] at s3
    injection s3 with e1 e2
    exact absurd e1.symm (mrA_inj s s1).2
  · rw [r4] at s4
    injection s4 with e1 e2
    have := mrS_inj r r1 s s1 e2
    subst this
    omega
theorem RelC0.set {a k a' k' : Nat} {v : Int} (h : RelC0 I A) (hp : mr a k = some (a', k')) (hv : inR v) : RelC0 (u2 I a k (oI v)) (u2 A a' k' v) := by
  intro b j
  have h9 := h b j
  split
  · rename_i q hq
    rw [hq] at h9
    dsimp only at h9 ⊢
    by_cases e : b = a ∧ j = k
    · obtain ⟨rfl, rfl⟩ := e
      rw [hp] at hq
      cases hq
      rw [ld_u2, if_pos ⟨rfl, rfl⟩, toInt_oI hv]
      exact (if_pos ⟨rfl, rfl⟩).symm
    · rw [ld_u2, if_neg e, h9]
      refine (if_neg ?_).symm
      rintro ⟨e1, e2⟩
      have : q = (a', k') := Prod.ext e1 e2
      rw [this] at hq
      exact e (mr_inj hp hq)
  · trivial
theorem RelC0.scr {a k : Nat} {x : Int32} (h : RelC0 I A) (hp : mr a k = none) : RelC0 (u2 I a k x) A := by
  intro b j
  have h9 := h b j
  split
  · rename_i q hq
    rw [hq] at h9
    rw [ld_u2x, if_neg]
    · exact h9
    · rintro ⟨rfl, rfl⟩
      rw [hp] at hq
      cases hq
  · trivial
/-! what a call leaves of the rest -/
def exA : List Nat := [1, 2, 3, 4, 5, 6, 7, 29, 33, 34, 35, 38, 39, 40, 41, 44, 54, 57, 58, 87, 90]
def exB (a k : Nat) : Bool := decide (155 ≤ a) || exA.contains a || [(43, 7), (53, 1), (53, 3)].contains (a, k)
def PKx (I I1 : mI) : Prop := ∀ a k, exB a k = true → I1 a k = I a k
theorem PKx.ld (h : PKx I I1) {a k : Nat} (hp : exB a k = true) : ld I1 a k = ld I a k := by show (I1 a k).toInt = (I a k).toInt; rw [h a k hp]
theorem PKx.refl (I : mI) : PKx I I := fun _ _ _ => rfl
theorem PKx.wr {a k : Nat} {x : Int32} (h : PKx I I1) (hp : exB a k = false) : PKx I (u2 I1 a k x) := by
  intro b j hb
  refine (if_neg ?_ : u2 I1 a k x b j = I1 b j).trans (h b j hb)
  rintro ⟨rfl, rfl⟩
  rw [hp] at hb
  cases hb
theorem MmK.refl (I : mI) : MmK I I := fun _ _ _ => rfl
theorem MmK.wr {a k : Nat} {x : Int32} (h : MmK I I1) (hp : mmL.contains a = false) : MmK I (u2 I1 a k x) := by
  intro b j hb
  refine (if_neg ?_ : u2 I1 a k x b j = I1 b j).trans (h b j hb)
  rintro ⟨rfl, rfl⟩
  rw [hp] at hb
  cases hb
theorem ex_hi {a k : Nat} (h : 155 ≤ a) : exB a k = true := by unfold exB; rw [decide_eq_true h]; rfl
theorem CoC.px (h : CoC R S I A) (hk : PKx I I1) : CoC R S I1 A := by
  obtain ⟨h1, h2, h3, h4, h5, h6⟩ := h
  have e : Ext R S I R S I1 := Ext.same (fun a k ha => hk a k (ex_hi ha))
  refine ⟨fun y n hy hn => ⟨(h1 y n hy hn).1, fun hc => ?_⟩, fun y k hy h => ?_, h3, fun y hy => ?_, ?_, fun a j ha hj => ?_⟩
  · obtain ⟨p, p1, p2⟩ := (h1 y n hy hn).2 hc
    exact ⟨p, p1, p2.ext e⟩
  · rw [hk.ld rfl]; exact h2 y k hy h
  · rw [hk.ld rfl]; exact h4 y hy
  · rw [hk.ld rfl]; exact h5
  · obtain ⟨p, p1, p2⟩ := h6 a j ha hj
    exact ⟨p, p1, p2.ext e⟩
theorem BkC.px (h : BkC I A) (hk : PKx I I1) : BkC I1 A := by
  refine ⟨fun k h9 => ?_, fun o ho => ?_⟩
  · rw [hk.ld rfl, hk.ld rfl, hk.ld rfl, hk.ld rfl, hk.ld rfl]; exact h.1 k h9
  · rw [hk.ld rfl, hk.ld rfl]; exact h.2 o ho
theorem PrC.px (h : PrC I A) (hk : PKx I I1) : PrC I1 A := fun t y ht hy => by rw [hk.ld rfl]; exact h t y ht hy
theorem PoC.px (h : PoC I A) (hk : PKx I I1) : PoC I1 A := ⟨fun c hc => by rw [hk.ld rfl]; exact h.1 c hc, fun b hb => by rw [hk.ld rfl]; exact h.2 b hb⟩
theorem StC.px (h : StC I) (hk : PKx I I1) : StC I1 := ⟨fun k h9 => by rw [hk.ld rfl]; exact h.1 k h9, fun k h9 => by rw [hk.ld rfl]; exact h.2.1 k h9, fun k h9 => by rw [hk.ld rfl, hk.ld rfl]; exact h.2.2.1 k h9, by rw [hk.ld rfl]; exact h.2.2.2.1, by rw [hk.ld rfl]; exact h.2.2.2.2.1, fun k h9 => by rw [hk.ld rfl]; exact h.2.2.2.2.2 k h9⟩
theorem PnC.px (h : PnC R S I) (hk : PKx I I1) : PnC R S I1 := by
  obtain ⟨h0, b, n, h1, h2, h3, h4, h5, h6⟩ := h
  have hb : ∀ j, exB b j = true := fun j => by
    rcases h2 with ⟨rfl, -⟩ | h2
    · rfl
    · exact ex_hi h2.1
  refine ⟨by rw [hk.ld rfl]; exact h0, b, n, h1, h2, h3, h4, fun j => ?_, by rw [hk.ld rfl]; exact h6⟩
  rw [hk.ld (hb j)]; exact h5 j
/-! and another state -/
def cA (A : aS) : aS := fun a k => if dp [65, 66] [137, 138, 139, 140, 141, 142, 143, 144, 145, 146, 147, 148, 149] a k = true then A a k else 0
abbrev KoC (A A1 : aS) : Prop := Ko [65, 66] [137, 138, 139, 140, 141, 142, 143, 144, 145, 146, 147, 148, 149] A A1
theorem ca_eq (h : KoC A A1) : cA A1 = cA A := by
  funext a k
  unfold cA
  split
  · rename_i q; exact h a k q
  · rfl
theorem wT_ca : wT (cA A) = wT A := rfl
theorem stX_ca : stX (cA A) = stX A := by
  funext s
  unfold stX ccT smT whT
  rw [wT_ca]
  rfl
theorem ClO_ca {p s : Nat} : ClO R S I (cA A) p s = ClO R S I A p s := by
  unfold ClO
  rw [wT_ca, stX_ca]
  rfl
theorem CoC.ko (h : CoC R S I A) (hk : KoC A A1) : CoC R S I A1 := by
  obtain ⟨h1, h2, h3, h4, h5, h6⟩ := h
  have e := ca_eq hk
  have ec : cdS A1 = cdS A := funext fun y => funext fun n => cdS_lo hk.cd
  have eo : ∀ p s, ClO R S I A p s → ClO R S I A1 p s := fun p s h => by rw [← ClO_ca, e, ClO_ca]; exact h
  have eK : isK A1 = isK A := by funext y k n; unfold isK; rw [ec, hk.r (a := 140) (fun _ => rfl)]
  have eS : stK A1 = stK A := by
    funext y k
    induction k with
    | zero => rfl
    | succ k ih => show stK A1 y k + cnt (isK A1 y k) 60 = stK A y k + cnt (isK A y k) 60; rw [ih, eK]
  have eC : isC A1 = isC A := by funext y n; unfold isC; rw [ec]
  have eP : prS A1 = prS A := by
    funext k
    induction k with
    | zero => rfl
    | succ k ih => show prS A1 k + (A1 137 k).toNat = prS A k + (A 137 k).toNat; rw [ih, hk 137 k rfl]
  have e65 := hk.s (k := 65) rfl
  have e137 := hk.r (a := 137) (fun _ => rfl)
  have eB : ∀ y, bsY A1 y = bsY A y := fun y => bsY_eq e65 (fun a => hk 138 a rfl)
  refine ⟨fun y n hy hn => ?_, fun y k hy h => by rw [eS, eB]; exact h2 y k hy h, fun y k n hy h1 h9 hb => by rw [eK] at hb ⊢; rw [eS, eB]; exact h3 y k n hy h1 h9 hb, by rw [eC]; exact h4, by rw [eP, e65]; exact h5, fun a j ha hj => ?_⟩
  · rw [ec]
    refine ⟨(h1 y n hy hn).1, fun hc => ?_⟩
    obtain ⟨p, p1, p2⟩ := (h1 y n hy hn).2 hc
    exact ⟨p, p1, eo _ _ p2⟩
  · rw [e65] at ha
    rw [e137] at hj
    obtain ⟨p, p1, p2⟩ := h6 a j ha hj
    exact ⟨p, by rw [eP]; exact p1, eo _ _ p2⟩
abbrev KoB (A A1 : aS) : Prop := Ko [3] [103, 104, 105, 106, 107, 109] A A1
theorem fsO_eq (ho : ownN A1 = ownN A) {o : Int} : ∀ f k, fsO A1 o f k = fsO A o f k
  | 0, _ => rfl
  | f + 1, k => by show (if ownN A1 k = o then (k : Int) else fsO A1 o f (k + 1)) = if ownN A k = o then (k : Int) else fsO A o f (k + 1); rw [ho, fsO_eq ho f (k + 1)]
theorem lsO_eq (ho : ownN A1 = ownN A) {o : Int} : ∀ k, lsO A1 o k = lsO A o k
  | 0 => rfl
  | k + 1 => by show (if ownN A1 k = o then (k : Int) else lsO A1 o k) = if ownN A k = o then (k : Int) else lsO A o k; rw [ho, lsO_eq ho k]
theorem BkC.ko (h : BkC I A) (hk : KoB A A1) : BkC I A1 := by
  have r := fun a h => hk.r (a := a) h
  have eo : ownN A1 = ownN A := by funext k; unfold ownN; rw [r 103 (fun _ => rfl), r 104 (fun _ => rfl)]
  have eN : nN A1 = nN A := by unfold nN; rw [hk.s (k := 3) rfl]
  have ef : fsO A1 = fsO A := by funext o f k; exact fsO_eq eo f k
  have el : lsO A1 = lsO A := by funext o k; exact lsO_eq eo k
  unfold BkC fstO frN vlN
  rw [eo, eN, ef, el, r 103 (fun _ => rfl), r 105 (fun _ => rfl), r 106 (fun _ => rfl), r 107 (fun _ => rfl), r 109 (fun _ => rfl)]
  exact h
abbrev KoP (A A1 : aS) : Prop := Ko [40] [123] A A1
theorem PrC.ko (h : PrC I A) (hk : KoP A A1) : PrC I A1 := by
  unfold PrC
  rw [hk.s (k := 40) rfl, hk.r (a := 123) (fun _ => rfl)]
  exact h
abbrev KoV (A A1 : aS) : Prop := Ko [] [134] A A1
theorem PoC.ko (h : PoC I A) (hk : KoV A A1) : PoC I A1 := by
  have r := hk.r (a := 134) (fun _ => rfl)
  have e1 : vtL A1 = vtL A := by
    funext c n
    induction n with
    | zero => rfl
    | succ n ih => unfold vtL; rw [ih, r]
  have e2 : gvL A1 = gvL A := by
    funext b n
    induction n with
    | zero => rfl
    | succ n ih => unfold gvL; rw [ih, r]
  unfold PoC
  rw [e1, e2]
  exact h
theorem RC.st (h : RC R S I A) (h0 : RelC0 I1 A1) (hx : PKx I I1) (hc : KoC A A1) (hb : KoB A A1) (hp : KoP A A1) (hv : KoV A A1) : RC R S I1 A1 :=
  ⟨h0, (h.2.1.px hx).ko hc, (h.2.2.1.px hx).ko hb, (h.2.2.2.1.px hx).ko hp, (h.2.2.2.2.1.px hx).ko hv, h.2.2.2.2.2.1.px hx, h.2.2.2.2.2.2.px hx⟩
end
