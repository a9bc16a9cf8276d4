section
variable {d L : Nat} {I : mI} {R : mR} {S : mSh} {Q : Option Value → mM → Prop} {h : Nat → Int} {x : Int}
theorem lfa60 {q : Nat} {l : Lf} (hE : EnvC 60 I h) (hn : NLf R S I q l) (hx : 0 ≤ x ∧ x ≤ 40) : R195a60 (d + 1) L I R S q x (lfB h l) := by
  intro K hK
  obtain ⟨h1, h2, h3, h4, -, h6, h7, h8⟩ := hn
  have hp := pcN_in h6
  have e : ld I 60 (pcN l.1).toNat = h l.1.toNat := by
    have := hE l.1.toNat (by omega)
    rwa [show ((l.1.toNat : Nat) : Int) = l.1 by omega] at this
  refine e195a60 ⟨by unfold inR; omega, fun c => absurd c (by omega), fun _ => ⟨h1, ?_⟩⟩
  rw [h2, h3, h4]
  rw [show 144 + pcN l.1 - 144 = pcN l.1 by omega, e]
  have k1 : ∀ b : Bool, lfB h l = b → K (oI (bI b)) (bd L I R S) := fun b hb => by rw [← hb]; exact hK
  unfold lfB at k1
  refine ⟨fun c => absurd c (by omega), fun c => absurd c (by omega), fun c => absurd c (by omega), fun _ => ⟨by unfold inR; omega, fun c => absurd c (by omega), fun _ => ⟨fun _ => ⟨hp, fun c => ⟨fun c2 => ?_, fun c2 => ?_⟩, fun c => ⟨fun c1 => ⟨fun c2 => ?_, fun c2 => ?_⟩, fun c1 => ⟨fun c2 => ?_, fun c2 => ?_⟩⟩⟩, fun c => absurd hp.2 c⟩⟩⟩
  · exact k1 true (by rw [if_pos c, decide_eq_true c2])
  · exact k1 false (by rw [if_pos c, decide_eq_false c2])
  · exact k1 true (by rw [if_neg c, if_pos c1, decide_eq_true c2])
  · exact k1 false (by rw [if_neg c, if_pos c1, decide_eq_false c2])
  · exact k1 true (by rw [if_neg c, if_neg c1, decide_eq_true c2])
  · exact k1 false (by rw [if_neg c, if_neg c1, decide_eq_false c2])
theorem ora60 {α : Type} {P : Nat → α → Prop} {f : α → Bool} (hP : ∀ q a, P q a → obJ S q 16 5 ∧ R195a60 d L I R S q (x + 1) (f a)) : ∀ (l : List α) (o : Option Nat) (w w4 : Value), NCh P R l o → Q (some (.int (oI (bI (l.any f))))) (bd L I R S) → h195_4a60 (d + 1) L I R S Q w x o w4
  | [], o, w, w4, hn, hQ => by
    have hn : o = none := hn
    subst hn
    exact e195_4a60 ⟨fun _ => hQ, fun p h => absurd h (by simp)⟩
  | a :: l, o, w, w4, hn, hQ => by
    obtain ⟨q, rfl, h2, h3⟩ := hn
    refine e195_4a60 ⟨fun h => absurd h (by simp), fun p h => ?_⟩
    cases h
    obtain ⟨h4, h5⟩ := hP q a h2
    refine ⟨h4, f a, h5, bI_in _, fun c => ?_, fun c => ?_⟩
    · have e : f a = false := by cases hb : f a; rfl; rw [hb] at c; exact absurd c (by decide)
      refine ora60 hP l _ _ _ h3 ?_
      rw [show (a :: l).any f = l.any f by rw [List.any_cons, e, Bool.false_or]] at hQ
      exact hQ
    · have e : f a = true := by cases hb : f a; rw [hb] at c; exact absurd rfl c; rfl
      rw [show (a :: l).any f = true by rw [List.any_cons, e, Bool.true_or]] at hQ
      exact hQ
theorem ana60 {α : Type} {P : Nat → α → Prop} {f : α → Bool} (hP : ∀ q a, P q a → obJ S q 16 5 ∧ R195a60 d L I R S q (x + 1) (f a)) : ∀ (l : List α) (o : Option Nat) (w w4 : Value), NCh P R l o → Q (some (.int (oI (bI (l.all f))))) (bd L I R S) → h195_8a60 (d + 1) L I R S Q w x o w4
  | [], o, w, w4, hn, hQ => by
    have hn : o = none := hn
    subst hn
    exact e195_8a60 ⟨fun _ => hQ, fun p h => absurd h (by simp)⟩
  | a :: l, o, w, w4, hn, hQ => by
    obtain ⟨q, rfl, h2, h3⟩ := hn
    refine e195_8a60 ⟨fun h => absurd h (by simp), fun p h => ?_⟩
    cases h
    obtain ⟨h4, h5⟩ := hP q a h2
    refine ⟨h4, f a, h5, bI_in _, fun c => ?_, fun c => ?_⟩
    · have e : f a = false := by cases hb : f a; rfl; rw [hb] at c; exact absurd c (by decide)
      rw [show (a :: l).all f = false by rw [List.all_cons, e, Bool.false_and]] at hQ
      exact hQ
    · have e : f a = true := by cases hb : f a; rw [hb] at c; exact absurd rfl c; rfl
      refine ana60 hP l _ _ _ h3 ?_
      rw [show (a :: l).all f = l.all f by rw [List.all_cons, e, Bool.true_and]] at hQ
      exact hQ
theorem jna60 {α : Type} {P : Nat → α → Prop} {f : α → Bool} {q c : Nat} {l : List α} (hP : ∀ q a, P q a → obJ S q 16 5) (hx : 0 ≤ x ∧ x + 1 + c ≤ 40) (hR : ∀ q a, P q a → ∀ (d : Nat) (x : Int), 0 ≤ x ∧ x + c ≤ 40 → R195a60 (d + (c + 1)) L I R S q x (f a)) (hn : NJn 164 P R S I q l) : R195a60 (d + (c + 2)) L I R S q x (l.all f) := by
  rcases hn with ⟨a, rfl, h⟩ | ⟨-, h1, h2, h3⟩
  · have e : [a].all f = f a := by simp
    rw [e]
    exact hR q a h (d + 1) x ⟨hx.1, by omega⟩ |> fun k => by rw [show d + (c + 2) = d + 1 + (c + 1) by omega]; exact k
  · intro K hK
    refine e195a60 (d := d + (c + 1)) ⟨by unfold inR; omega, fun k => absurd k (by omega), fun _ => ⟨h1, ?_⟩⟩
    rw [h2]
    refine ⟨fun k => absurd k (by decide), fun _ => ?_, fun k => absurd k (by decide), fun k => absurd rfl k.2.1⟩
    exact ana60 (fun q a ha => ⟨hP q a ha, hR q a ha d (x + 1) ⟨by omega, by omega⟩⟩) l _ _ _ h3 (rqI_of hK)
theorem jno60 {α : Type} {P : Nat → α → Prop} {f : α → Bool} {q c : Nat} {l : List α} (hP : ∀ q a, P q a → obJ S q 16 5) (hx : 0 ≤ x ∧ x + 1 + c ≤ 40) (hR : ∀ q a, P q a → ∀ (d : Nat) (x : Int), 0 ≤ x ∧ x + c ≤ 40 → R195a60 (d + (c + 1)) L I R S q x (f a)) (hn : NJn 163 P R S I q l) : R195a60 (d + (c + 2)) L I R S q x (l.any f) := by
  rcases hn with ⟨a, rfl, h⟩ | ⟨-, h1, h2, h3⟩
  · have e : [a].any f = f a := by simp
    rw [e]
    exact hR q a h (d + 1) x ⟨hx.1, by omega⟩ |> fun k => by rw [show d + (c + 2) = d + 1 + (c + 1) by omega]; exact k
  · intro K hK
    refine e195a60 (d := d + (c + 1)) ⟨by unfold inR; omega, fun k => absurd k (by omega), fun _ => ⟨h1, ?_⟩⟩
    rw [h2]
    refine ⟨fun _ => ?_, fun k => absurd k (by decide), fun k => absurd k (by decide), fun k => absurd rfl k.1⟩
    exact ora60 (fun q a ha => ⟨hP q a ha, hR q a ha d (x + 1) ⟨by omega, by omega⟩⟩) l _ _ _ h3 (rqI_of hK)
theorem one60 (hE : EnvC 60 I h) : ∀ (n : Nat) (q : Nat) (o : One n), NOne R S I n q o → ∀ (d : Nat) (x : Int), 0 ≤ x ∧ x + (2 * n : Nat) ≤ 40 → R195a60 (d + (2 * n + 1)) L I R S q x (tvO h n o)
  | 0, q, o, hn, d, x, hx => lfa60 hE hn (by omega)
  | n + 1, q, .inl l, hn, d, x, hx => by
    have := lfa60 (d := d + (2 * n + 2)) (L := L) hE hn (x := x) (by omega)
    exact this
  | n + 1, q, .inr (.inl o), hn, d, x, hx => by
    obtain ⟨h1, h2, q1, h3, -, h5⟩ := hn
    have ih := one60 hE n q1 o h5 (d + 1) (x + 1) (by omega)
    intro K hK
    refine e195a60 (d := d + (2 * n + 2)) ⟨by unfold inR; omega, fun k => absurd k (by omega), fun _ => ⟨h1, ?_⟩⟩
    rw [h2, h3]
    refine ⟨fun k => absurd k (by decide), fun k => absurd k (by decide), fun _ => ⟨q1, rfl, NOne.ob n q1 o h5, ?_⟩, fun k => absurd rfl k.2.2⟩
    have hK2 : K (oI (bI (!tvO h n o))) (bd L I R S) := hK
    refine ⟨tvO h n o, by rw [show d + (2 * n + 2) = d + 1 + (2 * n + 1) by omega]; exact ih, bI_in _, fun c => ?_, fun c => ?_⟩
    · have e : tvO h n o = false := by cases hb : tvO h n o; rfl; rw [hb] at c; exact absurd c (by decide)
      rw [e] at hK2; exact hK2
    · have e : tvO h n o = true := by cases hb : tvO h n o; rw [hb] at c; exact absurd rfl c; rfl
      rw [e] at hK2; exact hK2
  | n + 1, q, .inr (.inr t), hn, d, x, hx => by
    have hn2 : NJn 163 (NJn 164 (NOne R S I n) R S I) R S I q t := hn
    have := jno60 (d := d) (L := L) (x := x) (c := 2 * n + 1) (f := fun (al : List (One n)) => al.all (tvO h n)) (fun q a ha => NJn.ob ha (fun q x hx => NOne.ob n q x hx)) (by omega) (fun q a ha d x hx => jna60 (c := 2 * n) (f := tvO h n) (fun q x hx => NOne.ob n q x hx) (by omega) (fun q a ha d x hx => one60 hE n q a ha d x (by omega)) ha) hn2
    exact this
theorem any60 (hE : EnvC 60 I h) {q : Nat} {t : Any 10} (hn : NAny R S I 10 q t) : R195a60 (d + 23) L I R S q 0 (tvA h 10 t) :=
  jno60 (d := d) (c := 21) (f := fun (al : List (One 10)) => al.all (tvO h 10)) (fun q a ha => NJn.ob ha (fun q x hx => NOne.ob 10 q x hx)) (by omega) (fun q a ha d x hx => jna60 (c := 20) (f := tvO h 10) (fun q x hx => NOne.ob 10 q x hx) (by omega) (fun q a ha d x hx => one60 hE 10 q a ha d x (by omega)) ha) hn
end
section
variable {d L : Nat} {I : mI} {R : mR} {S : mSh} {Q : Option Value → mM → Prop} {h : Nat → Int} {x : Int}
theorem lfa58 {q : Nat} {l : Lf} (hE : EnvC 58 I h) (hn : NLf R S I q l) (hx : 0 ≤ x ∧ x ≤ 40) : R195a58 (d + 1) L I R S q x (lfB h l) := by
  intro K hK
  obtain ⟨h1, h2, h3, h4, -, h6, h7, h8⟩ := hn
  have hp := pcN_in h6
  have e : ld I 58 (pcN l.1).toNat = h l.1.toNat := by
    have := hE l.1.toNat (by omega)
    rwa [show ((l.1.toNat : Nat) : Int) = l.1 by omega] at this
  refine e195a58 ⟨by unfold inR; omega, fun c => absurd c (by omega), fun _ => ⟨h1, ?_⟩⟩
  rw [h2, h3, h4]
  rw [show 144 + pcN l.1 - 144 = pcN l.1 by omega, e]
  have k1 : ∀ b : Bool, lfB h l = b → K (oI (bI b)) (bd L I R S) := fun b hb => by rw [← hb]; exact hK
  unfold lfB at k1
  refine ⟨fun c => absurd c (by omega), fun c => absurd c (by omega), fun c => absurd c (by omega), fun _ => ⟨by unfold inR; omega, fun c => absurd c (by omega), fun _ => ⟨fun _ => ⟨hp, fun c => ⟨fun c2 => ?_, fun c2 => ?_⟩, fun c => ⟨fun c1 => ⟨fun c2 => ?_, fun c2 => ?_⟩, fun c1 => ⟨fun c2 => ?_, fun c2 => ?_⟩⟩⟩, fun c => absurd hp.2 c⟩⟩⟩
  · exact k1 true (by rw [if_pos c, decide_eq_true c2])
  · exact k1 false (by rw [if_pos c, decide_eq_false c2])
  · exact k1 true (by rw [if_neg c, if_pos c1, decide_eq_true c2])
  · exact k1 false (by rw [if_neg c, if_pos c1, decide_eq_false c2])
  · exact k1 true (by rw [if_neg c, if_neg c1, decide_eq_true c2])
  · exact k1 false (by rw [if_neg c, if_neg c1, decide_eq_false c2])
theorem ora58 {α : Type} {P : Nat → α → Prop} {f : α → Bool} (hP : ∀ q a, P q a → obJ S q 16 5 ∧ R195a58 d L I R S q (x + 1) (f a)) : ∀ (l : List α) (o : Option Nat) (w w4 : Value), NCh P R l o → Q (some (.int (oI (bI (l.any f))))) (bd L I R S) → h195_4a58 (d + 1) L I R S Q w x o w4
  | [], o, w, w4, hn, hQ => by
    have hn : o = none := hn
    subst hn
    exact e195_4a58 ⟨fun _ => hQ, fun p h => absurd h (by simp)⟩
  | a :: l, o, w, w4, hn, hQ => by
    obtain ⟨q, rfl, h2, h3⟩ := hn
    refine e195_4a58 ⟨fun h => absurd h (by simp), fun p h => ?_⟩
    cases h
    obtain ⟨h4, h5⟩ := hP q a h2
    refine ⟨h4, f a, h5, bI_in _, fun c => ?_, fun c => ?_⟩
    · have e : f a = false := by cases hb : f a; rfl; rw [hb] at c; exact absurd c (by decide)
      refine ora58 hP l _ _ _ h3 ?_
      rw [show (a :: l).any f = l.any f by rw [List.any_cons, e, Bool.false_or]] at hQ
      exact hQ
    · have e : f a = true := by cases hb : f a; rw [hb] at c; exact absurd rfl c; rfl
      rw [show (a :: l).any f = true by rw [List.any_cons, e, Bool.true_or]] at hQ
      exact hQ
theorem ana58 {α : Type} {P : Nat → α → Prop} {f : α → Bool} (hP : ∀ q a, P q a → obJ S q 16 5 ∧ R195a58 d L I R S q (x + 1) (f a)) : ∀ (l : List α) (o : Option Nat) (w w4 : Value), NCh P R l o → Q (some (.int (oI (bI (l.all f))))) (bd L I R S) → h195_8a58 (d + 1) L I R S Q w x o w4
  | [], o, w, w4, hn, hQ => by
    have hn : o = none := hn
    subst hn
    exact e195_8a58 ⟨fun _ => hQ, fun p h => absurd h (by simp)⟩
  | a :: l, o, w, w4, hn, hQ => by
    obtain ⟨q, rfl, h2, h3⟩ := hn
    refine e195_8a58 ⟨fun h => absurd h (by simp), fun p h => ?_⟩
    cases h
    obtain ⟨h4, h5⟩ := hP q a h2
    refine ⟨h4, f a, h5, bI_in _, fun c => ?_, fun c => ?_⟩
    · have e : f a = false := by cases hb : f a; rfl; rw [hb] at c; exact absurd c (by decide)
      rw [show (a :: l).all f = false by rw [List.all_cons, e, Bool.false_and]] at hQ
      exact hQ
    · have e : f a = true := by cases hb : f a; rw [hb] at c; exact absurd rfl c; rfl
      refine ana58 hP l _ _ _ h3 ?_
      rw [show (a :: l).all f = l.all f by rw [List.all_cons, e, Bool.true_and]] at hQ
      exact hQ
theorem jna58 {α : Type} {P : Nat → α → Prop} {f : α → Bool} {q c : Nat} {l : List α} (hP : ∀ q a, P q a → obJ S q 16 5) (hx : 0 ≤ x ∧ x + 1 + c ≤ 40) (hR : ∀ q a, P q a → ∀ (d : Nat) (x : Int), 0 ≤ x ∧ x + c ≤ 40 → R195a58 (d + (c + 1)) L I R S q x (f a)) (hn : NJn 164 P R S I q l) : R195a58 (d + (c + 2)) L I R S q x (l.all f) := by
  rcases hn with ⟨a, rfl, h⟩ | ⟨-, h1, h2, h3⟩
  · have e : [a].all f = f a := by simp
    rw [e]
    exact hR q a h (d + 1) x ⟨hx.1, by omega⟩ |> fun k => by rw [show d + (c + 2) = d + 1 + (c + 1) by omega]; exact k
  · intro K hK
    refine e195a58 (d := d + (c + 1)) ⟨by unfold inR; omega, fun k => absurd k (by omega), fun _ => ⟨h1, ?_⟩⟩
    rw [h2]
    refine ⟨fun k => absurd k (by decide), fun _ => ?_, fun k => absurd k (by decide), fun k => absurd rfl k.2.1⟩
    exact ana58 (fun q a ha => ⟨hP q a ha, hR q a ha d (x + 1) ⟨by omega, by omega⟩⟩) l _ _ _ h3 (rqI_of hK)
theorem jno58 {α : Type} {P : Nat → α → Prop} {f : α → Bool} {q c : Nat} {l : List α} (hP : ∀ q a, P q a → obJ S q 16 5) (hx : 0 ≤ x ∧ x + 1 + c ≤ 40) (hR : ∀ q a, P q a → ∀ (d : Nat) (x : Int), 0 ≤ x ∧ x + c ≤ 40 → R195a58 (d + (c + 1)) L I R S q x (f a)) (hn : NJn 163 P R S I q l) : R195a58 (d + (c + 2)) L I R S q x (l.any f) := by
  rcases hn with ⟨a, rfl, h⟩ | ⟨-, h1, h2, h3⟩
  · have e : [a].any f = f a := by simp
    rw [e]
    exact hR q a h (d + 1) x ⟨hx.1, by omega⟩ |> fun k => by rw [show d + (c + 2) = d + 1 + (c + 1) by omega]; exact k
  · intro K hK
    refine e195a58 (d := d + (c + 1)) ⟨by unfold inR; omega, fun k => absurd k (by omega), fun _ => ⟨h1, ?_⟩⟩
    rw [h2]
    refine ⟨fun _ => ?_, fun k => absurd k (by decide), fun k => absurd k (by decide), fun k => absurd rfl k.1⟩
    exact ora58 (fun q a ha => ⟨hP q a ha, hR q a ha d (x + 1) ⟨by omega, by omega⟩⟩) l _ _ _ h3 (rqI_of hK)
theorem one58 (hE : EnvC 58 I h) : ∀ (n : Nat) (q : Nat) (o : One n), NOne R S I n q o → ∀ (d : Nat) (x : Int), 0 ≤ x ∧ x + (2 * n : Nat) ≤ 40 → R195a58 (d + (2 * n + 1)) L I R S q x (tvO h n o)
  | 0, q, o, hn, d, x, hx => lfa58 hE hn (by omega)
  | n + 1, q, .inl l, hn, d, x, hx => by
    have := lfa58 (d := d + (2 * n + 2)) (L := L) hE hn (x := x) (by omega)
    exact this
  | n + 1, q, .inr (.inl o), hn, d, x, hx => by
    obtain ⟨h1, h2, q1, h3, -, h5⟩ := hn
    have ih := one58 hE n q1 o h5 (d + 1) (x + 1) (by omega)
    intro K hK
    refine e195a58 (d := d + (2 * n + 2)) ⟨by unfold inR; omega, fun k => absurd k (by omega), fun _ => ⟨h1, ?_⟩⟩
    rw [h2, h3]
    refine ⟨fun k => absurd k (by decide), fun k => absurd k (by decide), fun _ => ⟨q1, rfl, NOne.ob n q1 o h5, ?_⟩, fun k => absurd rfl k.2.2⟩
    have hK2 : K (oI (bI (!tvO h n o))) (bd L I R S) := hK
    refine ⟨tvO h n o, by rw [show d + (2 * n + 2) = d + 1 + (2 * n + 1) by omega]; exact ih, bI_in _, fun c => ?_, fun c => ?_⟩
    · have e : tvO h n o = false := by cases hb : tvO h n o; rfl; rw [hb] at c; exact absurd c (by decide)
      rw [e] at hK2; exact hK2
    · have e : tvO h n o = true := by cases hb : tvO h n o; rw [hb] at c; exact absurd rfl c; rfl
      rw [e] at hK2; exact hK2
  | n + 1, q, .inr (.inr t), hn, d, x, hx => by
    have hn2 : NJn 163 (NJn 164 (NOne R S I n) R S I) R S I q t := hn
    have := jno58 (d := d) (L := L) (x := x) (c := 2 * n + 1) (f := fun (al : List (One n)) => al.all (tvO h n)) (fun q a ha => NJn.ob ha (fun q x hx => NOne.ob n q x hx)) (by omega) (fun q a ha d x hx => jna58 (c := 2 * n) (f := tvO h n) (fun q x hx => NOne.ob n q x hx) (by omega) (fun q a ha d x hx => one58 hE n q a ha d x (by omega)) ha) hn2
    exact this
theorem any58 (hE : EnvC 58 I h) {q : Nat} {t : Any 10} (hn : NAny R S I 10 q t) : R195a58 (d + 23) L I R S q 0 (tvA h 10 t) :=
  jno58 (d := d) (c := 21) (f := fun (al : List (One 10)) => al.all (tvO h 10)) (fun q a ha => NJn.ob ha (fun q x hx => NOne.ob 10 q x hx)) (by omega) (fun q a ha d x hx => jna58 (c := 20) (f := tvO h 10) (fun q x hx => NOne.ob 10 q x hx) (by omega) (fun q a ha d x hx => one58 hE 10 q a ha d x (by omega)) ha) hn
end
