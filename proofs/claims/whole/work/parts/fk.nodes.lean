section
variable {d D L : Nat} {I I0 I1 I2 : mI} {R R0 R1 R2 : mR} {S S0 S1 S2 : mSh} {n n0 n1 n2 b k e i q w q1 : Nat} {x c v kd : Int} {K : mM → Prop} {ts us : List Tk} {α : Type} {P : mR → mSh → mI → Nat → α → Prop} {f : α → List Tk} {wd : Int64}
theorem nm_wc : ∀ k : Fin 12, nmW (k.val : Int) = wc (16 + (pcN (k.val : Int)).toNat) ∧ 0 ≤ pcN (k.val : Int) ∧ pcN (k.val : Int) < 12 := by decide +kernel
theorem w198_leaf {l : Lf} (hn : NLf R S I q l) (hx : 0 ≤ x ∧ x ≤ 40) : CwS (d + 8) L 198 [.ref q, .ref 53, .int (oI x)] (tLf l) I R S := by
  intro bs m K hp hl hK
  obtain ⟨h1, h2, h3, h4, h5, h6, h7, h8⟩ := hn
  obtain ⟨e0, e2, e3⟩ := nm_wc ⟨l.1.toNat, by omega⟩
  dsimp only at e0 e2 e3
  rw [show ((l.1.toNat : Nat) : Int) = l.1 by omega] at e0 e2 e3
  have hl0 : (rnd (bs, lst bs) ([tW (nmW l.1)] ++ ([tS l.2.1] ++ [tN l.2.2]))).1.length ≤ 1900 := hl
  have hK0 : ∀ I1 R1 S1 n1, Gp I R S I1 R1 S1 m n1 → PenS I1 R1 S1 (rnd (bs, lst bs) ([tW (nmW l.1)] ++ ([tS l.2.1] ++ [tN l.2.2]))).1 n1 → lst (rnd (bs, lst bs) ([tW (nmW l.1)] ++ ([tS l.2.1] ++ [tN l.2.2]))).1 = (rnd (bs, lst bs) ([tW (nmW l.1)] ++ ([tS l.2.1] ++ [tN l.2.2]))).2 → K (bd L I1 R1 S1) := hK
  rw [← List.append_assoc, e0] at hl0 hK0
  refine e198 (d := d + 7) ⟨⟨by omega, by omega⟩, fun c => absurd c (by omega), fun _ => ⟨h1, fun c => absurd c (by omega), fun _ => ?_⟩⟩
  rw [h5]
  refine e198_3 (d := d + 7) ⟨fun _ => ⟨h1, fun _ => ?_, fun p4 c => (by rw [h5] at c; cases c)⟩, fun p1 c => (by cases c)⟩
  refine cw41 (d := d) (i := 16 + (pcN l.1).toNat) (by omega) (by omega) _ m _ hp (rndl (rndl hl0)) (fun I1 R1 S1 m1 g1 p1 e1 => ⟨I1, R1, S1, rfl, g1.ob h1, ?_⟩)
  have x1 := g1.ext hp
  have k1 : ld I1 q 1 = l.2.1 := (x1.ld h1 (Or.inl (by decide))).trans h3
  have k2 : ld I1 q 2 = l.2.2 := (x1.ld h1 (Or.inl (by decide))).trans h4
  rw [k1, iC_id (by omega)]
  refine cw130 (d := d + 2) (by unfold isg; omega) p1 (by rw [rnd2 e1]; exact rndl hl0) (fun I2 R2 S2 m2 g2 p2 e2 => ⟨I2, R2, S2, rfl, g2.ob (g1.ob h1), ?_⟩)
  rw [rnd2 e1] at p2 e2
  have x2 := g2.ext p1
  rw [(x2.ld (g1.ob h1) (Or.inl (by decide))).trans k2]
  refine cw43 (d := d) h8 _ m2 _ p2 (by rw [rnd2 e2]; exact hl0) (fun I3 R3 S3 m3 g3 p3 e3 => ⟨I3, R3, S3, rfl, rqV_of ?_⟩)
  rw [rnd2 e2] at p3 e3
  exact hK0 I3 R3 S3 m3 ((g1.trans g2).trans g3) p3 e3
/-- a whole of two or more parts -/
theorem w198_many (hi : i < 41) (hkd : kd = 128 + (i : Int)) (hn165 : ¬ kd = 165) (hw : wc i = wd) (hP : PtW d L q kd x P f) (hx : 0 ≤ x ∧ x ≤ 40) {l : List α} (hl2 : 2 ≤ l.length) (hob : obJ S q 16 5) (hk : ld I q 0 = kd) (hn : NCh (P R S I) R l (R q 3)) : CwS (d + 9) L 198 [.ref q, .ref 53, .int (oI x)] (jn wd f l) I R S := by
  intro bs m K hp hl hK
  have hn0 := hn
  cases l with
  | nil => exact absurd hl2 (by show ¬ 2 ≤ 0; decide)
  | cons y l =>
  obtain ⟨qf, e1, h2, h3⟩ := hn
  have hqf := (hP.2 R S I qf y h2).1
  have hl0 : (rnd (bs, lst bs) (f y ++ jr wd f l)).1.length ≤ 1900 := hl
  refine e198 (d := d + 8) ⟨⟨by omega, by omega⟩, fun c => absurd c (by omega), fun _ => ⟨hob, fun c => absurd (hk.symm.trans c) hn165, fun _ => ?_⟩⟩
  rw [e1]
  refine e198_3 (d := d + 8) ⟨fun c => (by cases c), fun p1 c => ?_⟩
  cases c
  refine ⟨hob, qf, e1, hqf, hqf, fun _ => ?_, fun c => absurd rfl c⟩
  refine (hP.2 R S I qf y h2).2 hob hk bs m _ hp (rndl hl0) (fun I1 R1 S1 m1 g1 p1 e1' => ⟨I1, R1, S1, rfl, g1.ob hqf, ?_⟩)
  have x1 := g1.ext hp
  have hy := hP.1 R S I R1 S1 I1 qf y x1 h2
  have ew3 : R1 q 3 = R q 3 := (x1.1 q 16 5 hob (Or.inl (by decide))).2.2.2.1
  have := l198r (d := d) (f := f) (P := P) (n0 := m) (I0 := I) (R0 := R) (S0 := S) (Q := rqV K) (bs0 := bs) hi hkd hw hP (f y ++ jr wd f l) hl0 (fun I2 R2 S2 m2 g2 p2 e2 => rqV_of (hK I2 R2 S2 m2 g2 p2 e2)) l y (y :: l) (R1 qf 4) I1 R1 S1 m1 (f y) (Nat.lt_succ_self _) g1 p1 e1' rfl (g1.ob hob) ((x1.ld hob (Or.inl (by decide))).trans hk) (by rw [ew3]; exact NCh.ext (fun q a h9 => hP.1 R S I R1 S1 I1 q a x1 h9) _ _ hn0) (by rw [hy.2]; exact NCh.ext (fun q a h9 => hP.1 R S I R1 S1 I1 q a x1 h9) _ _ h3)
  exact this
theorem prT_f {ts : List Tk} {a b : Int} (h : ¬ a < b) : prT (decide (a < b)) ts = ts := by rw [decide_eq_false h]; rfl
theorem cAl_in {n : Nat} (l : List (One n)) : 0 ≤ cAll (cOne n) l := (cAll_in (cOne_in n) l).1
theorem cAn_in {n : Nat} (t : List (List (One n))) : 0 ≤ cAny (cOne n) t := (cAny_in (cOne_in n) t).1
theorem tOne_ls : ∀ (n : Nat) (o : One n) (ls : Int), ls ≤ 2 → tOne n ls o = prT (decide (cOne n o < ls)) (tOne n 0 o)
  | 0, o, ls, h => (prT_f (show ¬ (2 : Int) < ls by omega)).symm
  | n + 1, .inl o, ls, h => (prT_f (show ¬ (2 : Int) < ls by omega)).symm
  | n + 1, .inr (.inl o), ls, h => (prT_f (show ¬ (2 : Int) < ls by omega)).symm
  | n + 1, .inr (.inr t), ls, h => by
    show prT (decide (cAny (cOne n) t < ls)) (jn wOr (tAll (cOne n) (tOne n) 0) t) = prT (decide (cAny (cOne n) t < ls)) (prT (decide (cAny (cOne n) t < 0)) (jn wOr (tAll (cOne n) (tOne n) 0) t))
    rw [prT_f (show ¬ cAny (cOne n) t < 0 by have := cAn_in t; omega)]
theorem lev_join {kd2 lv2 : Int} {c : α → Int} {l : List α} {PP : Nat → α → Prop} (hn : NJn kd2 PP R S I q l) (h1 : ∀ q a, PP q a → Lev I q (c a)) (h2 : (lv2 = 0 ∧ kd2 = 163) ∨ (lv2 = 1 ∧ kd2 = 164)) : (∃ a, l = [a] ∧ Lev I q (c a)) ∨ (2 ≤ l.length ∧ Lev I q lv2) := by
  rcases hn with ⟨a, e, h⟩ | ⟨h3, -, h4, -⟩
  · exact Or.inl ⟨a, e, h1 q a h⟩
  · refine Or.inr ⟨h3, ?_⟩
    unfold Lev
    omega
theorem lev_all {n : Nat} (ih : ∀ q (o : One n), NOne R S I n q o → Lev I q (cOne n o)) {l : List (One n)} (hn : NJn 164 (NOne R S I n) R S I q l) : Lev I q (cAll (cOne n) l) := by
  rcases lev_join (lv2 := 1) (c := cOne n) hn ih (Or.inr ⟨rfl, rfl⟩) with ⟨a, e, h⟩ | ⟨h2, h⟩
  · rw [e]; exact h
  · match l, h2 with
    | [], h2 => exact absurd h2 (by show ¬ 2 ≤ 0; decide)
    | [y], h2 => exact absurd h2 (by show ¬ 2 ≤ 1; decide)
    | _ :: _ :: _, _ => exact h
theorem lev_any {n : Nat} (ih : ∀ q (o : One n), NOne R S I n q o → Lev I q (cOne n o)) {t : List (List (One n))} (hn : NJn 163 (NJn 164 (NOne R S I n) R S I) R S I q t) : Lev I q (cAny (cOne n) t) := by
  rcases lev_join (lv2 := 0) (c := cAll (cOne n)) hn (fun q l h => lev_all ih h) (Or.inl ⟨rfl, rfl⟩) with ⟨a, e, h⟩ | ⟨h2, h⟩
  · rw [e]; exact h
  · match t, h2 with
    | [], h2 => exact absurd h2 (by show ¬ 2 ≤ 0; decide)
    | [y], h2 => exact absurd h2 (by show ¬ 2 ≤ 1; decide)
    | _ :: _ :: _, _ => exact h
theorem lev_leaf {l : Lf} (hn : NLf R S I q l) : Lev I q 2 := by
  have h := pcN_in hn.2.2.2.2.2.1
  have h2 := hn.2.1
  exact Or.inr (Or.inr ⟨rfl, by omega, by omega⟩)
theorem lev_one : ∀ (n : Nat) (q : Nat) (o : One n), NOne R S I n q o → Lev I q (cOne n o)
  | 0, q, o, h => lev_leaf (l := o) h
  | n + 1, q, .inl o, h => lev_leaf (l := o) h
  | n + 1, q, .inr (.inl o), h => by
    obtain ⟨-, h2, -⟩ := h
    exact Or.inr (Or.inr ⟨rfl, by omega, by omega⟩)
  | n + 1, q, .inr (.inr t), h => lev_any (n := n) (fun q o h => lev_one n q o h) (t := t) h
end
