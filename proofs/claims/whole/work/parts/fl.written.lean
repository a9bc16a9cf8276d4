section
variable {L : Nat} {α : Type}
/-- how each thing of a level is written -/
def W198 (D L c : Nat) (P : mR → mSh → mI → Nat → α → Prop) (f : α → List Tk) : Prop := ∀ (d : Nat) (x : Int) (q : Nat) (a : α) (I : mI) (R : mR) (S : mSh), P R S I q a → 0 ≤ x ∧ x + (c : Int) ≤ 40 → CwS (d + D) L 198 [.ref q, .ref 53, .int (oI x)] (f a) I R S
theorem pt_of {d c w : Nat} {kd ls x : Int} {P : mR → mSh → mI → Nat → α → Prop} {f : α → List Tk} {lv : α → Int} (hx : 0 ≤ x ∧ x + 1 + (c : Int) ≤ 40) (hls : (ls = 0 ∧ kd = 163) ∨ (ls = 1 ∧ kd = 164) ∨ (ls = 2 ∧ kd = 165)) (hext : ∀ (R : mR) (S : mSh) (I : mI) (R1 : mR) (S1 : mSh) (I1 : mI) (q : Nat) (a : α), Ext R S I R1 S1 I1 → P R S I q a → P R1 S1 I1 q a ∧ R1 q 4 = R q 4) (hob : ∀ R S I q a, P R S I q a → obJ S q 16 5) (hlv : ∀ R S I q a, P R S I q a → Lev I q (lv a)) (h : W198 (d + 7) L c P f) : PtW d L w kd x P (fun a => prT (decide (lv a < ls)) (f a)) := by
  refine ⟨hext, fun R S I q a hp => ⟨hob R S I q a hp, fun hw hk => ?_⟩⟩
  refine w199 (hob R S I q a hp) hw hk (hlv R S I q a hp) hls (fun I1 R1 S1 he => ?_)
  have := h 0 (x + 1) q a I1 R1 S1 (hext R S I R1 S1 I1 q a he hp).1 ⟨by omega, by omega⟩
  rw [Nat.zero_add] at this
  exact this
theorem jn_ls {n : Nat} {P : List (One n) → Prop} : True := trivial
theorem w_all {n D c : Nat} (hD : 7 ≤ D) (h : W198 D L c (fun R S I q o => NOne R S I n q o) (tOne n 0)) : W198 (D + 2) L (c + 1) (fun R S I q l => NJn 164 (NOne R S I n) R S I q l) (tAll (cOne n) (tOne n) 0) := by
  intro d x q l I R S hn hx
  have ht : tAll (cOne n) (tOne n) 0 l = jn wAnd (tOne n (if l.length = 1 then 0 else 1)) l := prT_f (by have := cAl_in l; omega)
  rw [ht]
  rcases hn with ⟨a, rfl, h1⟩ | ⟨h2, h3, h4, h5⟩
  · have e : jn wAnd (tOne n (if [a].length = 1 then 0 else 1)) [a] = tOne n 0 a := List.append_nil _
    rw [e, show d + (D + 2) = d + 2 + D by omega]
    exact h (d + 2) x q a I R S h1 ⟨hx.1, by omega⟩
  · have e1 : (if l.length = 1 then (0 : Int) else 1) = 1 := if_neg (by omega)
    rw [e1, show d + (D + 2) = d + D - 7 + 9 by omega]
    have hf : tOne n 1 = fun a => prT (decide (cOne n a < 1)) (tOne n 0 a) := funext fun a => tOne_ls n a 1 (by decide)
    rw [hf]
    refine w198_many (i := 36) (by decide) rfl (by decide) rfl (pt_of (c := c) (ls := 1) ⟨hx.1, by omega⟩ (Or.inr (Or.inl ⟨rfl, rfl⟩)) (fun R S I R1 S1 I1 q a he hp => NOne.ext he n q a hp) (fun R S I q a hp => NOne.ob n q a hp) (fun R S I q a hp => lev_one n q a hp) ?_) ⟨hx.1, by omega⟩ h2 h3 h4 h5
    intro d' x' q' a' I' R' S' hp' hx'
    rw [show d' + (d + D - 7 + 7) = d' + d + D by omega]
    exact h (d' + d) x' q' a' I' R' S' hp' hx'
theorem w_any {n D c : Nat} (hD : 7 ≤ D) (h : W198 D L c (fun R S I q o => NOne R S I n q o) (tOne n 0)) : W198 (D + 4) L (c + 2) (fun R S I q t => NJn 163 (NJn 164 (NOne R S I n) R S I) R S I q t) (tAny (cOne n) (tOne n) 0) := by
  have ha := w_all hD h
  intro d x q t I R S hn hx
  have ht : tAny (cOne n) (tOne n) 0 t = jn wOr (tAll (cOne n) (tOne n) 0) t := prT_f (by have := cAn_in t; omega)
  rw [ht]
  rcases hn with ⟨a, rfl, h1⟩ | ⟨h2, h3, h4, h5⟩
  · have e : jn wOr (tAll (cOne n) (tOne n) 0) [a] = tAll (cOne n) (tOne n) 0 a := List.append_nil _
    rw [e, show d + (D + 4) = d + 2 + (D + 2) by omega]
    exact ha (d + 2) x q a I R S h1 ⟨hx.1, by omega⟩
  · rw [show d + (D + 4) = d + D - 5 + 9 by omega]
    have hf : tAll (cOne n) (tOne n) 0 = fun a => prT (decide (cAll (cOne n) a < 0)) (tAll (cOne n) (tOne n) 0 a) := funext fun a => (prT_f (by have := cAl_in a; omega)).symm
    rw [hf]
    have pt := pt_of (L := L) (w := q) (d := d + D - 5) (c := c + 1) (ls := 0) (kd := 163) (x := x) (P := fun R S I q l => NJn 164 (NOne R S I n) R S I q l) (f := tAll (cOne n) (tOne n) 0) (lv := cAll (cOne n)) ⟨hx.1, by omega⟩ (Or.inl ⟨rfl, rfl⟩) (fun R S I R1 S1 I1 q a he hp => NJn.ext he (fun q x hx => NOne.ext he n q x hx) hp) (fun R S I q a hp => NJn.ob hp (fun q x hx => NOne.ob n q x hx)) (fun R S I q a hp => lev_all (fun q o h => lev_one n q o h) hp) (by
      intro d' x' q' a' I' R' S' hp' hx'
      rw [show d' + (d + D - 5 + 7) = d' + d + (D + 2) by omega]
      exact ha (d' + d) x' q' a' I' R' S' hp' hx')
    exact w198_many (L := L) (i := 35) (wd := wOr) (by decide) rfl (by decide) rfl pt ⟨hx.1, by omega⟩ h2 h3 h4 h5
theorem w_one : ∀ n : Nat, W198 (4 * n + 8) L (2 * n) (fun R S I q o => NOne R S I n q o) (tOne n 0) := by
  intro n
  induction n with
  | zero =>
    intro d x q o I R S hn hx
    exact w198_leaf (d := d) hn (by omega)
  | succ n ih =>
    intro d x q o I R S hn hx
    rcases o with l | o | t
    · have := w198_leaf (d := d + (4 * n + 4)) (L := L) (l := l) (x := x) hn (by omega)
      rw [show d + (4 * (n + 1) + 8) = d + (4 * n + 4) + 8 by omega]
      exact this
    · obtain ⟨h1, h2, q1, h3, h4, h5⟩ := hn
      rw [show d + (4 * (n + 1) + 8) = d + (4 * n + 3) + 9 by omega]
      have pt := pt_of (L := L) (w := q) (d := d + (4 * n + 3)) (c := 2 * n) (ls := 2) (kd := 165) (x := x) (P := fun R S I q o => NOne R S I n q o) (f := tOne n 0) (lv := cOne n) ⟨hx.1, by omega⟩ (Or.inr (Or.inr ⟨rfl, rfl⟩)) (fun R S I R1 S1 I1 q a he hp => NOne.ext he n q a hp) (fun R S I q a hp => NOne.ob n q a hp) (fun R S I q a hp => lev_one n q a hp) (by
        intro d' x' q' a' I' R' S' hp' hx'
        rw [show d' + (d + (4 * n + 3) + 7) = d' + d + 2 + (4 * n + 8) by omega]
        exact ih (d' + d + 2) x' q' a' I' R' S' hp' hx')
      intro bs m K hp hl hK
      have hl0 : (rnd (bs, lst bs) ([tW wNot] ++ tOne n 2 o)).1.length ≤ 1900 := hl
      have hK0 : ∀ I1 R1 S1 n1, Gp I R S I1 R1 S1 m n1 → PenS I1 R1 S1 (rnd (bs, lst bs) ([tW wNot] ++ tOne n 2 o)).1 n1 → lst (rnd (bs, lst bs) ([tW wNot] ++ tOne n 2 o)).1 = (rnd (bs, lst bs) ([tW wNot] ++ tOne n 2 o)).2 → K (bd L I1 R1 S1) := hK
      rw [tOne_ls n o 2 (by decide)] at hl0 hK0
      refine e198 (d := d + (4 * n + 3) + 8) ⟨⟨by omega, by omega⟩, fun c => absurd c (by omega), fun _ => ⟨h1, fun _ => ?_, fun c => absurd h2 c⟩⟩
      have cw : CwS (d + (4 * n + 3) + 8) L 41 [.ref 53, .int (oI 165)] [tW wNot] I R S := cw41 (d := d + (4 * n + 3) + 1) (i := 37) (by decide) rfl
      refine cw bs m _ hp (rndl hl0) (fun I1 R1 S1 m1 g1 p1 e1 => ⟨I1, R1, S1, rfl, g1.ob h1, ?_⟩)
      have x1 := g1.ext hp
      have z1 := NOne.ext x1 n q1 o h5
      have r3 : R1 q 3 = some q1 := (x1.1 q 16 5 h1 (Or.inl (by decide))).2.2.2.1.trans h3
      have r4 : R1 q1 4 = none := z1.2.trans h4
      have k1 : ld I1 q 0 = 165 := (x1.ld h1 (Or.inl (by decide))).trans h2
      have o1 := NOne.ob n q1 o z1.1
      rw [r3]
      refine e198_3 (d := d + (4 * n + 3) + 8) ⟨fun c => (by cases c), fun p1 c => ?_⟩
      cases c
      refine ⟨g1.ob h1, q1, r3, o1, o1, fun _ => ?_, fun c => absurd rfl c⟩
      refine (pt.2 R1 S1 I1 q1 o z1.1).2 (g1.ob h1) k1 _ m1 _ p1 (by rw [rnd2 e1]; exact hl0) (fun I2 R2 S2 m2 g2 p2 e2 => ⟨I2, R2, S2, rfl, g2.ob o1, ?_⟩)
      rw [rnd2 e1] at p2 e2
      have x2 := g2.ext p1
      have z2 := NOne.ext x2 n q1 o z1.1
      have r32 : R2 q 3 = some q1 := (x2.1 q 16 5 (g1.ob h1) (Or.inl (by decide))).2.2.2.1.trans r3
      rw [z2.2.trans r4]
      exact e198_3 (d := d + (4 * n + 3) + 8) ⟨fun _ => ⟨g2.ob (g1.ob h1), fun c => (by rw [r32] at c; cases c), fun p4 _ => rqV_of (hK0 I2 R2 S2 m2 (g1.trans g2) p2 e2)⟩, fun p1 c => (by cases c)⟩
    · have := w_any (L := L) (n := n) (D := 4 * n + 8) (c := 2 * n) (by omega) ih d x q t I R S hn ⟨hx.1, by omega⟩
      rw [show d + (4 * (n + 1) + 8) = d + (4 * n + 8 + 4) by omega]
      exact this
theorem w_tree {d q : Nat} {t : Any 10} {I : mI} {R : mR} {S : mSh} (hn : NAny R S I 10 q t) : CwS (d + 52) L 198 [.ref q, .ref 53, .int (oI 0)] (tAny (cOne 10) (tOne 10) 0 t) I R S :=
  w_any (D := 48) (c := 20) (by decide) (w_one 10) d 0 q t I R S hn (by decide)
end
