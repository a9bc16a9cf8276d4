set_option maxRecDepth 4000 in
theorem e333 {d L : Nat} {I : Nat → Nat → Int32} {R : Nat → Nat → Option Nat} {S : List (Nat × Nat)} {K : mM → Prop}  {x1 : Int} (hE : ∃ (b1 m2 : Nat), (R 53 0 = some b1) ∧ arB S b1 m2 ∧ (inR (x1 - (iShr (m2 : Int) (ld I 53 1))) ∧ (((0 < x1 - (iShr (m2 : Int) (ld I 53 1))) → inR (iShl x1 (ld I 53 1) - (m2 : Int)) ∧ (inR ((m2 : Int) + (iShl 2 (ld I 53 1))) ∧ (inR ((m2 : Int) + (max (iShl x1 (ld I 53 1) - (m2 : Int)) ((m2 : Int) + (iShl 2 (ld I 53 1))))) ∧ (((0 < (m2 : Int) + (max (iShl x1 (ld I 53 1) - (m2 : Int)) ((m2 : Int) + (iShl 2 (ld I 53 1))))) → ((2147483639 < (m2 : Int) + (max (iShl x1 (ld I 53 1) - (m2 : Int)) ((m2 : Int) + (iShl 2 (ld I 53 1))))) → False) ∧ (¬ (2147483639 < (m2 : Int) + (max (iShl x1 (ld I 53 1) - (m2 : Int)) ((m2 : Int) + (iShl 2 (ld I 53 1))))) → (((m2 : Int) + (max (iShl x1 (ld I 53 1) - (m2 : Int)) ((m2 : Int) + (iShl 2 (ld I 53 1)))) = 2147483647) → False) ∧ (¬ ((m2 : Int) + (max (iShl x1 (ld I 53 1) - (m2 : Int)) ((m2 : Int) + (iShl 2 (ld I 53 1)))) = 2147483647) → CallR (d + 2) 351 [.ref b1, .int (oI (iShl (iShr ((m2 : Int) + (max (iShl x1 (ld I 53 1) - (m2 : Int)) ((m2 : Int) + (iShl 2 (ld I 53 1))))) (ld I 53 1)) (ld I 53 1)))] (bd L I R S) (fun o16 s => ∃ (I13 : mI) (R14 : mR) (S15 : mSh), s = bd L I13 R14 S15 ∧ (K (bd L I13 (u2 R14 53 0 o16) S15)))))) ∧ (¬ (0 < (m2 : Int) + (max (iShl x1 (ld I 53 1) - (m2 : Int)) ((m2 : Int) + (iShl 2 (ld I 53 1))))) → False))))) ∧ (¬ (0 < x1 - (iShr (m2 : Int) (ld I 53 1))) → K (bd L I R S))))) : CallV (d + 3) 333 [.ref 53, .int (oI x1)] (bd L I R S) K := by
  refine cV_of (ls := [.ref 53, .int (oI x1), mUn]) rfl ?_
  refine xG gb333.1 ?_
  refine s6 (p := 53) rfl ?_
  obtain ⟨b1, m2, k3, k4, hE⟩ := hE
  refine s51o (o := some b1) sh53 (by decide) (by decide) (rf53p.trans k3) ?_
  refine s48 k4.sh (by decide) ?_
  refine s6 (p := 53) rfl ?_
  refine s50 (v := ld I 53 1) sh53 (by decide) (by decide) (oI_ld _ _ _) ?_
  refine s23 ?_
  refine s7 (ls' := [.ref 53, .int (oI x1), .int (oI (iShr (m2 : Int) (ld I 53 1)))]) (Nat.le_of_ble_eq_true rfl) rfl ?_
  refine s4 (x := x1) rfl ?_
  refine s4 (x := iShr (m2 : Int) (ld I 53 1)) rfl ?_
  refine s17 ?_
  obtain ⟨g5, hE⟩ := hE
  refine s72 g5 (fun c6 => ?_) (fun c6 => ?_)
  · replace hE := hE.1 c6
    refine s6 (p := 53) rfl ?_
    refine s6 (p := 53) rfl ?_
    refine s51o (o := some b1) sh53 (by decide) (by decide) (rf53p.trans k3) ?_
    refine s6 (p := 53) rfl ?_
    refine s4 (x := x1) rfl ?_
    refine sI rc334 rfl (Nat.le_of_ble_eq_true rfl) ?_
    refine cI_of (ls := [.ref 53, .int (oI x1), mUn, mUn, mUn, mUn]) rfl ?_
    refine xG gb334.1 ?_
    refine s6 (p := 53) rfl ?_
    refine s51o (o := some b1) sh53 (by decide) (by decide) (rf53p.trans k3) ?_
    refine s48 k4.sh (by decide) ?_
    refine s7 (ls' := [.ref 53, .int (oI x1), .int (oI (m2 : Int)), mUn, mUn, mUn]) (Nat.le_of_ble_eq_true rfl) rfl ?_
    refine s4 (x := x1) rfl ?_
    refine s6 (p := 53) rfl ?_
    refine s50 (v := ld I 53 1) sh53 (by decide) (by decide) (oI_ld _ _ _) ?_
    refine s22 ?_
    refine s7 (ls' := [.ref 53, .int (oI x1), .int (oI (m2 : Int)), .int (oI (iShl x1 (ld I 53 1))), mUn, mUn]) (Nat.le_of_ble_eq_true rfl) rfl ?_
    refine s4 (x := iShl x1 (ld I 53 1)) rfl ?_
    refine s4 (x := (m2 : Int)) rfl ?_
    refine s17 ?_
    refine s7 (ls' := [.ref 53, .int (oI x1), .int (oI (m2 : Int)), .int (oI (iShl x1 (ld I 53 1))), .int (oI (iShl x1 (ld I 53 1) - (m2 : Int))), mUn]) (Nat.le_of_ble_eq_true rfl) rfl ?_
    refine s4 (x := (m2 : Int)) rfl ?_
    refine s4 (x := iShl x1 (ld I 53 1) - (m2 : Int)) rfl ?_
    refine s4 (x := (m2 : Int)) rfl ?_
    refine s0 ?_
    refine s6 (p := 53) rfl ?_
    refine s50 (v := ld I 53 1) sh53 (by decide) (by decide) (oI_ld _ _ _) ?_
    refine s22 ?_
    refine s16 ?_
    refine sI rc355 rfl (Nat.le_of_ble_eq_true rfl) ?_
    refine cI_of (ls := [.int (oI (m2 : Int)), .int (oI (iShl x1 (ld I 53 1) - (m2 : Int))), .int (oI ((m2 : Int) + (iShl 2 (ld I 53 1)))), mUn]) rfl ?_
    refine xG gb355.1 ?_
    refine s4 (x := (m2 : Int)) rfl ?_
    refine s4 (x := iShl x1 (ld I 53 1) - (m2 : Int)) rfl ?_
    refine s4 (x := (m2 : Int) + (iShl 2 (ld I 53 1))) rfl ?_
    obtain ⟨g7, hE⟩ := hE
    obtain ⟨g8, hE⟩ := hE
    refine sI rc346 rfl (Nat.le_of_ble_eq_true rfl) ?_
    refine k346 g7 g8 ?_
    refine s16 ?_
    refine s7 (ls' := [.int (oI (m2 : Int)), .int (oI (iShl x1 (ld I 53 1) - (m2 : Int))), .int (oI ((m2 : Int) + (iShl 2 (ld I 53 1)))), .int (oI ((m2 : Int) + (max (iShl x1 (ld I 53 1) - (m2 : Int)) ((m2 : Int) + (iShl 2 (ld I 53 1))))))]) (Nat.le_of_ble_eq_true rfl) rfl ?_
    refine s0 ?_
    refine s4 (x := (m2 : Int) + (max (iShl x1 (ld I 53 1) - (m2 : Int)) ((m2 : Int) + (iShl 2 (ld I 53 1))))) rfl ?_
    obtain ⟨g9, hE⟩ := hE
    refine s64 (inRd rfl) g9 (fun c10 => ?_) (fun c10 => ?_)
    · replace hE := hE.1 c10
      refine s4 (x := (m2 : Int) + (max (iShl x1 (ld I 53 1) - (m2 : Int)) ((m2 : Int) + (iShl 2 (ld I 53 1))))) rfl ?_
      refine s0 ?_
      refine s65 g9 (inRd rfl) (fun c11 => ?_) (fun c11 => ?_)
      · replace hE := hE.1 c11
        refine xG gb355.2 ?_
        exact hE.elim
      · replace hE := hE.2 c11
        refine s4 (x := (m2 : Int) + (max (iShl x1 (ld I 53 1) - (m2 : Int)) ((m2 : Int) + (iShl 2 (ld I 53 1))))) rfl ?_
        refine s80 ?_
        refine rqI_of ?_
        refine s7 (ls' := [.ref 53, .int (oI x1), .int (oI (m2 : Int)), .int (oI (iShl x1 (ld I 53 1))), .int (oI (iShl x1 (ld I 53 1) - (m2 : Int))), .int (oI ((m2 : Int) + (max (iShl x1 (ld I 53 1) - (m2 : Int)) ((m2 : Int) + (iShl 2 (ld I 53 1))))))]) (Nat.le_of_ble_eq_true rfl) rfl ?_
        refine s4 (x := (m2 : Int) + (max (iShl x1 (ld I 53 1) - (m2 : Int)) ((m2 : Int) + (iShl 2 (ld I 53 1))))) rfl ?_
        refine s0 ?_
        refine s62 g9 (inRd rfl) (fun c12 => ?_) (fun c12 => ?_)
        · replace hE := hE.1 c12
          exact hE.elim
        · replace hE := hE.2 c12
          refine xG gb334.2 ?_
          refine s4 (x := (m2 : Int) + (max (iShl x1 (ld I 53 1) - (m2 : Int)) ((m2 : Int) + (iShl 2 (ld I 53 1))))) rfl ?_
          refine s6 (p := 53) rfl ?_
          refine s50 (v := ld I 53 1) sh53 (by decide) (by decide) (oI_ld _ _ _) ?_
          refine s23 ?_
          refine s80 ?_
          refine rqI_of ?_
          refine s6 (p := 53) rfl ?_
          refine s50 (v := ld I 53 1) sh53 (by decide) (by decide) (oI_ld _ _ _) ?_
          refine s22 ?_
          refine sR rc351 rfl (Nat.le_of_ble_eq_true rfl) ?_
          refine CallR.mono hE ?_
          rintro o16 _ ⟨I13, R14, S15, rfl, hE⟩
          refine s53 (o := o16) sh53 (by decide) (by decide) rfl ?_
          refine s79 ?_
          refine xG gb333.2 ?_
          refine s83 ?_
          exact rqV_of hE
    · replace hE := hE.2 c10
      refine xG gb355.2 ?_
      exact hE.elim
  · replace hE := hE.2 c6
    refine xG gb333.2 ?_
    refine s83 ?_
    exact rqV_of hE
def slS (S : mSh) : Nat := (S.map Prod.snd).sum
/-- DigitOnes, DigitTens and the words -/
def CsC (I : mI) : Prop := WrC I ∧ ∀ j : Nat, j < 100 → ld I 6 j = ((48 + j % 10 : Nat) : Int) ∧ ld I 7 j = ((48 + j / 10 : Nat) : Int)
/-- the pen holds bs, in n bytes -/
def PenS (I : mI) (R : mR) (S : mSh) (bs : List Int) (n : Nat) : Prop := ld I 53 1 = 0 ∧ ld I 53 3 = (bs.length : Int) ∧ bs.length ≤ n ∧ 16 ≤ n ∧ CsC I ∧ ∃ b, R 53 0 = some b ∧ arB S b n ∧ (∀ (j : Nat) (v : Int), bs[j]? = some v → ld I b j = v) ∧ ∀ j : Nat, 0 ≤ ld I b j ∧ ld I b j ≤ 127
/-- what writing may change -/
def Gp (I : mI) (R : mR) (S : mSh) (I1 : mI) (R1 : mR) (S1 : mSh) (n n1 : Nat) : Prop := (∃ X : mSh, S1 = S ++ X) ∧ (∀ a k, a < 155 + S.length → ¬ R 53 0 = some a → ¬ (a = 53 ∧ (k = 2 ∨ k = 3)) → I1 a k = I a k) ∧ (∀ a k, a < 155 + S.length → ¬ (a = 53 ∧ k = 0) → R1 a k = R a k) ∧ (R1 53 0 = R 53 0 ∨ ∃ b, R1 53 0 = some b ∧ 155 + S.length ≤ b) ∧ n ≤ n1 ∧ S1.length + n ≤ S.length + n1 ∧ slS S1 + 2 * n ≤ slS S + 2 * n1
section
variable {d L : Nat} {I I1 I2 : mI} {R R1 R2 : mR} {S S1 S2 : mSh} {bs : List Int} {n n1 n2 b k : Nat} {x c v : Int} {K : mM → Prop}
theorem Gp.refl (I : mI) (R : mR) (S : mSh) (n : Nat) : Gp I R S I R S n n := ⟨⟨[], (List.append_nil _).symm⟩, fun _ _ _ _ _ => rfl, fun _ _ _ _ => rfl, Or.inl rfl, Nat.le_refl _, Nat.le_refl _, Nat.le_refl _⟩
theorem Gp.len (h : Gp I R S I1 R1 S1 n n1) : S.length ≤ S1.length := by
  obtain ⟨⟨X, h1⟩, -⟩ := h
  rw [h1, List.length_append]; omega
theorem Gp.trans (h : Gp I R S I1 R1 S1 n n1) (h2 : Gp I1 R1 S1 I2 R2 S2 n1 n2) : Gp I R S I2 R2 S2 n n2 := by
  have hl := h.len
  obtain ⟨⟨X, a1⟩, a2, a3, a4, a5, a6, a7⟩ := h
  obtain ⟨⟨Y, b1⟩, b2, b3, b4, b5, b6, b7⟩ := h2
  refine ⟨⟨X ++ Y, by rw [b1, a1, List.append_assoc]⟩, fun a k ha h0 h3 => (b2 a k (by omega) ?_ h3).trans (a2 a k ha h0 h3), fun a k ha h0 => (b3 a k (by omega) h0).trans (a3 a k ha h0), ?_, by omega, by omega, by omega⟩
  · rcases a4 with e | ⟨b, e, hb⟩
    · rw [e]; exact h0
    · rw [e]; intro h; have := Option.some.inj h; omega
  · rcases b4 with e | ⟨b, e, hb⟩
    · rw [e]; exact a4
    · exact Or.inr ⟨b, e, by omega⟩
theorem Gp.ob {p kd m : Nat} (h : Gp I R S I1 R1 S1 n n1) (ho : obJ S p kd m) : obJ S1 p kd m := by
  obtain ⟨⟨X, rfl⟩, -⟩ := h
  exact ho.app
theorem Gp.ext (h : Gp I R S I1 R1 S1 n n1) (hp : PenS I R S bs n) : Ext R S I R1 S1 I1 := by
  obtain ⟨-, -, -, -, -, b0, hb0, ha0, -⟩ := hp
  refine ⟨fun p kd m ho hk => ?_, fun b kd m hb h53 => ?_⟩
  · have hl : p < 155 + S.length := by have := ho.lt; have := ho.1; omega
    have hp2 := ho.1
    refine ⟨h.ob ho, fun k => h.2.1 p k hl ?_ (by omega), fun _ => funext fun k => h.2.2.1 p k hl (by omega), h.2.2.1 p 3 hl (by omega), h.2.2.1 p 4 hl (by omega)⟩
    rcases hk with hk | hk
    · intro e
      rw [hb0] at e
      have e := Option.some.inj e
      subst e
      rcases ha0.1 with ⟨h9, -⟩ | h9
      · omega
      · have := ho.2.symm.trans h9.2
        exact hk (congrArg Prod.fst (Option.some.inj this))
    · exact hk
  · have hl : b < 155 + S.length := by have := hb.lt; have := hb.1; omega
    rcases h.2.2.2.1 with e | ⟨b', e, hb'⟩
    · rw [e] at h53; exact h53
    · rw [e] at h53; have := Option.some.inj h53; omega
theorem CsC.ag (h : CsC I) (hg : ∀ a k, (a = 2 ∨ a = 3 ∨ a = 6 ∨ a = 7) → I1 a k = I a k) : CsC I1 := by
  have l : ∀ a k, (a = 2 ∨ a = 3 ∨ a = 6 ∨ a = 7) → ld I1 a k = ld I a k := fun a k ha => by unfold ld; rw [hg a k ha]
  exact ⟨⟨(l 2 1 (by decide)).trans h.1.1, fun j hj => (l 3 j (by decide)).trans (h.1.2 j hj)⟩, fun j hj => ⟨(l 6 j (by decide)).trans (h.2 j hj).1, (l 7 j (by decide)).trans (h.2 j hj).2⟩⟩
theorem slS_app {X : mSh} : slS (S ++ X) = slS S + slS X := by unfold slS; rw [List.map_append, List.sum_append_nat]
theorem arB.n53 (h : arB S b n) : ¬ b = 53 ∧ ¬ (b = 2 ∨ b = 3 ∨ b = 6 ∨ b = 7) := by
  rcases h.1 with ⟨rfl, -⟩ | h1
  · decide
  · have := h1.1; omega
theorem Gp.wr {y : Int32} (h : Gp I R S I1 R1 S1 n n1) (hn : k = 2 ∨ k = 3) : Gp I R S (u2 I1 53 k y) R1 S1 n n1 := ⟨h.1, fun a j ha h0 h3 => (show u2 I1 53 k y a j = I1 a j from if_neg (by rintro ⟨rfl, rfl⟩; exact h3 ⟨rfl, hn⟩)).trans (h.2.1 a j ha h0 h3), h.2.2⟩
theorem Gp.mm (h : Gp I R S I1 R1 S1 n n1) (hb : R1 53 0 = some b) (hg : ∀ a k, ¬ a = b → ¬ (a = 53 ∧ (k = 2 ∨ k = 3)) → I2 a k = I1 a k) : Gp I R S I2 R1 S1 n n1 := by
  refine ⟨h.1, fun a j ha h0 h3 => (hg a j ?_ h3).trans (h.2.1 a j ha h0 h3), h.2.2⟩
  intro hab
  rw [← hab] at hb
  rcases h.2.2.2.1 with e | ⟨b', e, hb'⟩
  · exact h0 (e.symm.trans hb)
  · rw [hb] at e; have := Option.some.inj e; omega
theorem iShl0 {m : Nat} (h : m < 2147483648) : iShl (m : Int) 0 = (m : Int) := by
  have h9 := iShl_nat (m := m) (k := 0) (by decide) (by rw [Nat.pow_zero, Nat.mul_one]; exact h)
  rw [Nat.pow_zero, Nat.mul_one] at h9
  exact h9
theorem iShr0 {m : Nat} (h : m < 2147483648) : iShr (m : Int) 0 = (m : Int) := by
  have h9 := iShr_nat (m := m) (k := 0) (by decide) h
  rw [Nat.pow_zero, Nat.div_one] at h9
  exact h9
theorem iShl20 : iShl 2 0 = 2 := by decide +kernel
theorem k333 {xn : Nat} (hp : PenS I R S bs n) (hx : xn ≤ bs.length + 4) (hl : bs.length ≤ 1900) (hK : ∀ I1 R1 S1 n1, Gp I R S I1 R1 S1 n n1 → PenS I1 R1 S1 bs n1 → xn ≤ n1 → K (bd L I1 R1 S1)) : CallV (d + 3) 333 [.ref 53, .int (oI (xn : Int))] (bd L I R S) K := by
  have hp0 := hp
  obtain ⟨h1, h3, hln, h16, hcs, b, hb, ha, hv, hr⟩ := hp
  have hn4 := ha.2
  refine e333 (d := d) ⟨b, n, hb, ha, ?_⟩
  rw [h1, iShr0 (m := n) (by omega)]
  refine ⟨⟨by omega, by omega⟩, fun c => ?_, fun c => hK I R S n (Gp.refl I R S n) hp0 (by omega)⟩
  rw [iShl0 (m := xn) (by omega), iShl20]
  have hmx : max ((xn : Int) - (n : Int)) ((n : Int) + 2) = (n : Int) + 2 := Int.max_eq_right (by omega)
  have e2 : (n : Int) + ((n : Int) + 2) = ((2 * n + 2 : Nat) : Int) := by omega
  rw [hmx, e2, iShr0 (m := 2 * n + 2) (by omega), iShl0 (m := 2 * n + 2) (by omega)]
  refine ⟨⟨by omega, by omega⟩, ⟨by omega, by omega⟩, ⟨by omega, by omega⟩, fun _ => ⟨fun c => absurd c (by omega), fun _ => ⟨fun c => absurd c (by omega), fun _ => ?_⟩⟩, fun c => absurd (by omega) c⟩
  refine k351 ha hr ⟨by omega, by omega⟩ (fun p I1 R1 S1 hc => ⟨I1, R1, S1, rfl, hK I1 (u2 R1 53 0 (some p)) S1 (2 * n + 2) ?_ ?_ (by omega)⟩)
  · obtain ⟨c1, c2, c3, c4, c5⟩ := hc
    refine ⟨⟨_, c2⟩, fun a k ha' _ _ => c4 a k (by omega), fun a k ha' h0 => (show u2 R1 53 0 (some p) a k = R1 a k from if_neg h0).trans (c5 a k (by omega)), Or.inr ⟨p, v2_eq, by omega⟩, by omega, ?_, ?_⟩
    · rw [c2, List.length_append]; show S.length + 1 + n ≤ _; omega
    · rw [c2, slS_app]; show slS S + (2 * n + 2 + 0) + 2 * n ≤ _; omega
  · obtain ⟨c1, c2, c3, c4, c5⟩ := hc
    have hlt := ha.lt
    have e53 : ∀ k, ld I1 53 k = ld I 53 k := fun k => by unfold ld; rw [c4 53 k (by omega)]
    refine ⟨(e53 1).trans h1, (e53 3).trans h3, by omega, by omega, hcs.ag (fun a k h9 => c4 a k (by omega)), p, v2_eq, ⟨Or.inr ⟨by omega, ?_⟩, by omega⟩, fun j v hj => ?_, fun j => ?_⟩
    · rw [c1, c2, show 155 + S.length - 155 = S.length by omega, List.getElem?_append_right (Nat.le_refl _), Nat.sub_self]; rfl
    · have hjl : j < bs.length := by
        apply Classical.byContradiction
        intro h9
        rw [List.getElem?_eq_none (by omega)] at hj
        cases hj
      rw [← hv j v hj]
      show (I1 p j).toInt = (I b j).toInt
      rw [c3 j, if_pos (by omega)]
    · show 0 ≤ (I1 p j).toInt ∧ (I1 p j).toInt ≤ 127
      rw [c3 j]
      by_cases h9 : j < n
      · rw [if_pos h9]; exact hr j
      · rw [if_neg h9]; decide
end
set_option maxRecDepth 4000 in
theorem e127 {d L : Nat} {I : Nat → Nat → Int32} {R : Nat → Nat → Option Nat} {S : List (Nat × Nat)} {K : mM → Prop}  {x1 : Int} (hE : inR x1 ∧ (((x1 < 0) → False) ∧ (¬ (x1 < 0) → ∃ (b3 m4 : Nat), (R 53 0 = some b3) ∧ arB S b3 m4 ∧ (inR (x1 - (iShr (m4 : Int) (ld I 53 1))) ∧ (((0 < x1 - (iShr (m4 : Int) (ld I 53 1))) → inR (iShl x1 (ld I 53 1) - (m4 : Int)) ∧ (inR ((m4 : Int) + (iShl 2 (ld I 53 1))) ∧ (inR ((m4 : Int) + (max (iShl x1 (ld I 53 1) - (m4 : Int)) ((m4 : Int) + (iShl 2 (ld I 53 1))))) ∧ (((0 < (m4 : Int) + (max (iShl x1 (ld I 53 1) - (m4 : Int)) ((m4 : Int) + (iShl 2 (ld I 53 1))))) → ((2147483639 < (m4 : Int) + (max (iShl x1 (ld I 53 1) - (m4 : Int)) ((m4 : Int) + (iShl 2 (ld I 53 1))))) → False) ∧ (¬ (2147483639 < (m4 : Int) + (max (iShl x1 (ld I 53 1) - (m4 : Int)) ((m4 : Int) + (iShl 2 (ld I 53 1))))) → (((m4 : Int) + (max (iShl x1 (ld I 53 1) - (m4 : Int)) ((m4 : Int) + (iShl 2 (ld I 53 1)))) = 2147483647) → False) ∧ (¬ ((m4 : Int) + (max (iShl x1 (ld I 53 1) - (m4 : Int)) ((m4 : Int) + (iShl 2 (ld I 53 1)))) = 2147483647) → CallR (d + 2) 351 [.ref b3, .int (oI (iShl (iShr ((m4 : Int) + (max (iShl x1 (ld I 53 1) - (m4 : Int)) ((m4 : Int) + (iShl 2 (ld I 53 1))))) (ld I 53 1)) (ld I 53 1)))] (bd L I R S) (fun o18 s => ∃ (I15 : mI) (R16 : mR) (S17 : mSh), s = bd L I15 R16 S17 ∧ (((ld I15 53 3 < x1) → ((ld I15 53 1 = 0) → False) ∧ (¬ (ld I15 53 1 = 0) → False)) ∧ (¬ (ld I15 53 3 < x1) → ((x1 < ld I15 53 3) → K (bd L (u2 (u2 I15 53 2 (oI 1)) 53 3 (oI x1)) (u2 R16 53 0 o18) S17)) ∧ (¬ (x1 < ld I15 53 3) → K (bd L (u2 I15 53 3 (oI x1)) (u2 R16 53 0 o18) S17)))))))) ∧ (¬ (0 < (m4 : Int) + (max (iShl x1 (ld I 53 1) - (m4 : Int)) ((m4 : Int) + (iShl 2 (ld I 53 1))))) → False))))) ∧ (¬ (0 < x1 - (iShr (m4 : Int) (ld I 53 1))) → ((ld I 53 3 < x1) → ((ld I 53 1 = 0) → False) ∧ (¬ (ld I 53 1 = 0) → False)) ∧ (¬ (ld I 53 3 < x1) → ((x1 < ld I 53 3) → K (bd L (u2 (u2 I 53 2 (oI 1)) 53 3 (oI x1)) R S)) ∧ (¬ (x1 < ld I 53 3) → K (bd L (u2 I 53 3 (oI x1)) R S))))))))) : CallV (d + 5) 127 [.ref 53, .int (oI x1)] (bd L I R S) K := by
  refine cV_of (ls := [.ref 53, .int (oI x1)]) rfl ?_
  refine xG gb127 ?_
  refine s6 (p := 53) rfl ?_
  refine s4 (x := x1) rfl ?_
  refine sV rc332 rfl (Nat.le_of_ble_eq_true rfl) ?_
  refine cV_of (ls := [.ref 53, .int (oI x1)]) rfl ?_
  refine xG gb332.1 ?_
  refine s4 (x := x1) rfl ?_
  obtain ⟨g1, hE⟩ := hE
  refine s70 g1 (fun c2 => ?_) (fun c2 => ?_)
  · replace hE := hE.1 c2
    exact hE.elim
  · replace hE := hE.2 c2
    refine xG gb332.2.1 ?_
    refine s6 (p := 53) rfl ?_
    refine s4 (x := x1) rfl ?_
    refine sV rc333 rfl (Nat.le_of_ble_eq_true rfl) ?_
    refine cV_of (ls := [.ref 53, .int (oI x1), mUn]) rfl ?_
    refine xG gb333.1 ?_
    refine s6 (p := 53) rfl ?_
    obtain ⟨b3, m4, k5, k6, hE⟩ := hE
    refine s51o (o := some b3) sh53 (by decide) (by decide) (rf53p.trans k5) ?_
    refine s48 k6.sh (by decide) ?_
    refine s6 (p := 53) rfl ?_
    refine s50 (v := ld I 53 1) sh53 (by decide) (by decide) (oI_ld _ _ _) ?_
    refine s23 ?_
    refine s7 (ls' := [.ref 53, .int (oI x1), .int (oI (iShr (m4 : Int) (ld I 53 1)))]) (Nat.le_of_ble_eq_true rfl) rfl ?_
    refine s4 (x := x1) rfl ?_
    refine s4 (x := iShr (m4 : Int) (ld I 53 1)) rfl ?_
    refine s17 ?_
    obtain ⟨g7, hE⟩ := hE
    refine s72 g7 (fun c8 => ?_) (fun c8 => ?_)
    · replace hE := hE.1 c8
      refine s6 (p := 53) rfl ?_
      refine s6 (p := 53) rfl ?_
      refine s51o (o := some b3) sh53 (by decide) (by decide) (rf53p.trans k5) ?_
      refine s6 (p := 53) rfl ?_
      refine s4 (x := x1) rfl ?_
      refine sI rc334 rfl (Nat.le_of_ble_eq_true rfl) ?_
      refine cI_of (ls := [.ref 53, .int (oI x1), mUn, mUn, mUn, mUn]) rfl ?_
      refine xG gb334.1 ?_
      refine s6 (p := 53) rfl ?_
      refine s51o (o := some b3) sh53 (by decide) (by decide) (rf53p.trans k5) ?_
      refine s48 k6.sh (by decide) ?_
      refine s7 (ls' := [.ref 53, .int (oI x1), .int (oI (m4 : Int)), mUn, mUn, mUn]) (Nat.le_of_ble_eq_true rfl) rfl ?_
      refine s4 (x := x1) rfl ?_
      refine s6 (p := 53) rfl ?_
      refine s50 (v := ld I 53 1) sh53 (by decide) (by decide) (oI_ld _ _ _) ?_
      refine s22 ?_
      refine s7 (ls' := [.ref 53, .int (oI x1), .int (oI (m4 : Int)), .int (oI (iShl x1 (ld I 53 1))), mUn, mUn]) (Nat.le_of_ble_eq_true rfl) rfl ?_
      refine s4 (x := iShl x1 (ld I 53 1)) rfl ?_
      refine s4 (x := (m4 : Int)) rfl ?_
      refine s17 ?_
      refine s7 (ls' := [.ref 53, .int (oI x1), .int (oI (m4 : Int)), .int (oI (iShl x1 (ld I 53 1))), .int (oI (iShl x1 (ld I 53 1) - (m4 : Int))), mUn]) (Nat.le_of_ble_eq_true rfl) rfl ?_
      refine s4 (x := (m4 : Int)) rfl ?_
      refine s4 (x := iShl x1 (ld I 53 1) - (m4 : Int)) rfl ?_
      refine s4 (x := (m4 : Int)) rfl ?_
      refine s0 ?_
      refine s6 (p := 53) rfl ?_
      refine s50 (v := ld I 53 1) sh53 (by decide) (by decide) (oI_ld _ _ _) ?_
      refine s22 ?_
      refine s16 ?_
      refine sI rc355 rfl (Nat.le_of_ble_eq_true rfl) ?_
      refine cI_of (ls := [.int (oI (m4 : Int)), .int (oI (iShl x1 (ld I 53 1) - (m4 : Int))), .int (oI ((m4 : Int) + (iShl 2 (ld I 53 1)))), mUn]) rfl ?_
      refine xG gb355.1 ?_
      refine s4 (x := (m4 : Int)) rfl ?_
      refine s4 (x := iShl x1 (ld I 53 1) - (m4 : Int)) rfl ?_
      refine s4 (x := (m4 : Int) + (iShl 2 (ld I 53 1))) rfl ?_
      obtain ⟨g9, hE⟩ := hE
      obtain ⟨g10, hE⟩ := hE
      refine sI rc346 rfl (Nat.le_of_ble_eq_true rfl) ?_
      refine k346 g9 g10 ?_
      refine s16 ?_
      refine s7 (ls' := [.int (oI (m4 : Int)), .int (oI (iShl x1 (ld I 53 1) - (m4 : Int))), .int (oI ((m4 : Int) + (iShl 2 (ld I 53 1)))), .int (oI ((m4 : Int) + (max (iShl x1 (ld I 53 1) - (m4 : Int)) ((m4 : Int) + (iShl 2 (ld I 53 1))))))]) (Nat.le_of_ble_eq_true rfl) rfl ?_
      refine s0 ?_
      refine s4 (x := (m4 : Int) + (max (iShl x1 (ld I 53 1) - (m4 : Int)) ((m4 : Int) + (iShl 2 (ld I 53 1))))) rfl ?_
      obtain ⟨g11, hE⟩ := hE
      refine s64 (inRd rfl) g11 (fun c12 => ?_) (fun c12 => ?_)
      · replace hE := hE.1 c12
        refine s4 (x := (m4 : Int) + (max (iShl x1 (ld I 53 1) - (m4 : Int)) ((m4 : Int) + (iShl 2 (ld I 53 1))))) rfl ?_
        refine s0 ?_
        refine s65 g11 (inRd rfl) (fun c13 => ?_) (fun c13 => ?_)
        · replace hE := hE.1 c13
          refine xG gb355.2 ?_
          exact hE.elim
        · replace hE := hE.2 c13
          refine s4 (x := (m4 : Int) + (max (iShl x1 (ld I 53 1) - (m4 : Int)) ((m4 : Int) + (iShl 2 (ld I 53 1))))) rfl ?_
          refine s80 ?_
          refine rqI_of ?_
          refine s7 (ls' := [.ref 53, .int (oI x1), .int (oI (m4 : Int)), .int (oI (iShl x1 (ld I 53 1))), .int (oI (iShl x1 (ld I 53 1) - (m4 : Int))), .int (oI ((m4 : Int) + (max (iShl x1 (ld I 53 1) - (m4 : Int)) ((m4 : Int) + (iShl 2 (ld I 53 1))))))]) (Nat.le_of_ble_eq_true rfl) rfl ?_
          refine s4 (x := (m4 : Int) + (max (iShl x1 (ld I 53 1) - (m4 : Int)) ((m4 : Int) + (iShl 2 (ld I 53 1))))) rfl ?_
          refine s0 ?_
          refine s62 g11 (inRd rfl) (fun c14 => ?_) (fun c14 => ?_)
          · replace hE := hE.1 c14
            exact hE.elim
          · replace hE := hE.2 c14
            refine xG gb334.2 ?_
            refine s4 (x := (m4 : Int) + (max (iShl x1 (ld I 53 1) - (m4 : Int)) ((m4 : Int) + (iShl 2 (ld I 53 1))))) rfl ?_
            refine s6 (p := 53) rfl ?_
            refine s50 (v := ld I 53 1) sh53 (by decide) (by decide) (oI_ld _ _ _) ?_
            refine s23 ?_
            refine s80 ?_
            refine rqI_of ?_
            refine s6 (p := 53) rfl ?_
            refine s50 (v := ld I 53 1) sh53 (by decide) (by decide) (oI_ld _ _ _) ?_
            refine s22 ?_
            refine sR rc351 rfl (Nat.le_of_ble_eq_true rfl) ?_
            refine CallR.mono hE ?_
            rintro o18 _ ⟨I15, R16, S17, rfl, hE⟩
            refine s53 (o := o18) sh53 (by decide) (by decide) rfl ?_
            refine s79 ?_
            refine xG gb333.2 ?_
            refine s83 ?_
            refine rqV_of ?_
            refine s6 (p := 53) rfl ?_
            refine s50 (v := ld I15 53 3) sh53 (by decide) (by decide) (oI_ld _ _ _) ?_
            refine s4 (x := x1) rfl ?_
            refine s64 (ld_inR _ _ _) g1 (fun c19 => ?_) (fun c19 => ?_)
            · replace hE := hE.1 c19
              refine s6 (p := 53) rfl ?_
              refine sI rc335 rfl (Nat.le_of_ble_eq_true rfl) ?_
              refine cI_of (ls := [.ref 53]) rfl ?_
              refine xG gb335.1 ?_
              refine s54 ?_
              refine s67 (inRd rfl) (fun c20 => absurd c20 (by decide)) (fun _ => ?_)
              refine s6 (p := 53) rfl ?_
              refine s50 (v := ld I15 53 1) sh53 (by decide) (by decide) (oI_ld _ _ _) ?_
              refine s68 (ld_inR _ _ _) (fun c21 => ?_) (fun c21 => ?_)
              · replace hE := hE.1 c21
                refine s0 ?_
                refine s60 ?_
                refine xG gb335.2.2 ?_
                refine s84 (by decide) ?_
                refine rqI_of ?_
                refine s67 (inRd rfl) (fun c22 => absurd c22 (by decide)) (fun _ => ?_)
                exact hE.elim
              · replace hE := hE.2 c21
                refine xG gb335.2.1 ?_
                refine s0 ?_
                refine s79 ?_
                refine xG gb335.2.2 ?_
                refine s84 (by decide) ?_
                refine rqI_of ?_
                refine s67 (inRd rfl) (fun _ => ?_) (fun c23 => absurd (by decide) c23)
                refine xG gb332.2.2.1 ?_
                exact hE.elim
            · replace hE := hE.2 c19
              refine xG gb332.2.2.2.1 ?_
              refine s6 (p := 53) rfl ?_
              refine s50 (v := ld I15 53 3) sh53 (by decide) (by decide) (oI_ld _ _ _) ?_
              refine s4 (x := x1) rfl ?_
              refine s66 (ld_inR _ _ _) g1 (fun c24 => ?_) (fun c24 => ?_)
              · replace hE := hE.1 c24
                refine s6 (p := 53) rfl ?_
                refine s0 ?_
                refine s49 sh53 (by decide) (by decide) (by decide) ?_
                refine s79 ?_
                refine xG gb332.2.2.2.2 ?_
                refine s6 (p := 53) rfl ?_
                refine s4 (x := x1) rfl ?_
                refine s52 sh53 (by decide) (by decide) ?_
                refine s83 ?_
                refine rqV_of ?_
                refine s83 ?_
                exact rqV_of hE
              · replace hE := hE.2 c24
                refine xG gb332.2.2.2.2 ?_
                refine s6 (p := 53) rfl ?_
                refine s4 (x := x1) rfl ?_
                refine s52 sh53 (by decide) (by decide) ?_
                refine s83 ?_
                refine rqV_of ?_
                refine s83 ?_
                exact rqV_of hE
      · replace hE := hE.2 c12
        refine xG gb355.2 ?_
        exact hE.elim
    · replace hE := hE.2 c8
      refine xG gb333.2 ?_
      refine s83 ?_
      refine rqV_of ?_
      refine s6 (p := 53) rfl ?_
      refine s50 (v := ld I 53 3) sh53 (by decide) (by decide) (oI_ld _ _ _) ?_
      refine s4 (x := x1) rfl ?_
      refine s64 (ld_inR _ _ _) g1 (fun c25 => ?_) (fun c25 => ?_)
      · replace hE := hE.1 c25
        refine s6 (p := 53) rfl ?_
        refine sI rc335 rfl (Nat.le_of_ble_eq_true rfl) ?_
        refine cI_of (ls := [.ref 53]) rfl ?_
        refine xG gb335.1 ?_
        refine s54 ?_
        refine s67 (inRd rfl) (fun c26 => absurd c26 (by decide)) (fun _ => ?_)
        refine s6 (p := 53) rfl ?_
        refine s50 (v := ld I 53 1) sh53 (by decide) (by decide) (oI_ld _ _ _) ?_
        refine s68 (ld_inR _ _ _) (fun c27 => ?_) (fun c27 => ?_)
        · replace hE := hE.1 c27
          refine s0 ?_
          refine s60 ?_
          refine xG gb335.2.2 ?_
          refine s84 (by decide) ?_
          refine rqI_of ?_
          refine s67 (inRd rfl) (fun c28 => absurd c28 (by decide)) (fun _ => ?_)
          exact hE.elim
        · replace hE := hE.2 c27
          refine xG gb335.2.1 ?_
          refine s0 ?_
          refine s79 ?_
          refine xG gb335.2.2 ?_
          refine s84 (by decide) ?_
          refine rqI_of ?_
          refine s67 (inRd rfl) (fun _ => ?_) (fun c29 => absurd (by decide) c29)
          refine xG gb332.2.2.1 ?_
          exact hE.elim
      · replace hE := hE.2 c25
        refine xG gb332.2.2.2.1 ?_
        refine s6 (p := 53) rfl ?_
        refine s50 (v := ld I 53 3) sh53 (by decide) (by decide) (oI_ld _ _ _) ?_
        refine s4 (x := x1) rfl ?_
        refine s66 (ld_inR _ _ _) g1 (fun c30 => ?_) (fun c30 => ?_)
        · replace hE := hE.1 c30
          refine s6 (p := 53) rfl ?_
          refine s0 ?_
          refine s49 sh53 (by decide) (by decide) (by decide) ?_
          refine s79 ?_
          refine xG gb332.2.2.2.2 ?_
          refine s6 (p := 53) rfl ?_
          refine s4 (x := x1) rfl ?_
          refine s52 sh53 (by decide) (by decide) ?_
          refine s83 ?_
          refine rqV_of ?_
          refine s83 ?_
          exact rqV_of hE
        · replace hE := hE.2 c30
          refine xG gb332.2.2.2.2 ?_
          refine s6 (p := 53) rfl ?_
          refine s4 (x := x1) rfl ?_
          refine s52 sh53 (by decide) (by decide) ?_
          refine s83 ?_
          refine rqV_of ?_
          refine s83 ?_
          exact rqV_of hE
set_option maxRecDepth 4000 in
theorem e338 {d L : Nat} {I : Nat → Nat → Int32} {R : Nat → Nat → Option Nat} {S : List (Nat × Nat)} {K : Option Nat → mM → Prop}  {x1 : Int} (hE : CallV d 333 [.ref 53, .int (oI (ld I 53 3 + 1))] (bd L I R S) (fun s => ∃ (I1 : mI) (R2 : mR) (S3 : mSh), s = bd L I1 R2 S3 ∧ (((ld I1 53 1 = 0) → inR x1 ∧ (((255 < x1) → False) ∧ (¬ (255 < x1) → ∃ (b14 m15 : Nat), (R2 53 0 = some b14) ∧ arB S3 b14 m15 ∧ ((0 ≤ ld I1 53 3 ∧ ld I1 53 3 < (m15 : Int)) ∧ (K (some 53) (bd L (u2 (u2 I1 53 3 (oI (ld I1 53 3 + 1))) b14 (ld I1 53 3).toNat (oI (iB (iB x1)))) R2 S3)))))) ∧ (¬ (ld I1 53 1 = 0) → False)))) : CallR (d + 1) 338 [.ref 53, .int (oI x1)] (bd L I R S) K := by
  refine cR_of (ls := [.ref 53, .int (oI x1)]) rfl ?_
  refine xG gb338.1 ?_
  refine s6 (p := 53) rfl ?_
  refine s6 (p := 53) rfl ?_
  refine s50 (v := ld I 53 3) sh53 (by decide) (by decide) (oI_ld _ _ _) ?_
  refine s0 ?_
  refine s16 ?_
  refine sV rc333 rfl (Nat.le_of_ble_eq_true rfl) ?_
  refine CallV.mono hE ?_
  rintro _ ⟨I1, R2, S3, rfl, hE⟩
  refine s6 (p := 53) rfl ?_
  refine sI rc335 rfl (Nat.le_of_ble_eq_true rfl) ?_
  refine cI_of (ls := [.ref 53]) rfl ?_
  refine xG gb335.1 ?_
  refine s54 ?_
  refine s67 (inRd rfl) (fun c4 => absurd c4 (by decide)) (fun _ => ?_)
  refine s6 (p := 53) rfl ?_
  refine s50 (v := ld I1 53 1) sh53 (by decide) (by decide) (oI_ld _ _ _) ?_
  refine s68 (ld_inR _ _ _) (fun c5 => ?_) (fun c5 => ?_)
  · replace hE := hE.1 c5
    refine s0 ?_
    refine s60 ?_
    refine xG gb335.2.2 ?_
    refine s84 (by decide) ?_
    refine rqI_of ?_
    refine s67 (inRd rfl) (fun c6 => absurd c6 (by decide)) (fun _ => ?_)
    refine s4 (x := x1) rfl ?_
    refine sI rc349 rfl (Nat.le_of_ble_eq_true rfl) ?_
    refine cI_of (ls := [.int (oI x1)]) rfl ?_
    refine xG gb349.1 ?_
    refine s4 (x := x1) rfl ?_
    refine s0 ?_
    obtain ⟨g7, hE⟩ := hE
    refine s65 g7 (inRd rfl) (fun c8 => ?_) (fun c8 => ?_)
    · replace hE := hE.1 c8
      refine xG gb349.2.1 ?_
      refine s0 ?_
      refine s79 ?_
      refine xG gb349.2.2 ?_
      refine s84 (by decide) ?_
      refine rqI_of ?_
      refine s67 (inRd rfl) (fun _ => ?_) (fun c9 => absurd (by decide) c9)
      refine xG gb338.2.1 ?_
      refine s6 (p := 53) rfl ?_
      refine sI rc335 rfl (Nat.le_of_ble_eq_true rfl) ?_
      refine cI_of (ls := [.ref 53]) rfl ?_
      refine xG gb335.1 ?_
      refine s54 ?_
      refine s67 (inRd rfl) (fun c10 => absurd c10 (by decide)) (fun _ => ?_)
      refine s6 (p := 53) rfl ?_
      refine s50 (v := ld I1 53 1) sh53 (by decide) (by decide) (oI_ld _ _ _) ?_
      refine s68 (ld_inR _ _ _) (fun _ => ?_) (fun c11 => absurd c5 c11)
      refine s0 ?_
      refine s60 ?_
      refine xG gb335.2.2 ?_
      refine s84 (by decide) ?_
      refine rqI_of ?_
      refine s67 (inRd rfl) (fun c12 => absurd c12 (by decide)) (fun _ => ?_)
      exact hE.elim
    · replace hE := hE.2 c8
      refine s0 ?_
      refine s60 ?_
      refine xG gb349.2.2 ?_
      refine s84 (by decide) ?_
      refine rqI_of ?_
      refine s67 (inRd rfl) (fun c13 => absurd c13 (by decide)) (fun _ => ?_)
      refine s6 (p := 53) rfl ?_
      obtain ⟨b14, m15, k16, k17, hE⟩ := hE
      refine s51o (o := some b14) sh53 (by decide) (by decide) (rf53p.trans k16) ?_
      refine s6 (p := 53) rfl ?_
      refine s13r ?_
      refine s50 (v := ld I1 53 3) sh53 (by decide) (by decide) (oI_ld _ _ _) ?_
      refine s15 ?_
      refine s0 ?_
      refine s16 ?_
      refine s52 sh53 (by decide) (by decide) ?_
      refine s4 (x := x1) rfl ?_
      refine s28 ?_
      obtain ⟨g18, hE⟩ := hE
      refine s45a k17.sh k17.sp g18 k17.le ?_
      refine s60 ?_
      refine xG gb338.2.2.2 ?_
      refine s6 (p := 53) rfl ?_
      refine s82o (o := some 53) ?_
      exact rqR_of (x := (some 53)) hE
  · replace hE := hE.2 c5
    refine xG gb335.2.1 ?_
    refine s0 ?_
    refine s79 ?_
    refine xG gb335.2.2 ?_
    refine s84 (by decide) ?_
    refine rqI_of ?_
    refine s67 (inRd rfl) (fun _ => ?_) (fun c19 => absurd (by decide) c19)
    refine xG gb338.2.1 ?_
    refine s6 (p := 53) rfl ?_
    refine sI rc335 rfl (Nat.le_of_ble_eq_true rfl) ?_
    refine cI_of (ls := [.ref 53]) rfl ?_
    refine xG gb335.1 ?_
    refine s54 ?_
    refine s67 (inRd rfl) (fun c20 => absurd c20 (by decide)) (fun _ => ?_)
    refine s6 (p := 53) rfl ?_
    refine s50 (v := ld I1 53 1) sh53 (by decide) (by decide) (oI_ld _ _ _) ?_
    refine s68 (ld_inR _ _ _) (fun c21 => absurd c21 c5) (fun _ => ?_)
    refine xG gb335.2.1 ?_
    refine s0 ?_
    refine s79 ?_
    refine xG gb335.2.2 ?_
    refine s84 (by decide) ?_
    refine rqI_of ?_
    refine s67 (inRd rfl) (fun _ => ?_) (fun c22 => absurd (by decide) c22)
    refine xG gb338.2.2.1 ?_
    exact hE.elim
set_option maxRecDepth 4000 in
theorem e130 {d L : Nat} {I : Nat → Nat → Int32} {R : Nat → Nat → Option Nat} {S : List (Nat × Nat)} {K : Option Nat → mM → Prop}  {x1 : Int} (hE : CallR d 338 [.ref 53, .int (oI x1)] (bd L I R S) (fun o4 s => ∃ (I1 : mI) (R2 : mR) (S3 : mSh), s = bd L I1 R2 S3 ∧ (K (some 53) (bd L I1 R2 S3)))) : CallR (d + 1) 130 [.ref 53, .int (oI x1)] (bd L I R S) K := by
  refine cR_of (ls := [.ref 53, .int (oI x1)]) rfl ?_
  refine xG gb130 ?_
  refine s6 (p := 53) rfl ?_
  refine s4 (x := x1) rfl ?_
  refine sR rc338 rfl (Nat.le_of_ble_eq_true rfl) ?_
  refine CallR.mono hE ?_
  rintro o4 _ ⟨I1, R2, S3, rfl, hE⟩
  refine s12o ?_
  refine s6 (p := 53) rfl ?_
  refine s82o (o := some 53) ?_
  exact rqR_of (x := (some 53)) hE
set_option maxRecDepth 4000 in
theorem e128 {d L : Nat} {I : Nat → Nat → Int32} {R : Nat → Nat → Option Nat} {S : List (Nat × Nat)} {K : Int32 → mM → Prop}   (hE : K (oI (ld I 53 3)) (bd L I R S)) : CallI (d + 1) 128 [.ref 53] (bd L I R S) K := by
  refine cI_of (ls := [.ref 53]) rfl ?_
  refine xG gb128 ?_
  refine s6 (p := 53) rfl ?_
  refine sI rc336 rfl (Nat.le_of_ble_eq_true rfl) ?_
  refine cI_of (ls := [.ref 53]) rfl ?_
  refine xG gb336 ?_
  refine s6 (p := 53) rfl ?_
  refine s50 (v := ld I 53 3) sh53 (by decide) (by decide) (oI_ld _ _ _) ?_
  refine s80 ?_
  refine rqI_of ?_
  refine s80 ?_
  exact rqI_of hE
set_option maxRecDepth 4000 in
theorem e129 {d L : Nat} {I : Nat → Nat → Int32} {R : Nat → Nat → Option Nat} {S : List (Nat × Nat)} {K : Int32 → mM → Prop}  {x1 : Int} (hE : ∃ (b1 m2 : Nat), (R 53 0 = some b1) ∧ arB S b1 m2 ∧ (inR x1 ∧ (((x1 < 0) → False) ∧ (¬ (x1 < 0) → inR (min (ld I 53 3) (iShr (m2 : Int) (ld I 53 1))) ∧ (((x1 < min (ld I 53 3) (iShr (m2 : Int) (ld I 53 1))) → ((ld I 53 1 = 0) → (0 ≤ x1 ∧ x1 < (m2 : Int)) ∧ ((0 ≤ iC (iAnd (ld I b1 x1.toNat) 255) ∧ iC (iAnd (ld I b1 x1.toNat) 255) ≤ 65535) ∧ ((0 ≤ iC (iAnd (ld I b1 x1.toNat) 255) ∧ iC (iAnd (ld I b1 x1.toNat) 255) ≤ 65535) ∧ (K (oI (iC (iAnd (ld I b1 x1.toNat) 255))) (bd L I R S))))) ∧ (¬ (ld I 53 1 = 0) → False)) ∧ (¬ (x1 < min (ld I 53 3) (iShr (m2 : Int) (ld I 53 1))) → False)))))) : CallI (d + 3) 129 [.ref 53, .int (oI x1)] (bd L I R S) K := by
  refine cI_of (ls := [.ref 53, .int (oI x1)]) rfl ?_
  refine xG gb129 ?_
  refine s6 (p := 53) rfl ?_
  refine s4 (x := x1) rfl ?_
  refine sI rc337 rfl (Nat.le_of_ble_eq_true rfl) ?_
  refine cI_of (ls := [.ref 53, .int (oI x1), mUn, mUn, mUn]) rfl ?_
  refine xG gb337.1 ?_
  refine s6 (p := 53) rfl ?_
  refine s50 (v := ld I 53 1) sh53 (by decide) (by decide) (oI_ld _ _ _) ?_
  refine s7 (ls' := [.ref 53, .int (oI x1), .int (oI (ld I 53 1)), mUn, mUn]) (Nat.le_of_ble_eq_true rfl) rfl ?_
  refine s6 (p := 53) rfl ?_
  obtain ⟨b1, m2, k3, k4, hE⟩ := hE
  refine s51o (o := some b1) sh53 (by decide) (by decide) (rf53p.trans k3) ?_
  refine s9 (ls' := [.ref 53, .int (oI x1), .int (oI (ld I 53 1)), .ref b1, mUn]) (Nat.le_of_ble_eq_true rfl) rfl ?_
  refine s6 (p := 53) rfl ?_
  refine s50 (v := ld I 53 3) sh53 (by decide) (by decide) (oI_ld _ _ _) ?_
  refine s6 (p := b1) rfl ?_
  refine s48 k4.sh (by decide) ?_
  refine s4 (x := ld I 53 1) rfl ?_
  refine s23 ?_
  refine sI rc345 rfl (Nat.le_of_ble_eq_true rfl) ?_
  refine k345 (ld_inR _ _ _) (inR_toInt _) ?_
  refine s7 (ls' := [.ref 53, .int (oI x1), .int (oI (ld I 53 1)), .ref b1, .int (oI (min (ld I 53 3) (iShr (m2 : Int) (ld I 53 1))))]) (Nat.le_of_ble_eq_true rfl) rfl ?_
  refine s4 (x := x1) rfl ?_
  refine s4 (x := min (ld I 53 3) (iShr (m2 : Int) (ld I 53 1))) rfl ?_
  refine sV rc204 rfl (Nat.le_of_ble_eq_true rfl) ?_
  refine cV_of (ls := [.int (oI x1), .int (oI (min (ld I 53 3) (iShr (m2 : Int) (ld I 53 1))))]) rfl ?_
  refine xG gb204 ?_
  refine s4 (x := x1) rfl ?_
  refine s4 (x := min (ld I 53 3) (iShr (m2 : Int) (ld I 53 1))) rfl ?_
  refine s57 ?_
  refine sI rc356x rfl (Nat.le_of_ble_eq_true rfl) ?_
  refine cI_of (ls := [.int (oI x1), .int (oI (min (ld I 53 3) (iShr (m2 : Int) (ld I 53 1)))), .retAddr 1]) rfl ?_
  refine xG gb356.1 ?_
  refine s4 (x := x1) rfl ?_
  obtain ⟨g5, hE⟩ := hE
  refine s69 g5 (fun c6 => ?_) (fun c6 => ?_)
  · replace hE := hE.1 c6
    refine xG gb356.2.1 ?_
    exact hE.elim
  · replace hE := hE.2 c6
    refine s4 (x := x1) rfl ?_
    refine s4 (x := min (ld I 53 3) (iShr (m2 : Int) (ld I 53 1))) rfl ?_
    obtain ⟨g7, hE⟩ := hE
    refine s63 g5 g7 (fun c8 => ?_) (fun c8 => ?_)
    · replace hE := hE.1 c8
      refine xG gb356.2.2 ?_
      refine s4 (x := x1) rfl ?_
      refine s80 ?_
      refine rqI_of ?_
      refine s12i ?_
      refine s83 ?_
      refine rqV_of ?_
      refine s4 (x := ld I 53 1) rfl ?_
      refine s68 (ld_inR _ _ _) (fun c9 => ?_) (fun c9 => ?_)
      · replace hE := hE.1 c9
        refine s6 (p := b1) rfl ?_
        refine s4 (x := x1) rfl ?_
        obtain ⟨g10, hE⟩ := hE
        refine s41a (v := ld I b1 x1.toNat) k4.sh g10 k4.le (oI_ld _ _ _) ?_
        refine s0 ?_
        refine s25 ?_
        refine s29 ?_
        obtain ⟨g11, hE⟩ := hE
        refine s86 g11 ?_
        refine rqI_of ?_
        obtain ⟨g12, hE⟩ := hE
        refine s86 g12 ?_
        exact rqI_of hE
      · replace hE := hE.2 c9
        refine xG gb337.2 ?_
        exact hE.elim
    · replace hE := hE.2 c8
      refine s79 ?_
      refine xG gb356.2.1 ?_
      exact hE.elim
section
variable {d L : Nat} {I I1 I2 : mI} {R R1 R2 : mR} {S S1 S2 : mSh} {bs : List Int} {n n1 n2 b k : Nat} {x c v : Int} {K : mM → Prop}
theorem k338 {K : Option Nat → mM → Prop} (hp : PenS I R S bs n) (hl : bs.length ≤ 1900) (hc : 0 ≤ c ∧ c ≤ 127) (hK : ∀ I1 R1 S1 n1, Gp I R S I1 R1 S1 n n1 → PenS I1 R1 S1 (bs ++ [c]) n1 → K (some 53) (bd L I1 R1 S1)) : CallR (d + 4) 338 [.ref 53, .int (oI c)] (bd L I R S) K := by
  refine e338 (d := d + 3) ?_
  rw [hp.2.1, show (bs.length : Int) + 1 = ((bs.length + 1 : Nat) : Int) by omega]
  refine k333 hp (by omega) hl (fun I1 R1 S1 n1 g p1 hx => ⟨I1, R1, S1, rfl, fun _ => ?_, fun c => absurd p1.1 c⟩)
  obtain ⟨h1, h3, hln, h16, hcs, b, hb, ha, hv, hr⟩ := p1
  have hn4 := ha.2
  have hb53 := ha.n53
  rw [h3, iB_id (x := c) ⟨by omega, by omega⟩, iB_id ⟨by omega, by omega⟩, Int.toNat_natCast]
  have hcr : inR c := ⟨by omega, by omega⟩
  refine ⟨hcr, fun h => absurd h (by omega), fun _ => ⟨b, n1, hb, ha, ⟨by omega, by omega⟩, hK _ R1 S1 n1 ((g.wr (Or.inr rfl)).mm hb (fun a k h9 _ => v2_ne h9)) ?_⟩⟩
  refine ⟨?_, ?_, ?_, h16, hcs.ag (fun a k h9 => (v2_ne (by omega)).trans (v2_ne (by omega))), b, hb, ha, fun j v hj => ?_, fun j => ?_⟩
  · rw [ld_o (fun e => hb53.1 e.symm), ld_w ⟨by omega, by omega⟩, if_neg (by decide)]; exact h1
  · rw [ld_o (fun e => hb53.1 e.symm), ld_w ⟨by omega, by omega⟩, if_pos rfl, List.length_append]; rfl
  · rw [List.length_append]; exact hx
  · rw [ld_w hcr, ld_o hb53.1]
    by_cases e : j = bs.length
    · rw [if_pos e]
      rw [e, List.getElem?_append_right (Nat.le_refl _), Nat.sub_self] at hj
      exact Option.some.inj hj
    · rw [if_neg e]
      have hjl : j < bs.length := by
        apply Classical.byContradiction
        intro h9
        rw [List.getElem?_append_right (by omega), List.getElem?_eq_none (by show 1 ≤ j - bs.length; omega)] at hj
        cases hj
      rw [List.getElem?_append_left hjl] at hj
      exact hv j v hj
  · rw [ld_w hcr, ld_o hb53.1]
    by_cases e : j = bs.length
    · rw [if_pos e]; exact hc
    · rw [if_neg e]; exact hr j
theorem k130 {K : Option Nat → mM → Prop} (hp : PenS I R S bs n) (hl : bs.length ≤ 1900) (hc : 0 ≤ c ∧ c ≤ 127) (hK : ∀ I1 R1 S1 n1, Gp I R S I1 R1 S1 n n1 → PenS I1 R1 S1 (bs ++ [c]) n1 → K (some 53) (bd L I1 R1 S1)) : CallR (d + 5) 130 [.ref 53, .int (oI c)] (bd L I R S) K :=
  e130 (d := d + 4) (k338 hp hl hc (fun I1 R1 S1 n1 g p1 => ⟨I1, R1, S1, rfl, hK I1 R1 S1 n1 g p1⟩))
theorem k128 {K : Int32 → mM → Prop} (hp : PenS I R S bs n) (hK : K (oI (bs.length : Int)) (bd L I R S)) : CallI (d + 1) 128 [.ref 53] (bd L I R S) K := by
  refine e128 (d := d) ?_
  rw [hp.2.1]; exact hK
theorem k129 {K : Int32 → mM → Prop} {j : Nat} (hp : PenS I R S bs n) (hj : bs[j]? = some v) (hK : K (oI v) (bd L I R S)) : CallI (d + 3) 129 [.ref 53, .int (oI (j : Int))] (bd L I R S) K := by
  obtain ⟨h1, h3, hln, h16, hcs, b, hb, ha, hv, hr⟩ := hp
  have hn4 := ha.2
  have hjl : j < bs.length := by
    apply Classical.byContradiction
    intro h9
    rw [List.getElem?_eq_none (by omega)] at hj
    cases hj
  have e := hv j v hj
  have r := hr j
  rw [e] at r
  refine e129 (d := d) ⟨b, n, hb, ha, ?_⟩
  rw [h1, h3, iShr0 (m := n) (by omega), Int.min_eq_left (show (bs.length : Int) ≤ n by omega), Int.toNat_natCast, e, chr_id r]
  refine ⟨⟨by omega, by omega⟩, fun c => absurd c (by omega), fun _ => ⟨⟨by omega, by omega⟩, fun _ => ⟨fun _ => ⟨⟨by omega, by omega⟩, ⟨by omega, by omega⟩, ⟨by omega, by omega⟩, hK⟩, fun c => absurd rfl c⟩, fun c => absurd (by omega) c⟩⟩
theorem k127 (hs : StC I) (hp : PnC R S I) (hK : ∀ I1 n, Gp I R S I1 R S n n → PenS I1 R S [] n → K (bd L I1 R S)) : CallV (d + 5) 127 [.ref 53, .int (oI 0)] (bd L I R S) K := by
  obtain ⟨h1, b, n, hb, hb2, h16, hn4, hr, h3⟩ := hp
  have ha : arB S b n := ⟨hb2, hn4⟩
  have hb53 := ha.n53
  have hcs : CsC I := ⟨⟨hs.2.2.2.1, fun j hj => hs.2.1 j hj⟩, hs.2.2.1⟩
  have fin : ∀ I1 : mI, (∀ a k, ¬ (a = 53 ∧ (k = 2 ∨ k = 3)) → I1 a k = I a k) → ld I1 53 3 = 0 → K (bd L I1 R S) := fun I1 hg h0 => by
    refine hK I1 n ((Gp.refl I R S n).mm hb (fun a k _ h => hg a k h)) ⟨?_, h0, Nat.zero_le _, h16, hcs.ag (fun a k h9 => hg a k (by omega)), b, hb, ha, fun j v hj => (by cases hj), fun j => ?_⟩
    · show (I1 53 1).toInt = 0
      rw [hg 53 1 (by decide)]; exact h1
    · show 0 ≤ (I1 b j).toInt ∧ (I1 b j).toInt ≤ 127
      rw [hg b j (fun e => hb53.1 e.1)]; exact hr j
  refine e127 (d := d) ⟨⟨by omega, by omega⟩, fun c => absurd c (by omega), fun _ => ⟨b, n, hb, ha, ?_⟩⟩
  rw [h1, iShr0 (m := n) (by omega)]
  refine ⟨⟨by omega, by omega⟩, fun c => absurd c (by omega), fun _ => ⟨fun c => absurd c (by omega), fun _ => ⟨fun _ => fin _ (fun a k h => ?_) ?_, fun _ => fin _ (fun a k h => ?_) ?_⟩⟩⟩
  · rw [show u2 (u2 I 53 2 (oI 1)) 53 3 (oI 0) a k = u2 I 53 2 (oI 1) a k from if_neg (by rintro ⟨rfl, rfl⟩; exact h ⟨rfl, Or.inr rfl⟩)]
    exact if_neg (by rintro ⟨rfl, rfl⟩; exact h ⟨rfl, Or.inl rfl⟩)
  · rw [ld_w (inRd rfl), if_pos rfl]
  · exact if_neg (by rintro ⟨rfl, rfl⟩; exact h ⟨rfl, Or.inr rfl⟩)
  · rw [ld_w (inRd rfl), if_pos rfl]
end
