section
variable {d D L m : Nat} {I I0 I1 I2 : mI} {R R0 R1 R2 : mR} {S S0 S1 S2 : mSh} {n n0 n1 n2 b k e i q w q1 : Nat} {x c v kd act : Int} {K : mM → Prop} {ts us : List Tk} {as : List Value} {o : Stm} {bs : List Int}
/-- how many bytes the pen may hold -/
def PnK (R : mR) (S : mSh) (n : Nat) : Prop := ∃ b, R 53 0 = some b ∧ arB S b n
theorem PenS.pnk (h : PenS I R S bs n) : PnK R S n := by
  obtain ⟨-, -, -, -, -, b, hb, ha, -⟩ := h
  exact ⟨b, hb, ha⟩
theorem PenS.pnc (h : PenS I R S bs n) : PnC R S I := by
  obtain ⟨h1, h3, hln, h16, hcs, b, hb, ha, hv, hr⟩ := h
  exact ⟨h1, b, n, hb, ha.1, h16, ha.2, hr, by omega⟩
theorem PnK.uniq (h : PnK R S n) (h2 : PnK R S n1) : n = n1 := by
  obtain ⟨b, hb, ha⟩ := h
  obtain ⟨b1, hb1, ha1⟩ := h2
  rw [hb] at hb1
  have e := Option.some.inj hb1
  subst e
  rcases ha.1 with ⟨e1, e2⟩ | h1
  · rcases ha1.1 with ⟨e3, e4⟩ | h3
    · omega
    · have := h3.1; omega
  · rcases ha1.1 with ⟨e3, e4⟩ | h3
    · have := h1.1; omega
    · have := h1.2.symm.trans h3.2
      exact congrArg Prod.snd (Option.some.inj this)
theorem Gp.extb {b0 : Nat} (h : Gp I R S I1 R1 S1 n n1) (hb0 : R 53 0 = some b0) (ha0 : arB S b0 n0) : Ext R S I R1 S1 I1 := by
  refine ⟨fun p kd m ho hk => ?_, fun b kd m hb h53 => ?_⟩
  · have hl : p < 155 + S.length := by have := ho.lt; have := ho.1; omega
    have hp2 := ho.1
    refine ⟨h.ob ho, fun k => h.2.1 p k hl ?_ (by omega), fun _ => funext fun k => h.2.2.1 p k hl (by omega), h.2.2.1 p 3 hl (by omega), h.2.2.1 p 4 hl (by omega)⟩
    rcases hk with hk | hk
    · intro e
      rw [hb0] at e
      have e := Option.some.inj e
      subst e
      rcases ha0.1 with ⟨h9, -⟩ | h9
      · omega
      · have := ho.2.symm.trans h9.2
        exact hk (congrArg Prod.fst (Option.some.inj this))
    · exact hk
  · have hl : b < 155 + S.length := by have := hb.lt; have := hb.1; omega
    rcases h.2.2.2.1 with e | ⟨b', e, hb'⟩
    · rw [e] at h53; exact h53
    · rw [e] at h53; have := Option.some.inj h53; omega
/-- what the writing of clause q changes -/
def Gz (I : mI) (R : mR) (S : mSh) (I1 : mI) (R1 : mR) (S1 : mSh) (n n1 q : Nat) : Prop := (∃ X : mSh, S1 = S ++ X) ∧ (∀ a k, a < 155 + S.length → ¬ R 53 0 = some a → ¬ (a = 53 ∧ (k = 2 ∨ k = 3)) → I1 a k = I a k) ∧ (∀ a k, a < 155 + S.length → ¬ (a = 53 ∧ k = 0) → ¬ (a = q ∧ k = 7) → R1 a k = R a k) ∧ (R1 53 0 = R 53 0 ∨ ∃ b, R1 53 0 = some b ∧ 155 + S.length ≤ b) ∧ n ≤ n1 ∧ S1.length + n ≤ S.length + n1 + 2 ∧ slS S1 + 2 * n ≤ slS S + 2 * n1 + 2000
theorem Gp.gz (h : Gp I R S I1 R1 S1 n n1) : Gz I R S I1 R1 S1 n n1 q := ⟨h.1, h.2.1, fun a k ha h0 _ => h.2.2.1 a k ha h0, h.2.2.2.1, h.2.2.2.2.1, by have := h.2.2.2.2.2.1; omega, by have := h.2.2.2.2.2.2; omega⟩
theorem ckd_129 {b : Int} (h : 1 ≤ b ∧ b ≤ 15) : ¬ ckd b = 129 := by
  unfold ckd
  split
  · omega
  · split <;> omega
theorem l192 (h : Wat I0 R0 S0 n0 act q o ts I R S n) (hl : (rnd ([], false) (ts ++ [tS 59])).1.length ≤ 1900) (hq : q < 155 + S0.length)
    (hK : ∀ I1 R1 S1 n1, PnK R1 S1 n1 → Gz I0 R0 S0 I1 R1 S1 n0 n1 q → PnC R1 S1 I1 → (∃ qs, R1 q 7 = some qs ∧ StrO R1 S1 I1 qs (rnd ([], false) (ts ++ [tS 59])).1) → K (bd L I1 R1 S1)) : h192_2 (d + 9) L I R S (rqV K) q := by
  have hq2 := h.2.2.2.1.1
  refine e192_2 (d := d + 8) (h.sign (d := d + 3) (by decide) hl (fun I1 R1 S1 n1 h1 => ⟨I1, R1, S1, rfl, ?_⟩))
  refine k132 (d := d) h1.2.1 (fun qs I2 R2 S2 gt hstr hqs => ⟨I2, R2, S2, rfl, ?_, rqV_of ?_⟩)
  · obtain ⟨⟨X, e, -⟩, -⟩ := gt
    rw [e]; exact h1.2.2.2.1.app
  · obtain ⟨⟨X, ex, hx2, hxs⟩, gi, gr⟩ := gt
    have g := h1.1
    have hl1 := g.len
    have pen := h1.2.1
    have hob1 := h1.2.2.2.1
    obtain ⟨p1, p3, pln, p16, pcs, pb, hpb, hpa, hpv, hpr⟩ := pen
    have hblt := hpa.lt
    have e53 : ∀ k, ld I2 53 k = ld I1 53 k := fun k => by unfold ld; rw [gi 53 k (by omega)]
    have r53 : u2 R2 q 7 (some qs) 53 0 = some pb := by rw [v2_ne (by omega), gr 53 0 (by omega)]; exact hpb
    have haS : arB S2 pb n1 := by rw [ex]; exact hpa.app
    refine hK I2 _ S2 n1 ⟨pb, r53, haS⟩ ⟨?_, fun a k ha h0 h3 => ?_, fun a k ha h0 h7 => ?_, ?_, g.2.2.2.2.1, ?_, ?_⟩ ⟨(e53 1).trans p1, pb, n1, r53, haS.1, p16, haS.2, fun j => ?_, by rw [e53, p3]; omega⟩ ⟨qs, v2_eq, ?_⟩
    · obtain ⟨Y, ey⟩ := g.1
      exact ⟨Y ++ X, by rw [ex, ey, List.append_assoc]⟩
    · exact (gi a k (by omega)).trans (g.2.1 a k ha h0 h3)
    · rw [show u2 R2 q 7 (some qs) a k = R2 a k from if_neg h7, gr a k (by omega)]
      exact g.2.2.1 a k ha h0
    · rw [r53, ← hpb]; exact g.2.2.2.1
    · have := g.2.2.2.2.2.1
      rw [ex, List.length_append]; omega
    · have := g.2.2.2.2.2.2
      have hl9 := hl
      rw [ex, slS_app]; omega
    · show 0 ≤ (I2 pb j).toInt ∧ (I2 pb j).toInt ≤ 127
      rw [gi pb j hblt]; exact hpr j
    · obtain ⟨a1, a2, hB9, sb, a3, a4, a5, a6⟩ := hstr
      have hql : q < 155 + S1.length := by omega
      refine ⟨a1, a2, hB9, sb, ?_, a4, a5, ?_⟩
      · rw [v2_ne (by omega)]; exact a3
      · rw [v2_ne (by omega)]; exact a6
theorem cT_eq : cT o = [tW wClause] ++ [tN o.1] ++ [tS 58] ++ [tW (bdW o.2.1.1)] ++ bdR o.2.1.1 o.2.1.2.1 o.2.1.2.2 ++ cTw o.2.2 ++ [tS 59] := by
  unfold cT
  simp only [List.append_assoc, List.cons_append, List.nil_append]
theorem k192 (hs : StC I) (hp : PnC R S I) (hcl : ClF R S I act q o) (hok : StmOk o) (hl : ¬ o.2.1.1 = 0 → (rnd ([], false) (cT o)).1.length ≤ 1900)
    (hK : ∀ I1 R1 S1 n n1, PnK R S n → PnK R1 S1 n1 → Gz I R S I1 R1 S1 n n1 q → PnC R1 S1 I1 → (o.2.1.1 = 0 → R1 q 7 = R q 7) → (¬ o.2.1.1 = 0 → ∃ qs, R1 q 7 = some qs ∧ StrO R1 S1 I1 qs (rnd ([], false) (cT o)).1) → K (bd L I1 R1 S1)) : CallV (d + 53) 192 [.ref q, .ref 53] (bd L I R S) K := by
  have hq155 := hcl.1.1
  have hqlt : q < 155 + S.length := by have := hcl.1.lt; omega
  refine e192 (d := d + 52) (k127 (d := d + 47) hs hp (fun I1 n g0 p0 => ⟨I1, R, S, rfl, hcl.1, ?_⟩))
  obtain ⟨bb, hbb, hba⟩ := p0.pnk
  have x0 := g0.extb hbb hba
  have hcl1 := hcl.ext x0
  have hpk : PnK R S n := ⟨bb, hbb, hba⟩
  rw [hcl1.2.2.1]
  by_cases h0 : o.2.1.1 = 0
  · rw [h0]
    exact ⟨fun _ => hK I1 R S n n hpk hpk g0.gz p0.pnc (fun _ => rfl) (fun c => absurd h0 c), fun c => absurd rfl c⟩
  · have hl := hl h0
    obtain ⟨hno, hbo⟩ := hok
    have hbo : BdOk o.2.1 := by
      rcases hbo with e | e
      · exact absurd e h0
      · exact e.1
    have hr := hbo.1
    refine ⟨fun c => absurd c (ckd_129 hr), fun _ => ?_⟩
    rw [cT_eq] at hl
    have w0 : Wat I R S n act q o [] I1 R S n := ⟨g0, p0, rfl, hcl1⟩
    refine w0.step (cw41 (d := d + 45) (i := 0) (by decide) rfl) (wl1 (wl1 (wl1 (wl1 (wl1 (wl1 hl)))))) (fun I2 R2 S2 n2 w1 => ⟨I2, R2, S2, rfl, w1.2.2.2.1, ?_⟩)
    rw [w1.2.2.2.2.1]
    refine w1.step (cw43 (d := d + 45) (by omega)) (wl1 (wl1 (wl1 (wl1 (wl1 hl))))) (fun I3 R3 S3 n3 w2 => ⟨I3, R3, S3, rfl, ?_⟩)
    refine w2.sign (d := d + 47) (by decide) (wl1 (wl1 (wl1 (wl1 hl)))) (fun I4 R4 S4 n4 w3 => ⟨I4, R4, S4, rfl, w3.2.2.2.1, ?_⟩)
    obtain ⟨e1, e2, e3⟩ := bd_wc ⟨o.2.1.1.toNat, by omega⟩ (by show 1 ≤ o.2.1.1.toNat; omega)
    dsimp only at e1 e2 e3
    rw [show ((o.2.1.1.toNat : Nat) : Int) = o.2.1.1 by omega] at e1 e2 e3
    rw [w3.2.2.2.2.2.1]
    have cw : CwS (d + 52) L 41 [.ref 53, .int (oI (ckd o.2.1.1))] [tW (bdW o.2.1.1)] I4 R4 S4 := by rw [← e1]; exact cw41 (d := d + 45) (by omega) (by omega)
    refine w3.step cw (wl1 (wl1 (wl1 hl))) (fun I5 R5 S5 n5 w4 => ⟨I5, R5, S5, rfl, w4.2.2.2.1, ?_⟩)
    refine k193 (d := d + 43) (num0 := o.1) (b1 := o.2.1.1) (num := o.2.1.2.1) (sec := o.2.1.2.2) (tr := o.2.2) hbo w4 (wl1 (wl1 hl)) (fun I6 R6 S6 n6 w5 => ⟨I6, R6, S6, rfl, w5.2.2.2.1, ?_⟩)
    have fin : ∀ (I' : mI) (R' : mR) (S' : mSh) (n' : Nat), Wat I R S n act q o ([tW wClause] ++ [tN o.1] ++ [tS 58] ++ [tW (bdW o.2.1.1)] ++ bdR o.2.1.1 o.2.1.2.1 o.2.1.2.2 ++ cTw o.2.2) I' R' S' n' → h192_2 (d + 53) L I' R' S' (rqV K) q := fun I' R' S' n' w => l192 (d := d + 44) w hl hqlt (fun I1 R1 S1 n1 k1 k2 k3 k4 => hK I1 R1 S1 n n1 hpk k1 k2 k3 (fun c => absurd c h0) (fun _ => by rw [cT_eq]; exact k4))
    cases ht : o.2.2 with
    | none =>
      have en : cTw o.2.2 = [] := by rw [ht]; rfl
      rw [en, List.append_nil] at fin
      exact ⟨fun _ => fin I6 R6 S6 n6 w5, fun p c => (by have := w5.2.2.2.2.2.2.2.2.1 ht; rw [this] at c; cases c)⟩
    | some t =>
      obtain ⟨q2, r6, -⟩ := w5.2.2.2.2.2.2.2.2.2 t ht
      refine ⟨fun c => (by rw [r6] at c; cases c), fun p c => ?_⟩
      have en : cTw o.2.2 = [tW wIf] ++ tAny (cOne 10) (tOne 10) 0 t := by rw [ht]; rfl
      rw [en, ← List.append_assoc] at fin hl
      refine w5.step (cw41 (d := d + 45) (i := 34) (by decide) rfl) (wl1 (wl1 hl)) (fun I7 R7 S7 n7 w6 => ⟨I7, R7, S7, rfl, w6.2.2.2.1, ?_⟩)
      obtain ⟨q3, r7, tr7⟩ := w6.2.2.2.2.2.2.2.2.2 t ht
      refine ⟨q3, r7, NJn.ob tr7 (fun q a ha => NJn.ob ha (fun q x hx => NOne.ob 10 q x hx)), ?_⟩
      exact w6.step (w_tree (d := d) tr7) (wl1 hl) (fun I8 R8 S8 n8 w7 => ⟨I8, R8, S8, rfl, fin I8 R8 S8 n8 w7⟩)
end
