def h101_3 (d L : Nat) (I : Nat → Nat → Int32) (R : Nat → Nat → Option Nat) (S : List (Nat × Nat)) (Q : Option Value → mM → Prop) (w1 : Value) (x2 : Int) (x3 : Int) (w4 : Value) : Prop := Wp d (gb 101 3) [.ref 43, w1, .int (oI x2), .int (oI x3), w4] [] (bd L I R S) Q
def h101_6 (d L : Nat) (I : Nat → Nat → Int32) (R : Nat → Nat → Option Nat) (S : List (Nat × Nat)) (Q : Option Value → mM → Prop) (w1 : Value) (w2 : Value) (x3 : Int) (w4 : Value) : Prop := Wp d (gb 101 6) [.ref 43, w1, w2, .int (oI x3), w4] [] (bd L I R S) Q
set_option maxRecDepth 4000 in
theorem e101_3 {d L : Nat} {I : Nat → Nat → Int32} {R : Nat → Nat → Option Nat} {S : List (Nat × Nat)} {Q : Option Value → mM → Prop}  {w1 : Value} {x2 : Int} {x3 : Int} {w4 : Value} (hE : inR x3 ∧ (((x3 < ld I 46 1) → (0 ≤ x3 ∧ x3 < 40) ∧ (((R 47 x3.toNat = none) → h101_3 (d + 1) L I R S Q w1 x2 (x3 + 1) .null) ∧ (∀ p4 : Nat, (R 47 x3.toNat = some p4) → obJ S p4 15 8 ∧ (CallV d 192 [.ref p4, .ref 53] (bd L I R S) (fun s => ∃ (I7 : mI) (R8 : mR) (S9 : mSh), s = bd L I7 R8 S9 ∧ ((0 ≤ ld I7 43 7 ∧ ld I7 43 7 < 320) ∧ (obJ S9 p4 15 8 ∧ (h101_3 (d + 1) L (u2 I7 43 7 (oI (ld I7 43 7 + 1))) (u2 R8 51 (ld I7 43 7).toNat (some p4)) S9 Q w1 x2 (x3 + 1) (.ref p4))))))))) ∧ (¬ (x3 < ld I 46 1) → (0 ≤ ld I 43 2 ∧ ld I 43 2 < 8) ∧ (h101_6 (d + 1) L (u2 (u2 I 52 (ld I 43 2).toNat (oI x2)) 43 2 (oI (ld I 43 2 + 1))) R S Q w1 (.int (oI x2)) x2 w4)))) : h101_3 (d + 1) L I R S Q w1 x2 x3 w4 := by
  unfold h101_3
  refine xG gb101.2.2.2.1 ?_
  refine s4 (x := x3) rfl ?_
  refine s6 (p := 43) rfl ?_
  refine s51 sh43 (by decide) (by decide) rf43_5 ?_
  refine s50 (v := ld I 46 1) sh46 (by decide) (by decide) (oI_ld _ _ _) ?_
  obtain ⟨g1, hE⟩ := hE
  refine s64 g1 (ld_inR _ _ _) (fun c2 => ?_) (fun c2 => ?_)
  · replace hE := hE.1 c2
    refine s6 (p := 43) rfl ?_
    refine s51 sh43 (by decide) (by decide) rf43_5 ?_
    refine s51 sh46 (by decide) (by decide) rf46_0 ?_
    refine s4 (x := x3) rfl ?_
    obtain ⟨g3, hE⟩ := hE
    refine s43 (o := R 47 x3.toNat) sh47 g3 rfl (rfN rfl) ?_
    refine s9o (ls' := [.ref 43, w1, .int (oI x2), .int (oI x3), vR (R 47 x3.toNat)]) (Nat.le_of_ble_eq_true rfl) rfl ?_
    refine s6o (o := R 47 x3.toNat) rfl ?_
    refine s73o (fun n5 => ?_) (fun p4 n5 => ?_)
    · replace hE := hE.1 n5
      (try rw [n5])
      show Wp _ _ [.ref 43, w1, .int (oI x2), .int (oI x3), .null] [] _ _
      refine xG gb101.2.2.2.2.1 ?_
      refine s10 (x := x3) (ls' := [.ref 43, w1, .int (oI x2), .int (oI (x3 + 1)), .null]) rfl rfl ?_
      refine s60 ?_
      exact hE
    · replace hE := hE.2 p4 n5
      (try rw [n5])
      show Wp _ _ [.ref 43, w1, .int (oI x2), .int (oI x3), .ref p4] [] _ _
      refine s6 (p := p4) rfl ?_
      refine s6 (p := 43) rfl ?_
      refine s51 sh43 (by decide) (by decide) rf43_9 ?_
      obtain ⟨o6, hE⟩ := hE
      refine sV (rcvO o6 rfl rfl) rfl (Nat.le_of_ble_eq_true rfl) ?_
      refine CallV.mono hE ?_
      rintro _ ⟨I7, R8, S9, rfl, hE⟩
      refine s6 (p := 43) rfl ?_
      refine s51 sh43 (by decide) (by decide) rf43_6 ?_
      refine s6 (p := 43) rfl ?_
      refine s50 (v := ld I7 43 7) sh43 (by decide) (by decide) (oI_ld _ _ _) ?_
      refine s6 (p := p4) rfl ?_
      obtain ⟨g10, hE⟩ := hE
      obtain ⟨o11, hE⟩ := hE
      refine s47 sh51 (by decide) g10 rfl o11.sh o11.sp rfl ?_
      refine s6 (p := 43) rfl ?_
      refine s13r ?_
      refine s50 (v := ld I7 43 7) sh43 (by decide) (by decide) (oI_ld _ _ _) ?_
      refine s0 ?_
      refine s16 ?_
      refine s52 sh43 (by decide) (by decide) ?_
      refine s79 ?_
      refine xG gb101.2.2.2.2.1 ?_
      refine s10 (x := x3) (ls' := [.ref 43, w1, .int (oI x2), .int (oI (x3 + 1)), .ref p4]) rfl rfl ?_
      refine s60 ?_
      exact hE
  · replace hE := hE.2 c2
    refine xG gb101.2.2.2.2.2.1 ?_
    refine s6 (p := 43) rfl ?_
    refine s51 sh43 (by decide) (by decide) rf43_8 ?_
    refine s6 (p := 43) rfl ?_
    refine s50 (v := ld I 43 2) sh43 (by decide) (by decide) (oI_ld _ _ _) ?_
    refine s4 (x := x2) rfl ?_
    obtain ⟨g12, hE⟩ := hE
    refine s44 sh52 (by decide) g12 rfl ?_
    refine s6 (p := 43) rfl ?_
    refine s13r ?_
    refine s50 (v := ld I 43 2) sh43 (by decide) (by decide) ((v2_ne (by decide)).trans (oI_ld _ _ _)) ?_
    refine s0 ?_
    refine s16 ?_
    refine s52 sh43 (by decide) (by decide) ?_
    refine s4 (x := x2) rfl ?_
    refine s7 (ls' := [.ref 43, w1, .int (oI x2), .int (oI x2), w4]) (Nat.le_of_ble_eq_true rfl) rfl ?_
    refine s79 ?_
    exact hE
set_option maxRecDepth 4000 in
theorem e101_6 {d L : Nat} {I : Nat → Nat → Int32} {R : Nat → Nat → Option Nat} {S : List (Nat × Nat)} {Q : Option Value → mM → Prop}  {w1 : Value} {w2 : Value} {x3 : Int} {w4 : Value} (hE : inR x3 ∧ (((x3 < 8) → CallV d 102 [.ref 43, .int (oI x3)] (bd L I R S) (fun s => ∃ (I3 : mI) (R4 : mR) (S5 : mSh), s = bd L I3 R4 S5 ∧ (h101_6 (d + 1) L I3 R4 S5 Q w1 (mNl w2) (x3 + 1) w4))) ∧ (¬ (x3 < 8) → Q (some (.int (oI (ld I 43 2 - 1)))) (bd L I R S)))) : h101_6 (d + 1) L I R S Q w1 w2 x3 w4 := by
  unfold h101_6
  refine xG gb101.2.2.2.2.2.2.1 ?_
  refine s4 (x := x3) rfl ?_
  refine s0 ?_
  obtain ⟨g1, hE⟩ := hE
  refine s64 g1 (inRd rfl) (fun c2 => ?_) (fun c2 => ?_)
  · replace hE := hE.1 c2
    refine s6 (p := 43) rfl ?_
    refine s4 (x := x3) rfl ?_
    refine sV rc102 rfl (Nat.le_of_ble_eq_true rfl) ?_
    refine CallV.mono hE ?_
    rintro _ ⟨I3, R4, S5, rfl, hE⟩
    refine s10 (x := x3) (ls' := [.ref 43, w1, mNl w2, .int (oI (x3 + 1)), w4]) rfl rfl ?_
    refine s60 ?_
    exact hE
  · replace hE := hE.2 c2
    refine xG gb101.2.2.2.2.2.2.2 ?_
    refine s6 (p := 43) rfl ?_
    refine s50 (v := ld I 43 2) sh43 (by decide) (by decide) (oI_ld _ _ _) ?_
    refine s0 ?_
    refine s17 ?_
    refine s80 ?_
    exact hE
set_option maxRecDepth 4000 in
theorem e101 {d L : Nat} {I : Nat → Nat → Int32} {R : Nat → Nat → Option Nat} {S : List (Nat × Nat)} {K : Int32 → mM → Prop}  {x1 : Int} {x2 : Int} (hE : CallV d 108 [.ref 46, .ref 45, .int (oI x1), .int (oI (ld I 43 2))] (bd L I R S) (fun s => ∃ (I1 : mI) (R2 : mR) (S3 : mSh), s = bd L I1 R2 S3 ∧ (((ld I1 46 2 = (-1)) → inR (ld I1 43 7 + (ld I1 46 1)) ∧ (((320 < ld I1 43 7 + (ld I1 46 1)) → K (oI (-1)) (bd L (u2 (u2 I1 43 1 (oI 0)) 43 3 (oI (ld I1 46 2))) R2 S3)) ∧ (¬ (320 < ld I1 43 7 + (ld I1 46 1)) → h101_3 (d + 1) L (u2 (u2 I1 43 1 (oI 0)) 43 3 (oI (ld I1 46 2))) R2 S3 (rqI K) (.int (oI x1)) x2 0 mUn))) ∧ (¬ (ld I1 46 2 = (-1)) → K (oI (-1)) (bd L (u2 (u2 I1 43 1 (oI 0)) 43 3 (oI (ld I1 46 2))) R2 S3))))) : CallI (d + 1) 101 [.ref 43, .int (oI x1), .int (oI x2)] (bd L I R S) K := by
  refine cI_of (ls := [.ref 43, .int (oI x1), .int (oI x2), mUn, mUn]) rfl ?_
  refine xG gb101.1 ?_
  refine s6 (p := 43) rfl ?_
  refine s51 sh43 (by decide) (by decide) rf43_5 ?_
  refine s6 (p := 43) rfl ?_
  refine s51 sh43 (by decide) (by decide) rf43_4 ?_
  refine s4 (x := x1) rfl ?_
  refine s6 (p := 43) rfl ?_
  refine s50 (v := ld I 43 2) sh43 (by decide) (by decide) (oI_ld _ _ _) ?_
  refine sV rc108 rfl (Nat.le_of_ble_eq_true rfl) ?_
  refine CallV.mono hE ?_
  rintro _ ⟨I1, R2, S3, rfl, hE⟩
  refine s6 (p := 43) rfl ?_
  refine s0 ?_
  refine s52 sh43 (by decide) (by decide) ?_
  refine s6 (p := 43) rfl ?_
  refine s6 (p := 43) rfl ?_
  refine s51 sh43 (by decide) (by decide) rf43_5 ?_
  refine s50 (v := ld I1 46 2) sh46 (by decide) (by decide) ((v2_ne (by decide)).trans (oI_ld _ _ _)) ?_
  refine s52 sh43 (by decide) (by decide) ?_
  refine s6 (p := 43) rfl ?_
  refine s50 (v := ld I1 46 2) sh43 (by decide) (by decide) (v2_eq) ?_
  refine s0 ?_
  refine s62 (ld_inR _ _ _) (inRd rfl) (fun c4 => ?_) (fun c4 => ?_)
  · replace hE := hE.1 c4
    refine s6 (p := 43) rfl ?_
    refine s50 (v := ld I1 43 7) sh43 (by decide) (by decide) ((v2_nk (by decide)).trans ((v2_nk (by decide)).trans (oI_ld _ _ _))) ?_
    refine s6 (p := 43) rfl ?_
    refine s51 sh43 (by decide) (by decide) rf43_5 ?_
    refine s50 (v := ld I1 46 1) sh46 (by decide) (by decide) ((v2_ne (by decide)).trans ((v2_ne (by decide)).trans (oI_ld _ _ _))) ?_
    refine s16 ?_
    refine s6 (p := 43) rfl ?_
    refine s51 sh43 (by decide) (by decide) rf43_6 ?_
    refine s48 sh51 (by decide) ?_
    obtain ⟨g5, hE⟩ := hE
    refine s66 g5 (inRd rfl) (fun c6 => ?_) (fun c6 => ?_)
    · replace hE := hE.1 c6
      refine s79 ?_
      refine xG gb101.2.1 ?_
      refine s0 ?_
      refine s80 ?_
      exact rqI_of hE
    · replace hE := hE.2 c6
      refine xG gb101.2.2.1 ?_
      refine s0 ?_
      refine s7 (ls' := [.ref 43, .int (oI x1), .int (oI x2), .int (oI 0), mUn]) (Nat.le_of_ble_eq_true rfl) rfl ?_
      refine s79 ?_
      exact hE
  · replace hE := hE.2 c4
    refine xG gb101.2.1 ?_
    refine s0 ?_
    refine s80 ?_
    exact rqI_of hE
section
variable {d L : Nat} {I I0 I1 Ib : mI} {R R0 R1 Rb : mR} {S S0 S1 Sb : mSh} {n n1 q b : Nat} {act : Int} {o : Stm} {bs : List Int}
/-- nodes kept -/
def ExN (R : mR) (S : mSh) (I : mI) (R1 : mR) (S1 : mSh) (I1 : mI) : Prop := ∀ p, obJ S p 16 5 → obJ S1 p 16 5 ∧ (∀ k, I1 p k = I p k) ∧ R1 p 3 = R p 3 ∧ R1 p 4 = R p 4
theorem ExN.ld {p k : Nat} (h : ExN R S I R1 S1 I1) (ho : obJ S p 16 5) : ld I1 p k = ld I p k := by
  show (I1 p k).toInt = (I p k).toInt
  rw [(h p ho).2.1]
theorem NLf.gen {l : Lf} (h : ExN R S I R1 S1 I1) (hn : NLf R S I q l) : NLf R1 S1 I1 q l := by
  obtain ⟨h1, h2, h3, h4, h5, h6⟩ := hn
  have e := h q h1
  exact ⟨e.1, (h.ld h1).trans h2, (h.ld h1).trans h3, (h.ld h1).trans h4, e.2.2.1.trans h5, h6⟩
theorem NJn.gen {α : Type} {kd : Int} {P P1 : Nat → α → Prop} (h : ExN R S I R1 S1 I1) (hP : ∀ q x, P q x → P1 q x ∧ R1 q 4 = R q 4) {l : List α} (hn : NJn kd P R S I q l) : NJn kd P1 R1 S1 I1 q l ∧ R1 q 4 = R q 4 := by
  rcases hn with ⟨x, h1, h2⟩ | ⟨h1, h2, h3, h4⟩
  · exact ⟨Or.inl ⟨x, h1, (hP q x h2).1⟩, (hP q x h2).2⟩
  · have e := h q h2
    refine ⟨Or.inr ⟨h1, e.1, (h.ld h2).trans h3, ?_⟩, e.2.2.2⟩
    rw [e.2.2.1]; exact NCh.ext hP _ _ h4
theorem NOne.gen (h : ExN R S I R1 S1 I1) : ∀ (n : Nat) (q : Nat) (o : One n), NOne R S I n q o → NOne R1 S1 I1 n q o ∧ R1 q 4 = R q 4
  | 0, q, o, hn => ⟨NLf.gen h hn, (h q hn.1).2.2.2⟩
  | n + 1, q, .inl l, hn => ⟨NLf.gen h hn, (h q hn.1).2.2.2⟩
  | n + 1, q, .inr (.inl o), hn => by
    obtain ⟨h1, h2, q1, h3, h4, h5⟩ := hn
    have e := h q h1
    have ih := NOne.gen h n q1 o h5
    exact ⟨⟨e.1, (h.ld h1).trans h2, q1, e.2.2.1.trans h3, ih.2.trans h4, ih.1⟩, e.2.2.2⟩
  | n + 1, q, .inr (.inr t), hn => by
    have hn2 : NJn 163 (NJn 164 (NOne R S I n) R S I) R S I q t := hn
    exact NJn.gen (P1 := NJn 164 (NOne R1 S1 I1 n) R1 S1 I1) h (fun q x hx => NJn.gen h (fun q x hx => NOne.gen h n q x hx) hx) hn2
theorem NAny.gen (h : ExN R S I R1 S1 I1) {n q : Nat} {t : Any n} (hn : NAny R S I n q t) : NAny R1 S1 I1 n q t := (NJn.gen (P1 := NJn 164 (NOne R1 S1 I1 n) R1 S1 I1) h (fun q x hx => NJn.gen h (fun q x hx => NOne.gen h n q x hx) hx) hn).1
theorem PnK.not (h : PnK R S n) {p kd m : Nat} (ho : obJ S p kd m) (hk : ¬ kd = 1) : ¬ R 53 0 = some p := by
  obtain ⟨b, hb, ha⟩ := h
  intro e
  rw [hb] at e
  have e := Option.some.inj e
  subst e
  rcases ha.1 with ⟨h9, -⟩ | h9
  · have := ho.1; omega
  · have := ho.2.symm.trans h9.2
    exact hk (congrArg Prod.fst (Option.some.inj this))
theorem Gz.ob {p kd m : Nat} (h : Gz I R S I1 R1 S1 n n1 q) (ho : obJ S p kd m) : obJ S1 p kd m := by
  obtain ⟨⟨X, rfl⟩, -⟩ := h
  exact ho.app
theorem obJ.l155 {p kd m : Nat} (ho : obJ S p kd m) : p < 155 + S.length := by have := ho.lt; have := ho.1; omega
theorem Gz.exn (h : Gz I R S I1 R1 S1 n n1 q) (hk : PnK R S n) : ExN R S I R1 S1 I1 := fun p ho =>
  ⟨h.ob ho, fun k => h.2.1 p k ho.l155 (hk.not ho (by decide)) (by have := ho.1; omega), h.2.2.1 p 3 ho.l155 (by omega) (by omega), h.2.2.1 p 4 ho.l155 (by omega) (by omega)⟩
theorem ClF.gen {q1 : Nat} (h : ClF R S I act q1 o) (he : ExN R S I R1 S1 I1) (hob : obJ S1 q1 15 8) (hI : ∀ k, I1 q1 k = I q1 k) (h6 : R1 q1 6 = R q1 6) : ClF R1 S1 I1 act q1 o := by
  obtain ⟨h1, h2, h3, h4, ⟨h5, h7, h8⟩, h9, h10⟩ := h
  have l : ∀ k, ld I1 q1 k = ld I q1 k := fun k => by unfold ld; rw [hI k]
  refine ⟨hob, (l 0).trans h2, (l 1).trans h3, (l 5).trans h4, ⟨(l 2).trans h5, (l 3).trans h7, (l 4).trans h8⟩, fun g => by rw [h6]; exact h9 g, fun t g => ?_⟩
  obtain ⟨q2, a1, a2⟩ := h10 t g
  exact ⟨q2, by rw [h6]; exact a1, a2.gen he⟩
theorem Gz.clf {q1 : Nat} (h : Gz I R S I1 R1 S1 n n1 q) (hk : PnK R S n) (hc : ClF R S I act q1 o) : ClF R1 S1 I1 act q1 o :=
  hc.gen (h.exn hk) (h.ob hc.1) (fun k => h.2.1 q1 k hc.1.l155 (hk.not hc.1 (by decide)) (by have := hc.1.1; omega)) (h.2.2.1 q1 6 hc.1.l155 (by omega) (by omega))
theorem Gz.str {qs : Nat} (h : Gz I R S I1 R1 S1 n n1 q) (hk : PnK R S n) (hs : StrO R S I qs bs) : StrO R1 S1 I1 qs bs := by
  obtain ⟨h1, h2, hB, b, h3, h4, h5, h6⟩ := hs
  have e : ∀ k, ld I1 qs k = ld I qs k := fun k => by unfold ld; rw [h.2.1 qs k h1.l155 (hk.not h1 (by decide)) (by have := h1.1; omega)]
  have e2 : ∀ k, ld I1 b k = ld I b k := fun k => by unfold ld; rw [h.2.1 b k h4.l155 h6 (by have := h4.1; omega)]
  refine ⟨h.ob h1, (e 1).trans h2, hB, b, (h.2.2.1 qs 0 h1.l155 (by have := h1.1; omega) (by omega)).trans h3, h.ob h4, fun j v hj => (e2 j).trans (h5 j v hj), ?_⟩
  rcases h.2.2.2.1 with e9 | ⟨b', e9, hb'⟩
  · rw [e9]; exact h6
  · rw [e9]; intro h9; have := Option.some.inj h9; have := h4.l155; omega
theorem Gz.exb (h : Gz I R S I1 R1 S1 n n1 q) (hk : PnK R S n) (he : Ext Rb Sb Ib R S I) (hp : ∃ X, S = Sb ++ X) (hq : 155 + Sb.length ≤ q) : Ext Rb Sb Ib R1 S1 I1 := by
  obtain ⟨X, hX⟩ := hp
  refine ⟨fun p kd m ho hc => ?_, fun b kd m ho h53 => ?_⟩
  · have a := he.1 p kd m ho hc
    have hl := ho.l155
    have hl2 := a.1.l155
    have np : ¬ R 53 0 = some p := by
      rcases hc with hc | hc
      · exact hk.not a.1 hc
      · exact fun e => hc (he.2 p kd m ho e)
    have g1 : ∀ k, R1 p k = R p k := fun k => h.2.2.1 p k hl2 (by have := ho.1; omega) (by omega)
    exact ⟨h.ob a.1, fun k => (h.2.1 p k hl2 np (by have := ho.1; omega)).trans (a.2.1 k), fun h9 => (funext g1).trans (a.2.2.1 h9), (g1 3).trans a.2.2.2.1, (g1 4).trans a.2.2.2.2⟩
  · rcases h.2.2.2.1 with e9 | ⟨b', e9, hb'⟩
    · rw [e9] at h53; exact he.2 b kd m ho h53
    · rw [e9] at h53
      have := Option.some.inj h53
      have := ho.l155
      have : S.length = Sb.length + X.length := by rw [hX, List.length_append]
      omega
theorem Ext.lo (he : Ext Rb Sb Ib R S I) (hi : ∀ a k, 155 ≤ a → I1 a k = I a k) (hr : ∀ a k, 155 ≤ a ∨ a = 53 → R1 a k = R a k) : Ext Rb Sb Ib R1 S I1 := by
  refine ⟨fun p kd m ho hc => ?_, fun b kd m ho h53 => ?_⟩
  · have a := he.1 p kd m ho hc
    have hp := ho.1
    exact ⟨a.1, fun k => (hi p k hp).trans (a.2.1 k), fun h9 => (funext fun k => hr p k (Or.inl hp)).trans (a.2.2.1 h9), (hr p 3 (Or.inl hp)).trans a.2.2.2.1, (hr p 4 (Or.inl hp)).trans a.2.2.2.2⟩
  · rw [hr 53 0 (Or.inr rfl)] at h53
    exact he.2 b kd m ho h53
theorem ExN.lo (hi : ∀ a k, 155 ≤ a → I1 a k = I a k) (hr : ∀ a k, 155 ≤ a → R1 a k = R a k) : ExN R S I R1 S I1 := fun p ho => ⟨ho, fun k => hi p k ho.1, hr p 3 ho.1, hr p 4 ho.1⟩
theorem StrO.lo {qs : Nat} (hs : StrO R S I qs bs) (hi : ∀ a k, 155 ≤ a → I1 a k = I a k) (hr : ∀ a k, 155 ≤ a ∨ a = 53 → R1 a k = R a k) : StrO R1 S I1 qs bs := by
  obtain ⟨h1, h2, hB, b, h3, h4, h5, h6⟩ := hs
  refine ⟨h1, ?_, hB, b, (hr qs 0 (Or.inl h1.1)).trans h3, h4, fun j v hj => ?_, by rw [hr 53 0 (Or.inr rfl)]; exact h6⟩
  · unfold ld; rw [hi qs 1 h1.1]; exact h2
  · unfold ld; rw [hi b j h4.1]; exact h5 j v hj
theorem ClF.lo {q1 : Nat} (hc : ClF R S I act q1 o) (hi : ∀ a k, 155 ≤ a → I1 a k = I a k) (hr : ∀ a k, 155 ≤ a → R1 a k = R a k) : ClF R1 S I1 act q1 o := hc.gen (ExN.lo hi hr) hc.1 (fun k => hi q1 k hc.1.1) (hr q1 6 hc.1.1)
theorem PnC.lo (hp : PnC R S I) (hi : ∀ a k, 155 ≤ a ∨ a = 53 ∨ a = 54 → I1 a k = I a k) (hr : R1 53 0 = R 53 0) : PnC R1 S I1 := by
  obtain ⟨h1, b, n, hb, hb2, h16, hn4, hr2, h3⟩ := hp
  have hb3 : 155 ≤ b ∨ b = 53 ∨ b = 54 := by
    rcases hb2 with ⟨e, -⟩ | e
    · exact Or.inr (Or.inr e)
    · exact Or.inl e.1
  refine ⟨?_, b, n, hr.trans hb, hb2, h16, hn4, fun j => ?_, ?_⟩
  · unfold ld; rw [hi 53 1 (Or.inr (Or.inl rfl))]; exact h1
  · unfold ld; rw [hi b j hb3]; exact hr2 j
  · unfold ld; rw [hi 53 3 (Or.inr (Or.inl rfl))]; exact h3
theorem StC.lo (hs : StC I) (hi : ∀ a k, (a = 1 ∨ a = 2 ∨ a = 3 ∨ a = 4 ∨ a = 6 ∨ a = 7 ∨ a = 58) → I1 a k = I a k) : StC I1 := by
  have l : ∀ a k, (a = 1 ∨ a = 2 ∨ a = 3 ∨ a = 4 ∨ a = 6 ∨ a = 7 ∨ a = 58) → ld I1 a k = ld I a k := fun a k h => by unfold ld; rw [hi a k h]
  exact ⟨fun k h9 => (l 1 k (by decide)).trans (hs.1 k h9), fun k h9 => (l 3 k (by decide)).trans (hs.2.1 k h9), fun k h9 => ⟨(l 6 k (by decide)).trans (hs.2.2.1 k h9).1, (l 7 k (by decide)).trans (hs.2.2.1 k h9).2⟩, (l 2 1 (by decide)).trans hs.2.2.2.1, (l 4 1 (by decide)).trans hs.2.2.2.2.1, fun k h9 => (l 58 k (by decide)).trans (hs.2.2.2.2.2 k h9)⟩
/-- where the taking of statements stands: i are written -/
def Tkn (Ib : mI) (Rb : mR) (Sb : mSh) (I0 : mI) (R0 : mR) (S0 : mSh) (n0 : Nat) (act : Int) (l : List Stm) (sz i : Nat) (I : mI) (R : mR) (S : mSh) : Prop :=
  Ext Rb Sb Ib R S I ∧ (∃ X, S = Sb ++ X) ∧ (∀ a k, a < 155 → ¬ a = 54 → ¬ (a = 53 ∧ (k = 2 ∨ k = 3)) → ¬ (a = 43 ∧ k = 7) → I a k = I0 a k) ∧ ld I 43 7 = ((sz + i : Nat) : Int) ∧
  (∀ a k, a < 155 → ¬ (a = 53 ∧ k = 0) → ¬ (a = 51 ∧ sz ≤ k ∧ k < sz + i) → R a k = R0 a k) ∧ (∀ j, j < i → R 51 (sz + j) = R0 47 j) ∧
  (∀ (j : Nat) (o : Stm), l[j]? = some o → ∃ q, R0 47 j = some q ∧ 155 + Sb.length ≤ q ∧ ClF R S I act q o ∧ (j < i → ¬ o.2.1.1 = 0 → ∃ qs, R q 7 = some qs ∧ StrO R S I qs (rnd ([], false) (cT o)).1)) ∧
  StC I ∧ PnC R S I ∧ ∃ n, PnK R S n ∧ n0 ≤ n ∧ S.length + n0 ≤ S0.length + n + 2 * i ∧ slS S + 2 * n0 ≤ slS S0 + 2 * n + 2000 * i
theorem Tkn.step {n0 sz i : Nat} {l : List Stm} {q : Nat} {n n1 : Nat} (h : Tkn Ib Rb Sb I0 R0 S0 n0 act l sz i I R S) (hinj : ∀ i j : Nat, i < j → j < l.length → ¬ R0 47 i = R0 47 j) (hi : l[i]? = some o) (hq : R0 47 i = some q) (hsz : sz + i < 320) (hk : PnK R S n) (hk1 : PnK R1 S1 n1) (g : Gz I R S I1 R1 S1 n n1 q) (hp : PnC R1 S1 I1) (ht : ¬ o.2.1.1 = 0 → ∃ qs, R1 q 7 = some qs ∧ StrO R1 S1 I1 qs (rnd ([], false) (cT o)).1) : ld I1 43 7 = ((sz + i : Nat) : Int) ∧ Tkn Ib Rb Sb I0 R0 S0 n0 act l sz (i + 1) (u2 I1 43 7 (oI (((sz + i : Nat) : Int) + 1))) (u2 R1 51 (sz + i) (some q)) S1 := by
  obtain ⟨h1, h2, h3, h4, h5, h6, h7, h8, h9, m, k1, k2, k3, k4⟩ := h
  obtain rfl := hk.uniq k1
  have hil : i < l.length := by
    apply Classical.byContradiction
    intro c
    rw [List.getElem?_eq_none (by omega)] at hi
    cases hi
  obtain ⟨pb, hpb, hpa⟩ := hk
  have hpb3 : 155 ≤ pb ∨ pb = 54 := by
    rcases hpa.1 with ⟨e, -⟩ | e
    · exact Or.inr e
    · exact Or.inl e.1
  have hk : PnK R S n := ⟨pb, hpb, hpa⟩
  obtain ⟨q', e1, e2, e3, -⟩ := h7 i o hi
  rw [hq] at e1
  have e1 := Option.some.inj e1
  subst e1
  have hq2 := e3.1.1
  have np : ∀ a, a < 155 → ¬ a = 54 → ¬ R 53 0 = some a := fun a ha h54 e => by
    rw [hpb] at e; have := Option.some.inj e; omega
  have lo : ∀ a k, a < 155 → ¬ a = 54 → ¬ (a = 53 ∧ (k = 2 ∨ k = 3)) → I1 a k = I a k := fun a k ha h54 h53 => g.2.1 a k (by omega) (np a ha h54) h53
  have e43 : ld I1 43 7 = ((sz + i : Nat) : Int) := by
    have := lo 43 7 (by decide) (by decide) (by decide)
    unfold ld at h4 ⊢; rw [this]; exact h4
  have hi9 : ∀ a k, ¬ a = 43 → u2 I1 43 7 (oI (((sz + i : Nat) : Int) + 1)) a k = I1 a k := fun a k ha => v2_ne ha
  have hr9 : ∀ a k, ¬ a = 51 → u2 R1 51 (sz + i) (some q) a k = R1 a k := fun a k ha => v2_ne ha
  refine ⟨e43, (g.exb hk h1 h2 e2).lo (fun a k ha => hi9 a k (by omega)) (fun a k ha => hr9 a k (by omega)), ?_, fun a k ha h54 h53 h43 => ?_, ?_, fun a k ha h53 h51 => ?_, fun j hj => ?_, fun j o' hj => ?_, h8.lo (fun a k ha => (hi9 a k (by omega)).trans (lo a k (by omega) (by omega) (by omega))), hp.lo (fun a k ha => hi9 a k (by omega)) (hr9 53 0 (by decide)), n1, ?_, ?_, ?_, ?_⟩
  · obtain ⟨X, hX⟩ := h2
    obtain ⟨Y, hY⟩ := g.1
    exact ⟨X ++ Y, by rw [hY, hX, List.append_assoc]⟩
  · rw [show u2 I1 43 7 (oI (((sz + i : Nat) : Int) + 1)) a k = I1 a k from if_neg h43, lo a k ha h54 h53]
    exact h3 a k ha h54 h53 h43
  · rw [ld_w ⟨by omega, by omega⟩, if_pos rfl]; omega
  · rw [show u2 R1 51 (sz + i) (some q) a k = R1 a k from if_neg (by rintro ⟨rfl, rfl⟩; exact h51 (by omega)), g.2.2.1 a k (by omega) h53 (by omega)]
    exact h5 a k ha h53 (by omega)
  · by_cases c : j = i
    · rw [c, v2_eq]; exact hq.symm
    · rw [v2_nk (by omega), g.2.2.1 51 _ (by omega) (by omega) (by omega)]
      exact h6 j (by omega)
  · obtain ⟨q2, a1, a2, a3, a4⟩ := h7 j o' hj
    have c3 := g.clf hk a3
    refine ⟨q2, a1, a2, c3.lo (fun a k ha => hi9 a k (by omega)) (fun a k ha => hr9 a k (by omega)), fun hji h0 => ?_⟩
    have hq22 := a3.1.1
    by_cases c : j = i
    · subst c
      rw [hi] at hj
      have hj := Option.some.inj hj
      subst hj
      rw [hq] at a1
      have a1 := Option.some.inj a1
      subst a1
      obtain ⟨qs, b1, b2⟩ := ht h0
      exact ⟨qs, (hr9 q 7 (by omega)).trans b1, b2.lo (fun a k ha => hi9 a k (by omega)) (fun a k ha => hr9 a k (by omega))⟩
    · obtain ⟨qs, b1, b2⟩ := a4 (by omega) h0
      have hne : ¬ q2 = q := by
        intro e
        rw [e] at a1
        exact hinj j i (by omega) hil (a1.trans hq.symm)
      refine ⟨qs, ?_, (g.str hk b2).lo (fun a k ha => hi9 a k (by omega)) (fun a k ha => hr9 a k (by omega))⟩
      rw [hr9 q2 7 (by omega), g.2.2.1 q2 7 a3.1.l155 (by omega) (by omega)]
      exact b1
  · obtain ⟨b1, c1, c2⟩ := hk1
    exact ⟨b1, (hr9 53 0 (by decide)).trans c1, c2⟩
  · have := g.2.2.2.2.1; omega
  · have := g.2.2.2.2.2.1; omega
  · have := g.2.2.2.2.2.2; omega
theorem l101_3 {n0 sz : Nat} {l : List Stm} {x2 : Int} {Q : Option Value → mM → Prop} (hl40 : l.length ≤ 40) (hz : ld I0 46 1 = (l.length : Int)) (hsz : sz + l.length ≤ 320) (hok : ∀ o ∈ l, StmOk o ∧ (¬ o.2.1.1 = 0 → (rnd ([], false) (cT o)).1.length ≤ 1900)) (hinj : ∀ i j : Nat, i < j → j < l.length → ¬ R0 47 i = R0 47 j) (hac : 0 ≤ ld I0 43 2 ∧ ld I0 43 2 < 8) (hgo : ∀ I R S w w4, Tkn Ib Rb Sb I0 R0 S0 n0 act l sz l.length I R S → h101_6 (d + 54) L (u2 (u2 I 52 (ld I0 43 2).toNat (oI x2)) 43 2 (oI (ld I0 43 2 + 1))) R S Q w (.int (oI x2)) x2 w4) : ∀ (g i : Nat) (I : mI) (R : mR) (S : mSh) (w w4 : Value), i + g = l.length → Tkn Ib Rb Sb I0 R0 S0 n0 act l sz i I R S → h101_3 (d + 54) L I R S Q w x2 (i : Int) w4 := by
  intro g
  induction g with
  | zero =>
    intro i I R S w w4 hi ht
    obtain rfl : i = l.length := by omega
    have e1 : ld I 46 1 = ld I0 46 1 := by unfold ld; rw [ht.2.2.1 46 1 (by decide) (by decide) (by decide) (by decide)]
    have e2 : ld I 43 2 = ld I0 43 2 := by unfold ld; rw [ht.2.2.1 43 2 (by decide) (by decide) (by decide) (by decide)]
    refine e101_3 (d := d + 53) ⟨⟨by omega, by omega⟩, fun c => absurd c (by omega), fun _ => ?_⟩
    rw [e2]
    exact ⟨hac, hgo I R S w w4 ht⟩
  | succ g ih =>
    intro i I R S w w4 hi ht
    have e1 : ld I 46 1 = ld I0 46 1 := by unfold ld; rw [ht.2.2.1 46 1 (by decide) (by decide) (by decide) (by decide)]
    obtain ⟨o, ho⟩ : ∃ o, l[i]? = some o := ⟨_, List.getElem?_eq_getElem (by omega)⟩
    obtain ⟨q, a1, a2, a3, a4⟩ := ht.2.2.2.2.2.2.1 i o ho
    have r47 : R 47 i = some q := (ht.2.2.2.2.1 47 i (by decide) (by omega) (by omega)).trans a1
    have hom := hok o (List.mem_of_getElem? ho)
    refine e101_3 (d := d + 53) ⟨⟨by omega, by omega⟩, fun _ => ⟨⟨by omega, by omega⟩, ?_⟩, fun c => absurd (by omega) c⟩
    rw [Int.toNat_natCast, r47]
    refine ⟨fun c => (by cases c), fun p4 c => ?_⟩
    cases c
    refine ⟨a3.1, k192 (d := d) ht.2.2.2.2.2.2.2.1 ht.2.2.2.2.2.2.2.2.1 a3 hom.1 hom.2 (fun I1 R1 S1 n n1 b1 b2 b3 b4 b5 b6 => ?_)⟩
    obtain ⟨e43, tk⟩ := ht.step hinj ho a1 (by omega) b1 b2 b3 b4 b6
    refine ⟨I1, R1, S1, rfl, ?_⟩
    rw [e43, Int.toNat_natCast, show (i : Int) + 1 = ((i + 1 : Nat) : Int) by omega]
    exact ⟨⟨by omega, by omega⟩, b3.ob a3.1, ih (i + 1) _ _ _ w _ (by omega) tk⟩
end
