set_option maxRecDepth 4000 in
theorem e52 {d L : Nat} {I : Nat → Nat → Int32} {R : Nat → Nat → Option Nat} {S : List (Nat × Nat)} {K : Int32 → mM → Prop} {A : aS} (hC : RC R S I A) {x1 : Int} (hE : inR x1 ∧ (((1 ≤ x1 ∧ x1 ≤ 9) → ∀ (I4 : mI), (Fr [87] [] (u2 (u2 (u2 I 85 0 (oI x1)) 85 1 (oI 0)) 85 2 (oI 0)) I4) → (∀ j : Nat, j < 10 → ld I4 87 j = 0) → ∀ (I7 : mI), (Fr [89] [] I4 I7) → (∀ j : Nat, j < 600 → ld I7 89 j = 0) → (∀ j, 600 ≤ j → I7 89 j = I4 89 j) → ∀ (I11 : mI), (Fr [90] [] I7 I11) → (∀ j : Nat, j < 60 → ld I11 90 j = 0) → K (oI 1) (bd L I11 R S)) ∧ (¬ (1 ≤ x1 ∧ x1 ≤ 9) → K (oI 0) (bd L I R S)))) : CallI (d + 2) 52 [.ref 8, .int (oI x1)] (bd L I R S) K := by
  refine cI_of (ls := [.ref 8, .int (oI x1)]) rfl ?_
  refine xG gb52.1 ?_
  refine s4 (x := x1) rfl ?_
  refine s0 ?_
  refine s0 ?_
  obtain ⟨g1, hE⟩ := hE
  refine sI rc3 rfl (Nat.le_of_ble_eq_true rfl) ?_
  refine k3 g1 (inRd rfl) (inRd rfl) (fun c2 => ?_) (fun c2 => ?_)
  · replace hE := hE.1 c2
    refine s68 (inRd rfl) (fun c3 => absurd c3 (by decide)) (fun _ => ?_)
    refine xG gb52.2 ?_
    refine s6 (p := 8) rfl ?_
    refine s51 sh8 (by decide) (by decide) rf8_7 ?_
    refine s4 (x := x1) rfl ?_
    refine sV rc181 rfl (Nat.le_of_ble_eq_true rfl) ?_
    refine cV_of (ls := [.ref 85, .int (oI x1)]) rfl ?_
    refine xG gb181 ?_
    refine s6 (p := 85) rfl ?_
    refine s4 (x := x1) rfl ?_
    refine s52 sh85 (by decide) (by decide) ?_
    refine s6 (p := 85) rfl ?_
    refine s0 ?_
    refine s52 sh85 (by decide) (by decide) ?_
    refine s6 (p := 85) rfl ?_
    refine s0 ?_
    refine s52 sh85 (by decide) (by decide) ?_
    refine s6 (p := 85) rfl ?_
    refine s51 sh85 (by decide) (by decide) rf85_4 ?_
    refine s0 ?_
    refine sV rc350 rfl (Nat.le_of_ble_eq_true rfl) ?_
    refine k350a87 (inRd rfl) (fun I4 q5 q6 => ?_)
    replace hE := hE I4 q5 q6
    refine s6 (p := 85) rfl ?_
    refine s51 sh85 (by decide) (by decide) rf85_6 ?_
    refine s0 ?_
    refine sV rc350 rfl (Nat.le_of_ble_eq_true rfl) ?_
    refine k350b (inRd rfl) (fun I7 q8 q9 q10 => ?_)
    replace hE := hE I7 q8 q9 q10
    refine s6 (p := 85) rfl ?_
    refine s51 sh85 (by decide) (by decide) rf85_7 ?_
    refine s0 ?_
    refine sV rc350 rfl (Nat.le_of_ble_eq_true rfl) ?_
    refine k350a90 (inRd rfl) (fun I11 q12 q13 => ?_)
    replace hE := hE I11 q12 q13
    refine s83 ?_
    refine rqV_of ?_
    refine s0 ?_
    refine s84 (by decide) ?_
    exact rqI_of hE
  · replace hE := hE.2 c2
    refine s68 (inRd rfl) (fun _ => ?_) (fun c14 => absurd (by decide) c14)
    refine s0 ?_
    refine s84 (by decide) ?_
    exact rqI_of hE
set_option maxRecDepth 4000 in
theorem q52 {d L n : Nat} {I : mI} {R : mR} {S : mSh} {A : aS} {K : Int32 → mM → Prop} {x1 : Int} (hX : CX R S I A n) (hW : WF A) (hn : n ≤ 100000) (rx1 : inR x1) (hK : ∀ I1, FK I I1 → CX R S I1 (o286 A x1).2 (n + 1) → K (oI (o286 A x1).1) (bd L I1 R S)) : CallI (d + 2) 52 [.ref 8, .int (oI x1)] (bd L I R S) K := by
  have hC := hX.1
  have hA := hW.1
  have w0 := hA.1
  have w1 := hA.2.1
  have w2 := hA.2.2.1
  have w3 : 0 ≤ A 91 3 ∧ A 91 3 ≤ 850 := hA.2.2.2.1
  have ty := today_year hA
  have c9 := hX.2.2.2.1
  have hV := hW.2.2.2.1
  have v0 := hV.1
  have v1 := hV.2.1
  have v2 := hV.2.2.1
  refine e52 (d := d) hC ?_
  refine ⟨by first | assumption | exact inRd rfl | omega | exact ⟨by omega, by omega⟩ | (unfold WnOk; omega) | exact hW.1 | exact hW.2.1 | exact hW.2.2.1 | exact hW.2.2.2.1 | exact hW.2.2.2.2.1 | exact hW.2.2.2.2.2.2.2.2.2.1 | exact hW.2.2.2.2.2.2.2.2.2.2.1 | (constructor <;> omega), ?_⟩
  refine ⟨fun c1 => ?_, fun c1 => ?_⟩
  · intro I1 q1 z1
    intro I2 q2 z2 y2
    intro I3 q3 z3
    have ho : o286 A x1 = (1, (fl (u2 (u2 (u2 A 91 57 x1) 91 58 0) 91 59 0) 134 0 0 600)) := by
      unfold o286
      rw [if_pos (by omega)]
    rw [ho] at hK
    have h0 : RelC0 I3 (fl (u2 (u2 (u2 A 91 57 x1) 91 58 0) 91 59 0) 134 0 0 600) := RelC0.frm (relC_fill (RelC0.frm (RelC0.set (RelC0.set (RelC0.set hC.1 (a := 85) (k := 0) (v := x1) rfl rx1) (a := 85) (k := 1) (v := 0) rfl (inRd rfl)) (a := 85) (k := 2) (v := 0) rfl (inRd rfl)) q1 (fun _ => rfl)) q2 (fun _ => rfl) z2 y2) q3 (fun _ => rfl)
    have ko : ∀ ks rs, dp ks rs 91 57 = false ∧ dp ks rs 91 58 = false ∧ dp ks rs 91 59 = false → (∀ k, dp ks rs 134 k = false) → Ko ks rs A (fl (u2 (u2 (u2 A 91 57 x1) 91 58 0) 91 59 0) 134 0 0 600) := fun ks rs h1 h2 => Ko.fl (Ko.set (Ko.set (Ko.set (Ko.refl _ _ _) h1.1) h1.2.1) h1.2.2) h2 600
    have zz : ∀ i, i < 600 → (fl (u2 (u2 (u2 A 91 57 x1) 91 58 0) 91 59 0) 134 0 0 600) 134 i = 0 := fun i hi => by rw [fl_in, if_pos (by omega)]
    have hp : PoC I3 (fl (u2 (u2 (u2 A 91 57 x1) 91 58 0) 91 59 0) 134 0 0 600) := by
      constructor
      · intro k hk
        rw [vtL_0 hk zz 60 (by omega), q3.ld rfl, q2.ld rfl]
        exact z1 k hk
      · intro b hb
        rw [gvL_0 hb zz 10 (by omega)]
        exact z3 b hb
    have hr := hC.all h0 ((((KpB.wr (KpB.wr (KpB.wr (KpB.refl I) rfl) rfl) rfl).trans (Fr1.kp q1 (fun _ => rfl))).trans (Fr1.kp q2 (fun _ => rfl))).trans (Fr1.kp q3 (fun _ => rfl))) (ko _ _ ⟨rfl, rfl, rfl⟩ (fun _ => rfl)) ((hC.2.2.1.kp ((((KpB.wr (KpB.wr (KpB.wr (KpB.refl I) rfl) rfl) rfl).trans (Fr1.kp q1 (fun _ => rfl))).trans (Fr1.kp q2 (fun _ => rfl))).trans (Fr1.kp q3 (fun _ => rfl)))).ko (ko _ _ ⟨rfl, rfl, rfl⟩ (fun _ => rfl))) ((hC.2.2.2.1.kp ((((KpB.wr (KpB.wr (KpB.wr (KpB.refl I) rfl) rfl) rfl).trans (Fr1.kp q1 (fun _ => rfl))).trans (Fr1.kp q2 (fun _ => rfl))).trans (Fr1.kp q3 (fun _ => rfl)))).ko (ko _ _ ⟨rfl, rfl, rfl⟩ (fun _ => rfl))) hp ((((KpB.wr (KpB.wr (KpB.wr (KpB.refl I) rfl) rfl) rfl).trans (Fr1.kp q1 (fun _ => rfl))).trans (Fr1.kp q2 (fun _ => rfl))).trans (Fr1.kp q3 (fun _ => rfl)))
    have mm : MmK I I3 := fun a k ha => ((((KpB.wr (KpB.wr (KpB.wr (KpB.refl I) rfl) rfl) rfl).trans (Fr1.kp q1 (fun _ => rfl))).trans (Fr1.kp q2 (fun _ => rfl))).trans (Fr1.kp q3 (fun _ => rfl)) : KpB (fun a _ => mmL.contains a) I I3) a k ha
    have e9 : ld I3 8 9 = ld I 8 9 := (q3.ld rfl).trans ((q2.ld rfl).trans ((q1.ld rfl).trans rfl))
    have fk : FK I I3 := (((((FK.refl I).wr (by decide)).wr (by decide)).wr (by decide)).trans (Fr.FK q1 rfl)).trans ((Fr.FK q2 rfl).trans (Fr.FK q3 rfl))
    exact hK I3 fk (CX.up (hX.ko (ko _ _ ⟨rfl, rfl, rfl⟩ (fun _ => rfl)) hr mm e9) (Nat.le_succ n))
  · have ho : o286 A x1 = (0, A) := by
      unfold o286
      repeat' split
      all_goals first | (exfalso; omega) | with_reducible rfl
    rw [ho] at hK
    exact hK I (FK.refl I) (hX.up (Nat.le_succ n))
