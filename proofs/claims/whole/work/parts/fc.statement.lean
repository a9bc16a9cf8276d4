set_option maxRecDepth 4000 in
theorem e122 {d L : Nat} {I : Nat → Nat → Int32} {R : Nat → Nat → Option Nat} {S : List (Nat × Nat)} {K : Int32 → mM → Prop}  {x0 : Int} (hE : inR x0 ∧ (((x0 < 130) → ((x0 = 137) → K (oI 1) (bd L I R S)) ∧ (¬ (x0 = 137) → ((x0 = 144) → K (oI 1) (bd L I R S)) ∧ (¬ (x0 = 144) → K (oI 0) (bd L I R S)))) ∧ (¬ (x0 < 130) → ((135 < x0) → ((x0 = 137) → K (oI 1) (bd L I R S)) ∧ (¬ (x0 = 137) → ((x0 = 144) → K (oI 1) (bd L I R S)) ∧ (¬ (x0 = 144) → K (oI 0) (bd L I R S)))) ∧ (¬ (135 < x0) → K (oI 1) (bd L I R S))))) : CallI d 122 [.int (oI x0)] (bd L I R S) K := by
  refine cI_of (ls := [.int (oI x0)]) rfl ?_
  refine xG gb122.1 ?_
  refine s4 (x := x0) rfl ?_
  refine s0 ?_
  obtain ⟨g1, hE⟩ := hE
  refine s63 g1 (inRd rfl) (fun c2 => ?_) (fun c2 => ?_)
  · replace hE := hE.1 c2
    refine xG gb122.2.1 ?_
    refine s4 (x := x0) rfl ?_
    refine s0 ?_
    refine s61 g1 (inRd rfl) (fun c3 => ?_) (fun c3 => ?_)
    · replace hE := hE.1 c3
      refine xG gb122.2.2.1 ?_
      refine s0 ?_
      refine s60 ?_
      refine xG gb122.2.2.2.2 ?_
      refine s84 (by decide) ?_
      exact rqI_of hE
    · replace hE := hE.2 c3
      refine s4 (x := x0) rfl ?_
      refine s0 ?_
      refine s62 g1 (inRd rfl) (fun c4 => ?_) (fun c4 => ?_)
      · replace hE := hE.1 c4
        refine s79 ?_
        refine xG gb122.2.2.1 ?_
        refine s0 ?_
        refine s60 ?_
        refine xG gb122.2.2.2.2 ?_
        refine s84 (by decide) ?_
        exact rqI_of hE
      · replace hE := hE.2 c4
        refine xG gb122.2.2.2.1 ?_
        refine s0 ?_
        refine s79 ?_
        refine xG gb122.2.2.2.2 ?_
        refine s84 (by decide) ?_
        exact rqI_of hE
  · replace hE := hE.2 c2
    refine s4 (x := x0) rfl ?_
    refine s0 ?_
    refine s66 g1 (inRd rfl) (fun c5 => ?_) (fun c5 => ?_)
    · replace hE := hE.1 c5
      refine s79 ?_
      refine xG gb122.2.1 ?_
      refine s4 (x := x0) rfl ?_
      refine s0 ?_
      refine s61 g1 (inRd rfl) (fun c6 => ?_) (fun c6 => ?_)
      · replace hE := hE.1 c6
        refine xG gb122.2.2.1 ?_
        refine s0 ?_
        refine s60 ?_
        refine xG gb122.2.2.2.2 ?_
        refine s84 (by decide) ?_
        exact rqI_of hE
      · replace hE := hE.2 c6
        refine s4 (x := x0) rfl ?_
        refine s0 ?_
        refine s62 g1 (inRd rfl) (fun c7 => ?_) (fun c7 => ?_)
        · replace hE := hE.1 c7
          refine s79 ?_
          refine xG gb122.2.2.1 ?_
          refine s0 ?_
          refine s60 ?_
          refine xG gb122.2.2.2.2 ?_
          refine s84 (by decide) ?_
          exact rqI_of hE
        · replace hE := hE.2 c7
          refine xG gb122.2.2.2.1 ?_
          refine s0 ?_
          refine s79 ?_
          refine xG gb122.2.2.2.2 ?_
          refine s84 (by decide) ?_
          exact rqI_of hE
    · replace hE := hE.2 c5
      refine xG gb122.2.2.1 ?_
      refine s0 ?_
      refine s60 ?_
      refine xG gb122.2.2.2.2 ?_
      refine s84 (by decide) ?_
      exact rqI_of hE
section
variable {d L : Nat} {I I1 : mI} {R R1 : mR} {S S1 : mSh} {K : Int32 → mM → Prop} {x : Int}
theorem k122 (hx : inR x) (h1 : ((130 ≤ x ∧ x ≤ 135) ∨ x = 137 ∨ x = 144) → K (oI 1) (bd L I R S)) (h0 : ¬ ((130 ≤ x ∧ x ≤ 135) ∨ x = 137 ∨ x = 144) → K (oI 0) (bd L I R S)) : CallI d 122 [.int (oI x)] (bd L I R S) K :=
  e122 (d := d) ⟨hx, fun c => ⟨fun c2 => h1 (by omega), fun c2 => ⟨fun c3 => h1 (by omega), fun c3 => h0 (by omega)⟩⟩, fun c => ⟨fun c2 => ⟨fun c3 => h1 (by omega), fun c3 => ⟨fun c4 => h1 (by omega), fun c4 => h0 (by omega)⟩⟩, fun c2 => h1 (by omega)⟩⟩
/-- a clause object: what was read -/
def ClS (R : mR) (S : mSh) (I : mI) (act : Int) (q : Nat) (o : Stm) : Prop := obJ S q 15 8 ∧ ld I q 0 = o.1 ∧ ld I q 1 = ckd o.2.1.1 ∧ ld I q 5 = act ∧ (ld I q 2 = cOf o.2.1.1 o.2.1.2.1 o.2.1.2.2 ∧ ld I q 3 = cPer o.2.1.1 o.2.1.2.2 ∧ ld I q 4 = cVal o.2.1.1 o.2.1.2.1 o.2.1.2.2) ∧ (o.2.2 = none → R q 6 = none) ∧ (∀ t, o.2.2 = some t → ∃ q2, R q 6 = some q2 ∧ NAny R S I 10 q2 t) ∧ R q 7 = some 4
theorem ClS.ext {act : Int} {q : Nat} {o : Stm} (h : ClS R S I act q o) (he : Ext R S I R1 S1 I1) : ClS R1 S1 I1 act q o := by
  obtain ⟨h1, h2, h3, h4, ⟨h5, h6, h7⟩, h8, h9, h10⟩ := h
  have e := he.1 q 15 8 h1 (Or.inl (by decide))
  have e3 := e.2.2.1 (by decide)
  have l : ∀ k, ld I1 q k = ld I q k := fun k => he.ld h1 (Or.inl (by decide))
  refine ⟨e.1, (l 0).trans h2, (l 1).trans h3, (l 5).trans h4, ⟨(l 2).trans h5, (l 3).trans h6, (l 4).trans h7⟩, fun g => by rw [e3]; exact h8 g, fun t g => ?_, by rw [e3]; exact h10⟩
  obtain ⟨q2, a1, a2⟩ := h9 t g
  exact ⟨q2, by rw [e3]; exact a1, a2.ext he⟩
theorem Gw.ext {os : List (Nat × Nat)} {rs : List Nat} (h : Gw os rs I R S I1 R1 S1) (ho : os.all (fun q => decide (q.1 < 155)) = true) (hr : rs.all (fun a => decide (a < 155 ∧ ¬ a = 53)) = true) : Ext R S I R1 S1 I1 := by
  simp only [List.all_eq_true, decide_eq_true_eq] at ho hr
  have no : ∀ a k, 155 ≤ a → os.contains (a, k) = false := fun a k ha => by
    apply Bool.eq_false_iff.mpr
    intro c
    have := ho _ (List.contains_iff_mem.mp c)
    dsimp only at this
    omega
  have nr : ∀ a, 155 ≤ a ∨ a = 53 → rs.contains a = false := fun a ha => by
    apply Bool.eq_false_iff.mpr
    intro c
    have := hr _ (List.contains_iff_mem.mp c)
    omega
  refine ⟨fun p kd n hp _ => ?_, fun b kd n hb h53 => ?_⟩
  · have hl : p < 155 + S.length := by have := hp.lt; have := hp.1; omega
    exact ⟨h.ob hp, fun k => h.2.1 p k hl (no p k hp.1), fun _ => funext fun k => h.2.2 p k hl (nr p (Or.inl hp.1)), h.2.2 p 3 hl (nr p (Or.inl hp.1)), h.2.2 p 4 hl (nr p (Or.inl hp.1))⟩
  · rw [h.2.2 53 0 (by omega) (nr 53 (Or.inr rfl))] at h53
    exact h53
theorem Gw.mono {os os2 : List (Nat × Nat)} {rs rs2 : List Nat} (h : Gw os rs I R S I1 R1 S1) (h1 : ∀ a k, os2.contains (a, k) = false → os.contains (a, k) = false) (h2 : ∀ a, rs2.contains a = false → rs.contains a = false) : Gw os2 rs2 I R S I1 R1 S1 := ⟨h.1, fun a k ha ho => h.2.1 a k ha (h1 a k ho), fun a k ha ho => h.2.2 a k ha (h2 a ho)⟩
end
abbrev osM : List (Nat × Nat) := [(46, 7), (46, 2), (46, 1)]
theorem osM_N {a k : Nat} (h : osM.contains (a, k) = false) : osN.contains (a, k) = false := by
  apply Bool.eq_false_iff.mpr
  intro c
  have h1 := List.contains_iff_mem.mp c
  have h2 : (a, k) ∈ osM := by
    simp only [List.mem_cons, Prod.mk.injEq, List.not_mem_nil, or_false] at h1 ⊢
    omega
  rw [List.contains_iff_mem.mpr h2] at h
  cases h
def h115_4 (d L : Nat) (I : Nat → Nat → Int32) (R : Nat → Nat → Option Nat) (S : List (Nat × Nat)) (Q : Option Value → mM → Prop) (w1 : Value) (w2 : Value) (w3 : Value) (p4 : Nat) : Prop := Wp d (gb 115 4) [.ref 46, w1, w2, w3, .ref p4] [] (bd L I R S) Q
set_option maxRecDepth 4000 in
theorem e115_4 {d L : Nat} {I : Nat → Nat → Int32} {R : Nat → Nat → Option Nat} {S : List (Nat × Nat)} {Q : Option Value → mM → Prop}  {w1 : Value} {w2 : Value} {w3 : Value} {p4 : Nat} (hE : CallI d 118 [.ref 46, .int (oI 59)] (bd L I R S) (fun y s => ∃ (y2 : Int) (I1 : mI), y = oI y2 ∧ s = bd L I1 R S ∧ inR y2 ∧ (((y2 = 0) → Q none (bd L I1 R S)) ∧ (¬ (y2 = 0) → ((ld I1 46 1 < 40) → (0 ≤ ld I1 46 1 ∧ ld I1 46 1 < 40) ∧ (obJ S p4 15 8 ∧ (Q none (bd L (u2 I1 46 1 (oI (ld I1 46 1 + 1))) (u2 R 47 (ld I1 46 1).toNat (some p4)) S)))) ∧ (¬ (ld I1 46 1 < 40) → Q none (bd L I1 R S)))))) : h115_4 (d + 1) L I R S Q w1 w2 w3 p4 := by
  unfold h115_4
  refine xG gb115.2.2.2.2.1 ?_
  refine s6 (p := 46) rfl ?_
  refine s0 ?_
  refine sI rc118 rfl (Nat.le_of_ble_eq_true rfl) ?_
  refine CallI.mono hE ?_
  rintro _ _ ⟨y2, I1, rfl, rfl, gy2, hE⟩
  refine s67 gy2 (fun c3 => ?_) (fun c3 => ?_)
  · replace hE := hE.1 c3
    refine xG gb115.2.2.2.2.2 ?_
    refine s83 ?_
    exact hE
  · replace hE := hE.2 c3
    refine s6 (p := 46) rfl ?_
    refine s50 (v := ld I1 46 1) sh46 (by decide) (by decide) (oI_ld _ _ _) ?_
    refine s0 ?_
    refine s64 (ld_inR _ _ _) (inRd rfl) (fun c4 => ?_) (fun c4 => ?_)
    · replace hE := hE.1 c4
      refine s6 (p := 46) rfl ?_
      refine s51 sh46 (by decide) (by decide) rf46_0 ?_
      refine s6 (p := 46) rfl ?_
      refine s50 (v := ld I1 46 1) sh46 (by decide) (by decide) (oI_ld _ _ _) ?_
      refine s6 (p := p4) rfl ?_
      obtain ⟨g5, hE⟩ := hE
      obtain ⟨o6, hE⟩ := hE
      refine s47 sh47 (by decide) g5 rfl o6.sh o6.sp rfl ?_
      refine s6 (p := 46) rfl ?_
      refine s13r ?_
      refine s50 (v := ld I1 46 1) sh46 (by decide) (by decide) (oI_ld _ _ _) ?_
      refine s0 ?_
      refine s16 ?_
      refine s52 sh46 (by decide) (by decide) ?_
      refine s79 ?_
      refine xG gb115.2.2.2.2.2 ?_
      refine s83 ?_
      exact hE
    · replace hE := hE.2 c4
      refine xG gb115.2.2.2.2.2 ?_
      refine s83 ?_
      exact hE
set_option maxRecDepth 4000 in
theorem e115 {d L : Nat} {I : Nat → Nat → Int32} {R : Nat → Nat → Option Nat} {S : List (Nat × Nat)} {K : mM → Prop}  {x1 : Int} (hE : (0 ≤ ld I 46 7 ∧ ld I 46 7 < 801) ∧ (((ld I 48 (ld I 46 7).toNat = 128) → CallI (d + 1) 116 [.ref 46, .int (oI 1), .int (oI 60)] (bd L (u2 I 46 7 (oI (ld I 46 7 + 1))) R S) (fun y s => ∃ (y4 : Int) (I3 : mI), y = oI y4 ∧ s = bd L I3 R S ∧ inR y4 ∧ (∀ (p5 : Nat) (I6 : mI) (R7 : mR) (S8 : mSh), (AlC 15 8 I3 R S p5 I6 R7 S8) → (CallI (d + 1) 117 [.ref 46] (bd L I6 R7 S8) (fun y s => ∃ (y12 : Int) (I11 : mI), y = oI y12 ∧ s = bd L I11 R7 S8 ∧ inR y12 ∧ (CallV (d + 1) 119 [.ref 46, .ref p5] (bd L (u2 (u2 (u2 I11 p5 0 (oI y4)) p5 1 (oI y12)) p5 5 (oI x1)) (u2 R7 p5 7 (some 4)) S8) (fun s => ∃ (I13 : mI), s = bd L I13 (u2 R7 p5 7 (some 4)) S8 ∧ ((((130 ≤ ld I13 p5 1 ∧ ld I13 p5 1 ≤ 135) ∨ ld I13 p5 1 = 137 ∨ ld I13 p5 1 = 144) → (0 ≤ ld I13 46 7 ∧ ld I13 46 7 < 801) ∧ (((ld I13 48 (ld I13 46 7).toNat = 162) → CallI (d + 1) 118 [.ref 46, .int (oI 162)] (bd L I13 (u2 R7 p5 7 (some 4)) S8) (fun y s => ∃ (y19 : Int) (I18 : mI), y = oI y19 ∧ s = bd L I18 (u2 R7 p5 7 (some 4)) S8 ∧ inR y19 ∧ (((y19 = 0) → h115_4 (d + 2) L I18 (u2 R7 p5 7 (some 4)) S8 (rqV K) (.int (oI x1)) (.int (oI (ld I 48 (ld I 46 7).toNat))) (.int (oI y4)) p5) ∧ (¬ (y19 = 0) → CallR (d + 1) 123 [.ref 46, .int (oI 163), .int (oI 0)] (bd L I18 (u2 R7 p5 7 (some 4)) S8) (fun o24 s => ∃ (I21 : mI) (R22 : mR) (S23 : mSh), s = bd L I21 R22 S23 ∧ (obJ S23 p5 15 8 ∧ (h115_4 (d + 2) L I21 (u2 R22 p5 6 o24) S23 (rqV K) (.int (oI x1)) (.int (oI (ld I 48 (ld I 46 7).toNat))) (.int (oI y4)) p5))))))) ∧ (¬ (ld I13 48 (ld I13 46 7).toNat = 162) → h115_4 (d + 2) L I13 (u2 R7 p5 7 (some 4)) S8 (rqV K) (.int (oI x1)) (.int (oI (ld I 48 (ld I 46 7).toNat))) (.int (oI y4)) p5))) ∧ (¬ ((130 ≤ ld I13 p5 1 ∧ ld I13 p5 1 ≤ 135) ∨ ld I13 p5 1 = 137 ∨ ld I13 p5 1 = 144) → h115_4 (d + 2) L I13 (u2 R7 p5 7 (some 4)) S8 (rqV K) (.int (oI x1)) (.int (oI (ld I 48 (ld I 46 7).toNat))) (.int (oI y4)) p5))))))))) ∧ (¬ (ld I 48 (ld I 46 7).toNat = 128) → ((ld I 48 (ld I 46 7).toNat = 129) → CallI (d + 1) 116 [.ref 46, .int (oI 1), .int (oI 60)] (bd L (u2 I 46 7 (oI (ld I 46 7 + 1))) R S) (fun y s => ∃ (y29 : Int) (I28 : mI), y = oI y29 ∧ s = bd L I28 R S ∧ inR y29 ∧ (∀ (p30 : Nat) (I31 : mI) (R32 : mR) (S33 : mSh), (AlC 15 8 I28 R S p30 I31 R32 S33) → (CallV (d + 1) 119 [.ref 46, .ref p30] (bd L (u2 (u2 (u2 I31 p30 0 (oI y29)) p30 1 (oI 129)) p30 5 (oI x1)) (u2 R32 p30 7 (some 4)) S33) (fun s => ∃ (I36 : mI), s = bd L I36 (u2 R32 p30 7 (some 4)) S33 ∧ ((((130 ≤ ld I36 p30 1 ∧ ld I36 p30 1 ≤ 135) ∨ ld I36 p30 1 = 137 ∨ ld I36 p30 1 = 144) → (0 ≤ ld I36 46 7 ∧ ld I36 46 7 < 801) ∧ (((ld I36 48 (ld I36 46 7).toNat = 162) → CallI (d + 1) 118 [.ref 46, .int (oI 162)] (bd L I36 (u2 R32 p30 7 (some 4)) S33) (fun y s => ∃ (y42 : Int) (I41 : mI), y = oI y42 ∧ s = bd L I41 (u2 R32 p30 7 (some 4)) S33 ∧ inR y42 ∧ (((y42 = 0) → h115_4 (d + 2) L I41 (u2 R32 p30 7 (some 4)) S33 (rqV K) (.int (oI x1)) (.int (oI (ld I 48 (ld I 46 7).toNat))) (.int (oI y29)) p30) ∧ (¬ (y42 = 0) → CallR (d + 1) 123 [.ref 46, .int (oI 163), .int (oI 0)] (bd L I41 (u2 R32 p30 7 (some 4)) S33) (fun o47 s => ∃ (I44 : mI) (R45 : mR) (S46 : mSh), s = bd L I44 R45 S46 ∧ (obJ S46 p30 15 8 ∧ (h115_4 (d + 2) L I44 (u2 R45 p30 6 o47) S46 (rqV K) (.int (oI x1)) (.int (oI (ld I 48 (ld I 46 7).toNat))) (.int (oI y29)) p30))))))) ∧ (¬ (ld I36 48 (ld I36 46 7).toNat = 162) → h115_4 (d + 2) L I36 (u2 R32 p30 7 (some 4)) S33 (rqV K) (.int (oI x1)) (.int (oI (ld I 48 (ld I 46 7).toNat))) (.int (oI y29)) p30))) ∧ (¬ ((130 ≤ ld I36 p30 1 ∧ ld I36 p30 1 ≤ 135) ∨ ld I36 p30 1 = 137 ∨ ld I36 p30 1 = 144) → h115_4 (d + 2) L I36 (u2 R32 p30 7 (some 4)) S33 (rqV K) (.int (oI x1)) (.int (oI (ld I 48 (ld I 46 7).toNat))) (.int (oI y29)) p30))))))) ∧ (¬ (ld I 48 (ld I 46 7).toNat = 129) → CallV (d + 1) 114 [.ref 46] (bd L I R S) (fun s => ∃ (I50 : mI), s = bd L I50 R S ∧ (K (bd L I50 R S))))))) : CallV (d + 2) 115 [.ref 46, .int (oI x1)] (bd L I R S) K := by
  refine cV_of (ls := [.ref 46, .int (oI x1), mUn, mUn, mUn]) rfl ?_
  refine xG gb115.1 ?_
  refine s6 (p := 46) rfl ?_
  refine s51 sh46 (by decide) (by decide) rf46_3 ?_
  refine s6 (p := 46) rfl ?_
  refine s50 (v := ld I 46 7) sh46 (by decide) (by decide) (oI_ld _ _ _) ?_
  obtain ⟨g1, hE⟩ := hE
  refine s40 (v := ld I 48 (ld I 46 7).toNat) sh48 g1 rfl (oI_ld _ _ _) ?_
  refine s7 (ls' := [.ref 46, .int (oI x1), .int (oI (ld I 48 (ld I 46 7).toNat)), mUn, mUn]) (Nat.le_of_ble_eq_true rfl) rfl ?_
  refine s4 (x := ld I 48 (ld I 46 7).toNat) rfl ?_
  refine s0 ?_
  refine s61 (ld_inR _ _ _) (inRd rfl) (fun c2 => ?_) (fun c2 => ?_)
  · replace hE := hE.1 c2
    refine xG gb115.2.1 ?_
    refine s6 (p := 46) rfl ?_
    refine s13r ?_
    refine s50 (v := ld I 46 7) sh46 (by decide) (by decide) (oI_ld _ _ _) ?_
    refine s0 ?_
    refine s16 ?_
    refine s52 sh46 (by decide) (by decide) ?_
    refine s6 (p := 46) rfl ?_
    refine s0 ?_
    refine s0 ?_
    refine sI rc116 rfl (Nat.le_of_ble_eq_true rfl) ?_
    refine CallI.mono hE ?_
    rintro _ _ ⟨y4, I3, rfl, rfl, gy4, hE⟩
    refine s7 (ls' := [.ref 46, .int (oI x1), .int (oI (ld I 48 (ld I 46 7).toNat)), .int (oI y4), mUn]) (Nat.le_of_ble_eq_true rfl) rfl ?_
    refine s58 rfl (fun p5 I6 R7 S8 a9 => ?_)
    replace hE := hE p5 I6 R7 S8 a9
    refine s13r ?_
    refine s4 (x := y4) rfl ?_
    refine s4 (x := ld I 48 (ld I 46 7).toNat) rfl ?_
    refine s0 ?_
    refine s62 (ld_inR _ _ _) (inRd rfl) (fun c10 => absurd c10 (fun h => absurd (h.symm.trans c2) (by decide))) (fun _ => ?_)
    refine xG gb115.2.2.1 ?_
    refine s6 (p := 46) rfl ?_
    refine sI rc117 rfl (Nat.le_of_ble_eq_true rfl) ?_
    refine CallI.mono hE ?_
    rintro _ _ ⟨y12, I11, rfl, rfl, gy12, hE⟩
    refine s79 ?_
    refine xG gb115.2.2.2.1 ?_
    refine sV (rcvO a9.ob rfl rfl) rfl (Nat.le_of_ble_eq_true rfl) ?_
    refine cV_of (ls := [.ref p5, .int (oI y4), .int (oI y12)]) rfl ?_
    refine xG gb191 ?_
    refine s6 (p := p5) rfl ?_
    refine s107 (Nat.le_of_ble_eq_true rfl) ?_
    refine s6 (p := p5) rfl ?_
    refine s56 ?_
    refine s53 (o := (some 4)) a9.ob.sh a9.ob.sp (by decide) a9.ob.zr ?_
    refine s6 (p := p5) rfl ?_
    refine s4 (x := y4) rfl ?_
    refine s52 a9.ob.sh a9.ob.sp (by decide) ?_
    refine s6 (p := p5) rfl ?_
    refine s4 (x := y12) rfl ?_
    refine s52 a9.ob.sh a9.ob.sp (by decide) ?_
    refine s83 ?_
    refine rqV_of ?_
    refine s9 (ls' := [.ref 46, .int (oI x1), .int (oI (ld I 48 (ld I 46 7).toNat)), .int (oI y4), .ref p5]) (Nat.le_of_ble_eq_true rfl) rfl ?_
    refine s6 (p := p5) rfl ?_
    refine s4 (x := x1) rfl ?_
    refine s52 a9.ob.sh a9.ob.sp (by decide) ?_
    refine s6 (p := 46) rfl ?_
    refine s6 (p := p5) rfl ?_
    refine sV rc119 rfl (Nat.le_of_ble_eq_true rfl) ?_
    refine CallV.mono hE ?_
    rintro _ ⟨I13, rfl, hE⟩
    refine s6 (p := p5) rfl ?_
    refine s50 (v := ld I13 p5 1) a9.ob.sh a9.ob.sp (by decide) (oI_ld _ _ _) ?_
    refine sI rc122 rfl (Nat.le_of_ble_eq_true rfl) ?_
    refine k122 (ld_inR _ _ _) (fun c14 => ?_) (fun c14 => ?_)
    · replace hE := hE.1 c14
      refine s67 (inRd rfl) (fun c15 => absurd c15 (by decide)) (fun _ => ?_)
      refine s6 (p := 46) rfl ?_
      refine s51 sh46 (by decide) (by decide) rf46_3 ?_
      refine s6 (p := 46) rfl ?_
      refine s50 (v := ld I13 46 7) sh46 (by decide) (by decide) (oI_ld _ _ _) ?_
      obtain ⟨g16, hE⟩ := hE
      refine s40 (v := ld I13 48 (ld I13 46 7).toNat) sh48 g16 rfl (oI_ld _ _ _) ?_
      refine s0 ?_
      refine s62 (ld_inR _ _ _) (inRd rfl) (fun c17 => ?_) (fun c17 => ?_)
      · replace hE := hE.1 c17
        refine s6 (p := 46) rfl ?_
        refine s0 ?_
        refine sI rc118 rfl (Nat.le_of_ble_eq_true rfl) ?_
        refine CallI.mono hE ?_
        rintro _ _ ⟨y19, I18, rfl, rfl, gy19, hE⟩
        refine s67 gy19 (fun c20 => ?_) (fun c20 => ?_)
        · replace hE := hE.1 c20
          exact hE
        · replace hE := hE.2 c20
          refine s6 (p := p5) rfl ?_
          refine s6 (p := 46) rfl ?_
          refine s0 ?_
          refine s0 ?_
          refine sR rc123 rfl (Nat.le_of_ble_eq_true rfl) ?_
          refine CallR.mono hE ?_
          rintro o24 _ ⟨I21, R22, S23, rfl, hE⟩
          obtain ⟨o25, hE⟩ := hE
          refine s53 (o := o24) o25.sh o25.sp (by decide) o25.zr ?_
          refine s79 ?_
          exact hE
      · replace hE := hE.2 c17
        exact hE
    · replace hE := hE.2 c14
      refine s67 (inRd rfl) (fun _ => ?_) (fun c26 => absurd (by decide) c26)
      exact hE
  · replace hE := hE.2 c2
    refine s4 (x := ld I 48 (ld I 46 7).toNat) rfl ?_
    refine s0 ?_
    refine s61 (ld_inR _ _ _) (inRd rfl) (fun c27 => ?_) (fun c27 => ?_)
    · replace hE := hE.1 c27
      refine xG gb115.2.1 ?_
      refine s6 (p := 46) rfl ?_
      refine s13r ?_
      refine s50 (v := ld I 46 7) sh46 (by decide) (by decide) (oI_ld _ _ _) ?_
      refine s0 ?_
      refine s16 ?_
      refine s52 sh46 (by decide) (by decide) ?_
      refine s6 (p := 46) rfl ?_
      refine s0 ?_
      refine s0 ?_
      refine sI rc116 rfl (Nat.le_of_ble_eq_true rfl) ?_
      refine CallI.mono hE ?_
      rintro _ _ ⟨y29, I28, rfl, rfl, gy29, hE⟩
      refine s7 (ls' := [.ref 46, .int (oI x1), .int (oI (ld I 48 (ld I 46 7).toNat)), .int (oI y29), mUn]) (Nat.le_of_ble_eq_true rfl) rfl ?_
      refine s58 rfl (fun p30 I31 R32 S33 a34 => ?_)
      replace hE := hE p30 I31 R32 S33 a34
      refine s13r ?_
      refine s4 (x := y29) rfl ?_
      refine s4 (x := ld I 48 (ld I 46 7).toNat) rfl ?_
      refine s0 ?_
      refine s62 (ld_inR _ _ _) (inRd rfl) (fun _ => ?_) (fun c35 => absurd c27 c35)
      refine s0 ?_
      refine s60 ?_
      refine xG gb115.2.2.2.1 ?_
      refine sV (rcvO a34.ob rfl rfl) rfl (Nat.le_of_ble_eq_true rfl) ?_
      refine cV_of (ls := [.ref p30, .int (oI y29), .int (oI 129)]) rfl ?_
      refine xG gb191 ?_
      refine s6 (p := p30) rfl ?_
      refine s107 (Nat.le_of_ble_eq_true rfl) ?_
      refine s6 (p := p30) rfl ?_
      refine s56 ?_
      refine s53 (o := (some 4)) a34.ob.sh a34.ob.sp (by decide) a34.ob.zr ?_
      refine s6 (p := p30) rfl ?_
      refine s4 (x := y29) rfl ?_
      refine s52 a34.ob.sh a34.ob.sp (by decide) ?_
      refine s6 (p := p30) rfl ?_
      refine s4 (x := 129) rfl ?_
      refine s52 a34.ob.sh a34.ob.sp (by decide) ?_
      refine s83 ?_
      refine rqV_of ?_
      refine s9 (ls' := [.ref 46, .int (oI x1), .int (oI (ld I 48 (ld I 46 7).toNat)), .int (oI y29), .ref p30]) (Nat.le_of_ble_eq_true rfl) rfl ?_
      refine s6 (p := p30) rfl ?_
      refine s4 (x := x1) rfl ?_
      refine s52 a34.ob.sh a34.ob.sp (by decide) ?_
      refine s6 (p := 46) rfl ?_
      refine s6 (p := p30) rfl ?_
      refine sV rc119 rfl (Nat.le_of_ble_eq_true rfl) ?_
      refine CallV.mono hE ?_
      rintro _ ⟨I36, rfl, hE⟩
      refine s6 (p := p30) rfl ?_
      refine s50 (v := ld I36 p30 1) a34.ob.sh a34.ob.sp (by decide) (oI_ld _ _ _) ?_
      refine sI rc122 rfl (Nat.le_of_ble_eq_true rfl) ?_
      refine k122 (ld_inR _ _ _) (fun c37 => ?_) (fun c37 => ?_)
      · replace hE := hE.1 c37
        refine s67 (inRd rfl) (fun c38 => absurd c38 (by decide)) (fun _ => ?_)
        refine s6 (p := 46) rfl ?_
        refine s51 sh46 (by decide) (by decide) rf46_3 ?_
        refine s6 (p := 46) rfl ?_
        refine s50 (v := ld I36 46 7) sh46 (by decide) (by decide) (oI_ld _ _ _) ?_
        obtain ⟨g39, hE⟩ := hE
        refine s40 (v := ld I36 48 (ld I36 46 7).toNat) sh48 g39 rfl (oI_ld _ _ _) ?_
        refine s0 ?_
        refine s62 (ld_inR _ _ _) (inRd rfl) (fun c40 => ?_) (fun c40 => ?_)
        · replace hE := hE.1 c40
          refine s6 (p := 46) rfl ?_
          refine s0 ?_
          refine sI rc118 rfl (Nat.le_of_ble_eq_true rfl) ?_
          refine CallI.mono hE ?_
          rintro _ _ ⟨y42, I41, rfl, rfl, gy42, hE⟩
          refine s67 gy42 (fun c43 => ?_) (fun c43 => ?_)
          · replace hE := hE.1 c43
            exact hE
          · replace hE := hE.2 c43
            refine s6 (p := p30) rfl ?_
            refine s6 (p := 46) rfl ?_
            refine s0 ?_
            refine s0 ?_
            refine sR rc123 rfl (Nat.le_of_ble_eq_true rfl) ?_
            refine CallR.mono hE ?_
            rintro o47 _ ⟨I44, R45, S46, rfl, hE⟩
            obtain ⟨o48, hE⟩ := hE
            refine s53 (o := o47) o48.sh o48.sp (by decide) o48.zr ?_
            refine s79 ?_
            exact hE
        · replace hE := hE.2 c40
          exact hE
      · replace hE := hE.2 c37
        refine s67 (inRd rfl) (fun _ => ?_) (fun c49 => absurd (by decide) c49)
        exact hE
    · replace hE := hE.2 c27
      refine s6 (p := 46) rfl ?_
      refine sV rc114 rfl (Nat.le_of_ble_eq_true rfl) ?_
      refine CallV.mono hE ?_
      rintro _ ⟨I50, rfl, hE⟩
      refine s83 ?_
      exact rqV_of hE
section
variable {d L : Nat} {I I0 : mI} {R R0 : mR} {S S0 : mSh} {T : Nat → Int} {N nt t t0 p0 r q F : Nat} {f x1 n : Int} {K : mM → Prop} {w w1 w2 w3 : Value}
theorem PsC.wsz {x : Int32} (h : PsC I T N nt t f) : PsC (u2 I 46 1 x) T N nt t f := by
  obtain ⟨⟨h0, h1, h2, h3⟩, h4, h5, h6, h7⟩ := h
  refine ⟨⟨h0, h1, h2, fun t' ht' => ?_⟩, h4, ?_, ?_, h7⟩
  · rw [ld_o (by decide), ld_o (by decide), ld_o (by decide)]; exact h3 t' ht'
  · rw [(fr1 I 46 1 _).ld rfl]; exact h5
  · rw [(fr1 I 46 1 _).ld rfl]; exact h6
theorem l115f (h : PsC I T N nt t f) (hf : ¬ f = -1) (hK : K (bd L I R S)) : h115_4 (d + 2) L I R S (rqV K) w1 w2 w3 q :=
  e115_4 (d := d + 1) (k118f h hf ⟨0, I, rfl, rfl, inRd rfl, fun _ => rqV_of hK, fun c => absurd rfl c⟩)
def in115 (d L : Nat) (I : mI) (R : mR) (S : mSh) (K : mM → Prop) (x1 : Int) (w : Value) (n : Int) (p : Nat) : Prop := ((((130 ≤ ld I p 1 ∧ ld I p 1 ≤ 135) ∨ ld I p 1 = 137 ∨ ld I p 1 = 144) → (0 ≤ ld I 46 7 ∧ ld I 46 7 < 801) ∧ (((ld I 48 (ld I 46 7).toNat = 162) → CallI (d + 1) 118 [.ref 46, .int (oI 162)] (bd L I R S) (fun y s => ∃ (y19 : Int) (I18 : mI), y = oI y19 ∧ s = bd L I18 R S ∧ inR y19 ∧ (((y19 = 0) → h115_4 (d + 2) L I18 R S (rqV K) (.int (oI x1)) w (.int (oI n)) p) ∧ (¬ (y19 = 0) → CallR (d + 1) 123 [.ref 46, .int (oI 163), .int (oI 0)] (bd L I18 R S) (fun o24 s => ∃ (I21 : mI) (R22 : mR) (S23 : mSh), s = bd L I21 R22 S23 ∧ (obJ S23 p 15 8 ∧ (h115_4 (d + 2) L I21 (u2 R22 p 6 o24) S23 (rqV K) (.int (oI x1)) w (.int (oI n)) p))))))) ∧ (¬ (ld I 48 (ld I 46 7).toNat = 162) → h115_4 (d + 2) L I R S (rqV K) (.int (oI x1)) w (.int (oI n)) p))) ∧ (¬ ((130 ≤ ld I p 1 ∧ ld I p 1 ≤ 135) ∨ ld I p 1 = 137 ∨ ld I p 1 = 144) → h115_4 (d + 2) L I R S (rqV K) (.int (oI x1)) w (.int (oI n)) p))
theorem in115f (h : PsC I T N nt t f) (hf : ¬ f = -1) (hK : K (bd L I R S)) : in115 d L I R S K x1 w n q :=
  ⟨fun _ => ⟨h.at.2.2.2, fun _ => k118f h hf ⟨0, I, rfl, rfl, inRd rfl, fun _ => l115f h hf hK, fun c => absurd rfl c⟩, fun _ => l115f h hf hK⟩, fun _ => l115f h hf hK⟩
theorem l115 {o : Stm} (hgw : Gw osN [] I0 R0 S0 I R S) (h : PsC I T N nt t (-1)) (hb : bl T N r = plc T N t) (ht0 : t0 ≤ t) (hcnt : S.length + t0 ≤ S0.length + t) (hq : 155 + S0.length ≤ q) (hcl : ClS R S I x1 q o) (hsz : 0 ≤ ld I0 46 1 ∧ ld I0 46 1 < 40) (hsp : smP T N F p0 = bnd (rSign T N 59 r) (fun _ r => (some o, r)))
    (k0 : ∀ (r1 : Nat) (I1 : mI) (R1 : mR) (S1 : mSh) (t1 : Nat), smP T N F p0 = (none, r1) → Gw osN [] I0 R0 S0 I1 R1 S1 → t0 ≤ t1 → S1.length + t0 ≤ S0.length + t1 → PsC I1 T N nt t1 (r1 : Int) → K (bd L I1 R1 S1))
    (k1 : ∀ (o : Stm) (r1 : Nat) (I1 : mI) (R1 : mR) (S1 : mSh) (t1 q1 : Nat), smP T N F p0 = (some o, r1) → Gw osM [47] I0 R0 S0 I1 R1 S1 → PsC I1 T N nt t1 (-1) → bl T N r1 = plc T N t1 → r1 ≤ N → t0 < t1 → S1.length + t0 ≤ S0.length + t1 → ld I1 46 1 = ld I0 46 1 + 1 → R1 47 (ld I0 46 1).toNat = some q1 → (∀ j, ¬ j = (ld I0 46 1).toNat → R1 47 j = R0 47 j) → 155 + S0.length ≤ q1 → ClS R1 S1 I1 x1 q1 o → K (bd L I1 R1 S1)) : h115_4 (d + 2) L I R S (rqV K) w1 w2 w3 q := by
  have e1 : ∀ I1, Fr [] osN I I1 → ld I1 46 1 = ld I0 46 1 := fun I1 hf => (hf.ld rfl).trans (hgw.ld (by omega) rfl)
  refine e115_4 (d := d + 1) (k118s h hb (by decide) (fun r1 I1 e cs => ⟨1, I1, rfl, rfl, inRd rfl, fun c => absurd c (by decide), fun _ => ?_⟩) (fun r1 I1 e fs => ⟨0, I1, rfl, rfl, inRd rfl, fun _ => ?_, fun c => absurd rfl c⟩))
  · have e2 := e1 I1 cs.1
    rw [e2]
    refine ⟨fun _ => ⟨hsz, hcl.1, rqV_of ?_⟩, fun c => absurd hsz.2 c⟩
    have g1 : Gw osM [47] I R S (u2 I1 46 1 (oI (ld I0 46 1 + 1))) (u2 R 47 (ld I0 46 1).toNat (some q)) S := by
      refine ⟨⟨[], (List.append_nil _).symm, fun _ h => absurd h List.not_mem_nil⟩, fun a k _ ho => ?_, fun a k _ ho => v2_ne ?_⟩
      · rw [show u2 I1 46 1 (oI (ld I0 46 1 + 1)) a k = I1 a k from if_neg (by rintro ⟨rfl, rfl⟩; cases ho)]
        exact cs.1 a k (by show (false || osN.contains (a, k)) = false; rw [osM_N ho]; rfl)
      · rintro rfl; cases ho
    refine k1 o r1 _ _ S (t + 1) q (by rw [hsp, e]; rfl) ((hgw.mono (fun _ _ h => osM_N h) (fun _ _ => rfl)).trans g1) cs.2.1.wsz cs.2.2.1 cs.2.2.2.1 (by omega) (by omega) ?_ v2_eq (fun j hj => (v2_nk hj).trans (hgw.2.2 47 j (by omega) rfl)) hq (hcl.ext (g1.ext rfl rfl))
    rw [ld_w ⟨by omega, by omega⟩, if_pos rfl]
  · obtain ⟨f1, t1, f2, f3⟩ := fs
    exact rqV_of (k0 r1 I1 R S t1 (by rw [hsp, e]; rfl) (hgw.trans (Gw.fr f1)) (by omega) (by omega) f3)
theorem ClS.set6 {o : Stm} {b : Bdy} (hq : obJ S q 15 8) (h0 : ld I q 0 = n) (h1 : ld I q 1 = ckd b.1) (h5 : ld I q 5 = x1) (hf : ld I q 2 = cOf b.1 b.2.1 b.2.2 ∧ ld I q 3 = cPer b.1 b.2.2 ∧ ld I q 4 = cVal b.1 b.2.1 b.2.2) (h6 : R q 6 = none) (h7 : R q 7 = some 4) : ClS R S I x1 q (n, b, none) :=
  ⟨hq, h0, h1, h5, hf, fun _ => h6, fun t h => (by cases h), h7⟩
theorem in115s {b : Bdy} (hF : N < F) (hgw : Gw osN [] I0 R0 S0 I R S) (h : PsC I T N nt t (-1)) (hb : bl T N r = plc T N t) (hr : r ≤ N) (ht0 : t0 ≤ t) (hcnt : S.length + t0 ≤ S0.length + t) (hq : 155 + S0.length ≤ q) (hob : obJ S q 15 8) (h0 : ld I q 0 = n) (hv : 0 ≤ b.1 ∧ b.1 ≤ 15) (h1 : ld I q 1 = ckd b.1) (h5 : ld I q 5 = x1) (hf : ld I q 2 = cOf b.1 b.2.1 b.2.2 ∧ ld I q 3 = cPer b.1 b.2.2 ∧ ld I q 4 = cVal b.1 b.2.1 b.2.2) (h6 : R q 6 = none) (h7 : R q 7 = some 4) (hsz : 0 ≤ ld I0 46 1 ∧ ld I0 46 1 < 40)
    (hsp : smP T N F p0 = bnd (if b.1 = 0 ∨ b.1 = 7 ∨ 10 ≤ b.1 then ((some (b, none), r) : Option (Bdy × Option (Any 10)) × Nat) else bnd (ifP T N F r) (fun t r => (some (b, t), r))) (fun b r => bnd (rSign T N 59 r) (fun _ r => (some (n, b), r))))
    (k0 : ∀ (r1 : Nat) (I1 : mI) (R1 : mR) (S1 : mSh) (t1 : Nat), smP T N F p0 = (none, r1) → Gw osN [] I0 R0 S0 I1 R1 S1 → t0 ≤ t1 → S1.length + t0 ≤ S0.length + t1 → PsC I1 T N nt t1 (r1 : Int) → K (bd L I1 R1 S1))
    (k1 : ∀ (o : Stm) (r1 : Nat) (I1 : mI) (R1 : mR) (S1 : mSh) (t1 q1 : Nat), smP T N F p0 = (some o, r1) → Gw osM [47] I0 R0 S0 I1 R1 S1 → PsC I1 T N nt t1 (-1) → bl T N r1 = plc T N t1 → r1 ≤ N → t0 < t1 → S1.length + t0 ≤ S0.length + t1 → ld I1 46 1 = ld I0 46 1 + 1 → R1 47 (ld I0 46 1).toNat = some q1 → (∀ j, ¬ j = (ld I0 46 1).toNat → R1 47 j = R0 47 j) → 155 + S0.length ≤ q1 → ClS R1 S1 I1 x1 q1 o → K (bd L I1 R1 S1)) : in115 (d + 34) L I R S K x1 w n q := by
  have g := h.at
  have h7' := h.2.2.1
  have hN := h.2.2.2.2
  have hpl := plc_in (T := T) (N := N) t
  have hm := tk_w (T := T) (N := N) (i := 34) (w := wIf) hpl (by decide) rfl
  have base := ClS.set6 (o := (n, b, none)) hob h0 h1 h5 hf h6 h7
  have hask : ((130 ≤ ld I q 1 ∧ ld I q 1 ≤ 135) ∨ ld I q 1 = 137 ∨ ld I q 1 = 144) ↔ ¬ (b.1 = 0 ∨ b.1 = 7 ∨ 10 ≤ b.1) := by
    rw [h1]
    unfold ckd
    split
    · omega
    · split <;> omega
  refine ⟨fun ca => ?_, fun ca => ?_⟩
  · have ca2 := hask.mp ca
    rw [if_neg ca2] at hsp
    refine ⟨g.2.2.2, ?_⟩
    rw [g.1]
    refine ⟨fun ci => ?_, fun ci => ?_⟩
    · have hok : tkOk T N (bl T N r) wIf := by rw [hb]; exact hm.mpr ci
      have es : ifP T N F r = bnd (anP T N F 10 (lt T N (bl T N r))) (fun t r => (some (some t), r)) := if_pos hok
      rw [es] at hsp
      refine k118w (i := 34) (w := wIf) h hb (by decide) rfl rfl (fun r1 I1 e cs => ⟨1, I1, rfl, rfl, inRd rfl, fun c => absurd c (by decide), fun _ => ?_⟩) (fun r1 I1 e fs => ?_)
      · rw [rWord_p hok] at e
        have er : lt T N (bl T N r) = r1 := congrArg Prod.snd e
        rw [er] at hsp
        have gw1 : Gw osN [] I0 R0 S0 I1 R S := hgw.trans (Gw.fr cs.1)
        refine kTree hF I1 R S (t + 1) r1 _ cs.2.1 cs.2.2.1 cs.2.2.2.1 (fun r2 I2 R2 S2 hs fa => ?_) (fun x r2 I2 R2 S2 t2 q2 hs cu ht2 res => ?_)
        · obtain ⟨fa1, t3, fa2, fa3, fa4⟩ := fa
          exact ⟨I2, R2, S2, rfl, fa1.ob hob, l115f (d := d + 34) fa4 (by omega) (k0 r2 I2 _ S2 t3 (by rw [hsp, hs]; rfl) ((gw1.trans fa1).wR hq) (by omega) (by omega) fa4)⟩
        · obtain ⟨cu1, cu2, cu3, cu4, cu5, cu6⟩ := cu
          have hql : q < 155 + S.length := by have := hob.lt; have := hob.1; omega
          have lq : ∀ k, ld I2 q k = ld I q k := fun k => by
            have e1 : I2 q k = I q k := (cu1.2.1 q k hql (osN_hi hob.1)).trans (cs.1 q k (by show (false || osN.contains (q, k)) = false; rw [osN_hi hob.1]; rfl))
            unfold ld; rw [e1]
          have Rq : ∀ k, R2 q k = R q k := fun k => cu1.2.2 q k hql rfl
          have tre := res.2.2.2 I2 (u2 R2 q 6 (some q2)) S2 (fun p h8 h9 => ⟨fun _ => rfl, v2_nk (by decide), fun _ => v2_nk (by decide), rfl⟩)
          refine ⟨I2, R2, S2, rfl, cu1.ob hob, ?_⟩
          refine l115 (d := d + 34) (r := r2) (o := (n, b, some x)) ((gw1.trans cu1).wR hq) cu2 cu3 (by omega) (by omega) hq ⟨cu1.ob hob, (lq 0).trans h0, (lq 1).trans h1, (lq 5).trans h5, ⟨(lq 2).trans hf.1, (lq 3).trans hf.2.1, (lq 4).trans hf.2.2⟩, fun h => (by cases h), fun t ht => ⟨q2, v2_eq, ?_⟩, (v2_nk (by decide)).trans ((Rq 7).trans h7)⟩ hsz (by rw [hsp, hs]; rfl) k0 k1
          cases ht
          exact tre
      · exfalso
        rw [rWord_p hok] at e
        cases e
    · have hok : ¬ tkOk T N (bl T N r) wIf := by rw [hb]; exact fun c => ci (hm.mp c)
      have es : ifP T N F r = (some none, bl T N r) := if_neg hok
      rw [es] at hsp
      exact l115 (d := d + 34) (r := bl T N r) (o := (n, b, none)) hgw h (by rw [bl_bl hr]; exact hb) ht0 hcnt hq base hsz hsp k0 k1
  · have ca2 : b.1 = 0 ∨ b.1 = 7 ∨ 10 ≤ b.1 := Classical.byContradiction fun c => ca (hask.mpr c)
    rw [if_pos ca2] at hsp
    exact l115 (d := d + 34) (r := r) (o := (n, b, none)) hgw h hb ht0 hcnt hq base hsz hsp k0 k1
theorem inP_n (h : kbP T N r = (none, q)) : inP T N F false r = (none, q) := by
  unfold inP
  rw [if_neg (by decide)]
  unfold kbP at h
  generalize rSign T N 58 r = y at h
  obtain ⟨y1, y2⟩ := y
  cases y1 with
  | none => exact congrArg (fun z => ((none : Option (Bdy × Option (Any 10))), z)) (congrArg Prod.snd h)
  | some u =>
    dsimp only [bnd] at h ⊢
    unfold rdP
    by_cases c : kwS T N (bl T N y2) = -1
    · rw [if_pos c] at h ⊢
      exact congrArg (fun z => ((none : Option (Bdy × Option (Any 10))), z)) (congrArg Prod.snd h)
    · rw [if_neg c] at h; cases h
theorem inP_s {v : Int} (h : kbP T N r = (some v, q)) : inP T N F false r = bnd (bdP T N v q) (fun b r => if v = 7 ∨ 10 ≤ v then (some (b, none), r) else bnd (ifP T N F r) (fun t r => (some (b, t), r))) := by
  unfold inP
  rw [if_neg (by decide)]
  unfold kbP at h
  generalize rSign T N 58 r = y at h
  obtain ⟨y1, y2⟩ := y
  cases y1 with
  | none => cases h
  | some u =>
    dsimp only [bnd] at h ⊢
    unfold rdP
    by_cases c : kwS T N (bl T N y2) = -1
    · rw [if_pos c] at h; cases h
    · rw [if_neg c] at h ⊢
      cases h
      rfl
end
