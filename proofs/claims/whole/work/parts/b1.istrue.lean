/-! the class: whether an IF holds -/
def EnvC (a : Nat) (I : mI) (h : Nat → Int) : Prop := ∀ i : Nat, i < 12 → ld I a (pcN i).toNat = h i
theorem NLf.ob {R : mR} {S : mSh} {I : mI} {q : Nat} {l : Lf} (h : NLf R S I q l) : obJ S q 16 5 := h.1
theorem NJn.ob {α : Type} {kd : Int} {P : Nat → α → Prop} {R : mR} {S : mSh} {I : mI} {q : Nat} {l : List α} (h : NJn kd P R S I q l) (hP : ∀ q x, P q x → obJ S q 16 5) : obJ S q 16 5 := by
  rcases h with ⟨x, -, h⟩ | ⟨-, h, -⟩
  · exact hP _ _ h
  · exact h
theorem NOne.ob {R : mR} {S : mSh} {I : mI} : ∀ (n : Nat) (q : Nat) (o : One n), NOne R S I n q o → obJ S q 16 5
  | 0, _, _, h => h.1
  | _ + 1, _, .inl _, h => h.1
  | _ + 1, _, .inr (.inl _), h => h.1
  | n + 1, _, .inr (.inr _), h => NJn.ob h (fun _ _ hx => NJn.ob hx (fun q x hx => NOne.ob n q x hx))
theorem pcN_in {x : Int} (h : 0 ≤ x ∧ x < 12) : 0 ≤ pcN x ∧ pcN x < 12 := by unfold pcN; split <;> (try split) <;> omega
def R195a60 (d L : Nat) (I : mI) (R : mR) (S : mSh) (q : Nat) (x : Int) (b : Bool) : Prop := ∀ K : Int32 → mM → Prop, K (oI (bI b)) (bd L I R S) → CallI d 195 [.ref q, .ref 60, .int (oI x)] (bd L I R S) K
def h195_4a60 (d L : Nat) (I : Nat → Nat → Int32) (R : Nat → Nat → Option Nat) (S : List (Nat × Nat)) (Q : Option Value → mM → Prop) (w0 : Value) (x2 : Int) (p3 : Option Nat) (w4 : Value) : Prop := Wp d (gb 195 4) [w0, .ref 60, .int (oI x2), vR p3, w4] [] (bd L I R S) Q
def h195_8a60 (d L : Nat) (I : Nat → Nat → Int32) (R : Nat → Nat → Option Nat) (S : List (Nat × Nat)) (Q : Option Value → mM → Prop) (w0 : Value) (x2 : Int) (p3 : Option Nat) (w4 : Value) : Prop := Wp d (gb 195 8) [w0, .ref 60, .int (oI x2), vR p3, w4] [] (bd L I R S) Q
set_option maxRecDepth 4000 in
theorem e195_4a60 {d L : Nat} {I : Nat → Nat → Int32} {R : Nat → Nat → Option Nat} {S : List (Nat × Nat)} {Q : Option Value → mM → Prop}  {w0 : Value} {x2 : Int} {p3 : Option Nat} {w4 : Value} (hE : ((p3 = none) → Q (some (.int (oI 0))) (bd L I R S)) ∧ (∀ p1 : Nat, (p3 = some p1) → obJ S p1 16 5 ∧ (∃ (b4 : Bool), R195a60 d L I R S p1 (x2 + 1) b4 ∧ (inR (bI b4) ∧ (((bI b4 = 0) → h195_4a60 (d + 1) L I R S Q w0 x2 (R p1 4) w4) ∧ (¬ (bI b4 = 0) → Q (some (.int (oI 1))) (bd L I R S))))))) : h195_4a60 (d + 1) L I R S Q w0 x2 p3 w4 := by
  unfold h195_4a60
  refine xG gb195.2.2.2.2.1 ?_
  refine s6o (o := p3) rfl ?_
  refine s73o (fun n2 => ?_) (fun p1 n2 => ?_)
  · replace hE := hE.1 n2
    (try rw [n2])
    show Wp _ _ [w0, .ref 60, .int (oI x2), .null, w4] [] _ _
    refine xG gb195.2.2.2.2.2.2.1 ?_
    refine s0 ?_
    refine s84 (by decide) ?_
    exact hE
  · replace hE := hE.2 p1 n2
    (try rw [n2])
    show Wp _ _ [w0, .ref 60, .int (oI x2), .ref p1, w4] [] _ _
    refine s6 (p := p1) rfl ?_
    refine s6 (p := 60) rfl ?_
    refine s4 (x := x2) rfl ?_
    refine s0 ?_
    refine s16 ?_
    obtain ⟨o3, hE⟩ := hE
    obtain ⟨b4, r5, hE⟩ := hE
    refine sI rc195 rfl (Nat.le_of_ble_eq_true rfl) ?_
    refine r5 _ ?_
    obtain ⟨g6, hE⟩ := hE
    refine s67 g6 (fun c7 => ?_) (fun c7 => ?_)
    · replace hE := hE.1 c7
      refine xG gb195.2.2.2.2.2.1 ?_
      refine s6 (p := p1) rfl ?_
      refine s51o (o := R p1 4) o3.sh o3.sp (by decide) o3.rf ?_
      refine s9o (ls' := [w0, .ref 60, .int (oI x2), vR (R p1 4), w4]) (Nat.le_of_ble_eq_true rfl) rfl ?_
      refine s60 ?_
      exact hE
    · replace hE := hE.2 c7
      refine s0 ?_
      refine s84 (by decide) ?_
      exact hE
set_option maxRecDepth 4000 in
theorem e195_8a60 {d L : Nat} {I : Nat → Nat → Int32} {R : Nat → Nat → Option Nat} {S : List (Nat × Nat)} {Q : Option Value → mM → Prop}  {w0 : Value} {x2 : Int} {p3 : Option Nat} {w4 : Value} (hE : ((p3 = none) → Q (some (.int (oI 1))) (bd L I R S)) ∧ (∀ p1 : Nat, (p3 = some p1) → obJ S p1 16 5 ∧ (∃ (b4 : Bool), R195a60 d L I R S p1 (x2 + 1) b4 ∧ (inR (bI b4) ∧ (((bI b4 = 0) → Q (some (.int (oI 0))) (bd L I R S)) ∧ (¬ (bI b4 = 0) → h195_8a60 (d + 1) L I R S Q w0 x2 (R p1 4) w4)))))) : h195_8a60 (d + 1) L I R S Q w0 x2 p3 w4 := by
  unfold h195_8a60
  refine xG gb195.2.2.2.2.2.2.2.2.1 ?_
  refine s6o (o := p3) rfl ?_
  refine s73o (fun n2 => ?_) (fun p1 n2 => ?_)
  · replace hE := hE.1 n2
    (try rw [n2])
    show Wp _ _ [w0, .ref 60, .int (oI x2), .null, w4] [] _ _
    refine xG gb195.2.2.2.2.2.2.2.2.2.2.1 ?_
    refine s0 ?_
    refine s84 (by decide) ?_
    exact hE
  · replace hE := hE.2 p1 n2
    (try rw [n2])
    show Wp _ _ [w0, .ref 60, .int (oI x2), .ref p1, w4] [] _ _
    refine s6 (p := p1) rfl ?_
    refine s6 (p := 60) rfl ?_
    refine s4 (x := x2) rfl ?_
    refine s0 ?_
    refine s16 ?_
    obtain ⟨o3, hE⟩ := hE
    obtain ⟨b4, r5, hE⟩ := hE
    refine sI rc195 rfl (Nat.le_of_ble_eq_true rfl) ?_
    refine r5 _ ?_
    obtain ⟨g6, hE⟩ := hE
    refine s68 g6 (fun c7 => ?_) (fun c7 => ?_)
    · replace hE := hE.1 c7
      refine s0 ?_
      refine s84 (by decide) ?_
      exact hE
    · replace hE := hE.2 c7
      refine xG gb195.2.2.2.2.2.2.2.2.2.1 ?_
      refine s6 (p := p1) rfl ?_
      refine s51o (o := R p1 4) o3.sh o3.sp (by decide) o3.rf ?_
      refine s9o (ls' := [w0, .ref 60, .int (oI x2), vR (R p1 4), w4]) (Nat.le_of_ble_eq_true rfl) rfl ?_
      refine s60 ?_
      exact hE
set_option maxRecDepth 4000 in
theorem e195a60 {d L : Nat} {I : Nat → Nat → Int32} {R : Nat → Nat → Option Nat} {S : List (Nat × Nat)} {K : Int32 → mM → Prop}  {p0 : Nat} {x2 : Int} (hE : inR x2 ∧ (((40 < x2) → K (oI 0) (bd L I R S)) ∧ (¬ (40 < x2) → obJ S p0 16 5 ∧ ((ld I p0 0 = 163 → h195_4a60 (d + 1) L I R S (rqI K) (.ref p0) x2 (R p0 3) mUn) ∧ (ld I p0 0 = 164 → h195_8a60 (d + 1) L I R S (rqI K) (.ref p0) x2 (R p0 3) mUn) ∧ (ld I p0 0 = 165 → ∃ (p7 : Nat), (R p0 3 = some p7) ∧ obJ S p7 16 5 ∧ (∃ (b10 : Bool), R195a60 d L I R S p7 (x2 + 1) b10 ∧ (inR (bI b10) ∧ (((bI b10 = 0) → K (oI 1) (bd L I R S)) ∧ (¬ (bI b10 = 0) → K (oI 0) (bd L I R S)))))) ∧ (¬ ld I p0 0 = 163 ∧ ¬ ld I p0 0 = 164 ∧ ¬ ld I p0 0 = 165 → inR (ld I p0 0 - 144) ∧ (((ld I p0 0 - 144 < 0) → ((ld I p0 1 = 60) → ((0 < ld I p0 2) → K (oI 1) (bd L I R S)) ∧ (¬ (0 < ld I p0 2) → K (oI 0) (bd L I R S))) ∧ (¬ (ld I p0 1 = 60) → ((ld I p0 1 = 62) → ((ld I p0 2 < 0) → K (oI 1) (bd L I R S)) ∧ (¬ (ld I p0 2 < 0) → K (oI 0) (bd L I R S))) ∧ (¬ (ld I p0 1 = 62) → ((0 = ld I p0 2) → K (oI 1) (bd L I R S)) ∧ (¬ (0 = ld I p0 2) → K (oI 0) (bd L I R S))))) ∧ (¬ (ld I p0 0 - 144 < 0) → ((ld I p0 0 - 144 < 12) → (0 ≤ ld I p0 0 - 144 ∧ ld I p0 0 - 144 < 12) ∧ (((ld I p0 1 = 60) → ((ld I 60 (ld I p0 0 - 144).toNat < ld I p0 2) → K (oI 1) (bd L I R S)) ∧ (¬ (ld I 60 (ld I p0 0 - 144).toNat < ld I p0 2) → K (oI 0) (bd L I R S))) ∧ (¬ (ld I p0 1 = 60) → ((ld I p0 1 = 62) → ((ld I p0 2 < ld I 60 (ld I p0 0 - 144).toNat) → K (oI 1) (bd L I R S)) ∧ (¬ (ld I p0 2 < ld I 60 (ld I p0 0 - 144).toNat) → K (oI 0) (bd L I R S))) ∧ (¬ (ld I p0 1 = 62) → ((ld I 60 (ld I p0 0 - 144).toNat = ld I p0 2) → K (oI 1) (bd L I R S)) ∧ (¬ (ld I 60 (ld I p0 0 - 144).toNat = ld I p0 2) → K (oI 0) (bd L I R S)))))) ∧ (¬ (ld I p0 0 - 144 < 12) → ((ld I p0 1 = 60) → ((0 < ld I p0 2) → K (oI 1) (bd L I R S)) ∧ (¬ (0 < ld I p0 2) → K (oI 0) (bd L I R S))) ∧ (¬ (ld I p0 1 = 60) → ((ld I p0 1 = 62) → ((ld I p0 2 < 0) → K (oI 1) (bd L I R S)) ∧ (¬ (ld I p0 2 < 0) → K (oI 0) (bd L I R S))) ∧ (¬ (ld I p0 1 = 62) → ((0 = ld I p0 2) → K (oI 1) (bd L I R S)) ∧ (¬ (0 = ld I p0 2) → K (oI 0) (bd L I R S)))))))))))) : CallI (d + 1) 195 [.ref p0, .ref 60, .int (oI x2)] (bd L I R S) K := by
  refine cI_of (ls := [.ref p0, .ref 60, .int (oI x2), mUn, mUn]) rfl ?_
  refine xG gb195.1 ?_
  refine s6 (p := p0) rfl ?_
  refine s73o (o := some p0) (fun h => absurd h (by simp)) (fun _ _ => ?_)
  refine s4 (x := x2) rfl ?_
  refine s0 ?_
  obtain ⟨g1, hE⟩ := hE
  refine s66 g1 (inRd rfl) (fun c2 => ?_) (fun c2 => ?_)
  · replace hE := hE.1 c2
    refine s79 ?_
    refine xG gb195.2.1 ?_
    refine s0 ?_
    refine s84 (by decide) ?_
    exact rqI_of hE
  · replace hE := hE.2 c2
    refine xG gb195.2.2.1 ?_
    refine s6 (p := p0) rfl ?_
    obtain ⟨o3, hE⟩ := hE
    refine s50 (v := ld I p0 0) o3.sh o3.sp (by decide) (oI_ld _ _ _) ?_
    refine s76 (ld_inR _ _ _) ?_
    by_cases c4 : ld I p0 0 = 163
    · replace hE := hE.1 c4
      rw [show mSel ((jSW.getD 195 []).getD 0 []) (ld I p0 0 - 163) = 3 by rw [c4]; rfl]
      refine xG gb195.2.2.2.1 ?_
      refine s6 (p := p0) rfl ?_
      refine s51o (o := R p0 3) o3.sh o3.sp (by decide) o3.rf ?_
      refine s9o (ls' := [.ref p0, .ref 60, .int (oI x2), vR (R p0 3), mUn]) (Nat.le_of_ble_eq_true rfl) rfl ?_
      refine s79 ?_
      exact hE
    replace hE := hE.2
    by_cases c5 : ld I p0 0 = 164
    · replace hE := hE.1 c5
      rw [show mSel ((jSW.getD 195 []).getD 0 []) (ld I p0 0 - 163) = 7 by rw [c5]; rfl]
      refine xG gb195.2.2.2.2.2.2.2.1 ?_
      refine s6 (p := p0) rfl ?_
      refine s51o (o := R p0 3) o3.sh o3.sp (by decide) o3.rf ?_
      refine s9o (ls' := [.ref p0, .ref 60, .int (oI x2), vR (R p0 3), mUn]) (Nat.le_of_ble_eq_true rfl) rfl ?_
      refine s79 ?_
      exact hE
    replace hE := hE.2
    by_cases c6 : ld I p0 0 = 165
    · replace hE := hE.1 c6
      rw [show mSel ((jSW.getD 195 []).getD 0 []) (ld I p0 0 - 163) = 11 by rw [c6]; rfl]
      refine xG gb195.2.2.2.2.2.2.2.2.2.2.2.1 ?_
      refine s6 (p := p0) rfl ?_
      refine s51o (o := R p0 3) o3.sh o3.sp (by decide) o3.rf ?_
      refine s6 (p := 60) rfl ?_
      refine s4 (x := x2) rfl ?_
      refine s0 ?_
      refine s16 ?_
      obtain ⟨p7, n8, o9, hE⟩ := hE
      (try rw [n8])
      show Wp _ _ [.ref p0, .ref 60, .int (oI x2), mUn, mUn] [.int (oI (x2 + 1)), .ref 60, .ref p7] _ _
      obtain ⟨b10, r11, hE⟩ := hE
      refine sI rc195 rfl (Nat.le_of_ble_eq_true rfl) ?_
      refine r11 _ ?_
      obtain ⟨g12, hE⟩ := hE
      refine s68 g12 (fun c13 => ?_) (fun c13 => ?_)
      · replace hE := hE.1 c13
        refine s0 ?_
        refine s60 ?_
        refine xG gb195.2.2.2.2.2.2.2.2.2.2.2.2.2.1 ?_
        refine s84 (by decide) ?_
        exact rqI_of hE
      · replace hE := hE.2 c13
        refine xG gb195.2.2.2.2.2.2.2.2.2.2.2.2.1 ?_
        refine s0 ?_
        refine s79 ?_
        refine xG gb195.2.2.2.2.2.2.2.2.2.2.2.2.2.1 ?_
        refine s84 (by decide) ?_
        exact rqI_of hE
    replace hE := hE.2
    replace hE := hE ⟨c4, c5, c6⟩
    rw [show mSel ((jSW.getD 195 []).getD 0 []) (ld I p0 0 - 163) = 14 by exact mSel_def (lo := 163) (vs := [163, 164, 165]) rfl (by intro v hv; simp only [List.mem_cons, List.not_mem_nil, or_false] at hv; omega)]
    refine xG gb195.2.2.2.2.2.2.2.2.2.2.2.2.2.2.1 ?_
    refine s6 (p := p0) rfl ?_
    refine s50 (v := ld I p0 0) o3.sh o3.sp (by decide) (oI_ld _ _ _) ?_
    refine s0 ?_
    refine s17 ?_
    refine s7 (ls' := [.ref p0, .ref 60, .int (oI x2), .int (oI (ld I p0 0 - 144)), mUn]) (Nat.le_of_ble_eq_true rfl) rfl ?_
    refine s4 (x := ld I p0 0 - 144) rfl ?_
    obtain ⟨g14, hE⟩ := hE
    refine s69 g14 (fun c15 => ?_) (fun c15 => ?_)
    · replace hE := hE.1 c15
      refine xG gb195.2.2.2.2.2.2.2.2.2.2.2.2.2.2.2.1 ?_
      refine s0 ?_
      refine s79 ?_
      refine xG gb195.2.2.2.2.2.2.2.2.2.2.2.2.2.2.2.2.1 ?_
      refine s7 (ls' := [.ref p0, .ref 60, .int (oI x2), .int (oI (ld I p0 0 - 144)), .int (oI 0)]) (Nat.le_of_ble_eq_true rfl) rfl ?_
      refine s6 (p := p0) rfl ?_
      refine s50 (v := ld I p0 1) o3.sh o3.sp (by decide) (oI_ld _ _ _) ?_
      refine s0 ?_
      refine s62 (ld_inR _ _ _) (inRd rfl) (fun c16 => ?_) (fun c16 => ?_)
      · replace hE := hE.1 c16
        refine s4 (x := 0) rfl ?_
        refine s6 (p := p0) rfl ?_
        refine s50 (v := ld I p0 2) o3.sh o3.sp (by decide) (oI_ld _ _ _) ?_
        refine s64 (inRd rfl) (ld_inR _ _ _) (fun c17 => ?_) (fun c17 => ?_)
        · replace hE := hE.1 c17
          refine s0 ?_
          refine s60 ?_
          refine xG gb195.2.2.2.2.2.2.2.2.2.2.2.2.2.2.2.2.2.2.2.2.2.2 ?_
          refine s84 (by decide) ?_
          exact rqI_of hE
        · replace hE := hE.2 c17
          refine xG gb195.2.2.2.2.2.2.2.2.2.2.2.2.2.2.2.2.2.1 ?_
          refine s0 ?_
          refine s60 ?_
          refine xG gb195.2.2.2.2.2.2.2.2.2.2.2.2.2.2.2.2.2.2.2.2.2.2 ?_
          refine s84 (by decide) ?_
          exact rqI_of hE
      · replace hE := hE.2 c16
        refine xG gb195.2.2.2.2.2.2.2.2.2.2.2.2.2.2.2.2.2.2.1 ?_
        refine s6 (p := p0) rfl ?_
        refine s50 (v := ld I p0 1) o3.sh o3.sp (by decide) (oI_ld _ _ _) ?_
        refine s0 ?_
        refine s62 (ld_inR _ _ _) (inRd rfl) (fun c18 => ?_) (fun c18 => ?_)
        · replace hE := hE.1 c18
          refine s4 (x := 0) rfl ?_
          refine s6 (p := p0) rfl ?_
          refine s50 (v := ld I p0 2) o3.sh o3.sp (by decide) (oI_ld _ _ _) ?_
          refine s66 (inRd rfl) (ld_inR _ _ _) (fun c19 => ?_) (fun c19 => ?_)
          · replace hE := hE.1 c19
            refine s0 ?_
            refine s60 ?_
            refine xG gb195.2.2.2.2.2.2.2.2.2.2.2.2.2.2.2.2.2.2.2.2.2.2 ?_
            refine s84 (by decide) ?_
            exact rqI_of hE
          · replace hE := hE.2 c19
            refine xG gb195.2.2.2.2.2.2.2.2.2.2.2.2.2.2.2.2.2.2.2.1 ?_
            refine s0 ?_
            refine s60 ?_
            refine xG gb195.2.2.2.2.2.2.2.2.2.2.2.2.2.2.2.2.2.2.2.2.2.2 ?_
            refine s84 (by decide) ?_
            exact rqI_of hE
        · replace hE := hE.2 c18
          refine xG gb195.2.2.2.2.2.2.2.2.2.2.2.2.2.2.2.2.2.2.2.2.1 ?_
          refine s4 (x := 0) rfl ?_
          refine s6 (p := p0) rfl ?_
          refine s50 (v := ld I p0 2) o3.sh o3.sp (by decide) (oI_ld _ _ _) ?_
          refine s62 (inRd rfl) (ld_inR _ _ _) (fun c20 => ?_) (fun c20 => ?_)
          · replace hE := hE.1 c20
            refine s0 ?_
            refine s60 ?_
            refine xG gb195.2.2.2.2.2.2.2.2.2.2.2.2.2.2.2.2.2.2.2.2.2.2 ?_
            refine s84 (by decide) ?_
            exact rqI_of hE
          · replace hE := hE.2 c20
            refine xG gb195.2.2.2.2.2.2.2.2.2.2.2.2.2.2.2.2.2.2.2.2.2.1 ?_
            refine s0 ?_
            refine s79 ?_
            refine xG gb195.2.2.2.2.2.2.2.2.2.2.2.2.2.2.2.2.2.2.2.2.2.2 ?_
            refine s84 (by decide) ?_
            exact rqI_of hE
    · replace hE := hE.2 c15
      refine s4 (x := ld I p0 0 - 144) rfl ?_
      refine s6 (p := 60) rfl ?_
      refine s48 sh60 (by decide) ?_
      refine s64 g14 (inRd rfl) (fun c21 => ?_) (fun c21 => ?_)
      · replace hE := hE.1 c21
        refine s6 (p := 60) rfl ?_
        refine s4 (x := ld I p0 0 - 144) rfl ?_
        obtain ⟨g22, hE⟩ := hE
        refine s40 (v := ld I 60 (ld I p0 0 - 144).toNat) sh60 g22 rfl (oI_ld _ _ _) ?_
        refine s60 ?_
        refine xG gb195.2.2.2.2.2.2.2.2.2.2.2.2.2.2.2.2.1 ?_
        refine s7 (ls' := [.ref p0, .ref 60, .int (oI x2), .int (oI (ld I p0 0 - 144)), .int (oI (ld I 60 (ld I p0 0 - 144).toNat))]) (Nat.le_of_ble_eq_true rfl) rfl ?_
        refine s6 (p := p0) rfl ?_
        refine s50 (v := ld I p0 1) o3.sh o3.sp (by decide) (oI_ld _ _ _) ?_
        refine s0 ?_
        refine s62 (ld_inR _ _ _) (inRd rfl) (fun c23 => ?_) (fun c23 => ?_)
        · replace hE := hE.1 c23
          refine s4 (x := ld I 60 (ld I p0 0 - 144).toNat) rfl ?_
          refine s6 (p := p0) rfl ?_
          refine s50 (v := ld I p0 2) o3.sh o3.sp (by decide) (oI_ld _ _ _) ?_
          refine s64 (ld_inR _ _ _) (ld_inR _ _ _) (fun c24 => ?_) (fun c24 => ?_)
          · replace hE := hE.1 c24
            refine s0 ?_
            refine s60 ?_
            refine xG gb195.2.2.2.2.2.2.2.2.2.2.2.2.2.2.2.2.2.2.2.2.2.2 ?_
            refine s84 (by decide) ?_
            exact rqI_of hE
          · replace hE := hE.2 c24
            refine xG gb195.2.2.2.2.2.2.2.2.2.2.2.2.2.2.2.2.2.1 ?_
            refine s0 ?_
            refine s60 ?_
            refine xG gb195.2.2.2.2.2.2.2.2.2.2.2.2.2.2.2.2.2.2.2.2.2.2 ?_
            refine s84 (by decide) ?_
            exact rqI_of hE
        · replace hE := hE.2 c23
          refine xG gb195.2.2.2.2.2.2.2.2.2.2.2.2.2.2.2.2.2.2.1 ?_
          refine s6 (p := p0) rfl ?_
          refine s50 (v := ld I p0 1) o3.sh o3.sp (by decide) (oI_ld _ _ _) ?_
          refine s0 ?_
          refine s62 (ld_inR _ _ _) (inRd rfl) (fun c25 => ?_) (fun c25 => ?_)
          · replace hE := hE.1 c25
            refine s4 (x := ld I 60 (ld I p0 0 - 144).toNat) rfl ?_
            refine s6 (p := p0) rfl ?_
            refine s50 (v := ld I p0 2) o3.sh o3.sp (by decide) (oI_ld _ _ _) ?_
            refine s66 (ld_inR _ _ _) (ld_inR _ _ _) (fun c26 => ?_) (fun c26 => ?_)
            · replace hE := hE.1 c26
              refine s0 ?_
              refine s60 ?_
              refine xG gb195.2.2.2.2.2.2.2.2.2.2.2.2.2.2.2.2.2.2.2.2.2.2 ?_
              refine s84 (by decide) ?_
              exact rqI_of hE
            · replace hE := hE.2 c26
              refine xG gb195.2.2.2.2.2.2.2.2.2.2.2.2.2.2.2.2.2.2.2.1 ?_
              refine s0 ?_
              refine s60 ?_
              refine xG gb195.2.2.2.2.2.2.2.2.2.2.2.2.2.2.2.2.2.2.2.2.2.2 ?_
              refine s84 (by decide) ?_
              exact rqI_of hE
          · replace hE := hE.2 c25
            refine xG gb195.2.2.2.2.2.2.2.2.2.2.2.2.2.2.2.2.2.2.2.2.1 ?_
            refine s4 (x := ld I 60 (ld I p0 0 - 144).toNat) rfl ?_
            refine s6 (p := p0) rfl ?_
            refine s50 (v := ld I p0 2) o3.sh o3.sp (by decide) (oI_ld _ _ _) ?_
            refine s62 (ld_inR _ _ _) (ld_inR _ _ _) (fun c27 => ?_) (fun c27 => ?_)
            · replace hE := hE.1 c27
              refine s0 ?_
              refine s60 ?_
              refine xG gb195.2.2.2.2.2.2.2.2.2.2.2.2.2.2.2.2.2.2.2.2.2.2 ?_
              refine s84 (by decide) ?_
              exact rqI_of hE
            · replace hE := hE.2 c27
              refine xG gb195.2.2.2.2.2.2.2.2.2.2.2.2.2.2.2.2.2.2.2.2.2.1 ?_
              refine s0 ?_
              refine s79 ?_
              refine xG gb195.2.2.2.2.2.2.2.2.2.2.2.2.2.2.2.2.2.2.2.2.2.2 ?_
              refine s84 (by decide) ?_
              exact rqI_of hE
      · replace hE := hE.2 c21
        refine xG gb195.2.2.2.2.2.2.2.2.2.2.2.2.2.2.2.1 ?_
        refine s0 ?_
        refine s79 ?_
        refine xG gb195.2.2.2.2.2.2.2.2.2.2.2.2.2.2.2.2.1 ?_
        refine s7 (ls' := [.ref p0, .ref 60, .int (oI x2), .int (oI (ld I p0 0 - 144)), .int (oI 0)]) (Nat.le_of_ble_eq_true rfl) rfl ?_
        refine s6 (p := p0) rfl ?_
        refine s50 (v := ld I p0 1) o3.sh o3.sp (by decide) (oI_ld _ _ _) ?_
        refine s0 ?_
        refine s62 (ld_inR _ _ _) (inRd rfl) (fun c28 => ?_) (fun c28 => ?_)
        · replace hE := hE.1 c28
          refine s4 (x := 0) rfl ?_
          refine s6 (p := p0) rfl ?_
          refine s50 (v := ld I p0 2) o3.sh o3.sp (by decide) (oI_ld _ _ _) ?_
          refine s64 (inRd rfl) (ld_inR _ _ _) (fun c29 => ?_) (fun c29 => ?_)
          · replace hE := hE.1 c29
            refine s0 ?_
            refine s60 ?_
            refine xG gb195.2.2.2.2.2.2.2.2.2.2.2.2.2.2.2.2.2.2.2.2.2.2 ?_
            refine s84 (by decide) ?_
            exact rqI_of hE
          · replace hE := hE.2 c29
            refine xG gb195.2.2.2.2.2.2.2.2.2.2.2.2.2.2.2.2.2.1 ?_
            refine s0 ?_
            refine s60 ?_
            refine xG gb195.2.2.2.2.2.2.2.2.2.2.2.2.2.2.2.2.2.2.2.2.2.2 ?_
            refine s84 (by decide) ?_
            exact rqI_of hE
        · replace hE := hE.2 c28
          refine xG gb195.2.2.2.2.2.2.2.2.2.2.2.2.2.2.2.2.2.2.1 ?_
          refine s6 (p := p0) rfl ?_
          refine s50 (v := ld I p0 1) o3.sh o3.sp (by decide) (oI_ld _ _ _) ?_
          refine s0 ?_
          refine s62 (ld_inR _ _ _) (inRd rfl) (fun c30 => ?_) (fun c30 => ?_)
          · replace hE := hE.1 c30
            refine s4 (x := 0) rfl ?_
            refine s6 (p := p0) rfl ?_
            refine s50 (v := ld I p0 2) o3.sh o3.sp (by decide) (oI_ld _ _ _) ?_
            refine s66 (inRd rfl) (ld_inR _ _ _) (fun c31 => ?_) (fun c31 => ?_)
            · replace hE := hE.1 c31
              refine s0 ?_
              refine s60 ?_
              refine xG gb195.2.2.2.2.2.2.2.2.2.2.2.2.2.2.2.2.2.2.2.2.2.2 ?_
              refine s84 (by decide) ?_
              exact rqI_of hE
            · replace hE := hE.2 c31
              refine xG gb195.2.2.2.2.2.2.2.2.2.2.2.2.2.2.2.2.2.2.2.1 ?_
              refine s0 ?_
              refine s60 ?_
              refine xG gb195.2.2.2.2.2.2.2.2.2.2.2.2.2.2.2.2.2.2.2.2.2.2 ?_
              refine s84 (by decide) ?_
              exact rqI_of hE
          · replace hE := hE.2 c30
            refine xG gb195.2.2.2.2.2.2.2.2.2.2.2.2.2.2.2.2.2.2.2.2.1 ?_
            refine s4 (x := 0) rfl ?_
            refine s6 (p := p0) rfl ?_
            refine s50 (v := ld I p0 2) o3.sh o3.sp (by decide) (oI_ld _ _ _) ?_
            refine s62 (inRd rfl) (ld_inR _ _ _) (fun c32 => ?_) (fun c32 => ?_)
            · replace hE := hE.1 c32
              refine s0 ?_
              refine s60 ?_
              refine xG gb195.2.2.2.2.2.2.2.2.2.2.2.2.2.2.2.2.2.2.2.2.2.2 ?_
              refine s84 (by decide) ?_
              exact rqI_of hE
            · replace hE := hE.2 c32
              refine xG gb195.2.2.2.2.2.2.2.2.2.2.2.2.2.2.2.2.2.2.2.2.2.1 ?_
              refine s0 ?_
              refine s79 ?_
              refine xG gb195.2.2.2.2.2.2.2.2.2.2.2.2.2.2.2.2.2.2.2.2.2.2 ?_
              refine s84 (by decide) ?_
              exact rqI_of hE
def R195a58 (d L : Nat) (I : mI) (R : mR) (S : mSh) (q : Nat) (x : Int) (b : Bool) : Prop := ∀ K : Int32 → mM → Prop, K (oI (bI b)) (bd L I R S) → CallI d 195 [.ref q, .ref 58, .int (oI x)] (bd L I R S) K
def h195_4a58 (d L : Nat) (I : Nat → Nat → Int32) (R : Nat → Nat → Option Nat) (S : List (Nat × Nat)) (Q : Option Value → mM → Prop) (w0 : Value) (x2 : Int) (p3 : Option Nat) (w4 : Value) : Prop := Wp d (gb 195 4) [w0, .ref 58, .int (oI x2), vR p3, w4] [] (bd L I R S) Q
def h195_8a58 (d L : Nat) (I : Nat → Nat → Int32) (R : Nat → Nat → Option Nat) (S : List (Nat × Nat)) (Q : Option Value → mM → Prop) (w0 : Value) (x2 : Int) (p3 : Option Nat) (w4 : Value) : Prop := Wp d (gb 195 8) [w0, .ref 58, .int (oI x2), vR p3, w4] [] (bd L I R S) Q
set_option maxRecDepth 4000 in
theorem e195_4a58 {d L : Nat} {I : Nat → Nat → Int32} {R : Nat → Nat → Option Nat} {S : List (Nat × Nat)} {Q : Option Value → mM → Prop}  {w0 : Value} {x2 : Int} {p3 : Option Nat} {w4 : Value} (hE : ((p3 = none) → Q (some (.int (oI 0))) (bd L I R S)) ∧ (∀ p1 : Nat, (p3 = some p1) → obJ S p1 16 5 ∧ (∃ (b4 : Bool), R195a58 d L I R S p1 (x2 + 1) b4 ∧ (inR (bI b4) ∧ (((bI b4 = 0) → h195_4a58 (d + 1) L I R S Q w0 x2 (R p1 4) w4) ∧ (¬ (bI b4 = 0) → Q (some (.int (oI 1))) (bd L I R S))))))) : h195_4a58 (d + 1) L I R S Q w0 x2 p3 w4 := by
  unfold h195_4a58
  refine xG gb195.2.2.2.2.1 ?_
  refine s6o (o := p3) rfl ?_
  refine s73o (fun n2 => ?_) (fun p1 n2 => ?_)
  · replace hE := hE.1 n2
    (try rw [n2])
    show Wp _ _ [w0, .ref 58, .int (oI x2), .null, w4] [] _ _
    refine xG gb195.2.2.2.2.2.2.1 ?_
    refine s0 ?_
    refine s84 (by decide) ?_
    exact hE
  · replace hE := hE.2 p1 n2
    (try rw [n2])
    show Wp _ _ [w0, .ref 58, .int (oI x2), .ref p1, w4] [] _ _
    refine s6 (p := p1) rfl ?_
    refine s6 (p := 58) rfl ?_
    refine s4 (x := x2) rfl ?_
    refine s0 ?_
    refine s16 ?_
    obtain ⟨o3, hE⟩ := hE
    obtain ⟨b4, r5, hE⟩ := hE
    refine sI rc195 rfl (Nat.le_of_ble_eq_true rfl) ?_
    refine r5 _ ?_
    obtain ⟨g6, hE⟩ := hE
    refine s67 g6 (fun c7 => ?_) (fun c7 => ?_)
    · replace hE := hE.1 c7
      refine xG gb195.2.2.2.2.2.1 ?_
      refine s6 (p := p1) rfl ?_
      refine s51o (o := R p1 4) o3.sh o3.sp (by decide) o3.rf ?_
      refine s9o (ls' := [w0, .ref 58, .int (oI x2), vR (R p1 4), w4]) (Nat.le_of_ble_eq_true rfl) rfl ?_
      refine s60 ?_
      exact hE
    · replace hE := hE.2 c7
      refine s0 ?_
      refine s84 (by decide) ?_
      exact hE
set_option maxRecDepth 4000 in
theorem e195_8a58 {d L : Nat} {I : Nat → Nat → Int32} {R : Nat → Nat → Option Nat} {S : List (Nat × Nat)} {Q : Option Value → mM → Prop}  {w0 : Value} {x2 : Int} {p3 : Option Nat} {w4 : Value} (hE : ((p3 = none) → Q (some (.int (oI 1))) (bd L I R S)) ∧ (∀ p1 : Nat, (p3 = some p1) → obJ S p1 16 5 ∧ (∃ (b4 : Bool), R195a58 d L I R S p1 (x2 + 1) b4 ∧ (inR (bI b4) ∧ (((bI b4 = 0) → Q (some (.int (oI 0))) (bd L I R S)) ∧ (¬ (bI b4 = 0) → h195_8a58 (d + 1) L I R S Q w0 x2 (R p1 4) w4)))))) : h195_8a58 (d + 1) L I R S Q w0 x2 p3 w4 := by
  unfold h195_8a58
  refine xG gb195.2.2.2.2.2.2.2.2.1 ?_
  refine s6o (o := p3) rfl ?_
  refine s73o (fun n2 => ?_) (fun p1 n2 => ?_)
  · replace hE := hE.1 n2
    (try rw [n2])
    show Wp _ _ [w0, .ref 58, .int (oI x2), .null, w4] [] _ _
    refine xG gb195.2.2.2.2.2.2.2.2.2.2.1 ?_
    refine s0 ?_
    refine s84 (by decide) ?_
    exact hE
  · replace hE := hE.2 p1 n2
    (try rw [n2])
    show Wp _ _ [w0, .ref 58, .int (oI x2), .ref p1, w4] [] _ _
    refine s6 (p := p1) rfl ?_
    refine s6 (p := 58) rfl ?_
    refine s4 (x := x2) rfl ?_
    refine s0 ?_
    refine s16 ?_
    obtain ⟨o3, hE⟩ := hE
    obtain ⟨b4, r5, hE⟩ := hE
    refine sI rc195 rfl (Nat.le_of_ble_eq_true rfl) ?_
    refine r5 _ ?_
    obtain ⟨g6, hE⟩ := hE
    refine s68 g6 (fun c7 => ?_) (fun c7 => ?_)
    · replace hE := hE.1 c7
      refine s0 ?_
      refine s84 (by decide) ?_
      exact hE
    · replace hE := hE.2 c7
      refine xG gb195.2.2.2.2.2.2.2.2.2.1 ?_
      refine s6 (p := p1) rfl ?_
      refine s51o (o := R p1 4) o3.sh o3.sp (by decide) o3.rf ?_
      refine s9o (ls' := [w0, .ref 58, .int (oI x2), vR (R p1 4), w4]) (Nat.le_of_ble_eq_true rfl) rfl ?_
      refine s60 ?_
      exact hE
set_option maxRecDepth 4000 in
theorem e195a58 {d L : Nat} {I : Nat → Nat → Int32} {R : Nat → Nat → Option Nat} {S : List (Nat × Nat)} {K : Int32 → mM → Prop}  {p0 : Nat} {x2 : Int} (hE : inR x2 ∧ (((40 < x2) → K (oI 0) (bd L I R S)) ∧ (¬ (40 < x2) → obJ S p0 16 5 ∧ ((ld I p0 0 = 163 → h195_4a58 (d + 1) L I R S (rqI K) (.ref p0) x2 (R p0 3) mUn) ∧ (ld I p0 0 = 164 → h195_8a58 (d + 1) L I R S (rqI K) (.ref p0) x2 (R p0 3) mUn) ∧ (ld I p0 0 = 165 → ∃ (p7 : Nat), (R p0 3 = some p7) ∧ obJ S p7 16 5 ∧ (∃ (b10 : Bool), R195a58 d L I R S p7 (x2 + 1) b10 ∧ (inR (bI b10) ∧ (((bI b10 = 0) → K (oI 1) (bd L I R S)) ∧ (¬ (bI b10 = 0) → K (oI 0) (bd L I R S)))))) ∧ (¬ ld I p0 0 = 163 ∧ ¬ ld I p0 0 = 164 ∧ ¬ ld I p0 0 = 165 → inR (ld I p0 0 - 144) ∧ (((ld I p0 0 - 144 < 0) → ((ld I p0 1 = 60) → ((0 < ld I p0 2) → K (oI 1) (bd L I R S)) ∧ (¬ (0 < ld I p0 2) → K (oI 0) (bd L I R S))) ∧ (¬ (ld I p0 1 = 60) → ((ld I p0 1 = 62) → ((ld I p0 2 < 0) → K (oI 1) (bd L I R S)) ∧ (¬ (ld I p0 2 < 0) → K (oI 0) (bd L I R S))) ∧ (¬ (ld I p0 1 = 62) → ((0 = ld I p0 2) → K (oI 1) (bd L I R S)) ∧ (¬ (0 = ld I p0 2) → K (oI 0) (bd L I R S))))) ∧ (¬ (ld I p0 0 - 144 < 0) → ((ld I p0 0 - 144 < 12) → (0 ≤ ld I p0 0 - 144 ∧ ld I p0 0 - 144 < 12) ∧ (((ld I p0 1 = 60) → ((ld I 58 (ld I p0 0 - 144).toNat < ld I p0 2) → K (oI 1) (bd L I R S)) ∧ (¬ (ld I 58 (ld I p0 0 - 144).toNat < ld I p0 2) → K (oI 0) (bd L I R S))) ∧ (¬ (ld I p0 1 = 60) → ((ld I p0 1 = 62) → ((ld I p0 2 < ld I 58 (ld I p0 0 - 144).toNat) → K (oI 1) (bd L I R S)) ∧ (¬ (ld I p0 2 < ld I 58 (ld I p0 0 - 144).toNat) → K (oI 0) (bd L I R S))) ∧ (¬ (ld I p0 1 = 62) → ((ld I 58 (ld I p0 0 - 144).toNat = ld I p0 2) → K (oI 1) (bd L I R S)) ∧ (¬ (ld I 58 (ld I p0 0 - 144).toNat = ld I p0 2) → K (oI 0) (bd L I R S)))))) ∧ (¬ (ld I p0 0 - 144 < 12) → ((ld I p0 1 = 60) → ((0 < ld I p0 2) → K (oI 1) (bd L I R S)) ∧ (¬ (0 < ld I p0 2) → K (oI 0) (bd L I R S))) ∧ (¬ (ld I p0 1 = 60) → ((ld I p0 1 = 62) → ((ld I p0 2 < 0) → K (oI 1) (bd L I R S)) ∧ (¬ (ld I p0 2 < 0) → K (oI 0) (bd L I R S))) ∧ (¬ (ld I p0 1 = 62) → ((0 = ld I p0 2) → K (oI 1) (bd L I R S)) ∧ (¬ (0 = ld I p0 2) → K (oI 0) (bd L I R S)))))))))))) : CallI (d + 1) 195 [.ref p0, .ref 58, .int (oI x2)] (bd L I R S) K := by
  refine cI_of (ls := [.ref p0, .ref 58, .int (oI x2), mUn, mUn]) rfl ?_
  refine xG gb195.1 ?_
  refine s6 (p := p0) rfl ?_
  refine s73o (o := some p0) (fun h => absurd h (by simp)) (fun _ _ => ?_)
  refine s4 (x := x2) rfl ?_
  refine s0 ?_
  obtain ⟨g1, hE⟩ := hE
  refine s66 g1 (inRd rfl) (fun c2 => ?_) (fun c2 => ?_)
  · replace hE := hE.1 c2
    refine s79 ?_
    refine xG gb195.2.1 ?_
    refine s0 ?_
    refine s84 (by decide) ?_
    exact rqI_of hE
  · replace hE := hE.2 c2
    refine xG gb195.2.2.1 ?_
    refine s6 (p := p0) rfl ?_
    obtain ⟨o3, hE⟩ := hE
    refine s50 (v := ld I p0 0) o3.sh o3.sp (by decide) (oI_ld _ _ _) ?_
    refine s76 (ld_inR _ _ _) ?_
    by_cases c4 : ld I p0 0 = 163
    · replace hE := hE.1 c4
      rw [show mSel ((jSW.getD 195 []).getD 0 []) (ld I p0 0 - 163) = 3 by rw [c4]; rfl]
      refine xG gb195.2.2.2.1 ?_
      refine s6 (p := p0) rfl ?_
      refine s51o (o := R p0 3) o3.sh o3.sp (by decide) o3.rf ?_
      refine s9o (ls' := [.ref p0, .ref 58, .int (oI x2), vR (R p0 3), mUn]) (Nat.le_of_ble_eq_true rfl) rfl ?_
      refine s79 ?_
      exact hE
    replace hE := hE.2
    by_cases c5 : ld I p0 0 = 164
    · replace hE := hE.1 c5
      rw [show mSel ((jSW.getD 195 []).getD 0 []) (ld I p0 0 - 163) = 7 by rw [c5]; rfl]
      refine xG gb195.2.2.2.2.2.2.2.1 ?_
      refine s6 (p := p0) rfl ?_
      refine s51o (o := R p0 3) o3.sh o3.sp (by decide) o3.rf ?_
      refine s9o (ls' := [.ref p0, .ref 58, .int (oI x2), vR (R p0 3), mUn]) (Nat.le_of_ble_eq_true rfl) rfl ?_
      refine s79 ?_
      exact hE
    replace hE := hE.2
    by_cases c6 : ld I p0 0 = 165
    · replace hE := hE.1 c6
      rw [show mSel ((jSW.getD 195 []).getD 0 []) (ld I p0 0 - 163) = 11 by rw [c6]; rfl]
      refine xG gb195.2.2.2.2.2.2.2.2.2.2.2.1 ?_
      refine s6 (p := p0) rfl ?_
      refine s51o (o := R p0 3) o3.sh o3.sp (by decide) o3.rf ?_
      refine s6 (p := 58) rfl ?_
      refine s4 (x := x2) rfl ?_
      refine s0 ?_
      refine s16 ?_
      obtain ⟨p7, n8, o9, hE⟩ := hE
      (try rw [n8])
      show Wp _ _ [.ref p0, .ref 58, .int (oI x2), mUn, mUn] [.int (oI (x2 + 1)), .ref 58, .ref p7] _ _
      obtain ⟨b10, r11, hE⟩ := hE
      refine sI rc195 rfl (Nat.le_of_ble_eq_true rfl) ?_
      refine r11 _ ?_
      obtain ⟨g12, hE⟩ := hE
      refine s68 g12 (fun c13 => ?_) (fun c13 => ?_)
      · replace hE := hE.1 c13
        refine s0 ?_
        refine s60 ?_
        refine xG gb195.2.2.2.2.2.2.2.2.2.2.2.2.2.1 ?_
        refine s84 (by decide) ?_
        exact rqI_of hE
      · replace hE := hE.2 c13
        refine xG gb195.2.2.2.2.2.2.2.2.2.2.2.2.1 ?_
        refine s0 ?_
        refine s79 ?_
        refine xG gb195.2.2.2.2.2.2.2.2.2.2.2.2.2.1 ?_
        refine s84 (by decide) ?_
        exact rqI_of hE
    replace hE := hE.2
    replace hE := hE ⟨c4, c5, c6⟩
    rw [show mSel ((jSW.getD 195 []).getD 0 []) (ld I p0 0 - 163) = 14 by exact mSel_def (lo := 163) (vs := [163, 164, 165]) rfl (by intro v hv; simp only [List.mem_cons, List.not_mem_nil, or_false] at hv; omega)]
    refine xG gb195.2.2.2.2.2.2.2.2.2.2.2.2.2.2.1 ?_
    refine s6 (p := p0) rfl ?_
    refine s50 (v := ld I p0 0) o3.sh o3.sp (by decide) (oI_ld _ _ _) ?_
    refine s0 ?_
    refine s17 ?_
    refine s7 (ls' := [.ref p0, .ref 58, .int (oI x2), .int (oI (ld I p0 0 - 144)), mUn]) (Nat.le_of_ble_eq_true rfl) rfl ?_
    refine s4 (x := ld I p0 0 - 144) rfl ?_
    obtain ⟨g14, hE⟩ := hE
    refine s69 g14 (fun c15 => ?_) (fun c15 => ?_)
    · replace hE := hE.1 c15
      refine xG gb195.2.2.2.2.2.2.2.2.2.2.2.2.2.2.2.1 ?_
      refine s0 ?_
      refine s79 ?_
      refine xG gb195.2.2.2.2.2.2.2.2.2.2.2.2.2.2.2.2.1 ?_
      refine s7 (ls' := [.ref p0, .ref 58, .int (oI x2), .int (oI (ld I p0 0 - 144)), .int (oI 0)]) (Nat.le_of_ble_eq_true rfl) rfl ?_
      refine s6 (p := p0) rfl ?_
      refine s50 (v := ld I p0 1) o3.sh o3.sp (by decide) (oI_ld _ _ _) ?_
      refine s0 ?_
      refine s62 (ld_inR _ _ _) (inRd rfl) (fun c16 => ?_) (fun c16 => ?_)
      · replace hE := hE.1 c16
        refine s4 (x := 0) rfl ?_
        refine s6 (p := p0) rfl ?_
        refine s50 (v := ld I p0 2) o3.sh o3.sp (by decide) (oI_ld _ _ _) ?_
        refine s64 (inRd rfl) (ld_inR _ _ _) (fun c17 => ?_) (fun c17 => ?_)
        · replace hE := hE.1 c17
          refine s0 ?_
          refine s60 ?_
          refine xG gb195.2.2.2.2.2.2.2.2.2.2.2.2.2.2.2.2.2.2.2.2.2.2 ?_
          refine s84 (by decide) ?_
          exact rqI_of hE
        · replace hE := hE.2 c17
          refine xG gb195.2.2.2.2.2.2.2.2.2.2.2.2.2.2.2.2.2.1 ?_
          refine s0 ?_
          refine s60 ?_
          refine xG gb195.2.2.2.2.2.2.2.2.2.2.2.2.2.2.2.2.2.2.2.2.2.2 ?_
          refine s84 (by decide) ?_
          exact rqI_of hE
      · replace hE := hE.2 c16
        refine xG gb195.2.2.2.2.2.2.2.2.2.2.2.2.2.2.2.2.2.2.1 ?_
        refine s6 (p := p0) rfl ?_
        refine s50 (v := ld I p0 1) o3.sh o3.sp (by decide) (oI_ld _ _ _) ?_
        refine s0 ?_
        refine s62 (ld_inR _ _ _) (inRd rfl) (fun c18 => ?_) (fun c18 => ?_)
        · replace hE := hE.1 c18
          refine s4 (x := 0) rfl ?_
          refine s6 (p := p0) rfl ?_
          refine s50 (v := ld I p0 2) o3.sh o3.sp (by decide) (oI_ld _ _ _) ?_
          refine s66 (inRd rfl) (ld_inR _ _ _) (fun c19 => ?_) (fun c19 => ?_)
          · replace hE := hE.1 c19
            refine s0 ?_
            refine s60 ?_
            refine xG gb195.2.2.2.2.2.2.2.2.2.2.2.2.2.2.2.2.2.2.2.2.2.2 ?_
            refine s84 (by decide) ?_
            exact rqI_of hE
          · replace hE := hE.2 c19
            refine xG gb195.2.2.2.2.2.2.2.2.2.2.2.2.2.2.2.2.2.2.2.1 ?_
            refine s0 ?_
            refine s60 ?_
            refine xG gb195.2.2.2.2.2.2.2.2.2.2.2.2.2.2.2.2.2.2.2.2.2.2 ?_
            refine s84 (by decide) ?_
            exact rqI_of hE
        · replace hE := hE.2 c18
          refine xG gb195.2.2.2.2.2.2.2.2.2.2.2.2.2.2.2.2.2.2.2.2.1 ?_
          refine s4 (x := 0) rfl ?_
          refine s6 (p := p0) rfl ?_
          refine s50 (v := ld I p0 2) o3.sh o3.sp (by decide) (oI_ld _ _ _) ?_
          refine s62 (inRd rfl) (ld_inR _ _ _) (fun c20 => ?_) (fun c20 => ?_)
          · replace hE := hE.1 c20
            refine s0 ?_
            refine s60 ?_
            refine xG gb195.2.2.2.2.2.2.2.2.2.2.2.2.2.2.2.2.2.2.2.2.2.2 ?_
            refine s84 (by decide) ?_
            exact rqI_of hE
          · replace hE := hE.2 c20
            refine xG gb195.2.2.2.2.2.2.2.2.2.2.2.2.2.2.2.2.2.2.2.2.2.1 ?_
            refine s0 ?_
            refine s79 ?_
            refine xG gb195.2.2.2.2.2.2.2.2.2.2.2.2.2.2.2.2.2.2.2.2.2.2 ?_
            refine s84 (by decide) ?_
            exact rqI_of hE
    · replace hE := hE.2 c15
      refine s4 (x := ld I p0 0 - 144) rfl ?_
      refine s6 (p := 58) rfl ?_
      refine s48 sh58 (by decide) ?_
      refine s64 g14 (inRd rfl) (fun c21 => ?_) (fun c21 => ?_)
      · replace hE := hE.1 c21
        refine s6 (p := 58) rfl ?_
        refine s4 (x := ld I p0 0 - 144) rfl ?_
        obtain ⟨g22, hE⟩ := hE
        refine s40 (v := ld I 58 (ld I p0 0 - 144).toNat) sh58 g22 rfl (oI_ld _ _ _) ?_
        refine s60 ?_
        refine xG gb195.2.2.2.2.2.2.2.2.2.2.2.2.2.2.2.2.1 ?_
        refine s7 (ls' := [.ref p0, .ref 58, .int (oI x2), .int (oI (ld I p0 0 - 144)), .int (oI (ld I 58 (ld I p0 0 - 144).toNat))]) (Nat.le_of_ble_eq_true rfl) rfl ?_
        refine s6 (p := p0) rfl ?_
        refine s50 (v := ld I p0 1) o3.sh o3.sp (by decide) (oI_ld _ _ _) ?_
        refine s0 ?_
        refine s62 (ld_inR _ _ _) (inRd rfl) (fun c23 => ?_) (fun c23 => ?_)
        · replace hE := hE.1 c23
          refine s4 (x := ld I 58 (ld I p0 0 - 144).toNat) rfl ?_
          refine s6 (p := p0) rfl ?_
          refine s50 (v := ld I p0 2) o3.sh o3.sp (by decide) (oI_ld _ _ _) ?_
          refine s64 (ld_inR _ _ _) (ld_inR _ _ _) (fun c24 => ?_) (fun c24 => ?_)
          · replace hE := hE.1 c24
            refine s0 ?_
            refine s60 ?_
            refine xG gb195.2.2.2.2.2.2.2.2.2.2.2.2.2.2.2.2.2.2.2.2.2.2 ?_
            refine s84 (by decide) ?_
            exact rqI_of hE
          · replace hE := hE.2 c24
            refine xG gb195.2.2.2.2.2.2.2.2.2.2.2.2.2.2.2.2.2.1 ?_
            refine s0 ?_
            refine s60 ?_
            refine xG gb195.2.2.2.2.2.2.2.2.2.2.2.2.2.2.2.2.2.2.2.2.2.2 ?_
            refine s84 (by decide) ?_
            exact rqI_of hE
        · replace hE := hE.2 c23
          refine xG gb195.2.2.2.2.2.2.2.2.2.2.2.2.2.2.2.2.2.2.1 ?_
          refine s6 (p := p0) rfl ?_
          refine s50 (v := ld I p0 1) o3.sh o3.sp (by decide) (oI_ld _ _ _) ?_
          refine s0 ?_
          refine s62 (ld_inR _ _ _) (inRd rfl) (fun c25 => ?_) (fun c25 => ?_)
          · replace hE := hE.1 c25
            refine s4 (x := ld I 58 (ld I p0 0 - 144).toNat) rfl ?_
            refine s6 (p := p0) rfl ?_
            refine s50 (v := ld I p0 2) o3.sh o3.sp (by decide) (oI_ld _ _ _) ?_
            refine s66 (ld_inR _ _ _) (ld_inR _ _ _) (fun c26 => ?_) (fun c26 => ?_)
            · replace hE := hE.1 c26
              refine s0 ?_
              refine s60 ?_
              refine xG gb195.2.2.2.2.2.2.2.2.2.2.2.2.2.2.2.2.2.2.2.2.2.2 ?_
              refine s84 (by decide) ?_
              exact rqI_of hE
            · replace hE := hE.2 c26
              refine xG gb195.2.2.2.2.2.2.2.2.2.2.2.2.2.2.2.2.2.2.2.1 ?_
              refine s0 ?_
              refine s60 ?_
              refine xG gb195.2.2.2.2.2.2.2.2.2.2.2.2.2.2.2.2.2.2.2.2.2.2 ?_
              refine s84 (by decide) ?_
              exact rqI_of hE
          · replace hE := hE.2 c25
            refine xG gb195.2.2.2.2.2.2.2.2.2.2.2.2.2.2.2.2.2.2.2.2.1 ?_
            refine s4 (x := ld I 58 (ld I p0 0 - 144).toNat) rfl ?_
            refine s6 (p := p0) rfl ?_
            refine s50 (v := ld I p0 2) o3.sh o3.sp (by decide) (oI_ld _ _ _) ?_
            refine s62 (ld_inR _ _ _) (ld_inR _ _ _) (fun c27 => ?_) (fun c27 => ?_)
            · replace hE := hE.1 c27
              refine s0 ?_
              refine s60 ?_
              refine xG gb195.2.2.2.2.2.2.2.2.2.2.2.2.2.2.2.2.2.2.2.2.2.2 ?_
              refine s84 (by decide) ?_
              exact rqI_of hE
            · replace hE := hE.2 c27
              refine xG gb195.2.2.2.2.2.2.2.2.2.2.2.2.2.2.2.2.2.2.2.2.2.1 ?_
              refine s0 ?_
              refine s79 ?_
              refine xG gb195.2.2.2.2.2.2.2.2.2.2.2.2.2.2.2.2.2.2.2.2.2.2 ?_
              refine s84 (by decide) ?_
              exact rqI_of hE
      · replace hE := hE.2 c21
        refine xG gb195.2.2.2.2.2.2.2.2.2.2.2.2.2.2.2.1 ?_
        refine s0 ?_
        refine s79 ?_
        refine xG gb195.2.2.2.2.2.2.2.2.2.2.2.2.2.2.2.2.1 ?_
        refine s7 (ls' := [.ref p0, .ref 58, .int (oI x2), .int (oI (ld I p0 0 - 144)), .int (oI 0)]) (Nat.le_of_ble_eq_true rfl) rfl ?_
        refine s6 (p := p0) rfl ?_
        refine s50 (v := ld I p0 1) o3.sh o3.sp (by decide) (oI_ld _ _ _) ?_
        refine s0 ?_
        refine s62 (ld_inR _ _ _) (inRd rfl) (fun c28 => ?_) (fun c28 => ?_)
        · replace hE := hE.1 c28
          refine s4 (x := 0) rfl ?_
          refine s6 (p := p0) rfl ?_
          refine s50 (v := ld I p0 2) o3.sh o3.sp (by decide) (oI_ld _ _ _) ?_
          refine s64 (inRd rfl) (ld_inR _ _ _) (fun c29 => ?_) (fun c29 => ?_)
          · replace hE := hE.1 c29
            refine s0 ?_
            refine s60 ?_
            refine xG gb195.2.2.2.2.2.2.2.2.2.2.2.2.2.2.2.2.2.2.2.2.2.2 ?_
            refine s84 (by decide) ?_
            exact rqI_of hE
          · replace hE := hE.2 c29
            refine xG gb195.2.2.2.2.2.2.2.2.2.2.2.2.2.2.2.2.2.1 ?_
            refine s0 ?_
            refine s60 ?_
            refine xG gb195.2.2.2.2.2.2.2.2.2.2.2.2.2.2.2.2.2.2.2.2.2.2 ?_
            refine s84 (by decide) ?_
            exact rqI_of hE
        · replace hE := hE.2 c28
          refine xG gb195.2.2.2.2.2.2.2.2.2.2.2.2.2.2.2.2.2.2.1 ?_
          refine s6 (p := p0) rfl ?_
          refine s50 (v := ld I p0 1) o3.sh o3.sp (by decide) (oI_ld _ _ _) ?_
          refine s0 ?_
          refine s62 (ld_inR _ _ _) (inRd rfl) (fun c30 => ?_) (fun c30 => ?_)
          · replace hE := hE.1 c30
            refine s4 (x := 0) rfl ?_
            refine s6 (p := p0) rfl ?_
            refine s50 (v := ld I p0 2) o3.sh o3.sp (by decide) (oI_ld _ _ _) ?_
            refine s66 (inRd rfl) (ld_inR _ _ _) (fun c31 => ?_) (fun c31 => ?_)
            · replace hE := hE.1 c31
              refine s0 ?_
              refine s60 ?_
              refine xG gb195.2.2.2.2.2.2.2.2.2.2.2.2.2.2.2.2.2.2.2.2.2.2 ?_
              refine s84 (by decide) ?_
              exact rqI_of hE
            · replace hE := hE.2 c31
              refine xG gb195.2.2.2.2.2.2.2.2.2.2.2.2.2.2.2.2.2.2.2.1 ?_
              refine s0 ?_
              refine s60 ?_
              refine xG gb195.2.2.2.2.2.2.2.2.2.2.2.2.2.2.2.2.2.2.2.2.2.2 ?_
              refine s84 (by decide) ?_
              exact rqI_of hE
          · replace hE := hE.2 c30
            refine xG gb195.2.2.2.2.2.2.2.2.2.2.2.2.2.2.2.2.2.2.2.2.1 ?_
            refine s4 (x := 0) rfl ?_
            refine s6 (p := p0) rfl ?_
            refine s50 (v := ld I p0 2) o3.sh o3.sp (by decide) (oI_ld _ _ _) ?_
            refine s62 (inRd rfl) (ld_inR _ _ _) (fun c32 => ?_) (fun c32 => ?_)
            · replace hE := hE.1 c32
              refine s0 ?_
              refine s60 ?_
              refine xG gb195.2.2.2.2.2.2.2.2.2.2.2.2.2.2.2.2.2.2.2.2.2.2 ?_
              refine s84 (by decide) ?_
              exact rqI_of hE
            · replace hE := hE.2 c32
              refine xG gb195.2.2.2.2.2.2.2.2.2.2.2.2.2.2.2.2.2.2.2.2.2.1 ?_
              refine s0 ?_
              refine s79 ?_
              refine xG gb195.2.2.2.2.2.2.2.2.2.2.2.2.2.2.2.2.2.2.2.2.2.2 ?_
              refine s84 (by decide) ?_
              exact rqI_of hE
