/-! the class: whether an IF holds -/
def EnvC (a : Nat) (I : mI) (h : Nat → Int) : Prop := ∀ i : Nat, i < 12 → ld I a (pcN i).toNat = h i
theorem NLf.ob {R : mR} {S : mSh} {I : mI} {q : Nat} {l : Lf} (h : NLf R S I q l) : obS S q 16 5 := h.1
theorem NJn.ob {α : Type} {kd : Int} {P : Nat → α → Prop} {R : mR} {S : mSh} {I : mI} {q : Nat} {l : List α} (h : NJn kd P R S I q l) (hP : ∀ q x, P q x → obS S q 16 5) : obS S q 16 5 := by
  rcases h with ⟨x, -, h⟩ | ⟨-, h, -⟩
  · exact hP _ _ h
  · exact h
theorem NOne.ob {R : mR} {S : mSh} {I : mI} : ∀ (n : Nat) (q : Nat) (o : One n), NOne R S I n q o → obS S q 16 5
  | 0, _, _, h => h.1
  | _ + 1, _, .inl _, h => h.1
  | _ + 1, _, .inr (.inl _), h => h.1
  | n + 1, _, .inr (.inr _), h => NJn.ob h (fun _ _ hx => NJn.ob hx (fun q x hx => NOne.ob n q x hx))
theorem pcN_in {x : Int} (h : 0 ≤ x ∧ x < 12) : 0 ≤ pcN x ∧ pcN x < 12 := by unfold pcN; split <;> (try split) <;> omega
def R195a60 (d L : Nat) (I : mI) (R : mR) (S : mSh) (q : Nat) (x : Int) (b : Bool) : Prop := ∀ K : Int32 → mM → Prop, K (oI (bI b)) (bd L I R S) → CallI d 195 [.ref q, .ref 60, .int (oI x)] (bd L I R S) K
def h195_3a60 (d L : Nat) (I : Nat → Nat → Int32) (R : Nat → Nat → Option Nat) (S : List (Nat × Nat)) (Q : Option Value → mM → Prop) (w0 : Value) (x2 : Int) (p3 : Option Nat) (w4 : Value) : Prop := Wp d (gb 195 3) [w0, .ref 60, .int (oI x2), vR p3, w4] [] (bd L I R S) Q
def h195_7a60 (d L : Nat) (I : Nat → Nat → Int32) (R : Nat → Nat → Option Nat) (S : List (Nat × Nat)) (Q : Option Value → mM → Prop) (w0 : Value) (x2 : Int) (p3 : Option Nat) (w4 : Value) : Prop := Wp d (gb 195 7) [w0, .ref 60, .int (oI x2), vR p3, w4] [] (bd L I R S) Q
set_option maxRecDepth 4000 in
theorem e195_3a60 {d L : Nat} {I : Nat → Nat → Int32} {R : Nat → Nat → Option Nat} {S : List (Nat × Nat)} {Q : Option Value → mM → Prop}  {w0 : Value} {x2 : Int} {p3 : Option Nat} {w4 : Value} (hE : ((p3 = none) → Q (some (.int (oI 0))) (bd L I R S)) ∧ (∀ p1 : Nat, (p3 = some p1) → obS S p1 16 5 ∧ (∃ (b4 : Bool), R195a60 d L I R S p1 (x2 + 1) b4 ∧ (inR (bI b4) ∧ (((bI b4 = 0) → h195_3a60 (d + 1) L I R S Q w0 x2 (R p1 4) w4) ∧ (¬ (bI b4 = 0) → Q (some (.int (oI 1))) (bd L I R S))))))) : h195_3a60 (d + 1) L I R S Q w0 x2 p3 w4 := by
  unfold h195_3a60
  refine xG gb195.2.2.2.1 ?_
  refine s6o (o := p3) rfl ?_
  refine s73o (fun n2 => ?_) (fun p1 n2 => ?_)
  · replace hE := hE.1 n2
    (try rw [n2])
    show Wp _ _ [w0, .ref 60, .int (oI x2), .null, w4] [] _ _
    refine xG gb195.2.2.2.2.2.1 ?_
    refine s0 ?_
    refine s84 (by decide) ?_
    exact hE
  · replace hE := hE.2 p1 n2
    (try rw [n2])
    show Wp _ _ [w0, .ref 60, .int (oI x2), .ref p1, w4] [] _ _
    refine s6 (p := p1) rfl ?_
    refine s6 (p := 60) rfl ?_
    refine s4 (x := x2) rfl ?_
    refine s0 ?_
    refine s16 ?_
    obtain ⟨o3, hE⟩ := hE
    obtain ⟨b4, r5, hE⟩ := hE
    refine sI (rcvO o3 rfl rfl) rfl (Nat.le_of_ble_eq_true rfl) ?_
    refine r5 _ ?_
    obtain ⟨g6, hE⟩ := hE
    refine s67 g6 (fun c7 => ?_) (fun c7 => ?_)
    · replace hE := hE.1 c7
      refine xG gb195.2.2.2.2.1 ?_
      refine s6 (p := p1) rfl ?_
      refine s51o (o := R p1 4) o3.sh o3.sp (by decide) o3.rf ?_
      refine s9o (ls' := [w0, .ref 60, .int (oI x2), vR (R p1 4), w4]) (Nat.le_of_ble_eq_true rfl) rfl ?_
      refine s60 ?_
      exact hE
    · replace hE := hE.2 c7
      refine s0 ?_
      refine s84 (by decide) ?_
      exact hE
set_option maxRecDepth 4000 in
theorem e195_7a60 {d L : Nat} {I : Nat → Nat → Int32} {R : Nat → Nat → Option Nat} {S : List (Nat × Nat)} {Q : Option Value → mM → Prop}  {w0 : Value} {x2 : Int} {p3 : Option Nat} {w4 : Value} (hE : ((p3 = none) → Q (some (.int (oI 1))) (bd L I R S)) ∧ (∀ p1 : Nat, (p3 = some p1) → obS S p1 16 5 ∧ (∃ (b4 : Bool), R195a60 d L I R S p1 (x2 + 1) b4 ∧ (inR (bI b4) ∧ (((bI b4 = 0) → Q (some (.int (oI 0))) (bd L I R S)) ∧ (¬ (bI b4 = 0) → h195_7a60 (d + 1) L I R S Q w0 x2 (R p1 4) w4)))))) : h195_7a60 (d + 1) L I R S Q w0 x2 p3 w4 := by
  unfold h195_7a60
  refine xG gb195.2.2.2.2.2.2.2.1 ?_
  refine s6o (o := p3) rfl ?_
  refine s73o (fun n2 => ?_) (fun p1 n2 => ?_)
  · replace hE := hE.1 n2
    (try rw [n2])
    show Wp _ _ [w0, .ref 60, .int (oI x2), .null, w4] [] _ _
    refine xG gb195.2.2.2.2.2.2.2.2.2.1 ?_
    refine s0 ?_
    refine s84 (by decide) ?_
    exact hE
  · replace hE := hE.2 p1 n2
    (try rw [n2])
    show Wp _ _ [w0, .ref 60, .int (oI x2), .ref p1, w4] [] _ _
    refine s6 (p := p1) rfl ?_
    refine s6 (p := 60) rfl ?_
    refine s4 (x := x2) rfl ?_
    refine s0 ?_
    refine s16 ?_
    obtain ⟨o3, hE⟩ := hE
    obtain ⟨b4, r5, hE⟩ := hE
    refine sI (rcvO o3 rfl rfl) rfl (Nat.le_of_ble_eq_true rfl) ?_
    refine r5 _ ?_
    obtain ⟨g6, hE⟩ := hE
    refine s68 g6 (fun c7 => ?_) (fun c7 => ?_)
    · replace hE := hE.1 c7
      refine s0 ?_
      refine s84 (by decide) ?_
      exact hE
    · replace hE := hE.2 c7
      refine xG gb195.2.2.2.2.2.2.2.2.1 ?_
      refine s6 (p := p1) rfl ?_
      refine s51o (o := R p1 4) o3.sh o3.sp (by decide) o3.rf ?_
      refine s9o (ls' := [w0, .ref 60, .int (oI x2), vR (R p1 4), w4]) (Nat.le_of_ble_eq_true rfl) rfl ?_
      refine s60 ?_
      exact hE
set_option maxRecDepth 4000 in
theorem e195a60 {d L : Nat} {I : Nat → Nat → Int32} {R : Nat → Nat → Option Nat} {S : List (Nat × Nat)} {K : Int32 → mM → Prop}  {p0 : Nat} {x2 : Int} (hE : inR x2 ∧ (((40 < x2) → K (oI 0) (bd L I R S)) ∧ (¬ (40 < x2) → obS S p0 16 5 ∧ ((ld I p0 0 = 163 → h195_3a60 (d + 1) L I R S (rqI K) (.ref p0) x2 (R p0 3) mUn) ∧ (ld I p0 0 = 164 → h195_7a60 (d + 1) L I R S (rqI K) (.ref p0) x2 (R p0 3) mUn) ∧ (ld I p0 0 = 165 → ((R p0 3 = none) → K (oI 0) (bd L I R S)) ∧ (∀ p7 : Nat, (R p0 3 = some p7) → obS S p7 16 5 ∧ (∃ (b10 : Bool), R195a60 d L I R S p7 (x2 + 1) b10 ∧ (inR (bI b10) ∧ (((bI b10 = 0) → K (oI 1) (bd L I R S)) ∧ (¬ (bI b10 = 0) → K (oI 0) (bd L I R S))))))) ∧ (¬ ld I p0 0 = 163 ∧ ¬ ld I p0 0 = 164 ∧ ¬ ld I p0 0 = 165 → inR (ld I p0 0 - 144) ∧ (((ld I p0 0 - 144 < 0) → ((ld I p0 1 = 60) → ((0 < ld I p0 2) → K (oI 1) (bd L I R S)) ∧ (¬ (0 < ld I p0 2) → K (oI 0) (bd L I R S))) ∧ (¬ (ld I p0 1 = 60) → ((ld I p0 1 = 62) → ((ld I p0 2 < 0) → K (oI 1) (bd L I R S)) ∧ (¬ (ld I p0 2 < 0) → K (oI 0) (bd L I R S))) ∧ (¬ (ld I p0 1 = 62) → ((0 = ld I p0 2) → K (oI 1) (bd L I R S)) ∧ (¬ (0 = ld I p0 2) → K (oI 0) (bd L I R S))))) ∧ (¬ (ld I p0 0 - 144 < 0) → ((ld I p0 0 - 144 < 12) → (0 ≤ ld I p0 0 - 144 ∧ ld I p0 0 - 144 < 12) ∧ (((ld I p0 1 = 60) → ((ld I 60 (ld I p0 0 - 144).toNat < ld I p0 2) → K (oI 1) (bd L I R S)) ∧ (¬ (ld I 60 (ld I p0 0 - 144).toNat < ld I p0 2) → K (oI 0) (bd L I R S))) ∧ (¬ (ld I p0 1 = 60) → ((ld I p0 1 = 62) → ((ld I p0 2 < ld I 60 (ld I p0 0 - 144).toNat) → K (oI 1) (bd L I R S)) ∧ (¬ (ld I p0 2 < ld I 60 (ld I p0 0 - 144).toNat) → K (oI 0) (bd L I R S))) ∧ (¬ (ld I p0 1 = 62) → ((ld I 60 (ld I p0 0 - 144).toNat = ld I p0 2) → K (oI 1) (bd L I R S)) ∧ (¬ (ld I 60 (ld I p0 0 - 144).toNat = ld I p0 2) → K (oI 0) (bd L I R S)))))) ∧ (¬ (ld I p0 0 - 144 < 12) → ((ld I p0 1 = 60) → ((0 < ld I p0 2) → K (oI 1) (bd L I R S)) ∧ (¬ (0 < ld I p0 2) → K (oI 0) (bd L I R S))) ∧ (¬ (ld I p0 1 = 60) → ((ld I p0 1 = 62) → ((ld I p0 2 < 0) → K (oI 1) (bd L I R S)) ∧ (¬ (ld I p0 2 < 0) → K (oI 0) (bd L I R S))) ∧ (¬ (ld I p0 1 = 62) → ((0 = ld I p0 2) → K (oI 1) (bd L I R S)) ∧ (¬ (0 = ld I p0 2) → K (oI 0) (bd L I R S)))))))))))) : CallI (d + 1) 195 [.ref p0, .ref 60, .int (oI x2)] (bd L I R S) K := by
  refine cI_of (ls := [.ref p0, .ref 60, .int (oI x2), mUn, mUn]) rfl ?_
  refine xG gb195.1 ?_
  refine s4 (x := x2) rfl ?_
  refine s0 ?_
  obtain ⟨g1, hE⟩ := hE
  refine s66 g1 (inRd rfl) (fun c2 => ?_) (fun c2 => ?_)
  · replace hE := hE.1 c2
    refine s0 ?_
    refine s84 (by decide) ?_
    exact rqI_of hE
  · replace hE := hE.2 c2
    refine xG gb195.2.1 ?_
    refine s6 (p := p0) rfl ?_
    obtain ⟨o3, hE⟩ := hE
    refine s50 (v := ld I p0 0) o3.sh o3.sp (by decide) (oI_ld _ _ _) ?_
    refine s76 (ld_inR _ _ _) ?_
    by_cases c4 : ld I p0 0 = 163
    · replace hE := hE.1 c4
      rw [show mSel ((jSW.getD 195 []).getD 0 []) (ld I p0 0 - 163) = 2 by rw [c4]; rfl]
      refine xG gb195.2.2.1 ?_
      refine s6 (p := p0) rfl ?_
      refine s51o (o := R p0 3) o3.sh o3.sp (by decide) o3.rf ?_
      refine s9o (ls' := [.ref p0, .ref 60, .int (oI x2), vR (R p0 3), mUn]) (Nat.le_of_ble_eq_true rfl) rfl ?_
      refine s79 ?_
      exact hE
    replace hE := hE.2
    by_cases c5 : ld I p0 0 = 164
    · replace hE := hE.1 c5
      rw [show mSel ((jSW.getD 195 []).getD 0 []) (ld I p0 0 - 163) = 6 by rw [c5]; rfl]
      refine xG gb195.2.2.2.2.2.2.1 ?_
      refine s6 (p := p0) rfl ?_
      refine s51o (o := R p0 3) o3.sh o3.sp (by decide) o3.rf ?_
      refine s9o (ls' := [.ref p0, .ref 60, .int (oI x2), vR (R p0 3), mUn]) (Nat.le_of_ble_eq_true rfl) rfl ?_
      refine s79 ?_
      exact hE
    replace hE := hE.2
    by_cases c6 : ld I p0 0 = 165
    · replace hE := hE.1 c6
      rw [show mSel ((jSW.getD 195 []).getD 0 []) (ld I p0 0 - 163) = 10 by rw [c6]; rfl]
      refine xG gb195.2.2.2.2.2.2.2.2.2.2.1 ?_
      refine s6 (p := p0) rfl ?_
      refine s51o (o := R p0 3) o3.sh o3.sp (by decide) o3.rf ?_
      refine s73o (fun n8 => ?_) (fun p7 n8 => ?_)
      · replace hE := hE.1 n8
        (try rw [n8])
        show Wp _ _ [.ref p0, .ref 60, .int (oI x2), mUn, mUn] [] _ _
        refine xG gb195.2.2.2.2.2.2.2.2.2.2.2.1 ?_
        refine s0 ?_
        refine s79 ?_
        refine xG gb195.2.2.2.2.2.2.2.2.2.2.2.2.1 ?_
        refine s84 (by decide) ?_
        exact rqI_of hE
      · replace hE := hE.2 p7 n8
        (try rw [n8])
        show Wp _ _ [.ref p0, .ref 60, .int (oI x2), mUn, mUn] [] _ _
        refine s6 (p := p0) rfl ?_
        refine s51o (o := (some p7)) o3.sh o3.sp (by decide) (o3.rf.trans n8) ?_
        refine s6 (p := 60) rfl ?_
        refine s4 (x := x2) rfl ?_
        refine s0 ?_
        refine s16 ?_
        obtain ⟨o9, hE⟩ := hE
        obtain ⟨b10, r11, hE⟩ := hE
        refine sI (rcvO o9 rfl rfl) rfl (Nat.le_of_ble_eq_true rfl) ?_
        refine r11 _ ?_
        obtain ⟨g12, hE⟩ := hE
        refine s68 g12 (fun c13 => ?_) (fun c13 => ?_)
        · replace hE := hE.1 c13
          refine s0 ?_
          refine s60 ?_
          refine xG gb195.2.2.2.2.2.2.2.2.2.2.2.2.1 ?_
          refine s84 (by decide) ?_
          exact rqI_of hE
        · replace hE := hE.2 c13
          refine xG gb195.2.2.2.2.2.2.2.2.2.2.2.1 ?_
          refine s0 ?_
          refine s79 ?_
          refine xG gb195.2.2.2.2.2.2.2.2.2.2.2.2.1 ?_
          refine s84 (by decide) ?_
          exact rqI_of hE
    replace hE := hE.2
    replace hE := hE ⟨c4, c5, c6⟩
    rw [show mSel ((jSW.getD 195 []).getD 0 []) (ld I p0 0 - 163) = 13 by exact mSel_def (lo := 163) (vs := [163, 164, 165]) rfl (by intro v hv; simp only [List.mem_cons, List.not_mem_nil, or_false] at hv; omega)]
    refine xG gb195.2.2.2.2.2.2.2.2.2.2.2.2.2.1 ?_
    refine s6 (p := p0) rfl ?_
    refine s50 (v := ld I p0 0) o3.sh o3.sp (by decide) (oI_ld _ _ _) ?_
    refine s0 ?_
    refine s17 ?_
    refine s7 (ls' := [.ref p0, .ref 60, .int (oI x2), .int (oI (ld I p0 0 - 144)), mUn]) (Nat.le_of_ble_eq_true rfl) rfl ?_
    refine s4 (x := ld I p0 0 - 144) rfl ?_
    obtain ⟨g14, hE⟩ := hE
    refine s69 g14 (fun c15 => ?_) (fun c15 => ?_)
    · replace hE := hE.1 c15
      refine xG gb195.2.2.2.2.2.2.2.2.2.2.2.2.2.2.1 ?_
      refine s0 ?_
      refine s79 ?_
      refine xG gb195.2.2.2.2.2.2.2.2.2.2.2.2.2.2.2.1 ?_
      refine s7 (ls' := [.ref p0, .ref 60, .int (oI x2), .int (oI (ld I p0 0 - 144)), .int (oI 0)]) (Nat.le_of_ble_eq_true rfl) rfl ?_
      refine s6 (p := p0) rfl ?_
      refine s50 (v := ld I p0 1) o3.sh o3.sp (by decide) (oI_ld _ _ _) ?_
      refine s0 ?_
      refine s62 (ld_inR _ _ _) (inRd rfl) (fun c16 => ?_) (fun c16 => ?_)
      · replace hE := hE.1 c16
        refine s4 (x := 0) rfl ?_
        refine s6 (p := p0) rfl ?_
        refine s50 (v := ld I p0 2) o3.sh o3.sp (by decide) (oI_ld _ _ _) ?_
        refine s64 (inRd rfl) (ld_inR _ _ _) (fun c17 => ?_) (fun c17 => ?_)
        · replace hE := hE.1 c17
          refine s0 ?_
          refine s60 ?_
          refine xG gb195.2.2.2.2.2.2.2.2.2.2.2.2.2.2.2.2.2.2.2.2.2 ?_
          refine s84 (by decide) ?_
          exact rqI_of hE
        · replace hE := hE.2 c17
          refine xG gb195.2.2.2.2.2.2.2.2.2.2.2.2.2.2.2.2.1 ?_
          refine s0 ?_
          refine s60 ?_
          refine xG gb195.2.2.2.2.2.2.2.2.2.2.2.2.2.2.2.2.2.2.2.2.2 ?_
          refine s84 (by decide) ?_
          exact rqI_of hE
      · replace hE := hE.2 c16
        refine xG gb195.2.2.2.2.2.2.2.2.2.2.2.2.2.2.2.2.2.1 ?_
        refine s6 (p := p0) rfl ?_
        refine s50 (v := ld I p0 1) o3.sh o3.sp (by decide) (oI_ld _ _ _) ?_
        refine s0 ?_
        refine s62 (ld_inR _ _ _) (inRd rfl) (fun c18 => ?_) (fun c18 => ?_)
        · replace hE := hE.1 c18
          refine s4 (x := 0) rfl ?_
          refine s6 (p := p0) rfl ?_
          refine s50 (v := ld I p0 2) o3.sh o3.sp (by decide) (oI_ld _ _ _) ?_
          refine s66 (inRd rfl) (ld_inR _ _ _) (fun c19 => ?_) (fun c19 => ?_)
          · replace hE := hE.1 c19
            refine s0 ?_
            refine s60 ?_
            refine xG gb195.2.2.2.2.2.2.2.2.2.2.2.2.2.2.2.2.2.2.2.2.2 ?_
            refine s84 (by decide) ?_
            exact rqI_of hE
          · replace hE := hE.2 c19
            refine xG gb195.2.2.2.2.2.2.2.2.2.2.2.2.2.2.2.2.2.2.1 ?_
            refine s0 ?_
            refine s60 ?_
            refine xG gb195.2.2.2.2.2.2.2.2.2.2.2.2.2.2.2.2.2.2.2.2.2 ?_
            refine s84 (by decide) ?_
            exact rqI_of hE
        · replace hE := hE.2 c18
          refine xG gb195.2.2.2.2.2.2.2.2.2.2.2.2.2.2.2.2.2.2.2.1 ?_
          refine s4 (x := 0) rfl ?_
          refine s6 (p := p0) rfl ?_
          refine s50 (v := ld I p0 2) o3.sh o3.sp (by decide) (oI_ld _ _ _) ?_
          refine s62 (inRd rfl) (ld_inR _ _ _) (fun c20 => ?_) (fun c20 => ?_)
          · replace hE := hE.1 c20
            refine s0 ?_
            refine s60 ?_
            refine xG gb195.2.2.2.2.2.2.2.2.2.2.2.2.2.2.2.2.2.2.2.2.2 ?_
            refine s84 (by decide) ?_
            exact rqI_of hE
          · replace hE := hE.2 c20
            refine xG gb195.2.2.2.2.2.2.2.2.2.2.2.2.2.2.2.2.2.2.2.2.1 ?_
            refine s0 ?_
            refine s79 ?_
            refine xG gb195.2.2.2.2.2.2.2.2.2.2.2.2.2.2.2.2.2.2.2.2.2 ?_
            refine s84 (by decide) ?_
            exact rqI_of hE
    · replace hE := hE.2 c15
      refine s4 (x := ld I p0 0 - 144) rfl ?_
      refine s6 (p := 60) rfl ?_
      refine s48 sh60 (by decide) ?_
      refine s64 g14 (inRd rfl) (fun c21 => ?_) (fun c21 => ?_)
      · replace hE := hE.1 c21
        refine s6 (p := 60) rfl ?_
        refine s4 (x := ld I p0 0 - 144) rfl ?_
        obtain ⟨g22, hE⟩ := hE
        refine s40 (v := ld I 60 (ld I p0 0 - 144).toNat) sh60 g22 rfl (oI_ld _ _ _) ?_
        refine s60 ?_
        refine xG gb195.2.2.2.2.2.2.2.2.2.2.2.2.2.2.2.1 ?_
        refine s7 (ls' := [.ref p0, .ref 60, .int (oI x2), .int (oI (ld I p0 0 - 144)), .int (oI (ld I 60 (ld I p0 0 - 144).toNat))]) (Nat.le_of_ble_eq_true rfl) rfl ?_
        refine s6 (p := p0) rfl ?_
        refine s50 (v := ld I p0 1) o3.sh o3.sp (by decide) (oI_ld _ _ _) ?_
        refine s0 ?_
        refine s62 (ld_inR _ _ _) (inRd rfl) (fun c23 => ?_) (fun c23 => ?_)
        · replace hE := hE.1 c23
          refine s4 (x := ld I 60 (ld I p0 0 - 144).toNat) rfl ?_
          refine s6 (p := p0) rfl ?_
          refine s50 (v := ld I p0 2) o3.sh o3.sp (by decide) (oI_ld _ _ _) ?_
          refine s64 (ld_inR _ _ _) (ld_inR _ _ _) (fun c24 => ?_) (fun c24 => ?_)
          · replace hE := hE.1 c24
            refine s0 ?_
            refine s60 ?_
            refine xG gb195.2.2.2.2.2.2.2.2.2.2.2.2.2.2.2.2.2.2.2.2.2 ?_
            refine s84 (by decide) ?_
            exact rqI_of hE
          · replace hE := hE.2 c24
            refine xG gb195.2.2.2.2.2.2.2.2.2.2.2.2.2.2.2.2.1 ?_
            refine s0 ?_
            refine s60 ?_
            refine xG gb195.2.2.2.2.2.2.2.2.2.2.2.2.2.2.2.2.2.2.2.2.2 ?_
            refine s84 (by decide) ?_
            exact rqI_of hE
        · replace hE := hE.2 c23
          refine xG gb195.2.2.2.2.2.2.2.2.2.2.2.2.2.2.2.2.2.1 ?_
          refine s6 (p := p0) rfl ?_
          refine s50 (v := ld I p0 1) o3.sh o3.sp (by decide) (oI_ld _ _ _) ?_
          refine s0 ?_
          refine s62 (ld_inR _ _ _) (inRd rfl) (fun c25 => ?_) (fun c25 => ?_)
          · replace hE := hE.1 c25
            refine s4 (x := ld I 60 (ld I p0 0 - 144).toNat) rfl ?_
            refine s6 (p := p0) rfl ?_
            refine s50 (v := ld I p0 2) o3.sh o3.sp (by decide) (oI_ld _ _ _) ?_
            refine s66 (ld_inR _ _ _) (ld_inR _ _ _) (fun c26 => ?_) (fun c26 => ?_)
            · replace hE := hE.1 c26
              refine s0 ?_
              refine s60 ?_
              refine xG gb195.2.2.2.2.2.2.2.2.2.2.2.2.2.2.2.2.2.2.2.2.2 ?_
              refine s84 (by decide) ?_
              exact rqI_of hE
            · replace hE := hE.2 c26
              refine xG gb195.2.2.2.2.2.2.2.2.2.2.2.2.2.2.2.2.2.2.1 ?_
              refine s0 ?_
              refine s60 ?_
              refine xG gb195.2.2.2.2.2.2.2.2.2.2.2.2.2.2.2.2.2.2.2.2.2 ?_
              refine s84 (by decide) ?_
              exact rqI_of hE
          · replace hE := hE.2 c25
            refine xG gb195.2.2.2.2.2.2.2.2.2.2.2.2.2.2.2.2.2.2.2.1 ?_
            refine s4 (x := ld I 60 (ld I p0 0 - 144).toNat) rfl ?_
            refine s6 (p := p0) rfl ?_
            refine s50 (v := ld I p0 2) o3.sh o3.sp (by decide) (oI_ld _ _ _) ?_
            refine s62 (ld_inR _ _ _) (ld_inR _ _ _) (fun c27 => ?_) (fun c27 => ?_)
            · replace hE := hE.1 c27
              refine s0 ?_
              refine s60 ?_
              refine xG gb195.2.2.2.2.2.2.2.2.2.2.2.2.2.2.2.2.2.2.2.2.2 ?_
              refine s84 (by decide) ?_
              exact rqI_of hE
            · replace hE := hE.2 c27
              refine xG gb195.2.2.2.2.2.2.2.2.2.2.2.2.2.2.2.2.2.2.2.2.1 ?_
              refine s0 ?_
              refine s79 ?_
              refine xG gb195.2.2.2.2.2.2.2.2.2.2.2.2.2.2.2.2.2.2.2.2.2 ?_
              refine s84 (by decide) ?_
              exact rqI_of hE
      · replace hE := hE.2 c21
        refine xG gb195.2.2.2.2.2.2.2.2.2.2.2.2.2.2.1 ?_
        refine s0 ?_
        refine s79 ?_
        refine xG gb195.2.2.2.2.2.2.2.2.2.2.2.2.2.2.2.1 ?_
        refine s7 (ls' := [.ref p0, .ref 60, .int (oI x2), .int (oI (ld I p0 0 - 144)), .int (oI 0)]) (Nat.le_of_ble_eq_true rfl) rfl ?_
        refine s6 (p := p0) rfl ?_
        refine s50 (v := ld I p0 1) o3.sh o3.sp (by decide) (oI_ld _ _ _) ?_
        refine s0 ?_
        refine s62 (ld_inR _ _ _) (inRd rfl) (fun c28 => ?_) (fun c28 => ?_)
        · replace hE := hE.1 c28
          refine s4 (x := 0) rfl ?_
          refine s6 (p := p0) rfl ?_
          refine s50 (v := ld I p0 2) o3.sh o3.sp (by decide) (oI_ld _ _ _) ?_
          refine s64 (inRd rfl) (ld_inR _ _ _) (fun c29 => ?_) (fun c29 => ?_)
          · replace hE := hE.1 c29
            refine s0 ?_
            refine s60 ?_
            refine xG gb195.2.2.2.2.2.2.2.2.2.2.2.2.2.2.2.2.2.2.2.2.2 ?_
            refine s84 (by decide) ?_
            exact rqI_of hE
          · replace hE := hE.2 c29
            refine xG gb195.2.2.2.2.2.2.2.2.2.2.2.2.2.2.2.2.1 ?_
            refine s0 ?_
            refine s60 ?_
            refine xG gb195.2.2.2.2.2.2.2.2.2.2.2.2.2.2.2.2.2.2.2.2.2 ?_
            refine s84 (by decide) ?_
            exact rqI_of hE
        · replace hE := hE.2 c28
          refine xG gb195.2.2.2.2.2.2.2.2.2.2.2.2.2.2.2.2.2.1 ?_
          refine s6 (p := p0) rfl ?_
          refine s50 (v := ld I p0 1) o3.sh o3.sp (by decide) (oI_ld _ _ _) ?_
          refine s0 ?_
          refine s62 (ld_inR _ _ _) (inRd rfl) (fun c30 => ?_) (fun c30 => ?_)
          · replace hE := hE.1 c30
            refine s4 (x := 0) rfl ?_
            refine s6 (p := p0) rfl ?_
            refine s50 (v := ld I p0 2) o3.sh o3.sp (by decide) (oI_ld _ _ _) ?_
            refine s66 (inRd rfl) (ld_inR _ _ _) (fun c31 => ?_) (fun c31 => ?_)
            · replace hE := hE.1 c31
              refine s0 ?_
              refine s60 ?_
              refine xG gb195.2.2.2.2.2.2.2.2.2.2.2.2.2.2.2.2.2.2.2.2.2 ?_
              refine s84 (by decide) ?_
              exact rqI_of hE
            · replace hE := hE.2 c31
              refine xG gb195.2.2.2.2.2.2.2.2.2.2.2.2.2.2.2.2.2.2.1 ?_
              refine s0 ?_
              refine s60 ?_
              refine xG gb195.2.2.2.2.2.2.2.2.2.2.2.2.2.2.2.2.2.2.2.2.2 ?_
              refine s84 (by decide) ?_
              exact rqI_of hE
          · replace hE := hE.2 c30
            refine xG gb195.2.2.2.2.2.2.2.2.2.2.2.2.2.2.2.2.2.2.2.1 ?_
            refine s4 (x := 0) rfl ?_
            refine s6 (p := p0) rfl ?_
            refine s50 (v := ld I p0 2) o3.sh o3.sp (by decide) (oI_ld _ _ _) ?_
            refine s62 (inRd rfl) (ld_inR _ _ _) (fun c32 => ?_) (fun c32 => ?_)
            · replace hE := hE.1 c32
              refine s0 ?_
              refine s60 ?_
              refine xG gb195.2.2.2.2.2.2.2.2.2.2.2.2.2.2.2.2.2.2.2.2.2 ?_
              refine s84 (by decide) ?_
              exact rqI_of hE
            · replace hE := hE.2 c32
              refine xG gb195.2.2.2.2.2.2.2.2.2.2.2.2.2.2.2.2.2.2.2.2.1 ?_
              refine s0 ?_
              refine s79 ?_
              refine xG gb195.2.2.2.2.2.2.2.2.2.2.2.2.2.2.2.2.2.2.2.2.2 ?_
              refine s84 (by decide) ?_
              exact rqI_of hE
section
variable {d L : Nat} {I : mI} {R : mR} {S : mSh} {Q : Option Value → mM → Prop} {h : Nat → Int} {x : Int}
theorem lfa60 {q : Nat} {l : Lf} (hE : EnvC 60 I h) (hn : NLf R S I q l) (hx : 0 ≤ x ∧ x ≤ 40) : R195a60 (d + 1) L I R S q x (lfB h l) := by
  intro K hK
  obtain ⟨h1, h2, h3, h4, -, h6, h7, h8⟩ := hn
  have hp := pcN_in h6
  have e : ld I 60 (pcN l.1).toNat = h l.1.toNat := by
    have := hE l.1.toNat (by omega)
    rwa [show ((l.1.toNat : Nat) : Int) = l.1 by omega] at this
  refine e195a60 ⟨by unfold inR; omega, fun c => absurd c (by omega), fun _ => ⟨h1, ?_⟩⟩
  rw [h2, h3, h4]
  rw [show 144 + pcN l.1 - 144 = pcN l.1 by omega, e]
  have k1 : ∀ b : Bool, lfB h l = b → K (oI (bI b)) (bd L I R S) := fun b hb => by rw [← hb]; exact hK
  unfold lfB at k1
  refine ⟨fun c => absurd c (by omega), fun c => absurd c (by omega), fun c => absurd c (by omega), fun _ => ⟨by unfold inR; omega, fun c => absurd c (by omega), fun _ => ⟨fun _ => ⟨hp, fun c => ⟨fun c2 => ?_, fun c2 => ?_⟩, fun c => ⟨fun c1 => ⟨fun c2 => ?_, fun c2 => ?_⟩, fun c1 => ⟨fun c2 => ?_, fun c2 => ?_⟩⟩⟩, fun c => absurd hp.2 c⟩⟩⟩
  · exact k1 true (by rw [if_pos c, decide_eq_true c2])
  · exact k1 false (by rw [if_pos c, decide_eq_false c2])
  · exact k1 true (by rw [if_neg c, if_pos c1, decide_eq_true c2])
  · exact k1 false (by rw [if_neg c, if_pos c1, decide_eq_false c2])
  · exact k1 true (by rw [if_neg c, if_neg c1, decide_eq_true c2])
  · exact k1 false (by rw [if_neg c, if_neg c1, decide_eq_false c2])
theorem ora60 {α : Type} {P : Nat → α → Prop} {f : α → Bool} (hP : ∀ q a, P q a → obS S q 16 5 ∧ R195a60 d L I R S q (x + 1) (f a)) : ∀ (l : List α) (o : Option Nat) (w w4 : Value), NCh P R l o → Q (some (.int (oI (bI (l.any f))))) (bd L I R S) → h195_3a60 (d + 1) L I R S Q w x o w4
  | [], o, w, w4, hn, hQ => by
    have hn : o = none := hn
    subst hn
    exact e195_3a60 ⟨fun _ => hQ, fun p h => absurd h (by simp)⟩
  | a :: l, o, w, w4, hn, hQ => by
    obtain ⟨q, rfl, h2, h3⟩ := hn
    refine e195_3a60 ⟨fun h => absurd h (by simp), fun p h => ?_⟩
    cases h
    obtain ⟨h4, h5⟩ := hP q a h2
    refine ⟨h4, f a, h5, bI_in _, fun c => ?_, fun c => ?_⟩
    · have e : f a = false := by cases hb : f a; rfl; rw [hb] at c; exact absurd c (by decide)
      refine ora60 hP l _ _ _ h3 ?_
      rw [show (a :: l).any f = l.any f by rw [List.any_cons, e, Bool.false_or]] at hQ
      exact hQ
    · have e : f a = true := by cases hb : f a; rw [hb] at c; exact absurd rfl c; rfl
      rw [show (a :: l).any f = true by rw [List.any_cons, e, Bool.true_or]] at hQ
      exact hQ
theorem ana60 {α : Type} {P : Nat → α → Prop} {f : α → Bool} (hP : ∀ q a, P q a → obS S q 16 5 ∧ R195a60 d L I R S q (x + 1) (f a)) : ∀ (l : List α) (o : Option Nat) (w w4 : Value), NCh P R l o → Q (some (.int (oI (bI (l.all f))))) (bd L I R S) → h195_7a60 (d + 1) L I R S Q w x o w4
  | [], o, w, w4, hn, hQ => by
    have hn : o = none := hn
    subst hn
    exact e195_7a60 ⟨fun _ => hQ, fun p h => absurd h (by simp)⟩
  | a :: l, o, w, w4, hn, hQ => by
    obtain ⟨q, rfl, h2, h3⟩ := hn
    refine e195_7a60 ⟨fun h => absurd h (by simp), fun p h => ?_⟩
    cases h
    obtain ⟨h4, h5⟩ := hP q a h2
    refine ⟨h4, f a, h5, bI_in _, fun c => ?_, fun c => ?_⟩
    · have e : f a = false := by cases hb : f a; rfl; rw [hb] at c; exact absurd c (by decide)
      rw [show (a :: l).all f = false by rw [List.all_cons, e, Bool.false_and]] at hQ
      exact hQ
    · have e : f a = true := by cases hb : f a; rw [hb] at c; exact absurd rfl c; rfl
      refine ana60 hP l _ _ _ h3 ?_
      rw [show (a :: l).all f = l.all f by rw [List.all_cons, e, Bool.true_and]] at hQ
      exact hQ
theorem jna60 {α : Type} {P : Nat → α → Prop} {f : α → Bool} {q c : Nat} {l : List α} (hP : ∀ q a, P q a → obS S q 16 5) (hx : 0 ≤ x ∧ x + 1 + c ≤ 40) (hR : ∀ q a, P q a → ∀ (d : Nat) (x : Int), 0 ≤ x ∧ x + c ≤ 40 → R195a60 (d + (c + 1)) L I R S q x (f a)) (hn : NJn 164 P R S I q l) : R195a60 (d + (c + 2)) L I R S q x (l.all f) := by
  rcases hn with ⟨a, rfl, h⟩ | ⟨-, h1, h2, h3⟩
  · have e : [a].all f = f a := by simp
    rw [e]
    exact hR q a h (d + 1) x ⟨hx.1, by omega⟩ |> fun k => by rw [show d + (c + 2) = d + 1 + (c + 1) by omega]; exact k
  · intro K hK
    refine e195a60 (d := d + (c + 1)) ⟨by unfold inR; omega, fun k => absurd k (by omega), fun _ => ⟨h1, ?_⟩⟩
    rw [h2]
    refine ⟨fun k => absurd k (by decide), fun _ => ?_, fun k => absurd k (by decide), fun k => absurd rfl k.2.1⟩
    exact ana60 (fun q a ha => ⟨hP q a ha, hR q a ha d (x + 1) ⟨by omega, by omega⟩⟩) l _ _ _ h3 (rqI_of hK)
theorem jno60 {α : Type} {P : Nat → α → Prop} {f : α → Bool} {q c : Nat} {l : List α} (hP : ∀ q a, P q a → obS S q 16 5) (hx : 0 ≤ x ∧ x + 1 + c ≤ 40) (hR : ∀ q a, P q a → ∀ (d : Nat) (x : Int), 0 ≤ x ∧ x + c ≤ 40 → R195a60 (d + (c + 1)) L I R S q x (f a)) (hn : NJn 163 P R S I q l) : R195a60 (d + (c + 2)) L I R S q x (l.any f) := by
  rcases hn with ⟨a, rfl, h⟩ | ⟨-, h1, h2, h3⟩
  · have e : [a].any f = f a := by simp
    rw [e]
    exact hR q a h (d + 1) x ⟨hx.1, by omega⟩ |> fun k => by rw [show d + (c + 2) = d + 1 + (c + 1) by omega]; exact k
  · intro K hK
    refine e195a60 (d := d + (c + 1)) ⟨by unfold inR; omega, fun k => absurd k (by omega), fun _ => ⟨h1, ?_⟩⟩
    rw [h2]
    refine ⟨fun _ => ?_, fun k => absurd k (by decide), fun k => absurd k (by decide), fun k => absurd rfl k.1⟩
    exact ora60 (fun q a ha => ⟨hP q a ha, hR q a ha d (x + 1) ⟨by omega, by omega⟩⟩) l _ _ _ h3 (rqI_of hK)
theorem one60 (hE : EnvC 60 I h) : ∀ (n : Nat) (q : Nat) (o : One n), NOne R S I n q o → ∀ (d : Nat) (x : Int), 0 ≤ x ∧ x + (2 * n : Nat) ≤ 40 → R195a60 (d + (2 * n + 1)) L I R S q x (tvO h n o)
  | 0, q, o, hn, d, x, hx => lfa60 hE hn (by omega)
  | n + 1, q, .inl l, hn, d, x, hx => by
    have := lfa60 (d := d + (2 * n + 2)) (L := L) hE hn (x := x) (by omega)
    exact this
  | n + 1, q, .inr (.inl o), hn, d, x, hx => by
    obtain ⟨h1, h2, q1, h3, -, h5⟩ := hn
    have ih := one60 hE n q1 o h5 (d + 1) (x + 1) (by omega)
    intro K hK
    refine e195a60 (d := d + (2 * n + 2)) ⟨by unfold inR; omega, fun k => absurd k (by omega), fun _ => ⟨h1, ?_⟩⟩
    rw [h2, h3]
    refine ⟨fun k => absurd k (by decide), fun k => absurd k (by decide), fun _ => ⟨fun k => absurd k (by simp), fun p k => ?_⟩, fun k => absurd rfl k.2.2⟩
    cases k
    have hK2 : K (oI (bI (!tvO h n o))) (bd L I R S) := hK
    refine ⟨NOne.ob n q1 o h5, tvO h n o, by rw [show d + (2 * n + 2) = d + 1 + (2 * n + 1) by omega]; exact ih, bI_in _, fun c => ?_, fun c => ?_⟩
    · have e : tvO h n o = false := by cases hb : tvO h n o; rfl; rw [hb] at c; exact absurd c (by decide)
      rw [e] at hK2; exact hK2
    · have e : tvO h n o = true := by cases hb : tvO h n o; rw [hb] at c; exact absurd rfl c; rfl
      rw [e] at hK2; exact hK2
  | n + 1, q, .inr (.inr t), hn, d, x, hx => by
    have := jno60 (d := d) (L := L) (x := x) (c := 2 * n + 1) (f := fun al => al.all (tvO h n)) (fun q a ha => NJn.ob ha (fun q x hx => NOne.ob n q x hx)) (by omega) (fun q a ha d x hx => jna60 (c := 2 * n) (f := tvO h n) (fun q x hx => NOne.ob n q x hx) (by omega) (fun q a ha d x hx => one60 hE n q a ha d x (by omega)) ha) hn
    exact this
theorem any60 (hE : EnvC 60 I h) {q : Nat} {t : Any 10} (hn : NAny R S I 10 q t) : R195a60 (d + 23) L I R S q 0 (tvA h 10 t) :=
  jno60 (d := d) (c := 21) (f := fun al => al.all (tvO h 10)) (fun q a ha => NJn.ob ha (fun q x hx => NOne.ob 10 q x hx)) (by omega) (fun q a ha d x hx => jna60 (c := 20) (f := tvO h 10) (fun q x hx => NOne.ob 10 q x hx) (by omega) (fun q a ha d x hx => one60 hE 10 q a ha d x (by omega)) ha) hn
end
def R195a58 (d L : Nat) (I : mI) (R : mR) (S : mSh) (q : Nat) (x : Int) (b : Bool) : Prop := ∀ K : Int32 → mM → Prop, K (oI (bI b)) (bd L I R S) → CallI d 195 [.ref q, .ref 58, .int (oI x)] (bd L I R S) K
def h195_3a58 (d L : Nat) (I : Nat → Nat → Int32) (R : Nat → Nat → Option Nat) (S : List (Nat × Nat)) (Q : Option Value → mM → Prop) (w0 : Value) (x2 : Int) (p3 : Option Nat) (w4 : Value) : Prop := Wp d (gb 195 3) [w0, .ref 58, .int (oI x2), vR p3, w4] [] (bd L I R S) Q
def h195_7a58 (d L : Nat) (I : Nat → Nat → Int32) (R : Nat → Nat → Option Nat) (S : List (Nat × Nat)) (Q : Option Value → mM → Prop) (w0 : Value) (x2 : Int) (p3 : Option Nat) (w4 : Value) : Prop := Wp d (gb 195 7) [w0, .ref 58, .int (oI x2), vR p3, w4] [] (bd L I R S) Q
set_option maxRecDepth 4000 in
theorem e195_3a58 {d L : Nat} {I : Nat → Nat → Int32} {R : Nat → Nat → Option Nat} {S : List (Nat × Nat)} {Q : Option Value → mM → Prop}  {w0 : Value} {x2 : Int} {p3 : Option Nat} {w4 : Value} (hE : ((p3 = none) → Q (some (.int (oI 0))) (bd L I R S)) ∧ (∀ p1 : Nat, (p3 = some p1) → obS S p1 16 5 ∧ (∃ (b4 : Bool), R195a58 d L I R S p1 (x2 + 1) b4 ∧ (inR (bI b4) ∧ (((bI b4 = 0) → h195_3a58 (d + 1) L I R S Q w0 x2 (R p1 4) w4) ∧ (¬ (bI b4 = 0) → Q (some (.int (oI 1))) (bd L I R S))))))) : h195_3a58 (d + 1) L I R S Q w0 x2 p3 w4 := by
  unfold h195_3a58
  refine xG gb195.2.2.2.1 ?_
  refine s6o (o := p3) rfl ?_
  refine s73o (fun n2 => ?_) (fun p1 n2 => ?_)
  · replace hE := hE.1 n2
    (try rw [n2])
    show Wp _ _ [w0, .ref 58, .int (oI x2), .null, w4] [] _ _
    refine xG gb195.2.2.2.2.2.1 ?_
    refine s0 ?_
    refine s84 (by decide) ?_
    exact hE
  · replace hE := hE.2 p1 n2
    (try rw [n2])
    show Wp _ _ [w0, .ref 58, .int (oI x2), .ref p1, w4] [] _ _
    refine s6 (p := p1) rfl ?_
    refine s6 (p := 58) rfl ?_
    refine s4 (x := x2) rfl ?_
    refine s0 ?_
    refine s16 ?_
    obtain ⟨o3, hE⟩ := hE
    obtain ⟨b4, r5, hE⟩ := hE
    refine sI (rcvO o3 rfl rfl) rfl (Nat.le_of_ble_eq_true rfl) ?_
    refine r5 _ ?_
    obtain ⟨g6, hE⟩ := hE
    refine s67 g6 (fun c7 => ?_) (fun c7 => ?_)
    · replace hE := hE.1 c7
      refine xG gb195.2.2.2.2.1 ?_
      refine s6 (p := p1) rfl ?_
      refine s51o (o := R p1 4) o3.sh o3.sp (by decide) o3.rf ?_
      refine s9o (ls' := [w0, .ref 58, .int (oI x2), vR (R p1 4), w4]) (Nat.le_of_ble_eq_true rfl) rfl ?_
      refine s60 ?_
      exact hE
    · replace hE := hE.2 c7
      refine s0 ?_
      refine s84 (by decide) ?_
      exact hE
set_option maxRecDepth 4000 in
theorem e195_7a58 {d L : Nat} {I : Nat → Nat → Int32} {R : Nat → Nat → Option Nat} {S : List (Nat × Nat)} {Q : Option Value → mM → Prop}  {w0 : Value} {x2 : Int} {p3 : Option Nat} {w4 : Value} (hE : ((p3 = none) → Q (some (.int (oI 1))) (bd L I R S)) ∧ (∀ p1 : Nat, (p3 = some p1) → obS S p1 16 5 ∧ (∃ (b4 : Bool), R195a58 d L I R S p1 (x2 + 1) b4 ∧ (inR (bI b4) ∧ (((bI b4 = 0) → Q (some (.int (oI 0))) (bd L I R S)) ∧ (¬ (bI b4 = 0) → h195_7a58 (d + 1) L I R S Q w0 x2 (R p1 4) w4)))))) : h195_7a58 (d + 1) L I R S Q w0 x2 p3 w4 := by
  unfold h195_7a58
  refine xG gb195.2.2.2.2.2.2.2.1 ?_
  refine s6o (o := p3) rfl ?_
  refine s73o (fun n2 => ?_) (fun p1 n2 => ?_)
  · replace hE := hE.1 n2
    (try rw [n2])
    show Wp _ _ [w0, .ref 58, .int (oI x2), .null, w4] [] _ _
    refine xG gb195.2.2.2.2.2.2.2.2.2.1 ?_
    refine s0 ?_
    refine s84 (by decide) ?_
    exact hE
  · replace hE := hE.2 p1 n2
    (try rw [n2])
    show Wp _ _ [w0, .ref 58, .int (oI x2), .ref p1, w4] [] _ _
    refine s6 (p := p1) rfl ?_
    refine s6 (p := 58) rfl ?_
    refine s4 (x := x2) rfl ?_
    refine s0 ?_
    refine s16 ?_
    obtain ⟨o3, hE⟩ := hE
    obtain ⟨b4, r5, hE⟩ := hE
    refine sI (rcvO o3 rfl rfl) rfl (Nat.le_of_ble_eq_true rfl) ?_
    refine r5 _ ?_
    obtain ⟨g6, hE⟩ := hE
    refine s68 g6 (fun c7 => ?_) (fun c7 => ?_)
    · replace hE := hE.1 c7
      refine s0 ?_
      refine s84 (by decide) ?_
      exact hE
    · replace hE := hE.2 c7
      refine xG gb195.2.2.2.2.2.2.2.2.1 ?_
      refine s6 (p := p1) rfl ?_
      refine s51o (o := R p1 4) o3.sh o3.sp (by decide) o3.rf ?_
      refine s9o (ls' := [w0, .ref 58, .int (oI x2), vR (R p1 4), w4]) (Nat.le_of_ble_eq_true rfl) rfl ?_
      refine s60 ?_
      exact hE
set_option maxRecDepth 4000 in
theorem e195a58 {d L : Nat} {I : Nat → Nat → Int32} {R : Nat → Nat → Option Nat} {S : List (Nat × Nat)} {K : Int32 → mM → Prop}  {p0 : Nat} {x2 : Int} (hE : inR x2 ∧ (((40 < x2) → K (oI 0) (bd L I R S)) ∧ (¬ (40 < x2) → obS S p0 16 5 ∧ ((ld I p0 0 = 163 → h195_3a58 (d + 1) L I R S (rqI K) (.ref p0) x2 (R p0 3) mUn) ∧ (ld I p0 0 = 164 → h195_7a58 (d + 1) L I R S (rqI K) (.ref p0) x2 (R p0 3) mUn) ∧ (ld I p0 0 = 165 → ((R p0 3 = none) → K (oI 0) (bd L I R S)) ∧ (∀ p7 : Nat, (R p0 3 = some p7) → obS S p7 16 5 ∧ (∃ (b10 : Bool), R195a58 d L I R S p7 (x2 + 1) b10 ∧ (inR (bI b10) ∧ (((bI b10 = 0) → K (oI 1) (bd L I R S)) ∧ (¬ (bI b10 = 0) → K (oI 0) (bd L I R S))))))) ∧ (¬ ld I p0 0 = 163 ∧ ¬ ld I p0 0 = 164 ∧ ¬ ld I p0 0 = 165 → inR (ld I p0 0 - 144) ∧ (((ld I p0 0 - 144 < 0) → ((ld I p0 1 = 60) → ((0 < ld I p0 2) → K (oI 1) (bd L I R S)) ∧ (¬ (0 < ld I p0 2) → K (oI 0) (bd L I R S))) ∧ (¬ (ld I p0 1 = 60) → ((ld I p0 1 = 62) → ((ld I p0 2 < 0) → K (oI 1) (bd L I R S)) ∧ (¬ (ld I p0 2 < 0) → K (oI 0) (bd L I R S))) ∧ (¬ (ld I p0 1 = 62) → ((0 = ld I p0 2) → K (oI 1) (bd L I R S)) ∧ (¬ (0 = ld I p0 2) → K (oI 0) (bd L I R S))))) ∧ (¬ (ld I p0 0 - 144 < 0) → ((ld I p0 0 - 144 < 12) → (0 ≤ ld I p0 0 - 144 ∧ ld I p0 0 - 144 < 12) ∧ (((ld I p0 1 = 60) → ((ld I 58 (ld I p0 0 - 144).toNat < ld I p0 2) → K (oI 1) (bd L I R S)) ∧ (¬ (ld I 58 (ld I p0 0 - 144).toNat < ld I p0 2) → K (oI 0) (bd L I R S))) ∧ (¬ (ld I p0 1 = 60) → ((ld I p0 1 = 62) → ((ld I p0 2 < ld I 58 (ld I p0 0 - 144).toNat) → K (oI 1) (bd L I R S)) ∧ (¬ (ld I p0 2 < ld I 58 (ld I p0 0 - 144).toNat) → K (oI 0) (bd L I R S))) ∧ (¬ (ld I p0 1 = 62) → ((ld I 58 (ld I p0 0 - 144).toNat = ld I p0 2) → K (oI 1) (bd L I R S)) ∧ (¬ (ld I 58 (ld I p0 0 - 144).toNat = ld I p0 2) → K (oI 0) (bd L I R S)))))) ∧ (¬ (ld I p0 0 - 144 < 12) → ((ld I p0 1 = 60) → ((0 < ld I p0 2) → K (oI 1) (bd L I R S)) ∧ (¬ (0 < ld I p0 2) → K (oI 0) (bd L I R S))) ∧ (¬ (ld I p0 1 = 60) → ((ld I p0 1 = 62) → ((ld I p0 2 < 0) → K (oI 1) (bd L I R S)) ∧ (¬ (ld I p0 2 < 0) → K (oI 0) (bd L I R S))) ∧ (¬ (ld I p0 1 = 62) → ((0 = ld I p0 2) → K (oI 1) (bd L I R S)) ∧ (¬ (0 = ld I p0 2) → K (oI 0) (bd L I R S)))))))))))) : CallI (d + 1) 195 [.ref p0, .ref 58, .int (oI x2)] (bd L I R S) K := by
  refine cI_of (ls := [.ref p0, .ref 58, .int (oI x2), mUn, mUn]) rfl ?_
  refine xG gb195.1 ?_
  refine s4 (x := x2) rfl ?_
  refine s0 ?_
  obtain ⟨g1, hE⟩ := hE
  refine s66 g1 (inRd rfl) (fun c2 => ?_) (fun c2 => ?_)
  · replace hE := hE.1 c2
    refine s0 ?_
    refine s84 (by decide) ?_
    exact rqI_of hE
  · replace hE := hE.2 c2
    refine xG gb195.2.1 ?_
    refine s6 (p := p0) rfl ?_
    obtain ⟨o3, hE⟩ := hE
    refine s50 (v := ld I p0 0) o3.sh o3.sp (by decide) (oI_ld _ _ _) ?_
    refine s76 (ld_inR _ _ _) ?_
    by_cases c4 : ld I p0 0 = 163
    · replace hE := hE.1 c4
      rw [show mSel ((jSW.getD 195 []).getD 0 []) (ld I p0 0 - 163) = 2 by rw [c4]; rfl]
      refine xG gb195.2.2.1 ?_
      refine s6 (p := p0) rfl ?_
      refine s51o (o := R p0 3) o3.sh o3.sp (by decide) o3.rf ?_
      refine s9o (ls' := [.ref p0, .ref 58, .int (oI x2), vR (R p0 3), mUn]) (Nat.le_of_ble_eq_true rfl) rfl ?_
      refine s79 ?_
      exact hE
    replace hE := hE.2
    by_cases c5 : ld I p0 0 = 164
    · replace hE := hE.1 c5
      rw [show mSel ((jSW.getD 195 []).getD 0 []) (ld I p0 0 - 163) = 6 by rw [c5]; rfl]
      refine xG gb195.2.2.2.2.2.2.1 ?_
      refine s6 (p := p0) rfl ?_
      refine s51o (o := R p0 3) o3.sh o3.sp (by decide) o3.rf ?_
      refine s9o (ls' := [.ref p0, .ref 58, .int (oI x2), vR (R p0 3), mUn]) (Nat.le_of_ble_eq_true rfl) rfl ?_
      refine s79 ?_
      exact hE
    replace hE := hE.2
    by_cases c6 : ld I p0 0 = 165
    · replace hE := hE.1 c6
      rw [show mSel ((jSW.getD 195 []).getD 0 []) (ld I p0 0 - 163) = 10 by rw [c6]; rfl]
      refine xG gb195.2.2.2.2.2.2.2.2.2.2.1 ?_
      refine s6 (p := p0) rfl ?_
      refine s51o (o := R p0 3) o3.sh o3.sp (by decide) o3.rf ?_
      refine s73o (fun n8 => ?_) (fun p7 n8 => ?_)
      · replace hE := hE.1 n8
        (try rw [n8])
        show Wp _ _ [.ref p0, .ref 58, .int (oI x2), mUn, mUn] [] _ _
        refine xG gb195.2.2.2.2.2.2.2.2.2.2.2.1 ?_
        refine s0 ?_
        refine s79 ?_
        refine xG gb195.2.2.2.2.2.2.2.2.2.2.2.2.1 ?_
        refine s84 (by decide) ?_
        exact rqI_of hE
      · replace hE := hE.2 p7 n8
        (try rw [n8])
        show Wp _ _ [.ref p0, .ref 58, .int (oI x2), mUn, mUn] [] _ _
        refine s6 (p := p0) rfl ?_
        refine s51o (o := (some p7)) o3.sh o3.sp (by decide) (o3.rf.trans n8) ?_
        refine s6 (p := 58) rfl ?_
        refine s4 (x := x2) rfl ?_
        refine s0 ?_
        refine s16 ?_
        obtain ⟨o9, hE⟩ := hE
        obtain ⟨b10, r11, hE⟩ := hE
        refine sI (rcvO o9 rfl rfl) rfl (Nat.le_of_ble_eq_true rfl) ?_
        refine r11 _ ?_
        obtain ⟨g12, hE⟩ := hE
        refine s68 g12 (fun c13 => ?_) (fun c13 => ?_)
        · replace hE := hE.1 c13
          refine s0 ?_
          refine s60 ?_
          refine xG gb195.2.2.2.2.2.2.2.2.2.2.2.2.1 ?_
          refine s84 (by decide) ?_
          exact rqI_of hE
        · replace hE := hE.2 c13
          refine xG gb195.2.2.2.2.2.2.2.2.2.2.2.1 ?_
          refine s0 ?_
          refine s79 ?_
          refine xG gb195.2.2.2.2.2.2.2.2.2.2.2.2.1 ?_
          refine s84 (by decide) ?_
          exact rqI_of hE
    replace hE := hE.2
    replace hE := hE ⟨c4, c5, c6⟩
    rw [show mSel ((jSW.getD 195 []).getD 0 []) (ld I p0 0 - 163) = 13 by exact mSel_def (lo := 163) (vs := [163, 164, 165]) rfl (by intro v hv; simp only [List.mem_cons, List.not_mem_nil, or_false] at hv; omega)]
    refine xG gb195.2.2.2.2.2.2.2.2.2.2.2.2.2.1 ?_
    refine s6 (p := p0) rfl ?_
    refine s50 (v := ld I p0 0) o3.sh o3.sp (by decide) (oI_ld _ _ _) ?_
    refine s0 ?_
    refine s17 ?_
    refine s7 (ls' := [.ref p0, .ref 58, .int (oI x2), .int (oI (ld I p0 0 - 144)), mUn]) (Nat.le_of_ble_eq_true rfl) rfl ?_
    refine s4 (x := ld I p0 0 - 144) rfl ?_
    obtain ⟨g14, hE⟩ := hE
    refine s69 g14 (fun c15 => ?_) (fun c15 => ?_)
    · replace hE := hE.1 c15
      refine xG gb195.2.2.2.2.2.2.2.2.2.2.2.2.2.2.1 ?_
      refine s0 ?_
      refine s79 ?_
      refine xG gb195.2.2.2.2.2.2.2.2.2.2.2.2.2.2.2.1 ?_
      refine s7 (ls' := [.ref p0, .ref 58, .int (oI x2), .int (oI (ld I p0 0 - 144)), .int (oI 0)]) (Nat.le_of_ble_eq_true rfl) rfl ?_
      refine s6 (p := p0) rfl ?_
      refine s50 (v := ld I p0 1) o3.sh o3.sp (by decide) (oI_ld _ _ _) ?_
      refine s0 ?_
      refine s62 (ld_inR _ _ _) (inRd rfl) (fun c16 => ?_) (fun c16 => ?_)
      · replace hE := hE.1 c16
        refine s4 (x := 0) rfl ?_
        refine s6 (p := p0) rfl ?_
        refine s50 (v := ld I p0 2) o3.sh o3.sp (by decide) (oI_ld _ _ _) ?_
        refine s64 (inRd rfl) (ld_inR _ _ _) (fun c17 => ?_) (fun c17 => ?_)
        · replace hE := hE.1 c17
          refine s0 ?_
          refine s60 ?_
          refine xG gb195.2.2.2.2.2.2.2.2.2.2.2.2.2.2.2.2.2.2.2.2.2 ?_
          refine s84 (by decide) ?_
          exact rqI_of hE
        · replace hE := hE.2 c17
          refine xG gb195.2.2.2.2.2.2.2.2.2.2.2.2.2.2.2.2.1 ?_
          refine s0 ?_
          refine s60 ?_
          refine xG gb195.2.2.2.2.2.2.2.2.2.2.2.2.2.2.2.2.2.2.2.2.2 ?_
          refine s84 (by decide) ?_
          exact rqI_of hE
      · replace hE := hE.2 c16
        refine xG gb195.2.2.2.2.2.2.2.2.2.2.2.2.2.2.2.2.2.1 ?_
        refine s6 (p := p0) rfl ?_
        refine s50 (v := ld I p0 1) o3.sh o3.sp (by decide) (oI_ld _ _ _) ?_
        refine s0 ?_
        refine s62 (ld_inR _ _ _) (inRd rfl) (fun c18 => ?_) (fun c18 => ?_)
        · replace hE := hE.1 c18
          refine s4 (x := 0) rfl ?_
          refine s6 (p := p0) rfl ?_
          refine s50 (v := ld I p0 2) o3.sh o3.sp (by decide) (oI_ld _ _ _) ?_
          refine s66 (inRd rfl) (ld_inR _ _ _) (fun c19 => ?_) (fun c19 => ?_)
          · replace hE := hE.1 c19
            refine s0 ?_
            refine s60 ?_
            refine xG gb195.2.2.2.2.2.2.2.2.2.2.2.2.2.2.2.2.2.2.2.2.2 ?_
            refine s84 (by decide) ?_
            exact rqI_of hE
          · replace hE := hE.2 c19
            refine xG gb195.2.2.2.2.2.2.2.2.2.2.2.2.2.2.2.2.2.2.1 ?_
            refine s0 ?_
            refine s60 ?_
            refine xG gb195.2.2.2.2.2.2.2.2.2.2.2.2.2.2.2.2.2.2.2.2.2 ?_
            refine s84 (by decide) ?_
            exact rqI_of hE
        · replace hE := hE.2 c18
          refine xG gb195.2.2.2.2.2.2.2.2.2.2.2.2.2.2.2.2.2.2.2.1 ?_
          refine s4 (x := 0) rfl ?_
          refine s6 (p := p0) rfl ?_
          refine s50 (v := ld I p0 2) o3.sh o3.sp (by decide) (oI_ld _ _ _) ?_
          refine s62 (inRd rfl) (ld_inR _ _ _) (fun c20 => ?_) (fun c20 => ?_)
          · replace hE := hE.1 c20
            refine s0 ?_
            refine s60 ?_
            refine xG gb195.2.2.2.2.2.2.2.2.2.2.2.2.2.2.2.2.2.2.2.2.2 ?_
            refine s84 (by decide) ?_
            exact rqI_of hE
          · replace hE := hE.2 c20
            refine xG gb195.2.2.2.2.2.2.2.2.2.2.2.2.2.2.2.2.2.2.2.2.1 ?_
            refine s0 ?_
            refine s79 ?_
            refine xG gb195.2.2.2.2.2.2.2.2.2.2.2.2.2.2.2.2.2.2.2.2.2 ?_
            refine s84 (by decide) ?_
            exact rqI_of hE
    · replace hE := hE.2 c15
      refine s4 (x := ld I p0 0 - 144) rfl ?_
      refine s6 (p := 58) rfl ?_
      refine s48 sh58 (by decide) ?_
      refine s64 g14 (inRd rfl) (fun c21 => ?_) (fun c21 => ?_)
      · replace hE := hE.1 c21
        refine s6 (p := 58) rfl ?_
        refine s4 (x := ld I p0 0 - 144) rfl ?_
        obtain ⟨g22, hE⟩ := hE
        refine s40 (v := ld I 58 (ld I p0 0 - 144).toNat) sh58 g22 rfl (oI_ld _ _ _) ?_
        refine s60 ?_
        refine xG gb195.2.2.2.2.2.2.2.2.2.2.2.2.2.2.2.1 ?_
        refine s7 (ls' := [.ref p0, .ref 58, .int (oI x2), .int (oI (ld I p0 0 - 144)), .int (oI (ld I 58 (ld I p0 0 - 144).toNat))]) (Nat.le_of_ble_eq_true rfl) rfl ?_
        refine s6 (p := p0) rfl ?_
        refine s50 (v := ld I p0 1) o3.sh o3.sp (by decide) (oI_ld _ _ _) ?_
        refine s0 ?_
        refine s62 (ld_inR _ _ _) (inRd rfl) (fun c23 => ?_) (fun c23 => ?_)
        · replace hE := hE.1 c23
          refine s4 (x := ld I 58 (ld I p0 0 - 144).toNat) rfl ?_
          refine s6 (p := p0) rfl ?_
          refine s50 (v := ld I p0 2) o3.sh o3.sp (by decide) (oI_ld _ _ _) ?_
          refine s64 (ld_inR _ _ _) (ld_inR _ _ _) (fun c24 => ?_) (fun c24 => ?_)
          · replace hE := hE.1 c24
            refine s0 ?_
            refine s60 ?_
            refine xG gb195.2.2.2.2.2.2.2.2.2.2.2.2.2.2.2.2.2.2.2.2.2 ?_
            refine s84 (by decide) ?_
            exact rqI_of hE
          · replace hE := hE.2 c24
            refine xG gb195.2.2.2.2.2.2.2.2.2.2.2.2.2.2.2.2.1 ?_
            refine s0 ?_
            refine s60 ?_
            refine xG gb195.2.2.2.2.2.2.2.2.2.2.2.2.2.2.2.2.2.2.2.2.2 ?_
            refine s84 (by decide) ?_
            exact rqI_of hE
        · replace hE := hE.2 c23
          refine xG gb195.2.2.2.2.2.2.2.2.2.2.2.2.2.2.2.2.2.1 ?_
          refine s6 (p := p0) rfl ?_
          refine s50 (v := ld I p0 1) o3.sh o3.sp (by decide) (oI_ld _ _ _) ?_
          refine s0 ?_
          refine s62 (ld_inR _ _ _) (inRd rfl) (fun c25 => ?_) (fun c25 => ?_)
          · replace hE := hE.1 c25
            refine s4 (x := ld I 58 (ld I p0 0 - 144).toNat) rfl ?_
            refine s6 (p := p0) rfl ?_
            refine s50 (v := ld I p0 2) o3.sh o3.sp (by decide) (oI_ld _ _ _) ?_
            refine s66 (ld_inR _ _ _) (ld_inR _ _ _) (fun c26 => ?_) (fun c26 => ?_)
            · replace hE := hE.1 c26
              refine s0 ?_
              refine s60 ?_
              refine xG gb195.2.2.2.2.2.2.2.2.2.2.2.2.2.2.2.2.2.2.2.2.2 ?_
              refine s84 (by decide) ?_
              exact rqI_of hE
            · replace hE := hE.2 c26
              refine xG gb195.2.2.2.2.2.2.2.2.2.2.2.2.2.2.2.2.2.2.1 ?_
              refine s0 ?_
              refine s60 ?_
              refine xG gb195.2.2.2.2.2.2.2.2.2.2.2.2.2.2.2.2.2.2.2.2.2 ?_
              refine s84 (by decide) ?_
              exact rqI_of hE
          · replace hE := hE.2 c25
            refine xG gb195.2.2.2.2.2.2.2.2.2.2.2.2.2.2.2.2.2.2.2.1 ?_
            refine s4 (x := ld I 58 (ld I p0 0 - 144).toNat) rfl ?_
            refine s6 (p := p0) rfl ?_
            refine s50 (v := ld I p0 2) o3.sh o3.sp (by decide) (oI_ld _ _ _) ?_
            refine s62 (ld_inR _ _ _) (ld_inR _ _ _) (fun c27 => ?_) (fun c27 => ?_)
            · replace hE := hE.1 c27
              refine s0 ?_
              refine s60 ?_
              refine xG gb195.2.2.2.2.2.2.2.2.2.2.2.2.2.2.2.2.2.2.2.2.2 ?_
              refine s84 (by decide) ?_
              exact rqI_of hE
            · replace hE := hE.2 c27
              refine xG gb195.2.2.2.2.2.2.2.2.2.2.2.2.2.2.2.2.2.2.2.2.1 ?_
              refine s0 ?_
              refine s79 ?_
              refine xG gb195.2.2.2.2.2.2.2.2.2.2.2.2.2.2.2.2.2.2.2.2.2 ?_
              refine s84 (by decide) ?_
              exact rqI_of hE
      · replace hE := hE.2 c21
        refine xG gb195.2.2.2.2.2.2.2.2.2.2.2.2.2.2.1 ?_
        refine s0 ?_
        refine s79 ?_
        refine xG gb195.2.2.2.2.2.2.2.2.2.2.2.2.2.2.2.1 ?_
        refine s7 (ls' := [.ref p0, .ref 58, .int (oI x2), .int (oI (ld I p0 0 - 144)), .int (oI 0)]) (Nat.le_of_ble_eq_true rfl) rfl ?_
        refine s6 (p := p0) rfl ?_
        refine s50 (v := ld I p0 1) o3.sh o3.sp (by decide) (oI_ld _ _ _) ?_
        refine s0 ?_
        refine s62 (ld_inR _ _ _) (inRd rfl) (fun c28 => ?_) (fun c28 => ?_)
        · replace hE := hE.1 c28
          refine s4 (x := 0) rfl ?_
          refine s6 (p := p0) rfl ?_
          refine s50 (v := ld I p0 2) o3.sh o3.sp (by decide) (oI_ld _ _ _) ?_
          refine s64 (inRd rfl) (ld_inR _ _ _) (fun c29 => ?_) (fun c29 => ?_)
          · replace hE := hE.1 c29
            refine s0 ?_
            refine s60 ?_
            refine xG gb195.2.2.2.2.2.2.2.2.2.2.2.2.2.2.2.2.2.2.2.2.2 ?_
            refine s84 (by decide) ?_
            exact rqI_of hE
          · replace hE := hE.2 c29
            refine xG gb195.2.2.2.2.2.2.2.2.2.2.2.2.2.2.2.2.1 ?_
            refine s0 ?_
            refine s60 ?_
            refine xG gb195.2.2.2.2.2.2.2.2.2.2.2.2.2.2.2.2.2.2.2.2.2 ?_
            refine s84 (by decide) ?_
            exact rqI_of hE
        · replace hE := hE.2 c28
          refine xG gb195.2.2.2.2.2.2.2.2.2.2.2.2.2.2.2.2.2.1 ?_
          refine s6 (p := p0) rfl ?_
          refine s50 (v := ld I p0 1) o3.sh o3.sp (by decide) (oI_ld _ _ _) ?_
          refine s0 ?_
          refine s62 (ld_inR _ _ _) (inRd rfl) (fun c30 => ?_) (fun c30 => ?_)
          · replace hE := hE.1 c30
            refine s4 (x := 0) rfl ?_
            refine s6 (p := p0) rfl ?_
            refine s50 (v := ld I p0 2) o3.sh o3.sp (by decide) (oI_ld _ _ _) ?_
            refine s66 (inRd rfl) (ld_inR _ _ _) (fun c31 => ?_) (fun c31 => ?_)
            · replace hE := hE.1 c31
              refine s0 ?_
              refine s60 ?_
              refine xG gb195.2.2.2.2.2.2.2.2.2.2.2.2.2.2.2.2.2.2.2.2.2 ?_
              refine s84 (by decide) ?_
              exact rqI_of hE
            · replace hE := hE.2 c31
              refine xG gb195.2.2.2.2.2.2.2.2.2.2.2.2.2.2.2.2.2.2.1 ?_
              refine s0 ?_
              refine s60 ?_
              refine xG gb195.2.2.2.2.2.2.2.2.2.2.2.2.2.2.2.2.2.2.2.2.2 ?_
              refine s84 (by decide) ?_
              exact rqI_of hE
          · replace hE := hE.2 c30
            refine xG gb195.2.2.2.2.2.2.2.2.2.2.2.2.2.2.2.2.2.2.2.1 ?_
            refine s4 (x := 0) rfl ?_
            refine s6 (p := p0) rfl ?_
            refine s50 (v := ld I p0 2) o3.sh o3.sp (by decide) (oI_ld _ _ _) ?_
            refine s62 (inRd rfl) (ld_inR _ _ _) (fun c32 => ?_) (fun c32 => ?_)
            · replace hE := hE.1 c32
              refine s0 ?_
              refine s60 ?_
              refine xG gb195.2.2.2.2.2.2.2.2.2.2.2.2.2.2.2.2.2.2.2.2.2 ?_
              refine s84 (by decide) ?_
              exact rqI_of hE
            · replace hE := hE.2 c32
              refine xG gb195.2.2.2.2.2.2.2.2.2.2.2.2.2.2.2.2.2.2.2.2.1 ?_
              refine s0 ?_
              refine s79 ?_
              refine xG gb195.2.2.2.2.2.2.2.2.2.2.2.2.2.2.2.2.2.2.2.2.2 ?_
              refine s84 (by decide) ?_
              exact rqI_of hE
section
variable {d L : Nat} {I : mI} {R : mR} {S : mSh} {Q : Option Value → mM → Prop} {h : Nat → Int} {x : Int}
theorem lfa58 {q : Nat} {l : Lf} (hE : EnvC 58 I h) (hn : NLf R S I q l) (hx : 0 ≤ x ∧ x ≤ 40) : R195a58 (d + 1) L I R S q x (lfB h l) := by
  intro K hK
  obtain ⟨h1, h2, h3, h4, -, h6, h7, h8⟩ := hn
  have hp := pcN_in h6
  have e : ld I 58 (pcN l.1).toNat = h l.1.toNat := by
    have := hE l.1.toNat (by omega)
    rwa [show ((l.1.toNat : Nat) : Int) = l.1 by omega] at this
  refine e195a58 ⟨by unfold inR; omega, fun c => absurd c (by omega), fun _ => ⟨h1, ?_⟩⟩
  rw [h2, h3, h4]
  rw [show 144 + pcN l.1 - 144 = pcN l.1 by omega, e]
  have k1 : ∀ b : Bool, lfB h l = b → K (oI (bI b)) (bd L I R S) := fun b hb => by rw [← hb]; exact hK
  unfold lfB at k1
  refine ⟨fun c => absurd c (by omega), fun c => absurd c (by omega), fun c => absurd c (by omega), fun _ => ⟨by unfold inR; omega, fun c => absurd c (by omega), fun _ => ⟨fun _ => ⟨hp, fun c => ⟨fun c2 => ?_, fun c2 => ?_⟩, fun c => ⟨fun c1 => ⟨fun c2 => ?_, fun c2 => ?_⟩, fun c1 => ⟨fun c2 => ?_, fun c2 => ?_⟩⟩⟩, fun c => absurd hp.2 c⟩⟩⟩
  · exact k1 true (by rw [if_pos c, decide_eq_true c2])
  · exact k1 false (by rw [if_pos c, decide_eq_false c2])
  · exact k1 true (by rw [if_neg c, if_pos c1, decide_eq_true c2])
  · exact k1 false (by rw [if_neg c, if_pos c1, decide_eq_false c2])
  · exact k1 true (by rw [if_neg c, if_neg c1, decide_eq_true c2])
  · exact k1 false (by rw [if_neg c, if_neg c1, decide_eq_false c2])
theorem ora58 {α : Type} {P : Nat → α → Prop} {f : α → Bool} (hP : ∀ q a, P q a → obS S q 16 5 ∧ R195a58 d L I R S q (x + 1) (f a)) : ∀ (l : List α) (o : Option Nat) (w w4 : Value), NCh P R l o → Q (some (.int (oI (bI (l.any f))))) (bd L I R S) → h195_3a58 (d + 1) L I R S Q w x o w4
  | [], o, w, w4, hn, hQ => by
    have hn : o = none := hn
    subst hn
    exact e195_3a58 ⟨fun _ => hQ, fun p h => absurd h (by simp)⟩
  | a :: l, o, w, w4, hn, hQ => by
    obtain ⟨q, rfl, h2, h3⟩ := hn
    refine e195_3a58 ⟨fun h => absurd h (by simp), fun p h => ?_⟩
    cases h
    obtain ⟨h4, h5⟩ := hP q a h2
    refine ⟨h4, f a, h5, bI_in _, fun c => ?_, fun c => ?_⟩
    · have e : f a = false := by cases hb : f a; rfl; rw [hb] at c; exact absurd c (by decide)
      refine ora58 hP l _ _ _ h3 ?_
      rw [show (a :: l).any f = l.any f by rw [List.any_cons, e, Bool.false_or]] at hQ
      exact hQ
    · have e : f a = true := by cases hb : f a; rw [hb] at c; exact absurd rfl c; rfl
      rw [show (a :: l).any f = true by rw [List.any_cons, e, Bool.true_or]] at hQ
      exact hQ
theorem ana58 {α : Type} {P : Nat → α → Prop} {f : α → Bool} (hP : ∀ q a, P q a → obS S q 16 5 ∧ R195a58 d L I R S q (x + 1) (f a)) : ∀ (l : List α) (o : Option Nat) (w w4 : Value), NCh P R l o → Q (some (.int (oI (bI (l.all f))))) (bd L I R S) → h195_7a58 (d + 1) L I R S Q w x o w4
  | [], o, w, w4, hn, hQ => by
    have hn : o = none := hn
    subst hn
    exact e195_7a58 ⟨fun _ => hQ, fun p h => absurd h (by simp)⟩
  | a :: l, o, w, w4, hn, hQ => by
    obtain ⟨q, rfl, h2, h3⟩ := hn
    refine e195_7a58 ⟨fun h => absurd h (by simp), fun p h => ?_⟩
    cases h
    obtain ⟨h4, h5⟩ := hP q a h2
    refine ⟨h4, f a, h5, bI_in _, fun c => ?_, fun c => ?_⟩
    · have e : f a = false := by cases hb : f a; rfl; rw [hb] at c; exact absurd c (by decide)
      rw [show (a :: l).all f = false by rw [List.all_cons, e, Bool.false_and]] at hQ
      exact hQ
    · have e : f a = true := by cases hb : f a; rw [hb] at c; exact absurd rfl c; rfl
      refine ana58 hP l _ _ _ h3 ?_
      rw [show (a :: l).all f = l.all f by rw [List.all_cons, e, Bool.true_and]] at hQ
      exact hQ
theorem jna58 {α : Type} {P : Nat → α → Prop} {f : α → Bool} {q c : Nat} {l : List α} (hP : ∀ q a, P q a → obS S q 16 5) (hx : 0 ≤ x ∧ x + 1 + c ≤ 40) (hR : ∀ q a, P q a → ∀ (d : Nat) (x : Int), 0 ≤ x ∧ x + c ≤ 40 → R195a58 (d + (c + 1)) L I R S q x (f a)) (hn : NJn 164 P R S I q l) : R195a58 (d + (c + 2)) L I R S q x (l.all f) := by
  rcases hn with ⟨a, rfl, h⟩ | ⟨-, h1, h2, h3⟩
  · have e : [a].all f = f a := by simp
    rw [e]
    exact hR q a h (d + 1) x ⟨hx.1, by omega⟩ |> fun k => by rw [show d + (c + 2) = d + 1 + (c + 1) by omega]; exact k
  · intro K hK
    refine e195a58 (d := d + (c + 1)) ⟨by unfold inR; omega, fun k => absurd k (by omega), fun _ => ⟨h1, ?_⟩⟩
    rw [h2]
    refine ⟨fun k => absurd k (by decide), fun _ => ?_, fun k => absurd k (by decide), fun k => absurd rfl k.2.1⟩
    exact ana58 (fun q a ha => ⟨hP q a ha, hR q a ha d (x + 1) ⟨by omega, by omega⟩⟩) l _ _ _ h3 (rqI_of hK)
theorem jno58 {α : Type} {P : Nat → α → Prop} {f : α → Bool} {q c : Nat} {l : List α} (hP : ∀ q a, P q a → obS S q 16 5) (hx : 0 ≤ x ∧ x + 1 + c ≤ 40) (hR : ∀ q a, P q a → ∀ (d : Nat) (x : Int), 0 ≤ x ∧ x + c ≤ 40 → R195a58 (d + (c + 1)) L I R S q x (f a)) (hn : NJn 163 P R S I q l) : R195a58 (d + (c + 2)) L I R S q x (l.any f) := by
  rcases hn with ⟨a, rfl, h⟩ | ⟨-, h1, h2, h3⟩
  · have e : [a].any f = f a := by simp
    rw [e]
    exact hR q a h (d + 1) x ⟨hx.1, by omega⟩ |> fun k => by rw [show d + (c + 2) = d + 1 + (c + 1) by omega]; exact k
  · intro K hK
    refine e195a58 (d := d + (c + 1)) ⟨by unfold inR; omega, fun k => absurd k (by omega), fun _ => ⟨h1, ?_⟩⟩
    rw [h2]
    refine ⟨fun _ => ?_, fun k => absurd k (by decide), fun k => absurd k (by decide), fun k => absurd rfl k.1⟩
    exact ora58 (fun q a ha => ⟨hP q a ha, hR q a ha d (x + 1) ⟨by omega, by omega⟩⟩) l _ _ _ h3 (rqI_of hK)
theorem one58 (hE : EnvC 58 I h) : ∀ (n : Nat) (q : Nat) (o : One n), NOne R S I n q o → ∀ (d : Nat) (x : Int), 0 ≤ x ∧ x + (2 * n : Nat) ≤ 40 → R195a58 (d + (2 * n + 1)) L I R S q x (tvO h n o)
  | 0, q, o, hn, d, x, hx => lfa58 hE hn (by omega)
  | n + 1, q, .inl l, hn, d, x, hx => by
    have := lfa58 (d := d + (2 * n + 2)) (L := L) hE hn (x := x) (by omega)
    exact this
  | n + 1, q, .inr (.inl o), hn, d, x, hx => by
    obtain ⟨h1, h2, q1, h3, -, h5⟩ := hn
    have ih := one58 hE n q1 o h5 (d + 1) (x + 1) (by omega)
    intro K hK
    refine e195a58 (d := d + (2 * n + 2)) ⟨by unfold inR; omega, fun k => absurd k (by omega), fun _ => ⟨h1, ?_⟩⟩
    rw [h2, h3]
    refine ⟨fun k => absurd k (by decide), fun k => absurd k (by decide), fun _ => ⟨fun k => absurd k (by simp), fun p k => ?_⟩, fun k => absurd rfl k.2.2⟩
    cases k
    have hK2 : K (oI (bI (!tvO h n o))) (bd L I R S) := hK
    refine ⟨NOne.ob n q1 o h5, tvO h n o, by rw [show d + (2 * n + 2) = d + 1 + (2 * n + 1) by omega]; exact ih, bI_in _, fun c => ?_, fun c => ?_⟩
    · have e : tvO h n o = false := by cases hb : tvO h n o; rfl; rw [hb] at c; exact absurd c (by decide)
      rw [e] at hK2; exact hK2
    · have e : tvO h n o = true := by cases hb : tvO h n o; rw [hb] at c; exact absurd rfl c; rfl
      rw [e] at hK2; exact hK2
  | n + 1, q, .inr (.inr t), hn, d, x, hx => by
    have := jno58 (d := d) (L := L) (x := x) (c := 2 * n + 1) (f := fun al => al.all (tvO h n)) (fun q a ha => NJn.ob ha (fun q x hx => NOne.ob n q x hx)) (by omega) (fun q a ha d x hx => jna58 (c := 2 * n) (f := tvO h n) (fun q x hx => NOne.ob n q x hx) (by omega) (fun q a ha d x hx => one58 hE n q a ha d x (by omega)) ha) hn
    exact this
theorem any58 (hE : EnvC 58 I h) {q : Nat} {t : Any 10} (hn : NAny R S I 10 q t) : R195a58 (d + 23) L I R S q 0 (tvA h 10 t) :=
  jno58 (d := d) (c := 21) (f := fun al => al.all (tvO h 10)) (fun q a ha => NJn.ob ha (fun q x hx => NOne.ob 10 q x hx)) (by omega) (fun q a ha d x hx => jna58 (c := 20) (f := tvO h 10) (fun q x hx => NOne.ob 10 q x hx) (by omega) (fun q a ha d x hx => one58 hE 10 q a ha d x (by omega)) ha) hn
end
