/-! the reference: whole calls; writing what is kept -/
def FM (I I1 : mI) : Prop := ∀ a k, a < 91 ∨ 154 < a → I1 a k = I a k
theorem FM.refl (I : mI) : FM I I := fun _ _ _ => rfl
theorem FM.trans {I I1 I2 : mI} (h : FM I I1) (h2 : FM I1 I2) : FM I I2 := fun a k ha => (h2 a k ha).trans (h a k ha)
theorem FM.wr {I I1 : mI} {a k : Nat} {x : Int32} (h : FM I I1) (ha : 91 ≤ a ∧ a ≤ 154) : FM I (u2 I1 a k x) := fun b j hb => (v2_ne (by omega)).trans (h b j hb)
theorem Fr.FM {ws : List Nat} {os : List (Nat × Nat)} {I I1 : mI} (h : Fr ws os I I1) (hw : (ws.all (fun a => decide (91 ≤ a ∧ a ≤ 154)) && os.all (fun q => decide (91 ≤ q.1 ∧ q.1 ≤ 154))) = true) : FM I I1 := by
  simp only [Bool.and_eq_true, List.all_eq_true, decide_eq_true_eq] at hw
  intro a k ha
  refine h a k ?_
  cases hc : ws.contains a with
  | true => have := hw.1 a (List.contains_iff_mem.mp hc); omega
  | false =>
    cases hc2 : os.contains (a, k) with
    | false => rfl
    | true => have := hw.2 (a, k) (List.contains_iff_mem.mp hc2); dsimp only at this; omega
def CdEq (A A' : aS) : Prop := A' 91 65 = A 91 65 ∧ ∀ k, A' 137 k = A 137 k ∧ A' 138 k = A 138 k ∧ A' 139 k = A 139 k ∧ A' 140 k = A 140 k
theorem cdA_eq {A A' : aS} (h : CdEq A A') {n v : Int} {a : Nat} : ∀ j, cdA A' n a v j = cdA A n a v j
  | 0 => rfl
  | j + 1 => by rw [cdA_succ, cdA_succ, cdA_eq h j, (h.2 _).2.2.1, (h.2 _).2.2.2]
theorem cdF_eq {A A' : aS} (h : CdEq A A') {n f v : Int} : ∀ a, cdF A' n f v a = cdF A n f v a
  | 0 => rfl
  | a + 1 => by rw [cdF_succ, cdF_succ, cdF_eq h a, (h.2 _).1, (h.2 _).2.1, cdA_eq h]
theorem cdY_eq {A A' : aS} (h : CdEq A A') {n : Int} : ∀ f, cdY A' n f = cdY A n f
  | 0 => rfl
  | f + 1 => by rw [cdY_succ, cdY_succ, cdY_eq h f, h.1, cdF_eq h]
theorem cdS_eq {A A' : aS} (h : CdEq A A') {y n : Int} : cdS A' y n = cdS A y n := cdY_eq h _
def okSet (a k : Nat) : Bool := !(a == 151 || a == 137 || a == 138 || a == 139 || a == 140 || (a == 91 && (k == 65 || k == 87)))
theorem CdEq.set {A : aS} {a k : Nat} {v : Int} (h : okSet a k = true) : CdEq A (u2 A a k v) := by
  unfold okSet at h
  simp only [Bool.not_eq_true', Bool.or_eq_false_iff, beq_eq_false_iff_ne, Bool.and_eq_false_iff] at h
  obtain ⟨⟨⟨⟨⟨h1, h2⟩, h3⟩, h4⟩, h5⟩, h6⟩ := h
  refine ⟨if_neg ?_, fun j => ⟨v2_ne (Ne.symm h2), v2_ne (Ne.symm h3), v2_ne (Ne.symm h4), v2_ne (Ne.symm h5)⟩⟩
  rintro ⟨rfl, rfl⟩
  rcases h6 with h6 | ⟨h6, -⟩
  · exact h6 rfl
  · exact h6 rfl
theorem RM.set {I : mI} {A : aS} (h : RM I A) (a k : Nat) {v : Int} (hv : inR v) (hp : okSet a k = true) : RM (u2 I a k (oI v)) (u2 A a k v) := by
  refine ⟨h.1.set a k hv, ?_⟩
  have hc := CdEq.set (A := A) (v := v) hp
  unfold okSet at hp
  simp only [Bool.not_eq_true', Bool.or_eq_false_iff, beq_eq_false_iff_ne, Bool.and_eq_false_iff] at hp
  obtain ⟨⟨⟨⟨⟨h1, h2⟩, h3⟩, h4⟩, h5⟩, h6⟩ := hp
  have e1 : ld (u2 I a k (oI v)) 91 87 = ld I 91 87 := by
    rw [ld_u2x, if_neg]
    rintro ⟨rfl, rfl⟩
    rcases h6 with h6 | ⟨-, h6⟩
    · exact h6 rfl
    · exact h6 rfl
  have e2 : ∀ j, ld (u2 I a k (oI v)) 151 j = ld I 151 j := fun j => ld_o (Ne.symm h1)
  rcases h.2 with h0 | ⟨h0, h9⟩
  · exact Or.inl (e1.trans h0)
  · refine Or.inr ⟨e1.trans h0, fun y n hy hn => ?_⟩
    rw [e2, cdS_eq hc]
    exact h9 y n hy hn
/-! rates -/
noncomputable def rateA (A : aS) (pence what : Int) : Int := if ¬ (0 ≤ pence ∧ pence ≤ 9999999) ∨ ¬ ((0 ≤ what ∧ what ≤ 1) ∨ (10 ≤ what ∧ what ≤ 9 + A 91 63)) then -1 else if 480 < rtS A pence then -1 else if what = 0 then rtS A pence else if what = 1 then coS A (rtS A pence) else paS A (what - 10) (rtS A pence)
def h296_3 (d L : Nat) (I : Nat → Nat → Int32) (R : Nat → Nat → Option Nat) (S : List (Nat × Nat)) (Q : Option Value → mM → Prop) (x1 : Int) (x2 : Int) (x3 : Int) : Prop := Wp d (gb 296 3) [.ref 91, .int (oI x1), .int (oI x2), .int (oI x3)] [] (bd L I R S) Q
set_option maxRecDepth 4000 in
theorem e296_3 {d L : Nat} {I : Nat → Nat → Int32} {R : Nat → Nat → Option Nat} {S : List (Nat × Nat)} {Q : Option Value → mM → Prop} {A : aS} (hR : RM I A) {x1 : Int} {x2 : Int} {x3 : Int} (hE : inR x3 ∧ (((480 < x3) → Q (some (.int (oI (-1)))) (bd L I R S)) ∧ (¬ (480 < x3) → WfA A ∧ (WfC A ∧ (WfT A ∧ ((0 ≤ x3 ∧ x3 ≤ 480) ∧ (∀ (I8 : mI), (Fr [151] [(91, 87)] I I8) → (RM I8 A) → inR (coS A x3) ∧ (inR x1 ∧ (((coS A x3 < x1) → h296_3 (d + 29) L I8 R S Q x1 x2 (x3 + 1)) ∧ (¬ (coS A x3 < x1) → inR x2 ∧ (((x2 = 0) → Q (some (.int (oI x3))) (bd L I8 R S)) ∧ (¬ (x2 = 0) → ((x2 = 1) → ∀ (I18 : mI), (Fr [151] [(91, 87)] I8 I18) → (RM I18 A) → Q (some (.int (oI (coS A x3)))) (bd L I18 R S)) ∧ (¬ (x2 = 1) → (0 ≤ x2 - 10 ∧ x2 - 10 < A 91 63) ∧ (∀ (I22 : mI), (Fr [151] [(91, 87)] I8 I22) → (RM I22 A) → Q (some (.int (oI (paS A (x2 - 10) x3)))) (bd L I22 R S))))))))))))))) : h296_3 (d + 29) L I R S Q x1 x2 x3 := by
  unfold h296_3
  refine xG gb296.2.2.2.1 ?_
  refine s4 (x := x3) rfl ?_
  refine s0 ?_
  obtain ⟨g1, hE⟩ := hE
  refine s65 g1 (inRd rfl) (fun c2 => ?_) (fun c2 => ?_)
  · replace hE := hE.1 c2
    refine xG gb296.2.2.2.2.1 ?_
    refine s4 (x := x3) rfl ?_
    refine s0 ?_
    refine s66 g1 (inRd rfl) (fun _ => ?_) (fun c3 => absurd c2 c3)
    refine s0 ?_
    refine s80 ?_
    exact hE
  · replace hE := hE.2 c2
    refine s6 (p := 91) rfl ?_
    refine s4 (x := x3) rfl ?_
    obtain ⟨g4, hE⟩ := hE
    obtain ⟨g5, hE⟩ := hE
    obtain ⟨g6, hE⟩ := hE
    obtain ⟨g7, hE⟩ := hE
    refine sI rc297 rfl (Nat.le_of_ble_eq_true rfl) ?_
    refine k297 hR g4 g5 g6 g7 (fun I8 q9 q10 => ?_)
    replace hE := hE I8 q9 q10
    refine s4 (x := x1) rfl ?_
    obtain ⟨g11, hE⟩ := hE
    obtain ⟨g12, hE⟩ := hE
    refine s64 g11 g12 (fun c13 => ?_) (fun c13 => ?_)
    · replace hE := hE.1 c13
      refine s10 (x := x3) (ls' := [.ref 91, .int (oI x1), .int (oI x2), .int (oI (x3 + 1))]) rfl rfl ?_
      refine s60 ?_
      exact hE
    · replace hE := hE.2 c13
      refine xG gb296.2.2.2.2.1 ?_
      refine s4 (x := x3) rfl ?_
      refine s0 ?_
      refine s66 g1 (inRd rfl) (fun c14 => absurd c14 c2) (fun _ => ?_)
      refine xG gb296.2.2.2.2.2.1 ?_
      refine s4 (x := x2) rfl ?_
      obtain ⟨g15, hE⟩ := hE
      refine s68 g15 (fun c16 => ?_) (fun c16 => ?_)
      · replace hE := hE.1 c16
        refine s4 (x := x3) rfl ?_
        refine s60 ?_
        refine xG gb296.2.2.2.2.2.2.2.2 ?_
        refine s80 ?_
        exact hE
      · replace hE := hE.2 c16
        refine xG gb296.2.2.2.2.2.2.1 ?_
        refine s4 (x := x2) rfl ?_
        refine s0 ?_
        refine s62 g15 (inRd rfl) (fun c17 => ?_) (fun c17 => ?_)
        · replace hE := hE.1 c17
          refine s6 (p := 91) rfl ?_
          refine s4 (x := x3) rfl ?_
          refine sI rc297 rfl (Nat.le_of_ble_eq_true rfl) ?_
          refine k297 (q10) g4 g5 g6 g7 (fun I18 q19 q20 => ?_)
          replace hE := hE I18 q19 q20
          refine s60 ?_
          refine xG gb296.2.2.2.2.2.2.2.2 ?_
          refine s80 ?_
          exact hE
        · replace hE := hE.2 c17
          refine xG gb296.2.2.2.2.2.2.2.1 ?_
          refine s6 (p := 91) rfl ?_
          refine s4 (x := x2) rfl ?_
          refine s0 ?_
          refine s17 ?_
          refine s4 (x := x3) rfl ?_
          obtain ⟨g21, hE⟩ := hE
          refine sI rc298 rfl (Nat.le_of_ble_eq_true rfl) ?_
          refine k298 (q10) g4 g5 g6 g21 g7 (fun I22 q23 q24 => ?_)
          replace hE := hE I22 q23 q24
          refine s79 ?_
          refine xG gb296.2.2.2.2.2.2.2.2 ?_
          refine s80 ?_
          exact hE
set_option maxRecDepth 4000 in
theorem e296 {d L : Nat} {I : Nat → Nat → Int32} {R : Nat → Nat → Option Nat} {S : List (Nat × Nat)} {K : Int32 → mM → Prop} {A : aS} (hR : RM I A) {x1 : Int} {x2 : Int} (hE : inR x1 ∧ (((0 ≤ x1 ∧ x1 ≤ 9999999) → inR x2 ∧ (((0 ≤ x2 ∧ x2 ≤ 1) → h296_3 (d + 1) L I R S (rqI K) x1 x2 0) ∧ (¬ (0 ≤ x2 ∧ x2 ≤ 1) → inR (9 + (A 91 63)) ∧ (((10 ≤ x2 ∧ x2 ≤ 9 + (A 91 63)) → h296_3 (d + 1) L I R S (rqI K) x1 x2 0) ∧ (¬ (10 ≤ x2 ∧ x2 ≤ 9 + (A 91 63)) → K (oI (-1)) (bd L I R S)))))) ∧ (¬ (0 ≤ x1 ∧ x1 ≤ 9999999) → K (oI (-1)) (bd L I R S)))) : CallI (d + 1) 296 [.ref 91, .int (oI x1), .int (oI x2)] (bd L I R S) K := by
  refine cI_of (ls := [.ref 91, .int (oI x1), .int (oI x2), mUn]) rfl ?_
  refine xG gb296.1 ?_
  refine s4 (x := x1) rfl ?_
  refine s0 ?_
  refine s0 ?_
  obtain ⟨g1, hE⟩ := hE
  refine sI rc210 rfl (Nat.le_of_ble_eq_true rfl) ?_
  refine k210 g1 (inRd rfl) (inRd rfl) (fun c2 => ?_) (fun c2 => ?_)
  · replace hE := hE.1 c2
    refine s67 (inRd rfl) (fun c3 => absurd c3 (by decide)) (fun _ => ?_)
    refine s4 (x := x2) rfl ?_
    refine s0 ?_
    refine s0 ?_
    obtain ⟨g4, hE⟩ := hE
    refine sI rc210 rfl (Nat.le_of_ble_eq_true rfl) ?_
    refine k210 g4 (inRd rfl) (inRd rfl) (fun c5 => ?_) (fun c5 => ?_)
    · replace hE := hE.1 c5
      refine s68 (inRd rfl) (fun c6 => absurd c6 (by decide)) (fun _ => ?_)
      refine xG gb296.2.2.1 ?_
      refine s0 ?_
      refine s7 (ls' := [.ref 91, .int (oI x1), .int (oI x2), .int (oI 0)]) (Nat.le_of_ble_eq_true rfl) rfl ?_
      refine s79 ?_
      exact hE
    · replace hE := hE.2 c5
      refine s68 (inRd rfl) (fun _ => ?_) (fun c7 => absurd (by decide) c7)
      refine s4 (x := x2) rfl ?_
      refine s0 ?_
      refine s0 ?_
      refine s6 (p := 91) rfl ?_
      refine s50 (v := A 91 63) sh91 (by decide) (by decide) (rdM hR.1 rfl) ?_
      refine s16 ?_
      obtain ⟨g8, hE⟩ := hE
      refine sI rc210 rfl (Nat.le_of_ble_eq_true rfl) ?_
      refine k210 g4 (inRd rfl) g8 (fun c9 => ?_) (fun c9 => ?_)
      · replace hE := hE.1 c9
        refine s68 (inRd rfl) (fun c10 => absurd c10 (by decide)) (fun _ => ?_)
        refine xG gb296.2.2.1 ?_
        refine s0 ?_
        refine s7 (ls' := [.ref 91, .int (oI x1), .int (oI x2), .int (oI 0)]) (Nat.le_of_ble_eq_true rfl) rfl ?_
        refine s79 ?_
        exact hE
      · replace hE := hE.2 c9
        refine s68 (inRd rfl) (fun _ => ?_) (fun c11 => absurd (by decide) c11)
        refine s79 ?_
        refine xG gb296.2.1 ?_
        refine s0 ?_
        refine s80 ?_
        exact rqI_of hE
  · replace hE := hE.2 c2
    refine s67 (inRd rfl) (fun _ => ?_) (fun c12 => absurd (by decide) c12)
    refine xG gb296.2.1 ?_
    refine s0 ?_
    refine s80 ?_
    exact rqI_of hE
section
variable {d L : Nat} {I I0 : mI} {R : Nat → Nat → Option Nat} {S : List (Nat × Nat)} {Q : Option Value → mM → Prop} {A : aS} {c day known kind half year subj code : Int}
theorem l296 {pence what : Int} (hW : WfA A) (hC : WfC A) (hT : WfT A) (hp : 0 ≤ pence ∧ pence ≤ 9999999) (hw : (0 ≤ what ∧ what ≤ 1) ∨ (10 ≤ what ∧ what ≤ 9 + A 91 63)) (hK : ∀ I1, FM I0 I1 → RM I1 A → Q (some (.int (oI (rateA A pence what)))) (bd L I1 R S)) : ∀ (f r : Nat) (I : mI), r + f = 481 → RM I A → FM I0 I → rtF A pence f r = rtS A pence → h296_3 (d + 29) L I R S Q pence what r := by
  have hh := hT.2.2.1
  have ea : rateA A pence what = if 480 < rtS A pence then -1 else if what = 0 then rtS A pence else if what = 1 then coS A (rtS A pence) else paS A (what - 10) (rtS A pence) := by
    unfold rateA; rw [if_neg]; rintro (h | h)
    · exact h hp
    · exact h hw
  intro f
  induction f with
  | zero =>
    intro r I hr hR hf hs
    have hs : (r : Int) = rtS A pence := hs
    refine e296_3 hR ⟨⟨by omega, by omega⟩, fun h => ?_, fun h => by exfalso; omega⟩
    have := hK I hf hR
    rw [ea, if_pos (by omega)] at this
    exact this
  | succ f ih =>
    intro r I hr hR hf hs
    have ci := coS_in hT (r := r) (by omega)
    have es : rtF A pence (f + 1) r = if coS A r < pence then rtF A pence f (r + 1) else r := rfl
    refine e296_3 hR ⟨⟨by omega, by omega⟩, fun h => by exfalso; omega, fun _ => ⟨hW, hC, hT, by omega, fun I1 hf1 hR1 => ⟨⟨by omega, by omega⟩, ⟨by omega, by omega⟩, fun c1 => ?_, fun c1 => ?_⟩⟩⟩
    · exact ih (r + 1) I1 (by omega) hR1 (hf.trans (hf1.FM rfl)) (by rw [← hs, es, if_pos c1])
    · have er : (r : Int) = rtS A pence := by rw [← hs, es, if_neg c1]
      rw [ea, ← er, if_neg (by omega)] at hK
      refine ⟨⟨by omega, by omega⟩, fun c2 => ?_, fun c2 => ⟨fun c3 I2 hf2 hR2 => ?_, fun c3 => ⟨by omega, fun I2 hf2 hR2 => ?_⟩⟩⟩
      · rw [if_pos c2] at hK; exact hK I1 (hf.trans (hf1.FM rfl)) hR1
      · rw [if_neg c2, if_pos c3] at hK; exact hK I2 (hf.trans ((hf1.FM rfl).trans (hf2.FM rfl))) hR2
      · rw [if_neg c2, if_neg c3] at hK; exact hK I2 (hf.trans ((hf1.FM rfl).trans (hf2.FM rfl))) hR2
theorem k296 {K : Int32 → mM → Prop} {pence what : Int} (hR : RM I A) (hW : WfA A) (hC : WfC A) (hT : WfT A) (h1 : inR pence) (h2 : inR what) (hK : ∀ I1, FM I I1 → RM I1 A → K (oI (rateA A pence what)) (bd L I1 R S)) : CallI (d + 29) 296 [.ref 91, .int (oI pence), .int (oI what)] (bd L I R S) K := by
  have hh := hT.2.2.1
  have no : ∀ h : ¬ (0 ≤ pence ∧ pence ≤ 9999999) ∨ ¬ ((0 ≤ what ∧ what ≤ 1) ∨ (10 ≤ what ∧ what ≤ 9 + A 91 63)), K (oI (-1)) (bd L I R S) := by
    intro h
    have := hK I (FM.refl _) hR
    unfold rateA at this; rw [if_pos h] at this; exact this
  refine e296 (d := d + 28) hR ⟨h1, fun c1 => ⟨h2, fun c2 => ?_, fun c2 => ⟨⟨by omega, by omega⟩, fun c3 => ?_, fun c3 => no (Or.inr (by rintro (h | h); exact c2 h; exact c3 h))⟩⟩, fun c1 => no (Or.inl c1)⟩
  · exact l296 (d := d) hW hC hT c1 (Or.inl c2) (fun I1 h1 h2 => rqI_of (hK I1 h1 h2)) 481 0 I rfl hR (FM.refl _) rfl
  · exact l296 (d := d) hW hC hT c1 (Or.inr c3) (fun I1 h1 h2 => rqI_of (hK I1 h1 h2)) 481 0 I rfl hR (FM.refl _) rfl
end
/-! polls -/
def WfV (A : aS) : Prop := (0 ≤ A 91 57 ∧ A 91 57 ≤ 9) ∧ (0 ≤ A 91 58 ∧ A 91 58 ≤ 10) ∧ (0 ≤ A 91 59 ∧ A 91 59 ≤ 60) ∧ (∀ c : Nat, c < (A 91 58).toNat → 0 ≤ A 133 c ∧ A 133 c ≤ 3) ∧ (∀ k : Nat, k < 600 → 0 ≤ A 134 k ∧ A 134 k ≤ 9) ∧ (∀ b c : Nat, b < 60 → c < 10 → (A 91 59).toNat ≤ b ∨ (A 91 58).toNat ≤ c → A 134 (10 * b + c) = 0) ∧ (A 91 57 = 0 → A 91 58 = 0 ∧ A 91 59 = 0)
def vtL (A : aS) (c : Nat) : Nat → Int
  | 0 => 0
  | b + 1 => vtL A c b + A 134 (10 * b + c)
def vtS (A : aS) (c : Nat) : Int := vtL A c (A 91 59).toNat
theorem vtL_in {A : aS} (hV : WfV A) {c : Nat} (hc : c < 10) : ∀ b, b ≤ 60 → 0 ≤ vtL A c b ∧ vtL A c b ≤ 9 * b
  | 0, _ => by unfold vtL; omega
  | b + 1, hb => by
    have ih := vtL_in hV hc b (by omega)
    have h := hV.2.2.2.2.1 (10 * b + c) (by omega)
    unfold vtL
    omega
/-- how many stand ahead of one by their votes -/
def ahL (v : Nat → Int) (c : Nat) : Nat → Int
  | 0 => 0
  | o + 1 => ahL v c o + (if v c < v o ∨ (v o = v c ∧ o < c) then 1 else 0)
theorem ahL_in {v : Nat → Int} {c : Nat} : ∀ o, 0 ≤ ahL v c o ∧ ahL v c o ≤ o
  | 0 => by unfold ahL; omega
  | o + 1 => by have := ahL_in (v := v) (c := c) o; unfold ahL; split <;> omega
theorem ahL_eq {v v' : Nat → Int} {c : Nat} : ∀ o, (∀ j, j < o → v j = v' j) → v c = v' c → ahL v c o = ahL v' c o
  | 0, _, _ => rfl
  | o + 1, h, hc => by unfold ahL; rw [ahL_eq o (fun j hj => h j (by omega)) hc, h o (by omega), hc]
def h291_1 (d L : Nat) (I : Nat → Nat → Int32) (R : Nat → Nat → Option Nat) (S : List (Nat × Nat)) (Q : Option Value → mM → Prop) (x1 : Int) (w2 : Value) : Prop := Wp d (gb 291 1) [.ref 91, .int (oI x1), w2] [] (bd L I R S) Q
def h291_2 (d L : Nat) (I : Nat → Nat → Int32) (R : Nat → Nat → Option Nat) (S : List (Nat × Nat)) (Q : Option Value → mM → Prop) (x1 : Int) (x2 : Int) : Prop := Wp d (gb 291 2) [.ref 91, .int (oI x1), .int (oI x2)] [] (bd L I R S) Q
set_option maxRecDepth 4000 in
theorem e291_1 {d L : Nat} {I : Nat → Nat → Int32} {R : Nat → Nat → Option Nat} {S : List (Nat × Nat)} {Q : Option Value → mM → Prop} {A : aS} (hR : RM I A) {x1 : Int} {w2 : Value} (hE : inR x1 ∧ (((x1 < A 91 58) → (0 ≤ x1 ∧ x1 < 10) ∧ (h291_2 d L (u2 I 135 x1.toNat (oI 0)) R S Q x1 0)) ∧ (¬ (x1 < A 91 58) → Q none (bd L I R S)))) : h291_1 d L I R S Q x1 w2 := by
  unfold h291_1
  refine xG gb291.2.1 ?_
  refine s4 (x := x1) rfl ?_
  refine s6 (p := 91) rfl ?_
  refine s50 (v := A 91 58) sh91 (by decide) (by decide) (rdM hR.1 rfl) ?_
  obtain ⟨g1, hE⟩ := hE
  refine s64 g1 (inA hR.1 (a := 91) (k := 58) rfl) (fun c2 => ?_) (fun c2 => ?_)
  · replace hE := hE.1 c2
    refine s6 (p := 91) rfl ?_
    refine s51 sh91 (by decide) (by decide) rf91_62 ?_
    refine s4 (x := x1) rfl ?_
    refine s0 ?_
    obtain ⟨g3, hE⟩ := hE
    refine s44 sh135 (by decide) g3 rfl ?_
    refine s0 ?_
    refine s7 (ls' := [.ref 91, .int (oI x1), .int (oI 0)]) (Nat.le_of_ble_eq_true rfl) rfl ?_
    refine s79 ?_
    exact hE
  · replace hE := hE.2 c2
    refine xG gb291.2.2.2.2 ?_
    refine s83 ?_
    exact hE
set_option maxRecDepth 4000 in
theorem e291_2 {d L : Nat} {I : Nat → Nat → Int32} {R : Nat → Nat → Option Nat} {S : List (Nat × Nat)} {Q : Option Value → mM → Prop} {A : aS} (hR : RM I A) {x1 : Int} {x2 : Int} (hE : inR x2 ∧ (((x2 < A 91 59) → (0 ≤ x1 ∧ x1 < 10) ∧ ((0 ≤ (10 * x2) + x1 ∧ (10 * x2) + x1 < 600) ∧ (h291_2 d L (u2 I 135 x1.toNat (oI (ld I 135 x1.toNat + (A 134 ((10 * x2) + x1).toNat)))) R S Q x1 (x2 + 1)))) ∧ (¬ (x2 < A 91 59) → h291_1 d L I R S Q (x1 + 1) (.int (oI x2))))) : h291_2 d L I R S Q x1 x2 := by
  unfold h291_2
  refine xG gb291.2.2.1 ?_
  refine s4 (x := x2) rfl ?_
  refine s6 (p := 91) rfl ?_
  refine s50 (v := A 91 59) sh91 (by decide) (by decide) (rdM hR.1 rfl) ?_
  obtain ⟨g1, hE⟩ := hE
  refine s64 g1 (inA hR.1 (a := 91) (k := 59) rfl) (fun c2 => ?_) (fun c2 => ?_)
  · replace hE := hE.1 c2
    refine s6 (p := 91) rfl ?_
    refine s51 sh91 (by decide) (by decide) rf91_62 ?_
    refine s4 (x := x1) rfl ?_
    refine s14 ?_
    obtain ⟨g3, hE⟩ := hE
    refine s40 (v := ld I 135 x1.toNat) sh135 g3 rfl (oI_ld _ _ _) ?_
    refine s6 (p := 91) rfl ?_
    refine s51 sh91 (by decide) (by decide) rf91_61 ?_
    refine s0 ?_
    refine s4 (x := x2) rfl ?_
    refine s18 ?_
    refine s4 (x := x1) rfl ?_
    refine s16 ?_
    obtain ⟨g4, hE⟩ := hE
    refine s40 (v := A 134 ((10 * x2) + x1).toNat) sh134 g4 rfl (rdM hR.1 rfl) ?_
    refine s16 ?_
    refine s44 sh135 (by decide) g3 rfl ?_
    refine s10 (x := x2) (ls' := [.ref 91, .int (oI x1), .int (oI (x2 + 1))]) rfl rfl ?_
    refine s60 ?_
    exact hE
  · replace hE := hE.2 c2
    refine xG gb291.2.2.2.1 ?_
    refine s10 (x := x1) (ls' := [.ref 91, .int (oI (x1 + 1)), .int (oI x2)]) rfl rfl ?_
    refine s60 ?_
    exact hE
set_option maxRecDepth 4000 in
theorem e291 {d L : Nat} {I : Nat → Nat → Int32} {R : Nat → Nat → Option Nat} {S : List (Nat × Nat)} {K : mM → Prop} {A : aS} (hR : RM I A)  (hE : h291_1 d L I R S (rqV K) 0 mUn) : CallV d 291 [.ref 91] (bd L I R S) K := by
  refine cV_of (ls := [.ref 91, mUn, mUn]) rfl ?_
  refine xG gb291.1 ?_
  refine s0 ?_
  refine s7 (ls' := [.ref 91, .int (oI 0), mUn]) (Nat.le_of_ble_eq_true rfl) rfl ?_
  refine s79 ?_
  exact hE
def h292_1 (d L : Nat) (I : Nat → Nat → Int32) (R : Nat → Nat → Option Nat) (S : List (Nat × Nat)) (Q : Option Value → mM → Prop) (x1 : Int) (x2 : Int) (x3 : Int) : Prop := Wp d (gb 292 1) [.ref 91, .int (oI x1), .int (oI x2), .int (oI x3)] [] (bd L I R S) Q
set_option maxRecDepth 4000 in
theorem e292_1 {d L : Nat} {I : Nat → Nat → Int32} {R : Nat → Nat → Option Nat} {S : List (Nat × Nat)} {Q : Option Value → mM → Prop} {A : aS} (hR : RM I A) {x1 : Int} {x2 : Int} {x3 : Int} (hE : inR x3 ∧ (((x3 < A 91 58) → (0 ≤ x3 ∧ x3 < 10) ∧ ((0 ≤ x1 ∧ x1 < 10) ∧ (((ld I 135 x1.toNat < ld I 135 x3.toNat) → h292_1 (d + 1) L I R S Q x1 (x2 + 1) (x3 + 1)) ∧ (¬ (ld I 135 x1.toNat < ld I 135 x3.toNat) → ((ld I 135 x3.toNat = ld I 135 x1.toNat) → inR x1 ∧ (((x3 < x1) → h292_1 (d + 1) L I R S Q x1 (x2 + 1) (x3 + 1)) ∧ (¬ (x3 < x1) → h292_1 (d + 1) L I R S Q x1 (x2 + 0) (x3 + 1)))) ∧ (¬ (ld I 135 x3.toNat = ld I 135 x1.toNat) → h292_1 (d + 1) L I R S Q x1 (x2 + 0) (x3 + 1)))))) ∧ (¬ (x3 < A 91 58) → Q (some (.int (oI x2))) (bd L I R S)))) : h292_1 (d + 1) L I R S Q x1 x2 x3 := by
  unfold h292_1
  refine xG gb292.2.1 ?_
  refine s4 (x := x3) rfl ?_
  refine s6 (p := 91) rfl ?_
  refine s50 (v := A 91 58) sh91 (by decide) (by decide) (rdM hR.1 rfl) ?_
  obtain ⟨g1, hE⟩ := hE
  refine s64 g1 (inA hR.1 (a := 91) (k := 58) rfl) (fun c2 => ?_) (fun c2 => ?_)
  · replace hE := hE.1 c2
    refine s4 (x := x2) rfl ?_
    refine s6 (p := 91) rfl ?_
    refine s51 sh91 (by decide) (by decide) rf91_62 ?_
    refine s4 (x := x3) rfl ?_
    obtain ⟨g3, hE⟩ := hE
    refine s40 (v := ld I 135 x3.toNat) sh135 g3 rfl (oI_ld _ _ _) ?_
    refine s6 (p := 91) rfl ?_
    refine s51 sh91 (by decide) (by decide) rf91_62 ?_
    refine s4 (x := x1) rfl ?_
    obtain ⟨g4, hE⟩ := hE
    refine s40 (v := ld I 135 x1.toNat) sh135 g4 rfl (oI_ld _ _ _) ?_
    refine s65 (ld_inR _ _ _) (ld_inR _ _ _) (fun c5 => ?_) (fun c5 => ?_)
    · replace hE := hE.1 c5
      refine xG gb292.2.2.1 ?_
      refine s0 ?_
      refine s60 ?_
      refine xG gb292.2.2.2.2.1 ?_
      refine sI rc227 rfl (Nat.le_of_ble_eq_true rfl) ?_
      refine k227 (by decide) ?_
      refine s16 ?_
      refine s7 (ls' := [.ref 91, .int (oI x1), .int (oI (x2 + 1)), .int (oI x3)]) (Nat.le_of_ble_eq_true rfl) rfl ?_
      refine s10 (x := x3) (ls' := [.ref 91, .int (oI x1), .int (oI (x2 + 1)), .int (oI (x3 + 1))]) rfl rfl ?_
      refine s60 ?_
      exact hE
    · replace hE := hE.2 c5
      refine s6 (p := 91) rfl ?_
      refine s51 sh91 (by decide) (by decide) rf91_62 ?_
      refine s4 (x := x3) rfl ?_
      refine s40 (v := ld I 135 x3.toNat) sh135 g3 rfl (oI_ld _ _ _) ?_
      refine s6 (p := 91) rfl ?_
      refine s51 sh91 (by decide) (by decide) rf91_62 ?_
      refine s4 (x := x1) rfl ?_
      refine s40 (v := ld I 135 x1.toNat) sh135 g4 rfl (oI_ld _ _ _) ?_
      refine s62 (ld_inR _ _ _) (ld_inR _ _ _) (fun c6 => ?_) (fun c6 => ?_)
      · replace hE := hE.1 c6
        refine s4 (x := x3) rfl ?_
        refine s4 (x := x1) rfl ?_
        obtain ⟨g7, hE⟩ := hE
        refine s64 g1 g7 (fun c8 => ?_) (fun c8 => ?_)
        · replace hE := hE.1 c8
          refine s79 ?_
          refine xG gb292.2.2.1 ?_
          refine s0 ?_
          refine s60 ?_
          refine xG gb292.2.2.2.2.1 ?_
          refine sI rc227 rfl (Nat.le_of_ble_eq_true rfl) ?_
          refine k227 (by decide) ?_
          refine s16 ?_
          refine s7 (ls' := [.ref 91, .int (oI x1), .int (oI (x2 + 1)), .int (oI x3)]) (Nat.le_of_ble_eq_true rfl) rfl ?_
          refine s10 (x := x3) (ls' := [.ref 91, .int (oI x1), .int (oI (x2 + 1)), .int (oI (x3 + 1))]) rfl rfl ?_
          refine s60 ?_
          exact hE
        · replace hE := hE.2 c8
          refine xG gb292.2.2.2.1 ?_
          refine s0 ?_
          refine s79 ?_
          refine xG gb292.2.2.2.2.1 ?_
          refine sI rc227 rfl (Nat.le_of_ble_eq_true rfl) ?_
          refine k227 (by decide) ?_
          refine s16 ?_
          refine s7 (ls' := [.ref 91, .int (oI x1), .int (oI (x2 + 0)), .int (oI x3)]) (Nat.le_of_ble_eq_true rfl) rfl ?_
          refine s10 (x := x3) (ls' := [.ref 91, .int (oI x1), .int (oI (x2 + 0)), .int (oI (x3 + 1))]) rfl rfl ?_
          refine s60 ?_
          exact hE
      · replace hE := hE.2 c6
        refine xG gb292.2.2.2.1 ?_
        refine s0 ?_
        refine s79 ?_
        refine xG gb292.2.2.2.2.1 ?_
        refine sI rc227 rfl (Nat.le_of_ble_eq_true rfl) ?_
        refine k227 (by decide) ?_
        refine s16 ?_
        refine s7 (ls' := [.ref 91, .int (oI x1), .int (oI (x2 + 0)), .int (oI x3)]) (Nat.le_of_ble_eq_true rfl) rfl ?_
        refine s10 (x := x3) (ls' := [.ref 91, .int (oI x1), .int (oI (x2 + 0)), .int (oI (x3 + 1))]) rfl rfl ?_
        refine s60 ?_
        exact hE
  · replace hE := hE.2 c2
    refine xG gb292.2.2.2.2.2 ?_
    refine s4 (x := x2) rfl ?_
    refine s80 ?_
    exact hE
set_option maxRecDepth 4000 in
theorem e292 {d L : Nat} {I : Nat → Nat → Int32} {R : Nat → Nat → Option Nat} {S : List (Nat × Nat)} {K : Int32 → mM → Prop} {A : aS} (hR : RM I A) {x1 : Int} (hE : h292_1 d L I R S (rqI K) x1 0 0) : CallI d 292 [.ref 91, .int (oI x1)] (bd L I R S) K := by
  refine cI_of (ls := [.ref 91, .int (oI x1), mUn, mUn]) rfl ?_
  refine xG gb292.1 ?_
  refine s0 ?_
  refine s7 (ls' := [.ref 91, .int (oI x1), .int (oI 0), mUn]) (Nat.le_of_ble_eq_true rfl) rfl ?_
  refine s0 ?_
  refine s7 (ls' := [.ref 91, .int (oI x1), .int (oI 0), .int (oI 0)]) (Nat.le_of_ble_eq_true rfl) rfl ?_
  refine s79 ?_
  exact hE
section
variable {d L : Nat} {I I0 : mI} {R : Nat → Nat → Option Nat} {S : List (Nat × Nat)} {Q : Option Value → mM → Prop} {A : aS} {c day known kind half year subj code : Int}
theorem l291_2 {k : Nat} (hV : WfV A) (hk : k < (A 91 58).toNat) (hK : ∀ I1 w, Fr [135] [] I0 I1 → RM I1 A → ld I1 135 k = vtS A k → (∀ j : Nat, j < k → ld I1 135 j = ld I0 135 j) → h291_1 d L I1 R S Q (k + 1 : Nat) w) : ∀ (n b : Nat) (I : mI), b + n = (A 91 59).toNat → RM I A → Fr [135] [] I0 I → ld I 135 k = vtL A k b → (∀ j : Nat, j < k → ld I 135 j = ld I0 135 j) → h291_2 d L I R S Q k b := by
  have v1 := hV.2.1
  have v2 := hV.2.2.1
  intro n
  induction n with
  | zero =>
    intro b I hb hR hf h1 h2
    refine e291_2 hR ⟨⟨by omega, by omega⟩, fun h => by exfalso; omega, fun _ => hK I _ hf hR ?_ h2⟩
    rw [h1, show b = (A 91 59).toNat by omega]; rfl
  | succ n ih =>
    intro b I hb hR hf h1 h2
    have vi := vtL_in hV (c := k) (by omega) (b + 1) (by omega)
    have vir : inR (vtL A k (b + 1)) := ⟨by omega, by omega⟩
    refine e291_2 hR ?_
    rw [show (10 * (b : Int) + k).toNat = 10 * b + k by omega, Int.toNat_natCast, h1]
    refine ⟨⟨by omega, by omega⟩, fun _ => ⟨by omega, by omega, ?_⟩, fun h => by exfalso; omega⟩
    refine ih (b + 1) _ (by omega) (hR.scr rfl) (hf.wr rfl) ?_ (fun j hj => ?_)
    · show ld (u2 I 135 k (oI (vtL A k (b + 1)))) 135 k = _
      rw [ld_w vir, if_pos rfl]
    · show ld (u2 I 135 k (oI (vtL A k (b + 1)))) 135 j = _
      rw [ld_w vir, if_neg (by omega)]; exact h2 j hj
theorem l291_1 (hV : WfV A) (hK : ∀ I1, Fr [135] [] I0 I1 → RM I1 A → (∀ j : Nat, j < (A 91 58).toNat → ld I1 135 j = vtS A j) → Q none (bd L I1 R S)) : ∀ (n k : Nat) (I : mI) (w : Value), k + n = (A 91 58).toNat → RM I A → Fr [135] [] I0 I → (∀ j : Nat, j < k → ld I 135 j = vtS A j) → h291_1 d L I R S Q k w := by
  have v1 := hV.2.1
  intro n
  induction n with
  | zero =>
    intro k I w hk hR hf h1
    exact e291_1 hR ⟨⟨by omega, by omega⟩, fun h => by exfalso; omega, fun _ => hK I hf hR fun j hj => h1 j (by omega)⟩
  | succ n ih =>
    intro k I w hk hR hf h1
    refine e291_1 hR ⟨⟨by omega, by omega⟩, fun _ => ⟨by omega, ?_⟩, fun h => by exfalso; omega⟩
    rw [Int.toNat_natCast]
    refine l291_2 (I0 := u2 I 135 k (oI 0)) hV (by omega) (fun I1 w1 hf1 hR1 h2 h3 => ih (k + 1) I1 w1 (by omega) hR1 ((hf.wr rfl).trans hf1) fun j hj => ?_) (A 91 59).toNat 0 _ (by omega) (hR.scr rfl) (Fr.refl _ _ _) ?_ (fun j hj => rfl)
    · by_cases e : j = k
      · rw [e]; exact h2
      · rw [h3 j (by omega), ld_w (inRd rfl), if_neg e]; exact h1 j (by omega)
    · rw [ld_w (inRd rfl), if_pos rfl]; rfl
theorem k291 {K : mM → Prop} (hR : RM I A) (hV : WfV A) (hK : ∀ I1, Fr [135] [] I I1 → (∀ j : Nat, j < (A 91 58).toNat → ld I1 135 j = vtS A j) → K (bd L I1 R S)) : CallV d 291 [.ref 91] (bd L I R S) K :=
  e291 hR (l291_1 hV (fun I1 h1 h2 h3 => rqV_of (hK I1 h1 h3)) (A 91 58).toNat 0 I mUn (by omega) hR (Fr.refl _ _ _) (fun j hj => by omega))
theorem l292 {k : Nat} (hV : WfV A) (hR : RM I A) (hk : k < 10) (hQ : Q (some (.int (oI (ahL (ld I 135) k (A 91 58).toNat)))) (bd L I R S)) : ∀ (n o : Nat), o + n = (A 91 58).toNat → h292_1 (d + 1) L I R S Q k (ahL (ld I 135) k o) o := by
  have v1 := hV.2.1
  intro n
  induction n with
  | zero =>
    intro o ho
    refine e292_1 hR ⟨⟨by omega, by omega⟩, fun h => by exfalso; omega, fun _ => ?_⟩
    rw [show o = (A 91 58).toNat by omega]; exact hQ
  | succ n ih =>
    intro o ho
    have ih := ih (o + 1) (by omega)
    unfold ahL at ih
    refine e292_1 hR ?_
    simp only [Int.toNat_natCast]
    refine ⟨⟨by omega, by omega⟩, fun _ => ⟨by omega, by omega, fun c1 => ?_, fun c1 => ⟨fun c2 => ⟨⟨by omega, by omega⟩, fun c3 => ?_, fun c3 => ?_⟩, fun c2 => ?_⟩⟩, fun h => by exfalso; omega⟩
    · rw [if_pos (Or.inl c1)] at ih; exact ih
    · rw [if_pos (Or.inr ⟨c2, by omega⟩)] at ih; exact ih
    · rw [if_neg (by rintro (h | ⟨h, h'⟩); exact c1 h; omega)] at ih; exact ih
    · rw [if_neg (by rintro (h | ⟨h, h'⟩); exact c1 h; exact c2 h)] at ih; exact ih
theorem k292 {K : Int32 → mM → Prop} {x : Int} (hR : RM I A) (hV : WfV A) (hx : 0 ≤ x ∧ x < 10) (hK : K (oI (ahL (ld I 135) x.toNat (A 91 58).toNat)) (bd L I R S)) : CallI (d + 1) 292 [.ref 91, .int (oI x)] (bd L I R S) K := by
  have q := l292 (d := d) (L := L) (R := R) (S := S) (Q := rqI K) (k := x.toNat) hV hR (by omega) (rqI_of hK) (A 91 58).toNat 0 (by omega)
  rw [show ((x.toNat : Nat) : Int) = x by omega] at q
  exact e292 hR q
end
