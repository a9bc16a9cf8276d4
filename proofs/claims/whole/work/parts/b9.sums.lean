section
variable {d L : Nat} {I I0 : mI} {R : mR} {S : mSh} {Q : Option Value → mM → Prop} {A : aS} {c day known kind half year subj code : Int}
theorem k158 {f t : Int} {K : Int32 → mM → Prop} (hC : RC R S I A) (hW : WfA A) (hWC : WfC A) (hP : WfP A) (hr : RgP A I c f t (A 91 0)) (hc : 0 ≤ c ∧ c < A 91 1) (hd : f ≤ day ∧ day ≤ t) (hst : ld I 69 (Int.tdiv day 100).toNat = stS A c (Int.tdiv day 100) (A 91 0)) (hK : ∀ I1, Fr [60] [] I I1 → K (oI (fwS A c day)) (bd L I1 R S)) : CallI (d + 25) 158 [.ref 59, .int (oI day)] (bd L I R S) K := by
  obtain ⟨hw, ⟨n1, n2, n3⟩, hs, hl, h16⟩ := hr
  unfold WnOk at hw
  have h40 := hW.2.1
  have td := td100 (day := day) (by omega)
  have ag := ageC_in hP hc (day := day) (by omega)
  have on := onS_in hW (c := c) (day := day) (known := A 91 0)
  have ei : f + ((day - f).toNat : Int) = day := by omega
  obtain ⟨l1, l2, ⟨l3, l4⟩, l5, l6⟩ := hl (day - f).toNat (by omega)
  have sh := hs (day - f).toNat (by omega)
  rw [ei] at l1 l2 l3 l4 l5 l6 sh
  unfold fwS at hK
  have r1 : inR (max 0 (Int.tdiv (day - A 92 c.toNat) 100)) := by unfold inR; omega
  have r2 : inR (day - Int.tdiv day 100 * 100) := by unfold inR; omega
  have r3 : inR (Int.tdiv day 100) := by unfold inR; omega
  have r5 := ld_inR I 69 (Int.tdiv day 100).toNat
  rw [hst] at r5
  have env : ∀ (I1 : mI), (∀ j : Nat, j < 12 → ld I1 60 j = 0) → EnvC 60 (u2 (u2 (u2 (u2 (u2 I1 60 1 (oI (max 0 (Int.tdiv (day - A 92 c.toNat) 100)))) 60 2 (oI (stS A c (Int.tdiv day 100) (A 91 0)))) 60 3 (oI (day - Int.tdiv day 100 * 100))) 60 4 (oI (Int.tdiv day 100))) 60 6 (oI (bI (spS A 4 c day (A 91 0))))) (fwE A c day) := by
    intro I1 hz
    have e0 := (((((EnvC.zero hz).put (k := 0) (j := 1) (by decide) r1 (by decide)).put (k := 1) (j := 2) (by decide) r5 (by decide)).put (k := 2) (j := 3) (by decide) r2 (by decide)).put (k := 3) (j := 4) (by decide) r3 (by decide)).put (k := 6) (j := 6) (by decide) (bI_in (spS A 4 c day (A 91 0))) (by decide)
    rw [putE_comm (a := 2) (b := 3) (by decide)] at e0
    exact e0
  refine e158 (d := d) hC ?_
  rw [n1, n2, l1, l4]
  have hon : ¬ onS A c day (A 91 0) = -1 → (!(iAnd (iShr (ld I 68 (day - f).toNat) (onS A c day (A 91 0))) 1 == 0)) = spS A 1 (onS A c day (A 91 0)) day (A 91 0) := fun q => by
    have := sh (onS A c day (A 91 0)).toNat (by omega)
    rw [show (((onS A c day (A 91 0)).toNat : Nat) : Int) = onS A c day (A 91 0) by omega] at this
    exact this
  refine ⟨by unfold inR; omega, fun _ => ⟨by omega, fun q => ?_, fun q => ⟨fun q2 => ⟨fun q3 I1 f1 z1 => ?_, fun q3 => ?_⟩, fun q2 => ?_⟩⟩, fun q => absurd hd q⟩
  · have := hK I (Fr.refl _ _ _)
    rw [if_pos (Or.inl q)] at this; exact this
  · have hon := hon q
    rw [q2] at hon
    have h5 : spS A 5 c day (A 91 0) = false := by
      cases hb : spS A 5 c day (A 91 0) with
      | false => rfl
      | true => rw [hb] at q3; exact absurd q3 (by decide)
    have hsp : ¬ (onS A c day (A 91 0) = -1 ∨ spS A 1 (onS A c day (A 91 0)) day (A 91 0) = true ∨ spS A 5 c day (A 91 0) = true) := by
      rintro (x | x | x)
      · exact q x
      · rw [x] at hon; exact absurd hon (by decide)
      · rw [h5] at x; cases x
    rw [if_neg hsp] at hK
    rw [f1.ld rfl, f1.ld rfl, f1.ld rfl, f1.ld rfl, n1, h16, l3, hst]
    refine ⟨by omega, ag.1, by unfold inR; omega, by omega, by omega, hWC, by omega, _, env I1 z1, ?_⟩
    rw [show (137 : Int) = ckd 8 from rfl, tlS_one hWC (by omega)]
    exact hK _ (((((f1.wr rfl).wr rfl).wr rfl).wr rfl).wr rfl)
  · have h5 : spS A 5 c day (A 91 0) = true := by
      cases hb : spS A 5 c day (A 91 0) with
      | true => rfl
      | false => rw [hb] at q3; exact absurd rfl q3
    have := hK I (Fr.refl _ _ _)
    rw [if_pos (Or.inr (Or.inr h5))] at this; exact this
  · have hon := hon q
    have hsp : spS A 1 (onS A c day (A 91 0)) day (A 91 0) = true := by
      rw [← hon, Bool.not_eq_true']
      exact beq_eq_false_iff_ne.mpr q2
    have := hK I (Fr.refl _ _ _)
    rw [if_pos (Or.inr (Or.inl hsp))] at this; exact this
noncomputable def hfE (A : aS) (c day : Int) : Nat → Int := putE (putE (putE zE 0 (ageS A c day)) 1 (stS A c (Int.tdiv day 100) (A 91 0))) 3 (Int.tdiv day 100)
theorem k141 {K : Int32 → mM → Prop} (hC : RC R S I A) (hW : WfA A) (hWC : WfC A) (hP : WfP A) (hc : 0 ≤ c ∧ c < A 91 1) (hd : 0 ≤ day ∧ day ≤ 799) (h1 : ¬ fsS A (hfE A c day) (Int.tdiv day 100) 9 (-1) = -1 → ∀ I1, Fr [60, 61, 68, 69] [(59, 13), (59, 14), (59, 15)] I I1 → K (oI 1) (bd L I1 R S)) (h0 : fsS A (hfE A c day) (Int.tdiv day 100) 9 (-1) = -1 → ∀ I1, Fr [60, 61, 68, 69] [(59, 13), (59, 14), (59, 15)] I I1 → K (oI 0) (bd L I1 R S)) : CallI (d + 28) 141 [.ref 59, .int (oI c), .int (oI day), .int (oI (A 91 0))] (bd L I R S) K := by
  have h40 := hW.2.1
  have h00 := hW.1
  have td := td100 hd
  have ag := ageC_in hP hc (day := day) (by omega)
  have si := stS_in hP hc (year := Int.tdiv day 100) (known := A 91 0)
  refine e141 (d := d) hC ⟨hW, by unfold WnOk; omega, fun I3 f3 w3 s3 => ?_⟩
  rw [w3.2.2]
  refine ⟨by unfold inR; omega, hP, hWC, hc, td.1, by omega, fun I13 f13 st13 I16 f16 z16 => ⟨by omega, ag.1, by unfold inR; omega, _, (((EnvC.zero z16).put (k := 0) (j := 1) (by decide) (by unfold inR; omega) (by decide)).put (k := 1) (j := 2) (by decide) (by unfold inR; omega) (by decide)).put (k := 3) (j := 4) (by decide) (by unfold inR; omega) (by decide), tlS_R hWC (inRd rfl), ?_⟩⟩
  have fr : Fr [60, 61, 68, 69] [(59, 13), (59, 14), (59, 15)] I (u2 (u2 (u2 I16 60 1 (oI (max 0 (Int.tdiv (day - A 92 c.toNat) 100)))) 60 2 (oI (stS A c (Int.tdiv day 100) (A 91 0)))) 60 4 (oI (Int.tdiv day 100))) := (((f3.sub rfl rfl).trans ((f13.sub rfl rfl).trans (f16.sub rfl rfl))).wr rfl).wr rfl |>.wr rfl
  have et := tlS_half (A := A) (h := hfE A c day) (y := Int.tdiv day 100) (ow := -1) hWC
  refine ⟨fun q => h0 ?_ _ fr, fun q => h1 ?_ _ fr⟩
  · by_cases e : fsS A (hfE A c day) (Int.tdiv day 100) 9 (-1) = -1
    · exact e
    · rw [if_neg e] at et
      have q2 : tlS A (hfE A c day) (Int.tdiv day 100) 144 1 (-1) = -1 := q
      rw [et] at q2; omega
  · intro e
    rw [if_pos e] at et
    exact q et
theorem l155 {y kn : Int} {s : Nat} (hC : RC R S I A) (hy : 0 ≤ y ∧ y ≤ 7) (hs : s < 6) (hwn : WnP I (100 * y) (100 * y + 99) kn) (hsh : ShP A I (100 * y) (100 * y + 99) kn) (hQ : Q (some (.int (oI (opS A s y kn)))) (bd L I R S)) : ∀ (n k : Nat), k + n = 100 → h155_1 (d + 1) L I R S Q s (opL A s y kn k) (100 * y + k) := by
  intro n
  induction n with
  | zero =>
    intro k hk
    refine e155_1 hC ?_
    rw [hwn.2.1]
    refine ⟨by unfold inR; omega, fun _ => ?_, fun q => by exfalso; omega⟩
    rw [show k = 100 by omega]; exact hQ
  | succ n ih =>
    intro k hk
    have ih := ih (k + 1) (by omega)
    have e : opL A s y kn (k + 1) = opL A s y kn k + (if bI (spS A 1 s (100 * y + k) kn) = 0 then 1 else 0) := rfl
    have sh := hsh k (by omega) s hs
    unfold btB at sh
    rw [e, show 100 * y + ((k + 1 : Nat) : Int) = 100 * y + k + 1 by omega] at ih
    refine e155_1 hC ?_
    rw [hwn.1, hwn.2.1, show (100 * y + (k : Int) - 100 * y).toNat = k by omega]
    refine ⟨by unfold inR; omega, fun q => by exfalso; omega, fun _ => ⟨by omega, fun q => ?_, fun q => ?_⟩⟩
    · rw [q] at sh
      rw [← sh] at ih
      exact ih
    · rw [show (!(iAnd (iShr (ld I 68 k) s) 1 == 0)) = true by rw [Bool.not_eq_true']; exact beq_eq_false_iff_ne.mpr q] at sh
      rw [← sh] at ih
      exact ih
theorem k155 {y kn s : Int} {K : Int32 → mM → Prop} (hC : RC R S I A) (hy : 0 ≤ y ∧ y ≤ 7) (hs : 0 ≤ s ∧ s < 6) (hwn : WnP I (100 * y) (100 * y + 99) kn) (hsh : ShP A I (100 * y) (100 * y + 99) kn) (hK : K (oI (opS A s y kn)) (bd L I R S)) : CallI (d + 1) 155 [.ref 59, .int (oI s)] (bd L I R S) K := by
  obtain ⟨s, rfl⟩ : ∃ n : Nat, s = n := ⟨s.toNat, by omega⟩
  refine e155 (d := d + 1) hC ?_
  rw [hwn.1]
  have := l155 (d := d) (L := L) (R := R) (S := S) (Q := rqI K) (s := s) hC hy (by omega) hwn hsh (rqI_of hK) 100 0 rfl
  rw [show 100 * y + ((0 : Nat) : Int) = 100 * y by omega] at this
  exact this
end
def h154_1 (d L : Nat) (I : Nat → Nat → Int32) (R : Nat → Nat → Option Nat) (S : List (Nat × Nat)) (Q : Option Value → mM → Prop) (x1 : Int) (x2 : Int) (x3 : Int) : Prop := Wp d (gb 154 1) [.ref 59, .int (oI x1), .int (oI x2), .int (oI x3)] [] (bd L I R S) Q
set_option maxRecDepth 4000 in
theorem e154_1 {d L : Nat} {I : Nat → Nat → Int32} {R : Nat → Nat → Option Nat} {S : List (Nat × Nat)} {Q : Option Value → mM → Prop} {A : aS} (hC : RC R S I A) {x1 : Int} {x2 : Int} {x3 : Int} (hE : inR x3 ∧ (((ld I 59 14 < x3) → Q (some (.int (oI x2))) (bd L I R S)) ∧ (¬ (ld I 59 14 < x3) → WfA A ∧ (WfC A ∧ (WfP A ∧ ((0 ≤ x1 ∧ x1 ≤ 7) ∧ (∃ c7 f8 t9 n10 : Int, RgP A I c7 f8 t9 n10 ∧ (0 ≤ c7 ∧ c7 < A 91 1) ∧ (f8 ≤ x3 ∧ x3 ≤ t9) ∧ (∀ (I14 : mI), (Fr [60] [] I I14) → ∃ c16 f17 t18 n19 : Int, RgP A I14 c16 f17 t18 n19 ∧ (0 ≤ c16 ∧ c16 < A 91 1) ∧ (f17 ≤ x3 ∧ x3 ≤ t18) ∧ (∀ (I23 : mI), (Fr [60] [] I14 I23) → h154_1 (d + 26) L I23 R S Q x1 (x2 + ((qtS A c7 (Int.tdiv x3 100) (x3 - Int.tdiv x3 100 * 100) 0 x1 (ld I 69 (Int.tdiv x3 100).toNat) n10) + (qtS A c16 (Int.tdiv x3 100) (x3 - Int.tdiv x3 100 * 100) 1 x1 (ld I14 69 (Int.tdiv x3 100).toNat) n19))) (x3 + 1)))))))))) : h154_1 (d + 26) L I R S Q x1 x2 x3 := by
  unfold h154_1
  refine xG gb154.2.1 ?_
  refine s4 (x := x3) rfl ?_
  refine s6 (p := 59) rfl ?_
  refine s50 (v := ld I 59 14) sh59 (by decide) (by decide) (oI_ld _ _ _) ?_
  obtain ⟨g1, hE⟩ := hE
  refine s65 g1 (ld_inR _ _ _) (fun c2 => ?_) (fun c2 => ?_)
  · replace hE := hE.1 c2
    refine xG gb154.2.2 ?_
    refine s4 (x := x2) rfl ?_
    refine s80 ?_
    exact hE
  · replace hE := hE.2 c2
    refine s4 (x := x2) rfl ?_
    refine s6 (p := 59) rfl ?_
    refine s4 (x := x3) rfl ?_
    refine s0 ?_
    refine s4 (x := x1) rfl ?_
    obtain ⟨g3, hE⟩ := hE
    obtain ⟨g4, hE⟩ := hE
    obtain ⟨g5, hE⟩ := hE
    obtain ⟨g6, hE⟩ := hE
    obtain ⟨c7, f8, t9, n10, k11, k12, k13, hE⟩ := hE
    refine sI rc149 rfl (Nat.le_of_ble_eq_true rfl) ?_
    refine k149 hC g3 g4 g5 k11 k12 k13 (⟨by decide, by decide⟩ : (0 : Int) ≤ 0 ∧ (0 : Int) ≤ 1) g6 (fun I14 q15 => ?_)
    replace hE := hE I14 q15
    refine s6 (p := 59) rfl ?_
    refine s4 (x := x3) rfl ?_
    refine s0 ?_
    refine s4 (x := x1) rfl ?_
    obtain ⟨c16, f17, t18, n19, k20, k21, k22, hE⟩ := hE
    refine sI rc149 rfl (Nat.le_of_ble_eq_true rfl) ?_
    refine k149 (RC.fr hC q15 rfl) g3 g4 g5 k20 k21 k22 (⟨by decide, by decide⟩ : (0 : Int) ≤ 1 ∧ (1 : Int) ≤ 1) g6 (fun I23 q24 => ?_)
    replace hE := hE I23 q24
    refine s16 ?_
    refine s16 ?_
    refine s7 (ls' := [.ref 59, .int (oI x1), .int (oI (x2 + ((qtS A c7 (Int.tdiv x3 100) (x3 - Int.tdiv x3 100 * 100) 0 x1 (ld I 69 (Int.tdiv x3 100).toNat) n10) + (qtS A c16 (Int.tdiv x3 100) (x3 - Int.tdiv x3 100 * 100) 1 x1 (ld I14 69 (Int.tdiv x3 100).toNat) n19)))), .int (oI x3)]) (Nat.le_of_ble_eq_true rfl) rfl ?_
    refine s10 (x := x3) (ls' := [.ref 59, .int (oI x1), .int (oI (x2 + ((qtS A c7 (Int.tdiv x3 100) (x3 - Int.tdiv x3 100 * 100) 0 x1 (ld I 69 (Int.tdiv x3 100).toNat) n10) + (qtS A c16 (Int.tdiv x3 100) (x3 - Int.tdiv x3 100 * 100) 1 x1 (ld I14 69 (Int.tdiv x3 100).toNat) n19)))), .int (oI (x3 + 1))]) rfl rfl ?_
    refine s60 ?_
    exact hE
set_option maxRecDepth 4000 in
theorem e154 {d L : Nat} {I : Nat → Nat → Int32} {R : Nat → Nat → Option Nat} {S : List (Nat × Nat)} {K : Int32 → mM → Prop} {A : aS} (hC : RC R S I A) {x1 : Int} (hE : h154_1 d L I R S (rqI K) x1 0 (ld I 59 13)) : CallI d 154 [.ref 59, .int (oI x1)] (bd L I R S) K := by
  refine cI_of (ls := [.ref 59, .int (oI x1), mUn, mUn]) rfl ?_
  refine xG gb154.1 ?_
  refine s0 ?_
  refine s7 (ls' := [.ref 59, .int (oI x1), .int (oI 0), mUn]) (Nat.le_of_ble_eq_true rfl) rfl ?_
  refine s6 (p := 59) rfl ?_
  refine s50 (v := ld I 59 13) sh59 (by decide) (by decide) (oI_ld _ _ _) ?_
  refine s7 (ls' := [.ref 59, .int (oI x1), .int (oI 0), .int (oI (ld I 59 13))]) (Nat.le_of_ble_eq_true rfl) rfl ?_
  refine s79 ?_
  exact hE
def h156_1 (d L : Nat) (I : Nat → Nat → Int32) (R : Nat → Nat → Option Nat) (S : List (Nat × Nat)) (Q : Option Value → mM → Prop) (x1 : Int) (x2 : Int) (x3 : Int) (x4 : Int) : Prop := Wp d (gb 156 1) [.ref 59, .int (oI x1), .int (oI x2), .int (oI x3), .int (oI x4)] [] (bd L I R S) Q
set_option maxRecDepth 4000 in
theorem e156_1 {d L : Nat} {I : Nat → Nat → Int32} {R : Nat → Nat → Option Nat} {S : List (Nat × Nat)} {Q : Option Value → mM → Prop} {A : aS} (hC : RC R S I A) {x1 : Int} {x2 : Int} {x3 : Int} {x4 : Int} (hE : inR x4 ∧ (((ld I 59 14 < x4) → Q (some (.int (oI x3))) (bd L I R S)) ∧ (¬ (ld I 59 14 < x4) → ((ld I 59 13 ≤ x4 ∧ x4 ≤ ld I 59 14) → (0 ≤ x4 - (ld I 59 13) ∧ x4 - (ld I 59 13) < 100) ∧ (inR x1 ∧ (((ld I 62 (x4 - (ld I 59 13)).toNat = x1) → WfA A ∧ (WfC A ∧ (WfP A ∧ ((0 ≤ x2 ∧ x2 ≤ 7) ∧ (∃ c12 f13 t14 n15 : Int, RgP A I c12 f13 t14 n15 ∧ (0 ≤ c12 ∧ c12 < A 91 1) ∧ (f13 ≤ x4 ∧ x4 ≤ t14) ∧ (∀ (I19 : mI), (Fr [60] [] I I19) → ∃ c21 f22 t23 n24 : Int, RgP A I19 c21 f22 t23 n24 ∧ (0 ≤ c21 ∧ c21 < A 91 1) ∧ (f22 ≤ x4 ∧ x4 ≤ t23) ∧ (∀ (I28 : mI), (Fr [60] [] I19 I28) → h156_1 (d + 26) L I28 R S Q x1 x2 (x3 + ((qtS A c12 (Int.tdiv x4 100) (x4 - Int.tdiv x4 100 * 100) 0 x2 (ld I 69 (Int.tdiv x4 100).toNat) n15) + (qtS A c21 (Int.tdiv x4 100) (x4 - Int.tdiv x4 100 * 100) 1 x2 (ld I19 69 (Int.tdiv x4 100).toNat) n24))) (x4 + 1)))))))) ∧ (¬ (ld I 62 (x4 - (ld I 59 13)).toNat = x1) → h156_1 (d + 26) L I R S Q x1 x2 x3 (x4 + 1))))) ∧ (¬ (ld I 59 13 ≤ x4 ∧ x4 ≤ ld I 59 14) → inR x1 ∧ ((((-1) = x1) → WfA A ∧ (WfC A ∧ (WfP A ∧ ((0 ≤ x2 ∧ x2 ≤ 7) ∧ (∃ c37 f38 t39 n40 : Int, RgP A I c37 f38 t39 n40 ∧ (0 ≤ c37 ∧ c37 < A 91 1) ∧ (f38 ≤ x4 ∧ x4 ≤ t39) ∧ (∀ (I44 : mI), (Fr [60] [] I I44) → ∃ c46 f47 t48 n49 : Int, RgP A I44 c46 f47 t48 n49 ∧ (0 ≤ c46 ∧ c46 < A 91 1) ∧ (f47 ≤ x4 ∧ x4 ≤ t48) ∧ (∀ (I53 : mI), (Fr [60] [] I44 I53) → h156_1 (d + 26) L I53 R S Q x1 x2 (x3 + ((qtS A c37 (Int.tdiv x4 100) (x4 - Int.tdiv x4 100 * 100) 0 x2 (ld I 69 (Int.tdiv x4 100).toNat) n40) + (qtS A c46 (Int.tdiv x4 100) (x4 - Int.tdiv x4 100 * 100) 1 x2 (ld I44 69 (Int.tdiv x4 100).toNat) n49))) (x4 + 1)))))))) ∧ (¬ ((-1) = x1) → h156_1 (d + 26) L I R S Q x1 x2 x3 (x4 + 1))))))) : h156_1 (d + 26) L I R S Q x1 x2 x3 x4 := by
  unfold h156_1
  refine xG gb156.2.1 ?_
  refine s4 (x := x4) rfl ?_
  refine s6 (p := 59) rfl ?_
  refine s50 (v := ld I 59 14) sh59 (by decide) (by decide) (oI_ld _ _ _) ?_
  obtain ⟨g1, hE⟩ := hE
  refine s65 g1 (ld_inR _ _ _) (fun c2 => ?_) (fun c2 => ?_)
  · replace hE := hE.1 c2
    refine xG gb156.2.2.2 ?_
    refine s4 (x := x3) rfl ?_
    refine s80 ?_
    exact hE
  · replace hE := hE.2 c2
    refine s6 (p := 59) rfl ?_
    refine s4 (x := x4) rfl ?_
    refine sI rc140 rfl (Nat.le_of_ble_eq_true rfl) ?_
    refine cI_of (ls := [.ref 59, .int (oI x4)]) rfl ?_
    refine xG gb140.1 ?_
    refine s4 (x := x4) rfl ?_
    refine s6 (p := 59) rfl ?_
    refine s50 (v := ld I 59 13) sh59 (by decide) (by decide) (oI_ld _ _ _) ?_
    refine s6 (p := 59) rfl ?_
    refine s50 (v := ld I 59 14) sh59 (by decide) (by decide) (oI_ld _ _ _) ?_
    refine sI rc3 rfl (Nat.le_of_ble_eq_true rfl) ?_
    refine k3 g1 (ld_inR _ _ _) (ld_inR _ _ _) (fun c3 => ?_) (fun c3 => ?_)
    · replace hE := hE.1 c3
      refine s67 (inRd rfl) (fun c4 => absurd c4 (by decide)) (fun _ => ?_)
      refine s6 (p := 59) rfl ?_
      refine s51 sh59 (by decide) (by decide) rf59_5 ?_
      refine s4 (x := x4) rfl ?_
      refine s6 (p := 59) rfl ?_
      refine s50 (v := ld I 59 13) sh59 (by decide) (by decide) (oI_ld _ _ _) ?_
      refine s17 ?_
      obtain ⟨g5, hE⟩ := hE
      refine s40 (v := ld I 62 (x4 - (ld I 59 13)).toNat) sh62 g5 rfl (oI_ld _ _ _) ?_
      refine s60 ?_
      refine xG gb140.2.2 ?_
      refine s80 ?_
      refine rqI_of ?_
      refine s4 (x := x1) rfl ?_
      obtain ⟨g6, hE⟩ := hE
      refine s62 (ld_inR _ _ _) g6 (fun c7 => ?_) (fun c7 => ?_)
      · replace hE := hE.1 c7
        refine s4 (x := x3) rfl ?_
        refine s6 (p := 59) rfl ?_
        refine s4 (x := x4) rfl ?_
        refine s0 ?_
        refine s4 (x := x2) rfl ?_
        obtain ⟨g8, hE⟩ := hE
        obtain ⟨g9, hE⟩ := hE
        obtain ⟨g10, hE⟩ := hE
        obtain ⟨g11, hE⟩ := hE
        obtain ⟨c12, f13, t14, n15, k16, k17, k18, hE⟩ := hE
        refine sI rc149 rfl (Nat.le_of_ble_eq_true rfl) ?_
        refine k149 hC g8 g9 g10 k16 k17 k18 (⟨by decide, by decide⟩ : (0 : Int) ≤ 0 ∧ (0 : Int) ≤ 1) g11 (fun I19 q20 => ?_)
        replace hE := hE I19 q20
        refine s6 (p := 59) rfl ?_
        refine s4 (x := x4) rfl ?_
        refine s0 ?_
        refine s4 (x := x2) rfl ?_
        obtain ⟨c21, f22, t23, n24, k25, k26, k27, hE⟩ := hE
        refine sI rc149 rfl (Nat.le_of_ble_eq_true rfl) ?_
        refine k149 (RC.fr hC q20 rfl) g8 g9 g10 k25 k26 k27 (⟨by decide, by decide⟩ : (0 : Int) ≤ 1 ∧ (1 : Int) ≤ 1) g11 (fun I28 q29 => ?_)
        replace hE := hE I28 q29
        refine s16 ?_
        refine s16 ?_
        refine s7 (ls' := [.ref 59, .int (oI x1), .int (oI x2), .int (oI (x3 + ((qtS A c12 (Int.tdiv x4 100) (x4 - Int.tdiv x4 100 * 100) 0 x2 (ld I 69 (Int.tdiv x4 100).toNat) n15) + (qtS A c21 (Int.tdiv x4 100) (x4 - Int.tdiv x4 100 * 100) 1 x2 (ld I19 69 (Int.tdiv x4 100).toNat) n24)))), .int (oI x4)]) (Nat.le_of_ble_eq_true rfl) rfl ?_
        refine s79 ?_
        refine xG gb156.2.2.1 ?_
        refine s10 (x := x4) (ls' := [.ref 59, .int (oI x1), .int (oI x2), .int (oI (x3 + ((qtS A c12 (Int.tdiv x4 100) (x4 - Int.tdiv x4 100 * 100) 0 x2 (ld I 69 (Int.tdiv x4 100).toNat) n15) + (qtS A c21 (Int.tdiv x4 100) (x4 - Int.tdiv x4 100 * 100) 1 x2 (ld I19 69 (Int.tdiv x4 100).toNat) n24)))), .int (oI (x4 + 1))]) rfl rfl ?_
        refine s60 ?_
        exact hE
      · replace hE := hE.2 c7
        refine xG gb156.2.2.1 ?_
        refine s10 (x := x4) (ls' := [.ref 59, .int (oI x1), .int (oI x2), .int (oI x3), .int (oI (x4 + 1))]) rfl rfl ?_
        refine s60 ?_
        exact hE
    · replace hE := hE.2 c3
      refine s67 (inRd rfl) (fun _ => ?_) (fun c30 => absurd (by decide) c30)
      refine xG gb140.2.1 ?_
      refine s0 ?_
      refine s79 ?_
      refine xG gb140.2.2 ?_
      refine s80 ?_
      refine rqI_of ?_
      refine s4 (x := x1) rfl ?_
      obtain ⟨g31, hE⟩ := hE
      refine s62 (inRd rfl) g31 (fun c32 => ?_) (fun c32 => ?_)
      · replace hE := hE.1 c32
        refine s4 (x := x3) rfl ?_
        refine s6 (p := 59) rfl ?_
        refine s4 (x := x4) rfl ?_
        refine s0 ?_
        refine s4 (x := x2) rfl ?_
        obtain ⟨g33, hE⟩ := hE
        obtain ⟨g34, hE⟩ := hE
        obtain ⟨g35, hE⟩ := hE
        obtain ⟨g36, hE⟩ := hE
        obtain ⟨c37, f38, t39, n40, k41, k42, k43, hE⟩ := hE
        refine sI rc149 rfl (Nat.le_of_ble_eq_true rfl) ?_
        refine k149 hC g33 g34 g35 k41 k42 k43 (⟨by decide, by decide⟩ : (0 : Int) ≤ 0 ∧ (0 : Int) ≤ 1) g36 (fun I44 q45 => ?_)
        replace hE := hE I44 q45
        refine s6 (p := 59) rfl ?_
        refine s4 (x := x4) rfl ?_
        refine s0 ?_
        refine s4 (x := x2) rfl ?_
        obtain ⟨c46, f47, t48, n49, k50, k51, k52, hE⟩ := hE
        refine sI rc149 rfl (Nat.le_of_ble_eq_true rfl) ?_
        refine k149 (RC.fr hC q45 rfl) g33 g34 g35 k50 k51 k52 (⟨by decide, by decide⟩ : (0 : Int) ≤ 1 ∧ (1 : Int) ≤ 1) g36 (fun I53 q54 => ?_)
        replace hE := hE I53 q54
        refine s16 ?_
        refine s16 ?_
        refine s7 (ls' := [.ref 59, .int (oI x1), .int (oI x2), .int (oI (x3 + ((qtS A c37 (Int.tdiv x4 100) (x4 - Int.tdiv x4 100 * 100) 0 x2 (ld I 69 (Int.tdiv x4 100).toNat) n40) + (qtS A c46 (Int.tdiv x4 100) (x4 - Int.tdiv x4 100 * 100) 1 x2 (ld I44 69 (Int.tdiv x4 100).toNat) n49)))), .int (oI x4)]) (Nat.le_of_ble_eq_true rfl) rfl ?_
        refine s79 ?_
        refine xG gb156.2.2.1 ?_
        refine s10 (x := x4) (ls' := [.ref 59, .int (oI x1), .int (oI x2), .int (oI (x3 + ((qtS A c37 (Int.tdiv x4 100) (x4 - Int.tdiv x4 100 * 100) 0 x2 (ld I 69 (Int.tdiv x4 100).toNat) n40) + (qtS A c46 (Int.tdiv x4 100) (x4 - Int.tdiv x4 100 * 100) 1 x2 (ld I44 69 (Int.tdiv x4 100).toNat) n49)))), .int (oI (x4 + 1))]) rfl rfl ?_
        refine s60 ?_
        exact hE
      · replace hE := hE.2 c32
        refine xG gb156.2.2.1 ?_
        refine s10 (x := x4) (ls' := [.ref 59, .int (oI x1), .int (oI x2), .int (oI x3), .int (oI (x4 + 1))]) rfl rfl ?_
        refine s60 ?_
        exact hE
set_option maxRecDepth 4000 in
theorem e156 {d L : Nat} {I : Nat → Nat → Int32} {R : Nat → Nat → Option Nat} {S : List (Nat × Nat)} {K : Int32 → mM → Prop} {A : aS} (hC : RC R S I A) {x1 : Int} {x2 : Int} (hE : h156_1 d L I R S (rqI K) x1 x2 0 (ld I 59 13)) : CallI d 156 [.ref 59, .int (oI x1), .int (oI x2)] (bd L I R S) K := by
  refine cI_of (ls := [.ref 59, .int (oI x1), .int (oI x2), mUn, mUn]) rfl ?_
  refine xG gb156.1 ?_
  refine s0 ?_
  refine s7 (ls' := [.ref 59, .int (oI x1), .int (oI x2), .int (oI 0), mUn]) (Nat.le_of_ble_eq_true rfl) rfl ?_
  refine s6 (p := 59) rfl ?_
  refine s50 (v := ld I 59 13) sh59 (by decide) (by decide) (oI_ld _ _ _) ?_
  refine s7 (ls' := [.ref 59, .int (oI x1), .int (oI x2), .int (oI 0), .int (oI (ld I 59 13))]) (Nat.le_of_ble_eq_true rfl) rfl ?_
  refine s79 ?_
  exact hE
def h159_1 (d L : Nat) (I : Nat → Nat → Int32) (R : Nat → Nat → Option Nat) (S : List (Nat × Nat)) (Q : Option Value → mM → Prop) (x1 : Int) (x2 : Int) (w3 : Value) : Prop := Wp d (gb 159 1) [.ref 59, .int (oI x1), .int (oI x2), w3] [] (bd L I R S) Q
set_option maxRecDepth 4000 in
theorem e159_1 {d L : Nat} {I : Nat → Nat → Int32} {R : Nat → Nat → Option Nat} {S : List (Nat × Nat)} {Q : Option Value → mM → Prop} {A : aS} (hC : RC R S I A) {x1 : Int} {x2 : Int} {w3 : Value} (hE : inR x2 ∧ (((ld I 59 14 < x2) → Q (some (.int (oI x1))) (bd L I R S)) ∧ (¬ (ld I 59 14 < x2) → ((ld I 59 13 ≤ x2 ∧ x2 ≤ ld I 59 14) → (0 ≤ x2 - (ld I 59 13) ∧ x2 - (ld I 59 13) < 100) ∧ (((ld I 62 (x2 - (ld I 59 13)).toNat = (-1)) → h159_1 (d + 26) L I R S Q x1 (x2 + 1) w3) ∧ (¬ (ld I 62 (x2 - (ld I 59 13)).toNat = (-1)) → ((iAnd (iShr (ld I 68 (x2 - (ld I 59 13)).toNat) (ld I 62 (x2 - (ld I 59 13)).toNat)) 1 = 0) → WfA A ∧ (WfC A ∧ (WfP A ∧ ((0 ≤ Int.tdiv x2 100 ∧ Int.tdiv x2 100 ≤ 7) ∧ (∃ c15 f16 t17 n18 : Int, RgP A I c15 f16 t17 n18 ∧ (0 ≤ c15 ∧ c15 < A 91 1) ∧ (f16 ≤ x2 ∧ x2 ≤ t17) ∧ (∀ (I22 : mI), (Fr [60] [] I I22) → ∃ c24 f25 t26 n27 : Int, RgP A I22 c24 f25 t26 n27 ∧ (0 ≤ c24 ∧ c24 < A 91 1) ∧ (f25 ≤ x2 ∧ x2 ≤ t26) ∧ (∀ (I31 : mI), (Fr [60] [] I22 I31) → h159_1 (d + 26) L I31 R S Q (x1 + ((4 - (qtS A c15 (Int.tdiv x2 100) (x2 - Int.tdiv x2 100 * 100) 0 (Int.tdiv x2 100) (ld I 69 (Int.tdiv x2 100).toNat) n18)) - (qtS A c24 (Int.tdiv x2 100) (x2 - Int.tdiv x2 100 * 100) 1 (Int.tdiv x2 100) (ld I22 69 (Int.tdiv x2 100).toNat) n27))) (x2 + 1) (.int (oI (Int.tdiv x2 100)))))))))) ∧ (¬ (iAnd (iShr (ld I 68 (x2 - (ld I 59 13)).toNat) (ld I 62 (x2 - (ld I 59 13)).toNat)) 1 = 0) → h159_1 (d + 26) L I R S Q x1 (x2 + 1) w3)))) ∧ (¬ (ld I 59 13 ≤ x2 ∧ x2 ≤ ld I 59 14) → h159_1 (d + 26) L I R S Q x1 (x2 + 1) w3)))) : h159_1 (d + 26) L I R S Q x1 x2 w3 := by
  unfold h159_1
  refine xG gb159.2.1 ?_
  refine s4 (x := x2) rfl ?_
  refine s6 (p := 59) rfl ?_
  refine s50 (v := ld I 59 14) sh59 (by decide) (by decide) (oI_ld _ _ _) ?_
  obtain ⟨g1, hE⟩ := hE
  refine s65 g1 (ld_inR _ _ _) (fun c2 => ?_) (fun c2 => ?_)
  · replace hE := hE.1 c2
    refine xG gb159.2.2.2 ?_
    refine s4 (x := x1) rfl ?_
    refine s80 ?_
    exact hE
  · replace hE := hE.2 c2
    refine s6 (p := 59) rfl ?_
    refine s4 (x := x2) rfl ?_
    refine sI rc150 rfl (Nat.le_of_ble_eq_true rfl) ?_
    refine cI_of (ls := [.ref 59, .int (oI x2), mUn]) rfl ?_
    refine xG gb150.1 ?_
    refine s6 (p := 59) rfl ?_
    refine s4 (x := x2) rfl ?_
    refine sI rc140 rfl (Nat.le_of_ble_eq_true rfl) ?_
    refine cI_of (ls := [.ref 59, .int (oI x2)]) rfl ?_
    refine xG gb140.1 ?_
    refine s4 (x := x2) rfl ?_
    refine s6 (p := 59) rfl ?_
    refine s50 (v := ld I 59 13) sh59 (by decide) (by decide) (oI_ld _ _ _) ?_
    refine s6 (p := 59) rfl ?_
    refine s50 (v := ld I 59 14) sh59 (by decide) (by decide) (oI_ld _ _ _) ?_
    refine sI rc3 rfl (Nat.le_of_ble_eq_true rfl) ?_
    refine k3 g1 (ld_inR _ _ _) (ld_inR _ _ _) (fun c3 => ?_) (fun c3 => ?_)
    · replace hE := hE.1 c3
      refine s67 (inRd rfl) (fun c4 => absurd c4 (by decide)) (fun _ => ?_)
      refine s6 (p := 59) rfl ?_
      refine s51 sh59 (by decide) (by decide) rf59_5 ?_
      refine s4 (x := x2) rfl ?_
      refine s6 (p := 59) rfl ?_
      refine s50 (v := ld I 59 13) sh59 (by decide) (by decide) (oI_ld _ _ _) ?_
      refine s17 ?_
      obtain ⟨g5, hE⟩ := hE
      refine s40 (v := ld I 62 (x2 - (ld I 59 13)).toNat) sh62 g5 rfl (oI_ld _ _ _) ?_
      refine s60 ?_
      refine xG gb140.2.2 ?_
      refine s80 ?_
      refine rqI_of ?_
      refine s7 (ls' := [.ref 59, .int (oI x2), .int (oI (ld I 62 (x2 - (ld I 59 13)).toNat))]) (Nat.le_of_ble_eq_true rfl) rfl ?_
      refine s4 (x := ld I 62 (x2 - (ld I 59 13)).toNat) rfl ?_
      refine s0 ?_
      refine s61 (ld_inR _ _ _) (inRd rfl) (fun c6 => ?_) (fun c6 => ?_)
      · replace hE := hE.1 c6
        refine xG gb150.2.1 ?_
        refine s0 ?_
        refine s79 ?_
        refine xG gb150.2.2 ?_
        refine s84 (by decide) ?_
        refine rqI_of ?_
        refine s67 (inRd rfl) (fun _ => ?_) (fun c7 => absurd (by decide) c7)
        refine xG gb159.2.2.1 ?_
        refine s10 (x := x2) (ls' := [.ref 59, .int (oI x1), .int (oI (x2 + 1)), w3]) rfl rfl ?_
        refine s60 ?_
        exact hE
      · replace hE := hE.2 c6
        refine s6 (p := 59) rfl ?_
        refine s4 (x := ld I 62 (x2 - (ld I 59 13)).toNat) rfl ?_
        refine s4 (x := x2) rfl ?_
        refine sI rc151 rfl (Nat.le_of_ble_eq_true rfl) ?_
        refine cI_of (ls := [.ref 59, .int (oI (ld I 62 (x2 - (ld I 59 13)).toNat)), .int (oI x2)]) rfl ?_
        refine xG gb151.1 ?_
        refine s6 (p := 59) rfl ?_
        refine s51 sh59 (by decide) (by decide) rf59_11 ?_
        refine s4 (x := x2) rfl ?_
        refine s6 (p := 59) rfl ?_
        refine s50 (v := ld I 59 13) sh59 (by decide) (by decide) (oI_ld _ _ _) ?_
        refine s17 ?_
        refine s40 (v := ld I 68 (x2 - (ld I 59 13)).toNat) sh68 g5 rfl (oI_ld _ _ _) ?_
        refine s4 (x := ld I 62 (x2 - (ld I 59 13)).toNat) rfl ?_
        refine s23 ?_
        refine s0 ?_
        refine s25 ?_
        refine s67 (inR_toInt _) (fun c8 => ?_) (fun c8 => ?_)
        · replace hE := hE.1 c8
          refine xG gb151.2.1 ?_
          refine s0 ?_
          refine s79 ?_
          refine xG gb151.2.2 ?_
          refine s84 (by decide) ?_
          refine rqI_of ?_
          refine s68 (inRd rfl) (fun _ => ?_) (fun c9 => absurd (by decide) c9)
          refine s0 ?_
          refine s60 ?_
          refine xG gb150.2.2 ?_
          refine s84 (by decide) ?_
          refine rqI_of ?_
          refine s67 (inRd rfl) (fun c10 => absurd c10 (by decide)) (fun _ => ?_)
          refine s4 (x := x2) rfl ?_
          refine s0 ?_
          refine s19 g1 ⟨(inRd rfl), by decide⟩ ?_
          refine s7 (ls' := [.ref 59, .int (oI x1), .int (oI x2), .int (oI (Int.tdiv x2 100))]) (Nat.le_of_ble_eq_true rfl) rfl ?_
          refine s4 (x := x1) rfl ?_
          refine s0 ?_
          refine s6 (p := 59) rfl ?_
          refine s4 (x := x2) rfl ?_
          refine s0 ?_
          refine s4 (x := Int.tdiv x2 100) rfl ?_
          obtain ⟨g11, hE⟩ := hE
          obtain ⟨g12, hE⟩ := hE
          obtain ⟨g13, hE⟩ := hE
          obtain ⟨g14, hE⟩ := hE
          obtain ⟨c15, f16, t17, n18, k19, k20, k21, hE⟩ := hE
          refine sI rc149 rfl (Nat.le_of_ble_eq_true rfl) ?_
          refine k149 hC g11 g12 g13 k19 k20 k21 (⟨by decide, by decide⟩ : (0 : Int) ≤ 0 ∧ (0 : Int) ≤ 1) g14 (fun I22 q23 => ?_)
          replace hE := hE I22 q23
          refine s17 ?_
          refine s6 (p := 59) rfl ?_
          refine s4 (x := x2) rfl ?_
          refine s0 ?_
          refine s4 (x := Int.tdiv x2 100) rfl ?_
          obtain ⟨c24, f25, t26, n27, k28, k29, k30, hE⟩ := hE
          refine sI rc149 rfl (Nat.le_of_ble_eq_true rfl) ?_
          refine k149 (RC.fr hC q23 rfl) g11 g12 g13 k28 k29 k30 (⟨by decide, by decide⟩ : (0 : Int) ≤ 1 ∧ (1 : Int) ≤ 1) g14 (fun I31 q32 => ?_)
          replace hE := hE I31 q32
          refine s17 ?_
          refine s16 ?_
          refine s7 (ls' := [.ref 59, .int (oI (x1 + ((4 - (qtS A c15 (Int.tdiv x2 100) (x2 - Int.tdiv x2 100 * 100) 0 (Int.tdiv x2 100) (ld I 69 (Int.tdiv x2 100).toNat) n18)) - (qtS A c24 (Int.tdiv x2 100) (x2 - Int.tdiv x2 100 * 100) 1 (Int.tdiv x2 100) (ld I22 69 (Int.tdiv x2 100).toNat) n27)))), .int (oI x2), .int (oI (Int.tdiv x2 100))]) (Nat.le_of_ble_eq_true rfl) rfl ?_
          refine s79 ?_
          refine xG gb159.2.2.1 ?_
          refine s10 (x := x2) (ls' := [.ref 59, .int (oI (x1 + ((4 - (qtS A c15 (Int.tdiv x2 100) (x2 - Int.tdiv x2 100 * 100) 0 (Int.tdiv x2 100) (ld I 69 (Int.tdiv x2 100).toNat) n18)) - (qtS A c24 (Int.tdiv x2 100) (x2 - Int.tdiv x2 100 * 100) 1 (Int.tdiv x2 100) (ld I22 69 (Int.tdiv x2 100).toNat) n27)))), .int (oI (x2 + 1)), .int (oI (Int.tdiv x2 100))]) rfl rfl ?_
          refine s60 ?_
          exact hE
        · replace hE := hE.2 c8
          refine s0 ?_
          refine s60 ?_
          refine xG gb151.2.2 ?_
          refine s84 (by decide) ?_
          refine rqI_of ?_
          refine s68 (inRd rfl) (fun c33 => absurd c33 (by decide)) (fun _ => ?_)
          refine xG gb150.2.1 ?_
          refine s0 ?_
          refine s79 ?_
          refine xG gb150.2.2 ?_
          refine s84 (by decide) ?_
          refine rqI_of ?_
          refine s67 (inRd rfl) (fun _ => ?_) (fun c34 => absurd (by decide) c34)
          refine xG gb159.2.2.1 ?_
          refine s10 (x := x2) (ls' := [.ref 59, .int (oI x1), .int (oI (x2 + 1)), w3]) rfl rfl ?_
          refine s60 ?_
          exact hE
    · replace hE := hE.2 c3
      refine s67 (inRd rfl) (fun _ => ?_) (fun c35 => absurd (by decide) c35)
      refine xG gb140.2.1 ?_
      refine s0 ?_
      refine s79 ?_
      refine xG gb140.2.2 ?_
      refine s80 ?_
      refine rqI_of ?_
      refine s7 (ls' := [.ref 59, .int (oI x2), .int (oI (-1))]) (Nat.le_of_ble_eq_true rfl) rfl ?_
      refine s4 (x := (-1)) rfl ?_
      refine s0 ?_
      refine s61 (inRd rfl) (inRd rfl) (fun _ => ?_) (fun c36 => absurd (by decide) c36)
      refine xG gb150.2.1 ?_
      refine s0 ?_
      refine s79 ?_
      refine xG gb150.2.2 ?_
      refine s84 (by decide) ?_
      refine rqI_of ?_
      refine s67 (inRd rfl) (fun _ => ?_) (fun c37 => absurd (by decide) c37)
      refine xG gb159.2.2.1 ?_
      refine s10 (x := x2) (ls' := [.ref 59, .int (oI x1), .int (oI (x2 + 1)), w3]) rfl rfl ?_
      refine s60 ?_
      exact hE
set_option maxRecDepth 4000 in
theorem e159 {d L : Nat} {I : Nat → Nat → Int32} {R : Nat → Nat → Option Nat} {S : List (Nat × Nat)} {K : Int32 → mM → Prop} {A : aS} (hC : RC R S I A)  (hE : h159_1 d L I R S (rqI K) 0 (ld I 59 13) mUn) : CallI d 159 [.ref 59] (bd L I R S) K := by
  refine cI_of (ls := [.ref 59, mUn, mUn, mUn]) rfl ?_
  refine xG gb159.1 ?_
  refine s0 ?_
  refine s7 (ls' := [.ref 59, .int (oI 0), mUn, mUn]) (Nat.le_of_ble_eq_true rfl) rfl ?_
  refine s6 (p := 59) rfl ?_
  refine s50 (v := ld I 59 13) sh59 (by decide) (by decide) (oI_ld _ _ _) ?_
  refine s7 (ls' := [.ref 59, .int (oI 0), .int (oI (ld I 59 13)), mUn]) (Nat.le_of_ble_eq_true rfl) rfl ?_
  refine s79 ?_
  exact hE
def h157_1 (d L : Nat) (I : Nat → Nat → Int32) (R : Nat → Nat → Option Nat) (S : List (Nat × Nat)) (Q : Option Value → mM → Prop) (x1 : Int) (x2 : Int) (x3 : Int) (x4 : Int) (x5 : Int) (w6 : Value) : Prop := Wp d (gb 157 1) [.ref 59, .int (oI x1), .int (oI x2), .int (oI x3), .int (oI x4), .int (oI x5), w6] [] (bd L I R S) Q
def h157_2 (d L : Nat) (I : Nat → Nat → Int32) (R : Nat → Nat → Option Nat) (S : List (Nat × Nat)) (Q : Option Value → mM → Prop) (x1 : Int) (x2 : Int) (x3 : Int) (x4 : Int) (x5 : Int) (x6 : Int) : Prop := Wp d (gb 157 2) [.ref 59, .int (oI x1), .int (oI x2), .int (oI x3), .int (oI x4), .int (oI x5), .int (oI x6)] [] (bd L I R S) Q
set_option maxRecDepth 4000 in
theorem e157_1 {d L : Nat} {I : Nat → Nat → Int32} {R : Nat → Nat → Option Nat} {S : List (Nat × Nat)} {Q : Option Value → mM → Prop} {A : aS} (hC : RC R S I A) {x1 : Int} {x2 : Int} {x3 : Int} {x4 : Int} {x5 : Int} {w6 : Value} (hE : inR (x5 * 100) ∧ (inR x2 ∧ (((x2 < x5 * 100) → Q (some (.int (oI x4))) (bd L I R S)) ∧ (¬ (x2 < x5 * 100) → inR (((x5 * 100) + 100) - 1) ∧ (WfA A ∧ (WnOk (x5 * 100) (min x2 (((x5 * 100) + 100) - 1)) x3 ∧ (∀ (I7 : mI), (Fr [68] [(59, 13), (59, 14), (59, 15)] I I7) → (WnP I7 (x5 * 100) (min x2 (((x5 * 100) + 100) - 1)) x3) → (ShP A I7 (x5 * 100) (min x2 (((x5 * 100) + 100) - 1)) x3) → WfP A ∧ (WfC A ∧ ((0 ≤ x1 ∧ x1 < A 91 1) ∧ ((0 ≤ x5 ∧ x5 ≤ 7) ∧ ((0 ≤ ld I7 59 15 ∧ ld I7 59 15 ≤ 799) ∧ (∀ (I16 : mI), (Fr [60, 61, 69] [] I7 I16) → (∀ j : Nat, (j : Int) ≤ x5 → ld I16 69 j = stS A x1 j (ld I7 59 15)) → ∃ f19 t20 n21 : Int, WnOk f19 t20 n21 ∧ WnP I16 f19 t20 n21 ∧ (∀ (I24 : mI), (Fr [62, 63, 64, 65, 66, 67] [(59, 16)] I16 I24) → (ld I24 59 16 = x1) → (LyP A I24 x1 f19 t20 n21) → h157_2 (d + 28) L I24 R S Q x1 x2 x3 x4 x5 (ld I24 59 13)))))))))))))) : h157_1 (d + 28) L I R S Q x1 x2 x3 x4 x5 w6 := by
  unfold h157_1
  refine xG gb157.2.1 ?_
  refine s4 (x := x5) rfl ?_
  refine s0 ?_
  refine s18 ?_
  refine s4 (x := x2) rfl ?_
  obtain ⟨g1, hE⟩ := hE
  obtain ⟨g2, hE⟩ := hE
  refine s65 g1 g2 (fun c3 => ?_) (fun c3 => ?_)
  · replace hE := hE.1 c3
    refine xG gb157.2.2.2.2 ?_
    refine s4 (x := x4) rfl ?_
    refine s80 ?_
    exact hE
  · replace hE := hE.2 c3
    refine s6 (p := 59) rfl ?_
    refine s4 (x := x5) rfl ?_
    refine s0 ?_
    refine s18 ?_
    refine s4 (x := x2) rfl ?_
    refine s4 (x := x5) rfl ?_
    refine s0 ?_
    refine s18 ?_
    refine s0 ?_
    refine s16 ?_
    refine s0 ?_
    refine s17 ?_
    obtain ⟨g4, hE⟩ := hE
    refine sI rc345 rfl (Nat.le_of_ble_eq_true rfl) ?_
    refine k345 g2 g4 ?_
    refine s4 (x := x3) rfl ?_
    obtain ⟨g5, hE⟩ := hE
    obtain ⟨g6, hE⟩ := hE
    refine sV rc134 rfl (Nat.le_of_ble_eq_true rfl) ?_
    refine k134 hC g5 g6 (fun I7 q8 q9 q10 => ?_)
    replace hE := hE I7 q8 q9 q10
    refine s6 (p := 59) rfl ?_
    refine s4 (x := x1) rfl ?_
    refine s4 (x := x5) rfl ?_
    obtain ⟨g11, hE⟩ := hE
    obtain ⟨g12, hE⟩ := hE
    obtain ⟨g13, hE⟩ := hE
    obtain ⟨g14, hE⟩ := hE
    obtain ⟨g15, hE⟩ := hE
    refine sI rc142 rfl (Nat.le_of_ble_eq_true rfl) ?_
    refine k142 (RC.fr hC q8 rfl) g5 g11 g12 g13 g14 g15 (fun I16 q17 q18 => ?_)
    replace hE := hE I16 q17 q18
    refine s12i ?_
    refine s6 (p := 59) rfl ?_
    refine s4 (x := x1) rfl ?_
    obtain ⟨f19, t20, n21, k22, k23, hE⟩ := hE
    refine sV rc136 rfl (Nat.le_of_ble_eq_true rfl) ?_
    refine k136 (RC.fr (RC.fr hC q8 rfl) q17 rfl) k22 k23 g5 g13 (fun I24 q25 q26 q27 => ?_)
    replace hE := hE I24 q25 q26 q27
    refine s6 (p := 59) rfl ?_
    refine s50 (v := ld I24 59 13) sh59 (by decide) (by decide) (oI_ld _ _ _) ?_
    refine s7 (ls' := [.ref 59, .int (oI x1), .int (oI x2), .int (oI x3), .int (oI x4), .int (oI x5), .int (oI (ld I24 59 13))]) (Nat.le_of_ble_eq_true rfl) rfl ?_
    refine s79 ?_
    exact hE
set_option maxRecDepth 4000 in
theorem e157_2 {d L : Nat} {I : Nat → Nat → Int32} {R : Nat → Nat → Option Nat} {S : List (Nat × Nat)} {Q : Option Value → mM → Prop} {A : aS} (hC : RC R S I A) {x1 : Int} {x2 : Int} {x3 : Int} {x4 : Int} {x5 : Int} {x6 : Int} (hE : inR x6 ∧ (((ld I 59 14 < x6) → h157_1 (d + 26) L I R S Q x1 x2 x3 x4 (x5 + 1) (.int (oI x6))) ∧ (¬ (ld I 59 14 < x6) → WfA A ∧ (WfC A ∧ (WfP A ∧ (∃ c6 f7 t8 : Int, RgP A I c6 f7 t8 (A 91 0) ∧ (0 ≤ c6 ∧ c6 < A 91 1) ∧ (f7 ≤ x6 ∧ x6 ≤ t8) ∧ (ld I 69 (Int.tdiv x6 100).toNat = stS A c6 (Int.tdiv x6 100) (A 91 0)) ∧ (∀ (I13 : mI), (Fr [60] [] I I13) → h157_2 (d + 26) L I13 R S Q x1 x2 x3 (x4 + (fwS A c6 x6)) x5 (x6 + 5)))))))) : h157_2 (d + 26) L I R S Q x1 x2 x3 x4 x5 x6 := by
  unfold h157_2
  refine xG gb157.2.2.1 ?_
  refine s4 (x := x6) rfl ?_
  refine s6 (p := 59) rfl ?_
  refine s50 (v := ld I 59 14) sh59 (by decide) (by decide) (oI_ld _ _ _) ?_
  obtain ⟨g1, hE⟩ := hE
  refine s65 g1 (ld_inR _ _ _) (fun c2 => ?_) (fun c2 => ?_)
  · replace hE := hE.1 c2
    refine xG gb157.2.2.2.1 ?_
    refine s10 (x := x5) (ls' := [.ref 59, .int (oI x1), .int (oI x2), .int (oI x3), .int (oI x4), .int (oI (x5 + 1)), .int (oI x6)]) rfl rfl ?_
    refine s60 ?_
    exact hE
  · replace hE := hE.2 c2
    refine s4 (x := x4) rfl ?_
    refine s6 (p := 59) rfl ?_
    refine s4 (x := x6) rfl ?_
    obtain ⟨g3, hE⟩ := hE
    obtain ⟨g4, hE⟩ := hE
    obtain ⟨g5, hE⟩ := hE
    obtain ⟨c6, f7, t8, k9, k10, k11, k12, hE⟩ := hE
    refine sI rc158 rfl (Nat.le_of_ble_eq_true rfl) ?_
    refine k158 hC g3 g4 g5 k9 k10 k11 k12 (fun I13 q14 => ?_)
    replace hE := hE I13 q14
    refine s16 ?_
    refine s7 (ls' := [.ref 59, .int (oI x1), .int (oI x2), .int (oI x3), .int (oI (x4 + (fwS A c6 x6))), .int (oI x5), .int (oI x6)]) (Nat.le_of_ble_eq_true rfl) rfl ?_
    refine s10 (x := x6) (ls' := [.ref 59, .int (oI x1), .int (oI x2), .int (oI x3), .int (oI (x4 + (fwS A c6 x6))), .int (oI x5), .int (oI (x6 + 5))]) rfl rfl ?_
    refine s60 ?_
    exact hE
set_option maxRecDepth 4000 in
theorem e157 {d L : Nat} {I : Nat → Nat → Int32} {R : Nat → Nat → Option Nat} {S : List (Nat × Nat)} {K : Int32 → mM → Prop} {A : aS} (hC : RC R S I A) {x1 : Int} {x2 : Int} {x3 : Int} (hE : h157_1 d L I R S (rqI K) x1 x2 x3 0 0 mUn) : CallI d 157 [.ref 59, .int (oI x1), .int (oI x2), .int (oI x3)] (bd L I R S) K := by
  refine cI_of (ls := [.ref 59, .int (oI x1), .int (oI x2), .int (oI x3), mUn, mUn, mUn]) rfl ?_
  refine xG gb157.1 ?_
  refine s0 ?_
  refine s7 (ls' := [.ref 59, .int (oI x1), .int (oI x2), .int (oI x3), .int (oI 0), mUn, mUn]) (Nat.le_of_ble_eq_true rfl) rfl ?_
  refine s0 ?_
  refine s7 (ls' := [.ref 59, .int (oI x1), .int (oI x2), .int (oI x3), .int (oI 0), .int (oI 0), mUn]) (Nat.le_of_ble_eq_true rfl) rfl ?_
  refine s79 ?_
  exact hE
