section
variable {d L : Nat} {I I0 : mI} {R : mR} {S : mSh} {Q : Option Value → mM → Prop} {A : aS} {c day known kind half year subj code : Int}
theorem td_of {y : Int} {k : Nat} (hy : 0 ≤ y) (hk : k < 100) : Int.tdiv (100 * y + k) 100 = y := by
  rw [Int.tdiv_eq_ediv_of_nonneg (by omega)]; omega
theorem l154 {y kn st : Int} (hW : WfA A) (hWC : WfC A) (hP : WfP A) (hc : 0 ≤ c ∧ c < A 91 1) (hy : 0 ≤ y ∧ y ≤ 7) (hcd : 0 ≤ code ∧ code ≤ 7) (hK : ∀ I1, Fr [60] [] I0 I1 → Q (some (.int (oI (yrS A c y code st kn)))) (bd L I1 R S)) : ∀ (n k : Nat) (I : mI), k + n = 100 → Fr [60] [] I0 I → RC R S I A → RgP A I c (100 * y) (100 * y + 99) kn → ld I 69 y.toNat = st → h154_1 (d + 26) L I R S Q code (yrL A c y code st kn k) (100 * y + k) := by
  intro n
  induction n with
  | zero =>
    intro k I hk hf hC hr hst
    refine e154_1 (d := d) hC ?_
    rw [hr.2.1.2.1]
    refine ⟨by unfold inR; omega, fun _ => ?_, fun q => by exfalso; omega⟩
    rw [show k = 100 by omega]; exact hK I hf
  | succ n ih =>
    intro k I hk hf hC hr hst
    have e : yrL A c y code st kn (k + 1) = yrL A c y code st kn k + (qtS A c y k 0 code st kn + qtS A c y k 1 code st kn) := by
      show _ + _ = _
      first | rfl | omega
    refine e154_1 (d := d) hC ?_
    rw [hr.2.1.2.1, td_of hy.1 (by omega), show 100 * y + (k : Int) - y * 100 = k by omega, hst]
    refine ⟨by unfold inR; omega, fun q => by exfalso; omega, fun _ => ⟨hW, hWC, hP, hcd, c, _, _, kn, hr, hc, by omega, fun I1 f1 => ⟨c, _, _, kn, hr.f60 f1, hc, by omega, fun I2 f2 => ?_⟩⟩⟩
    have hs1 : ld I1 69 y.toNat = st := by rw [f1.ld rfl]; exact hst
    have := ih (k + 1) I2 (by omega) (hf.trans (f1.trans f2)) ((hC.fr f1 rfl).fr f2 rfl) ((hr.f60 f1).f60 f2) (by rw [f2.ld rfl]; exact hs1)
    rw [e, show 100 * y + ((k + 1 : Nat) : Int) = 100 * y + k + 1 by omega] at this
    rw [hs1]
    exact this
theorem k154 {y kn st : Int} {K : Int32 → mM → Prop} (hC : RC R S I A) (hW : WfA A) (hWC : WfC A) (hP : WfP A) (hr : RgP A I c (100 * y) (100 * y + 99) kn) (hc : 0 ≤ c ∧ c < A 91 1) (hy : 0 ≤ y ∧ y ≤ 7) (hst : ld I 69 y.toNat = st) (hcd : 0 ≤ code ∧ code ≤ 7) (hK : ∀ I1, Fr [60] [] I I1 → K (oI (yrS A c y code st kn)) (bd L I1 R S)) : CallI (d + 26) 154 [.ref 59, .int (oI code)] (bd L I R S) K := by
  refine e154 (d := d + 26) hC ?_
  rw [hr.2.1.1]
  have := l154 (d := d) (L := L) (R := R) (S := S) (Q := rqI K) (I0 := I) (kn := kn) (st := st) hW hWC hP hc hy hcd (fun I1 f1 => rqI_of (hK I1 f1)) 100 0 I rfl (Fr.refl _ _ _) hC hr hst
  rw [show 100 * y + ((0 : Nat) : Int) = 100 * y by omega] at this
  exact this
theorem l156 {y kn st s : Int} (hW : WfA A) (hWC : WfC A) (hP : WfP A) (hc : 0 ≤ c ∧ c < A 91 1) (hy : 0 ≤ y ∧ y ≤ 7) (hcd : 0 ≤ code ∧ code ≤ 7) (hs : inR s) (hK : ∀ I1, Fr [60] [] I0 I1 → Q (some (.int (oI (saL A s c y code st kn 100)))) (bd L I1 R S)) : ∀ (n k : Nat) (I : mI), k + n = 100 → Fr [60] [] I0 I → RC R S I A → RgP A I c (100 * y) (100 * y + 99) kn → ld I 69 y.toNat = st → h156_1 (d + 26) L I R S Q s code (saL A s c y code st kn k) (100 * y + k) := by
  intro n
  induction n with
  | zero =>
    intro k I hk hf hC hr hst
    refine e156_1 (d := d) hC ?_
    rw [hr.2.1.2.1]
    refine ⟨by unfold inR; omega, fun _ => ?_, fun q => by exfalso; omega⟩
    rw [show k = 100 by omega]; exact hK I hf
  | succ n ih =>
    intro k I hk hf hC hr hst
    have e : saL A s c y code st kn (k + 1) = saL A s c y code st kn k + (if onS A c (100 * y + k) kn = s then qtS A c y k 0 code st kn + qtS A c y k 1 code st kn else 0) := rfl
    have l1 := (hr.2.2.2.1 k (by omega)).1
    refine e156_1 (d := d) hC ?_
    rw [hr.2.1.1, hr.2.1.2.1, td_of hy.1 (by omega), show 100 * y + (k : Int) - y * 100 = k by omega, show (100 * y + (k : Int) - 100 * y).toNat = k by omega, hst, l1]
    refine ⟨by unfold inR; omega, fun q => by exfalso; omega, fun _ => ⟨fun _ => ⟨by omega, hs, fun q => ⟨hW, hWC, hP, hcd, c, _, _, kn, hr, hc, by omega, fun I1 f1 => ⟨c, _, _, kn, hr.f60 f1, hc, by omega, fun I2 f2 => ?_⟩⟩, fun q => ?_⟩, fun q => by exfalso; omega⟩⟩
    · have hs1 : ld I1 69 y.toNat = st := by rw [f1.ld rfl]; exact hst
      have := ih (k + 1) I2 (by omega) (hf.trans (f1.trans f2)) ((hC.fr f1 rfl).fr f2 rfl) ((hr.f60 f1).f60 f2) (by rw [f2.ld rfl]; exact hs1)
      rw [e, if_pos q, show 100 * y + ((k + 1 : Nat) : Int) = 100 * y + k + 1 by omega] at this
      rw [hs1]
      exact this
    · have := ih (k + 1) I (by omega) hf hC hr hst
      rw [e, if_neg q, Int.add_zero, show 100 * y + ((k + 1 : Nat) : Int) = 100 * y + k + 1 by omega] at this
      exact this
theorem k156 {y kn st s : Int} {K : Int32 → mM → Prop} (hC : RC R S I A) (hW : WfA A) (hWC : WfC A) (hP : WfP A) (hr : RgP A I c (100 * y) (100 * y + 99) kn) (hc : 0 ≤ c ∧ c < A 91 1) (hy : 0 ≤ y ∧ y ≤ 7) (hst : ld I 69 y.toNat = st) (hcd : 0 ≤ code ∧ code ≤ 7) (hs : inR s) (hK : ∀ I1, Fr [60] [] I I1 → K (oI (saL A s c y code st kn 100)) (bd L I1 R S)) : CallI (d + 26) 156 [.ref 59, .int (oI s), .int (oI code)] (bd L I R S) K := by
  refine e156 (d := d + 26) hC ?_
  rw [hr.2.1.1]
  have := l156 (d := d) (L := L) (R := R) (S := S) (Q := rqI K) (I0 := I) (kn := kn) (st := st) (s := s) hW hWC hP hc hy hcd hs (fun I1 f1 => rqI_of (hK I1 f1)) 100 0 I rfl (Fr.refl _ _ _) hC hr hst
  rw [show 100 * y + ((0 : Nat) : Int) = 100 * y by omega] at this
  exact this
theorem l159 {f t : Int} (hW : WfA A) (hWC : WfC A) (hP : WfP A) (hc : 0 ≤ c ∧ c < A 91 1) (hft : 0 ≤ f ∧ f ≤ t ∧ t ≤ 799) (hK : ∀ I1, Fr [60] [] I0 I1 → Q (some (.int (oI (lkK A c f (t - f + 1).toNat)))) (bd L I1 R S)) : ∀ (n k : Nat) (I : mI) (w3 : Value), (k : Int) + n = t - f + 1 → Fr [60] [] I0 I → RC R S I A → RgP A I c f t (A 91 0) → (∀ j : Nat, (j : Int) ≤ Int.tdiv t 100 → ld I 69 j = stS A c j (A 91 0)) → h159_1 (d + 26) L I R S Q (lkK A c f k) (f + k) w3 := by
  intro n
  induction n with
  | zero =>
    intro k I w3 hk hf hC hr hst
    refine e159_1 (d := d) hC ?_
    rw [hr.2.1.2.1]
    refine ⟨by unfold inR; omega, fun _ => ?_, fun q => by exfalso; omega⟩
    have := hK I hf
    rw [show (t - f + 1).toNat = k by omega] at this
    exact this
  | succ n ih =>
    intro k I w3 hk hf hC hr hst
    have e : lkK A c f (k + 1) = lkK A c f k + lkD A c (f + k) := rfl
    have hw := hr.1
    unfold WnOk at hw
    have l1 := (hr.2.2.2.1 k (by omega)).1
    have sh := hr.2.2.1 k (by omega)
    have on := onS_in hW (c := c) (day := f + k) (known := A 91 0)
    have td := td100 (day := f + k) (by omega)
    have tt : Int.tdiv (f + k) 100 ≤ Int.tdiv t 100 := by
      rw [Int.tdiv_eq_ediv_of_nonneg (by omega), Int.tdiv_eq_ediv_of_nonneg (by omega)]; omega
    have hs0 : ld I 69 (Int.tdiv (f + k) 100).toNat = stS A c (Int.tdiv (f + k) 100) (A 91 0) := by
      rw [hst _ (by omega), show (((Int.tdiv (f + k) 100).toNat : Nat) : Int) = Int.tdiv (f + k) 100 by omega]
    refine e159_1 (d := d) hC ?_
    rw [hr.2.1.1, hr.2.1.2.1, show (f + (k : Int) - f).toNat = k by omega, l1, hs0]
    have hon : ¬ onS A c (f + k) (A 91 0) = -1 → (!(iAnd (iShr (ld I 68 k) (onS A c (f + k) (A 91 0))) 1 == 0)) = spS A 1 (onS A c (f + k) (A 91 0)) (f + k) (A 91 0) := fun q => by
      have := sh (onS A c (f + k) (A 91 0)).toNat (by omega)
      rw [show (((onS A c (f + k) (A 91 0)).toNat : Nat) : Int) = onS A c (f + k) (A 91 0) by omega] at this
      exact this
    have go : ∀ (w : Value), lkD A c (f + k) = 0 → h159_1 (d + 26) L I R S Q (lkK A c f k) (f + k + 1) w := fun w h0 => by
      have := ih (k + 1) I w (by omega) hf hC hr hst
      rw [e, h0, Int.add_zero, show f + ((k + 1 : Nat) : Int) = f + k + 1 by omega] at this
      exact this
    refine ⟨by unfold inR; omega, fun q => by exfalso; omega, fun _ => ⟨fun _ => ⟨by omega, fun q => go _ ?_, fun q => ⟨fun q2 => ⟨hW, hWC, hP, td.1, c, _, _, _, hr, hc, by omega, fun I1 f1 => ⟨c, _, _, _, hr.f60 f1, hc, by omega, fun I2 f2 => ?_⟩⟩, fun q2 => go _ ?_⟩⟩, fun q => by exfalso; omega⟩⟩
    · unfold lkD; rw [if_pos (Or.inl q)]
    · have hon := hon q
      rw [q2] at hon
      have hsp : ¬ (onS A c (f + k) (A 91 0) = -1 ∨ spS A 1 (onS A c (f + k) (A 91 0)) (f + k) (A 91 0) = true) := by
        rintro (x | x)
        · exact q x
        · rw [x] at hon; exact absurd hon (by decide)
      have this := ih (k + 1) I2 (.int (oI (Int.tdiv (f + k) 100))) (by omega) (hf.trans (f1.trans f2)) ((hC.fr f1 rfl).fr f2 rfl) ((hr.f60 f1).f60 f2) (fun j hj => by rw [f2.ld rfl, f1.ld rfl]; exact hst j hj)
      have el : lkD A c (f + k) = 4 - qtS A c (Int.tdiv (f + k) 100) (f + k - Int.tdiv (f + k) 100 * 100) 0 (Int.tdiv (f + k) 100) (stS A c (Int.tdiv (f + k) 100) (A 91 0)) (A 91 0) - qtS A c (Int.tdiv (f + k) 100) (f + k - Int.tdiv (f + k) 100 * 100) 1 (Int.tdiv (f + k) 100) (stS A c (Int.tdiv (f + k) 100) (A 91 0)) (A 91 0) := by unfold lkD; rw [if_neg hsp]
      rw [e, el, show f + ((k + 1 : Nat) : Int) = f + k + 1 by omega] at this
      rw [show ld I1 69 (Int.tdiv (f + k) 100).toNat = stS A c (Int.tdiv (f + k) 100) (A 91 0) by rw [f1.ld rfl]; exact hs0]
      exact this
    · have hon := hon q
      have hsp : spS A 1 (onS A c (f + k) (A 91 0)) (f + k) (A 91 0) = true := by
        rw [← hon, Bool.not_eq_true']
        exact beq_eq_false_iff_ne.mpr q2
      unfold lkD; rw [if_pos (Or.inr hsp)]
theorem k159 {f t : Int} {K : Int32 → mM → Prop} (hC : RC R S I A) (hW : WfA A) (hWC : WfC A) (hP : WfP A) (hr : RgP A I c f t (A 91 0)) (hc : 0 ≤ c ∧ c < A 91 1) (hst : ∀ j : Nat, (j : Int) ≤ Int.tdiv t 100 → ld I 69 j = stS A c j (A 91 0)) (hK : ∀ I1, Fr [60] [] I I1 → K (oI (lkK A c f (t - f + 1).toNat)) (bd L I1 R S)) : CallI (d + 26) 159 [.ref 59] (bd L I R S) K := by
  have hw := hr.1
  unfold WnOk at hw
  refine e159 (d := d + 26) hC ?_
  rw [hr.2.1.1]
  have := l159 (d := d) (L := L) (R := R) (S := S) (Q := rqI K) (I0 := I) (f := f) (t := t) hW hWC hP hc (by omega) (fun I1 f1 => rqI_of (hK I1 f1)) (t - f + 1).toNat 0 I mUn (by omega) (Fr.refl _ _ _) hC hr hst
  rw [show f + ((0 : Nat) : Int) = f by omega] at this
  exact this
theorem l157_2 {y : Nat} {D : Int} (hW : WfA A) (hWC : WfC A) (hP : WfP A) (hc : 0 ≤ c ∧ c < A 91 1) (hy : (100 * y : Nat) ≤ D) (hD : D ≤ 799) (hK : ∀ I1 w, Fr [60] [] I0 I1 → RC R S I1 A → h157_1 (d + 28) L I1 R S Q c D (A 91 0) (fesL A c (min (20 * (y + 1)) (D.toNat / 5 + 1))) (y + 1 : Nat) w) : ∀ (n w : Nat) (I : mI), w + n = min (20 * (y + 1)) (D.toNat / 5 + 1) → 20 * y ≤ w → Fr [60] [] I0 I → RC R S I A → RgP A I c (100 * y : Nat) (min D (100 * y + 99 : Nat)) (A 91 0) → ld I 69 y = stS A c y (A 91 0) → h157_2 (d + 28) L I R S Q c D (A 91 0) (fesL A c w) y (5 * w : Nat) := by
  intro n
  induction n with
  | zero =>
    intro w I hw hw2 hf hC hr hst
    refine e157_2 (d := d + 2) hC ?_
    rw [hr.2.1.2.1]
    refine ⟨by unfold inR; omega, fun _ => ?_, fun q => by exfalso; omega⟩
    have := hK I (.int (oI ((5 * w : Nat) : Int))) hf hC
    rw [show w = min (20 * (y + 1)) (D.toNat / 5 + 1) by omega]
    rw [show w = min (20 * (y + 1)) (D.toNat / 5 + 1) by omega] at this
    rw [show ((y : Int) + 1) = ((y + 1 : Nat) : Int) by omega]
    exact this
  | succ n ih =>
    intro w I hw hw2 hf hC hr hst
    have e : fesL A c (w + 1) = fesL A c w + fwS A c (5 * w : Nat) := rfl
    have et : Int.tdiv ((5 * w : Nat) : Int) 100 = y := by
      rw [Int.tdiv_eq_ediv_of_nonneg (by omega)]; omega
    refine e157_2 (d := d + 2) hC ?_
    rw [hr.2.1.2.1]
    refine ⟨by unfold inR; omega, fun q => by exfalso; omega, fun _ => ⟨hW, hWC, hP, c, _, _, hr, hc, by omega, ?_, fun I1 f1 => ?_⟩⟩
    · rw [et, Int.toNat_natCast]; exact hst
    · have := ih (w + 1) I1 (by omega) (by omega) (hf.trans f1) (hC.fr f1 rfl) (hr.f60 f1) (by rw [f1.ld rfl]; exact hst)
      rw [e, show ((5 * (w + 1) : Nat) : Int) = ((5 * w : Nat) : Int) + 5 by omega] at this
      exact this
theorem l157_1 {D : Int} (hW : WfA A) (hWC : WfC A) (hP : WfP A) (hc : 0 ≤ c ∧ c < A 91 1) (hD : 0 ≤ D ∧ D ≤ 799) (hK : ∀ I1, Fr [60, 61, 62, 63, 64, 65, 66, 67, 68, 69] [(59, 13), (59, 14), (59, 15), (59, 16)] I0 I1 → Q (some (.int (oI (fesS A c D)))) (bd L I1 R S)) : ∀ (n y : Nat) (I : mI) (w6 : Value), y + n = 9 → Fr [60, 61, 62, 63, 64, 65, 66, 67, 68, 69] [(59, 13), (59, 14), (59, 15), (59, 16)] I0 I → RC R S I A → h157_1 (d + 28) L I R S Q c D (A 91 0) (fesL A c (min (20 * y) (D.toNat / 5 + 1))) y w6 := by
  have h00 := hW.1
  intro n
  induction n with
  | zero =>
    intro y I w6 hy hf hC
    refine e157_1 (d := d) hC ⟨by unfold inR; omega, by unfold inR; omega, fun _ => ?_, fun q => by exfalso; omega⟩
    have := hK I hf
    unfold fesS at this
    rw [show min (20 * y) (D.toNat / 5 + 1) = D.toNat / 5 + 1 by omega]
    exact this
  | succ n ih =>
    intro y I w6 hy hf hC
    refine e157_1 (d := d) hC ⟨by unfold inR; omega, by unfold inR; omega, fun q => ?_, fun q => ⟨by unfold inR; omega, hW, by unfold WnOk; omega, fun I1 f1 w1 s1 => ?_⟩⟩
    · have := hK I hf
      unfold fesS at this
      rw [show min (20 * y) (D.toNat / 5 + 1) = D.toNat / 5 + 1 by omega]
      exact this
    · rw [w1.2.2]
      refine ⟨hP, hWC, hc, by omega, by omega, fun I2 f2 st2 => ⟨_, _, _, ?_, w1.fr f2 rfl rfl rfl, fun I3 f3 c3 l3 => ?_⟩⟩
      · unfold WnOk; omega
      · have w3 : WnP I3 ((y : Int) * 100) (min D ((y : Int) * 100 + 100 - 1)) (A 91 0) := (w1.fr f2 rfl rfl rfl).fr f3 rfl rfl rfl
        have s3 : ShP A I3 ((y : Int) * 100) (min D ((y : Int) * 100 + 100 - 1)) (A 91 0) := (s1.fr f2 (fun _ => rfl)).fr f3 (fun _ => rfl)
        rw [w3.1]
        rw [show ((y : Int) * 100 + 100 - 1) = ((100 * y + 99 : Nat) : Int) by omega, show (y : Int) * 100 = ((100 * y : Nat) : Int) by omega] at w3 s3 l3
        have fr3 : Fr [60, 61, 62, 63, 64, 65, 66, 67, 68, 69] [(59, 13), (59, 14), (59, 15), (59, 16)] I0 I3 := hf.trans ((f1.sub rfl rfl).trans ((f2.sub rfl rfl).trans (f3.sub rfl rfl)))
        have := l157_2 (d := d) (L := L) (R := R) (S := S) (Q := Q) (I0 := I3) (y := y) (D := D) hW hWC hP hc (by omega) hD.2 (fun I4 w f4 hC4 => ih (y + 1) I4 w (by omega) (fr3.trans (f4.sub rfl rfl)) hC4) (min (20 * (y + 1)) (D.toNat / 5 + 1) - 20 * y) (20 * y) I3 (by omega) (Nat.le_refl _) (Fr.refl _ _ _) (((hC.fr f1 rfl).fr f2 rfl).fr f3 rfl) ⟨by unfold WnOk; omega, w3, s3, l3, c3⟩ (by rw [f3.ld rfl]; exact st2 y (Int.le_refl _))
        rw [show ((5 * (20 * y) : Nat) : Int) = (y : Int) * 100 by omega] at this
        rw [show min (20 * y) (D.toNat / 5 + 1) = 20 * y by omega]
        exact this
theorem k157 {K : Int32 → mM → Prop} (hC : RC R S I A) (hW : WfA A) (hWC : WfC A) (hP : WfP A) (hc : 0 ≤ c ∧ c < A 91 1) (hD : 0 ≤ day ∧ day ≤ 799) (hK : ∀ I1, Fr [60, 61, 62, 63, 64, 65, 66, 67, 68, 69] [(59, 13), (59, 14), (59, 15), (59, 16)] I I1 → K (oI (fesS A c day)) (bd L I1 R S)) : CallI (d + 28) 157 [.ref 59, .int (oI c), .int (oI day), .int (oI (A 91 0))] (bd L I R S) K := by
  refine e157 (d := d + 28) hC ?_
  have := l157_1 (d := d) (L := L) (R := R) (S := S) (Q := rqI K) (I0 := I) (D := day) hW hWC hP hc hD (fun I1 f1 => rqI_of (hK I1 f1)) 9 0 I mUn rfl (Fr.refl _ _ _) hC
  rw [show min (20 * 0) (day.toNat / 5 + 1) = 0 by omega] at this
  exact this
end
