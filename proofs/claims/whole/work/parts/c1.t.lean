section
variable {d L : Nat} {I I0 : mI} {R : mR} {S : mSh} {Q : Option Value → mM → Prop} {A : aS} {c day known kind half year subj code : Int}
def faL (A : aS) (w : Int) (lv : Nat) : Nat → Nat
  | 0 => lv
  | k + 1 => faL A w lv k &&& (1023 ^^^ snL A (A 98 k) (A 99 k) w 10)
theorem faL_lt {w : Int} {lv : Nat} (h : lv < 1024) : ∀ k, faL A w lv k < 1024
  | 0 => h
  | k + 1 => Nat.lt_of_le_of_lt Nat.and_le_left (faL_lt h k)
theorem b1023 {i : Nat} (h : i < 10) : (1023 : Nat).testBit i = true := (by decide : ∀ j : Fin 10, (1023 : Nat).testBit j.val = true) ⟨i, h⟩
theorem ds_comm {x y a b : Int} : dsS x y a b = dsS a b x y := by unfold dsS ab; omega
theorem faL_bit {w : Int} {lv i : Nat} (hi : i < 10) : ∀ k, (faL A w lv k).testBit i = (lv.testBit i && !nsB A w (A 101 i) (A 102 i) k)
  | 0 => by show lv.testBit i = _; rw [show nsB A w (A 101 i) (A 102 i) 0 = false from rfl]; simp
  | k + 1 => by
    have ih := faL_bit (w := w) (lv := lv) hi k
    show (faL A w lv k &&& (1023 ^^^ snL A (A 98 k) (A 99 k) w 10)).testBit i = _
    have e : nsB A w (A 101 i) (A 102 i) (k + 1) = (nsB A w (A 101 i) (A 102 i) k || decide (dsS (A 101 i) (A 102 i) (A 98 k) (A 99 k) ≤ w)) := rfl
    rw [Nat.testBit_and, Nat.testBit_xor, ih, b1023 hi, snL_bit, decide_eq_true hi, Bool.true_and, e]
    cases lv.testBit i <;> cases nsB A w (A 101 i) (A 102 i) k <;> cases decide (dsS (A 101 i) (A 102 i) (A 98 k) (A 99 k) ≤ w) <;> rfl
def rcS (A : aS) (w : Int) (j : Nat) : Nat := snL A (A 131 j) (A 132 j) w 10
theorem rbL_bit {w set : Int} {i : Nat} (hi : i < 10) (hs : 0 ≤ set ∧ set < 1024) {b0 : Bool} : ∀ j, j ≤ 10 → ntB A set w (A 101 i) (A 102 i) b0 j = (b0 || (rbL (rcS A w) set j).testBit i)
  | 0, _ => by show b0 = (b0 || (0 : Nat).testBit i); rw [Nat.zero_testBit, Bool.or_false]
  | j + 1, hj => by
    have ih := rbL_bit (w := w) (b0 := b0) hi hs j (by omega)
    have e1 : ntB A set w (A 101 i) (A 102 i) b0 (j + 1) = (ntB A set w (A 101 i) (A 102 i) b0 j || (decide (iAnd (iShr set j) 1 = 1) && decide (dsS (A 101 i) (A 102 i) (A 131 j) (A 132 j) ≤ w))) := rfl
    have e2 : rbL (rcS A w) set (j + 1) = if iAnd (iShr set j) 1 = 0 then rbL (rcS A w) set j else rbL (rcS A w) set j ||| rcS A w j := rfl
    have e3 := iShr_nat (m := set.toNat) (k := j) (by omega) (by omega)
    rw [show ((set.toNat : Nat) : Int) = set by omega] at e3
    have e4 := iAnd_1 (m := set.toNat / 2 ^ j) (Nat.lt_of_le_of_lt (Nat.div_le_self _ _) (by omega))
    rw [← e3] at e4
    rw [e1, e2, ih]
    rcases Nat.mod_two_eq_zero_or_one (set.toNat / 2 ^ j) with h | h
    · rw [h] at e4
      replace e4 : iAnd (iShr set j) 1 = 0 := e4
      rw [if_pos e4, decide_eq_false (by rw [e4]; decide), Bool.false_and, Bool.or_false]
    · rw [h] at e4
      replace e4 : iAnd (iShr set j) 1 = 1 := e4
      rw [if_neg (by rw [e4]; decide), decide_eq_true e4, Bool.true_and, Nat.testBit_or, show (rcS A w j).testBit i = _ from snL_bit 10, decide_eq_true hi, Bool.true_and, Bool.or_assoc]
theorem reL_iff {w set : Int} (n : Nat) : reL A set w n = true ↔ ∀ c : Nat, c < n → chB A set w c = true := by
  induction n with
  | zero => exact ⟨fun _ c h => by omega, fun _ => rfl⟩
  | succ n ih =>
    show (reL A set w n && chB A set w n) = true ↔ _
    rw [Bool.and_eq_true, ih]
    constructor
    · rintro ⟨h1, h2⟩ c hc
      by_cases e : c = n
      · rw [e]; exact h2
      · exact h1 c (by omega)
    · intro h
      exact ⟨fun c hc => h c (by omega), h n (by omega)⟩
/-- which streets children live at -/
def LvP (A : aS) (lv n : Nat) : Prop := lv < 1024 ∧ ∀ i : Nat, i < 10 → (lv.testBit i = true ↔ ∃ c : Nat, c < n ∧ A 93 c = i)
theorem re_iff {w set : Int} {lv : Nat} (hW : WfA A) (hP : WfP A) (hX : WfX A) (hs : 0 ≤ set ∧ set < 1024) (hl : LvP A lv (A 91 1).toNat) : faL A w lv (A 91 2).toNat &&& (1023 ^^^ rbL (rcS A w) set (A 91 54).toNat) = 0 ↔ reB A set w = true := by
  have h10 := hX.1
  have key : ∀ i : Nat, i < 10 → (faL A w lv (A 91 2).toNat &&& (1023 ^^^ rbL (rcS A w) set (A 91 54).toNat)).testBit i = (lv.testBit i && !ntB A set w (A 101 i) (A 102 i) (nsB A w (A 101 i) (A 102 i) (A 91 2).toNat) (A 91 54).toNat) := by
    intro i hi
    rw [Nat.testBit_and, Nat.testBit_xor, faL_bit hi, b1023 hi, rbL_bit hi hs _ (by omega)]
    cases lv.testBit i <;> cases nsB A w (A 101 i) (A 102 i) (A 91 2).toNat <;> cases (rbL (rcS A w) set (A 91 54).toNat).testBit i <;> rfl
  unfold reB
  rw [reL_iff]
  constructor
  · intro h0 c hc
    have w1 := (hP c hc).2.1
    have hb := (hl.2 (A 93 c).toNat (by omega)).mpr ⟨c, hc, by omega⟩
    have := key (A 93 c).toNat (by omega)
    rw [h0, Nat.zero_testBit, hb, Bool.true_and] at this
    unfold chB
    cases hx : ntB A set w (A 101 (A 93 c).toNat) (A 102 (A 93 c).toNat) (nsB A w (A 101 (A 93 c).toNat) (A 102 (A 93 c).toNat) (A 91 2).toNat) (A 91 54).toNat with
    | true => rfl
    | false => rw [hx] at this; cases this
  · intro h
    apply Nat.eq_of_testBit_eq
    intro i
    rw [Nat.zero_testBit]
    by_cases hi : i < 10
    · rw [key i hi]
      cases hb : lv.testBit i with
      | false => rfl
      | true =>
        obtain ⟨c, hc, hc2⟩ := (hl.2 i hi).mp hb
        have := h c hc
        unfold chB at this
        rw [show (A 93 c).toNat = i by omega] at this
        rw [this]; rfl
    · exact Nat.testBit_lt_two_pow (Nat.lt_of_lt_of_le (Nat.lt_of_le_of_lt Nat.and_le_left (faL_lt hl.1 _)) (show 1024 ≤ 2 ^ i from Nat.pow_le_pow_right (n := 2) (by decide) (show 10 ≤ i by omega)))
theorem l72_5 {w : Int} {lv : Nat} (hW : WfA A) (hP : WfP A) (hX : WfX A) (hC : RC R S I A) (hl : LvP A lv (A 91 1).toNat) (hj : ∀ j : Nat, j < (A 91 54).toNat → ld I 19 j = (rcS A w j : Nat)) (hQ : Q (some (.int (oI (siS A w)))) (bd L I R S)) : ∀ (n k : Nat) (w1 w2 w6 : Value), k + n = 2 ^ (A 91 54).toNat → h72_5 (d + 2) L I R S Q w1 w2 ((faL A w lv (A 91 2).toNat : Nat) : Int) (siL A w k) k w6 := by
  have h10 := hX.1
  have hp : 2 ^ (A 91 54).toNat ≤ 2 ^ 10 := Nat.pow_le_pow_right (by decide) (by omega)
  have esh : iShl 1 (A 91 54) = ((2 ^ (A 91 54).toNat : Nat) : Int) := by
    have e1 := iShl_nat (m := 1) (k := (A 91 54).toNat) (by omega) (by omega)
    rw [Nat.one_mul, show (((A 91 54).toNat : Nat) : Int) = A 91 54 by omega] at e1
    exact e1
  have hrc : ∀ j, rcS A w j < 1024 := fun j => snL_lt 10
  intro n
  induction n with
  | zero =>
    intro k w1 w2 w6 hk
    refine e72_5 (d := d + 1) hC ?_
    rw [esh]
    refine ⟨by unfold inR; omega, fun q => by exfalso; omega, fun _ => ?_⟩
    rw [show k = 2 ^ (A 91 54).toNat by omega]; exact hQ
  | succ n ih =>
    intro k w1 w2 w6 hk
    have ih := fun w6 => ih (k + 1) w1 w2 w6 (by omega)
    have e : siL A w (k + 1) = if (siL A w k = -1 ∨ btS k < btS (siL A w k)) ∧ reB A k w = true then (k : Int) else siL A w k := rfl
    have si := siL_in (A := A) (w := w) k
    have ri := re_iff (w := w) (set := (k : Int)) hW hP hX (by omega) hl
    have ez : iAnd ((faL A w lv (A 91 2).toNat : Nat) : Int) (iXor ((rbL (rcS A w) k (A 91 54).toNat : Nat) : Int) (-1)) = 0 ↔ reB A k w = true := by
      rw [andnot (faL_lt hl.1 _) (rbL_lt hrc _), ← ri]; omega
    have b1 := btS_in (k : Int)
    have b2 := btS_in (siL A w k)
    rw [e, show ((k + 1 : Nat) : Int) = (k : Int) + 1 by omega] at ih
    refine e72_5 (d := d + 1) hC ?_
    rw [esh]
    refine ⟨by unfold inR; omega, fun _ => ⟨by unfold inR; omega, fun q => ⟨hX, rcS A w, hj, hrc, ?_⟩, fun q => ⟨by omega, by omega, by unfold inR; omega, by unfold inR; omega, fun q2 => ⟨hX, rcS A w, hj, hrc, ?_⟩, fun q2 => ?_⟩⟩, fun q => by exfalso; omega⟩
    · rw [ez]
      refine ⟨fun q3 => ?_, fun q3 => ?_⟩
      · rw [if_pos ⟨Or.inl q, q3⟩] at ih; exact ih _
      · rw [if_neg (fun h => q3 h.2)] at ih; exact ih _
    · rw [ez]
      refine ⟨fun q3 => ?_, fun q3 => ?_⟩
      · rw [if_pos ⟨Or.inr q2, q3⟩] at ih; exact ih _
      · rw [if_neg (fun h => q3 h.2)] at ih; exact ih _
    · rw [if_neg (fun h => h.1.elim q q2)] at ih; exact ih _
theorem l72_3 {w : Int} {lv : Nat} (hW : WfA A) (hP : WfP A) (hX : WfX A) (hw : inR w) (hl : LvP A lv (A 91 1).toNat) (hK : ∀ I1, Fr [19] [] I0 I1 → Q (some (.int (oI (siS A w)))) (bd L I1 R S)) : ∀ (n j : Nat) (I : mI) (w1 w5 w6 : Value), j + n = (A 91 54).toNat → Fr [19] [] I0 I → RC R S I A → (∀ i : Nat, i < j → ld I 19 i = (rcS A w i : Nat)) → h72_3 (d + 2) L I R S Q w1 w ((faL A w lv (A 91 2).toNat : Nat) : Int) j w5 w6 := by
  have h10 := hX.1
  intro n
  induction n with
  | zero =>
    intro j I w1 w5 w6 hn hf hC hi
    refine e72_3 (d := d) hC ⟨by unfold inR; omega, fun q => by exfalso; omega, fun _ => ?_⟩
    have := l72_5 (d := d) (L := L) (R := R) (S := S) (Q := Q) (I := I) (w := w) (lv := lv) hW hP hX hC hl (fun i h => hi i (by omega)) (hK I hf) (2 ^ (A 91 54).toNat) 0 w1 (.int (oI w)) w6 (by omega)
    exact this
  | succ n ih =>
    intro j I w1 w5 w6 hn hf hC hi
    have v := hX.2.2.2 j (by omega)
    have r : inR ((rcS A w j : Nat) : Int) := by
      have := snL_lt (A := A) (x := A 131 j) (y := A 132 j) (w := w) 10
      unfold inR rcS; omega
    refine e72_3 (d := d) hC ?_
    rw [Int.toNat_natCast]
    refine ⟨by unfold inR; omega, fun _ => ⟨by omega, hX, v.1, v.2, hw, ?_⟩, fun q => by exfalso; omega⟩
    refine ih (j + 1) _ _ _ _ (by omega) (hf.wr rfl) (hC.scr rfl) (fun i h => ?_)
    rw [show u2 I 19 j (oI ((snL A (A 131 j) (A 132 j) w 10 : Nat) : Int)) = u2 I 19 j (oI ((rcS A w j : Nat) : Int)) from rfl, ld_w r]
    split
    · rename_i e; rw [e]
    · exact hi i (by omega)
theorem l72_1 {w : Int} {lv : Nat} (hW : WfA A) (hP : WfP A) (hX : WfX A) (hw : inR w) (hl : LvP A lv (A 91 1).toNat) (hC : RC R S I A) (hK : ∀ I1, Fr [19] [] I I1 → Q (some (.int (oI (siS A w)))) (bd L I1 R S)) : ∀ (n k : Nat) (w1 w5 w6 : Value), k + n = (A 91 2).toNat → h72_1 (d + 2) L I R S Q w1 w ((faL A w lv k : Nat) : Int) k w5 w6 := by
  have h6 := hW.2.2.1
  intro n
  induction n with
  | zero =>
    intro k w1 w5 w6 hk
    refine e72_1 (d := d) hC ⟨by unfold inR; omega, fun q => by exfalso; omega, fun _ => ?_⟩
    rw [show k = (A 91 2).toNat by omega]
    exact l72_3 (d := d) (I0 := I) hW hP hX hw hl hK (A 91 54).toNat 0 I _ _ _ (by omega) (Fr.refl _ _ _) hC (fun i h => by omega)
  | succ n ih =>
    intro k w1 w5 w6 hk
    have v := hX.2.2.1 k (by omega)
    refine e72_1 (d := d) hC ?_
    rw [Int.toNat_natCast]
    refine ⟨by unfold inR; omega, fun _ => ⟨by omega, hX, v.1, v.2, hw, ?_⟩, fun q => by exfalso; omega⟩
    rw [andnot (faL_lt hl.1 k) (snL_lt 10)]
    exact ih (k + 1) _ _ _ (by omega)
theorem k72 {w : Int} {lv : Nat} {K : Int32 → mM → Prop} (hC : RC R S I A) (hW : WfA A) (hP : WfP A) (hX : WfX A) (hw : inR w) (hl : LvP A lv (A 91 1).toNat) (hK : ∀ I1, Fr [19] [] I I1 → K (oI (siS A w)) (bd L I1 R S)) : CallI (d + 2) 72 [.ref 9, .int (oI ((lv : Nat) : Int)), .int (oI w)] (bd L I R S) K :=
  e72 (d := d + 2) hC (l72_1 (d := d) hW hP hX hw hl hC (fun I1 f1 => rqI_of (hK I1 f1)) (A 91 2).toNat 0 _ _ _ (by omega))
end
