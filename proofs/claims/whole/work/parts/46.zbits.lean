/-! bits of small numbers -/
theorem oI_nat (n : Nat) : oI (n : Int) = nI n := by
  unfold oI nI
  rfl
theorem nI_toI {n : Nat} (h : n < 2147483648) : (nI n).toInt = (n : Int) := nI_toInt h
theorem iAnd_nat {m n : Nat} (hm : m < 2147483648) (hn : n < 2147483648) : iAnd m n = ((m &&& n : Nat) : Int) := by
  have e : oI (m : Int) &&& oI (n : Int) = nI (m &&& n) := by
    rw [oI_nat, oI_nat]
    unfold nI
    apply Int32.toBitVec_inj.mp
    rw [Int32.toBitVec_and, Int32.toBitVec_ofNat', Int32.toBitVec_ofNat', Int32.toBitVec_ofNat']
    exact BitVec.ofNat_and.symm
  unfold iAnd
  rw [e]
  exact nI_toI (Nat.lt_of_le_of_lt Nat.and_le_left hm)
theorem iOr_nat {m n : Nat} (hm : m < 2147483648) (hn : n < 2147483648) : iOr m n = ((m ||| n : Nat) : Int) := by
  have e : oI (m : Int) ||| oI (n : Int) = nI (m ||| n) := by
    rw [oI_nat, oI_nat]
    unfold nI
    apply Int32.toBitVec_inj.mp
    rw [Int32.toBitVec_or, Int32.toBitVec_ofNat', Int32.toBitVec_ofNat', Int32.toBitVec_ofNat']
    exact BitVec.ofNat_or.symm
  unfold iOr
  rw [e]
  exact nI_toI (Nat.or_lt_two_pow (n := 31) hm hn)
theorem cnt31 : ∀ k, k < 32 → ((nI k &&& 31).toBitVec.smod 32).toNat = k := by decide +kernel
theorem iShl_nat {m k : Nat} (hk : k < 32) (h : m * 2 ^ k < 2147483648) : iShl m k = ((m * 2 ^ k : Nat) : Int) := by
  unfold iShl
  rw [oI_nat, oI_nat, pk_shlN _ k (cnt31 k hk) (Nat.lt_trans h (by decide))]
  exact nI_toI h
theorem iShr_nat {m k : Nat} (hk : k < 32) (hm : m < 2147483648) : iShr m k = ((m / 2 ^ k : Nat) : Int) := by
  unfold iShr
  rw [oI_nat, oI_nat, pk_shrN hm _ k (cnt31 k hk)]
  exact nI_toI (Nat.lt_of_le_of_lt (Nat.div_le_self _ _) hm)
theorem iAnd_1 {m : Nat} (hm : m < 2147483648) : iAnd m 1 = ((m % 2 : Nat) : Int) := by
  have h := iAnd_nat (m := m) (n := 1) hm (by decide)
  rw [Nat.and_one_is_mod] at h
  exact h
/-- how many bits -/
def btL : Nat → Nat → Nat
  | 0, _ => 0
  | f + 1, v => v % 2 + btL f (v / 2)
def btS (x : Int) : Int := (btL 10 x.toNat : Nat)
theorem btL_le : ∀ f v, btL f v ≤ f
  | 0, v => Nat.le_refl _
  | f + 1, v => by unfold btL; have := btL_le f (v / 2); omega
theorem btS_in (x : Int) : 0 ≤ btS x ∧ btS x ≤ 10 := by
  unfold btS
  have := btL_le 10 x.toNat
  omega
def h241_1 (d L : Nat) (I : Nat → Nat → Int32) (R : Nat → Nat → Option Nat) (S : List (Nat × Nat)) (Q : Option Value → mM → Prop) (w0 : Value) (x1 : Int) (x2 : Int) : Prop := Wp d (gb 241 1) [w0, .int (oI x1), .int (oI x2)] [] (bd L I R S) Q
set_option maxRecDepth 4000 in
theorem e241_1 {d L : Nat} {I : Nat → Nat → Int32} {R : Nat → Nat → Option Nat} {S : List (Nat × Nat)} {Q : Option Value → mM → Prop}  {w0 : Value} {x1 : Int} {x2 : Int} (hE : inR x2 ∧ (((0 < x2) → h241_1 d L I R S Q (mNl w0) (x1 + (iAnd x2 1)) (iShr x2 1)) ∧ (¬ (0 < x2) → Q (some (.int (oI x1))) (bd L I R S)))) : h241_1 d L I R S Q w0 x1 x2 := by
  unfold h241_1
  refine xG gb241.2.1 ?_
  refine s4 (x := x2) rfl ?_
  obtain ⟨g1, hE⟩ := hE
  refine s72 g1 (fun c2 => ?_) (fun c2 => ?_)
  · replace hE := hE.1 c2
    refine s4 (x := x1) rfl ?_
    refine s4 (x := x2) rfl ?_
    refine s0 ?_
    refine s25 ?_
    refine s16 ?_
    refine s7 (ls' := [mNl w0, .int (oI (x1 + (iAnd x2 1))), .int (oI x2)]) (Nat.le_of_ble_eq_true rfl) rfl ?_
    refine s4 (x := x2) rfl ?_
    refine s0 ?_
    refine s23 ?_
    refine s7 (ls' := [mNl w0, .int (oI (x1 + (iAnd x2 1))), .int (oI (iShr x2 1))]) (Nat.le_of_ble_eq_true rfl) rfl ?_
    refine s60 ?_
    exact hE
  · replace hE := hE.2 c2
    refine xG gb241.2.2 ?_
    refine s4 (x := x1) rfl ?_
    refine s80 ?_
    exact hE
set_option maxRecDepth 4000 in
theorem e241 {d L : Nat} {I : Nat → Nat → Int32} {R : Nat → Nat → Option Nat} {S : List (Nat × Nat)} {K : Int32 → mM → Prop}  {x0 : Int} (hE : h241_1 d L I R S (rqI K) (.int (oI x0)) 0 x0) : CallI d 241 [.int (oI x0)] (bd L I R S) K := by
  refine cI_of (ls := [.int (oI x0), mUn, mUn]) rfl ?_
  refine xG gb241.1 ?_
  refine s0 ?_
  refine s7 (ls' := [.int (oI x0), .int (oI 0), mUn]) (Nat.le_of_ble_eq_true rfl) rfl ?_
  refine s4 (x := x0) rfl ?_
  refine s7 (ls' := [.int (oI x0), .int (oI 0), .int (oI x0)]) (Nat.le_of_ble_eq_true rfl) rfl ?_
  refine s79 ?_
  exact hE
section
variable {d L : Nat} {I I0 : mI} {R : Nat → Nat → Option Nat} {S : List (Nat × Nat)} {Q : Option Value → mM → Prop} {A : aS} {c day known kind half year subj code : Int}
theorem l241 : ∀ (f v n : Nat), v < 2 ^ f → f ≤ 10 → n + f ≤ 100 → Q (some (.int (oI ((n + btL f v : Nat) : Int)))) (bd L I R S) → ∀ w : Value, h241_1 d L I R S Q w n v := by
  intro f
  induction f with
  | zero =>
    intro v n hv _ hn hQ w
    have : v = 0 := by simpa using hv
    subst this
    exact e241_1 ⟨⟨by omega, by omega⟩, fun h => by exfalso; omega, fun _ => hQ⟩
  | succ f ih =>
    intro v n hv hf hn hQ w
    have hv2 : v < 2147483648 := Nat.lt_of_lt_of_le hv (Nat.le_trans (Nat.pow_le_pow_right (by decide) hf) (by decide))
    have e1 : iAnd (v : Int) 1 = ((v % 2 : Nat) : Int) := iAnd_1 hv2
    have e2 : iShr (v : Int) 1 = ((v / 2 : Nat) : Int) := iShr_nat (k := 1) (by decide) hv2
    have ih := ih (v / 2) (n + v % 2) (by rw [Nat.pow_succ] at hv; omega) (by omega)
    have hn2 : v % 2 < 2 := Nat.mod_lt _ (by decide)
    refine e241_1 ?_
    rw [e1, e2]
    refine ⟨⟨by omega, by omega⟩, fun h => ?_, fun h => ?_⟩
    · refine ih (by omega) ?_ (mNl w)
      unfold btL at hQ
      rw [show n + v % 2 + btL f (v / 2) = n + (v % 2 + btL f (v / 2)) by omega]
      exact hQ
    · have : v = 0 := by omega
      subst this
      have e : btL (f + 1) 0 = 0 := by
        have : ∀ g, btL g 0 = 0 := by intro g; induction g with | zero => rfl | succ g ihg => unfold btL; simpa using ihg
        exact this _
      rw [e] at hQ
      exact hQ
theorem k241 {K : Int32 → mM → Prop} {x : Int} (hx : 0 ≤ x ∧ x < 1024) (hK : K (oI (btS x)) (bd L I R S)) : CallI d 241 [.int (oI x)] (bd L I R S) K := by
  have q := l241 (d := d) (L := L) (I := I) (R := R) (S := S) (Q := rqI K) 10 x.toNat 0 (by omega) (by decide) (by decide) (rqI_of (by rw [Nat.zero_add]; exact hK)) (.int (oI x))
  rw [show ((x.toNat : Nat) : Int) = x by omega] at q
  exact e241 q
end
