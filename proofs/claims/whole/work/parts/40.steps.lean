/-! steps over numbers: an int on the stack is oI of a whole number -/
def inR (z : Int) : Prop := -2147483648 ≤ z ∧ z ≤ 2147483647
def ld (I : Nat → Nat → Int32) (a k : Nat) : Int := (I a k).toInt
theorem toInt_oI {z : Int} (h : inR z) : (oI z).toInt = z := by
  unfold oI
  exact Int32.toInt_ofInt_of_le h.1 (by have := h.2; omega)
theorem oI_toInt (x : Int32) : oI x.toInt = x := Int32.ofInt_toInt x
theorem oI_ld (I : Nat → Nat → Int32) (a k : Nat) : I a k = oI (ld I a k) := (Int32.ofInt_toInt _).symm
theorem inR_toInt (x : Int32) : inR x.toInt := ⟨Int32.le_toInt x, by have := Int32.toInt_lt x; omega⟩
theorem ld_inR (I : Nat → Nat → Int32) (a k : Nat) : inR (ld I a k) := inR_toInt _
theorem oI_add (x y : Int) : oI x + oI y = oI (x + y) := (Int32.ofInt_add x y).symm
theorem oI_sub (x y : Int) : oI x - oI y = oI (x - y) := (Int32.ofInt_sub x y).symm
theorem oI_mul (x y : Int) : oI x * oI y = oI (x * y) := (Int32.ofInt_mul x y).symm
theorem oI_neg (x : Int) : - oI x = oI (-x) := (Int32.ofInt_neg x).symm
theorem oI_inj {x y : Int} (hx : inR x) (hy : inR y) (h : oI x = oI y) : x = y := by
  rw [← toInt_oI hx, ← toInt_oI hy, h]
theorem ld_of {I : Nat → Nat → Int32} {a k : Nat} {z : Int} (h : I a k = oI z) (hz : inR z) : ld I a k = z := by
  unfold ld; rw [h]; exact toInt_oI hz
def iShl (x y : Int) : Int := (oI x <<< (oI y &&& 31)).toInt
def iShr (x y : Int) : Int := (oI x >>> (oI y &&& 31)).toInt
def iUsr (x y : Int) : Int := ((oI x).toUInt32 >>> ((oI y).toUInt32 &&& Int32.toUInt32 31)).toInt32.toInt
def iAnd (x y : Int) : Int := (oI x &&& oI y).toInt
def iOr (x y : Int) : Int := (oI x ||| oI y).toInt
def iXor (x y : Int) : Int := (oI x ^^^ oI y).toInt
def iB (x : Int) : Int := (oI x).toInt8.toInt32.toInt
def iC (x : Int) : Int := ((oI x).toUInt32 % 65536).toInt32.toInt
theorem oI_div {x y : Int} (hx : inR x) (hy : inR y) (h0 : 0 < y) : oI x / oI y = oI (x.tdiv y) := by
  have e : (oI x / oI y).toInt = x.tdiv y := by
    rw [Int32.toInt_div_of_ne_right, toInt_oI hx, toInt_oI hy]
    intro h
    have h9 := congrArg Int32.toInt h
    rw [toInt_oI hy] at h9
    rw [h9] at h0
    exact absurd h0 (by decide)
  rw [← e]; exact (oI_toInt _).symm
section
variable {d a b n p q m : Nat} {c : Int} {is : List mIns} {ls ls' st : List Value} {σ : mM} {Q : Option Value → mM → Prop} {x y z v : Int} {X Y : Int64} {o : Option Nat} {w : Value}
variable {L : Nat} {I : Nat → Nat → Int32} {R : Nat → Nat → Option Nat} {S : List (Nat × Nat)}
theorem s0 (h : Wp d is ls (.int (oI c) :: st) σ Q) : Wp d ((0, a, b, c) :: is) ls st σ Q := r_0.mpr h
theorem s2 (h : Wp d is ls (.long (Int64.ofInt c) :: st) σ Q) : Wp d ((2, a, b, c) :: is) ls st σ Q := r_2.mpr h
theorem s3 (h : Wp d is ls (.null :: st) σ Q) : Wp d ((3, a, b, c) :: is) ls st σ Q := r_3.mpr h
theorem s4 (hl : ls[a]? = some (.int (oI x))) (h : Wp d is ls (.int (oI x) :: st) σ Q) : Wp d ((4, a, b, c) :: is) ls st σ Q := by
  refine (w_step (i := (4, a, b, c)) (Nat.le_of_ble_eq_true rfl) ?_).mpr h
  show mst1 (4, a, b, c) ls st σ = _
  simp [mst1, hl]
theorem s5 (hl : ls[a]? = some (.long X)) (h : Wp d is ls (.long X :: st) σ Q) : Wp d ((5, a, b, c) :: is) ls st σ Q := by
  refine (w_step (i := (5, a, b, c)) (Nat.le_of_ble_eq_true rfl) ?_).mpr h
  show mst1 (5, a, b, c) ls st σ = _
  simp [mst1, hl]
theorem s6 (hl : ls[a]? = some (.ref p)) (h : Wp d is ls (.ref p :: st) σ Q) : Wp d ((6, a, b, c) :: is) ls st σ Q := by
  refine (w_step (i := (6, a, b, c)) (Nat.le_of_ble_eq_true rfl) ?_).mpr h
  show mst1 (6, a, b, c) ls st σ = _
  simp [mst1, hl]
theorem s6n (hl : ls[a]? = some .null) (h : Wp d is ls (.null :: st) σ Q) : Wp d ((6, a, b, c) :: is) ls st σ Q := by
  refine (w_step (i := (6, a, b, c)) (Nat.le_of_ble_eq_true rfl) ?_).mpr h
  show mst1 (6, a, b, c) ls st σ = _
  simp [mst1, hl]
theorem s6o (hl : ls[a]? = some (vR o)) (h : Wp d is ls (vR o :: st) σ Q) : Wp d ((6, a, b, c) :: is) ls st σ Q := by
  cases o with
  | none => exact s6n hl h
  | some p => exact s6 hl h
theorem s7 (hl : a < ls.length) (hs : mSet ls a (.int (oI x)) = ls') (h : Wp d is ls' st σ Q) : Wp d ((7, a, b, c) :: is) ls (.int (oI x) :: st) σ Q := by
  refine (w_step (i := (7, a, b, c)) (Nat.le_of_ble_eq_true rfl) ?_).mpr h
  show mst1 (7, a, b, c) ls (.int (oI x) :: st) σ = _
  simp [mst1, hl, hs]
theorem s8 (hl : a + 1 < ls.length) (hs : mSet2 ls a (.long X) = ls') (h : Wp d is ls' st σ Q) : Wp d ((8, a, b, c) :: is) ls (.long X :: st) σ Q := by
  refine (w_step (i := (8, a, b, c)) (Nat.le_of_ble_eq_true rfl) ?_).mpr h
  show mst1 (8, a, b, c) ls (.long X :: st) σ = _
  simp [mst1, hl, hs]
theorem s9 (hl : a < ls.length) (hs : mSet ls a (.ref p) = ls') (h : Wp d is ls' st σ Q) : Wp d ((9, a, b, c) :: is) ls (.ref p :: st) σ Q := by
  refine (w_step (i := (9, a, b, c)) (Nat.le_of_ble_eq_true rfl) ?_).mpr h
  show mst1 (9, a, b, c) ls (.ref p :: st) σ = _
  simp [mst1, hl, hs]
theorem s9n (hl : a < ls.length) (hs : mSet ls a .null = ls') (h : Wp d is ls' st σ Q) : Wp d ((9, a, b, c) :: is) ls (.null :: st) σ Q := by
  refine (w_step (i := (9, a, b, c)) (Nat.le_of_ble_eq_true rfl) ?_).mpr h
  show mst1 (9, a, b, c) ls (.null :: st) σ = _
  simp [mst1, hl, hs]
theorem s9o (hl : a < ls.length) (hs : mSet ls a (vR o) = ls') (h : Wp d is ls' st σ Q) : Wp d ((9, a, b, c) :: is) ls (vR o :: st) σ Q := by
  cases o with
  | none => exact s9n hl hs h
  | some p => exact s9 hl hs h
theorem s10 (hl : ls[a]? = some (.int (oI x))) (hs : mSet ls a (.int (oI (x + c))) = ls') (h : Wp d is ls' st σ Q) : Wp d ((10, a, b, c) :: is) ls st σ Q := by
  refine (w_step (i := (10, a, b, c)) (Nat.le_of_ble_eq_true rfl) ?_).mpr h
  show mst1 (10, a, b, c) ls st σ = _
  simp only [mst1, hl, oI_add, hs]
theorem s12i (h : Wp d is ls st σ Q) : Wp d ((12, a, b, c) :: is) ls (.int (oI x) :: st) σ Q := (w_step (i := (12, a, b, c)) (Nat.le_of_ble_eq_true rfl) rfl).mpr h
theorem s12o (h : Wp d is ls st σ Q) : Wp d ((12, a, b, c) :: is) ls (vR o :: st) σ Q := by
  cases o <;> exact (w_step (i := (12, a, b, c)) (Nat.le_of_ble_eq_true rfl) rfl).mpr h
theorem s12r (h : Wp d is ls st σ Q) : Wp d ((12, a, b, c) :: is) ls (.ref p :: st) σ Q := (w_step (i := (12, a, b, c)) (Nat.le_of_ble_eq_true rfl) rfl).mpr h
theorem s13i (h : Wp d is ls (.int (oI x) :: .int (oI x) :: st) σ Q) : Wp d ((13, a, b, c) :: is) ls (.int (oI x) :: st) σ Q := (w_step (i := (13, a, b, c)) (Nat.le_of_ble_eq_true rfl) rfl).mpr h
theorem s13r (h : Wp d is ls (.ref p :: .ref p :: st) σ Q) : Wp d ((13, a, b, c) :: is) ls (.ref p :: st) σ Q := (w_step (i := (13, a, b, c)) (Nat.le_of_ble_eq_true rfl) rfl).mpr h
theorem s14 (h : Wp d is ls (.int (oI x) :: .ref p :: .int (oI x) :: .ref p :: st) σ Q) : Wp d ((14, a, b, c) :: is) ls (.int (oI x) :: .ref p :: st) σ Q := (w_step (i := (14, a, b, c)) (Nat.le_of_ble_eq_true rfl) rfl).mpr h
theorem s15 (h : Wp d is ls (.int (oI x) :: .ref p :: .int (oI x) :: st) σ Q) : Wp d ((15, a, b, c) :: is) ls (.int (oI x) :: .ref p :: st) σ Q := (w_step (i := (15, a, b, c)) (Nat.le_of_ble_eq_true rfl) rfl).mpr h
theorem s16 (h : Wp d is ls (.int (oI (x + y)) :: st) σ Q) : Wp d ((16, a, b, c) :: is) ls (.int (oI y) :: .int (oI x) :: st) σ Q := by rw [← oI_add] at h; exact r_16.mpr h
theorem s17 (h : Wp d is ls (.int (oI (x - y)) :: st) σ Q) : Wp d ((17, a, b, c) :: is) ls (.int (oI y) :: .int (oI x) :: st) σ Q := by rw [← oI_sub] at h; exact r_17.mpr h
theorem s18 (h : Wp d is ls (.int (oI (x * y)) :: st) σ Q) : Wp d ((18, a, b, c) :: is) ls (.int (oI y) :: .int (oI x) :: st) σ Q := by rw [← oI_mul] at h; exact r_18.mpr h
theorem s19 (hx : inR x) (hy : inR y ∧ 0 < y) (h : Wp d is ls (.int (oI (x.tdiv y)) :: st) σ Q) : Wp d ((19, a, b, c) :: is) ls (.int (oI y) :: .int (oI x) :: st) σ Q := by
  rw [← oI_div hx hy.1 hy.2] at h
  exact r_19.mpr ⟨by rw [toInt_oI hy.1]; have := hy.2; omega, h⟩
theorem s20 (hx : inR x) (hy : inR y ∧ 0 < y) (h : Wp d is ls (.int (oI (x - x.tdiv y * y)) :: st) σ Q) : Wp d ((20, a, b, c) :: is) ls (.int (oI y) :: .int (oI x) :: st) σ Q := by
  rw [← oI_sub, ← oI_mul, ← oI_div hx hy.1 hy.2] at h
  exact r_20.mpr ⟨by rw [toInt_oI hy.1]; have := hy.2; omega, h⟩
theorem s21 (h : Wp d is ls (.int (oI (-x)) :: st) σ Q) : Wp d ((21, a, b, c) :: is) ls (.int (oI x) :: st) σ Q := by rw [← oI_neg] at h; exact r_21.mpr h
theorem s22 (h : Wp d is ls (.int (oI (iShl x y)) :: st) σ Q) : Wp d ((22, a, b, c) :: is) ls (.int (oI y) :: .int (oI x) :: st) σ Q := by unfold iShl at h; rw [oI_toInt] at h; exact r_22.mpr h
theorem s23 (h : Wp d is ls (.int (oI (iShr x y)) :: st) σ Q) : Wp d ((23, a, b, c) :: is) ls (.int (oI y) :: .int (oI x) :: st) σ Q := by unfold iShr at h; rw [oI_toInt] at h; exact r_23.mpr h
theorem s24 (h : Wp d is ls (.int (oI (iUsr x y)) :: st) σ Q) : Wp d ((24, a, b, c) :: is) ls (.int (oI y) :: .int (oI x) :: st) σ Q := by unfold iUsr at h; rw [oI_toInt] at h; exact r_24.mpr h
theorem s25 (h : Wp d is ls (.int (oI (iAnd x y)) :: st) σ Q) : Wp d ((25, a, b, c) :: is) ls (.int (oI y) :: .int (oI x) :: st) σ Q := by unfold iAnd at h; rw [oI_toInt] at h; exact r_25.mpr h
theorem s26 (h : Wp d is ls (.int (oI (iOr x y)) :: st) σ Q) : Wp d ((26, a, b, c) :: is) ls (.int (oI y) :: .int (oI x) :: st) σ Q := by unfold iOr at h; rw [oI_toInt] at h; exact r_26.mpr h
theorem s27 (h : Wp d is ls (.int (oI (iXor x y)) :: st) σ Q) : Wp d ((27, a, b, c) :: is) ls (.int (oI y) :: .int (oI x) :: st) σ Q := by unfold iXor at h; rw [oI_toInt] at h; exact r_27.mpr h
theorem s28 (h : Wp d is ls (.int (oI (iB x)) :: st) σ Q) : Wp d ((28, a, b, c) :: is) ls (.int (oI x) :: st) σ Q := by unfold iB at h; rw [oI_toInt] at h; exact r_28.mpr h
theorem s29 (h : Wp d is ls (.int (oI (iC x)) :: st) σ Q) : Wp d ((29, a, b, c) :: is) ls (.int (oI x) :: st) σ Q := by unfold iC at h; rw [oI_toInt] at h; exact r_29.mpr h
theorem s30 (h : Wp d is ls (.long (oI x).toInt64 :: st) σ Q) : Wp d ((30, a, b, c) :: is) ls (.int (oI x) :: st) σ Q := r_30.mpr h
theorem s31 (h : Wp d is ls (.int (oI X.toInt32.toInt) :: st) σ Q) : Wp d ((31, a, b, c) :: is) ls (.long X :: st) σ Q := by rw [oI_toInt] at h; exact r_31.mpr h
theorem s32 (h : Wp d is ls (.long (X <<< ((oI y).toInt64 &&& 63)) :: st) σ Q) : Wp d ((32, a, b, c) :: is) ls (.int (oI y) :: .long X :: st) σ Q := r_32.mpr h
theorem s33 (h : Wp d is ls (.long (X >>> ((oI y).toInt64 &&& 63)) :: st) σ Q) : Wp d ((33, a, b, c) :: is) ls (.int (oI y) :: .long X :: st) σ Q := r_33.mpr h
theorem s34 (h : Wp d is ls (.long (X &&& Y) :: st) σ Q) : Wp d ((34, a, b, c) :: is) ls (.long Y :: .long X :: st) σ Q := r_34.mpr h
theorem s35 (h : Wp d is ls (.long (X ||| Y) :: st) σ Q) : Wp d ((35, a, b, c) :: is) ls (.long Y :: .long X :: st) σ Q := r_35.mpr h
def lCmp (X Y : Int64) : Int := (lg_cmp X Y).toInt
theorem s36 (h : Wp d is ls (.int (oI (lCmp X Y)) :: st) σ Q) : Wp d ((36, a, b, c) :: is) ls (.long Y :: .long X :: st) σ Q := by unfold lCmp at h; rw [oI_toInt] at h; exact r_36.mpr h
theorem mIx_of {kd : Nat} {N : Int} (hs : σ.2.2[p]? = some (kd, n)) (hz : 0 ≤ z ∧ z < N) (hN : decide (N ≤ (n : Int) ∧ n ≤ 1000000) = true) : mIx σ p kd (oI z) = true := by
  have hN := of_decide_eq_true hN
  have e : (oI z).toInt = z := toInt_oI ⟨by omega, by omega⟩
  unfold mIx
  rw [hs, e]
  simp only [beq_self_eq_true, Bool.true_and, Bool.and_eq_true, decide_eq_true_eq]
  omega
theorem ix_nat {N : Int} (hz : 0 ≤ z ∧ z < N) (hN : decide (N ≤ (n : Int) ∧ n ≤ 1000000) = true) : (oI z).toInt.toNat = z.toNat := by
  have hN := of_decide_eq_true hN
  rw [toInt_oI ⟨by omega, by omega⟩]
theorem s40 {N : Int} (hs : (bd L I R S).2.2[p]? = some (0, n)) (hz : 0 ≤ z ∧ z < N) (hN : decide (N ≤ (n : Int) ∧ n ≤ 1000000) = true) (hv : I p z.toNat = oI v) (h : Wp d is ls (.int (oI v) :: st) (bd L I R S) Q) : Wp d ((40, a, b, c) :: is) ls (.int (oI z) :: .ref p :: st) (bd L I R S) Q := by
  refine r_40.mpr ⟨mIx_of hs hz hN, ?_⟩
  rw [bd_I, ix_nat hz hN, hv]; exact h
theorem s41 {N : Int} (hs : (bd L I R S).2.2[p]? = some (1, n)) (hz : 0 ≤ z ∧ z < N) (hN : decide (N ≤ (n : Int) ∧ n ≤ 1000000) = true) (hv : I p z.toNat = oI v) (h : Wp d is ls (.int (oI v) :: st) (bd L I R S) Q) : Wp d ((41, a, b, c) :: is) ls (.int (oI z) :: .ref p :: st) (bd L I R S) Q := by
  refine r_41.mpr ⟨mIx_of hs hz hN, ?_⟩
  rw [bd_I, ix_nat hz hN, hv]; exact h
theorem s42 {N : Int} (hs : (bd L I R S).2.2[p]? = some (2, n)) (hz : 0 ≤ z ∧ z < N) (hN : decide (N ≤ (n : Int) ∧ n ≤ 1000000) = true) (hv : I p z.toNat = oI v) (h : Wp d is ls (.int (oI v) :: st) (bd L I R S) Q) : Wp d ((42, a, b, c) :: is) ls (.int (oI z) :: .ref p :: st) (bd L I R S) Q := by
  refine r_42.mpr ⟨mIx_of hs hz hN, ?_⟩
  rw [bd_I, ix_nat hz hN, hv]; exact h
theorem s43 {N : Int} (hs : σ.2.2[p]? = some (3, n)) (hz : 0 ≤ z ∧ z < N) (hN : decide (N ≤ (n : Int) ∧ n ≤ 1000000) = true) (hv : σ.2.1 p z.toNat = o) (h : Wp d is ls (vR o :: st) σ Q) : Wp d ((43, a, b, c) :: is) ls (.int (oI z) :: .ref p :: st) σ Q := by
  refine r_43.mpr ⟨mIx_of hs hz hN, ?_⟩
  rw [ix_nat hz hN, hv]; exact h
theorem s44 {N : Int} (hs : (bd L I R S).2.2[p]? = some (0, n)) (hp : nSP ≤ p) (hz : 0 ≤ z ∧ z < N) (hN : decide (N ≤ (n : Int) ∧ n ≤ 1000000) = true) (h : Wp d is ls st (bd L (u2 I p z.toNat (oI v)) R S) Q) : Wp d ((44, a, b, c) :: is) ls (.int (oI v) :: .int (oI z) :: .ref p :: st) (bd L I R S) Q := by
  refine r_44.mpr ⟨⟨hp, mIx_of hs hz hN⟩, ?_⟩
  rw [ix_nat hz hN]; exact h
theorem s45 {N : Int} (hs : (bd L I R S).2.2[p]? = some (1, n)) (hp : nSP ≤ p) (hz : 0 ≤ z ∧ z < N) (hN : decide (N ≤ (n : Int) ∧ n ≤ 1000000) = true) (h : Wp d is ls st (bd L (u2 I p z.toNat (oI (iB v))) R S) Q) : Wp d ((45, a, b, c) :: is) ls (.int (oI v) :: .int (oI z) :: .ref p :: st) (bd L I R S) Q := by
  refine r_45.mpr ⟨⟨hp, mIx_of hs hz hN⟩, ?_⟩
  unfold iB at h
  rw [oI_toInt] at h
  rw [ix_nat hz hN]; exact h
theorem mNar1 (h : v = 0 ∨ v = 1) : mNar 1 (oI v) = true := by rcases h with rfl | rfl <;> rfl
theorem s46 {N : Int} (hs : (bd L I R S).2.2[p]? = some (2, n)) (hp : nSP ≤ p) (hz : 0 ≤ z ∧ z < N) (hN : decide (N ≤ (n : Int) ∧ n ≤ 1000000) = true) (hv : v = 0 ∨ v = 1) (h : Wp d is ls st (bd L (u2 I p z.toNat (oI v)) R S) Q) : Wp d ((46, a, b, c) :: is) ls (.int (oI v) :: .int (oI z) :: .ref p :: st) (bd L I R S) Q := by
  refine r_46.mpr ⟨⟨hp, mIx_of hs hz hN, mNar1 hv⟩, ?_⟩
  rw [ix_nat hz hN]; exact h
theorem s48 {kd : Nat} (hs : σ.2.2[p]? = some (kd, n)) (hk : kd < 4) (h : Wp d is ls (.int (oI n) :: st) σ Q) : Wp d ((48, a, b, c) :: is) ls (.ref p :: st) σ Q := by
  refine (w_step (i := (48, a, b, c)) (Nat.le_of_ble_eq_true rfl) ?_).mpr h
  show mst3 (48, a, b, c) ls (.ref p :: st) σ = _
  simp [mst3, hs, hk]
theorem mOb_of {kd : Nat} (hs : σ.2.2[p]? = some (b + 4, n)) (hp : nSP ≤ p) (ha : a < n) : mOb σ p b a = true := by
  unfold mOb
  rw [hs]
  simp [hp, ha]
theorem s50 (hs : (bd L I R S).2.2[p]? = some (b + 4, n)) (hp : nSP ≤ p) (ha : a < n) (hv : I p a = oI v) (h : Wp d is ls (.int (oI v) :: st) (bd L I R S) Q) : Wp d ((50, a, b, c) :: is) ls (.ref p :: st) (bd L I R S) Q := by
  refine r_50.mpr ⟨mOb_of (kd := 0) hs hp ha, ?_⟩
  rw [bd_I, hv]; exact h
theorem s51 (hs : σ.2.2[p]? = some (b + 4, n)) (hp : nSP ≤ p) (ha : a < n) (hv : σ.2.1 p a = some q) (h : Wp d is ls (.ref q :: st) σ Q) : Wp d ((51, a, b, c) :: is) ls (.ref p :: st) σ Q := by
  refine r_51.mpr ⟨mOb_of (kd := 0) hs hp ha, ?_⟩
  rw [hv]; exact h
theorem s51o (hs : σ.2.2[p]? = some (b + 4, n)) (hp : nSP ≤ p) (ha : a < n) (hv : σ.2.1 p a = o) (h : Wp d is ls (vR o :: st) σ Q) : Wp d ((51, a, b, c) :: is) ls (.ref p :: st) σ Q := by
  refine r_51.mpr ⟨mOb_of (kd := 0) hs hp ha, ?_⟩
  rw [hv]; exact h
theorem s52 (hs : (bd L I R S).2.2[p]? = some (b + 4, n)) (hp : nSP ≤ p) (ha : a < n) (h : Wp d is ls st (bd L (u2 I p a (oI v)) R S) Q) : Wp d ((52, a, b, c) :: is) ls (.int (oI v) :: .ref p :: st) (bd L I R S) Q :=
  r_52.mpr ⟨⟨hp, mOb_of (kd := 0) hs hp ha⟩, h⟩
theorem s49 (hs : (bd L I R S).2.2[p]? = some (b + 4, n)) (hp : nSP ≤ p) (ha : a < n) (hv : v = 0 ∨ v = 1) (h : Wp d is ls st (bd L (u2 I p a (oI v)) R S) Q) : Wp d ((49, a, b, c) :: is) ls (.int (oI v) :: .ref p :: st) (bd L I R S) Q :=
  r_49.mpr ⟨⟨hp, mOb_of (kd := 0) hs hp ha, mNar1 hv⟩, h⟩
theorem s55 (h : Wp d is ls (.ref a :: st) σ Q) : Wp d ((55, a, b, c) :: is) ls st σ Q := (w_step (i := (55, a, b, c)) (Nat.le_of_ble_eq_true rfl) rfl).mpr h
theorem s56 (h : Wp d is ls (.ref a :: st) σ Q) : Wp d ((56, a, b, c) :: is) ls st σ Q := (w_step (i := (56, a, b, c)) (Nat.le_of_ble_eq_true rfl) rfl).mpr h
theorem s54 (h : Wp d is ls (.int (oI c) :: st) σ Q) : Wp d ((54, a, b, c) :: is) ls st σ Q := (w_step (i := (54, a, b, c)) (Nat.le_of_ble_eq_true rfl) rfl).mpr h
theorem s57 (h : Wp d is ls (.retAddr 1 :: st) σ Q) : Wp d ((57, a, b, c) :: is) ls st σ Q := (w_step (i := (57, a, b, c)) (Nat.le_of_ble_eq_true rfl) rfl).mpr h
theorem s60 (h : Wp d (gb a b) ls st σ Q) : Wp d ((60, a, b, c) :: is) ls st σ Q := r_60.mpr h
theorem s79 (h : Wp d (gb a b) ls st σ Q) : Wp d ((79, a, b, c) :: is) ls st σ Q := r_79.mpr h
theorem s61 (hx : inR x) (hy : inR y) (h1 : x = y → Wp d (gb a b) ls st σ Q) (h2 : ¬ x = y → Wp d is ls st σ Q) : Wp d ((61, a, b, c) :: is) ls (.int (oI y) :: .int (oI x) :: st) σ Q := by
  refine r_61.mpr ?_; rw [toInt_oI hx, toInt_oI hy]; exact ⟨h1, h2⟩
theorem s62 (hx : inR x) (hy : inR y) (h1 : x = y → Wp d is ls st σ Q) (h2 : ¬ x = y → Wp d (gb a b) ls st σ Q) : Wp d ((62, a, b, c) :: is) ls (.int (oI y) :: .int (oI x) :: st) σ Q := by
  refine r_62.mpr ?_; rw [toInt_oI hx, toInt_oI hy]; exact ⟨h2, h1⟩
theorem s63 (hx : inR x) (hy : inR y) (h1 : x < y → Wp d (gb a b) ls st σ Q) (h2 : ¬ x < y → Wp d is ls st σ Q) : Wp d ((63, a, b, c) :: is) ls (.int (oI y) :: .int (oI x) :: st) σ Q := by
  refine r_63.mpr ?_; rw [toInt_oI hx, toInt_oI hy]; exact ⟨h1, h2⟩
theorem s64 (hx : inR x) (hy : inR y) (h1 : x < y → Wp d is ls st σ Q) (h2 : ¬ x < y → Wp d (gb a b) ls st σ Q) : Wp d ((64, a, b, c) :: is) ls (.int (oI y) :: .int (oI x) :: st) σ Q := by
  refine r_64.mpr ?_; rw [toInt_oI hx, toInt_oI hy]; exact ⟨h2, h1⟩
theorem s65 (hx : inR x) (hy : inR y) (h1 : y < x → Wp d (gb a b) ls st σ Q) (h2 : ¬ y < x → Wp d is ls st σ Q) : Wp d ((65, a, b, c) :: is) ls (.int (oI y) :: .int (oI x) :: st) σ Q := by
  refine r_65.mpr ?_; rw [toInt_oI hx, toInt_oI hy]; exact ⟨h1, h2⟩
theorem s66 (hx : inR x) (hy : inR y) (h1 : y < x → Wp d is ls st σ Q) (h2 : ¬ y < x → Wp d (gb a b) ls st σ Q) : Wp d ((66, a, b, c) :: is) ls (.int (oI y) :: .int (oI x) :: st) σ Q := by
  refine r_66.mpr ?_; rw [toInt_oI hx, toInt_oI hy]; exact ⟨h2, h1⟩
theorem s67 (hx : inR x) (h1 : x = 0 → Wp d (gb a b) ls st σ Q) (h2 : ¬ x = 0 → Wp d is ls st σ Q) : Wp d ((67, a, b, c) :: is) ls (.int (oI x) :: st) σ Q := by
  refine r_67.mpr ?_; rw [toInt_oI hx]; exact ⟨h1, h2⟩
theorem s68 (hx : inR x) (h1 : x = 0 → Wp d is ls st σ Q) (h2 : ¬ x = 0 → Wp d (gb a b) ls st σ Q) : Wp d ((68, a, b, c) :: is) ls (.int (oI x) :: st) σ Q := by
  refine r_68.mpr ?_; rw [toInt_oI hx]; exact ⟨h2, h1⟩
theorem s69 (hx : inR x) (h1 : x < 0 → Wp d (gb a b) ls st σ Q) (h2 : ¬ x < 0 → Wp d is ls st σ Q) : Wp d ((69, a, b, c) :: is) ls (.int (oI x) :: st) σ Q := by
  refine r_69.mpr ?_; rw [toInt_oI hx]; exact ⟨h1, h2⟩
theorem s70 (hx : inR x) (h1 : x < 0 → Wp d is ls st σ Q) (h2 : ¬ x < 0 → Wp d (gb a b) ls st σ Q) : Wp d ((70, a, b, c) :: is) ls (.int (oI x) :: st) σ Q := by
  refine r_70.mpr ?_; rw [toInt_oI hx]; exact ⟨h2, h1⟩
theorem s71 (hx : inR x) (h1 : 0 < x → Wp d (gb a b) ls st σ Q) (h2 : ¬ 0 < x → Wp d is ls st σ Q) : Wp d ((71, a, b, c) :: is) ls (.int (oI x) :: st) σ Q := by
  refine r_71.mpr ?_; rw [toInt_oI hx]; exact ⟨h1, h2⟩
theorem s72 (hx : inR x) (h1 : 0 < x → Wp d is ls st σ Q) (h2 : ¬ 0 < x → Wp d (gb a b) ls st σ Q) : Wp d ((72, a, b, c) :: is) ls (.int (oI x) :: st) σ Q := by
  refine r_72.mpr ?_; rw [toInt_oI hx]; exact ⟨h2, h1⟩
theorem s73o (h1 : o = none → Wp d (gb a b) ls st σ Q) (h2 : ∀ p, o = some p → Wp d is ls st σ Q) : Wp d ((73, a, b, c) :: is) ls (vR o :: st) σ Q := by
  cases o with
  | none => exact (w_br (i := (73, a, b, c)) (q := (a, b)) (st' := st) (Nat.not_lt_of_le (Nat.le_of_ble_eq_true rfl)) (Nat.le_of_ble_eq_true rfl) rfl).mpr (h1 rfl)
  | some p => exact (w_nbr (i := (73, a, b, c)) (st' := st) (Nat.not_lt_of_le (Nat.le_of_ble_eq_true rfl)) (Nat.le_of_ble_eq_true rfl) rfl).mpr (h2 p rfl)
theorem s74o (h1 : o = none → Wp d is ls st σ Q) (h2 : ∀ p, o = some p → Wp d (gb a b) ls st σ Q) : Wp d ((74, a, b, c) :: is) ls (vR o :: st) σ Q := by
  cases o with
  | some p => exact (w_br (i := (74, a, b, c)) (q := (a, b)) (st' := st) (Nat.not_lt_of_le (Nat.le_of_ble_eq_true rfl)) (Nat.le_of_ble_eq_true rfl) rfl).mpr (h2 p rfl)
  | none => exact (w_nbr (i := (74, a, b, c)) (st' := st) (Nat.not_lt_of_le (Nat.le_of_ble_eq_true rfl)) (Nat.le_of_ble_eq_true rfl) rfl).mpr (h1 rfl)
theorem s76 (hx : inR x) (h : Wp d (gb a (mSel ((jSW.getD a []).getD b []) (x - c))) ls st σ Q) : Wp d ((76, a, b, c) :: is) ls (.int (oI x) :: st) σ Q := by
  refine r_76.mpr ?_; rw [toInt_oI hx]; exact h
theorem s80 (h : Q (some (.int (oI x))) σ) : Wp d ((80, a, b, c) :: is) ls [.int (oI x)] σ Q := r_80.mpr h
theorem s81 (h : Q (some (.long X)) σ) : Wp d ((81, a, b, c) :: is) ls [.long X] σ Q := r_81.mpr h
theorem s82o (h : Q (some (vR o)) σ) : Wp d ((82, a, b, c) :: is) ls [vR o] σ Q := by
  cases o <;> exact (w_ret (i := (82, a, b, c)) (Nat.not_lt_of_le (Nat.le_of_ble_eq_true rfl)) (Nat.le_of_ble_eq_true rfl) rfl).mpr h
theorem s83 (h : Q none σ) : Wp d ((83, a, b, c) :: is) ls [] σ Q := r_83.mpr h
theorem s84 (hx : x = 0 ∨ x = 1) (h : Q (some (.int (oI x))) σ) : Wp d ((84, a, b, c) :: is) ls [.int (oI x)] σ Q := r_84.mpr ⟨mNar1 hx, h⟩
theorem sV {as : List Value} (hr : mRcv m as σ = true) (hp : mPop n [] st = some (as, ls')) (hl : ls'.length ≤ 4) (h : CallV d m as σ (fun s => Wp (d + 1) is ls ls' s Q)) : Wp (d + 1) ((100, m, n, c) :: is) ls st σ Q := (w_callV hp).mpr ⟨⟨hr, hl⟩, h⟩
theorem sI {as : List Value} (hr : mRcv m as σ = true) (hp : mPop n [] st = some (as, ls')) (hl : ls'.length ≤ 4) (h : CallI d m as σ (fun x s => Wp (d + 1) is ls (.int x :: ls') s Q)) : Wp (d + 1) ((101, m, n, c) :: is) ls st σ Q := (w_callI hp).mpr ⟨⟨hr, hl⟩, h⟩
theorem sL {as : List Value} (hr : mRcv m as σ = true) (hp : mPop n [] st = some (as, ls')) (hl : ls'.length ≤ 4) (h : CallL d m as σ (fun x s => Wp (d + 1) is ls (.long x :: ls') s Q)) : Wp (d + 1) ((102, m, n, c) :: is) ls st σ Q := (w_callL hp).mpr ⟨⟨hr, hl⟩, h⟩
theorem sR {as : List Value} (hr : mRcv m as σ = true) (hp : mPop n [] st = some (as, ls')) (hl : ls'.length ≤ 4) (h : CallR d m as σ (fun x s => Wp (d + 1) is ls (vR x :: ls') s Q)) : Wp (d + 1) ((103, m, n, c) :: is) ls st σ Q := (w_callR hp).mpr ⟨⟨hr, hl⟩, h⟩
def rqI (K : Int32 → mM → Prop) : Option Value → mM → Prop := fun v s => ∃ x, v = some (.int x) ∧ K x s
def rqV (K : mM → Prop) : Option Value → mM → Prop := fun v s => v = none ∧ K s
def rqL (K : Int64 → mM → Prop) : Option Value → mM → Prop := fun v s => ∃ x, v = some (.long x) ∧ K x s
def rqR (K : Option Nat → mM → Prop) : Option Value → mM → Prop := fun v s => ∃ x, v = some (vR x) ∧ K x s
theorem rqI_of {K : Int32 → mM → Prop} {x : Int32} (h : K x σ) : rqI K (some (.int x)) σ := ⟨x, rfl, h⟩
theorem rqV_of {K : mM → Prop} (h : K σ) : rqV K none σ := ⟨rfl, h⟩
theorem rqL_of {K : Int64 → mM → Prop} {x : Int64} (h : K x σ) : rqL K (some (.long x)) σ := ⟨x, rfl, h⟩
theorem rqR_of {K : Option Nat → mM → Prop} {x : Option Nat} (h : K x σ) : rqR K (some (vR x)) σ := ⟨x, rfl, h⟩
theorem cI_of {K : Int32 → mM → Prop} {as : List Value} (hl : mkL m as = ls) (h : Wp d (gb m 0) ls [] σ (rqI K)) : CallI d m as σ K := by unfold CallI; rw [hl]; exact h
theorem cV_of {K : mM → Prop} {as : List Value} (hl : mkL m as = ls) (h : Wp d (gb m 0) ls [] σ (rqV K)) : CallV d m as σ K := by unfold CallV; rw [hl]; exact h
theorem cL_of {K : Int64 → mM → Prop} {as : List Value} (hl : mkL m as = ls) (h : Wp d (gb m 0) ls [] σ (rqL K)) : CallL d m as σ K := by unfold CallL; rw [hl]; exact h
theorem cR_of {K : Option Nat → mM → Prop} {as : List Value} (hl : mkL m as = ls) (h : Wp d (gb m 0) ls [] σ (rqR K)) : CallR d m as σ K := by unfold CallR; rw [hl]; exact h
theorem v2_ne {α : Type} {f : Nat → Nat → α} {a k a' k' : Nat} {v : α} (h : a' ≠ a) : u2 f a k v a' k' = f a' k' := if_neg (fun q => h q.1)
theorem v2_nk {α : Type} {f : Nat → Nat → α} {a k a' k' : Nat} {v : α} (h : k' ≠ k) : u2 f a k v a' k' = f a' k' := if_neg (fun q => h q.2)
theorem v2_eq {α : Type} {f : Nat → Nat → α} {a k : Nat} {v : α} : u2 f a k v a k = v := if_pos ⟨rfl, rfl⟩
end
