section
variable {d a b m n : Nat} {z : Int} {is : List mIns} {ls st r : List Value} {σ : mM} {Q : Option Value → mM → Prop}
variable {v0 v1 v2 v3 v4 v5 v6 v7 v8 v9 v10 v11 v : Value} {x y : Int32} {X Y : Int64} {p q : Nat}
theorem w_stepn {c : Prop} {hc : Decidable c} {i : mIns} {ls' st' : List Value} {σ' : mM} (h60 : i.1 < 60) (h : mstep i ls st σ = if c then none else some (ls', st', σ')) : Wp d (i :: is) ls st σ Q ↔ ¬ c ∧ Wp d is ls' st' σ' Q := by
  by_cases q : c
  · rw [if_pos q] at h
    rw [w_none h60 h]
    exact ⟨False.elim, fun k => k.1 q⟩
  · rw [if_neg q] at h
    rw [w_step h60 h]
    exact ⟨fun k => ⟨q, k⟩, fun k => k.2⟩
theorem w_acmp : Wp d ((75, a, b, z) :: is) ls (.ref p :: .ref q :: st) σ Q ↔ (nSP ≤ p ∧ nSP ≤ q) ∧ (p = q → Wp d (gb a b) ls st σ Q) ∧ (¬ p = q → Wp d is ls st σ Q) := by
  by_cases h : nSP ≤ p ∧ nSP ≤ q
  · rw [w_if (i := (75, a, b, z)) (c := p = q) (q := (a, b)) (st' := st) (Nat.not_lt_of_le (Nat.le_of_ble_eq_true rfl)) (Nat.le_of_ble_eq_true rfl) (show mbr (75, a, b, z) (.ref p :: .ref q :: st) = some (if p = q then some (a, b) else none, st) from if_pos h)]
    exact ⟨fun k => ⟨h, k⟩, fun k => k.2⟩
  · refine ⟨?_, fun k => absurd k.1 h⟩
    rintro ⟨n, v, s, h1, -⟩
    cases n with
    | zero => simp [ex_zero] at h1
    | succ n =>
      rw [ex_cons] at h1
      simp [mbr, h] at h1
theorem r_0 : Wp d ((0, a, b, z) :: is) ls (st) σ Q ↔ Wp d is ls (.int (oI z) :: st) σ Q := w_step (Nat.le_of_ble_eq_true rfl) rfl
theorem r_2 : Wp d ((2, a, b, z) :: is) ls (st) σ Q ↔ Wp d is ls (.long (Int64.ofInt z) :: st) σ Q := w_step (Nat.le_of_ble_eq_true rfl) rfl
theorem r_3 : Wp d ((3, a, b, z) :: is) ls (st) σ Q ↔ Wp d is ls (.null :: st) σ Q := w_step (Nat.le_of_ble_eq_true rfl) rfl
theorem r_4_0 : Wp d ((4, 0, b, z) :: is) (.int x :: r) (st) σ Q ↔ Wp d is (.int x :: r) (.int x :: st) σ Q := w_step (Nat.le_of_ble_eq_true rfl) rfl
theorem r_5_0 : Wp d ((5, 0, b, z) :: is) (.long X :: r) (st) σ Q ↔ Wp d is (.long X :: r) (.long X :: st) σ Q := w_step (Nat.le_of_ble_eq_true rfl) rfl
theorem r_6_0 : Wp d ((6, 0, b, z) :: is) (.ref p :: r) (st) σ Q ↔ Wp d is (.ref p :: r) (.ref p :: st) σ Q := w_step (Nat.le_of_ble_eq_true rfl) rfl
theorem r_6n_0 : Wp d ((6, 0, b, z) :: is) (.null :: r) (st) σ Q ↔ Wp d is (.null :: r) (.null :: st) σ Q := w_step (Nat.le_of_ble_eq_true rfl) rfl
theorem r_6v_0 {o : Option Nat} : Wp d ((6, 0, b, z) :: is) (vR o :: r) (st) σ Q ↔ Wp d is (vR o :: r) (vR o :: st) σ Q := by cases o <;> exact w_step (Nat.le_of_ble_eq_true rfl) rfl
theorem r_7_0 : Wp d ((7, 0, b, z) :: is) (v :: r) (.int x :: st) σ Q ↔ Wp d is (.int x :: r) (st) σ Q := w_step (Nat.le_of_ble_eq_true rfl) rfl
theorem r_9_0 : Wp d ((9, 0, b, z) :: is) (v :: r) (.ref p :: st) σ Q ↔ Wp d is (.ref p :: r) (st) σ Q := w_step (Nat.le_of_ble_eq_true rfl) rfl
theorem r_9n_0 : Wp d ((9, 0, b, z) :: is) (v :: r) (.null :: st) σ Q ↔ Wp d is (.null :: r) (st) σ Q := w_step (Nat.le_of_ble_eq_true rfl) rfl
theorem r_9v_0 {o : Option Nat} : Wp d ((9, 0, b, z) :: is) (v :: r) (vR o :: st) σ Q ↔ Wp d is (vR o :: r) (st) σ Q := by cases o <;> exact w_step (Nat.le_of_ble_eq_true rfl) rfl
theorem r_8_0 : Wp d ((8, 0, b, z) :: is) (v :: v11 :: r) (.long X :: st) σ Q ↔ Wp d is (.long X :: mUn :: r) (st) σ Q := w_step (Nat.le_of_ble_eq_true rfl) rfl
theorem r_10_0 : Wp d ((10, 0, b, z) :: is) (.int x :: r) (st) σ Q ↔ Wp d is (.int (x + oI z) :: r) (st) σ Q := w_step (Nat.le_of_ble_eq_true rfl) rfl
theorem r_4_1 : Wp d ((4, 1, b, z) :: is) (v0 :: .int x :: r) (st) σ Q ↔ Wp d is (v0 :: .int x :: r) (.int x :: st) σ Q := w_step (Nat.le_of_ble_eq_true rfl) rfl
theorem r_5_1 : Wp d ((5, 1, b, z) :: is) (v0 :: .long X :: r) (st) σ Q ↔ Wp d is (v0 :: .long X :: r) (.long X :: st) σ Q := w_step (Nat.le_of_ble_eq_true rfl) rfl
theorem r_6_1 : Wp d ((6, 1, b, z) :: is) (v0 :: .ref p :: r) (st) σ Q ↔ Wp d is (v0 :: .ref p :: r) (.ref p :: st) σ Q := w_step (Nat.le_of_ble_eq_true rfl) rfl
theorem r_6n_1 : Wp d ((6, 1, b, z) :: is) (v0 :: .null :: r) (st) σ Q ↔ Wp d is (v0 :: .null :: r) (.null :: st) σ Q := w_step (Nat.le_of_ble_eq_true rfl) rfl
theorem r_6v_1 {o : Option Nat} : Wp d ((6, 1, b, z) :: is) (v0 :: vR o :: r) (st) σ Q ↔ Wp d is (v0 :: vR o :: r) (vR o :: st) σ Q := by cases o <;> exact w_step (Nat.le_of_ble_eq_true rfl) rfl
theorem r_7_1 : Wp d ((7, 1, b, z) :: is) (v0 :: v :: r) (.int x :: st) σ Q ↔ Wp d is (mNl v0 :: .int x :: r) (st) σ Q := w_step (Nat.le_of_ble_eq_true rfl) rfl
theorem r_9_1 : Wp d ((9, 1, b, z) :: is) (v0 :: v :: r) (.ref p :: st) σ Q ↔ Wp d is (mNl v0 :: .ref p :: r) (st) σ Q := w_step (Nat.le_of_ble_eq_true rfl) rfl
theorem r_9n_1 : Wp d ((9, 1, b, z) :: is) (v0 :: v :: r) (.null :: st) σ Q ↔ Wp d is (mNl v0 :: .null :: r) (st) σ Q := w_step (Nat.le_of_ble_eq_true rfl) rfl
theorem r_9v_1 {o : Option Nat} : Wp d ((9, 1, b, z) :: is) (v0 :: v :: r) (vR o :: st) σ Q ↔ Wp d is (mNl v0 :: vR o :: r) (st) σ Q := by cases o <;> exact w_step (Nat.le_of_ble_eq_true rfl) rfl
theorem r_8_1 : Wp d ((8, 1, b, z) :: is) (v0 :: v :: v11 :: r) (.long X :: st) σ Q ↔ Wp d is (mNl v0 :: .long X :: mUn :: r) (st) σ Q := w_step (Nat.le_of_ble_eq_true rfl) rfl
theorem r_10_1 : Wp d ((10, 1, b, z) :: is) (v0 :: .int x :: r) (st) σ Q ↔ Wp d is (mNl v0 :: .int (x + oI z) :: r) (st) σ Q := w_step (Nat.le_of_ble_eq_true rfl) rfl
theorem r_4_2 : Wp d ((4, 2, b, z) :: is) (v0 :: v1 :: .int x :: r) (st) σ Q ↔ Wp d is (v0 :: v1 :: .int x :: r) (.int x :: st) σ Q := w_step (Nat.le_of_ble_eq_true rfl) rfl
theorem r_5_2 : Wp d ((5, 2, b, z) :: is) (v0 :: v1 :: .long X :: r) (st) σ Q ↔ Wp d is (v0 :: v1 :: .long X :: r) (.long X :: st) σ Q := w_step (Nat.le_of_ble_eq_true rfl) rfl
theorem r_6_2 : Wp d ((6, 2, b, z) :: is) (v0 :: v1 :: .ref p :: r) (st) σ Q ↔ Wp d is (v0 :: v1 :: .ref p :: r) (.ref p :: st) σ Q := w_step (Nat.le_of_ble_eq_true rfl) rfl
theorem r_6n_2 : Wp d ((6, 2, b, z) :: is) (v0 :: v1 :: .null :: r) (st) σ Q ↔ Wp d is (v0 :: v1 :: .null :: r) (.null :: st) σ Q := w_step (Nat.le_of_ble_eq_true rfl) rfl
theorem r_6v_2 {o : Option Nat} : Wp d ((6, 2, b, z) :: is) (v0 :: v1 :: vR o :: r) (st) σ Q ↔ Wp d is (v0 :: v1 :: vR o :: r) (vR o :: st) σ Q := by cases o <;> exact w_step (Nat.le_of_ble_eq_true rfl) rfl
theorem r_7_2 : Wp d ((7, 2, b, z) :: is) (v0 :: v1 :: v :: r) (.int x :: st) σ Q ↔ Wp d is (v0 :: mNl v1 :: .int x :: r) (st) σ Q := w_step (Nat.le_of_ble_eq_true rfl) rfl
theorem r_9_2 : Wp d ((9, 2, b, z) :: is) (v0 :: v1 :: v :: r) (.ref p :: st) σ Q ↔ Wp d is (v0 :: mNl v1 :: .ref p :: r) (st) σ Q := w_step (Nat.le_of_ble_eq_true rfl) rfl
theorem r_9n_2 : Wp d ((9, 2, b, z) :: is) (v0 :: v1 :: v :: r) (.null :: st) σ Q ↔ Wp d is (v0 :: mNl v1 :: .null :: r) (st) σ Q := w_step (Nat.le_of_ble_eq_true rfl) rfl
theorem r_9v_2 {o : Option Nat} : Wp d ((9, 2, b, z) :: is) (v0 :: v1 :: v :: r) (vR o :: st) σ Q ↔ Wp d is (v0 :: mNl v1 :: vR o :: r) (st) σ Q := by cases o <;> exact w_step (Nat.le_of_ble_eq_true rfl) rfl
theorem r_8_2 : Wp d ((8, 2, b, z) :: is) (v0 :: v1 :: v :: v11 :: r) (.long X :: st) σ Q ↔ Wp d is (v0 :: mNl v1 :: .long X :: mUn :: r) (st) σ Q := w_step (Nat.le_of_ble_eq_true rfl) rfl
theorem r_10_2 : Wp d ((10, 2, b, z) :: is) (v0 :: v1 :: .int x :: r) (st) σ Q ↔ Wp d is (v0 :: mNl v1 :: .int (x + oI z) :: r) (st) σ Q := w_step (Nat.le_of_ble_eq_true rfl) rfl
theorem r_4_3 : Wp d ((4, 3, b, z) :: is) (v0 :: v1 :: v2 :: .int x :: r) (st) σ Q ↔ Wp d is (v0 :: v1 :: v2 :: .int x :: r) (.int x :: st) σ Q := w_step (Nat.le_of_ble_eq_true rfl) rfl
theorem r_5_3 : Wp d ((5, 3, b, z) :: is) (v0 :: v1 :: v2 :: .long X :: r) (st) σ Q ↔ Wp d is (v0 :: v1 :: v2 :: .long X :: r) (.long X :: st) σ Q := w_step (Nat.le_of_ble_eq_true rfl) rfl
theorem r_6_3 : Wp d ((6, 3, b, z) :: is) (v0 :: v1 :: v2 :: .ref p :: r) (st) σ Q ↔ Wp d is (v0 :: v1 :: v2 :: .ref p :: r) (.ref p :: st) σ Q := w_step (Nat.le_of_ble_eq_true rfl) rfl
theorem r_6n_3 : Wp d ((6, 3, b, z) :: is) (v0 :: v1 :: v2 :: .null :: r) (st) σ Q ↔ Wp d is (v0 :: v1 :: v2 :: .null :: r) (.null :: st) σ Q := w_step (Nat.le_of_ble_eq_true rfl) rfl
theorem r_6v_3 {o : Option Nat} : Wp d ((6, 3, b, z) :: is) (v0 :: v1 :: v2 :: vR o :: r) (st) σ Q ↔ Wp d is (v0 :: v1 :: v2 :: vR o :: r) (vR o :: st) σ Q := by cases o <;> exact w_step (Nat.le_of_ble_eq_true rfl) rfl
theorem r_7_3 : Wp d ((7, 3, b, z) :: is) (v0 :: v1 :: v2 :: v :: r) (.int x :: st) σ Q ↔ Wp d is (v0 :: v1 :: mNl v2 :: .int x :: r) (st) σ Q := w_step (Nat.le_of_ble_eq_true rfl) rfl
theorem r_9_3 : Wp d ((9, 3, b, z) :: is) (v0 :: v1 :: v2 :: v :: r) (.ref p :: st) σ Q ↔ Wp d is (v0 :: v1 :: mNl v2 :: .ref p :: r) (st) σ Q := w_step (Nat.le_of_ble_eq_true rfl) rfl
theorem r_9n_3 : Wp d ((9, 3, b, z) :: is) (v0 :: v1 :: v2 :: v :: r) (.null :: st) σ Q ↔ Wp d is (v0 :: v1 :: mNl v2 :: .null :: r) (st) σ Q := w_step (Nat.le_of_ble_eq_true rfl) rfl
theorem r_9v_3 {o : Option Nat} : Wp d ((9, 3, b, z) :: is) (v0 :: v1 :: v2 :: v :: r) (vR o :: st) σ Q ↔ Wp d is (v0 :: v1 :: mNl v2 :: vR o :: r) (st) σ Q := by cases o <;> exact w_step (Nat.le_of_ble_eq_true rfl) rfl
theorem r_8_3 : Wp d ((8, 3, b, z) :: is) (v0 :: v1 :: v2 :: v :: v11 :: r) (.long X :: st) σ Q ↔ Wp d is (v0 :: v1 :: mNl v2 :: .long X :: mUn :: r) (st) σ Q := w_step (Nat.le_of_ble_eq_true rfl) rfl
theorem r_10_3 : Wp d ((10, 3, b, z) :: is) (v0 :: v1 :: v2 :: .int x :: r) (st) σ Q ↔ Wp d is (v0 :: v1 :: mNl v2 :: .int (x + oI z) :: r) (st) σ Q := w_step (Nat.le_of_ble_eq_true rfl) rfl
theorem r_4_4 : Wp d ((4, 4, b, z) :: is) (v0 :: v1 :: v2 :: v3 :: .int x :: r) (st) σ Q ↔ Wp d is (v0 :: v1 :: v2 :: v3 :: .int x :: r) (.int x :: st) σ Q := w_step (Nat.le_of_ble_eq_true rfl) rfl
theorem r_5_4 : Wp d ((5, 4, b, z) :: is) (v0 :: v1 :: v2 :: v3 :: .long X :: r) (st) σ Q ↔ Wp d is (v0 :: v1 :: v2 :: v3 :: .long X :: r) (.long X :: st) σ Q := w_step (Nat.le_of_ble_eq_true rfl) rfl
theorem r_6_4 : Wp d ((6, 4, b, z) :: is) (v0 :: v1 :: v2 :: v3 :: .ref p :: r) (st) σ Q ↔ Wp d is (v0 :: v1 :: v2 :: v3 :: .ref p :: r) (.ref p :: st) σ Q := w_step (Nat.le_of_ble_eq_true rfl) rfl
theorem r_6n_4 : Wp d ((6, 4, b, z) :: is) (v0 :: v1 :: v2 :: v3 :: .null :: r) (st) σ Q ↔ Wp d is (v0 :: v1 :: v2 :: v3 :: .null :: r) (.null :: st) σ Q := w_step (Nat.le_of_ble_eq_true rfl) rfl
theorem r_6v_4 {o : Option Nat} : Wp d ((6, 4, b, z) :: is) (v0 :: v1 :: v2 :: v3 :: vR o :: r) (st) σ Q ↔ Wp d is (v0 :: v1 :: v2 :: v3 :: vR o :: r) (vR o :: st) σ Q := by cases o <;> exact w_step (Nat.le_of_ble_eq_true rfl) rfl
theorem r_7_4 : Wp d ((7, 4, b, z) :: is) (v0 :: v1 :: v2 :: v3 :: v :: r) (.int x :: st) σ Q ↔ Wp d is (v0 :: v1 :: v2 :: mNl v3 :: .int x :: r) (st) σ Q := w_step (Nat.le_of_ble_eq_true rfl) rfl
theorem r_9_4 : Wp d ((9, 4, b, z) :: is) (v0 :: v1 :: v2 :: v3 :: v :: r) (.ref p :: st) σ Q ↔ Wp d is (v0 :: v1 :: v2 :: mNl v3 :: .ref p :: r) (st) σ Q := w_step (Nat.le_of_ble_eq_true rfl) rfl
theorem r_9n_4 : Wp d ((9, 4, b, z) :: is) (v0 :: v1 :: v2 :: v3 :: v :: r) (.null :: st) σ Q ↔ Wp d is (v0 :: v1 :: v2 :: mNl v3 :: .null :: r) (st) σ Q := w_step (Nat.le_of_ble_eq_true rfl) rfl
theorem r_9v_4 {o : Option Nat} : Wp d ((9, 4, b, z) :: is) (v0 :: v1 :: v2 :: v3 :: v :: r) (vR o :: st) σ Q ↔ Wp d is (v0 :: v1 :: v2 :: mNl v3 :: vR o :: r) (st) σ Q := by cases o <;> exact w_step (Nat.le_of_ble_eq_true rfl) rfl
theorem r_8_4 : Wp d ((8, 4, b, z) :: is) (v0 :: v1 :: v2 :: v3 :: v :: v11 :: r) (.long X :: st) σ Q ↔ Wp d is (v0 :: v1 :: v2 :: mNl v3 :: .long X :: mUn :: r) (st) σ Q := w_step (Nat.le_of_ble_eq_true rfl) rfl
theorem r_10_4 : Wp d ((10, 4, b, z) :: is) (v0 :: v1 :: v2 :: v3 :: .int x :: r) (st) σ Q ↔ Wp d is (v0 :: v1 :: v2 :: mNl v3 :: .int (x + oI z) :: r) (st) σ Q := w_step (Nat.le_of_ble_eq_true rfl) rfl
theorem r_4_5 : Wp d ((4, 5, b, z) :: is) (v0 :: v1 :: v2 :: v3 :: v4 :: .int x :: r) (st) σ Q ↔ Wp d is (v0 :: v1 :: v2 :: v3 :: v4 :: .int x :: r) (.int x :: st) σ Q := w_step (Nat.le_of_ble_eq_true rfl) rfl
theorem r_5_5 : Wp d ((5, 5, b, z) :: is) (v0 :: v1 :: v2 :: v3 :: v4 :: .long X :: r) (st) σ Q ↔ Wp d is (v0 :: v1 :: v2 :: v3 :: v4 :: .long X :: r) (.long X :: st) σ Q := w_step (Nat.le_of_ble_eq_true rfl) rfl
theorem r_6_5 : Wp d ((6, 5, b, z) :: is) (v0 :: v1 :: v2 :: v3 :: v4 :: .ref p :: r) (st) σ Q ↔ Wp d is (v0 :: v1 :: v2 :: v3 :: v4 :: .ref p :: r) (.ref p :: st) σ Q := w_step (Nat.le_of_ble_eq_true rfl) rfl
theorem r_6n_5 : Wp d ((6, 5, b, z) :: is) (v0 :: v1 :: v2 :: v3 :: v4 :: .null :: r) (st) σ Q ↔ Wp d is (v0 :: v1 :: v2 :: v3 :: v4 :: .null :: r) (.null :: st) σ Q := w_step (Nat.le_of_ble_eq_true rfl) rfl
theorem r_6v_5 {o : Option Nat} : Wp d ((6, 5, b, z) :: is) (v0 :: v1 :: v2 :: v3 :: v4 :: vR o :: r) (st) σ Q ↔ Wp d is (v0 :: v1 :: v2 :: v3 :: v4 :: vR o :: r) (vR o :: st) σ Q := by cases o <;> exact w_step (Nat.le_of_ble_eq_true rfl) rfl
theorem r_7_5 : Wp d ((7, 5, b, z) :: is) (v0 :: v1 :: v2 :: v3 :: v4 :: v :: r) (.int x :: st) σ Q ↔ Wp d is (v0 :: v1 :: v2 :: v3 :: mNl v4 :: .int x :: r) (st) σ Q := w_step (Nat.le_of_ble_eq_true rfl) rfl
theorem r_9_5 : Wp d ((9, 5, b, z) :: is) (v0 :: v1 :: v2 :: v3 :: v4 :: v :: r) (.ref p :: st) σ Q ↔ Wp d is (v0 :: v1 :: v2 :: v3 :: mNl v4 :: .ref p :: r) (st) σ Q := w_step (Nat.le_of_ble_eq_true rfl) rfl
theorem r_9n_5 : Wp d ((9, 5, b, z) :: is) (v0 :: v1 :: v2 :: v3 :: v4 :: v :: r) (.null :: st) σ Q ↔ Wp d is (v0 :: v1 :: v2 :: v3 :: mNl v4 :: .null :: r) (st) σ Q := w_step (Nat.le_of_ble_eq_true rfl) rfl
theorem r_9v_5 {o : Option Nat} : Wp d ((9, 5, b, z) :: is) (v0 :: v1 :: v2 :: v3 :: v4 :: v :: r) (vR o :: st) σ Q ↔ Wp d is (v0 :: v1 :: v2 :: v3 :: mNl v4 :: vR o :: r) (st) σ Q := by cases o <;> exact w_step (Nat.le_of_ble_eq_true rfl) rfl
theorem r_8_5 : Wp d ((8, 5, b, z) :: is) (v0 :: v1 :: v2 :: v3 :: v4 :: v :: v11 :: r) (.long X :: st) σ Q ↔ Wp d is (v0 :: v1 :: v2 :: v3 :: mNl v4 :: .long X :: mUn :: r) (st) σ Q := w_step (Nat.le_of_ble_eq_true rfl) rfl
theorem r_10_5 : Wp d ((10, 5, b, z) :: is) (v0 :: v1 :: v2 :: v3 :: v4 :: .int x :: r) (st) σ Q ↔ Wp d is (v0 :: v1 :: v2 :: v3 :: mNl v4 :: .int (x + oI z) :: r) (st) σ Q := w_step (Nat.le_of_ble_eq_true rfl) rfl
theorem r_4_6 : Wp d ((4, 6, b, z) :: is) (v0 :: v1 :: v2 :: v3 :: v4 :: v5 :: .int x :: r) (st) σ Q ↔ Wp d is (v0 :: v1 :: v2 :: v3 :: v4 :: v5 :: .int x :: r) (.int x :: st) σ Q := w_step (Nat.le_of_ble_eq_true rfl) rfl
theorem r_5_6 : Wp d ((5, 6, b, z) :: is) (v0 :: v1 :: v2 :: v3 :: v4 :: v5 :: .long X :: r) (st) σ Q ↔ Wp d is (v0 :: v1 :: v2 :: v3 :: v4 :: v5 :: .long X :: r) (.long X :: st) σ Q := w_step (Nat.le_of_ble_eq_true rfl) rfl
theorem r_6_6 : Wp d ((6, 6, b, z) :: is) (v0 :: v1 :: v2 :: v3 :: v4 :: v5 :: .ref p :: r) (st) σ Q ↔ Wp d is (v0 :: v1 :: v2 :: v3 :: v4 :: v5 :: .ref p :: r) (.ref p :: st) σ Q := w_step (Nat.le_of_ble_eq_true rfl) rfl
theorem r_6n_6 : Wp d ((6, 6, b, z) :: is) (v0 :: v1 :: v2 :: v3 :: v4 :: v5 :: .null :: r) (st) σ Q ↔ Wp d is (v0 :: v1 :: v2 :: v3 :: v4 :: v5 :: .null :: r) (.null :: st) σ Q := w_step (Nat.le_of_ble_eq_true rfl) rfl
theorem r_6v_6 {o : Option Nat} : Wp d ((6, 6, b, z) :: is) (v0 :: v1 :: v2 :: v3 :: v4 :: v5 :: vR o :: r) (st) σ Q ↔ Wp d is (v0 :: v1 :: v2 :: v3 :: v4 :: v5 :: vR o :: r) (vR o :: st) σ Q := by cases o <;> exact w_step (Nat.le_of_ble_eq_true rfl) rfl
theorem r_7_6 : Wp d ((7, 6, b, z) :: is) (v0 :: v1 :: v2 :: v3 :: v4 :: v5 :: v :: r) (.int x :: st) σ Q ↔ Wp d is (v0 :: v1 :: v2 :: v3 :: v4 :: mNl v5 :: .int x :: r) (st) σ Q := w_step (Nat.le_of_ble_eq_true rfl) rfl
theorem r_9_6 : Wp d ((9, 6, b, z) :: is) (v0 :: v1 :: v2 :: v3 :: v4 :: v5 :: v :: r) (.ref p :: st) σ Q ↔ Wp d is (v0 :: v1 :: v2 :: v3 :: v4 :: mNl v5 :: .ref p :: r) (st) σ Q := w_step (Nat.le_of_ble_eq_true rfl) rfl
theorem r_9n_6 : Wp d ((9, 6, b, z) :: is) (v0 :: v1 :: v2 :: v3 :: v4 :: v5 :: v :: r) (.null :: st) σ Q ↔ Wp d is (v0 :: v1 :: v2 :: v3 :: v4 :: mNl v5 :: .null :: r) (st) σ Q := w_step (Nat.le_of_ble_eq_true rfl) rfl
theorem r_9v_6 {o : Option Nat} : Wp d ((9, 6, b, z) :: is) (v0 :: v1 :: v2 :: v3 :: v4 :: v5 :: v :: r) (vR o :: st) σ Q ↔ Wp d is (v0 :: v1 :: v2 :: v3 :: v4 :: mNl v5 :: vR o :: r) (st) σ Q := by cases o <;> exact w_step (Nat.le_of_ble_eq_true rfl) rfl
theorem r_8_6 : Wp d ((8, 6, b, z) :: is) (v0 :: v1 :: v2 :: v3 :: v4 :: v5 :: v :: v11 :: r) (.long X :: st) σ Q ↔ Wp d is (v0 :: v1 :: v2 :: v3 :: v4 :: mNl v5 :: .long X :: mUn :: r) (st) σ Q := w_step (Nat.le_of_ble_eq_true rfl) rfl
theorem r_10_6 : Wp d ((10, 6, b, z) :: is) (v0 :: v1 :: v2 :: v3 :: v4 :: v5 :: .int x :: r) (st) σ Q ↔ Wp d is (v0 :: v1 :: v2 :: v3 :: v4 :: mNl v5 :: .int (x + oI z) :: r) (st) σ Q := w_step (Nat.le_of_ble_eq_true rfl) rfl
theorem r_4_7 : Wp d ((4, 7, b, z) :: is) (v0 :: v1 :: v2 :: v3 :: v4 :: v5 :: v6 :: .int x :: r) (st) σ Q ↔ Wp d is (v0 :: v1 :: v2 :: v3 :: v4 :: v5 :: v6 :: .int x :: r) (.int x :: st) σ Q := w_step (Nat.le_of_ble_eq_true rfl) rfl
theorem r_5_7 : Wp d ((5, 7, b, z) :: is) (v0 :: v1 :: v2 :: v3 :: v4 :: v5 :: v6 :: .long X :: r) (st) σ Q ↔ Wp d is (v0 :: v1 :: v2 :: v3 :: v4 :: v5 :: v6 :: .long X :: r) (.long X :: st) σ Q := w_step (Nat.le_of_ble_eq_true rfl) rfl
theorem r_6_7 : Wp d ((6, 7, b, z) :: is) (v0 :: v1 :: v2 :: v3 :: v4 :: v5 :: v6 :: .ref p :: r) (st) σ Q ↔ Wp d is (v0 :: v1 :: v2 :: v3 :: v4 :: v5 :: v6 :: .ref p :: r) (.ref p :: st) σ Q := w_step (Nat.le_of_ble_eq_true rfl) rfl
theorem r_6n_7 : Wp d ((6, 7, b, z) :: is) (v0 :: v1 :: v2 :: v3 :: v4 :: v5 :: v6 :: .null :: r) (st) σ Q ↔ Wp d is (v0 :: v1 :: v2 :: v3 :: v4 :: v5 :: v6 :: .null :: r) (.null :: st) σ Q := w_step (Nat.le_of_ble_eq_true rfl) rfl
theorem r_6v_7 {o : Option Nat} : Wp d ((6, 7, b, z) :: is) (v0 :: v1 :: v2 :: v3 :: v4 :: v5 :: v6 :: vR o :: r) (st) σ Q ↔ Wp d is (v0 :: v1 :: v2 :: v3 :: v4 :: v5 :: v6 :: vR o :: r) (vR o :: st) σ Q := by cases o <;> exact w_step (Nat.le_of_ble_eq_true rfl) rfl
theorem r_7_7 : Wp d ((7, 7, b, z) :: is) (v0 :: v1 :: v2 :: v3 :: v4 :: v5 :: v6 :: v :: r) (.int x :: st) σ Q ↔ Wp d is (v0 :: v1 :: v2 :: v3 :: v4 :: v5 :: mNl v6 :: .int x :: r) (st) σ Q := w_step (Nat.le_of_ble_eq_true rfl) rfl
theorem r_9_7 : Wp d ((9, 7, b, z) :: is) (v0 :: v1 :: v2 :: v3 :: v4 :: v5 :: v6 :: v :: r) (.ref p :: st) σ Q ↔ Wp d is (v0 :: v1 :: v2 :: v3 :: v4 :: v5 :: mNl v6 :: .ref p :: r) (st) σ Q := w_step (Nat.le_of_ble_eq_true rfl) rfl
theorem r_9n_7 : Wp d ((9, 7, b, z) :: is) (v0 :: v1 :: v2 :: v3 :: v4 :: v5 :: v6 :: v :: r) (.null :: st) σ Q ↔ Wp d is (v0 :: v1 :: v2 :: v3 :: v4 :: v5 :: mNl v6 :: .null :: r) (st) σ Q := w_step (Nat.le_of_ble_eq_true rfl) rfl
theorem r_9v_7 {o : Option Nat} : Wp d ((9, 7, b, z) :: is) (v0 :: v1 :: v2 :: v3 :: v4 :: v5 :: v6 :: v :: r) (vR o :: st) σ Q ↔ Wp d is (v0 :: v1 :: v2 :: v3 :: v4 :: v5 :: mNl v6 :: vR o :: r) (st) σ Q := by cases o <;> exact w_step (Nat.le_of_ble_eq_true rfl) rfl
theorem r_8_7 : Wp d ((8, 7, b, z) :: is) (v0 :: v1 :: v2 :: v3 :: v4 :: v5 :: v6 :: v :: v11 :: r) (.long X :: st) σ Q ↔ Wp d is (v0 :: v1 :: v2 :: v3 :: v4 :: v5 :: mNl v6 :: .long X :: mUn :: r) (st) σ Q := w_step (Nat.le_of_ble_eq_true rfl) rfl
theorem r_10_7 : Wp d ((10, 7, b, z) :: is) (v0 :: v1 :: v2 :: v3 :: v4 :: v5 :: v6 :: .int x :: r) (st) σ Q ↔ Wp d is (v0 :: v1 :: v2 :: v3 :: v4 :: v5 :: mNl v6 :: .int (x + oI z) :: r) (st) σ Q := w_step (Nat.le_of_ble_eq_true rfl) rfl
theorem r_4_8 : Wp d ((4, 8, b, z) :: is) (v0 :: v1 :: v2 :: v3 :: v4 :: v5 :: v6 :: v7 :: .int x :: r) (st) σ Q ↔ Wp d is (v0 :: v1 :: v2 :: v3 :: v4 :: v5 :: v6 :: v7 :: .int x :: r) (.int x :: st) σ Q := w_step (Nat.le_of_ble_eq_true rfl) rfl
theorem r_5_8 : Wp d ((5, 8, b, z) :: is) (v0 :: v1 :: v2 :: v3 :: v4 :: v5 :: v6 :: v7 :: .long X :: r) (st) σ Q ↔ Wp d is (v0 :: v1 :: v2 :: v3 :: v4 :: v5 :: v6 :: v7 :: .long X :: r) (.long X :: st) σ Q := w_step (Nat.le_of_ble_eq_true rfl) rfl
theorem r_6_8 : Wp d ((6, 8, b, z) :: is) (v0 :: v1 :: v2 :: v3 :: v4 :: v5 :: v6 :: v7 :: .ref p :: r) (st) σ Q ↔ Wp d is (v0 :: v1 :: v2 :: v3 :: v4 :: v5 :: v6 :: v7 :: .ref p :: r) (.ref p :: st) σ Q := w_step (Nat.le_of_ble_eq_true rfl) rfl
theorem r_6n_8 : Wp d ((6, 8, b, z) :: is) (v0 :: v1 :: v2 :: v3 :: v4 :: v5 :: v6 :: v7 :: .null :: r) (st) σ Q ↔ Wp d is (v0 :: v1 :: v2 :: v3 :: v4 :: v5 :: v6 :: v7 :: .null :: r) (.null :: st) σ Q := w_step (Nat.le_of_ble_eq_true rfl) rfl
theorem r_6v_8 {o : Option Nat} : Wp d ((6, 8, b, z) :: is) (v0 :: v1 :: v2 :: v3 :: v4 :: v5 :: v6 :: v7 :: vR o :: r) (st) σ Q ↔ Wp d is (v0 :: v1 :: v2 :: v3 :: v4 :: v5 :: v6 :: v7 :: vR o :: r) (vR o :: st) σ Q := by cases o <;> exact w_step (Nat.le_of_ble_eq_true rfl) rfl
theorem r_7_8 : Wp d ((7, 8, b, z) :: is) (v0 :: v1 :: v2 :: v3 :: v4 :: v5 :: v6 :: v7 :: v :: r) (.int x :: st) σ Q ↔ Wp d is (v0 :: v1 :: v2 :: v3 :: v4 :: v5 :: v6 :: mNl v7 :: .int x :: r) (st) σ Q := w_step (Nat.le_of_ble_eq_true rfl) rfl
theorem r_9_8 : Wp d ((9, 8, b, z) :: is) (v0 :: v1 :: v2 :: v3 :: v4 :: v5 :: v6 :: v7 :: v :: r) (.ref p :: st) σ Q ↔ Wp d is (v0 :: v1 :: v2 :: v3 :: v4 :: v5 :: v6 :: mNl v7 :: .ref p :: r) (st) σ Q := w_step (Nat.le_of_ble_eq_true rfl) rfl
theorem r_9n_8 : Wp d ((9, 8, b, z) :: is) (v0 :: v1 :: v2 :: v3 :: v4 :: v5 :: v6 :: v7 :: v :: r) (.null :: st) σ Q ↔ Wp d is (v0 :: v1 :: v2 :: v3 :: v4 :: v5 :: v6 :: mNl v7 :: .null :: r) (st) σ Q := w_step (Nat.le_of_ble_eq_true rfl) rfl
theorem r_9v_8 {o : Option Nat} : Wp d ((9, 8, b, z) :: is) (v0 :: v1 :: v2 :: v3 :: v4 :: v5 :: v6 :: v7 :: v :: r) (vR o :: st) σ Q ↔ Wp d is (v0 :: v1 :: v2 :: v3 :: v4 :: v5 :: v6 :: mNl v7 :: vR o :: r) (st) σ Q := by cases o <;> exact w_step (Nat.le_of_ble_eq_true rfl) rfl
theorem r_8_8 : Wp d ((8, 8, b, z) :: is) (v0 :: v1 :: v2 :: v3 :: v4 :: v5 :: v6 :: v7 :: v :: v11 :: r) (.long X :: st) σ Q ↔ Wp d is (v0 :: v1 :: v2 :: v3 :: v4 :: v5 :: v6 :: mNl v7 :: .long X :: mUn :: r) (st) σ Q := w_step (Nat.le_of_ble_eq_true rfl) rfl
theorem r_10_8 : Wp d ((10, 8, b, z) :: is) (v0 :: v1 :: v2 :: v3 :: v4 :: v5 :: v6 :: v7 :: .int x :: r) (st) σ Q ↔ Wp d is (v0 :: v1 :: v2 :: v3 :: v4 :: v5 :: v6 :: mNl v7 :: .int (x + oI z) :: r) (st) σ Q := w_step (Nat.le_of_ble_eq_true rfl) rfl
theorem r_4_9 : Wp d ((4, 9, b, z) :: is) (v0 :: v1 :: v2 :: v3 :: v4 :: v5 :: v6 :: v7 :: v8 :: .int x :: r) (st) σ Q ↔ Wp d is (v0 :: v1 :: v2 :: v3 :: v4 :: v5 :: v6 :: v7 :: v8 :: .int x :: r) (.int x :: st) σ Q := w_step (Nat.le_of_ble_eq_true rfl) rfl
theorem r_5_9 : Wp d ((5, 9, b, z) :: is) (v0 :: v1 :: v2 :: v3 :: v4 :: v5 :: v6 :: v7 :: v8 :: .long X :: r) (st) σ Q ↔ Wp d is (v0 :: v1 :: v2 :: v3 :: v4 :: v5 :: v6 :: v7 :: v8 :: .long X :: r) (.long X :: st) σ Q := w_step (Nat.le_of_ble_eq_true rfl) rfl
theorem r_6_9 : Wp d ((6, 9, b, z) :: is) (v0 :: v1 :: v2 :: v3 :: v4 :: v5 :: v6 :: v7 :: v8 :: .ref p :: r) (st) σ Q ↔ Wp d is (v0 :: v1 :: v2 :: v3 :: v4 :: v5 :: v6 :: v7 :: v8 :: .ref p :: r) (.ref p :: st) σ Q := w_step (Nat.le_of_ble_eq_true rfl) rfl
theorem r_6n_9 : Wp d ((6, 9, b, z) :: is) (v0 :: v1 :: v2 :: v3 :: v4 :: v5 :: v6 :: v7 :: v8 :: .null :: r) (st) σ Q ↔ Wp d is (v0 :: v1 :: v2 :: v3 :: v4 :: v5 :: v6 :: v7 :: v8 :: .null :: r) (.null :: st) σ Q := w_step (Nat.le_of_ble_eq_true rfl) rfl
theorem r_6v_9 {o : Option Nat} : Wp d ((6, 9, b, z) :: is) (v0 :: v1 :: v2 :: v3 :: v4 :: v5 :: v6 :: v7 :: v8 :: vR o :: r) (st) σ Q ↔ Wp d is (v0 :: v1 :: v2 :: v3 :: v4 :: v5 :: v6 :: v7 :: v8 :: vR o :: r) (vR o :: st) σ Q := by cases o <;> exact w_step (Nat.le_of_ble_eq_true rfl) rfl
theorem r_7_9 : Wp d ((7, 9, b, z) :: is) (v0 :: v1 :: v2 :: v3 :: v4 :: v5 :: v6 :: v7 :: v8 :: v :: r) (.int x :: st) σ Q ↔ Wp d is (v0 :: v1 :: v2 :: v3 :: v4 :: v5 :: v6 :: v7 :: mNl v8 :: .int x :: r) (st) σ Q := w_step (Nat.le_of_ble_eq_true rfl) rfl
theorem r_9_9 : Wp d ((9, 9, b, z) :: is) (v0 :: v1 :: v2 :: v3 :: v4 :: v5 :: v6 :: v7 :: v8 :: v :: r) (.ref p :: st) σ Q ↔ Wp d is (v0 :: v1 :: v2 :: v3 :: v4 :: v5 :: v6 :: v7 :: mNl v8 :: .ref p :: r) (st) σ Q := w_step (Nat.le_of_ble_eq_true rfl) rfl
theorem r_9n_9 : Wp d ((9, 9, b, z) :: is) (v0 :: v1 :: v2 :: v3 :: v4 :: v5 :: v6 :: v7 :: v8 :: v :: r) (.null :: st) σ Q ↔ Wp d is (v0 :: v1 :: v2 :: v3 :: v4 :: v5 :: v6 :: v7 :: mNl v8 :: .null :: r) (st) σ Q := w_step (Nat.le_of_ble_eq_true rfl) rfl
theorem r_9v_9 {o : Option Nat} : Wp d ((9, 9, b, z) :: is) (v0 :: v1 :: v2 :: v3 :: v4 :: v5 :: v6 :: v7 :: v8 :: v :: r) (vR o :: st) σ Q ↔ Wp d is (v0 :: v1 :: v2 :: v3 :: v4 :: v5 :: v6 :: v7 :: mNl v8 :: vR o :: r) (st) σ Q := by cases o <;> exact w_step (Nat.le_of_ble_eq_true rfl) rfl
theorem r_8_9 : Wp d ((8, 9, b, z) :: is) (v0 :: v1 :: v2 :: v3 :: v4 :: v5 :: v6 :: v7 :: v8 :: v :: v11 :: r) (.long X :: st) σ Q ↔ Wp d is (v0 :: v1 :: v2 :: v3 :: v4 :: v5 :: v6 :: v7 :: mNl v8 :: .long X :: mUn :: r) (st) σ Q := w_step (Nat.le_of_ble_eq_true rfl) rfl
theorem r_10_9 : Wp d ((10, 9, b, z) :: is) (v0 :: v1 :: v2 :: v3 :: v4 :: v5 :: v6 :: v7 :: v8 :: .int x :: r) (st) σ Q ↔ Wp d is (v0 :: v1 :: v2 :: v3 :: v4 :: v5 :: v6 :: v7 :: mNl v8 :: .int (x + oI z) :: r) (st) σ Q := w_step (Nat.le_of_ble_eq_true rfl) rfl
theorem r_4_10 : Wp d ((4, 10, b, z) :: is) (v0 :: v1 :: v2 :: v3 :: v4 :: v5 :: v6 :: v7 :: v8 :: v9 :: .int x :: r) (st) σ Q ↔ Wp d is (v0 :: v1 :: v2 :: v3 :: v4 :: v5 :: v6 :: v7 :: v8 :: v9 :: .int x :: r) (.int x :: st) σ Q := w_step (Nat.le_of_ble_eq_true rfl) rfl
theorem r_5_10 : Wp d ((5, 10, b, z) :: is) (v0 :: v1 :: v2 :: v3 :: v4 :: v5 :: v6 :: v7 :: v8 :: v9 :: .long X :: r) (st) σ Q ↔ Wp d is (v0 :: v1 :: v2 :: v3 :: v4 :: v5 :: v6 :: v7 :: v8 :: v9 :: .long X :: r) (.long X :: st) σ Q := w_step (Nat.le_of_ble_eq_true rfl) rfl
theorem r_6_10 : Wp d ((6, 10, b, z) :: is) (v0 :: v1 :: v2 :: v3 :: v4 :: v5 :: v6 :: v7 :: v8 :: v9 :: .ref p :: r) (st) σ Q ↔ Wp d is (v0 :: v1 :: v2 :: v3 :: v4 :: v5 :: v6 :: v7 :: v8 :: v9 :: .ref p :: r) (.ref p :: st) σ Q := w_step (Nat.le_of_ble_eq_true rfl) rfl
theorem r_6n_10 : Wp d ((6, 10, b, z) :: is) (v0 :: v1 :: v2 :: v3 :: v4 :: v5 :: v6 :: v7 :: v8 :: v9 :: .null :: r) (st) σ Q ↔ Wp d is (v0 :: v1 :: v2 :: v3 :: v4 :: v5 :: v6 :: v7 :: v8 :: v9 :: .null :: r) (.null :: st) σ Q := w_step (Nat.le_of_ble_eq_true rfl) rfl
theorem r_6v_10 {o : Option Nat} : Wp d ((6, 10, b, z) :: is) (v0 :: v1 :: v2 :: v3 :: v4 :: v5 :: v6 :: v7 :: v8 :: v9 :: vR o :: r) (st) σ Q ↔ Wp d is (v0 :: v1 :: v2 :: v3 :: v4 :: v5 :: v6 :: v7 :: v8 :: v9 :: vR o :: r) (vR o :: st) σ Q := by cases o <;> exact w_step (Nat.le_of_ble_eq_true rfl) rfl
theorem r_7_10 : Wp d ((7, 10, b, z) :: is) (v0 :: v1 :: v2 :: v3 :: v4 :: v5 :: v6 :: v7 :: v8 :: v9 :: v :: r) (.int x :: st) σ Q ↔ Wp d is (v0 :: v1 :: v2 :: v3 :: v4 :: v5 :: v6 :: v7 :: v8 :: mNl v9 :: .int x :: r) (st) σ Q := w_step (Nat.le_of_ble_eq_true rfl) rfl
theorem r_9_10 : Wp d ((9, 10, b, z) :: is) (v0 :: v1 :: v2 :: v3 :: v4 :: v5 :: v6 :: v7 :: v8 :: v9 :: v :: r) (.ref p :: st) σ Q ↔ Wp d is (v0 :: v1 :: v2 :: v3 :: v4 :: v5 :: v6 :: v7 :: v8 :: mNl v9 :: .ref p :: r) (st) σ Q := w_step (Nat.le_of_ble_eq_true rfl) rfl
theorem r_9n_10 : Wp d ((9, 10, b, z) :: is) (v0 :: v1 :: v2 :: v3 :: v4 :: v5 :: v6 :: v7 :: v8 :: v9 :: v :: r) (.null :: st) σ Q ↔ Wp d is (v0 :: v1 :: v2 :: v3 :: v4 :: v5 :: v6 :: v7 :: v8 :: mNl v9 :: .null :: r) (st) σ Q := w_step (Nat.le_of_ble_eq_true rfl) rfl
theorem r_9v_10 {o : Option Nat} : Wp d ((9, 10, b, z) :: is) (v0 :: v1 :: v2 :: v3 :: v4 :: v5 :: v6 :: v7 :: v8 :: v9 :: v :: r) (vR o :: st) σ Q ↔ Wp d is (v0 :: v1 :: v2 :: v3 :: v4 :: v5 :: v6 :: v7 :: v8 :: mNl v9 :: vR o :: r) (st) σ Q := by cases o <;> exact w_step (Nat.le_of_ble_eq_true rfl) rfl
theorem r_8_10 : Wp d ((8, 10, b, z) :: is) (v0 :: v1 :: v2 :: v3 :: v4 :: v5 :: v6 :: v7 :: v8 :: v9 :: v :: v11 :: r) (.long X :: st) σ Q ↔ Wp d is (v0 :: v1 :: v2 :: v3 :: v4 :: v5 :: v6 :: v7 :: v8 :: mNl v9 :: .long X :: mUn :: r) (st) σ Q := w_step (Nat.le_of_ble_eq_true rfl) rfl
theorem r_10_10 : Wp d ((10, 10, b, z) :: is) (v0 :: v1 :: v2 :: v3 :: v4 :: v5 :: v6 :: v7 :: v8 :: v9 :: .int x :: r) (st) σ Q ↔ Wp d is (v0 :: v1 :: v2 :: v3 :: v4 :: v5 :: v6 :: v7 :: v8 :: mNl v9 :: .int (x + oI z) :: r) (st) σ Q := w_step (Nat.le_of_ble_eq_true rfl) rfl
theorem r_4_11 : Wp d ((4, 11, b, z) :: is) (v0 :: v1 :: v2 :: v3 :: v4 :: v5 :: v6 :: v7 :: v8 :: v9 :: v10 :: .int x :: r) (st) σ Q ↔ Wp d is (v0 :: v1 :: v2 :: v3 :: v4 :: v5 :: v6 :: v7 :: v8 :: v9 :: v10 :: .int x :: r) (.int x :: st) σ Q := w_step (Nat.le_of_ble_eq_true rfl) rfl
theorem r_5_11 : Wp d ((5, 11, b, z) :: is) (v0 :: v1 :: v2 :: v3 :: v4 :: v5 :: v6 :: v7 :: v8 :: v9 :: v10 :: .long X :: r) (st) σ Q ↔ Wp d is (v0 :: v1 :: v2 :: v3 :: v4 :: v5 :: v6 :: v7 :: v8 :: v9 :: v10 :: .long X :: r) (.long X :: st) σ Q := w_step (Nat.le_of_ble_eq_true rfl) rfl
theorem r_6_11 : Wp d ((6, 11, b, z) :: is) (v0 :: v1 :: v2 :: v3 :: v4 :: v5 :: v6 :: v7 :: v8 :: v9 :: v10 :: .ref p :: r) (st) σ Q ↔ Wp d is (v0 :: v1 :: v2 :: v3 :: v4 :: v5 :: v6 :: v7 :: v8 :: v9 :: v10 :: .ref p :: r) (.ref p :: st) σ Q := w_step (Nat.le_of_ble_eq_true rfl) rfl
theorem r_6n_11 : Wp d ((6, 11, b, z) :: is) (v0 :: v1 :: v2 :: v3 :: v4 :: v5 :: v6 :: v7 :: v8 :: v9 :: v10 :: .null :: r) (st) σ Q ↔ Wp d is (v0 :: v1 :: v2 :: v3 :: v4 :: v5 :: v6 :: v7 :: v8 :: v9 :: v10 :: .null :: r) (.null :: st) σ Q := w_step (Nat.le_of_ble_eq_true rfl) rfl
theorem r_6v_11 {o : Option Nat} : Wp d ((6, 11, b, z) :: is) (v0 :: v1 :: v2 :: v3 :: v4 :: v5 :: v6 :: v7 :: v8 :: v9 :: v10 :: vR o :: r) (st) σ Q ↔ Wp d is (v0 :: v1 :: v2 :: v3 :: v4 :: v5 :: v6 :: v7 :: v8 :: v9 :: v10 :: vR o :: r) (vR o :: st) σ Q := by cases o <;> exact w_step (Nat.le_of_ble_eq_true rfl) rfl
theorem r_7_11 : Wp d ((7, 11, b, z) :: is) (v0 :: v1 :: v2 :: v3 :: v4 :: v5 :: v6 :: v7 :: v8 :: v9 :: v10 :: v :: r) (.int x :: st) σ Q ↔ Wp d is (v0 :: v1 :: v2 :: v3 :: v4 :: v5 :: v6 :: v7 :: v8 :: v9 :: mNl v10 :: .int x :: r) (st) σ Q := w_step (Nat.le_of_ble_eq_true rfl) rfl
theorem r_9_11 : Wp d ((9, 11, b, z) :: is) (v0 :: v1 :: v2 :: v3 :: v4 :: v5 :: v6 :: v7 :: v8 :: v9 :: v10 :: v :: r) (.ref p :: st) σ Q ↔ Wp d is (v0 :: v1 :: v2 :: v3 :: v4 :: v5 :: v6 :: v7 :: v8 :: v9 :: mNl v10 :: .ref p :: r) (st) σ Q := w_step (Nat.le_of_ble_eq_true rfl) rfl
theorem r_9n_11 : Wp d ((9, 11, b, z) :: is) (v0 :: v1 :: v2 :: v3 :: v4 :: v5 :: v6 :: v7 :: v8 :: v9 :: v10 :: v :: r) (.null :: st) σ Q ↔ Wp d is (v0 :: v1 :: v2 :: v3 :: v4 :: v5 :: v6 :: v7 :: v8 :: v9 :: mNl v10 :: .null :: r) (st) σ Q := w_step (Nat.le_of_ble_eq_true rfl) rfl
theorem r_9v_11 {o : Option Nat} : Wp d ((9, 11, b, z) :: is) (v0 :: v1 :: v2 :: v3 :: v4 :: v5 :: v6 :: v7 :: v8 :: v9 :: v10 :: v :: r) (vR o :: st) σ Q ↔ Wp d is (v0 :: v1 :: v2 :: v3 :: v4 :: v5 :: v6 :: v7 :: v8 :: v9 :: mNl v10 :: vR o :: r) (st) σ Q := by cases o <;> exact w_step (Nat.le_of_ble_eq_true rfl) rfl
theorem r_10_11 : Wp d ((10, 11, b, z) :: is) (v0 :: v1 :: v2 :: v3 :: v4 :: v5 :: v6 :: v7 :: v8 :: v9 :: v10 :: .int x :: r) (st) σ Q ↔ Wp d is (v0 :: v1 :: v2 :: v3 :: v4 :: v5 :: v6 :: v7 :: v8 :: v9 :: mNl v10 :: .int (x + oI z) :: r) (st) σ Q := w_step (Nat.le_of_ble_eq_true rfl) rfl
theorem r_12_134 : Wp d ((12, a, b, z) :: is) ls (.int x :: st) σ Q ↔ Wp d is ls (st) σ Q := w_step (Nat.le_of_ble_eq_true rfl) rfl
theorem r_13_135 : Wp d ((13, a, b, z) :: is) ls (.int x :: st) σ Q ↔ Wp d is ls (.int x :: .int x :: st) σ Q := w_step (Nat.le_of_ble_eq_true rfl) rfl
theorem r_12_136 : Wp d ((12, a, b, z) :: is) ls (.ref p :: st) σ Q ↔ Wp d is ls (st) σ Q := w_step (Nat.le_of_ble_eq_true rfl) rfl
theorem r_13_137 : Wp d ((13, a, b, z) :: is) ls (.ref p :: st) σ Q ↔ Wp d is ls (.ref p :: .ref p :: st) σ Q := w_step (Nat.le_of_ble_eq_true rfl) rfl
theorem r_12_138 : Wp d ((12, a, b, z) :: is) ls (.null :: st) σ Q ↔ Wp d is ls (st) σ Q := w_step (Nat.le_of_ble_eq_true rfl) rfl
theorem r_13_139 : Wp d ((13, a, b, z) :: is) ls (.null :: st) σ Q ↔ Wp d is ls (.null :: .null :: st) σ Q := w_step (Nat.le_of_ble_eq_true rfl) rfl
theorem r_12v {o : Option Nat} : Wp d ((12, a, b, z) :: is) ls (vR o :: st) σ Q ↔ Wp d is ls (st) σ Q := by cases o <;> exact w_step (Nat.le_of_ble_eq_true rfl) rfl
theorem r_13v {o : Option Nat} : Wp d ((13, a, b, z) :: is) ls (vR o :: st) σ Q ↔ Wp d is ls (vR o :: vR o :: st) σ Q := by cases o <;> exact w_step (Nat.le_of_ble_eq_true rfl) rfl
theorem r_14 : Wp d ((14, a, b, z) :: is) ls (.int x :: .ref p :: st) σ Q ↔ Wp d is ls (.int x :: .ref p :: .int x :: .ref p :: st) σ Q := w_step (Nat.le_of_ble_eq_true rfl) rfl
theorem r_15 : Wp d ((15, a, b, z) :: is) ls (.int x :: .ref p :: st) σ Q ↔ Wp d is ls (.int x :: .ref p :: .int x :: st) σ Q := w_step (Nat.le_of_ble_eq_true rfl) rfl
theorem r_16 : Wp d ((16, a, b, z) :: is) ls (.int y :: .int x :: st) σ Q ↔ Wp d is ls (.int (x + y) :: st) σ Q := w_step (Nat.le_of_ble_eq_true rfl) rfl
theorem r_17 : Wp d ((17, a, b, z) :: is) ls (.int y :: .int x :: st) σ Q ↔ Wp d is ls (.int (x - y) :: st) σ Q := w_step (Nat.le_of_ble_eq_true rfl) rfl
theorem r_18 : Wp d ((18, a, b, z) :: is) ls (.int y :: .int x :: st) σ Q ↔ Wp d is ls (.int (x * y) :: st) σ Q := w_step (Nat.le_of_ble_eq_true rfl) rfl
theorem r_22 : Wp d ((22, a, b, z) :: is) ls (.int y :: .int x :: st) σ Q ↔ Wp d is ls (.int (x <<< (y &&& 31)) :: st) σ Q := w_step (Nat.le_of_ble_eq_true rfl) rfl
theorem r_23 : Wp d ((23, a, b, z) :: is) ls (.int y :: .int x :: st) σ Q ↔ Wp d is ls (.int (x >>> (y &&& 31)) :: st) σ Q := w_step (Nat.le_of_ble_eq_true rfl) rfl
theorem r_24 : Wp d ((24, a, b, z) :: is) ls (.int y :: .int x :: st) σ Q ↔ Wp d is ls (.int ((x.toUInt32 >>> (y.toUInt32 &&& Int32.toUInt32 31)).toInt32) :: st) σ Q := w_step (Nat.le_of_ble_eq_true rfl) rfl
theorem r_25 : Wp d ((25, a, b, z) :: is) ls (.int y :: .int x :: st) σ Q ↔ Wp d is ls (.int (x &&& y) :: st) σ Q := w_step (Nat.le_of_ble_eq_true rfl) rfl
theorem r_26 : Wp d ((26, a, b, z) :: is) ls (.int y :: .int x :: st) σ Q ↔ Wp d is ls (.int (x ||| y) :: st) σ Q := w_step (Nat.le_of_ble_eq_true rfl) rfl
theorem r_27 : Wp d ((27, a, b, z) :: is) ls (.int y :: .int x :: st) σ Q ↔ Wp d is ls (.int (x ^^^ y) :: st) σ Q := w_step (Nat.le_of_ble_eq_true rfl) rfl
theorem r_19 : Wp d ((19, a, b, z) :: is) ls (.int y :: .int x :: st) σ Q ↔ ¬ y.toInt = 0 ∧ Wp d is ls (.int (x / y) :: st) σ Q := w_stepn (Nat.le_of_ble_eq_true rfl) rfl
theorem r_20 : Wp d ((20, a, b, z) :: is) ls (.int y :: .int x :: st) σ Q ↔ ¬ y.toInt = 0 ∧ Wp d is ls (.int (x - x / y * y) :: st) σ Q := w_stepn (Nat.le_of_ble_eq_true rfl) rfl
theorem r_21 : Wp d ((21, a, b, z) :: is) ls (.int x :: st) σ Q ↔ Wp d is ls (.int (-x) :: st) σ Q := w_step (Nat.le_of_ble_eq_true rfl) rfl
theorem r_28 : Wp d ((28, a, b, z) :: is) ls (.int x :: st) σ Q ↔ Wp d is ls (.int x.toInt8.toInt32 :: st) σ Q := w_step (Nat.le_of_ble_eq_true rfl) rfl
theorem r_29 : Wp d ((29, a, b, z) :: is) ls (.int x :: st) σ Q ↔ Wp d is ls (.int (x.toUInt32 % 65536).toInt32 :: st) σ Q := w_step (Nat.le_of_ble_eq_true rfl) rfl
theorem r_30 : Wp d ((30, a, b, z) :: is) ls (.int x :: st) σ Q ↔ Wp d is ls (.long x.toInt64 :: st) σ Q := w_step (Nat.le_of_ble_eq_true rfl) rfl
theorem r_31 : Wp d ((31, a, b, z) :: is) ls (.long X :: st) σ Q ↔ Wp d is ls (.int X.toInt32 :: st) σ Q := w_step (Nat.le_of_ble_eq_true rfl) rfl
theorem r_32 : Wp d ((32, a, b, z) :: is) ls (.int y :: .long X :: st) σ Q ↔ Wp d is ls (.long (X <<< (y.toInt64 &&& 63)) :: st) σ Q := w_step (Nat.le_of_ble_eq_true rfl) rfl
theorem r_33 : Wp d ((33, a, b, z) :: is) ls (.int y :: .long X :: st) σ Q ↔ Wp d is ls (.long (X >>> (y.toInt64 &&& 63)) :: st) σ Q := w_step (Nat.le_of_ble_eq_true rfl) rfl
theorem r_34 : Wp d ((34, a, b, z) :: is) ls (.long Y :: .long X :: st) σ Q ↔ Wp d is ls (.long (X &&& Y) :: st) σ Q := w_step (Nat.le_of_ble_eq_true rfl) rfl
theorem r_35 : Wp d ((35, a, b, z) :: is) ls (.long Y :: .long X :: st) σ Q ↔ Wp d is ls (.long (X ||| Y) :: st) σ Q := w_step (Nat.le_of_ble_eq_true rfl) rfl
theorem r_36 : Wp d ((36, a, b, z) :: is) ls (.long Y :: .long X :: st) σ Q ↔ Wp d is ls (.int (lg_cmp X Y) :: st) σ Q := w_step (Nat.le_of_ble_eq_true rfl) rfl
theorem r_40 : Wp d ((40, a, b, z) :: is) ls (.int x :: .ref p :: st) σ Q ↔ mIx σ p 0 x = true ∧ Wp d is ls (.int (σ.1 p x.toInt.toNat) :: st) σ Q := w_stepc (Nat.le_of_ble_eq_true rfl) rfl
theorem r_41 : Wp d ((41, a, b, z) :: is) ls (.int x :: .ref p :: st) σ Q ↔ mIx σ p 1 x = true ∧ Wp d is ls (.int (σ.1 p x.toInt.toNat) :: st) σ Q := w_stepc (Nat.le_of_ble_eq_true rfl) rfl
theorem r_42 : Wp d ((42, a, b, z) :: is) ls (.int x :: .ref p :: st) σ Q ↔ mIx σ p 2 x = true ∧ Wp d is ls (.int (σ.1 p x.toInt.toNat) :: st) σ Q := w_stepc (Nat.le_of_ble_eq_true rfl) rfl
theorem r_43 : Wp d ((43, a, b, z) :: is) ls (.int x :: .ref p :: st) σ Q ↔ mIx σ p 3 x = true ∧ Wp d is ls (vR (σ.2.1 p x.toInt.toNat) :: st) σ Q := w_stepc (Nat.le_of_ble_eq_true rfl) rfl
theorem r_44 : Wp d ((44, a, b, z) :: is) ls (.int y :: .int x :: .ref p :: st) σ Q ↔ (nSP ≤ p ∧ mIx σ p 0 x = true) ∧ Wp d is ls (st) (wI σ p x.toInt.toNat y) Q := w_stepc (Nat.le_of_ble_eq_true rfl) rfl
theorem r_45 : Wp d ((45, a, b, z) :: is) ls (.int y :: .int x :: .ref p :: st) σ Q ↔ (nSP ≤ p ∧ mIx σ p 1 x = true) ∧ Wp d is ls (st) (wI σ p x.toInt.toNat y.toInt8.toInt32) Q := w_stepc (Nat.le_of_ble_eq_true rfl) rfl
theorem r_46 : Wp d ((46, a, b, z) :: is) ls (.int y :: .int x :: .ref p :: st) σ Q ↔ (nSP ≤ p ∧ mIx σ p 2 x = true ∧ mNar 1 y = true) ∧ Wp d is ls (st) (wI σ p x.toInt.toNat y) Q := w_stepc (Nat.le_of_ble_eq_true rfl) rfl
theorem r_47 : Wp d ((47, a, b, z) :: is) ls (.ref q :: .int x :: .ref p :: st) σ Q ↔ (nSP ≤ p ∧ mIx σ p 3 x = true ∧ nSP ≤ q ∧ mOb σ q 11 0 = true) ∧ Wp d is ls (st) (wR σ p x.toInt.toNat (some q)) Q := w_stepc (Nat.le_of_ble_eq_true rfl) rfl
theorem r_47n : Wp d ((47, a, b, z) :: is) ls (.null :: .int x :: .ref p :: st) σ Q ↔ (nSP ≤ p ∧ mIx σ p 3 x = true) ∧ Wp d is ls (st) (wR σ p x.toInt.toNat none) Q := w_stepc (Nat.le_of_ble_eq_true rfl) rfl
theorem r_50 : Wp d ((50, a, b, z) :: is) ls (.ref p :: st) σ Q ↔ mOb σ p b a = true ∧ Wp d is ls (.int (σ.1 p a) :: st) σ Q := w_stepc (Nat.le_of_ble_eq_true rfl) rfl
theorem r_51 : Wp d ((51, a, b, z) :: is) ls (.ref p :: st) σ Q ↔ mOb σ p b a = true ∧ Wp d is ls (vR (σ.2.1 p a) :: st) σ Q := w_stepc (Nat.le_of_ble_eq_true rfl) rfl
theorem r_52 : Wp d ((52, a, b, z) :: is) ls (.int x :: .ref p :: st) σ Q ↔ (nSP ≤ p ∧ mOb σ p b a = true) ∧ Wp d is ls (st) (wI σ p a x) Q := w_stepc (Nat.le_of_ble_eq_true rfl) rfl
theorem r_49 : Wp d ((49, a, b, z) :: is) ls (.int x :: .ref p :: st) σ Q ↔ (nSP ≤ p ∧ mOb σ p b a = true ∧ mNar 1 x = true) ∧ Wp d is ls (st) (wI σ p a x) Q := w_stepc (Nat.le_of_ble_eq_true rfl) rfl
theorem r_53 : Wp d ((53, a, b, z) :: is) ls (.ref q :: .ref p :: st) σ Q ↔ (nSP ≤ p ∧ mOb σ p b a = true) ∧ Wp d is ls (st) (wR σ p a (some q)) Q := w_stepc (Nat.le_of_ble_eq_true rfl) rfl
theorem r_53n : Wp d ((53, a, b, z) :: is) ls (.null :: .ref p :: st) σ Q ↔ (nSP ≤ p ∧ mOb σ p b a = true) ∧ Wp d is ls (st) (wR σ p a none) Q := w_stepc (Nat.le_of_ble_eq_true rfl) rfl
theorem r_54 : Wp d ((54, a, b, z) :: is) ls (st) σ Q ↔ Wp d is ls (.int (oI z) :: st) σ Q := w_step (Nat.le_of_ble_eq_true rfl) rfl
theorem r_55 : Wp d ((55, a, b, z) :: is) ls (st) σ Q ↔ Wp d is ls (.ref a :: st) σ Q := w_step (Nat.le_of_ble_eq_true rfl) rfl
theorem r_56 : Wp d ((56, a, b, z) :: is) ls (st) σ Q ↔ Wp d is ls (.ref a :: st) σ Q := w_step (Nat.le_of_ble_eq_true rfl) rfl
theorem r_57 : Wp d ((57, a, b, z) :: is) ls (st) σ Q ↔ Wp d is ls (.retAddr 1 :: st) σ Q := w_step (Nat.le_of_ble_eq_true rfl) rfl
theorem r_12u : Wp d ((12, a, b, z) :: is) ls (.retAddr 1 :: st) σ Q ↔ Wp d is ls (st) σ Q := w_step (Nat.le_of_ble_eq_true rfl) rfl
theorem r_58 : Wp d ((58, a, b, z) :: is) ls (st) σ Q ↔ Wp d is ls (.ref σ.2.2.length :: st) (mNew σ (b + 4, jNs.getD b 0)) Q := w_step (Nat.le_of_ble_eq_true rfl) rfl
theorem r_59 : Wp d ((59, a, b, z) :: is) ls (.int x :: st) σ Q ↔ (0 ≤ x.toInt ∧ x.toInt ≤ 1000000) ∧ Wp d is ls (.ref σ.2.2.length :: st) (mNew σ (a, x.toInt.toNat)) Q := w_stepc (Nat.le_of_ble_eq_true rfl) rfl
theorem r_60 : Wp d ((60, a, b, z) :: is) ls (st) σ Q ↔ Wp d (gb a b) ls st σ Q := w_br (q := (a, b)) (Nat.not_lt_of_le (Nat.le_of_ble_eq_true rfl)) (Nat.le_of_ble_eq_true rfl) rfl
theorem r_79 : Wp d ((79, a, b, z) :: is) ls (st) σ Q ↔ Wp d (gb a b) ls st σ Q := w_br (q := (a, b)) (Nat.not_lt_of_le (Nat.le_of_ble_eq_true rfl)) (Nat.le_of_ble_eq_true rfl) rfl
theorem r_61 : Wp d ((61, a, b, z) :: is) ls (.int y :: .int x :: st) σ Q ↔ (x.toInt = y.toInt → Wp d (gb a b) ls st σ Q) ∧ (¬ x.toInt = y.toInt → Wp d is ls st σ Q) := w_if (q := (a, b)) (Nat.not_lt_of_le (Nat.le_of_ble_eq_true rfl)) (Nat.le_of_ble_eq_true rfl) rfl
theorem r_62 : Wp d ((62, a, b, z) :: is) ls (.int y :: .int x :: st) σ Q ↔ (¬ x.toInt = y.toInt → Wp d (gb a b) ls st σ Q) ∧ (x.toInt = y.toInt → Wp d is ls st σ Q) := w_ifn (q := (a, b)) (Nat.not_lt_of_le (Nat.le_of_ble_eq_true rfl)) (Nat.le_of_ble_eq_true rfl) rfl
theorem r_63 : Wp d ((63, a, b, z) :: is) ls (.int y :: .int x :: st) σ Q ↔ (x.toInt < y.toInt → Wp d (gb a b) ls st σ Q) ∧ (¬ x.toInt < y.toInt → Wp d is ls st σ Q) := w_if (q := (a, b)) (Nat.not_lt_of_le (Nat.le_of_ble_eq_true rfl)) (Nat.le_of_ble_eq_true rfl) rfl
theorem r_64 : Wp d ((64, a, b, z) :: is) ls (.int y :: .int x :: st) σ Q ↔ (¬ x.toInt < y.toInt → Wp d (gb a b) ls st σ Q) ∧ (x.toInt < y.toInt → Wp d is ls st σ Q) := w_ifn (q := (a, b)) (Nat.not_lt_of_le (Nat.le_of_ble_eq_true rfl)) (Nat.le_of_ble_eq_true rfl) rfl
theorem r_65 : Wp d ((65, a, b, z) :: is) ls (.int y :: .int x :: st) σ Q ↔ (y.toInt < x.toInt → Wp d (gb a b) ls st σ Q) ∧ (¬ y.toInt < x.toInt → Wp d is ls st σ Q) := w_if (q := (a, b)) (Nat.not_lt_of_le (Nat.le_of_ble_eq_true rfl)) (Nat.le_of_ble_eq_true rfl) rfl
theorem r_66 : Wp d ((66, a, b, z) :: is) ls (.int y :: .int x :: st) σ Q ↔ (¬ y.toInt < x.toInt → Wp d (gb a b) ls st σ Q) ∧ (y.toInt < x.toInt → Wp d is ls st σ Q) := w_ifn (q := (a, b)) (Nat.not_lt_of_le (Nat.le_of_ble_eq_true rfl)) (Nat.le_of_ble_eq_true rfl) rfl
theorem r_67 : Wp d ((67, a, b, z) :: is) ls (.int x :: st) σ Q ↔ (x.toInt = 0 → Wp d (gb a b) ls st σ Q) ∧ (¬ x.toInt = 0 → Wp d is ls st σ Q) := w_if (q := (a, b)) (Nat.not_lt_of_le (Nat.le_of_ble_eq_true rfl)) (Nat.le_of_ble_eq_true rfl) rfl
theorem r_68 : Wp d ((68, a, b, z) :: is) ls (.int x :: st) σ Q ↔ (¬ x.toInt = 0 → Wp d (gb a b) ls st σ Q) ∧ (x.toInt = 0 → Wp d is ls st σ Q) := w_ifn (q := (a, b)) (Nat.not_lt_of_le (Nat.le_of_ble_eq_true rfl)) (Nat.le_of_ble_eq_true rfl) rfl
theorem r_69 : Wp d ((69, a, b, z) :: is) ls (.int x :: st) σ Q ↔ (x.toInt < 0 → Wp d (gb a b) ls st σ Q) ∧ (¬ x.toInt < 0 → Wp d is ls st σ Q) := w_if (q := (a, b)) (Nat.not_lt_of_le (Nat.le_of_ble_eq_true rfl)) (Nat.le_of_ble_eq_true rfl) rfl
theorem r_70 : Wp d ((70, a, b, z) :: is) ls (.int x :: st) σ Q ↔ (¬ x.toInt < 0 → Wp d (gb a b) ls st σ Q) ∧ (x.toInt < 0 → Wp d is ls st σ Q) := w_ifn (q := (a, b)) (Nat.not_lt_of_le (Nat.le_of_ble_eq_true rfl)) (Nat.le_of_ble_eq_true rfl) rfl
theorem r_71 : Wp d ((71, a, b, z) :: is) ls (.int x :: st) σ Q ↔ (0 < x.toInt → Wp d (gb a b) ls st σ Q) ∧ (¬ 0 < x.toInt → Wp d is ls st σ Q) := w_if (q := (a, b)) (Nat.not_lt_of_le (Nat.le_of_ble_eq_true rfl)) (Nat.le_of_ble_eq_true rfl) rfl
theorem r_72 : Wp d ((72, a, b, z) :: is) ls (.int x :: st) σ Q ↔ (¬ 0 < x.toInt → Wp d (gb a b) ls st σ Q) ∧ (0 < x.toInt → Wp d is ls st σ Q) := w_ifn (q := (a, b)) (Nat.not_lt_of_le (Nat.le_of_ble_eq_true rfl)) (Nat.le_of_ble_eq_true rfl) rfl
theorem r_73 : Wp d ((73, a, b, z) :: is) ls (.ref p :: st) σ Q ↔ Wp d is ls st σ Q := w_nbr (Nat.not_lt_of_le (Nat.le_of_ble_eq_true rfl)) (Nat.le_of_ble_eq_true rfl) rfl
theorem r_73n : Wp d ((73, a, b, z) :: is) ls (.null :: st) σ Q ↔ Wp d (gb a b) ls st σ Q := w_br (q := (a, b)) (Nat.not_lt_of_le (Nat.le_of_ble_eq_true rfl)) (Nat.le_of_ble_eq_true rfl) rfl
theorem r_74 : Wp d ((74, a, b, z) :: is) ls (.ref p :: st) σ Q ↔ Wp d (gb a b) ls st σ Q := w_br (q := (a, b)) (Nat.not_lt_of_le (Nat.le_of_ble_eq_true rfl)) (Nat.le_of_ble_eq_true rfl) rfl
theorem r_74n : Wp d ((74, a, b, z) :: is) ls (.null :: st) σ Q ↔ Wp d is ls st σ Q := w_nbr (Nat.not_lt_of_le (Nat.le_of_ble_eq_true rfl)) (Nat.le_of_ble_eq_true rfl) rfl
theorem r_75 : Wp d ((75, a, b, z) :: is) ls (.ref p :: .ref q :: st) σ Q ↔ (nSP ≤ p ∧ nSP ≤ q) ∧ (p = q → Wp d (gb a b) ls st σ Q) ∧ (¬ p = q → Wp d is ls st σ Q) := w_acmp
theorem r_76 : Wp d ((76, a, b, z) :: is) ls (.int x :: st) σ Q ↔ Wp d (gb a (mSel ((jSW.getD a []).getD b []) (x.toInt - z))) ls st σ Q := w_br (q := (a, mSel ((jSW.getD a []).getD b []) (x.toInt - z))) (Nat.not_lt_of_le (Nat.le_of_ble_eq_true rfl)) (Nat.le_of_ble_eq_true rfl) rfl
theorem r_80 : Wp d ((80, a, b, z) :: is) ls ([.int x]) σ Q ↔ Q (some (.int x)) σ := w_ret (Nat.not_lt_of_le (Nat.le_of_ble_eq_true rfl)) (Nat.le_of_ble_eq_true rfl) rfl
theorem r_81 : Wp d ((81, a, b, z) :: is) ls ([.long X]) σ Q ↔ Q (some (.long X)) σ := w_ret (Nat.not_lt_of_le (Nat.le_of_ble_eq_true rfl)) (Nat.le_of_ble_eq_true rfl) rfl
theorem r_82 : Wp d ((82, a, b, z) :: is) ls ([.ref p]) σ Q ↔ Q (some (.ref p)) σ := w_ret (Nat.not_lt_of_le (Nat.le_of_ble_eq_true rfl)) (Nat.le_of_ble_eq_true rfl) rfl
theorem r_82n : Wp d ((82, a, b, z) :: is) ls ([.null]) σ Q ↔ Q (some .null) σ := w_ret (Nat.not_lt_of_le (Nat.le_of_ble_eq_true rfl)) (Nat.le_of_ble_eq_true rfl) rfl
theorem r_82v {o : Option Nat} : Wp d ((82, a, b, z) :: is) ls ([vR o]) σ Q ↔ Q (some (vR o)) σ := by cases o <;> exact w_ret (Nat.not_lt_of_le (Nat.le_of_ble_eq_true rfl)) (Nat.le_of_ble_eq_true rfl) rfl
theorem r_83 : Wp d ((83, a, b, z) :: is) ls ([]) σ Q ↔ Q none σ := w_ret (Nat.not_lt_of_le (Nat.le_of_ble_eq_true rfl)) (Nat.le_of_ble_eq_true rfl) rfl
theorem r_84 : Wp d ((84, a, b, z) :: is) ls ([.int x]) σ Q ↔ mNar 1 x = true ∧ Q (some (.int x)) σ := w_retc (Nat.not_lt_of_le (Nat.le_of_ble_eq_true rfl)) (Nat.le_of_ble_eq_true rfl) rfl
theorem r_85 : Wp d ((85, a, b, z) :: is) ls ([.int x]) σ Q ↔ x.toInt8.toInt32 = x ∧ Q (some (.int x)) σ := w_retc (Nat.not_lt_of_le (Nat.le_of_ble_eq_true rfl)) (Nat.le_of_ble_eq_true rfl) rfl
theorem r_86 : Wp d ((86, a, b, z) :: is) ls ([.int x]) σ Q ↔ (x.toUInt32 % 65536).toInt32 = x ∧ Q (some (.int x)) σ := w_retc (Nat.not_lt_of_le (Nat.le_of_ble_eq_true rfl)) (Nat.le_of_ble_eq_true rfl) rfl
theorem r_100_0 : Wp (d + 1) ((100, m, 0, z) :: is) ls (st) σ Q ↔ (mRcv m [] σ = true ∧ st.length ≤ 4) ∧ CallV d m [] σ (fun s => Wp (d + 1) is ls st s Q) := w_callV rfl
theorem r_101_0 : Wp (d + 1) ((101, m, 0, z) :: is) ls (st) σ Q ↔ (mRcv m [] σ = true ∧ st.length ≤ 4) ∧ CallI d m [] σ (fun x s => Wp (d + 1) is ls (.int x :: st) s Q) := w_callI rfl
theorem r_102_0 : Wp (d + 1) ((102, m, 0, z) :: is) ls (st) σ Q ↔ (mRcv m [] σ = true ∧ st.length ≤ 4) ∧ CallL d m [] σ (fun X s => Wp (d + 1) is ls (.long X :: st) s Q) := w_callL rfl
theorem r_103_0 : Wp (d + 1) ((103, m, 0, z) :: is) ls (st) σ Q ↔ (mRcv m [] σ = true ∧ st.length ≤ 4) ∧ CallR d m [] σ (fun o s => Wp (d + 1) is ls (vR o :: st) s Q) := w_callR rfl
theorem r_100_1 : Wp (d + 1) ((100, m, 1, z) :: is) ls (v0 :: st) σ Q ↔ (mRcv m [v0] σ = true ∧ st.length ≤ 4) ∧ CallV d m [v0] σ (fun s => Wp (d + 1) is ls st s Q) := w_callV rfl
theorem r_101_1 : Wp (d + 1) ((101, m, 1, z) :: is) ls (v0 :: st) σ Q ↔ (mRcv m [v0] σ = true ∧ st.length ≤ 4) ∧ CallI d m [v0] σ (fun x s => Wp (d + 1) is ls (.int x :: st) s Q) := w_callI rfl
theorem r_102_1 : Wp (d + 1) ((102, m, 1, z) :: is) ls (v0 :: st) σ Q ↔ (mRcv m [v0] σ = true ∧ st.length ≤ 4) ∧ CallL d m [v0] σ (fun X s => Wp (d + 1) is ls (.long X :: st) s Q) := w_callL rfl
theorem r_103_1 : Wp (d + 1) ((103, m, 1, z) :: is) ls (v0 :: st) σ Q ↔ (mRcv m [v0] σ = true ∧ st.length ≤ 4) ∧ CallR d m [v0] σ (fun o s => Wp (d + 1) is ls (vR o :: st) s Q) := w_callR rfl
theorem r_100_2 : Wp (d + 1) ((100, m, 2, z) :: is) ls (v1 :: v0 :: st) σ Q ↔ (mRcv m [v0, v1] σ = true ∧ st.length ≤ 4) ∧ CallV d m [v0, v1] σ (fun s => Wp (d + 1) is ls st s Q) := w_callV rfl
theorem r_101_2 : Wp (d + 1) ((101, m, 2, z) :: is) ls (v1 :: v0 :: st) σ Q ↔ (mRcv m [v0, v1] σ = true ∧ st.length ≤ 4) ∧ CallI d m [v0, v1] σ (fun x s => Wp (d + 1) is ls (.int x :: st) s Q) := w_callI rfl
theorem r_102_2 : Wp (d + 1) ((102, m, 2, z) :: is) ls (v1 :: v0 :: st) σ Q ↔ (mRcv m [v0, v1] σ = true ∧ st.length ≤ 4) ∧ CallL d m [v0, v1] σ (fun X s => Wp (d + 1) is ls (.long X :: st) s Q) := w_callL rfl
theorem r_103_2 : Wp (d + 1) ((103, m, 2, z) :: is) ls (v1 :: v0 :: st) σ Q ↔ (mRcv m [v0, v1] σ = true ∧ st.length ≤ 4) ∧ CallR d m [v0, v1] σ (fun o s => Wp (d + 1) is ls (vR o :: st) s Q) := w_callR rfl
theorem r_100_3 : Wp (d + 1) ((100, m, 3, z) :: is) ls (v2 :: v1 :: v0 :: st) σ Q ↔ (mRcv m [v0, v1, v2] σ = true ∧ st.length ≤ 4) ∧ CallV d m [v0, v1, v2] σ (fun s => Wp (d + 1) is ls st s Q) := w_callV rfl
theorem r_101_3 : Wp (d + 1) ((101, m, 3, z) :: is) ls (v2 :: v1 :: v0 :: st) σ Q ↔ (mRcv m [v0, v1, v2] σ = true ∧ st.length ≤ 4) ∧ CallI d m [v0, v1, v2] σ (fun x s => Wp (d + 1) is ls (.int x :: st) s Q) := w_callI rfl
theorem r_102_3 : Wp (d + 1) ((102, m, 3, z) :: is) ls (v2 :: v1 :: v0 :: st) σ Q ↔ (mRcv m [v0, v1, v2] σ = true ∧ st.length ≤ 4) ∧ CallL d m [v0, v1, v2] σ (fun X s => Wp (d + 1) is ls (.long X :: st) s Q) := w_callL rfl
theorem r_103_3 : Wp (d + 1) ((103, m, 3, z) :: is) ls (v2 :: v1 :: v0 :: st) σ Q ↔ (mRcv m [v0, v1, v2] σ = true ∧ st.length ≤ 4) ∧ CallR d m [v0, v1, v2] σ (fun o s => Wp (d + 1) is ls (vR o :: st) s Q) := w_callR rfl
theorem r_100_4 : Wp (d + 1) ((100, m, 4, z) :: is) ls (v3 :: v2 :: v1 :: v0 :: st) σ Q ↔ (mRcv m [v0, v1, v2, v3] σ = true ∧ st.length ≤ 4) ∧ CallV d m [v0, v1, v2, v3] σ (fun s => Wp (d + 1) is ls st s Q) := w_callV rfl
theorem r_101_4 : Wp (d + 1) ((101, m, 4, z) :: is) ls (v3 :: v2 :: v1 :: v0 :: st) σ Q ↔ (mRcv m [v0, v1, v2, v3] σ = true ∧ st.length ≤ 4) ∧ CallI d m [v0, v1, v2, v3] σ (fun x s => Wp (d + 1) is ls (.int x :: st) s Q) := w_callI rfl
theorem r_102_4 : Wp (d + 1) ((102, m, 4, z) :: is) ls (v3 :: v2 :: v1 :: v0 :: st) σ Q ↔ (mRcv m [v0, v1, v2, v3] σ = true ∧ st.length ≤ 4) ∧ CallL d m [v0, v1, v2, v3] σ (fun X s => Wp (d + 1) is ls (.long X :: st) s Q) := w_callL rfl
theorem r_103_4 : Wp (d + 1) ((103, m, 4, z) :: is) ls (v3 :: v2 :: v1 :: v0 :: st) σ Q ↔ (mRcv m [v0, v1, v2, v3] σ = true ∧ st.length ≤ 4) ∧ CallR d m [v0, v1, v2, v3] σ (fun o s => Wp (d + 1) is ls (vR o :: st) s Q) := w_callR rfl
theorem r_100_5 : Wp (d + 1) ((100, m, 5, z) :: is) ls (v4 :: v3 :: v2 :: v1 :: v0 :: st) σ Q ↔ (mRcv m [v0, v1, v2, v3, v4] σ = true ∧ st.length ≤ 4) ∧ CallV d m [v0, v1, v2, v3, v4] σ (fun s => Wp (d + 1) is ls st s Q) := w_callV rfl
theorem r_101_5 : Wp (d + 1) ((101, m, 5, z) :: is) ls (v4 :: v3 :: v2 :: v1 :: v0 :: st) σ Q ↔ (mRcv m [v0, v1, v2, v3, v4] σ = true ∧ st.length ≤ 4) ∧ CallI d m [v0, v1, v2, v3, v4] σ (fun x s => Wp (d + 1) is ls (.int x :: st) s Q) := w_callI rfl
theorem r_102_5 : Wp (d + 1) ((102, m, 5, z) :: is) ls (v4 :: v3 :: v2 :: v1 :: v0 :: st) σ Q ↔ (mRcv m [v0, v1, v2, v3, v4] σ = true ∧ st.length ≤ 4) ∧ CallL d m [v0, v1, v2, v3, v4] σ (fun X s => Wp (d + 1) is ls (.long X :: st) s Q) := w_callL rfl
theorem r_103_5 : Wp (d + 1) ((103, m, 5, z) :: is) ls (v4 :: v3 :: v2 :: v1 :: v0 :: st) σ Q ↔ (mRcv m [v0, v1, v2, v3, v4] σ = true ∧ st.length ≤ 4) ∧ CallR d m [v0, v1, v2, v3, v4] σ (fun o s => Wp (d + 1) is ls (vR o :: st) s Q) := w_callR rfl
theorem r_100_6 : Wp (d + 1) ((100, m, 6, z) :: is) ls (v5 :: v4 :: v3 :: v2 :: v1 :: v0 :: st) σ Q ↔ (mRcv m [v0, v1, v2, v3, v4, v5] σ = true ∧ st.length ≤ 4) ∧ CallV d m [v0, v1, v2, v3, v4, v5] σ (fun s => Wp (d + 1) is ls st s Q) := w_callV rfl
theorem r_101_6 : Wp (d + 1) ((101, m, 6, z) :: is) ls (v5 :: v4 :: v3 :: v2 :: v1 :: v0 :: st) σ Q ↔ (mRcv m [v0, v1, v2, v3, v4, v5] σ = true ∧ st.length ≤ 4) ∧ CallI d m [v0, v1, v2, v3, v4, v5] σ (fun x s => Wp (d + 1) is ls (.int x :: st) s Q) := w_callI rfl
theorem r_102_6 : Wp (d + 1) ((102, m, 6, z) :: is) ls (v5 :: v4 :: v3 :: v2 :: v1 :: v0 :: st) σ Q ↔ (mRcv m [v0, v1, v2, v3, v4, v5] σ = true ∧ st.length ≤ 4) ∧ CallL d m [v0, v1, v2, v3, v4, v5] σ (fun X s => Wp (d + 1) is ls (.long X :: st) s Q) := w_callL rfl
theorem r_103_6 : Wp (d + 1) ((103, m, 6, z) :: is) ls (v5 :: v4 :: v3 :: v2 :: v1 :: v0 :: st) σ Q ↔ (mRcv m [v0, v1, v2, v3, v4, v5] σ = true ∧ st.length ≤ 4) ∧ CallR d m [v0, v1, v2, v3, v4, v5] σ (fun o s => Wp (d + 1) is ls (vR o :: st) s Q) := w_callR rfl
theorem r_100_7 : Wp (d + 1) ((100, m, 7, z) :: is) ls (v6 :: v5 :: v4 :: v3 :: v2 :: v1 :: v0 :: st) σ Q ↔ (mRcv m [v0, v1, v2, v3, v4, v5, v6] σ = true ∧ st.length ≤ 4) ∧ CallV d m [v0, v1, v2, v3, v4, v5, v6] σ (fun s => Wp (d + 1) is ls st s Q) := w_callV rfl
theorem r_101_7 : Wp (d + 1) ((101, m, 7, z) :: is) ls (v6 :: v5 :: v4 :: v3 :: v2 :: v1 :: v0 :: st) σ Q ↔ (mRcv m [v0, v1, v2, v3, v4, v5, v6] σ = true ∧ st.length ≤ 4) ∧ CallI d m [v0, v1, v2, v3, v4, v5, v6] σ (fun x s => Wp (d + 1) is ls (.int x :: st) s Q) := w_callI rfl
theorem r_102_7 : Wp (d + 1) ((102, m, 7, z) :: is) ls (v6 :: v5 :: v4 :: v3 :: v2 :: v1 :: v0 :: st) σ Q ↔ (mRcv m [v0, v1, v2, v3, v4, v5, v6] σ = true ∧ st.length ≤ 4) ∧ CallL d m [v0, v1, v2, v3, v4, v5, v6] σ (fun X s => Wp (d + 1) is ls (.long X :: st) s Q) := w_callL rfl
theorem r_103_7 : Wp (d + 1) ((103, m, 7, z) :: is) ls (v6 :: v5 :: v4 :: v3 :: v2 :: v1 :: v0 :: st) σ Q ↔ (mRcv m [v0, v1, v2, v3, v4, v5, v6] σ = true ∧ st.length ≤ 4) ∧ CallR d m [v0, v1, v2, v3, v4, v5, v6] σ (fun o s => Wp (d + 1) is ls (vR o :: st) s Q) := w_callR rfl
theorem r_107 : Wp (d + 1) ((107, a, b, z) :: is) ls (.ref p :: st) σ Q ↔ st.length ≤ 4 ∧ Wp (d + 1) is ls st σ Q := by
  by_cases h : st.length ≤ 4
  · rw [w_nat (i := (107, a, b, z)) (st' := st) (σ' := σ) (Nat.not_lt_of_le (Nat.le_of_ble_eq_true rfl)) (show mnat (107, a, b, z) (.ref p :: st) σ = some (st, σ) from if_pos h)]
    exact ⟨fun k => ⟨h, k⟩, fun k => k.2⟩
  · refine ⟨?_, fun k => absurd k.1 h⟩
    rintro ⟨n, v, s, h1, -⟩
    cases n with
    | zero => simp [ex_zero] at h1
    | succ n =>
      rw [ex_cons] at h1
      simp [mnat, h] at h1
end
