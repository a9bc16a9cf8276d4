/-! what a reckoning that stands depends on -/
def rsA (A : aS) : aS := fun a k => if dp [0, 1, 3, 40, 65, 66] [92, 94, 95, 97, 103, 104, 105, 106, 107, 108, 109, 121, 122, 137, 138, 139, 140, 141, 142, 143, 144, 145, 146, 147, 148, 149] a k = true then A a k else 0
section
variable {A A1 : aS} {I : mI}
theorem rs_eq (h : Ko [0, 1, 3, 40, 65, 66] [92, 94, 95, 97, 103, 104, 105, 106, 107, 108, 109, 121, 122, 137, 138, 139, 140, 141, 142, 143, 144, 145, 146, 147, 148, 149] A A1) : rsA A1 = rsA A := by
  funext a k
  unfold rsA
  split
  · rename_i q; exact h a k q
  · rfl
theorem nN_rs : nN (rsA A) = nN A := rfl
theorem wT_rs : wT (rsA A) = wT A := rfl
theorem onL_rs : onL (rsA A) = onL A := by
  funext u0 u1 u2
  funext k
  induction k with
  | zero => rfl
  | succ k ih =>
    unfold onL
    rw [ih]
    first | (simp only [nN_rs, wT_rs]; done) | (simp only [nN_rs, wT_rs]; with_reducible rfl) | (simp only [nN_rs, wT_rs]; rfl) | rfl
theorem onS_rs : onS (rsA A) = onS A := by
  funext u0 u1 u2
  unfold onS
  first | (simp only [nN_rs, wT_rs, onL_rs]; done) | (simp only [nN_rs, wT_rs, onL_rs]; with_reducible rfl) | (simp only [nN_rs, wT_rs, onL_rs]; rfl) | rfl
theorem spB_rs : spB (rsA A) = spB A := by
  funext u0 u1 u2 u3
  funext k
  induction k with
  | zero => rfl
  | succ k ih =>
    unfold spB
    rw [ih]
    first | (simp only [nN_rs, wT_rs, onL_rs, onS_rs]; done) | (simp only [nN_rs, wT_rs, onL_rs, onS_rs]; with_reducible rfl) | (simp only [nN_rs, wT_rs, onL_rs, onS_rs]; rfl) | rfl
theorem spS_rs : spS (rsA A) = spS A := by
  funext u0 u1 u2 u3
  unfold spS
  first | (simp only [nN_rs, wT_rs, onL_rs, onS_rs, spB_rs]; done) | (simp only [nN_rs, wT_rs, onL_rs, onS_rs, spB_rs]; with_reducible rfl) | (simp only [nN_rs, wT_rs, onL_rs, onS_rs, spB_rs]; rfl) | rfl
theorem mkLp_rs : mkL' (rsA A) = mkL' A := by
  funext u0 u1 u2
  funext k
  induction k with
  | zero => rfl
  | succ k ih =>
    unfold mkL'
    rw [ih]
    first | (simp only [nN_rs, wT_rs, onL_rs, onS_rs, spB_rs, spS_rs]; done) | (simp only [nN_rs, wT_rs, onL_rs, onS_rs, spB_rs, spS_rs]; with_reducible rfl) | (simp only [nN_rs, wT_rs, onL_rs, onS_rs, spB_rs, spS_rs]; rfl) | rfl
theorem mkS_rs : mkS (rsA A) = mkS A := by
  funext u0 u1 u2
  unfold mkS
  first | (simp only [nN_rs, wT_rs, onL_rs, onS_rs, spB_rs, spS_rs, mkLp_rs]; done) | (simp only [nN_rs, wT_rs, onL_rs, onS_rs, spB_rs, spS_rs, mkLp_rs]; with_reducible rfl) | (simp only [nN_rs, wT_rs, onL_rs, onS_rs, spB_rs, spS_rs, mkLp_rs]; rfl) | rfl
theorem rsL_rs : rsL (rsA A) = rsL A := by
  funext u0 u1 u2 u3
  funext k
  induction k with
  | zero => rfl
  | succ k ih =>
    unfold rsL
    rw [ih]
    first | (simp only [nN_rs, wT_rs, onL_rs, onS_rs, spB_rs, spS_rs, mkLp_rs, mkS_rs]; done) | (simp only [nN_rs, wT_rs, onL_rs, onS_rs, spB_rs, spS_rs, mkLp_rs, mkS_rs]; with_reducible rfl) | (simp only [nN_rs, wT_rs, onL_rs, onS_rs, spB_rs, spS_rs, mkLp_rs, mkS_rs]; rfl) | rfl
theorem rsS_rs : rsS (rsA A) = rsS A := by
  funext u0 u1 u2 u3
  unfold rsS
  first | (simp only [nN_rs, wT_rs, onL_rs, onS_rs, spB_rs, spS_rs, mkLp_rs, mkS_rs, rsL_rs]; done) | (simp only [nN_rs, wT_rs, onL_rs, onS_rs, spB_rs, spS_rs, mkLp_rs, mkS_rs, rsL_rs]; with_reducible rfl) | (simp only [nN_rs, wT_rs, onL_rs, onS_rs, spB_rs, spS_rs, mkLp_rs, mkS_rs, rsL_rs]; rfl) | rfl
theorem kdL_rs : kdL (rsA A) = kdL A := by
  funext u0 u1 u2
  funext k
  induction k with
  | zero => rfl
  | succ k ih =>
    unfold kdL
    rw [ih]
    first | (simp only [nN_rs, wT_rs, onL_rs, onS_rs, spB_rs, spS_rs, mkLp_rs, mkS_rs, rsL_rs, rsS_rs]; done) | (simp only [nN_rs, wT_rs, onL_rs, onS_rs, spB_rs, spS_rs, mkLp_rs, mkS_rs, rsL_rs, rsS_rs]; with_reducible rfl) | (simp only [nN_rs, wT_rs, onL_rs, onS_rs, spB_rs, spS_rs, mkLp_rs, mkS_rs, rsL_rs, rsS_rs]; rfl) | rfl
theorem kdS_rs : kdS (rsA A) = kdS A := by
  funext u0 u1 u2
  unfold kdS
  first | (simp only [nN_rs, wT_rs, onL_rs, onS_rs, spB_rs, spS_rs, mkLp_rs, mkS_rs, rsL_rs, rsS_rs, kdL_rs]; done) | (simp only [nN_rs, wT_rs, onL_rs, onS_rs, spB_rs, spS_rs, mkLp_rs, mkS_rs, rsL_rs, rsS_rs, kdL_rs]; with_reducible rfl) | (simp only [nN_rs, wT_rs, onL_rs, onS_rs, spB_rs, spS_rs, mkLp_rs, mkS_rs, rsL_rs, rsS_rs, kdL_rs]; rfl) | rfl
theorem cdA_rs : cdA (rsA A) = cdA A := by
  funext u0 u1 u2
  funext k
  induction k with
  | zero => rfl
  | succ k ih =>
    unfold cdA
    rw [ih]
    first | (simp only [nN_rs, wT_rs, onL_rs, onS_rs, spB_rs, spS_rs, mkLp_rs, mkS_rs, rsL_rs, rsS_rs, kdL_rs, kdS_rs]; done) | (simp only [nN_rs, wT_rs, onL_rs, onS_rs, spB_rs, spS_rs, mkLp_rs, mkS_rs, rsL_rs, rsS_rs, kdL_rs, kdS_rs]; with_reducible rfl) | (simp only [nN_rs, wT_rs, onL_rs, onS_rs, spB_rs, spS_rs, mkLp_rs, mkS_rs, rsL_rs, rsS_rs, kdL_rs, kdS_rs]; rfl) | rfl
theorem cdF_rs : cdF (rsA A) = cdF A := by
  funext u0 u1 u2
  funext k
  induction k with
  | zero => rfl
  | succ k ih =>
    unfold cdF
    rw [ih]
    first | (simp only [nN_rs, wT_rs, onL_rs, onS_rs, spB_rs, spS_rs, mkLp_rs, mkS_rs, rsL_rs, rsS_rs, kdL_rs, kdS_rs, cdA_rs]; done) | (simp only [nN_rs, wT_rs, onL_rs, onS_rs, spB_rs, spS_rs, mkLp_rs, mkS_rs, rsL_rs, rsS_rs, kdL_rs, kdS_rs, cdA_rs]; with_reducible rfl) | (simp only [nN_rs, wT_rs, onL_rs, onS_rs, spB_rs, spS_rs, mkLp_rs, mkS_rs, rsL_rs, rsS_rs, kdL_rs, kdS_rs, cdA_rs]; rfl) | rfl
theorem cdY_rs : cdY (rsA A) = cdY A := by
  funext u0
  funext k
  induction k with
  | zero => rfl
  | succ k ih =>
    unfold cdY
    rw [ih]
    first | (simp only [nN_rs, wT_rs, onL_rs, onS_rs, spB_rs, spS_rs, mkLp_rs, mkS_rs, rsL_rs, rsS_rs, kdL_rs, kdS_rs, cdA_rs, cdF_rs]; done) | (simp only [nN_rs, wT_rs, onL_rs, onS_rs, spB_rs, spS_rs, mkLp_rs, mkS_rs, rsL_rs, rsS_rs, kdL_rs, kdS_rs, cdA_rs, cdF_rs]; with_reducible rfl) | (simp only [nN_rs, wT_rs, onL_rs, onS_rs, spB_rs, spS_rs, mkLp_rs, mkS_rs, rsL_rs, rsS_rs, kdL_rs, kdS_rs, cdA_rs, cdF_rs]; rfl) | rfl
theorem cdS_rs : cdS (rsA A) = cdS A := by
  funext u0 u1
  unfold cdS
  first | (simp only [nN_rs, wT_rs, onL_rs, onS_rs, spB_rs, spS_rs, mkLp_rs, mkS_rs, rsL_rs, rsS_rs, kdL_rs, kdS_rs, cdA_rs, cdF_rs, cdY_rs]; done) | (simp only [nN_rs, wT_rs, onL_rs, onS_rs, spB_rs, spS_rs, mkLp_rs, mkS_rs, rsL_rs, rsS_rs, kdL_rs, kdS_rs, cdA_rs, cdF_rs, cdY_rs]; with_reducible rfl) | (simp only [nN_rs, wT_rs, onL_rs, onS_rs, spB_rs, spS_rs, mkLp_rs, mkS_rs, rsL_rs, rsS_rs, kdL_rs, kdS_rs, cdA_rs, cdF_rs, cdY_rs]; rfl) | rfl
theorem hdB_rs : hdB (rsA A) = hdB A := by
  funext u0 u1
  unfold hdB
  first | (simp only [nN_rs, wT_rs, onL_rs, onS_rs, spB_rs, spS_rs, mkLp_rs, mkS_rs, rsL_rs, rsS_rs, kdL_rs, kdS_rs, cdA_rs, cdF_rs, cdY_rs, cdS_rs]; done) | (simp only [nN_rs, wT_rs, onL_rs, onS_rs, spB_rs, spS_rs, mkLp_rs, mkS_rs, rsL_rs, rsS_rs, kdL_rs, kdS_rs, cdA_rs, cdF_rs, cdY_rs, cdS_rs]; with_reducible rfl) | (simp only [nN_rs, wT_rs, onL_rs, onS_rs, spB_rs, spS_rs, mkLp_rs, mkS_rs, rsL_rs, rsS_rs, kdL_rs, kdS_rs, cdA_rs, cdF_rs, cdY_rs, cdS_rs]; rfl) | rfl
theorem fsC_rs : fsC (rsA A) = fsC A := by
  funext u0 u1 u2 u3 u4
  unfold fsC
  first | (simp only [nN_rs, wT_rs, onL_rs, onS_rs, spB_rs, spS_rs, mkLp_rs, mkS_rs, rsL_rs, rsS_rs, kdL_rs, kdS_rs, cdA_rs, cdF_rs, cdY_rs, cdS_rs, hdB_rs]; done) | (simp only [nN_rs, wT_rs, onL_rs, onS_rs, spB_rs, spS_rs, mkLp_rs, mkS_rs, rsL_rs, rsS_rs, kdL_rs, kdS_rs, cdA_rs, cdF_rs, cdY_rs, cdS_rs, hdB_rs]; with_reducible rfl) | (simp only [nN_rs, wT_rs, onL_rs, onS_rs, spB_rs, spS_rs, mkLp_rs, mkS_rs, rsL_rs, rsS_rs, kdL_rs, kdS_rs, cdA_rs, cdF_rs, cdY_rs, cdS_rs, hdB_rs]; rfl) | rfl
theorem fsF_rs : fsF (rsA A) = fsF A := by
  funext u0 u1 u2 u3
  funext f
  induction f with
  | zero => rfl
  | succ f ih =>
    funext n
    have ih2 := congrFun ih (n + 1)
    unfold fsF
    rw [ih2]
    first | (simp only [nN_rs, wT_rs, onL_rs, onS_rs, spB_rs, spS_rs, mkLp_rs, mkS_rs, rsL_rs, rsS_rs, kdL_rs, kdS_rs, cdA_rs, cdF_rs, cdY_rs, cdS_rs, hdB_rs, fsC_rs]; done) | (simp only [nN_rs, wT_rs, onL_rs, onS_rs, spB_rs, spS_rs, mkLp_rs, mkS_rs, rsL_rs, rsS_rs, kdL_rs, kdS_rs, cdA_rs, cdF_rs, cdY_rs, cdS_rs, hdB_rs, fsC_rs]; with_reducible rfl) | (simp only [nN_rs, wT_rs, onL_rs, onS_rs, spB_rs, spS_rs, mkLp_rs, mkS_rs, rsL_rs, rsS_rs, kdL_rs, kdS_rs, cdA_rs, cdF_rs, cdY_rs, cdS_rs, hdB_rs, fsC_rs]; rfl) | rfl
theorem fsS_rs : fsS (rsA A) = fsS A := by
  funext u0 u1 u2 u3
  unfold fsS
  first | (simp only [nN_rs, wT_rs, onL_rs, onS_rs, spB_rs, spS_rs, mkLp_rs, mkS_rs, rsL_rs, rsS_rs, kdL_rs, kdS_rs, cdA_rs, cdF_rs, cdY_rs, cdS_rs, hdB_rs, fsC_rs, fsF_rs]; done) | (simp only [nN_rs, wT_rs, onL_rs, onS_rs, spB_rs, spS_rs, mkLp_rs, mkS_rs, rsL_rs, rsS_rs, kdL_rs, kdS_rs, cdA_rs, cdF_rs, cdY_rs, cdS_rs, hdB_rs, fsC_rs, fsF_rs]; with_reducible rfl) | (simp only [nN_rs, wT_rs, onL_rs, onS_rs, spB_rs, spS_rs, mkLp_rs, mkS_rs, rsL_rs, rsS_rs, kdL_rs, kdS_rs, cdA_rs, cdF_rs, cdY_rs, cdS_rs, hdB_rs, fsC_rs, fsF_rs]; rfl) | rfl
theorem feC_rs : feC (rsA A) = feC A := by
  funext u0 u1 u2 u3
  unfold feC
  first | (simp only [nN_rs, wT_rs, onL_rs, onS_rs, spB_rs, spS_rs, mkLp_rs, mkS_rs, rsL_rs, rsS_rs, kdL_rs, kdS_rs, cdA_rs, cdF_rs, cdY_rs, cdS_rs, hdB_rs, fsC_rs, fsF_rs, fsS_rs]; done) | (simp only [nN_rs, wT_rs, onL_rs, onS_rs, spB_rs, spS_rs, mkLp_rs, mkS_rs, rsL_rs, rsS_rs, kdL_rs, kdS_rs, cdA_rs, cdF_rs, cdY_rs, cdS_rs, hdB_rs, fsC_rs, fsF_rs, fsS_rs]; with_reducible rfl) | (simp only [nN_rs, wT_rs, onL_rs, onS_rs, spB_rs, spS_rs, mkLp_rs, mkS_rs, rsL_rs, rsS_rs, kdL_rs, kdS_rs, cdA_rs, cdF_rs, cdY_rs, cdS_rs, hdB_rs, fsC_rs, fsF_rs, fsS_rs]; rfl) | rfl
theorem feF_rs : feF (rsA A) = feF A := by
  funext u0 u1 u2
  funext f
  induction f with
  | zero => rfl
  | succ f ih =>
    funext n
    have ih2 := congrFun ih (n + 1)
    unfold feF
    rw [ih2]
    first | (simp only [nN_rs, wT_rs, onL_rs, onS_rs, spB_rs, spS_rs, mkLp_rs, mkS_rs, rsL_rs, rsS_rs, kdL_rs, kdS_rs, cdA_rs, cdF_rs, cdY_rs, cdS_rs, hdB_rs, fsC_rs, fsF_rs, fsS_rs, feC_rs]; done) | (simp only [nN_rs, wT_rs, onL_rs, onS_rs, spB_rs, spS_rs, mkLp_rs, mkS_rs, rsL_rs, rsS_rs, kdL_rs, kdS_rs, cdA_rs, cdF_rs, cdY_rs, cdS_rs, hdB_rs, fsC_rs, fsF_rs, fsS_rs, feC_rs]; with_reducible rfl) | (simp only [nN_rs, wT_rs, onL_rs, onS_rs, spB_rs, spS_rs, mkLp_rs, mkS_rs, rsL_rs, rsS_rs, kdL_rs, kdS_rs, cdA_rs, cdF_rs, cdY_rs, cdS_rs, hdB_rs, fsC_rs, fsF_rs, fsS_rs, feC_rs]; rfl) | rfl
theorem feS_rs : feS (rsA A) = feS A := by
  funext u0 u1 u2
  unfold feS
  first | (simp only [nN_rs, wT_rs, onL_rs, onS_rs, spB_rs, spS_rs, mkLp_rs, mkS_rs, rsL_rs, rsS_rs, kdL_rs, kdS_rs, cdA_rs, cdF_rs, cdY_rs, cdS_rs, hdB_rs, fsC_rs, fsF_rs, fsS_rs, feC_rs, feF_rs]; done) | (simp only [nN_rs, wT_rs, onL_rs, onS_rs, spB_rs, spS_rs, mkLp_rs, mkS_rs, rsL_rs, rsS_rs, kdL_rs, kdS_rs, cdA_rs, cdF_rs, cdY_rs, cdS_rs, hdB_rs, fsC_rs, fsF_rs, fsS_rs, feC_rs, feF_rs]; with_reducible rfl) | (simp only [nN_rs, wT_rs, onL_rs, onS_rs, spB_rs, spS_rs, mkLp_rs, mkS_rs, rsL_rs, rsS_rs, kdL_rs, kdS_rs, cdA_rs, cdF_rs, cdY_rs, cdS_rs, hdB_rs, fsC_rs, fsF_rs, fsS_rs, feC_rs, feF_rs]; rfl) | rfl
theorem ageS_rs : ageS (rsA A) = ageS A := by
  funext u0 u1
  unfold ageS
  first | (simp only [nN_rs, wT_rs, onL_rs, onS_rs, spB_rs, spS_rs, mkLp_rs, mkS_rs, rsL_rs, rsS_rs, kdL_rs, kdS_rs, cdA_rs, cdF_rs, cdY_rs, cdS_rs, hdB_rs, fsC_rs, fsF_rs, fsS_rs, feC_rs, feF_rs, feS_rs]; done) | (simp only [nN_rs, wT_rs, onL_rs, onS_rs, spB_rs, spS_rs, mkLp_rs, mkS_rs, rsL_rs, rsS_rs, kdL_rs, kdS_rs, cdA_rs, cdF_rs, cdY_rs, cdS_rs, hdB_rs, fsC_rs, fsF_rs, fsS_rs, feC_rs, feF_rs, feS_rs]; with_reducible rfl) | (simp only [nN_rs, wT_rs, onL_rs, onS_rs, spB_rs, spS_rs, mkLp_rs, mkS_rs, rsL_rs, rsS_rs, kdL_rs, kdS_rs, cdA_rs, cdF_rs, cdY_rs, cdS_rs, hdB_rs, fsC_rs, fsF_rs, fsS_rs, feC_rs, feF_rs, feS_rs]; rfl) | rfl
theorem seS_rs : seS (rsA A) = seS A := by
  funext u0 u1
  unfold seS
  first | (simp only [nN_rs, wT_rs, onL_rs, onS_rs, spB_rs, spS_rs, mkLp_rs, mkS_rs, rsL_rs, rsS_rs, kdL_rs, kdS_rs, cdA_rs, cdF_rs, cdY_rs, cdS_rs, hdB_rs, fsC_rs, fsF_rs, fsS_rs, feC_rs, feF_rs, feS_rs, ageS_rs]; done) | (simp only [nN_rs, wT_rs, onL_rs, onS_rs, spB_rs, spS_rs, mkLp_rs, mkS_rs, rsL_rs, rsS_rs, kdL_rs, kdS_rs, cdA_rs, cdF_rs, cdY_rs, cdS_rs, hdB_rs, fsC_rs, fsF_rs, fsS_rs, feC_rs, feF_rs, feS_rs, ageS_rs]; with_reducible rfl) | (simp only [nN_rs, wT_rs, onL_rs, onS_rs, spB_rs, spS_rs, mkLp_rs, mkS_rs, rsL_rs, rsS_rs, kdL_rs, kdS_rs, cdA_rs, cdF_rs, cdY_rs, cdS_rs, hdB_rs, fsC_rs, fsF_rs, fsS_rs, feC_rs, feF_rs, feS_rs, ageS_rs]; rfl) | rfl
theorem nuS_rs : nuS (rsA A) = nuS A := by
  funext u0 u1
  unfold nuS
  first | (simp only [nN_rs, wT_rs, onL_rs, onS_rs, spB_rs, spS_rs, mkLp_rs, mkS_rs, rsL_rs, rsS_rs, kdL_rs, kdS_rs, cdA_rs, cdF_rs, cdY_rs, cdS_rs, hdB_rs, fsC_rs, fsF_rs, fsS_rs, feC_rs, feF_rs, feS_rs, ageS_rs, seS_rs]; done) | (simp only [nN_rs, wT_rs, onL_rs, onS_rs, spB_rs, spS_rs, mkLp_rs, mkS_rs, rsL_rs, rsS_rs, kdL_rs, kdS_rs, cdA_rs, cdF_rs, cdY_rs, cdS_rs, hdB_rs, fsC_rs, fsF_rs, fsS_rs, feC_rs, feF_rs, feS_rs, ageS_rs, seS_rs]; with_reducible rfl) | (simp only [nN_rs, wT_rs, onL_rs, onS_rs, spB_rs, spS_rs, mkLp_rs, mkS_rs, rsL_rs, rsS_rs, kdL_rs, kdS_rs, cdA_rs, cdF_rs, cdY_rs, cdS_rs, hdB_rs, fsC_rs, fsF_rs, fsS_rs, feC_rs, feF_rs, feS_rs, ageS_rs, seS_rs]; rfl) | rfl
theorem qE_rs : qE (rsA A) = qE A := by
  funext u0 u1 u2 u3 u4 u5
  unfold qE
  first | (simp only [nN_rs, wT_rs, onL_rs, onS_rs, spB_rs, spS_rs, mkLp_rs, mkS_rs, rsL_rs, rsS_rs, kdL_rs, kdS_rs, cdA_rs, cdF_rs, cdY_rs, cdS_rs, hdB_rs, fsC_rs, fsF_rs, fsS_rs, feC_rs, feF_rs, feS_rs, ageS_rs, seS_rs, nuS_rs]; done) | (simp only [nN_rs, wT_rs, onL_rs, onS_rs, spB_rs, spS_rs, mkLp_rs, mkS_rs, rsL_rs, rsS_rs, kdL_rs, kdS_rs, cdA_rs, cdF_rs, cdY_rs, cdS_rs, hdB_rs, fsC_rs, fsF_rs, fsS_rs, feC_rs, feF_rs, feS_rs, ageS_rs, seS_rs, nuS_rs]; with_reducible rfl) | (simp only [nN_rs, wT_rs, onL_rs, onS_rs, spB_rs, spS_rs, mkLp_rs, mkS_rs, rsL_rs, rsS_rs, kdL_rs, kdS_rs, cdA_rs, cdF_rs, cdY_rs, cdS_rs, hdB_rs, fsC_rs, fsF_rs, fsS_rs, feC_rs, feF_rs, feS_rs, ageS_rs, seS_rs, nuS_rs]; rfl) | rfl
theorem qnS_rs : qnS (rsA A) = qnS A := by
  funext u0 u1 u2 u3 u4 u5 u6
  unfold qnS
  first | (simp only [nN_rs, wT_rs, onL_rs, onS_rs, spB_rs, spS_rs, mkLp_rs, mkS_rs, rsL_rs, rsS_rs, kdL_rs, kdS_rs, cdA_rs, cdF_rs, cdY_rs, cdS_rs, hdB_rs, fsC_rs, fsF_rs, fsS_rs, feC_rs, feF_rs, feS_rs, ageS_rs, seS_rs, nuS_rs, qE_rs]; done) | (simp only [nN_rs, wT_rs, onL_rs, onS_rs, spB_rs, spS_rs, mkLp_rs, mkS_rs, rsL_rs, rsS_rs, kdL_rs, kdS_rs, cdA_rs, cdF_rs, cdY_rs, cdS_rs, hdB_rs, fsC_rs, fsF_rs, fsS_rs, feC_rs, feF_rs, feS_rs, ageS_rs, seS_rs, nuS_rs, qE_rs]; with_reducible rfl) | (simp only [nN_rs, wT_rs, onL_rs, onS_rs, spB_rs, spS_rs, mkLp_rs, mkS_rs, rsL_rs, rsS_rs, kdL_rs, kdS_rs, cdA_rs, cdF_rs, cdY_rs, cdS_rs, hdB_rs, fsC_rs, fsF_rs, fsS_rs, feC_rs, feF_rs, feS_rs, ageS_rs, seS_rs, nuS_rs, qE_rs]; rfl) | rfl
theorem qtS_rs : qtS (rsA A) = qtS A := by
  funext u0 u1 u2 u3 u4 u5 u6
  unfold qtS
  first | (simp only [nN_rs, wT_rs, onL_rs, onS_rs, spB_rs, spS_rs, mkLp_rs, mkS_rs, rsL_rs, rsS_rs, kdL_rs, kdS_rs, cdA_rs, cdF_rs, cdY_rs, cdS_rs, hdB_rs, fsC_rs, fsF_rs, fsS_rs, feC_rs, feF_rs, feS_rs, ageS_rs, seS_rs, nuS_rs, qE_rs, qnS_rs]; done) | (simp only [nN_rs, wT_rs, onL_rs, onS_rs, spB_rs, spS_rs, mkLp_rs, mkS_rs, rsL_rs, rsS_rs, kdL_rs, kdS_rs, cdA_rs, cdF_rs, cdY_rs, cdS_rs, hdB_rs, fsC_rs, fsF_rs, fsS_rs, feC_rs, feF_rs, feS_rs, ageS_rs, seS_rs, nuS_rs, qE_rs, qnS_rs]; with_reducible rfl) | (simp only [nN_rs, wT_rs, onL_rs, onS_rs, spB_rs, spS_rs, mkLp_rs, mkS_rs, rsL_rs, rsS_rs, kdL_rs, kdS_rs, cdA_rs, cdF_rs, cdY_rs, cdS_rs, hdB_rs, fsC_rs, fsF_rs, fsS_rs, feC_rs, feF_rs, feS_rs, ageS_rs, seS_rs, nuS_rs, qE_rs, qnS_rs]; rfl) | rfl
theorem yrL_rs : yrL (rsA A) = yrL A := by
  funext u0 u1 u2 u3 u4
  funext k
  induction k with
  | zero => rfl
  | succ k ih =>
    unfold yrL
    rw [ih]
    first | (simp only [nN_rs, wT_rs, onL_rs, onS_rs, spB_rs, spS_rs, mkLp_rs, mkS_rs, rsL_rs, rsS_rs, kdL_rs, kdS_rs, cdA_rs, cdF_rs, cdY_rs, cdS_rs, hdB_rs, fsC_rs, fsF_rs, fsS_rs, feC_rs, feF_rs, feS_rs, ageS_rs, seS_rs, nuS_rs, qE_rs, qnS_rs, qtS_rs]; done) | (simp only [nN_rs, wT_rs, onL_rs, onS_rs, spB_rs, spS_rs, mkLp_rs, mkS_rs, rsL_rs, rsS_rs, kdL_rs, kdS_rs, cdA_rs, cdF_rs, cdY_rs, cdS_rs, hdB_rs, fsC_rs, fsF_rs, fsS_rs, feC_rs, feF_rs, feS_rs, ageS_rs, seS_rs, nuS_rs, qE_rs, qnS_rs, qtS_rs]; with_reducible rfl) | (simp only [nN_rs, wT_rs, onL_rs, onS_rs, spB_rs, spS_rs, mkLp_rs, mkS_rs, rsL_rs, rsS_rs, kdL_rs, kdS_rs, cdA_rs, cdF_rs, cdY_rs, cdS_rs, hdB_rs, fsC_rs, fsF_rs, fsS_rs, feC_rs, feF_rs, feS_rs, ageS_rs, seS_rs, nuS_rs, qE_rs, qnS_rs, qtS_rs]; rfl) | rfl
theorem yrS_rs : yrS (rsA A) = yrS A := by
  funext u0 u1 u2 u3 u4
  unfold yrS
  first | (simp only [nN_rs, wT_rs, onL_rs, onS_rs, spB_rs, spS_rs, mkLp_rs, mkS_rs, rsL_rs, rsS_rs, kdL_rs, kdS_rs, cdA_rs, cdF_rs, cdY_rs, cdS_rs, hdB_rs, fsC_rs, fsF_rs, fsS_rs, feC_rs, feF_rs, feS_rs, ageS_rs, seS_rs, nuS_rs, qE_rs, qnS_rs, qtS_rs, yrL_rs]; done) | (simp only [nN_rs, wT_rs, onL_rs, onS_rs, spB_rs, spS_rs, mkLp_rs, mkS_rs, rsL_rs, rsS_rs, kdL_rs, kdS_rs, cdA_rs, cdF_rs, cdY_rs, cdS_rs, hdB_rs, fsC_rs, fsF_rs, fsS_rs, feC_rs, feF_rs, feS_rs, ageS_rs, seS_rs, nuS_rs, qE_rs, qnS_rs, qtS_rs, yrL_rs]; with_reducible rfl) | (simp only [nN_rs, wT_rs, onL_rs, onS_rs, spB_rs, spS_rs, mkLp_rs, mkS_rs, rsL_rs, rsS_rs, kdL_rs, kdS_rs, cdA_rs, cdF_rs, cdY_rs, cdS_rs, hdB_rs, fsC_rs, fsF_rs, fsS_rs, feC_rs, feF_rs, feS_rs, ageS_rs, seS_rs, nuS_rs, qE_rs, qnS_rs, qtS_rs, yrL_rs]; rfl) | rfl
theorem psE_rs : psE (rsA A) = psE A := by
  funext u0 u1 u2 u3
  unfold psE
  first | (simp only [nN_rs, wT_rs, onL_rs, onS_rs, spB_rs, spS_rs, mkLp_rs, mkS_rs, rsL_rs, rsS_rs, kdL_rs, kdS_rs, cdA_rs, cdF_rs, cdY_rs, cdS_rs, hdB_rs, fsC_rs, fsF_rs, fsS_rs, feC_rs, feF_rs, feS_rs, ageS_rs, seS_rs, nuS_rs, qE_rs, qnS_rs, qtS_rs, yrL_rs, yrS_rs]; done) | (simp only [nN_rs, wT_rs, onL_rs, onS_rs, spB_rs, spS_rs, mkLp_rs, mkS_rs, rsL_rs, rsS_rs, kdL_rs, kdS_rs, cdA_rs, cdF_rs, cdY_rs, cdS_rs, hdB_rs, fsC_rs, fsF_rs, fsS_rs, feC_rs, feF_rs, feS_rs, ageS_rs, seS_rs, nuS_rs, qE_rs, qnS_rs, qtS_rs, yrL_rs, yrS_rs]; with_reducible rfl) | (simp only [nN_rs, wT_rs, onL_rs, onS_rs, spB_rs, spS_rs, mkLp_rs, mkS_rs, rsL_rs, rsS_rs, kdL_rs, kdS_rs, cdA_rs, cdF_rs, cdY_rs, cdS_rs, hdB_rs, fsC_rs, fsF_rs, fsS_rs, feC_rs, feF_rs, feS_rs, ageS_rs, seS_rs, nuS_rs, qE_rs, qnS_rs, qtS_rs, yrL_rs, yrS_rs]; rfl) | rfl
theorem wpS_rs : wpS (rsA A) = wpS A := by
  funext u0 u1 u2 u3
  unfold wpS
  first | (simp only [nN_rs, wT_rs, onL_rs, onS_rs, spB_rs, spS_rs, mkLp_rs, mkS_rs, rsL_rs, rsS_rs, kdL_rs, kdS_rs, cdA_rs, cdF_rs, cdY_rs, cdS_rs, hdB_rs, fsC_rs, fsF_rs, fsS_rs, feC_rs, feF_rs, feS_rs, ageS_rs, seS_rs, nuS_rs, qE_rs, qnS_rs, qtS_rs, yrL_rs, yrS_rs, psE_rs]; done) | (simp only [nN_rs, wT_rs, onL_rs, onS_rs, spB_rs, spS_rs, mkLp_rs, mkS_rs, rsL_rs, rsS_rs, kdL_rs, kdS_rs, cdA_rs, cdF_rs, cdY_rs, cdS_rs, hdB_rs, fsC_rs, fsF_rs, fsS_rs, feC_rs, feF_rs, feS_rs, ageS_rs, seS_rs, nuS_rs, qE_rs, qnS_rs, qtS_rs, yrL_rs, yrS_rs, psE_rs]; with_reducible rfl) | (simp only [nN_rs, wT_rs, onL_rs, onS_rs, spB_rs, spS_rs, mkLp_rs, mkS_rs, rsL_rs, rsS_rs, kdL_rs, kdS_rs, cdA_rs, cdF_rs, cdY_rs, cdS_rs, hdB_rs, fsC_rs, fsF_rs, fsS_rs, feC_rs, feF_rs, feS_rs, ageS_rs, seS_rs, nuS_rs, qE_rs, qnS_rs, qtS_rs, yrL_rs, yrS_rs, psE_rs]; rfl) | rfl
theorem psL_rs : psL (rsA A) = psL A := by
  funext u0 u1 u2 u3 u4
  funext k
  induction k with
  | zero => rfl
  | succ k ih =>
    unfold psL
    rw [ih]
    first | (simp only [nN_rs, wT_rs, onL_rs, onS_rs, spB_rs, spS_rs, mkLp_rs, mkS_rs, rsL_rs, rsS_rs, kdL_rs, kdS_rs, cdA_rs, cdF_rs, cdY_rs, cdS_rs, hdB_rs, fsC_rs, fsF_rs, fsS_rs, feC_rs, feF_rs, feS_rs, ageS_rs, seS_rs, nuS_rs, qE_rs, qnS_rs, qtS_rs, yrL_rs, yrS_rs, psE_rs, wpS_rs]; done) | (simp only [nN_rs, wT_rs, onL_rs, onS_rs, spB_rs, spS_rs, mkLp_rs, mkS_rs, rsL_rs, rsS_rs, kdL_rs, kdS_rs, cdA_rs, cdF_rs, cdY_rs, cdS_rs, hdB_rs, fsC_rs, fsF_rs, fsS_rs, feC_rs, feF_rs, feS_rs, ageS_rs, seS_rs, nuS_rs, qE_rs, qnS_rs, qtS_rs, yrL_rs, yrS_rs, psE_rs, wpS_rs]; with_reducible rfl) | (simp only [nN_rs, wT_rs, onL_rs, onS_rs, spB_rs, spS_rs, mkLp_rs, mkS_rs, rsL_rs, rsS_rs, kdL_rs, kdS_rs, cdA_rs, cdF_rs, cdY_rs, cdS_rs, hdB_rs, fsC_rs, fsF_rs, fsS_rs, feC_rs, feF_rs, feS_rs, ageS_rs, seS_rs, nuS_rs, qE_rs, qnS_rs, qtS_rs, yrL_rs, yrS_rs, psE_rs, wpS_rs]; rfl) | rfl
theorem psS_rs : psS (rsA A) = psS A := by
  funext u0 u1 u2 u3 u4
  unfold psS
  first | (simp only [nN_rs, wT_rs, onL_rs, onS_rs, spB_rs, spS_rs, mkLp_rs, mkS_rs, rsL_rs, rsS_rs, kdL_rs, kdS_rs, cdA_rs, cdF_rs, cdY_rs, cdS_rs, hdB_rs, fsC_rs, fsF_rs, fsS_rs, feC_rs, feF_rs, feS_rs, ageS_rs, seS_rs, nuS_rs, qE_rs, qnS_rs, qtS_rs, yrL_rs, yrS_rs, psE_rs, wpS_rs, psL_rs]; done) | (simp only [nN_rs, wT_rs, onL_rs, onS_rs, spB_rs, spS_rs, mkLp_rs, mkS_rs, rsL_rs, rsS_rs, kdL_rs, kdS_rs, cdA_rs, cdF_rs, cdY_rs, cdS_rs, hdB_rs, fsC_rs, fsF_rs, fsS_rs, feC_rs, feF_rs, feS_rs, ageS_rs, seS_rs, nuS_rs, qE_rs, qnS_rs, qtS_rs, yrL_rs, yrS_rs, psE_rs, wpS_rs, psL_rs]; with_reducible rfl) | (simp only [nN_rs, wT_rs, onL_rs, onS_rs, spB_rs, spS_rs, mkLp_rs, mkS_rs, rsL_rs, rsS_rs, kdL_rs, kdS_rs, cdA_rs, cdF_rs, cdY_rs, cdS_rs, hdB_rs, fsC_rs, fsF_rs, fsS_rs, feC_rs, feF_rs, feS_rs, ageS_rs, seS_rs, nuS_rs, qE_rs, qnS_rs, qtS_rs, yrL_rs, yrS_rs, psE_rs, wpS_rs, psL_rs]; rfl) | rfl
theorem stN_rs : stN (rsA A) = stN A := by
  funext u0 u1 u2 u3
  unfold stN
  first | (simp only [nN_rs, wT_rs, onL_rs, onS_rs, spB_rs, spS_rs, mkLp_rs, mkS_rs, rsL_rs, rsS_rs, kdL_rs, kdS_rs, cdA_rs, cdF_rs, cdY_rs, cdS_rs, hdB_rs, fsC_rs, fsF_rs, fsS_rs, feC_rs, feF_rs, feS_rs, ageS_rs, seS_rs, nuS_rs, qE_rs, qnS_rs, qtS_rs, yrL_rs, yrS_rs, psE_rs, wpS_rs, psL_rs, psS_rs]; done) | (simp only [nN_rs, wT_rs, onL_rs, onS_rs, spB_rs, spS_rs, mkLp_rs, mkS_rs, rsL_rs, rsS_rs, kdL_rs, kdS_rs, cdA_rs, cdF_rs, cdY_rs, cdS_rs, hdB_rs, fsC_rs, fsF_rs, fsS_rs, feC_rs, feF_rs, feS_rs, ageS_rs, seS_rs, nuS_rs, qE_rs, qnS_rs, qtS_rs, yrL_rs, yrS_rs, psE_rs, wpS_rs, psL_rs, psS_rs]; with_reducible rfl) | (simp only [nN_rs, wT_rs, onL_rs, onS_rs, spB_rs, spS_rs, mkLp_rs, mkS_rs, rsL_rs, rsS_rs, kdL_rs, kdS_rs, cdA_rs, cdF_rs, cdY_rs, cdS_rs, hdB_rs, fsC_rs, fsF_rs, fsS_rs, feC_rs, feF_rs, feS_rs, ageS_rs, seS_rs, nuS_rs, qE_rs, qnS_rs, qtS_rs, yrL_rs, yrS_rs, psE_rs, wpS_rs, psL_rs, psS_rs]; rfl) | rfl
theorem stR_rs : stR (rsA A) = stR A := by
  funext u0 u1 u2 u3
  unfold stR
  first | (simp only [nN_rs, wT_rs, onL_rs, onS_rs, spB_rs, spS_rs, mkLp_rs, mkS_rs, rsL_rs, rsS_rs, kdL_rs, kdS_rs, cdA_rs, cdF_rs, cdY_rs, cdS_rs, hdB_rs, fsC_rs, fsF_rs, fsS_rs, feC_rs, feF_rs, feS_rs, ageS_rs, seS_rs, nuS_rs, qE_rs, qnS_rs, qtS_rs, yrL_rs, yrS_rs, psE_rs, wpS_rs, psL_rs, psS_rs, stN_rs]; done) | (simp only [nN_rs, wT_rs, onL_rs, onS_rs, spB_rs, spS_rs, mkLp_rs, mkS_rs, rsL_rs, rsS_rs, kdL_rs, kdS_rs, cdA_rs, cdF_rs, cdY_rs, cdS_rs, hdB_rs, fsC_rs, fsF_rs, fsS_rs, feC_rs, feF_rs, feS_rs, ageS_rs, seS_rs, nuS_rs, qE_rs, qnS_rs, qtS_rs, yrL_rs, yrS_rs, psE_rs, wpS_rs, psL_rs, psS_rs, stN_rs]; with_reducible rfl) | (simp only [nN_rs, wT_rs, onL_rs, onS_rs, spB_rs, spS_rs, mkLp_rs, mkS_rs, rsL_rs, rsS_rs, kdL_rs, kdS_rs, cdA_rs, cdF_rs, cdY_rs, cdS_rs, hdB_rs, fsC_rs, fsF_rs, fsS_rs, feC_rs, feF_rs, feS_rs, ageS_rs, seS_rs, nuS_rs, qE_rs, qnS_rs, qtS_rs, yrL_rs, yrS_rs, psE_rs, wpS_rs, psL_rs, psS_rs, stN_rs]; rfl) | rfl
theorem stL_rs : stL (rsA A) = stL A := by
  funext u0 u1
  funext k
  induction k with
  | zero => rfl
  | succ k ih =>
    unfold stL
    rw [ih]
    first | (simp only [nN_rs, wT_rs, onL_rs, onS_rs, spB_rs, spS_rs, mkLp_rs, mkS_rs, rsL_rs, rsS_rs, kdL_rs, kdS_rs, cdA_rs, cdF_rs, cdY_rs, cdS_rs, hdB_rs, fsC_rs, fsF_rs, fsS_rs, feC_rs, feF_rs, feS_rs, ageS_rs, seS_rs, nuS_rs, qE_rs, qnS_rs, qtS_rs, yrL_rs, yrS_rs, psE_rs, wpS_rs, psL_rs, psS_rs, stN_rs, stR_rs]; done) | (simp only [nN_rs, wT_rs, onL_rs, onS_rs, spB_rs, spS_rs, mkLp_rs, mkS_rs, rsL_rs, rsS_rs, kdL_rs, kdS_rs, cdA_rs, cdF_rs, cdY_rs, cdS_rs, hdB_rs, fsC_rs, fsF_rs, fsS_rs, feC_rs, feF_rs, feS_rs, ageS_rs, seS_rs, nuS_rs, qE_rs, qnS_rs, qtS_rs, yrL_rs, yrS_rs, psE_rs, wpS_rs, psL_rs, psS_rs, stN_rs, stR_rs]; with_reducible rfl) | (simp only [nN_rs, wT_rs, onL_rs, onS_rs, spB_rs, spS_rs, mkLp_rs, mkS_rs, rsL_rs, rsS_rs, kdL_rs, kdS_rs, cdA_rs, cdF_rs, cdY_rs, cdS_rs, hdB_rs, fsC_rs, fsF_rs, fsS_rs, feC_rs, feF_rs, feS_rs, ageS_rs, seS_rs, nuS_rs, qE_rs, qnS_rs, qtS_rs, yrL_rs, yrS_rs, psE_rs, wpS_rs, psL_rs, psS_rs, stN_rs, stR_rs]; rfl) | rfl
theorem stS_rs : stS (rsA A) = stS A := by
  funext u0 u1 u2
  unfold stS
  first | (simp only [nN_rs, wT_rs, onL_rs, onS_rs, spB_rs, spS_rs, mkLp_rs, mkS_rs, rsL_rs, rsS_rs, kdL_rs, kdS_rs, cdA_rs, cdF_rs, cdY_rs, cdS_rs, hdB_rs, fsC_rs, fsF_rs, fsS_rs, feC_rs, feF_rs, feS_rs, ageS_rs, seS_rs, nuS_rs, qE_rs, qnS_rs, qtS_rs, yrL_rs, yrS_rs, psE_rs, wpS_rs, psL_rs, psS_rs, stN_rs, stR_rs, stL_rs]; done) | (simp only [nN_rs, wT_rs, onL_rs, onS_rs, spB_rs, spS_rs, mkLp_rs, mkS_rs, rsL_rs, rsS_rs, kdL_rs, kdS_rs, cdA_rs, cdF_rs, cdY_rs, cdS_rs, hdB_rs, fsC_rs, fsF_rs, fsS_rs, feC_rs, feF_rs, feS_rs, ageS_rs, seS_rs, nuS_rs, qE_rs, qnS_rs, qtS_rs, yrL_rs, yrS_rs, psE_rs, wpS_rs, psL_rs, psS_rs, stN_rs, stR_rs, stL_rs]; with_reducible rfl) | (simp only [nN_rs, wT_rs, onL_rs, onS_rs, spB_rs, spS_rs, mkLp_rs, mkS_rs, rsL_rs, rsS_rs, kdL_rs, kdS_rs, cdA_rs, cdF_rs, cdY_rs, cdS_rs, hdB_rs, fsC_rs, fsF_rs, fsS_rs, feC_rs, feF_rs, feS_rs, ageS_rs, seS_rs, nuS_rs, qE_rs, qnS_rs, qtS_rs, yrL_rs, yrS_rs, psE_rs, wpS_rs, psL_rs, psS_rs, stN_rs, stR_rs, stL_rs]; rfl) | rfl
theorem lsS_rs : lsS (rsA A) = lsS A := by
  funext u0 u1
  unfold lsS
  first | (simp only [nN_rs, wT_rs, onL_rs, onS_rs, spB_rs, spS_rs, mkLp_rs, mkS_rs, rsL_rs, rsS_rs, kdL_rs, kdS_rs, cdA_rs, cdF_rs, cdY_rs, cdS_rs, hdB_rs, fsC_rs, fsF_rs, fsS_rs, feC_rs, feF_rs, feS_rs, ageS_rs, seS_rs, nuS_rs, qE_rs, qnS_rs, qtS_rs, yrL_rs, yrS_rs, psE_rs, wpS_rs, psL_rs, psS_rs, stN_rs, stR_rs, stL_rs, stS_rs]; done) | (simp only [nN_rs, wT_rs, onL_rs, onS_rs, spB_rs, spS_rs, mkLp_rs, mkS_rs, rsL_rs, rsS_rs, kdL_rs, kdS_rs, cdA_rs, cdF_rs, cdY_rs, cdS_rs, hdB_rs, fsC_rs, fsF_rs, fsS_rs, feC_rs, feF_rs, feS_rs, ageS_rs, seS_rs, nuS_rs, qE_rs, qnS_rs, qtS_rs, yrL_rs, yrS_rs, psE_rs, wpS_rs, psL_rs, psS_rs, stN_rs, stR_rs, stL_rs, stS_rs]; with_reducible rfl) | (simp only [nN_rs, wT_rs, onL_rs, onS_rs, spB_rs, spS_rs, mkLp_rs, mkS_rs, rsL_rs, rsS_rs, kdL_rs, kdS_rs, cdA_rs, cdF_rs, cdY_rs, cdS_rs, hdB_rs, fsC_rs, fsF_rs, fsS_rs, feC_rs, feF_rs, feS_rs, ageS_rs, seS_rs, nuS_rs, qE_rs, qnS_rs, qtS_rs, yrL_rs, yrS_rs, psE_rs, wpS_rs, psL_rs, psS_rs, stN_rs, stR_rs, stL_rs, stS_rs]; rfl) | rfl
theorem hnL_rs : hnL (rsA A) = hnL A := by
  funext u0 u1
  funext k
  induction k with
  | zero => rfl
  | succ k ih =>
    unfold hnL
    rw [ih]
    first | (simp only [nN_rs, wT_rs, onL_rs, onS_rs, spB_rs, spS_rs, mkLp_rs, mkS_rs, rsL_rs, rsS_rs, kdL_rs, kdS_rs, cdA_rs, cdF_rs, cdY_rs, cdS_rs, hdB_rs, fsC_rs, fsF_rs, fsS_rs, feC_rs, feF_rs, feS_rs, ageS_rs, seS_rs, nuS_rs, qE_rs, qnS_rs, qtS_rs, yrL_rs, yrS_rs, psE_rs, wpS_rs, psL_rs, psS_rs, stN_rs, stR_rs, stL_rs, stS_rs, lsS_rs]; done) | (simp only [nN_rs, wT_rs, onL_rs, onS_rs, spB_rs, spS_rs, mkLp_rs, mkS_rs, rsL_rs, rsS_rs, kdL_rs, kdS_rs, cdA_rs, cdF_rs, cdY_rs, cdS_rs, hdB_rs, fsC_rs, fsF_rs, fsS_rs, feC_rs, feF_rs, feS_rs, ageS_rs, seS_rs, nuS_rs, qE_rs, qnS_rs, qtS_rs, yrL_rs, yrS_rs, psE_rs, wpS_rs, psL_rs, psS_rs, stN_rs, stR_rs, stL_rs, stS_rs, lsS_rs]; with_reducible rfl) | (simp only [nN_rs, wT_rs, onL_rs, onS_rs, spB_rs, spS_rs, mkLp_rs, mkS_rs, rsL_rs, rsS_rs, kdL_rs, kdS_rs, cdA_rs, cdF_rs, cdY_rs, cdS_rs, hdB_rs, fsC_rs, fsF_rs, fsS_rs, feC_rs, feF_rs, feS_rs, ageS_rs, seS_rs, nuS_rs, qE_rs, qnS_rs, qtS_rs, yrL_rs, yrS_rs, psE_rs, wpS_rs, psL_rs, psS_rs, stN_rs, stR_rs, stL_rs, stS_rs, lsS_rs]; rfl) | rfl
theorem sfS_rs : sfS (rsA A) = sfS A := by
  funext u0 u1 u2
  unfold sfS
  first | (simp only [nN_rs, wT_rs, onL_rs, onS_rs, spB_rs, spS_rs, mkLp_rs, mkS_rs, rsL_rs, rsS_rs, kdL_rs, kdS_rs, cdA_rs, cdF_rs, cdY_rs, cdS_rs, hdB_rs, fsC_rs, fsF_rs, fsS_rs, feC_rs, feF_rs, feS_rs, ageS_rs, seS_rs, nuS_rs, qE_rs, qnS_rs, qtS_rs, yrL_rs, yrS_rs, psE_rs, wpS_rs, psL_rs, psS_rs, stN_rs, stR_rs, stL_rs, stS_rs, lsS_rs, hnL_rs]; done) | (simp only [nN_rs, wT_rs, onL_rs, onS_rs, spB_rs, spS_rs, mkLp_rs, mkS_rs, rsL_rs, rsS_rs, kdL_rs, kdS_rs, cdA_rs, cdF_rs, cdY_rs, cdS_rs, hdB_rs, fsC_rs, fsF_rs, fsS_rs, feC_rs, feF_rs, feS_rs, ageS_rs, seS_rs, nuS_rs, qE_rs, qnS_rs, qtS_rs, yrL_rs, yrS_rs, psE_rs, wpS_rs, psL_rs, psS_rs, stN_rs, stR_rs, stL_rs, stS_rs, lsS_rs, hnL_rs]; with_reducible rfl) | (simp only [nN_rs, wT_rs, onL_rs, onS_rs, spB_rs, spS_rs, mkLp_rs, mkS_rs, rsL_rs, rsS_rs, kdL_rs, kdS_rs, cdA_rs, cdF_rs, cdY_rs, cdS_rs, hdB_rs, fsC_rs, fsF_rs, fsS_rs, feC_rs, feF_rs, feS_rs, ageS_rs, seS_rs, nuS_rs, qE_rs, qnS_rs, qtS_rs, yrL_rs, yrS_rs, psE_rs, wpS_rs, psL_rs, psS_rs, stN_rs, stR_rs, stL_rs, stS_rs, lsS_rs, hnL_rs]; rfl) | rfl
theorem opL_rs : opL (rsA A) = opL A := by
  funext u0 u1 u2
  funext k
  induction k with
  | zero => rfl
  | succ k ih =>
    unfold opL
    rw [ih]
    first | (simp only [nN_rs, wT_rs, onL_rs, onS_rs, spB_rs, spS_rs, mkLp_rs, mkS_rs, rsL_rs, rsS_rs, kdL_rs, kdS_rs, cdA_rs, cdF_rs, cdY_rs, cdS_rs, hdB_rs, fsC_rs, fsF_rs, fsS_rs, feC_rs, feF_rs, feS_rs, ageS_rs, seS_rs, nuS_rs, qE_rs, qnS_rs, qtS_rs, yrL_rs, yrS_rs, psE_rs, wpS_rs, psL_rs, psS_rs, stN_rs, stR_rs, stL_rs, stS_rs, lsS_rs, hnL_rs, sfS_rs]; done) | (simp only [nN_rs, wT_rs, onL_rs, onS_rs, spB_rs, spS_rs, mkLp_rs, mkS_rs, rsL_rs, rsS_rs, kdL_rs, kdS_rs, cdA_rs, cdF_rs, cdY_rs, cdS_rs, hdB_rs, fsC_rs, fsF_rs, fsS_rs, feC_rs, feF_rs, feS_rs, ageS_rs, seS_rs, nuS_rs, qE_rs, qnS_rs, qtS_rs, yrL_rs, yrS_rs, psE_rs, wpS_rs, psL_rs, psS_rs, stN_rs, stR_rs, stL_rs, stS_rs, lsS_rs, hnL_rs, sfS_rs]; with_reducible rfl) | (simp only [nN_rs, wT_rs, onL_rs, onS_rs, spB_rs, spS_rs, mkLp_rs, mkS_rs, rsL_rs, rsS_rs, kdL_rs, kdS_rs, cdA_rs, cdF_rs, cdY_rs, cdS_rs, hdB_rs, fsC_rs, fsF_rs, fsS_rs, feC_rs, feF_rs, feS_rs, ageS_rs, seS_rs, nuS_rs, qE_rs, qnS_rs, qtS_rs, yrL_rs, yrS_rs, psE_rs, wpS_rs, psL_rs, psS_rs, stN_rs, stR_rs, stL_rs, stS_rs, lsS_rs, hnL_rs, sfS_rs]; rfl) | rfl
theorem opS_rs : opS (rsA A) = opS A := by
  funext u0 u1 u2
  unfold opS
  first | (simp only [nN_rs, wT_rs, onL_rs, onS_rs, spB_rs, spS_rs, mkLp_rs, mkS_rs, rsL_rs, rsS_rs, kdL_rs, kdS_rs, cdA_rs, cdF_rs, cdY_rs, cdS_rs, hdB_rs, fsC_rs, fsF_rs, fsS_rs, feC_rs, feF_rs, feS_rs, ageS_rs, seS_rs, nuS_rs, qE_rs, qnS_rs, qtS_rs, yrL_rs, yrS_rs, psE_rs, wpS_rs, psL_rs, psS_rs, stN_rs, stR_rs, stL_rs, stS_rs, lsS_rs, hnL_rs, sfS_rs, opL_rs]; done) | (simp only [nN_rs, wT_rs, onL_rs, onS_rs, spB_rs, spS_rs, mkLp_rs, mkS_rs, rsL_rs, rsS_rs, kdL_rs, kdS_rs, cdA_rs, cdF_rs, cdY_rs, cdS_rs, hdB_rs, fsC_rs, fsF_rs, fsS_rs, feC_rs, feF_rs, feS_rs, ageS_rs, seS_rs, nuS_rs, qE_rs, qnS_rs, qtS_rs, yrL_rs, yrS_rs, psE_rs, wpS_rs, psL_rs, psS_rs, stN_rs, stR_rs, stL_rs, stS_rs, lsS_rs, hnL_rs, sfS_rs, opL_rs]; with_reducible rfl) | (simp only [nN_rs, wT_rs, onL_rs, onS_rs, spB_rs, spS_rs, mkLp_rs, mkS_rs, rsL_rs, rsS_rs, kdL_rs, kdS_rs, cdA_rs, cdF_rs, cdY_rs, cdS_rs, hdB_rs, fsC_rs, fsF_rs, fsS_rs, feC_rs, feF_rs, feS_rs, ageS_rs, seS_rs, nuS_rs, qE_rs, qnS_rs, qtS_rs, yrL_rs, yrS_rs, psE_rs, wpS_rs, psL_rs, psS_rs, stN_rs, stR_rs, stL_rs, stS_rs, lsS_rs, hnL_rs, sfS_rs, opL_rs]; rfl) | rfl
theorem saL_rs : saL (rsA A) = saL A := by
  funext u0 u1 u2 u3 u4 u5
  funext k
  induction k with
  | zero => rfl
  | succ k ih =>
    unfold saL
    rw [ih]
    first | (simp only [nN_rs, wT_rs, onL_rs, onS_rs, spB_rs, spS_rs, mkLp_rs, mkS_rs, rsL_rs, rsS_rs, kdL_rs, kdS_rs, cdA_rs, cdF_rs, cdY_rs, cdS_rs, hdB_rs, fsC_rs, fsF_rs, fsS_rs, feC_rs, feF_rs, feS_rs, ageS_rs, seS_rs, nuS_rs, qE_rs, qnS_rs, qtS_rs, yrL_rs, yrS_rs, psE_rs, wpS_rs, psL_rs, psS_rs, stN_rs, stR_rs, stL_rs, stS_rs, lsS_rs, hnL_rs, sfS_rs, opL_rs, opS_rs]; done) | (simp only [nN_rs, wT_rs, onL_rs, onS_rs, spB_rs, spS_rs, mkLp_rs, mkS_rs, rsL_rs, rsS_rs, kdL_rs, kdS_rs, cdA_rs, cdF_rs, cdY_rs, cdS_rs, hdB_rs, fsC_rs, fsF_rs, fsS_rs, feC_rs, feF_rs, feS_rs, ageS_rs, seS_rs, nuS_rs, qE_rs, qnS_rs, qtS_rs, yrL_rs, yrS_rs, psE_rs, wpS_rs, psL_rs, psS_rs, stN_rs, stR_rs, stL_rs, stS_rs, lsS_rs, hnL_rs, sfS_rs, opL_rs, opS_rs]; with_reducible rfl) | (simp only [nN_rs, wT_rs, onL_rs, onS_rs, spB_rs, spS_rs, mkLp_rs, mkS_rs, rsL_rs, rsS_rs, kdL_rs, kdS_rs, cdA_rs, cdF_rs, cdY_rs, cdS_rs, hdB_rs, fsC_rs, fsF_rs, fsS_rs, feC_rs, feF_rs, feS_rs, ageS_rs, seS_rs, nuS_rs, qE_rs, qnS_rs, qtS_rs, yrL_rs, yrS_rs, psE_rs, wpS_rs, psL_rs, psS_rs, stN_rs, stR_rs, stL_rs, stS_rs, lsS_rs, hnL_rs, sfS_rs, opL_rs, opS_rs]; rfl) | rfl
theorem suL_rs : suL (rsA A) = suL A := by
  funext u0 u1 u2 u3
  funext k
  induction k with
  | zero => rfl
  | succ k ih =>
    unfold suL
    rw [ih]
    first | (simp only [nN_rs, wT_rs, onL_rs, onS_rs, spB_rs, spS_rs, mkLp_rs, mkS_rs, rsL_rs, rsS_rs, kdL_rs, kdS_rs, cdA_rs, cdF_rs, cdY_rs, cdS_rs, hdB_rs, fsC_rs, fsF_rs, fsS_rs, feC_rs, feF_rs, feS_rs, ageS_rs, seS_rs, nuS_rs, qE_rs, qnS_rs, qtS_rs, yrL_rs, yrS_rs, psE_rs, wpS_rs, psL_rs, psS_rs, stN_rs, stR_rs, stL_rs, stS_rs, lsS_rs, hnL_rs, sfS_rs, opL_rs, opS_rs, saL_rs]; done) | (simp only [nN_rs, wT_rs, onL_rs, onS_rs, spB_rs, spS_rs, mkLp_rs, mkS_rs, rsL_rs, rsS_rs, kdL_rs, kdS_rs, cdA_rs, cdF_rs, cdY_rs, cdS_rs, hdB_rs, fsC_rs, fsF_rs, fsS_rs, feC_rs, feF_rs, feS_rs, ageS_rs, seS_rs, nuS_rs, qE_rs, qnS_rs, qtS_rs, yrL_rs, yrS_rs, psE_rs, wpS_rs, psL_rs, psS_rs, stN_rs, stR_rs, stL_rs, stS_rs, lsS_rs, hnL_rs, sfS_rs, opL_rs, opS_rs, saL_rs]; with_reducible rfl) | (simp only [nN_rs, wT_rs, onL_rs, onS_rs, spB_rs, spS_rs, mkLp_rs, mkS_rs, rsL_rs, rsS_rs, kdL_rs, kdS_rs, cdA_rs, cdF_rs, cdY_rs, cdS_rs, hdB_rs, fsC_rs, fsF_rs, fsS_rs, feC_rs, feF_rs, feS_rs, ageS_rs, seS_rs, nuS_rs, qE_rs, qnS_rs, qtS_rs, yrL_rs, yrS_rs, psE_rs, wpS_rs, psL_rs, psS_rs, stN_rs, stR_rs, stL_rs, stS_rs, lsS_rs, hnL_rs, sfS_rs, opL_rs, opS_rs, saL_rs]; rfl) | rfl
theorem puL_rs : puL (rsA A) = puL A := by
  funext u0 u1 u2
  funext k
  induction k with
  | zero => rfl
  | succ k ih =>
    unfold puL
    rw [ih]
    first | (simp only [nN_rs, wT_rs, onL_rs, onS_rs, spB_rs, spS_rs, mkLp_rs, mkS_rs, rsL_rs, rsS_rs, kdL_rs, kdS_rs, cdA_rs, cdF_rs, cdY_rs, cdS_rs, hdB_rs, fsC_rs, fsF_rs, fsS_rs, feC_rs, feF_rs, feS_rs, ageS_rs, seS_rs, nuS_rs, qE_rs, qnS_rs, qtS_rs, yrL_rs, yrS_rs, psE_rs, wpS_rs, psL_rs, psS_rs, stN_rs, stR_rs, stL_rs, stS_rs, lsS_rs, hnL_rs, sfS_rs, opL_rs, opS_rs, saL_rs, suL_rs]; done) | (simp only [nN_rs, wT_rs, onL_rs, onS_rs, spB_rs, spS_rs, mkLp_rs, mkS_rs, rsL_rs, rsS_rs, kdL_rs, kdS_rs, cdA_rs, cdF_rs, cdY_rs, cdS_rs, hdB_rs, fsC_rs, fsF_rs, fsS_rs, feC_rs, feF_rs, feS_rs, ageS_rs, seS_rs, nuS_rs, qE_rs, qnS_rs, qtS_rs, yrL_rs, yrS_rs, psE_rs, wpS_rs, psL_rs, psS_rs, stN_rs, stR_rs, stL_rs, stS_rs, lsS_rs, hnL_rs, sfS_rs, opL_rs, opS_rs, saL_rs, suL_rs]; with_reducible rfl) | (simp only [nN_rs, wT_rs, onL_rs, onS_rs, spB_rs, spS_rs, mkLp_rs, mkS_rs, rsL_rs, rsS_rs, kdL_rs, kdS_rs, cdA_rs, cdF_rs, cdY_rs, cdS_rs, hdB_rs, fsC_rs, fsF_rs, fsS_rs, feC_rs, feF_rs, feS_rs, ageS_rs, seS_rs, nuS_rs, qE_rs, qnS_rs, qtS_rs, yrL_rs, yrS_rs, psE_rs, wpS_rs, psL_rs, psS_rs, stN_rs, stR_rs, stL_rs, stS_rs, lsS_rs, hnL_rs, sfS_rs, opL_rs, opS_rs, saL_rs, suL_rs]; rfl) | rfl
theorem yvS_rs : yvS (rsA A) = yvS A := by
  funext u0 u1 u2 u3 u4
  unfold yvS
  first | (simp only [nN_rs, wT_rs, onL_rs, onS_rs, spB_rs, spS_rs, mkLp_rs, mkS_rs, rsL_rs, rsS_rs, kdL_rs, kdS_rs, cdA_rs, cdF_rs, cdY_rs, cdS_rs, hdB_rs, fsC_rs, fsF_rs, fsS_rs, feC_rs, feF_rs, feS_rs, ageS_rs, seS_rs, nuS_rs, qE_rs, qnS_rs, qtS_rs, yrL_rs, yrS_rs, psE_rs, wpS_rs, psL_rs, psS_rs, stN_rs, stR_rs, stL_rs, stS_rs, lsS_rs, hnL_rs, sfS_rs, opL_rs, opS_rs, saL_rs, suL_rs, puL_rs]; done) | (simp only [nN_rs, wT_rs, onL_rs, onS_rs, spB_rs, spS_rs, mkLp_rs, mkS_rs, rsL_rs, rsS_rs, kdL_rs, kdS_rs, cdA_rs, cdF_rs, cdY_rs, cdS_rs, hdB_rs, fsC_rs, fsF_rs, fsS_rs, feC_rs, feF_rs, feS_rs, ageS_rs, seS_rs, nuS_rs, qE_rs, qnS_rs, qtS_rs, yrL_rs, yrS_rs, psE_rs, wpS_rs, psL_rs, psS_rs, stN_rs, stR_rs, stL_rs, stS_rs, lsS_rs, hnL_rs, sfS_rs, opL_rs, opS_rs, saL_rs, suL_rs, puL_rs]; with_reducible rfl) | (simp only [nN_rs, wT_rs, onL_rs, onS_rs, spB_rs, spS_rs, mkLp_rs, mkS_rs, rsL_rs, rsS_rs, kdL_rs, kdS_rs, cdA_rs, cdF_rs, cdY_rs, cdS_rs, hdB_rs, fsC_rs, fsF_rs, fsS_rs, feC_rs, feF_rs, feS_rs, ageS_rs, seS_rs, nuS_rs, qE_rs, qnS_rs, qtS_rs, yrL_rs, yrS_rs, psE_rs, wpS_rs, psL_rs, psS_rs, stN_rs, stR_rs, stL_rs, stS_rs, lsS_rs, hnL_rs, sfS_rs, opL_rs, opS_rs, saL_rs, suL_rs, puL_rs]; rfl) | rfl
theorem avS_rs : avS (rsA A) = avS A := by
  funext u0 u1 u2 u3
  unfold avS
  first | (simp only [nN_rs, wT_rs, onL_rs, onS_rs, spB_rs, spS_rs, mkLp_rs, mkS_rs, rsL_rs, rsS_rs, kdL_rs, kdS_rs, cdA_rs, cdF_rs, cdY_rs, cdS_rs, hdB_rs, fsC_rs, fsF_rs, fsS_rs, feC_rs, feF_rs, feS_rs, ageS_rs, seS_rs, nuS_rs, qE_rs, qnS_rs, qtS_rs, yrL_rs, yrS_rs, psE_rs, wpS_rs, psL_rs, psS_rs, stN_rs, stR_rs, stL_rs, stS_rs, lsS_rs, hnL_rs, sfS_rs, opL_rs, opS_rs, saL_rs, suL_rs, puL_rs, yvS_rs]; done) | (simp only [nN_rs, wT_rs, onL_rs, onS_rs, spB_rs, spS_rs, mkLp_rs, mkS_rs, rsL_rs, rsS_rs, kdL_rs, kdS_rs, cdA_rs, cdF_rs, cdY_rs, cdS_rs, hdB_rs, fsC_rs, fsF_rs, fsS_rs, feC_rs, feF_rs, feS_rs, ageS_rs, seS_rs, nuS_rs, qE_rs, qnS_rs, qtS_rs, yrL_rs, yrS_rs, psE_rs, wpS_rs, psL_rs, psS_rs, stN_rs, stR_rs, stL_rs, stS_rs, lsS_rs, hnL_rs, sfS_rs, opL_rs, opS_rs, saL_rs, suL_rs, puL_rs, yvS_rs]; with_reducible rfl) | (simp only [nN_rs, wT_rs, onL_rs, onS_rs, spB_rs, spS_rs, mkLp_rs, mkS_rs, rsL_rs, rsS_rs, kdL_rs, kdS_rs, cdA_rs, cdF_rs, cdY_rs, cdS_rs, hdB_rs, fsC_rs, fsF_rs, fsS_rs, feC_rs, feF_rs, feS_rs, ageS_rs, seS_rs, nuS_rs, qE_rs, qnS_rs, qtS_rs, yrL_rs, yrS_rs, psE_rs, wpS_rs, psL_rs, psS_rs, stN_rs, stR_rs, stL_rs, stS_rs, lsS_rs, hnL_rs, sfS_rs, opL_rs, opS_rs, saL_rs, suL_rs, puL_rs, yvS_rs]; rfl) | rfl
theorem pfS_rs : pfS (rsA A) = pfS A := by
  funext u0 u1 u2 u3
  unfold pfS
  first | (simp only [nN_rs, wT_rs, onL_rs, onS_rs, spB_rs, spS_rs, mkLp_rs, mkS_rs, rsL_rs, rsS_rs, kdL_rs, kdS_rs, cdA_rs, cdF_rs, cdY_rs, cdS_rs, hdB_rs, fsC_rs, fsF_rs, fsS_rs, feC_rs, feF_rs, feS_rs, ageS_rs, seS_rs, nuS_rs, qE_rs, qnS_rs, qtS_rs, yrL_rs, yrS_rs, psE_rs, wpS_rs, psL_rs, psS_rs, stN_rs, stR_rs, stL_rs, stS_rs, lsS_rs, hnL_rs, sfS_rs, opL_rs, opS_rs, saL_rs, suL_rs, puL_rs, yvS_rs, avS_rs]; done) | (simp only [nN_rs, wT_rs, onL_rs, onS_rs, spB_rs, spS_rs, mkLp_rs, mkS_rs, rsL_rs, rsS_rs, kdL_rs, kdS_rs, cdA_rs, cdF_rs, cdY_rs, cdS_rs, hdB_rs, fsC_rs, fsF_rs, fsS_rs, feC_rs, feF_rs, feS_rs, ageS_rs, seS_rs, nuS_rs, qE_rs, qnS_rs, qtS_rs, yrL_rs, yrS_rs, psE_rs, wpS_rs, psL_rs, psS_rs, stN_rs, stR_rs, stL_rs, stS_rs, lsS_rs, hnL_rs, sfS_rs, opL_rs, opS_rs, saL_rs, suL_rs, puL_rs, yvS_rs, avS_rs]; with_reducible rfl) | (simp only [nN_rs, wT_rs, onL_rs, onS_rs, spB_rs, spS_rs, mkLp_rs, mkS_rs, rsL_rs, rsS_rs, kdL_rs, kdS_rs, cdA_rs, cdF_rs, cdY_rs, cdS_rs, hdB_rs, fsC_rs, fsF_rs, fsS_rs, feC_rs, feF_rs, feS_rs, ageS_rs, seS_rs, nuS_rs, qE_rs, qnS_rs, qtS_rs, yrL_rs, yrS_rs, psE_rs, wpS_rs, psL_rs, psS_rs, stN_rs, stR_rs, stL_rs, stS_rs, lsS_rs, hnL_rs, sfS_rs, opL_rs, opS_rs, saL_rs, suL_rs, puL_rs, yvS_rs, avS_rs]; rfl) | rfl
theorem grB_rs : grB (rsA A) = grB A := by
  funext u0 u1 u2 u3
  unfold grB
  first | (simp only [nN_rs, wT_rs, onL_rs, onS_rs, spB_rs, spS_rs, mkLp_rs, mkS_rs, rsL_rs, rsS_rs, kdL_rs, kdS_rs, cdA_rs, cdF_rs, cdY_rs, cdS_rs, hdB_rs, fsC_rs, fsF_rs, fsS_rs, feC_rs, feF_rs, feS_rs, ageS_rs, seS_rs, nuS_rs, qE_rs, qnS_rs, qtS_rs, yrL_rs, yrS_rs, psE_rs, wpS_rs, psL_rs, psS_rs, stN_rs, stR_rs, stL_rs, stS_rs, lsS_rs, hnL_rs, sfS_rs, opL_rs, opS_rs, saL_rs, suL_rs, puL_rs, yvS_rs, avS_rs, pfS_rs]; done) | (simp only [nN_rs, wT_rs, onL_rs, onS_rs, spB_rs, spS_rs, mkLp_rs, mkS_rs, rsL_rs, rsS_rs, kdL_rs, kdS_rs, cdA_rs, cdF_rs, cdY_rs, cdS_rs, hdB_rs, fsC_rs, fsF_rs, fsS_rs, feC_rs, feF_rs, feS_rs, ageS_rs, seS_rs, nuS_rs, qE_rs, qnS_rs, qtS_rs, yrL_rs, yrS_rs, psE_rs, wpS_rs, psL_rs, psS_rs, stN_rs, stR_rs, stL_rs, stS_rs, lsS_rs, hnL_rs, sfS_rs, opL_rs, opS_rs, saL_rs, suL_rs, puL_rs, yvS_rs, avS_rs, pfS_rs]; with_reducible rfl) | (simp only [nN_rs, wT_rs, onL_rs, onS_rs, spB_rs, spS_rs, mkLp_rs, mkS_rs, rsL_rs, rsS_rs, kdL_rs, kdS_rs, cdA_rs, cdF_rs, cdY_rs, cdS_rs, hdB_rs, fsC_rs, fsF_rs, fsS_rs, feC_rs, feF_rs, feS_rs, ageS_rs, seS_rs, nuS_rs, qE_rs, qnS_rs, qtS_rs, yrL_rs, yrS_rs, psE_rs, wpS_rs, psL_rs, psS_rs, stN_rs, stR_rs, stL_rs, stS_rs, lsS_rs, hnL_rs, sfS_rs, opL_rs, opS_rs, saL_rs, suL_rs, puL_rs, yvS_rs, avS_rs, pfS_rs]; rfl) | rfl
theorem ghL_rs : ghL (rsA A) = ghL A := by
  funext u0 u1 u2
  funext k
  induction k with
  | zero => rfl
  | succ k ih =>
    unfold ghL
    rw [ih]
    first | (simp only [nN_rs, wT_rs, onL_rs, onS_rs, spB_rs, spS_rs, mkLp_rs, mkS_rs, rsL_rs, rsS_rs, kdL_rs, kdS_rs, cdA_rs, cdF_rs, cdY_rs, cdS_rs, hdB_rs, fsC_rs, fsF_rs, fsS_rs, feC_rs, feF_rs, feS_rs, ageS_rs, seS_rs, nuS_rs, qE_rs, qnS_rs, qtS_rs, yrL_rs, yrS_rs, psE_rs, wpS_rs, psL_rs, psS_rs, stN_rs, stR_rs, stL_rs, stS_rs, lsS_rs, hnL_rs, sfS_rs, opL_rs, opS_rs, saL_rs, suL_rs, puL_rs, yvS_rs, avS_rs, pfS_rs, grB_rs]; done) | (simp only [nN_rs, wT_rs, onL_rs, onS_rs, spB_rs, spS_rs, mkLp_rs, mkS_rs, rsL_rs, rsS_rs, kdL_rs, kdS_rs, cdA_rs, cdF_rs, cdY_rs, cdS_rs, hdB_rs, fsC_rs, fsF_rs, fsS_rs, feC_rs, feF_rs, feS_rs, ageS_rs, seS_rs, nuS_rs, qE_rs, qnS_rs, qtS_rs, yrL_rs, yrS_rs, psE_rs, wpS_rs, psL_rs, psS_rs, stN_rs, stR_rs, stL_rs, stS_rs, lsS_rs, hnL_rs, sfS_rs, opL_rs, opS_rs, saL_rs, suL_rs, puL_rs, yvS_rs, avS_rs, pfS_rs, grB_rs]; with_reducible rfl) | (simp only [nN_rs, wT_rs, onL_rs, onS_rs, spB_rs, spS_rs, mkLp_rs, mkS_rs, rsL_rs, rsS_rs, kdL_rs, kdS_rs, cdA_rs, cdF_rs, cdY_rs, cdS_rs, hdB_rs, fsC_rs, fsF_rs, fsS_rs, feC_rs, feF_rs, feS_rs, ageS_rs, seS_rs, nuS_rs, qE_rs, qnS_rs, qtS_rs, yrL_rs, yrS_rs, psE_rs, wpS_rs, psL_rs, psS_rs, stN_rs, stR_rs, stL_rs, stS_rs, lsS_rs, hnL_rs, sfS_rs, opL_rs, opS_rs, saL_rs, suL_rs, puL_rs, yvS_rs, avS_rs, pfS_rs, grB_rs]; rfl) | rfl
theorem gcO_rs : gcO (rsA A) = gcO A := by
  funext u0 u1 u2 u3 u4 u5 u6
  unfold gcO
  first | (simp only [nN_rs, wT_rs, onL_rs, onS_rs, spB_rs, spS_rs, mkLp_rs, mkS_rs, rsL_rs, rsS_rs, kdL_rs, kdS_rs, cdA_rs, cdF_rs, cdY_rs, cdS_rs, hdB_rs, fsC_rs, fsF_rs, fsS_rs, feC_rs, feF_rs, feS_rs, ageS_rs, seS_rs, nuS_rs, qE_rs, qnS_rs, qtS_rs, yrL_rs, yrS_rs, psE_rs, wpS_rs, psL_rs, psS_rs, stN_rs, stR_rs, stL_rs, stS_rs, lsS_rs, hnL_rs, sfS_rs, opL_rs, opS_rs, saL_rs, suL_rs, puL_rs, yvS_rs, avS_rs, pfS_rs, grB_rs, ghL_rs]; done) | (simp only [nN_rs, wT_rs, onL_rs, onS_rs, spB_rs, spS_rs, mkLp_rs, mkS_rs, rsL_rs, rsS_rs, kdL_rs, kdS_rs, cdA_rs, cdF_rs, cdY_rs, cdS_rs, hdB_rs, fsC_rs, fsF_rs, fsS_rs, feC_rs, feF_rs, feS_rs, ageS_rs, seS_rs, nuS_rs, qE_rs, qnS_rs, qtS_rs, yrL_rs, yrS_rs, psE_rs, wpS_rs, psL_rs, psS_rs, stN_rs, stR_rs, stL_rs, stS_rs, lsS_rs, hnL_rs, sfS_rs, opL_rs, opS_rs, saL_rs, suL_rs, puL_rs, yvS_rs, avS_rs, pfS_rs, grB_rs, ghL_rs]; with_reducible rfl) | (simp only [nN_rs, wT_rs, onL_rs, onS_rs, spB_rs, spS_rs, mkLp_rs, mkS_rs, rsL_rs, rsS_rs, kdL_rs, kdS_rs, cdA_rs, cdF_rs, cdY_rs, cdS_rs, hdB_rs, fsC_rs, fsF_rs, fsS_rs, feC_rs, feF_rs, feS_rs, ageS_rs, seS_rs, nuS_rs, qE_rs, qnS_rs, qtS_rs, yrL_rs, yrS_rs, psE_rs, wpS_rs, psL_rs, psS_rs, stN_rs, stR_rs, stL_rs, stS_rs, lsS_rs, hnL_rs, sfS_rs, opL_rs, opS_rs, saL_rs, suL_rs, puL_rs, yvS_rs, avS_rs, pfS_rs, grB_rs, ghL_rs]; rfl) | rfl
theorem gcL_rs : gcL (rsA A) = gcL A := by
  funext u0 u1 u2 u3 u4 u5
  funext k
  induction k with
  | zero => rfl
  | succ k ih =>
    unfold gcL
    rw [ih]
    first | (simp only [nN_rs, wT_rs, onL_rs, onS_rs, spB_rs, spS_rs, mkLp_rs, mkS_rs, rsL_rs, rsS_rs, kdL_rs, kdS_rs, cdA_rs, cdF_rs, cdY_rs, cdS_rs, hdB_rs, fsC_rs, fsF_rs, fsS_rs, feC_rs, feF_rs, feS_rs, ageS_rs, seS_rs, nuS_rs, qE_rs, qnS_rs, qtS_rs, yrL_rs, yrS_rs, psE_rs, wpS_rs, psL_rs, psS_rs, stN_rs, stR_rs, stL_rs, stS_rs, lsS_rs, hnL_rs, sfS_rs, opL_rs, opS_rs, saL_rs, suL_rs, puL_rs, yvS_rs, avS_rs, pfS_rs, grB_rs, ghL_rs, gcO_rs]; done) | (simp only [nN_rs, wT_rs, onL_rs, onS_rs, spB_rs, spS_rs, mkLp_rs, mkS_rs, rsL_rs, rsS_rs, kdL_rs, kdS_rs, cdA_rs, cdF_rs, cdY_rs, cdS_rs, hdB_rs, fsC_rs, fsF_rs, fsS_rs, feC_rs, feF_rs, feS_rs, ageS_rs, seS_rs, nuS_rs, qE_rs, qnS_rs, qtS_rs, yrL_rs, yrS_rs, psE_rs, wpS_rs, psL_rs, psS_rs, stN_rs, stR_rs, stL_rs, stS_rs, lsS_rs, hnL_rs, sfS_rs, opL_rs, opS_rs, saL_rs, suL_rs, puL_rs, yvS_rs, avS_rs, pfS_rs, grB_rs, ghL_rs, gcO_rs]; with_reducible rfl) | (simp only [nN_rs, wT_rs, onL_rs, onS_rs, spB_rs, spS_rs, mkLp_rs, mkS_rs, rsL_rs, rsS_rs, kdL_rs, kdS_rs, cdA_rs, cdF_rs, cdY_rs, cdS_rs, hdB_rs, fsC_rs, fsF_rs, fsS_rs, feC_rs, feF_rs, feS_rs, ageS_rs, seS_rs, nuS_rs, qE_rs, qnS_rs, qtS_rs, yrL_rs, yrS_rs, psE_rs, wpS_rs, psL_rs, psS_rs, stN_rs, stR_rs, stL_rs, stS_rs, lsS_rs, hnL_rs, sfS_rs, opL_rs, opS_rs, saL_rs, suL_rs, puL_rs, yvS_rs, avS_rs, pfS_rs, grB_rs, ghL_rs, gcO_rs]; rfl) | rfl
theorem gcE_rs : gcE (rsA A) = gcE A := by
  funext u0 u1 u2 u3 u4
  unfold gcE
  first | (simp only [nN_rs, wT_rs, onL_rs, onS_rs, spB_rs, spS_rs, mkLp_rs, mkS_rs, rsL_rs, rsS_rs, kdL_rs, kdS_rs, cdA_rs, cdF_rs, cdY_rs, cdS_rs, hdB_rs, fsC_rs, fsF_rs, fsS_rs, feC_rs, feF_rs, feS_rs, ageS_rs, seS_rs, nuS_rs, qE_rs, qnS_rs, qtS_rs, yrL_rs, yrS_rs, psE_rs, wpS_rs, psL_rs, psS_rs, stN_rs, stR_rs, stL_rs, stS_rs, lsS_rs, hnL_rs, sfS_rs, opL_rs, opS_rs, saL_rs, suL_rs, puL_rs, yvS_rs, avS_rs, pfS_rs, grB_rs, ghL_rs, gcO_rs, gcL_rs]; done) | (simp only [nN_rs, wT_rs, onL_rs, onS_rs, spB_rs, spS_rs, mkLp_rs, mkS_rs, rsL_rs, rsS_rs, kdL_rs, kdS_rs, cdA_rs, cdF_rs, cdY_rs, cdS_rs, hdB_rs, fsC_rs, fsF_rs, fsS_rs, feC_rs, feF_rs, feS_rs, ageS_rs, seS_rs, nuS_rs, qE_rs, qnS_rs, qtS_rs, yrL_rs, yrS_rs, psE_rs, wpS_rs, psL_rs, psS_rs, stN_rs, stR_rs, stL_rs, stS_rs, lsS_rs, hnL_rs, sfS_rs, opL_rs, opS_rs, saL_rs, suL_rs, puL_rs, yvS_rs, avS_rs, pfS_rs, grB_rs, ghL_rs, gcO_rs, gcL_rs]; with_reducible rfl) | (simp only [nN_rs, wT_rs, onL_rs, onS_rs, spB_rs, spS_rs, mkLp_rs, mkS_rs, rsL_rs, rsS_rs, kdL_rs, kdS_rs, cdA_rs, cdF_rs, cdY_rs, cdS_rs, hdB_rs, fsC_rs, fsF_rs, fsS_rs, feC_rs, feF_rs, feS_rs, ageS_rs, seS_rs, nuS_rs, qE_rs, qnS_rs, qtS_rs, yrL_rs, yrS_rs, psE_rs, wpS_rs, psL_rs, psS_rs, stN_rs, stR_rs, stL_rs, stS_rs, lsS_rs, hnL_rs, sfS_rs, opL_rs, opS_rs, saL_rs, suL_rs, puL_rs, yvS_rs, avS_rs, pfS_rs, grB_rs, ghL_rs, gcO_rs, gcL_rs]; rfl) | rfl
theorem gcS_rs : gcS (rsA A) = gcS A := by
  funext u0 u1 u2 u3 u4
  unfold gcS
  first | (simp only [nN_rs, wT_rs, onL_rs, onS_rs, spB_rs, spS_rs, mkLp_rs, mkS_rs, rsL_rs, rsS_rs, kdL_rs, kdS_rs, cdA_rs, cdF_rs, cdY_rs, cdS_rs, hdB_rs, fsC_rs, fsF_rs, fsS_rs, feC_rs, feF_rs, feS_rs, ageS_rs, seS_rs, nuS_rs, qE_rs, qnS_rs, qtS_rs, yrL_rs, yrS_rs, psE_rs, wpS_rs, psL_rs, psS_rs, stN_rs, stR_rs, stL_rs, stS_rs, lsS_rs, hnL_rs, sfS_rs, opL_rs, opS_rs, saL_rs, suL_rs, puL_rs, yvS_rs, avS_rs, pfS_rs, grB_rs, ghL_rs, gcO_rs, gcL_rs, gcE_rs]; done) | (simp only [nN_rs, wT_rs, onL_rs, onS_rs, spB_rs, spS_rs, mkLp_rs, mkS_rs, rsL_rs, rsS_rs, kdL_rs, kdS_rs, cdA_rs, cdF_rs, cdY_rs, cdS_rs, hdB_rs, fsC_rs, fsF_rs, fsS_rs, feC_rs, feF_rs, feS_rs, ageS_rs, seS_rs, nuS_rs, qE_rs, qnS_rs, qtS_rs, yrL_rs, yrS_rs, psE_rs, wpS_rs, psL_rs, psS_rs, stN_rs, stR_rs, stL_rs, stS_rs, lsS_rs, hnL_rs, sfS_rs, opL_rs, opS_rs, saL_rs, suL_rs, puL_rs, yvS_rs, avS_rs, pfS_rs, grB_rs, ghL_rs, gcO_rs, gcL_rs, gcE_rs]; with_reducible rfl) | (simp only [nN_rs, wT_rs, onL_rs, onS_rs, spB_rs, spS_rs, mkLp_rs, mkS_rs, rsL_rs, rsS_rs, kdL_rs, kdS_rs, cdA_rs, cdF_rs, cdY_rs, cdS_rs, hdB_rs, fsC_rs, fsF_rs, fsS_rs, feC_rs, feF_rs, feS_rs, ageS_rs, seS_rs, nuS_rs, qE_rs, qnS_rs, qtS_rs, yrL_rs, yrS_rs, psE_rs, wpS_rs, psL_rs, psS_rs, stN_rs, stR_rs, stL_rs, stS_rs, lsS_rs, hnL_rs, sfS_rs, opL_rs, opS_rs, saL_rs, suL_rs, puL_rs, yvS_rs, avS_rs, pfS_rs, grB_rs, ghL_rs, gcO_rs, gcL_rs, gcE_rs]; rfl) | rfl
theorem gaL_rs : gaL (rsA A) = gaL A := by
  funext u0 u1 u2 u3
  funext k
  induction k with
  | zero => rfl
  | succ k ih =>
    unfold gaL
    rw [ih]
    first | (simp only [nN_rs, wT_rs, onL_rs, onS_rs, spB_rs, spS_rs, mkLp_rs, mkS_rs, rsL_rs, rsS_rs, kdL_rs, kdS_rs, cdA_rs, cdF_rs, cdY_rs, cdS_rs, hdB_rs, fsC_rs, fsF_rs, fsS_rs, feC_rs, feF_rs, feS_rs, ageS_rs, seS_rs, nuS_rs, qE_rs, qnS_rs, qtS_rs, yrL_rs, yrS_rs, psE_rs, wpS_rs, psL_rs, psS_rs, stN_rs, stR_rs, stL_rs, stS_rs, lsS_rs, hnL_rs, sfS_rs, opL_rs, opS_rs, saL_rs, suL_rs, puL_rs, yvS_rs, avS_rs, pfS_rs, grB_rs, ghL_rs, gcO_rs, gcL_rs, gcE_rs, gcS_rs]; done) | (simp only [nN_rs, wT_rs, onL_rs, onS_rs, spB_rs, spS_rs, mkLp_rs, mkS_rs, rsL_rs, rsS_rs, kdL_rs, kdS_rs, cdA_rs, cdF_rs, cdY_rs, cdS_rs, hdB_rs, fsC_rs, fsF_rs, fsS_rs, feC_rs, feF_rs, feS_rs, ageS_rs, seS_rs, nuS_rs, qE_rs, qnS_rs, qtS_rs, yrL_rs, yrS_rs, psE_rs, wpS_rs, psL_rs, psS_rs, stN_rs, stR_rs, stL_rs, stS_rs, lsS_rs, hnL_rs, sfS_rs, opL_rs, opS_rs, saL_rs, suL_rs, puL_rs, yvS_rs, avS_rs, pfS_rs, grB_rs, ghL_rs, gcO_rs, gcL_rs, gcE_rs, gcS_rs]; with_reducible rfl) | (simp only [nN_rs, wT_rs, onL_rs, onS_rs, spB_rs, spS_rs, mkLp_rs, mkS_rs, rsL_rs, rsS_rs, kdL_rs, kdS_rs, cdA_rs, cdF_rs, cdY_rs, cdS_rs, hdB_rs, fsC_rs, fsF_rs, fsS_rs, feC_rs, feF_rs, feS_rs, ageS_rs, seS_rs, nuS_rs, qE_rs, qnS_rs, qtS_rs, yrL_rs, yrS_rs, psE_rs, wpS_rs, psL_rs, psS_rs, stN_rs, stR_rs, stL_rs, stS_rs, lsS_rs, hnL_rs, sfS_rs, opL_rs, opS_rs, saL_rs, suL_rs, puL_rs, yvS_rs, avS_rs, pfS_rs, grB_rs, ghL_rs, gcO_rs, gcL_rs, gcE_rs, gcS_rs]; rfl) | rfl
theorem gbL_rs : gbL (rsA A) = gbL A := by
  funext u0 u1 u2 u3
  unfold gbL
  first | (simp only [nN_rs, wT_rs, onL_rs, onS_rs, spB_rs, spS_rs, mkLp_rs, mkS_rs, rsL_rs, rsS_rs, kdL_rs, kdS_rs, cdA_rs, cdF_rs, cdY_rs, cdS_rs, hdB_rs, fsC_rs, fsF_rs, fsS_rs, feC_rs, feF_rs, feS_rs, ageS_rs, seS_rs, nuS_rs, qE_rs, qnS_rs, qtS_rs, yrL_rs, yrS_rs, psE_rs, wpS_rs, psL_rs, psS_rs, stN_rs, stR_rs, stL_rs, stS_rs, lsS_rs, hnL_rs, sfS_rs, opL_rs, opS_rs, saL_rs, suL_rs, puL_rs, yvS_rs, avS_rs, pfS_rs, grB_rs, ghL_rs, gcO_rs, gcL_rs, gcE_rs, gcS_rs, gaL_rs]; done) | (simp only [nN_rs, wT_rs, onL_rs, onS_rs, spB_rs, spS_rs, mkLp_rs, mkS_rs, rsL_rs, rsS_rs, kdL_rs, kdS_rs, cdA_rs, cdF_rs, cdY_rs, cdS_rs, hdB_rs, fsC_rs, fsF_rs, fsS_rs, feC_rs, feF_rs, feS_rs, ageS_rs, seS_rs, nuS_rs, qE_rs, qnS_rs, qtS_rs, yrL_rs, yrS_rs, psE_rs, wpS_rs, psL_rs, psS_rs, stN_rs, stR_rs, stL_rs, stS_rs, lsS_rs, hnL_rs, sfS_rs, opL_rs, opS_rs, saL_rs, suL_rs, puL_rs, yvS_rs, avS_rs, pfS_rs, grB_rs, ghL_rs, gcO_rs, gcL_rs, gcE_rs, gcS_rs, gaL_rs]; with_reducible rfl) | (simp only [nN_rs, wT_rs, onL_rs, onS_rs, spB_rs, spS_rs, mkLp_rs, mkS_rs, rsL_rs, rsS_rs, kdL_rs, kdS_rs, cdA_rs, cdF_rs, cdY_rs, cdS_rs, hdB_rs, fsC_rs, fsF_rs, fsS_rs, feC_rs, feF_rs, feS_rs, ageS_rs, seS_rs, nuS_rs, qE_rs, qnS_rs, qtS_rs, yrL_rs, yrS_rs, psE_rs, wpS_rs, psL_rs, psS_rs, stN_rs, stR_rs, stL_rs, stS_rs, lsS_rs, hnL_rs, sfS_rs, opL_rs, opS_rs, saL_rs, suL_rs, puL_rs, yvS_rs, avS_rs, pfS_rs, grB_rs, ghL_rs, gcO_rs, gcL_rs, gcE_rs, gcS_rs, gaL_rs]; rfl) | rfl
theorem gtL_rs : gtL (rsA A) = gtL A := by
  funext u0 u1 u2 u3
  unfold gtL
  first | (simp only [nN_rs, wT_rs, onL_rs, onS_rs, spB_rs, spS_rs, mkLp_rs, mkS_rs, rsL_rs, rsS_rs, kdL_rs, kdS_rs, cdA_rs, cdF_rs, cdY_rs, cdS_rs, hdB_rs, fsC_rs, fsF_rs, fsS_rs, feC_rs, feF_rs, feS_rs, ageS_rs, seS_rs, nuS_rs, qE_rs, qnS_rs, qtS_rs, yrL_rs, yrS_rs, psE_rs, wpS_rs, psL_rs, psS_rs, stN_rs, stR_rs, stL_rs, stS_rs, lsS_rs, hnL_rs, sfS_rs, opL_rs, opS_rs, saL_rs, suL_rs, puL_rs, yvS_rs, avS_rs, pfS_rs, grB_rs, ghL_rs, gcO_rs, gcL_rs, gcE_rs, gcS_rs, gaL_rs, gbL_rs]; done) | (simp only [nN_rs, wT_rs, onL_rs, onS_rs, spB_rs, spS_rs, mkLp_rs, mkS_rs, rsL_rs, rsS_rs, kdL_rs, kdS_rs, cdA_rs, cdF_rs, cdY_rs, cdS_rs, hdB_rs, fsC_rs, fsF_rs, fsS_rs, feC_rs, feF_rs, feS_rs, ageS_rs, seS_rs, nuS_rs, qE_rs, qnS_rs, qtS_rs, yrL_rs, yrS_rs, psE_rs, wpS_rs, psL_rs, psS_rs, stN_rs, stR_rs, stL_rs, stS_rs, lsS_rs, hnL_rs, sfS_rs, opL_rs, opS_rs, saL_rs, suL_rs, puL_rs, yvS_rs, avS_rs, pfS_rs, grB_rs, ghL_rs, gcO_rs, gcL_rs, gcE_rs, gcS_rs, gaL_rs, gbL_rs]; with_reducible rfl) | (simp only [nN_rs, wT_rs, onL_rs, onS_rs, spB_rs, spS_rs, mkLp_rs, mkS_rs, rsL_rs, rsS_rs, kdL_rs, kdS_rs, cdA_rs, cdF_rs, cdY_rs, cdS_rs, hdB_rs, fsC_rs, fsF_rs, fsS_rs, feC_rs, feF_rs, feS_rs, ageS_rs, seS_rs, nuS_rs, qE_rs, qnS_rs, qtS_rs, yrL_rs, yrS_rs, psE_rs, wpS_rs, psL_rs, psS_rs, stN_rs, stR_rs, stL_rs, stS_rs, lsS_rs, hnL_rs, sfS_rs, opL_rs, opS_rs, saL_rs, suL_rs, puL_rs, yvS_rs, avS_rs, pfS_rs, grB_rs, ghL_rs, gcO_rs, gcL_rs, gcE_rs, gcS_rs, gaL_rs, gbL_rs]; rfl) | rfl
theorem teS_rs : teS (rsA A) = teS A := by
  funext u0 u1
  unfold teS
  first | (simp only [nN_rs, wT_rs, onL_rs, onS_rs, spB_rs, spS_rs, mkLp_rs, mkS_rs, rsL_rs, rsS_rs, kdL_rs, kdS_rs, cdA_rs, cdF_rs, cdY_rs, cdS_rs, hdB_rs, fsC_rs, fsF_rs, fsS_rs, feC_rs, feF_rs, feS_rs, ageS_rs, seS_rs, nuS_rs, qE_rs, qnS_rs, qtS_rs, yrL_rs, yrS_rs, psE_rs, wpS_rs, psL_rs, psS_rs, stN_rs, stR_rs, stL_rs, stS_rs, lsS_rs, hnL_rs, sfS_rs, opL_rs, opS_rs, saL_rs, suL_rs, puL_rs, yvS_rs, avS_rs, pfS_rs, grB_rs, ghL_rs, gcO_rs, gcL_rs, gcE_rs, gcS_rs, gaL_rs, gbL_rs, gtL_rs]; done) | (simp only [nN_rs, wT_rs, onL_rs, onS_rs, spB_rs, spS_rs, mkLp_rs, mkS_rs, rsL_rs, rsS_rs, kdL_rs, kdS_rs, cdA_rs, cdF_rs, cdY_rs, cdS_rs, hdB_rs, fsC_rs, fsF_rs, fsS_rs, feC_rs, feF_rs, feS_rs, ageS_rs, seS_rs, nuS_rs, qE_rs, qnS_rs, qtS_rs, yrL_rs, yrS_rs, psE_rs, wpS_rs, psL_rs, psS_rs, stN_rs, stR_rs, stL_rs, stS_rs, lsS_rs, hnL_rs, sfS_rs, opL_rs, opS_rs, saL_rs, suL_rs, puL_rs, yvS_rs, avS_rs, pfS_rs, grB_rs, ghL_rs, gcO_rs, gcL_rs, gcE_rs, gcS_rs, gaL_rs, gbL_rs, gtL_rs]; with_reducible rfl) | (simp only [nN_rs, wT_rs, onL_rs, onS_rs, spB_rs, spS_rs, mkLp_rs, mkS_rs, rsL_rs, rsS_rs, kdL_rs, kdS_rs, cdA_rs, cdF_rs, cdY_rs, cdS_rs, hdB_rs, fsC_rs, fsF_rs, fsS_rs, feC_rs, feF_rs, feS_rs, ageS_rs, seS_rs, nuS_rs, qE_rs, qnS_rs, qtS_rs, yrL_rs, yrS_rs, psE_rs, wpS_rs, psL_rs, psS_rs, stN_rs, stR_rs, stL_rs, stS_rs, lsS_rs, hnL_rs, sfS_rs, opL_rs, opS_rs, saL_rs, suL_rs, puL_rs, yvS_rs, avS_rs, pfS_rs, grB_rs, ghL_rs, gcO_rs, gcL_rs, gcE_rs, gcS_rs, gaL_rs, gbL_rs, gtL_rs]; rfl) | rfl
theorem hrL_rs : hrL (rsA A) = hrL A := by
  funext u0 u1
  funext k
  induction k with
  | zero => rfl
  | succ k ih =>
    unfold hrL
    rw [ih]
    first | (simp only [nN_rs, wT_rs, onL_rs, onS_rs, spB_rs, spS_rs, mkLp_rs, mkS_rs, rsL_rs, rsS_rs, kdL_rs, kdS_rs, cdA_rs, cdF_rs, cdY_rs, cdS_rs, hdB_rs, fsC_rs, fsF_rs, fsS_rs, feC_rs, feF_rs, feS_rs, ageS_rs, seS_rs, nuS_rs, qE_rs, qnS_rs, qtS_rs, yrL_rs, yrS_rs, psE_rs, wpS_rs, psL_rs, psS_rs, stN_rs, stR_rs, stL_rs, stS_rs, lsS_rs, hnL_rs, sfS_rs, opL_rs, opS_rs, saL_rs, suL_rs, puL_rs, yvS_rs, avS_rs, pfS_rs, grB_rs, ghL_rs, gcO_rs, gcL_rs, gcE_rs, gcS_rs, gaL_rs, gbL_rs, gtL_rs, teS_rs]; done) | (simp only [nN_rs, wT_rs, onL_rs, onS_rs, spB_rs, spS_rs, mkLp_rs, mkS_rs, rsL_rs, rsS_rs, kdL_rs, kdS_rs, cdA_rs, cdF_rs, cdY_rs, cdS_rs, hdB_rs, fsC_rs, fsF_rs, fsS_rs, feC_rs, feF_rs, feS_rs, ageS_rs, seS_rs, nuS_rs, qE_rs, qnS_rs, qtS_rs, yrL_rs, yrS_rs, psE_rs, wpS_rs, psL_rs, psS_rs, stN_rs, stR_rs, stL_rs, stS_rs, lsS_rs, hnL_rs, sfS_rs, opL_rs, opS_rs, saL_rs, suL_rs, puL_rs, yvS_rs, avS_rs, pfS_rs, grB_rs, ghL_rs, gcO_rs, gcL_rs, gcE_rs, gcS_rs, gaL_rs, gbL_rs, gtL_rs, teS_rs]; with_reducible rfl) | (simp only [nN_rs, wT_rs, onL_rs, onS_rs, spB_rs, spS_rs, mkLp_rs, mkS_rs, rsL_rs, rsS_rs, kdL_rs, kdS_rs, cdA_rs, cdF_rs, cdY_rs, cdS_rs, hdB_rs, fsC_rs, fsF_rs, fsS_rs, feC_rs, feF_rs, feS_rs, ageS_rs, seS_rs, nuS_rs, qE_rs, qnS_rs, qtS_rs, yrL_rs, yrS_rs, psE_rs, wpS_rs, psL_rs, psS_rs, stN_rs, stR_rs, stL_rs, stS_rs, lsS_rs, hnL_rs, sfS_rs, opL_rs, opS_rs, saL_rs, suL_rs, puL_rs, yvS_rs, avS_rs, pfS_rs, grB_rs, ghL_rs, gcO_rs, gcL_rs, gcE_rs, gcS_rs, gaL_rs, gbL_rs, gtL_rs, teS_rs]; rfl) | rfl
theorem hrS_rs : hrS (rsA A) = hrS A := by
  funext u0 u1
  unfold hrS
  first | (simp only [nN_rs, wT_rs, onL_rs, onS_rs, spB_rs, spS_rs, mkLp_rs, mkS_rs, rsL_rs, rsS_rs, kdL_rs, kdS_rs, cdA_rs, cdF_rs, cdY_rs, cdS_rs, hdB_rs, fsC_rs, fsF_rs, fsS_rs, feC_rs, feF_rs, feS_rs, ageS_rs, seS_rs, nuS_rs, qE_rs, qnS_rs, qtS_rs, yrL_rs, yrS_rs, psE_rs, wpS_rs, psL_rs, psS_rs, stN_rs, stR_rs, stL_rs, stS_rs, lsS_rs, hnL_rs, sfS_rs, opL_rs, opS_rs, saL_rs, suL_rs, puL_rs, yvS_rs, avS_rs, pfS_rs, grB_rs, ghL_rs, gcO_rs, gcL_rs, gcE_rs, gcS_rs, gaL_rs, gbL_rs, gtL_rs, teS_rs, hrL_rs]; done) | (simp only [nN_rs, wT_rs, onL_rs, onS_rs, spB_rs, spS_rs, mkLp_rs, mkS_rs, rsL_rs, rsS_rs, kdL_rs, kdS_rs, cdA_rs, cdF_rs, cdY_rs, cdS_rs, hdB_rs, fsC_rs, fsF_rs, fsS_rs, feC_rs, feF_rs, feS_rs, ageS_rs, seS_rs, nuS_rs, qE_rs, qnS_rs, qtS_rs, yrL_rs, yrS_rs, psE_rs, wpS_rs, psL_rs, psS_rs, stN_rs, stR_rs, stL_rs, stS_rs, lsS_rs, hnL_rs, sfS_rs, opL_rs, opS_rs, saL_rs, suL_rs, puL_rs, yvS_rs, avS_rs, pfS_rs, grB_rs, ghL_rs, gcO_rs, gcL_rs, gcE_rs, gcS_rs, gaL_rs, gbL_rs, gtL_rs, teS_rs, hrL_rs]; with_reducible rfl) | (simp only [nN_rs, wT_rs, onL_rs, onS_rs, spB_rs, spS_rs, mkLp_rs, mkS_rs, rsL_rs, rsS_rs, kdL_rs, kdS_rs, cdA_rs, cdF_rs, cdY_rs, cdS_rs, hdB_rs, fsC_rs, fsF_rs, fsS_rs, feC_rs, feF_rs, feS_rs, ageS_rs, seS_rs, nuS_rs, qE_rs, qnS_rs, qtS_rs, yrL_rs, yrS_rs, psE_rs, wpS_rs, psL_rs, psS_rs, stN_rs, stR_rs, stL_rs, stS_rs, lsS_rs, hnL_rs, sfS_rs, opL_rs, opS_rs, saL_rs, suL_rs, puL_rs, yvS_rs, avS_rs, pfS_rs, grB_rs, ghL_rs, gcO_rs, gcL_rs, gcE_rs, gcS_rs, gaL_rs, gbL_rs, gtL_rs, teS_rs, hrL_rs]; rfl) | rfl
theorem brL_rs : brL (rsA A) = brL A := by
  funext u0 u1 u2 u3
  funext k
  induction k with
  | zero => rfl
  | succ k ih =>
    unfold brL
    rw [ih]
    first | (simp only [nN_rs, wT_rs, onL_rs, onS_rs, spB_rs, spS_rs, mkLp_rs, mkS_rs, rsL_rs, rsS_rs, kdL_rs, kdS_rs, cdA_rs, cdF_rs, cdY_rs, cdS_rs, hdB_rs, fsC_rs, fsF_rs, fsS_rs, feC_rs, feF_rs, feS_rs, ageS_rs, seS_rs, nuS_rs, qE_rs, qnS_rs, qtS_rs, yrL_rs, yrS_rs, psE_rs, wpS_rs, psL_rs, psS_rs, stN_rs, stR_rs, stL_rs, stS_rs, lsS_rs, hnL_rs, sfS_rs, opL_rs, opS_rs, saL_rs, suL_rs, puL_rs, yvS_rs, avS_rs, pfS_rs, grB_rs, ghL_rs, gcO_rs, gcL_rs, gcE_rs, gcS_rs, gaL_rs, gbL_rs, gtL_rs, teS_rs, hrL_rs, hrS_rs]; done) | (simp only [nN_rs, wT_rs, onL_rs, onS_rs, spB_rs, spS_rs, mkLp_rs, mkS_rs, rsL_rs, rsS_rs, kdL_rs, kdS_rs, cdA_rs, cdF_rs, cdY_rs, cdS_rs, hdB_rs, fsC_rs, fsF_rs, fsS_rs, feC_rs, feF_rs, feS_rs, ageS_rs, seS_rs, nuS_rs, qE_rs, qnS_rs, qtS_rs, yrL_rs, yrS_rs, psE_rs, wpS_rs, psL_rs, psS_rs, stN_rs, stR_rs, stL_rs, stS_rs, lsS_rs, hnL_rs, sfS_rs, opL_rs, opS_rs, saL_rs, suL_rs, puL_rs, yvS_rs, avS_rs, pfS_rs, grB_rs, ghL_rs, gcO_rs, gcL_rs, gcE_rs, gcS_rs, gaL_rs, gbL_rs, gtL_rs, teS_rs, hrL_rs, hrS_rs]; with_reducible rfl) | (simp only [nN_rs, wT_rs, onL_rs, onS_rs, spB_rs, spS_rs, mkLp_rs, mkS_rs, rsL_rs, rsS_rs, kdL_rs, kdS_rs, cdA_rs, cdF_rs, cdY_rs, cdS_rs, hdB_rs, fsC_rs, fsF_rs, fsS_rs, feC_rs, feF_rs, feS_rs, ageS_rs, seS_rs, nuS_rs, qE_rs, qnS_rs, qtS_rs, yrL_rs, yrS_rs, psE_rs, wpS_rs, psL_rs, psS_rs, stN_rs, stR_rs, stL_rs, stS_rs, lsS_rs, hnL_rs, sfS_rs, opL_rs, opS_rs, saL_rs, suL_rs, puL_rs, yvS_rs, avS_rs, pfS_rs, grB_rs, ghL_rs, gcO_rs, gcL_rs, gcE_rs, gcS_rs, gaL_rs, gbL_rs, gtL_rs, teS_rs, hrL_rs, hrS_rs]; rfl) | rfl
theorem brS_rs : brS (rsA A) = brS A := by
  funext u0 u1 u2 u3
  unfold brS
  first | (simp only [nN_rs, wT_rs, onL_rs, onS_rs, spB_rs, spS_rs, mkLp_rs, mkS_rs, rsL_rs, rsS_rs, kdL_rs, kdS_rs, cdA_rs, cdF_rs, cdY_rs, cdS_rs, hdB_rs, fsC_rs, fsF_rs, fsS_rs, feC_rs, feF_rs, feS_rs, ageS_rs, seS_rs, nuS_rs, qE_rs, qnS_rs, qtS_rs, yrL_rs, yrS_rs, psE_rs, wpS_rs, psL_rs, psS_rs, stN_rs, stR_rs, stL_rs, stS_rs, lsS_rs, hnL_rs, sfS_rs, opL_rs, opS_rs, saL_rs, suL_rs, puL_rs, yvS_rs, avS_rs, pfS_rs, grB_rs, ghL_rs, gcO_rs, gcL_rs, gcE_rs, gcS_rs, gaL_rs, gbL_rs, gtL_rs, teS_rs, hrL_rs, hrS_rs, brL_rs]; done) | (simp only [nN_rs, wT_rs, onL_rs, onS_rs, spB_rs, spS_rs, mkLp_rs, mkS_rs, rsL_rs, rsS_rs, kdL_rs, kdS_rs, cdA_rs, cdF_rs, cdY_rs, cdS_rs, hdB_rs, fsC_rs, fsF_rs, fsS_rs, feC_rs, feF_rs, feS_rs, ageS_rs, seS_rs, nuS_rs, qE_rs, qnS_rs, qtS_rs, yrL_rs, yrS_rs, psE_rs, wpS_rs, psL_rs, psS_rs, stN_rs, stR_rs, stL_rs, stS_rs, lsS_rs, hnL_rs, sfS_rs, opL_rs, opS_rs, saL_rs, suL_rs, puL_rs, yvS_rs, avS_rs, pfS_rs, grB_rs, ghL_rs, gcO_rs, gcL_rs, gcE_rs, gcS_rs, gaL_rs, gbL_rs, gtL_rs, teS_rs, hrL_rs, hrS_rs, brL_rs]; with_reducible rfl) | (simp only [nN_rs, wT_rs, onL_rs, onS_rs, spB_rs, spS_rs, mkLp_rs, mkS_rs, rsL_rs, rsS_rs, kdL_rs, kdS_rs, cdA_rs, cdF_rs, cdY_rs, cdS_rs, hdB_rs, fsC_rs, fsF_rs, fsS_rs, feC_rs, feF_rs, feS_rs, ageS_rs, seS_rs, nuS_rs, qE_rs, qnS_rs, qtS_rs, yrL_rs, yrS_rs, psE_rs, wpS_rs, psL_rs, psS_rs, stN_rs, stR_rs, stL_rs, stS_rs, lsS_rs, hnL_rs, sfS_rs, opL_rs, opS_rs, saL_rs, suL_rs, puL_rs, yvS_rs, avS_rs, pfS_rs, grB_rs, ghL_rs, gcO_rs, gcL_rs, gcE_rs, gcS_rs, gaL_rs, gbL_rs, gtL_rs, teS_rs, hrL_rs, hrS_rs, brL_rs]; rfl) | rfl
theorem tdE_rs : tdE (rsA A) = tdE A := by
  funext u0 u1
  unfold tdE
  first | (simp only [nN_rs, wT_rs, onL_rs, onS_rs, spB_rs, spS_rs, mkLp_rs, mkS_rs, rsL_rs, rsS_rs, kdL_rs, kdS_rs, cdA_rs, cdF_rs, cdY_rs, cdS_rs, hdB_rs, fsC_rs, fsF_rs, fsS_rs, feC_rs, feF_rs, feS_rs, ageS_rs, seS_rs, nuS_rs, qE_rs, qnS_rs, qtS_rs, yrL_rs, yrS_rs, psE_rs, wpS_rs, psL_rs, psS_rs, stN_rs, stR_rs, stL_rs, stS_rs, lsS_rs, hnL_rs, sfS_rs, opL_rs, opS_rs, saL_rs, suL_rs, puL_rs, yvS_rs, avS_rs, pfS_rs, grB_rs, ghL_rs, gcO_rs, gcL_rs, gcE_rs, gcS_rs, gaL_rs, gbL_rs, gtL_rs, teS_rs, hrL_rs, hrS_rs, brL_rs, brS_rs]; done) | (simp only [nN_rs, wT_rs, onL_rs, onS_rs, spB_rs, spS_rs, mkLp_rs, mkS_rs, rsL_rs, rsS_rs, kdL_rs, kdS_rs, cdA_rs, cdF_rs, cdY_rs, cdS_rs, hdB_rs, fsC_rs, fsF_rs, fsS_rs, feC_rs, feF_rs, feS_rs, ageS_rs, seS_rs, nuS_rs, qE_rs, qnS_rs, qtS_rs, yrL_rs, yrS_rs, psE_rs, wpS_rs, psL_rs, psS_rs, stN_rs, stR_rs, stL_rs, stS_rs, lsS_rs, hnL_rs, sfS_rs, opL_rs, opS_rs, saL_rs, suL_rs, puL_rs, yvS_rs, avS_rs, pfS_rs, grB_rs, ghL_rs, gcO_rs, gcL_rs, gcE_rs, gcS_rs, gaL_rs, gbL_rs, gtL_rs, teS_rs, hrL_rs, hrS_rs, brL_rs, brS_rs]; with_reducible rfl) | (simp only [nN_rs, wT_rs, onL_rs, onS_rs, spB_rs, spS_rs, mkLp_rs, mkS_rs, rsL_rs, rsS_rs, kdL_rs, kdS_rs, cdA_rs, cdF_rs, cdY_rs, cdS_rs, hdB_rs, fsC_rs, fsF_rs, fsS_rs, feC_rs, feF_rs, feS_rs, ageS_rs, seS_rs, nuS_rs, qE_rs, qnS_rs, qtS_rs, yrL_rs, yrS_rs, psE_rs, wpS_rs, psL_rs, psS_rs, stN_rs, stR_rs, stL_rs, stS_rs, lsS_rs, hnL_rs, sfS_rs, opL_rs, opS_rs, saL_rs, suL_rs, puL_rs, yvS_rs, avS_rs, pfS_rs, grB_rs, ghL_rs, gcO_rs, gcL_rs, gcE_rs, gcS_rs, gaL_rs, gbL_rs, gtL_rs, teS_rs, hrL_rs, hrS_rs, brL_rs, brS_rs]; rfl) | rfl
theorem myL_rs : myL (rsA A) = myL A := by
  funext u0 u1 u2
  funext k
  induction k with
  | zero => rfl
  | succ k ih =>
    unfold myL
    rw [ih]
    first | (simp only [nN_rs, wT_rs, onL_rs, onS_rs, spB_rs, spS_rs, mkLp_rs, mkS_rs, rsL_rs, rsS_rs, kdL_rs, kdS_rs, cdA_rs, cdF_rs, cdY_rs, cdS_rs, hdB_rs, fsC_rs, fsF_rs, fsS_rs, feC_rs, feF_rs, feS_rs, ageS_rs, seS_rs, nuS_rs, qE_rs, qnS_rs, qtS_rs, yrL_rs, yrS_rs, psE_rs, wpS_rs, psL_rs, psS_rs, stN_rs, stR_rs, stL_rs, stS_rs, lsS_rs, hnL_rs, sfS_rs, opL_rs, opS_rs, saL_rs, suL_rs, puL_rs, yvS_rs, avS_rs, pfS_rs, grB_rs, ghL_rs, gcO_rs, gcL_rs, gcE_rs, gcS_rs, gaL_rs, gbL_rs, gtL_rs, teS_rs, hrL_rs, hrS_rs, brL_rs, brS_rs, tdE_rs]; done) | (simp only [nN_rs, wT_rs, onL_rs, onS_rs, spB_rs, spS_rs, mkLp_rs, mkS_rs, rsL_rs, rsS_rs, kdL_rs, kdS_rs, cdA_rs, cdF_rs, cdY_rs, cdS_rs, hdB_rs, fsC_rs, fsF_rs, fsS_rs, feC_rs, feF_rs, feS_rs, ageS_rs, seS_rs, nuS_rs, qE_rs, qnS_rs, qtS_rs, yrL_rs, yrS_rs, psE_rs, wpS_rs, psL_rs, psS_rs, stN_rs, stR_rs, stL_rs, stS_rs, lsS_rs, hnL_rs, sfS_rs, opL_rs, opS_rs, saL_rs, suL_rs, puL_rs, yvS_rs, avS_rs, pfS_rs, grB_rs, ghL_rs, gcO_rs, gcL_rs, gcE_rs, gcS_rs, gaL_rs, gbL_rs, gtL_rs, teS_rs, hrL_rs, hrS_rs, brL_rs, brS_rs, tdE_rs]; with_reducible rfl) | (simp only [nN_rs, wT_rs, onL_rs, onS_rs, spB_rs, spS_rs, mkLp_rs, mkS_rs, rsL_rs, rsS_rs, kdL_rs, kdS_rs, cdA_rs, cdF_rs, cdY_rs, cdS_rs, hdB_rs, fsC_rs, fsF_rs, fsS_rs, feC_rs, feF_rs, feS_rs, ageS_rs, seS_rs, nuS_rs, qE_rs, qnS_rs, qtS_rs, yrL_rs, yrS_rs, psE_rs, wpS_rs, psL_rs, psS_rs, stN_rs, stR_rs, stL_rs, stS_rs, lsS_rs, hnL_rs, sfS_rs, opL_rs, opS_rs, saL_rs, suL_rs, puL_rs, yvS_rs, avS_rs, pfS_rs, grB_rs, ghL_rs, gcO_rs, gcL_rs, gcE_rs, gcS_rs, gaL_rs, gbL_rs, gtL_rs, teS_rs, hrL_rs, hrS_rs, brL_rs, brS_rs, tdE_rs]; rfl) | rfl
theorem mayS_rs : mayS (rsA A) = mayS A := by
  funext u0 u1
  unfold mayS
  first | (simp only [nN_rs, wT_rs, onL_rs, onS_rs, spB_rs, spS_rs, mkLp_rs, mkS_rs, rsL_rs, rsS_rs, kdL_rs, kdS_rs, cdA_rs, cdF_rs, cdY_rs, cdS_rs, hdB_rs, fsC_rs, fsF_rs, fsS_rs, feC_rs, feF_rs, feS_rs, ageS_rs, seS_rs, nuS_rs, qE_rs, qnS_rs, qtS_rs, yrL_rs, yrS_rs, psE_rs, wpS_rs, psL_rs, psS_rs, stN_rs, stR_rs, stL_rs, stS_rs, lsS_rs, hnL_rs, sfS_rs, opL_rs, opS_rs, saL_rs, suL_rs, puL_rs, yvS_rs, avS_rs, pfS_rs, grB_rs, ghL_rs, gcO_rs, gcL_rs, gcE_rs, gcS_rs, gaL_rs, gbL_rs, gtL_rs, teS_rs, hrL_rs, hrS_rs, brL_rs, brS_rs, tdE_rs, myL_rs]; done) | (simp only [nN_rs, wT_rs, onL_rs, onS_rs, spB_rs, spS_rs, mkLp_rs, mkS_rs, rsL_rs, rsS_rs, kdL_rs, kdS_rs, cdA_rs, cdF_rs, cdY_rs, cdS_rs, hdB_rs, fsC_rs, fsF_rs, fsS_rs, feC_rs, feF_rs, feS_rs, ageS_rs, seS_rs, nuS_rs, qE_rs, qnS_rs, qtS_rs, yrL_rs, yrS_rs, psE_rs, wpS_rs, psL_rs, psS_rs, stN_rs, stR_rs, stL_rs, stS_rs, lsS_rs, hnL_rs, sfS_rs, opL_rs, opS_rs, saL_rs, suL_rs, puL_rs, yvS_rs, avS_rs, pfS_rs, grB_rs, ghL_rs, gcO_rs, gcL_rs, gcE_rs, gcS_rs, gaL_rs, gbL_rs, gtL_rs, teS_rs, hrL_rs, hrS_rs, brL_rs, brS_rs, tdE_rs, myL_rs]; with_reducible rfl) | (simp only [nN_rs, wT_rs, onL_rs, onS_rs, spB_rs, spS_rs, mkLp_rs, mkS_rs, rsL_rs, rsS_rs, kdL_rs, kdS_rs, cdA_rs, cdF_rs, cdY_rs, cdS_rs, hdB_rs, fsC_rs, fsF_rs, fsS_rs, feC_rs, feF_rs, feS_rs, ageS_rs, seS_rs, nuS_rs, qE_rs, qnS_rs, qtS_rs, yrL_rs, yrS_rs, psE_rs, wpS_rs, psL_rs, psS_rs, stN_rs, stR_rs, stL_rs, stS_rs, lsS_rs, hnL_rs, sfS_rs, opL_rs, opS_rs, saL_rs, suL_rs, puL_rs, yvS_rs, avS_rs, pfS_rs, grB_rs, ghL_rs, gcO_rs, gcL_rs, gcE_rs, gcS_rs, gaL_rs, gbL_rs, gtL_rs, teS_rs, hrL_rs, hrS_rs, brL_rs, brS_rs, tdE_rs, myL_rs]; rfl) | rfl
theorem woE_rs : woE (rsA A) = woE A := by
  funext u0 u1
  unfold woE
  first | (simp only [nN_rs, wT_rs, onL_rs, onS_rs, spB_rs, spS_rs, mkLp_rs, mkS_rs, rsL_rs, rsS_rs, kdL_rs, kdS_rs, cdA_rs, cdF_rs, cdY_rs, cdS_rs, hdB_rs, fsC_rs, fsF_rs, fsS_rs, feC_rs, feF_rs, feS_rs, ageS_rs, seS_rs, nuS_rs, qE_rs, qnS_rs, qtS_rs, yrL_rs, yrS_rs, psE_rs, wpS_rs, psL_rs, psS_rs, stN_rs, stR_rs, stL_rs, stS_rs, lsS_rs, hnL_rs, sfS_rs, opL_rs, opS_rs, saL_rs, suL_rs, puL_rs, yvS_rs, avS_rs, pfS_rs, grB_rs, ghL_rs, gcO_rs, gcL_rs, gcE_rs, gcS_rs, gaL_rs, gbL_rs, gtL_rs, teS_rs, hrL_rs, hrS_rs, brL_rs, brS_rs, tdE_rs, myL_rs, mayS_rs]; done) | (simp only [nN_rs, wT_rs, onL_rs, onS_rs, spB_rs, spS_rs, mkLp_rs, mkS_rs, rsL_rs, rsS_rs, kdL_rs, kdS_rs, cdA_rs, cdF_rs, cdY_rs, cdS_rs, hdB_rs, fsC_rs, fsF_rs, fsS_rs, feC_rs, feF_rs, feS_rs, ageS_rs, seS_rs, nuS_rs, qE_rs, qnS_rs, qtS_rs, yrL_rs, yrS_rs, psE_rs, wpS_rs, psL_rs, psS_rs, stN_rs, stR_rs, stL_rs, stS_rs, lsS_rs, hnL_rs, sfS_rs, opL_rs, opS_rs, saL_rs, suL_rs, puL_rs, yvS_rs, avS_rs, pfS_rs, grB_rs, ghL_rs, gcO_rs, gcL_rs, gcE_rs, gcS_rs, gaL_rs, gbL_rs, gtL_rs, teS_rs, hrL_rs, hrS_rs, brL_rs, brS_rs, tdE_rs, myL_rs, mayS_rs]; with_reducible rfl) | (simp only [nN_rs, wT_rs, onL_rs, onS_rs, spB_rs, spS_rs, mkLp_rs, mkS_rs, rsL_rs, rsS_rs, kdL_rs, kdS_rs, cdA_rs, cdF_rs, cdY_rs, cdS_rs, hdB_rs, fsC_rs, fsF_rs, fsS_rs, feC_rs, feF_rs, feS_rs, ageS_rs, seS_rs, nuS_rs, qE_rs, qnS_rs, qtS_rs, yrL_rs, yrS_rs, psE_rs, wpS_rs, psL_rs, psS_rs, stN_rs, stR_rs, stL_rs, stS_rs, lsS_rs, hnL_rs, sfS_rs, opL_rs, opS_rs, saL_rs, suL_rs, puL_rs, yvS_rs, avS_rs, pfS_rs, grB_rs, ghL_rs, gcO_rs, gcL_rs, gcE_rs, gcS_rs, gaL_rs, gbL_rs, gtL_rs, teS_rs, hrL_rs, hrS_rs, brL_rs, brS_rs, tdE_rs, myL_rs, mayS_rs]; rfl) | rfl
theorem woS_rs : woS (rsA A) = woS A := by
  funext u0 u1 u2
  unfold woS
  first | (simp only [nN_rs, wT_rs, onL_rs, onS_rs, spB_rs, spS_rs, mkLp_rs, mkS_rs, rsL_rs, rsS_rs, kdL_rs, kdS_rs, cdA_rs, cdF_rs, cdY_rs, cdS_rs, hdB_rs, fsC_rs, fsF_rs, fsS_rs, feC_rs, feF_rs, feS_rs, ageS_rs, seS_rs, nuS_rs, qE_rs, qnS_rs, qtS_rs, yrL_rs, yrS_rs, psE_rs, wpS_rs, psL_rs, psS_rs, stN_rs, stR_rs, stL_rs, stS_rs, lsS_rs, hnL_rs, sfS_rs, opL_rs, opS_rs, saL_rs, suL_rs, puL_rs, yvS_rs, avS_rs, pfS_rs, grB_rs, ghL_rs, gcO_rs, gcL_rs, gcE_rs, gcS_rs, gaL_rs, gbL_rs, gtL_rs, teS_rs, hrL_rs, hrS_rs, brL_rs, brS_rs, tdE_rs, myL_rs, mayS_rs, woE_rs]; done) | (simp only [nN_rs, wT_rs, onL_rs, onS_rs, spB_rs, spS_rs, mkLp_rs, mkS_rs, rsL_rs, rsS_rs, kdL_rs, kdS_rs, cdA_rs, cdF_rs, cdY_rs, cdS_rs, hdB_rs, fsC_rs, fsF_rs, fsS_rs, feC_rs, feF_rs, feS_rs, ageS_rs, seS_rs, nuS_rs, qE_rs, qnS_rs, qtS_rs, yrL_rs, yrS_rs, psE_rs, wpS_rs, psL_rs, psS_rs, stN_rs, stR_rs, stL_rs, stS_rs, lsS_rs, hnL_rs, sfS_rs, opL_rs, opS_rs, saL_rs, suL_rs, puL_rs, yvS_rs, avS_rs, pfS_rs, grB_rs, ghL_rs, gcO_rs, gcL_rs, gcE_rs, gcS_rs, gaL_rs, gbL_rs, gtL_rs, teS_rs, hrL_rs, hrS_rs, brL_rs, brS_rs, tdE_rs, myL_rs, mayS_rs, woE_rs]; with_reducible rfl) | (simp only [nN_rs, wT_rs, onL_rs, onS_rs, spB_rs, spS_rs, mkLp_rs, mkS_rs, rsL_rs, rsS_rs, kdL_rs, kdS_rs, cdA_rs, cdF_rs, cdY_rs, cdS_rs, hdB_rs, fsC_rs, fsF_rs, fsS_rs, feC_rs, feF_rs, feS_rs, ageS_rs, seS_rs, nuS_rs, qE_rs, qnS_rs, qtS_rs, yrL_rs, yrS_rs, psE_rs, wpS_rs, psL_rs, psS_rs, stN_rs, stR_rs, stL_rs, stS_rs, lsS_rs, hnL_rs, sfS_rs, opL_rs, opS_rs, saL_rs, suL_rs, puL_rs, yvS_rs, avS_rs, pfS_rs, grB_rs, ghL_rs, gcO_rs, gcL_rs, gcE_rs, gcS_rs, gaL_rs, gbL_rs, gtL_rs, teS_rs, hrL_rs, hrS_rs, brL_rs, brS_rs, tdE_rs, myL_rs, mayS_rs, woE_rs]; rfl) | rfl
theorem rwL_rs : rwL (rsA A) = rwL A := by
  funext u0
  funext k
  induction k with
  | zero => rfl
  | succ k ih =>
    unfold rwL
    rw [ih]
    first | (simp only [nN_rs, wT_rs, onL_rs, onS_rs, spB_rs, spS_rs, mkLp_rs, mkS_rs, rsL_rs, rsS_rs, kdL_rs, kdS_rs, cdA_rs, cdF_rs, cdY_rs, cdS_rs, hdB_rs, fsC_rs, fsF_rs, fsS_rs, feC_rs, feF_rs, feS_rs, ageS_rs, seS_rs, nuS_rs, qE_rs, qnS_rs, qtS_rs, yrL_rs, yrS_rs, psE_rs, wpS_rs, psL_rs, psS_rs, stN_rs, stR_rs, stL_rs, stS_rs, lsS_rs, hnL_rs, sfS_rs, opL_rs, opS_rs, saL_rs, suL_rs, puL_rs, yvS_rs, avS_rs, pfS_rs, grB_rs, ghL_rs, gcO_rs, gcL_rs, gcE_rs, gcS_rs, gaL_rs, gbL_rs, gtL_rs, teS_rs, hrL_rs, hrS_rs, brL_rs, brS_rs, tdE_rs, myL_rs, mayS_rs, woE_rs, woS_rs]; done) | (simp only [nN_rs, wT_rs, onL_rs, onS_rs, spB_rs, spS_rs, mkLp_rs, mkS_rs, rsL_rs, rsS_rs, kdL_rs, kdS_rs, cdA_rs, cdF_rs, cdY_rs, cdS_rs, hdB_rs, fsC_rs, fsF_rs, fsS_rs, feC_rs, feF_rs, feS_rs, ageS_rs, seS_rs, nuS_rs, qE_rs, qnS_rs, qtS_rs, yrL_rs, yrS_rs, psE_rs, wpS_rs, psL_rs, psS_rs, stN_rs, stR_rs, stL_rs, stS_rs, lsS_rs, hnL_rs, sfS_rs, opL_rs, opS_rs, saL_rs, suL_rs, puL_rs, yvS_rs, avS_rs, pfS_rs, grB_rs, ghL_rs, gcO_rs, gcL_rs, gcE_rs, gcS_rs, gaL_rs, gbL_rs, gtL_rs, teS_rs, hrL_rs, hrS_rs, brL_rs, brS_rs, tdE_rs, myL_rs, mayS_rs, woE_rs, woS_rs]; with_reducible rfl) | (simp only [nN_rs, wT_rs, onL_rs, onS_rs, spB_rs, spS_rs, mkLp_rs, mkS_rs, rsL_rs, rsS_rs, kdL_rs, kdS_rs, cdA_rs, cdF_rs, cdY_rs, cdS_rs, hdB_rs, fsC_rs, fsF_rs, fsS_rs, feC_rs, feF_rs, feS_rs, ageS_rs, seS_rs, nuS_rs, qE_rs, qnS_rs, qtS_rs, yrL_rs, yrS_rs, psE_rs, wpS_rs, psL_rs, psS_rs, stN_rs, stR_rs, stL_rs, stS_rs, lsS_rs, hnL_rs, sfS_rs, opL_rs, opS_rs, saL_rs, suL_rs, puL_rs, yvS_rs, avS_rs, pfS_rs, grB_rs, ghL_rs, gcO_rs, gcL_rs, gcE_rs, gcS_rs, gaL_rs, gbL_rs, gtL_rs, teS_rs, hrL_rs, hrS_rs, brL_rs, brS_rs, tdE_rs, myL_rs, mayS_rs, woE_rs, woS_rs]; rfl) | rfl
theorem rwN_rs : rwN (rsA A) = rwN A := by
  funext u0
  unfold rwN
  first | (simp only [nN_rs, wT_rs, onL_rs, onS_rs, spB_rs, spS_rs, mkLp_rs, mkS_rs, rsL_rs, rsS_rs, kdL_rs, kdS_rs, cdA_rs, cdF_rs, cdY_rs, cdS_rs, hdB_rs, fsC_rs, fsF_rs, fsS_rs, feC_rs, feF_rs, feS_rs, ageS_rs, seS_rs, nuS_rs, qE_rs, qnS_rs, qtS_rs, yrL_rs, yrS_rs, psE_rs, wpS_rs, psL_rs, psS_rs, stN_rs, stR_rs, stL_rs, stS_rs, lsS_rs, hnL_rs, sfS_rs, opL_rs, opS_rs, saL_rs, suL_rs, puL_rs, yvS_rs, avS_rs, pfS_rs, grB_rs, ghL_rs, gcO_rs, gcL_rs, gcE_rs, gcS_rs, gaL_rs, gbL_rs, gtL_rs, teS_rs, hrL_rs, hrS_rs, brL_rs, brS_rs, tdE_rs, myL_rs, mayS_rs, woE_rs, woS_rs, rwL_rs]; done) | (simp only [nN_rs, wT_rs, onL_rs, onS_rs, spB_rs, spS_rs, mkLp_rs, mkS_rs, rsL_rs, rsS_rs, kdL_rs, kdS_rs, cdA_rs, cdF_rs, cdY_rs, cdS_rs, hdB_rs, fsC_rs, fsF_rs, fsS_rs, feC_rs, feF_rs, feS_rs, ageS_rs, seS_rs, nuS_rs, qE_rs, qnS_rs, qtS_rs, yrL_rs, yrS_rs, psE_rs, wpS_rs, psL_rs, psS_rs, stN_rs, stR_rs, stL_rs, stS_rs, lsS_rs, hnL_rs, sfS_rs, opL_rs, opS_rs, saL_rs, suL_rs, puL_rs, yvS_rs, avS_rs, pfS_rs, grB_rs, ghL_rs, gcO_rs, gcL_rs, gcE_rs, gcS_rs, gaL_rs, gbL_rs, gtL_rs, teS_rs, hrL_rs, hrS_rs, brL_rs, brS_rs, tdE_rs, myL_rs, mayS_rs, woE_rs, woS_rs, rwL_rs]; with_reducible rfl) | (simp only [nN_rs, wT_rs, onL_rs, onS_rs, spB_rs, spS_rs, mkLp_rs, mkS_rs, rsL_rs, rsS_rs, kdL_rs, kdS_rs, cdA_rs, cdF_rs, cdY_rs, cdS_rs, hdB_rs, fsC_rs, fsF_rs, fsS_rs, feC_rs, feF_rs, feS_rs, ageS_rs, seS_rs, nuS_rs, qE_rs, qnS_rs, qtS_rs, yrL_rs, yrS_rs, psE_rs, wpS_rs, psL_rs, psS_rs, stN_rs, stR_rs, stL_rs, stS_rs, lsS_rs, hnL_rs, sfS_rs, opL_rs, opS_rs, saL_rs, suL_rs, puL_rs, yvS_rs, avS_rs, pfS_rs, grB_rs, ghL_rs, gcO_rs, gcL_rs, gcE_rs, gcS_rs, gaL_rs, gbL_rs, gtL_rs, teS_rs, hrL_rs, hrS_rs, brL_rs, brS_rs, tdE_rs, myL_rs, mayS_rs, woE_rs, woS_rs, rwL_rs]; rfl) | rfl
theorem yrT_rs : yrT (rsA A) = yrT A := by
  unfold yrT
  first | (simp only [nN_rs, wT_rs, onL_rs, onS_rs, spB_rs, spS_rs, mkLp_rs, mkS_rs, rsL_rs, rsS_rs, kdL_rs, kdS_rs, cdA_rs, cdF_rs, cdY_rs, cdS_rs, hdB_rs, fsC_rs, fsF_rs, fsS_rs, feC_rs, feF_rs, feS_rs, ageS_rs, seS_rs, nuS_rs, qE_rs, qnS_rs, qtS_rs, yrL_rs, yrS_rs, psE_rs, wpS_rs, psL_rs, psS_rs, stN_rs, stR_rs, stL_rs, stS_rs, lsS_rs, hnL_rs, sfS_rs, opL_rs, opS_rs, saL_rs, suL_rs, puL_rs, yvS_rs, avS_rs, pfS_rs, grB_rs, ghL_rs, gcO_rs, gcL_rs, gcE_rs, gcS_rs, gaL_rs, gbL_rs, gtL_rs, teS_rs, hrL_rs, hrS_rs, brL_rs, brS_rs, tdE_rs, myL_rs, mayS_rs, woE_rs, woS_rs, rwL_rs, rwN_rs]; done) | (simp only [nN_rs, wT_rs, onL_rs, onS_rs, spB_rs, spS_rs, mkLp_rs, mkS_rs, rsL_rs, rsS_rs, kdL_rs, kdS_rs, cdA_rs, cdF_rs, cdY_rs, cdS_rs, hdB_rs, fsC_rs, fsF_rs, fsS_rs, feC_rs, feF_rs, feS_rs, ageS_rs, seS_rs, nuS_rs, qE_rs, qnS_rs, qtS_rs, yrL_rs, yrS_rs, psE_rs, wpS_rs, psL_rs, psS_rs, stN_rs, stR_rs, stL_rs, stS_rs, lsS_rs, hnL_rs, sfS_rs, opL_rs, opS_rs, saL_rs, suL_rs, puL_rs, yvS_rs, avS_rs, pfS_rs, grB_rs, ghL_rs, gcO_rs, gcL_rs, gcE_rs, gcS_rs, gaL_rs, gbL_rs, gtL_rs, teS_rs, hrL_rs, hrS_rs, brL_rs, brS_rs, tdE_rs, myL_rs, mayS_rs, woE_rs, woS_rs, rwL_rs, rwN_rs]; with_reducible rfl) | (simp only [nN_rs, wT_rs, onL_rs, onS_rs, spB_rs, spS_rs, mkLp_rs, mkS_rs, rsL_rs, rsS_rs, kdL_rs, kdS_rs, cdA_rs, cdF_rs, cdY_rs, cdS_rs, hdB_rs, fsC_rs, fsF_rs, fsS_rs, feC_rs, feF_rs, feS_rs, ageS_rs, seS_rs, nuS_rs, qE_rs, qnS_rs, qtS_rs, yrL_rs, yrS_rs, psE_rs, wpS_rs, psL_rs, psS_rs, stN_rs, stR_rs, stL_rs, stS_rs, lsS_rs, hnL_rs, sfS_rs, opL_rs, opS_rs, saL_rs, suL_rs, puL_rs, yvS_rs, avS_rs, pfS_rs, grB_rs, ghL_rs, gcO_rs, gcL_rs, gcE_rs, gcS_rs, gaL_rs, gbL_rs, gtL_rs, teS_rs, hrL_rs, hrS_rs, brL_rs, brS_rs, tdE_rs, myL_rs, mayS_rs, woE_rs, woS_rs, rwL_rs, rwN_rs]; rfl) | rfl
theorem wsL_rs : wsL (rsA A) = wsL A := by
  funext u0 u1
  unfold wsL
  first | (simp only [nN_rs, wT_rs, onL_rs, onS_rs, spB_rs, spS_rs, mkLp_rs, mkS_rs, rsL_rs, rsS_rs, kdL_rs, kdS_rs, cdA_rs, cdF_rs, cdY_rs, cdS_rs, hdB_rs, fsC_rs, fsF_rs, fsS_rs, feC_rs, feF_rs, feS_rs, ageS_rs, seS_rs, nuS_rs, qE_rs, qnS_rs, qtS_rs, yrL_rs, yrS_rs, psE_rs, wpS_rs, psL_rs, psS_rs, stN_rs, stR_rs, stL_rs, stS_rs, lsS_rs, hnL_rs, sfS_rs, opL_rs, opS_rs, saL_rs, suL_rs, puL_rs, yvS_rs, avS_rs, pfS_rs, grB_rs, ghL_rs, gcO_rs, gcL_rs, gcE_rs, gcS_rs, gaL_rs, gbL_rs, gtL_rs, teS_rs, hrL_rs, hrS_rs, brL_rs, brS_rs, tdE_rs, myL_rs, mayS_rs, woE_rs, woS_rs, rwL_rs, rwN_rs, yrT_rs]; done) | (simp only [nN_rs, wT_rs, onL_rs, onS_rs, spB_rs, spS_rs, mkLp_rs, mkS_rs, rsL_rs, rsS_rs, kdL_rs, kdS_rs, cdA_rs, cdF_rs, cdY_rs, cdS_rs, hdB_rs, fsC_rs, fsF_rs, fsS_rs, feC_rs, feF_rs, feS_rs, ageS_rs, seS_rs, nuS_rs, qE_rs, qnS_rs, qtS_rs, yrL_rs, yrS_rs, psE_rs, wpS_rs, psL_rs, psS_rs, stN_rs, stR_rs, stL_rs, stS_rs, lsS_rs, hnL_rs, sfS_rs, opL_rs, opS_rs, saL_rs, suL_rs, puL_rs, yvS_rs, avS_rs, pfS_rs, grB_rs, ghL_rs, gcO_rs, gcL_rs, gcE_rs, gcS_rs, gaL_rs, gbL_rs, gtL_rs, teS_rs, hrL_rs, hrS_rs, brL_rs, brS_rs, tdE_rs, myL_rs, mayS_rs, woE_rs, woS_rs, rwL_rs, rwN_rs, yrT_rs]; with_reducible rfl) | (simp only [nN_rs, wT_rs, onL_rs, onS_rs, spB_rs, spS_rs, mkLp_rs, mkS_rs, rsL_rs, rsS_rs, kdL_rs, kdS_rs, cdA_rs, cdF_rs, cdY_rs, cdS_rs, hdB_rs, fsC_rs, fsF_rs, fsS_rs, feC_rs, feF_rs, feS_rs, ageS_rs, seS_rs, nuS_rs, qE_rs, qnS_rs, qtS_rs, yrL_rs, yrS_rs, psE_rs, wpS_rs, psL_rs, psS_rs, stN_rs, stR_rs, stL_rs, stS_rs, lsS_rs, hnL_rs, sfS_rs, opL_rs, opS_rs, saL_rs, suL_rs, puL_rs, yvS_rs, avS_rs, pfS_rs, grB_rs, ghL_rs, gcO_rs, gcL_rs, gcE_rs, gcS_rs, gaL_rs, gbL_rs, gtL_rs, teS_rs, hrL_rs, hrS_rs, brL_rs, brS_rs, tdE_rs, myL_rs, mayS_rs, woE_rs, woS_rs, rwL_rs, rwN_rs, yrT_rs]; rfl) | rfl
theorem lfP_rs : lfP (rsA A) = lfP A := by
  funext u0 u1 u2
  funext k
  induction k with
  | zero => rfl
  | succ k ih =>
    unfold lfP
    rw [ih]
    first | (simp only [nN_rs, wT_rs, onL_rs, onS_rs, spB_rs, spS_rs, mkLp_rs, mkS_rs, rsL_rs, rsS_rs, kdL_rs, kdS_rs, cdA_rs, cdF_rs, cdY_rs, cdS_rs, hdB_rs, fsC_rs, fsF_rs, fsS_rs, feC_rs, feF_rs, feS_rs, ageS_rs, seS_rs, nuS_rs, qE_rs, qnS_rs, qtS_rs, yrL_rs, yrS_rs, psE_rs, wpS_rs, psL_rs, psS_rs, stN_rs, stR_rs, stL_rs, stS_rs, lsS_rs, hnL_rs, sfS_rs, opL_rs, opS_rs, saL_rs, suL_rs, puL_rs, yvS_rs, avS_rs, pfS_rs, grB_rs, ghL_rs, gcO_rs, gcL_rs, gcE_rs, gcS_rs, gaL_rs, gbL_rs, gtL_rs, teS_rs, hrL_rs, hrS_rs, brL_rs, brS_rs, tdE_rs, myL_rs, mayS_rs, woE_rs, woS_rs, rwL_rs, rwN_rs, yrT_rs, wsL_rs]; done) | (simp only [nN_rs, wT_rs, onL_rs, onS_rs, spB_rs, spS_rs, mkLp_rs, mkS_rs, rsL_rs, rsS_rs, kdL_rs, kdS_rs, cdA_rs, cdF_rs, cdY_rs, cdS_rs, hdB_rs, fsC_rs, fsF_rs, fsS_rs, feC_rs, feF_rs, feS_rs, ageS_rs, seS_rs, nuS_rs, qE_rs, qnS_rs, qtS_rs, yrL_rs, yrS_rs, psE_rs, wpS_rs, psL_rs, psS_rs, stN_rs, stR_rs, stL_rs, stS_rs, lsS_rs, hnL_rs, sfS_rs, opL_rs, opS_rs, saL_rs, suL_rs, puL_rs, yvS_rs, avS_rs, pfS_rs, grB_rs, ghL_rs, gcO_rs, gcL_rs, gcE_rs, gcS_rs, gaL_rs, gbL_rs, gtL_rs, teS_rs, hrL_rs, hrS_rs, brL_rs, brS_rs, tdE_rs, myL_rs, mayS_rs, woE_rs, woS_rs, rwL_rs, rwN_rs, yrT_rs, wsL_rs]; with_reducible rfl) | (simp only [nN_rs, wT_rs, onL_rs, onS_rs, spB_rs, spS_rs, mkLp_rs, mkS_rs, rsL_rs, rsS_rs, kdL_rs, kdS_rs, cdA_rs, cdF_rs, cdY_rs, cdS_rs, hdB_rs, fsC_rs, fsF_rs, fsS_rs, feC_rs, feF_rs, feS_rs, ageS_rs, seS_rs, nuS_rs, qE_rs, qnS_rs, qtS_rs, yrL_rs, yrS_rs, psE_rs, wpS_rs, psL_rs, psS_rs, stN_rs, stR_rs, stL_rs, stS_rs, lsS_rs, hnL_rs, sfS_rs, opL_rs, opS_rs, saL_rs, suL_rs, puL_rs, yvS_rs, avS_rs, pfS_rs, grB_rs, ghL_rs, gcO_rs, gcL_rs, gcE_rs, gcS_rs, gaL_rs, gbL_rs, gtL_rs, teS_rs, hrL_rs, hrS_rs, brL_rs, brS_rs, tdE_rs, myL_rs, mayS_rs, woE_rs, woS_rs, rwL_rs, rwN_rs, yrT_rs, wsL_rs]; rfl) | rfl
theorem ckP_rs : ckP (rsA A) = ckP A := by
  funext u0 u1 u2 u3
  unfold ckP
  first | (simp only [nN_rs, wT_rs, onL_rs, onS_rs, spB_rs, spS_rs, mkLp_rs, mkS_rs, rsL_rs, rsS_rs, kdL_rs, kdS_rs, cdA_rs, cdF_rs, cdY_rs, cdS_rs, hdB_rs, fsC_rs, fsF_rs, fsS_rs, feC_rs, feF_rs, feS_rs, ageS_rs, seS_rs, nuS_rs, qE_rs, qnS_rs, qtS_rs, yrL_rs, yrS_rs, psE_rs, wpS_rs, psL_rs, psS_rs, stN_rs, stR_rs, stL_rs, stS_rs, lsS_rs, hnL_rs, sfS_rs, opL_rs, opS_rs, saL_rs, suL_rs, puL_rs, yvS_rs, avS_rs, pfS_rs, grB_rs, ghL_rs, gcO_rs, gcL_rs, gcE_rs, gcS_rs, gaL_rs, gbL_rs, gtL_rs, teS_rs, hrL_rs, hrS_rs, brL_rs, brS_rs, tdE_rs, myL_rs, mayS_rs, woE_rs, woS_rs, rwL_rs, rwN_rs, yrT_rs, wsL_rs, lfP_rs]; done) | (simp only [nN_rs, wT_rs, onL_rs, onS_rs, spB_rs, spS_rs, mkLp_rs, mkS_rs, rsL_rs, rsS_rs, kdL_rs, kdS_rs, cdA_rs, cdF_rs, cdY_rs, cdS_rs, hdB_rs, fsC_rs, fsF_rs, fsS_rs, feC_rs, feF_rs, feS_rs, ageS_rs, seS_rs, nuS_rs, qE_rs, qnS_rs, qtS_rs, yrL_rs, yrS_rs, psE_rs, wpS_rs, psL_rs, psS_rs, stN_rs, stR_rs, stL_rs, stS_rs, lsS_rs, hnL_rs, sfS_rs, opL_rs, opS_rs, saL_rs, suL_rs, puL_rs, yvS_rs, avS_rs, pfS_rs, grB_rs, ghL_rs, gcO_rs, gcL_rs, gcE_rs, gcS_rs, gaL_rs, gbL_rs, gtL_rs, teS_rs, hrL_rs, hrS_rs, brL_rs, brS_rs, tdE_rs, myL_rs, mayS_rs, woE_rs, woS_rs, rwL_rs, rwN_rs, yrT_rs, wsL_rs, lfP_rs]; with_reducible rfl) | (simp only [nN_rs, wT_rs, onL_rs, onS_rs, spB_rs, spS_rs, mkLp_rs, mkS_rs, rsL_rs, rsS_rs, kdL_rs, kdS_rs, cdA_rs, cdF_rs, cdY_rs, cdS_rs, hdB_rs, fsC_rs, fsF_rs, fsS_rs, feC_rs, feF_rs, feS_rs, ageS_rs, seS_rs, nuS_rs, qE_rs, qnS_rs, qtS_rs, yrL_rs, yrS_rs, psE_rs, wpS_rs, psL_rs, psS_rs, stN_rs, stR_rs, stL_rs, stS_rs, lsS_rs, hnL_rs, sfS_rs, opL_rs, opS_rs, saL_rs, suL_rs, puL_rs, yvS_rs, avS_rs, pfS_rs, grB_rs, ghL_rs, gcO_rs, gcL_rs, gcE_rs, gcS_rs, gaL_rs, gbL_rs, gtL_rs, teS_rs, hrL_rs, hrS_rs, brL_rs, brS_rs, tdE_rs, myL_rs, mayS_rs, woE_rs, woS_rs, rwL_rs, rwN_rs, yrT_rs, wsL_rs, lfP_rs]; rfl) | rfl
theorem enP_rs : enP (rsA A) = enP A := by
  funext u0 u1 u2
  funext k
  induction k with
  | zero => rfl
  | succ k ih =>
    unfold enP
    rw [ih]
    first | (simp only [nN_rs, wT_rs, onL_rs, onS_rs, spB_rs, spS_rs, mkLp_rs, mkS_rs, rsL_rs, rsS_rs, kdL_rs, kdS_rs, cdA_rs, cdF_rs, cdY_rs, cdS_rs, hdB_rs, fsC_rs, fsF_rs, fsS_rs, feC_rs, feF_rs, feS_rs, ageS_rs, seS_rs, nuS_rs, qE_rs, qnS_rs, qtS_rs, yrL_rs, yrS_rs, psE_rs, wpS_rs, psL_rs, psS_rs, stN_rs, stR_rs, stL_rs, stS_rs, lsS_rs, hnL_rs, sfS_rs, opL_rs, opS_rs, saL_rs, suL_rs, puL_rs, yvS_rs, avS_rs, pfS_rs, grB_rs, ghL_rs, gcO_rs, gcL_rs, gcE_rs, gcS_rs, gaL_rs, gbL_rs, gtL_rs, teS_rs, hrL_rs, hrS_rs, brL_rs, brS_rs, tdE_rs, myL_rs, mayS_rs, woE_rs, woS_rs, rwL_rs, rwN_rs, yrT_rs, wsL_rs, lfP_rs, ckP_rs]; done) | (simp only [nN_rs, wT_rs, onL_rs, onS_rs, spB_rs, spS_rs, mkLp_rs, mkS_rs, rsL_rs, rsS_rs, kdL_rs, kdS_rs, cdA_rs, cdF_rs, cdY_rs, cdS_rs, hdB_rs, fsC_rs, fsF_rs, fsS_rs, feC_rs, feF_rs, feS_rs, ageS_rs, seS_rs, nuS_rs, qE_rs, qnS_rs, qtS_rs, yrL_rs, yrS_rs, psE_rs, wpS_rs, psL_rs, psS_rs, stN_rs, stR_rs, stL_rs, stS_rs, lsS_rs, hnL_rs, sfS_rs, opL_rs, opS_rs, saL_rs, suL_rs, puL_rs, yvS_rs, avS_rs, pfS_rs, grB_rs, ghL_rs, gcO_rs, gcL_rs, gcE_rs, gcS_rs, gaL_rs, gbL_rs, gtL_rs, teS_rs, hrL_rs, hrS_rs, brL_rs, brS_rs, tdE_rs, myL_rs, mayS_rs, woE_rs, woS_rs, rwL_rs, rwN_rs, yrT_rs, wsL_rs, lfP_rs, ckP_rs]; with_reducible rfl) | (simp only [nN_rs, wT_rs, onL_rs, onS_rs, spB_rs, spS_rs, mkLp_rs, mkS_rs, rsL_rs, rsS_rs, kdL_rs, kdS_rs, cdA_rs, cdF_rs, cdY_rs, cdS_rs, hdB_rs, fsC_rs, fsF_rs, fsS_rs, feC_rs, feF_rs, feS_rs, ageS_rs, seS_rs, nuS_rs, qE_rs, qnS_rs, qtS_rs, yrL_rs, yrS_rs, psE_rs, wpS_rs, psL_rs, psS_rs, stN_rs, stR_rs, stL_rs, stS_rs, lsS_rs, hnL_rs, sfS_rs, opL_rs, opS_rs, saL_rs, suL_rs, puL_rs, yvS_rs, avS_rs, pfS_rs, grB_rs, ghL_rs, gcO_rs, gcL_rs, gcE_rs, gcS_rs, gaL_rs, gbL_rs, gtL_rs, teS_rs, hrL_rs, hrS_rs, brL_rs, brS_rs, tdE_rs, myL_rs, mayS_rs, woE_rs, woS_rs, rwL_rs, rwN_rs, yrT_rs, wsL_rs, lfP_rs, ckP_rs]; rfl) | rfl
theorem stP_rs : stP (rsA A) = stP A := by
  funext u0 u1 u2
  funext k
  induction k with
  | zero => rfl
  | succ k ih =>
    funext c
    have ih2 := congrFun ih c
    unfold stP
    rw [ih2]
    first | (simp only [nN_rs, wT_rs, onL_rs, onS_rs, spB_rs, spS_rs, mkLp_rs, mkS_rs, rsL_rs, rsS_rs, kdL_rs, kdS_rs, cdA_rs, cdF_rs, cdY_rs, cdS_rs, hdB_rs, fsC_rs, fsF_rs, fsS_rs, feC_rs, feF_rs, feS_rs, ageS_rs, seS_rs, nuS_rs, qE_rs, qnS_rs, qtS_rs, yrL_rs, yrS_rs, psE_rs, wpS_rs, psL_rs, psS_rs, stN_rs, stR_rs, stL_rs, stS_rs, lsS_rs, hnL_rs, sfS_rs, opL_rs, opS_rs, saL_rs, suL_rs, puL_rs, yvS_rs, avS_rs, pfS_rs, grB_rs, ghL_rs, gcO_rs, gcL_rs, gcE_rs, gcS_rs, gaL_rs, gbL_rs, gtL_rs, teS_rs, hrL_rs, hrS_rs, brL_rs, brS_rs, tdE_rs, myL_rs, mayS_rs, woE_rs, woS_rs, rwL_rs, rwN_rs, yrT_rs, wsL_rs, lfP_rs, ckP_rs, enP_rs]; done) | (simp only [nN_rs, wT_rs, onL_rs, onS_rs, spB_rs, spS_rs, mkLp_rs, mkS_rs, rsL_rs, rsS_rs, kdL_rs, kdS_rs, cdA_rs, cdF_rs, cdY_rs, cdS_rs, hdB_rs, fsC_rs, fsF_rs, fsS_rs, feC_rs, feF_rs, feS_rs, ageS_rs, seS_rs, nuS_rs, qE_rs, qnS_rs, qtS_rs, yrL_rs, yrS_rs, psE_rs, wpS_rs, psL_rs, psS_rs, stN_rs, stR_rs, stL_rs, stS_rs, lsS_rs, hnL_rs, sfS_rs, opL_rs, opS_rs, saL_rs, suL_rs, puL_rs, yvS_rs, avS_rs, pfS_rs, grB_rs, ghL_rs, gcO_rs, gcL_rs, gcE_rs, gcS_rs, gaL_rs, gbL_rs, gtL_rs, teS_rs, hrL_rs, hrS_rs, brL_rs, brS_rs, tdE_rs, myL_rs, mayS_rs, woE_rs, woS_rs, rwL_rs, rwN_rs, yrT_rs, wsL_rs, lfP_rs, ckP_rs, enP_rs]; with_reducible rfl) | (simp only [nN_rs, wT_rs, onL_rs, onS_rs, spB_rs, spS_rs, mkLp_rs, mkS_rs, rsL_rs, rsS_rs, kdL_rs, kdS_rs, cdA_rs, cdF_rs, cdY_rs, cdS_rs, hdB_rs, fsC_rs, fsF_rs, fsS_rs, feC_rs, feF_rs, feS_rs, ageS_rs, seS_rs, nuS_rs, qE_rs, qnS_rs, qtS_rs, yrL_rs, yrS_rs, psE_rs, wpS_rs, psL_rs, psS_rs, stN_rs, stR_rs, stL_rs, stS_rs, lsS_rs, hnL_rs, sfS_rs, opL_rs, opS_rs, saL_rs, suL_rs, puL_rs, yvS_rs, avS_rs, pfS_rs, grB_rs, ghL_rs, gcO_rs, gcL_rs, gcE_rs, gcS_rs, gaL_rs, gbL_rs, gtL_rs, teS_rs, hrL_rs, hrS_rs, brL_rs, brS_rs, tdE_rs, myL_rs, mayS_rs, woE_rs, woS_rs, rwL_rs, rwN_rs, yrT_rs, wsL_rs, lfP_rs, ckP_rs, enP_rs]; rfl) | rfl
end
