/-! a statement's text, and what is written of it -/
def ifT (t : Option (Any 10)) : List Tk := match t with
  | none => []
  | some t => tW wIf :: tAny (cOne 10) (tOne 10) 0 t
def btT (b : Bdy) (t : Option (Any 10)) : List Tk := tW (bdW b.1) :: (bdR b.1 b.2.1 b.2.2 ++ ifT t)
def stT (n : Int) (b : Bdy) (t : Option (Any 10)) : List Tk := tW wClause :: tN n :: tS 58 :: (btT b t ++ [tS 59])
section
variable {T : Nat → Int} {N F p r q : Nat}
theorem rW_long {w : Int64} {u : Unit} (hp : p ≤ N) (h : rWord T N w p = (some u, r)) (hw : WlOk w) (hw0 : ¬ w = Int64.ofInt 0) : p + (wB w).length ≤ r ∧ r ≤ N ∧ ∀ b, chg T N b r = 0 := by
  have hq := bl_in (T := T) hp
  unfold rWord at h
  split at h
  · rename_i c
    cases h
    have h1 := tk_len c hw hq.2 hw0
    have h2 := lt_in (T := T) hq.2
    exact ⟨by omega, h2.2, fun b => chg_lt hq.2⟩
  · cases h
theorem rN_long {lo hi v : Int} (hp : p ≤ N) (h : rNum T N lo hi p = (some v, r)) : p + (dB v).length ≤ r ∧ r ≤ N ∧ (dB v).length ≤ 4 ∧ p + 1 ≤ r := by
  have hq := bl_in (T := T) hp
  unfold rNum at h
  split at h
  · rename_i c
    cases h
    have h1 := dB_nv hq.2 c
    have h2 := dg_in (T := T) hq.2
    exact ⟨by omega, h2.2, dB_len, by omega⟩
  · cases h
theorem rS_long {c : Int} {u : Unit} (hp : p ≤ N) (h : rSign T N c p = (some u, r)) : p + 1 ≤ r ∧ r ≤ N := by
  have hq := bl_in (T := T) hp
  unfold rSign at h
  split at h
  · rename_i c
    cases h
    omega
  · cases h
/-- what of a statement's text is written between two places: 4 times what is written, 5 times what is read -/
theorem if_long {t : Option (Any 10)} (hp : p ≤ N) (h : ifP T N F p = (some t, r)) : 4 * rl true (ifT t) ≤ 5 * (r - p) ∧ p ≤ r ∧ r ≤ N := by
  have hq := bl_in (T := T) hp
  unfold ifP at h
  split at h
  · rename_i c
    obtain ⟨t', q2, h1, h2⟩ := bnd_some h
    cases h2
    have hl := lt_in (T := T) hq.2
    have hw := tk_len c (by decide) hq.2 (by decide)
    have e2 : (wB wIf).length = 2 := by decide
    have h3 := any_long (T := T) (N := N) (F := F) (fun p r x ls b hp h => sg_long 10 p r x ls b hp h) (lt T N (bl T N p)) r t' true hl.2 h1
    rw [chg_lt hq.2] at h3
    have h5 := an_in (T := T) (F := F) (n := 10) (N := N) (p := lt T N (bl T N p)) hl.2
    rw [h1] at h5
    have h6 : lt T N (bl T N p) ≤ r := h5.1
    have h7 : r ≤ N := h5.2.1
    have hc := cAny_in (cOne_in 10) t'
    have e3 : tAny (cOne 10) (tOne 10) 0 t' = jn wOr (tAll (cOne 10) (tOne 10) 0) t' := by
      unfold tAny prT
      rw [if_neg (by simp; omega)]
    refine ⟨?_, by omega, h7⟩
    show 4 * rl true (tW wIf :: tAny (cOne 10) (tOne 10) 0 t') ≤ _
    rw [rl_W, e2, e3, show gpN true = 1 from rfl]
    omega
  · cases h
    exact ⟨by rw [show ifT none = [] from rfl, rl_nil]; omega, hq.1, hq.2⟩
theorem wlClause : (wB wClause).length = 6 := by decide
theorem wlOmit : (wB wOmit).length = 4 := by decide
theorem wlCount : (wB wCount).length = 5 := by decide
theorem wlPresent : (wB wPresent).length = 7 := by decide
theorem wlLate : (wB wLate).length = 4 := by decide
theorem wlWork : (wB wWork).length = 4 := by decide
theorem wlAs : (wB wAs).length = 2 := by decide
theorem wlExcuse : (wB wExcuse).length = 6 := by decide
theorem wlAttend : (wB wAttend).length = 6 := by decide
theorem wlPass : (wB wPass).length = 4 := by decide
theorem wlNeeds : (wB wNeeds).length = 5 := by decide
theorem wlRise : (wB wRise).length = 4 := by decide
theorem wlGrant : (wB wGrant).length = 5 := by decide
theorem wlPer : (wB wPer).length = 3 := by decide
theorem wlHead : (wB wHead).length = 4 := by decide
theorem wlChild : (wB wChild).length = 5 := by decide
theorem wlCap : (wB wCap).length = 3 := by decide
theorem wlFee : (wB wFee).length = 3 := by decide
theorem wlHalf : (wB wHalf).length = 4 := by decide
theorem wlRoom : (wB wRoom).length = 4 := by decide
theorem wlStaff : (wB wStaff).length = 5 := by decide
theorem wlStep : (wB wStep).length = 4 := by decide
theorem wlPay : (wB wPay).length = 3 := by decide
theorem wlIs : (wB wIs).length = 2 := by decide
theorem wlTeach : (wB wTeach).length = 5 := by decide
theorem wlSmall : (wB wSmall).length = 5 := by decide
theorem wlIf : (wB wIf).length = 2 := by decide
end
