/-! the reference: written -/
noncomputable def ccT (A : aS) (n : Int) (s : Nat) : List Tk := tW wClause :: tN n :: tS 58 :: (smT A s ++ [tS 59])
noncomputable def cdT (A : aS) (y : Int) : Nat → Nat → List Tk
  | 0, _ => []
  | f + 1, n => (if cdS A y n = -1 then [] else ccT A n (cdS A y n).toNat) ++ cdT A y f (n + 1)
noncomputable def cdX (A : aS) (y : Int) : List Int := (rnd ([], false) (cdT A y 60 1)).1
noncomputable def writA (A : aS) (y i : Int) : Int := if 0 ≤ y ∧ y ≤ 7 then (if i = -1 then ((cdX A y).length : Int) else if 0 ≤ i ∧ i ≤ ((cdX A y).length : Int) - 1 then (cdX A y).getD i.toNat 0 else -1) else -1
def WfW (A : aS) : Prop := ∀ y : Int, 0 ≤ y ∧ y ≤ 7 → (cdX A y).length ≤ 8000
section
variable {d L : Nat} {I I0 : mI} {R : Nat → Nat → Option Nat} {S : List (Nat × Nat)} {A : aS} {Q : Option Value → mM → Prop} {y i : Int}
theorem l321 (hC : WfC A) (hy : 0 ≤ y ∧ y ≤ 7) (hi : inR i) (hlen : (cdX A y).length ≤ 8000) : ∀ (f n : Nat) (I : mI) (x : List Int × Bool) (w4 : Value), n + f = 61 → 1 ≤ n → rnd x (cdT A y f n) = rnd ([], false) (cdT A y 60 1) → FM I0 I → RM I A → Wr I x.1 x.2 → (∀ I1, FM I0 I1 → RM I1 A → Q (some (.int (oI (writA A y i)))) (bd L I1 R S)) → h321_2 (d + 27) L I R S Q y i (n : Int) w4 := by
  intro f
  induction f with
  | zero =>
    intro n I x w4 hn h1 hx hf hR hW hK
    have ex : x.1 = cdX A y := by unfold cdX; rw [← hx]; rfl
    rw [ex] at hW
    have hK2 := hK I hf hR
    unfold writA at hK2
    rw [if_pos hy] at hK2
    refine e321_2 (d := d + 25) hR ⟨by unfold inR; omega, fun _ => ⟨hi, fun q => ?_, fun q => ?_⟩, fun q => absurd (by omega) q⟩
    · rw [hW.1]
      rw [if_pos q] at hK2
      exact hK2
    · rw [hW.1]
      rw [if_neg q] at hK2
      refine ⟨by unfold inR; omega, fun q2 => ⟨by omega, ?_⟩, fun q2 => ?_⟩
      · rw [if_pos q2] at hK2
        have hlt : i.toNat < (cdX A y).length := by omega
        have e2 : (cdX A y)[i.toNat]? = some ((cdX A y).getD i.toNat 0) := by
          rw [List.getD_eq_getElem?_getD, List.getElem?_eq_getElem hlt]; rfl
        rw [hW.2.1 _ _ e2]
        exact hK2
      · rw [if_neg q2] at hK2
        exact hK2
  | succ f ih =>
    intro n I x w4 hn h1 hx hf hR hW hK
    refine e321_2 (d := d + 25) hR ⟨by unfold inR; omega, fun q => absurd q (by omega), fun _ => ⟨hC, hy, by omega, fun I13 f13 r13 => ?_⟩⟩
    have w13 : Wr I13 x.1 x.2 := hW.fr f13 rfl rfl (fun _ => rfl)
    have m13 : FM I0 I13 := hf.trans (f13.FM rfl)
    have hci := cdS_in hC (y := y) (n := (n : Int))
    rw [show (n : Int) + 1 = ((n + 1 : Nat) : Int) by omega]
    refine ⟨by unfold inR; omega, fun q => ?_, fun q => ?_⟩
    · have e : cdT A y (f + 1) n = cdT A y f (n + 1) := by
        show (if cdS A y n = -1 then [] else ccT A n (cdS A y n).toNat) ++ cdT A y f (n + 1) = _
        rw [if_pos q]; rfl
      rw [e] at hx
      exact ih (n + 1) I13 x _ (by omega) (by omega) hx m13 r13 w13 hK
    · obtain ⟨s, hs, hs2, hs3, hs4, hs5, -⟩ := cdS_wf hC q
      have e : cdT A y (f + 1) n = ccT A n s ++ cdT A y f (n + 1) := by
        show (if cdS A y n = -1 then [] else ccT A n (cdS A y n).toNat) ++ cdT A y f (n + 1) = _
        rw [if_neg q, hs, Int.toNat_natCast]
      rw [e, rnd_app] at hx
      have hl : (rnd x (ccT A n s)).1.length ≤ 8000 := by
        have := rnd_le (cdT A y f (n + 1)) (rnd x (ccT A n s))
        rw [hx] at this
        exact Nat.le_trans this hlen
      rw [hs]
      refine WtOk.t (t := tW wClause) (us := tN n :: tS 58 :: (smT A s ++ [tS 59])) (wt322 (by decide)) m13 r13 w13 hl (fun I1 f1 r1 w1 l1 => ?_)
      refine WtOk.t (t := tN n) (us := tS 58 :: (smT A s ++ [tS 59])) (wt324 (by omega)) f1 r1 w1 l1 (fun I2 f2 r2 w2 l2 => ?_)
      refine WtOk.t (t := tS 58) (us := smT A s ++ [tS 59]) (wt323 (by decide)) f2 r2 w2 l2 (fun I3 f3 r3 w3 l3 => ?_)
      refine (k325 (d := d + 1) (by omega) hs3 hs5).go (us := [tS 59]) f3 r3 w3 l3 (fun I4 f4 r4 w4 l4 => ?_)
      refine WtOk.t (t := tS 59) (us := []) (wt323 (by decide)) f4 r4 w4 l4 (fun I5 f5 r5 w5 l5 => ?_)
      refine ih (n + 1) I5 (rnd x (ccT A n s)) _ (by omega) (by omega) hx f5 r5 ?_ hK
      have ec : rnd x (ccT A n s) = stk (rnd (stk (stk (stk x (tW wClause)) (tN n)) (tS 58)) (smT A s)) (tS 59) := by
        show rnd (stk (stk (stk x (tW wClause)) (tN n)) (tS 58)) (smT A s ++ [tS 59]) = _
        rw [rnd_app]; rfl
      rw [ec]; exact w5
theorem k321 {K : Int32 → mM → Prop} (hR : RM I A) (hC : WfC A) (hW : WfW A) (hy : inR y) (hi : inR i) (hK : ∀ I1, FM I I1 → RM I1 A → K (oI (writA A y i)) (bd L I1 R S)) : CallI (d + 27) 321 [.ref 91, .int (oI y), .int (oI i)] (bd L I R S) K := by
  refine e321 (d := d + 25) hR ⟨hy, fun q => ?_, fun q => ?_⟩
  · refine l321 (I0 := I) hC q hi (hW y q) 60 1 _ ([], false) mUn rfl (Nat.le_refl _) rfl (((FM.refl I).wr (by decide)).wr (by decide)) ((hR.scr rfl).scr rfl) ⟨?_, fun j v hv => (by exact absurd hv (by intro h; cases h)), ?_⟩ (fun I1 f1 r1 => rqI_of (hK I1 f1 r1))
    · rw [ld_w (inRd rfl), if_neg (by decide), ld_w (inRd rfl), if_pos rfl]; rfl
    · rw [ld_w (inRd rfl), if_pos rfl]; rfl
  · have := hK I (FM.refl I) hR
    unfold writA at this
    rw [if_neg q] at this
    exact this
end
