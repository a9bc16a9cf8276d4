section
variable {d L : Nat} {I I0 : mI} {R : mR} {S : mSh} {Q : Option Value → mM → Prop} {A : aS} {c day known kind half year subj code : Int}
theorem l187_4 {q : Int} (hV : WfV A) (hq : inR q) : ∀ (n : Nat) (I : mI) (w2 : Value), n ≤ 10 → Fr [88] [] I0 I → RC R S I A → (∀ I1, Fr [88] [] I0 I1 → Q (some (.int (oI (suD A q n)))) (bd L I1 R S)) → h187_4 (d + 2) L I R S Q q w2 (alL A q (A 91 58).toNat) n := by
  intro n
  induction n with
  | zero =>
    intro I w2 hn hf hC hK
    exact e187_4 (d := d) hC ⟨by unfold inR; omega, fun h => by exfalso; omega, fun _ => hK I hf⟩
  | succ n ih =>
    intro I w2 hn hf hC hK
    have e : suD A q (n + 1) = if suB A q ((n + 1 : Nat) : Int) = true then ((n + 1 : Nat) : Int) else suD A q n := rfl
    rw [e] at hK
    refine e187_4 (d := d) hC ⟨by unfold inR; omega, fun _ => ⟨hV, hq, by omega, rfl, fun q1 I1 f1 => ?_, fun q1 I1 f1 => ?_⟩, fun h => by exfalso; omega⟩
    · rw [if_pos q1] at hK; exact hK I1 (hf.trans f1)
    · rw [if_neg q1] at hK
      rw [show ((n + 1 : Nat) : Int) + -1 = (n : Int) by omega]
      exact ih I1 _ (by omega) (hf.trans f1) (hC.fr f1 rfl) hK
theorem l187_1 {q : Int} (hV : WfV A) (hq : inR q) (hC : RC R S I A) (hK : ∀ I1, Fr [88] [] I I1 → Q (some (.int (oI (suD A q (min (nkL A q (A 91 58).toNat) (A 91 57)).toNat)))) (bd L I1 R S)) : ∀ (n k : Nat), k + n = (A 91 58).toNat → h187_1 (d + 2) L I R S Q q (nkL A q k) (alL A q k) k := by
  have v1 := hV.2.1
  have v0 := hV.1
  intro n
  induction n with
  | zero =>
    intro k hk
    have nk := nkL_in (A := A) (q := q) k
    refine e187_1 (d := d + 1) hC ⟨by unfold inR; omega, fun h => by exfalso; omega, fun _ => ⟨by unfold inR; omega, ?_⟩⟩
    rw [show k = (A 91 58).toNat by omega] at nk ⊢
    have := l187_4 (d := d) (L := L) (R := R) (S := S) (Q := Q) (I0 := I) hV hq (min (nkL A q (A 91 58).toNat) (A 91 57)).toNat I (.int (oI (nkL A q (A 91 58).toNat))) (by omega) (Fr.refl _ _ _) hC hK
    rw [show (((min (nkL A q (A 91 58).toNat) (A 91 57)).toNat : Nat) : Int) = min (nkL A q (A 91 58).toNat) (A 91 57) by omega] at this
    exact this
  | succ n ih =>
    intro k hk
    have ih := ih (k + 1) (by omega)
    have su := hC.sums hV (c := k) (by omega)
    have e : alL A q (k + 1) = alL A q k + (if A 133 k = q then vtS A k else 0) := rfl
    rw [nkL_succ, e, show ((k + 1 : Nat) : Int) = (k : Int) + 1 by omega] at ih
    refine e187_1 (d := d + 1) hC ?_
    rw [Int.toNat_natCast, su]
    refine ⟨by unfold inR; omega, fun _ => ⟨by omega, hq, fun q1 => ?_, fun q1 => ?_⟩, fun h => by exfalso; omega⟩
    · rw [if_pos q1, if_pos q1] at ih; exact ih
    · rw [if_neg q1, if_neg q1, Int.add_zero, Int.add_zero] at ih; exact ih
theorem k187 {q : Int} {K : Int32 → mM → Prop} (hC : RC R S I A) (hV : WfV A) (hq : inR q) (hK : ∀ I1, Fr [88] [] I I1 → K (oI (suD A q (min (nkL A q (A 91 58).toNat) (A 91 57)).toNat)) (bd L I1 R S)) : CallI (d + 2) 187 [.ref 85, .int (oI q)] (bd L I R S) K :=
  e187 (d := d + 2) hC (l187_1 (d := d) hV hq hC (fun I1 f1 => rqI_of (hK I1 f1)) (A 91 58).toNat 0 (by omega))
end
