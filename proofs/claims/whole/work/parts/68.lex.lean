/-! the reference: reading the text of an act -/
/-- the text under the reader: N bytes T, the place p -/
def Tx (I : mI) (T : Nat → Int) (N p : Nat) : Prop := ld I 91 68 = N ∧ N ≤ 800 ∧ ld I 91 69 = p ∧ p ≤ N ∧ ∀ k : Nat, k < N → ld I 153 k = T k
def blk (T : Nat → Int) (N : Nat) : Nat → Nat → Nat
  | 0, p => p
  | f + 1, p => if p < N ∧ (T p = 32 ∨ T p = 10) then blk T N f (p + 1) else p
def bl (T : Nat → Int) (N p : Nat) : Nat := blk T N (N - p) p
theorem blk_in {T : Nat → Int} {N : Nat} : ∀ f p, p ≤ N → p ≤ blk T N f p ∧ blk T N f p ≤ N
  | 0, p, h => ⟨Nat.le_refl _, h⟩
  | f + 1, p, h => by
    show p ≤ (if p < N ∧ (T p = 32 ∨ T p = 10) then blk T N f (p + 1) else p) ∧ (if p < N ∧ (T p = 32 ∨ T p = 10) then blk T N f (p + 1) else p) ≤ N
    split
    · rename_i q
      have := blk_in (T := T) (N := N) f (p + 1) (by omega)
      omega
    · omega
theorem bl_in {T : Nat → Int} {N p : Nat} (h : p ≤ N) : p ≤ bl T N p ∧ bl T N p ≤ N := blk_in _ _ h
theorem Tx.at {I : mI} {T : Nat → Int} {N p q : Nat} (h : Tx I T N p) (hq : q ≤ N) : Tx (u2 I 91 69 (oI (q : Int))) T N q := by
  obtain ⟨a, b, c, e, f⟩ := h
  refine ⟨?_, b, ?_, hq, fun k hk => ?_⟩
  · rw [(fr1 I 91 69 _).ld rfl]; exact a
  · rw [ld_w ⟨by omega, by omega⟩, if_pos rfl]
  · rw [ld_o (by decide)]; exact f k hk
theorem Tx.fr {ws : List Nat} {os : List (Nat × Nat)} {I I1 : mI} {T : Nat → Int} {N p : Nat} (h : Tx I T N p) (hf : Fr ws os I I1) (h1 : (ws.contains 91 || os.contains (91, 68)) = false) (h2 : (ws.contains 91 || os.contains (91, 69)) = false) (h3 : ∀ k, (ws.contains 153 || os.contains (153, k)) = false) : Tx I1 T N p := by
  obtain ⟨a, b, c, e, f⟩ := h
  exact ⟨(hf.ld h1).trans a, b, (hf.ld h2).trans c, e, fun k hk => (hf.ld (h3 k)).trans (f k hk)⟩
def h302_0 (d L : Nat) (I : Nat → Nat → Int32) (R : Nat → Nat → Option Nat) (S : List (Nat × Nat)) (Q : Option Value → mM → Prop)  : Prop := Wp d (gb 302 0) [.ref 91] [] (bd L I R S) Q
set_option maxRecDepth 4000 in
theorem e302_0 {d L : Nat} {I : Nat → Nat → Int32} {R : Nat → Nat → Option Nat} {S : List (Nat × Nat)} {Q : Option Value → mM → Prop} {A : aS} (hR : RM I A)  (hE : ((ld I 91 69 < ld I 91 68) → (0 ≤ ld I 91 69 ∧ ld I 91 69 < 800) ∧ (((ld I 153 (ld I 91 69).toNat = 32) → h302_0 d L (u2 I 91 69 (oI (ld I 91 69 + 1))) R S Q ) ∧ (¬ (ld I 153 (ld I 91 69).toNat = 32) → ((ld I 153 (ld I 91 69).toNat = 10) → h302_0 d L (u2 I 91 69 (oI (ld I 91 69 + 1))) R S Q ) ∧ (¬ (ld I 153 (ld I 91 69).toNat = 10) → Q none (bd L I R S))))) ∧ (¬ (ld I 91 69 < ld I 91 68) → Q none (bd L I R S))) : h302_0 d L I R S Q  := by
  unfold h302_0
  refine xG gb302.1 ?_
  refine s6 (p := 91) rfl ?_
  refine s50 (v := ld I 91 69) sh91 (by decide) (by decide) (oI_ld _ _ _) ?_
  refine s6 (p := 91) rfl ?_
  refine s50 (v := ld I 91 68) sh91 (by decide) (by decide) (oI_ld _ _ _) ?_
  refine s64 (ld_inR _ _ _) (ld_inR _ _ _) (fun c1 => ?_) (fun c1 => ?_)
  · replace hE := hE.1 c1
    refine s6 (p := 91) rfl ?_
    refine s51 sh91 (by decide) (by decide) rf91_89 ?_
    refine s6 (p := 91) rfl ?_
    refine s50 (v := ld I 91 69) sh91 (by decide) (by decide) (oI_ld _ _ _) ?_
    obtain ⟨g2, hE⟩ := hE
    refine s41 (v := ld I 153 (ld I 91 69).toNat) sh153 g2 rfl (oI_ld _ _ _) ?_
    refine s0 ?_
    refine s61 (ld_inR _ _ _) (inRd rfl) (fun c3 => ?_) (fun c3 => ?_)
    · replace hE := hE.1 c3
      refine xG gb302.2.1 ?_
      refine s6 (p := 91) rfl ?_
      refine s13r ?_
      refine s50 (v := ld I 91 69) sh91 (by decide) (by decide) (oI_ld _ _ _) ?_
      refine s0 ?_
      refine s16 ?_
      refine s52 sh91 (by decide) (by decide) ?_
      refine s60 ?_
      exact hE
    · replace hE := hE.2 c3
      refine s6 (p := 91) rfl ?_
      refine s51 sh91 (by decide) (by decide) rf91_89 ?_
      refine s6 (p := 91) rfl ?_
      refine s50 (v := ld I 91 69) sh91 (by decide) (by decide) (oI_ld _ _ _) ?_
      refine s41 (v := ld I 153 (ld I 91 69).toNat) sh153 g2 rfl (oI_ld _ _ _) ?_
      refine s0 ?_
      refine s62 (ld_inR _ _ _) (inRd rfl) (fun c4 => ?_) (fun c4 => ?_)
      · replace hE := hE.1 c4
        refine s79 ?_
        refine xG gb302.2.1 ?_
        refine s6 (p := 91) rfl ?_
        refine s13r ?_
        refine s50 (v := ld I 91 69) sh91 (by decide) (by decide) (oI_ld _ _ _) ?_
        refine s0 ?_
        refine s16 ?_
        refine s52 sh91 (by decide) (by decide) ?_
        refine s60 ?_
        exact hE
      · replace hE := hE.2 c4
        refine xG gb302.2.2 ?_
        refine s83 ?_
        exact hE
  · replace hE := hE.2 c1
    refine xG gb302.2.2 ?_
    refine s83 ?_
    exact hE
section
variable {d L : Nat} {I I0 : mI} {R : Nat → Nat → Option Nat} {S : List (Nat × Nat)} {Q : Option Value → mM → Prop} {A : aS} {T : Nat → Int} {N p : Nat}
theorem l302 (hK : ∀ I1, Fr [] [(91, 69)] I0 I1 → RM I1 A → Tx I1 T N (bl T N p) → Q none (bd L I1 R S)) : ∀ (f q : Nat) (I : mI), f + q = N → blk T N f q = bl T N p → RM I A → Fr [] [(91, 69)] I0 I → Tx I T N q → h302_0 d L I R S Q := by
  intro f
  induction f with
  | zero =>
    intro q I hf he hR hfr ht
    have ht2 := ht
    obtain ⟨a, b, c, e, t⟩ := ht2
    refine e302_0 hR ?_
    rw [a, c]
    refine ⟨fun h => by exfalso; omega, fun _ => hK I hfr hR ?_⟩
    rw [← he]; exact ht
  | succ f ih =>
    intro q I hf he hR hfr ht
    have ht2 := ht
    obtain ⟨a, b, c, e, t⟩ := ht2
    have e1 : blk T N (f + 1) q = if q < N ∧ (T q = 32 ∨ T q = 10) then blk T N f (q + 1) else q := rfl
    rw [he] at e1
    refine e302_0 hR ?_
    rw [a, c, Int.toNat_natCast, t q (by omega)]
    have go : (T q = 32 ∨ T q = 10) → h302_0 d L (u2 I 91 69 (oI ((q : Int) + 1))) R S Q := by
      intro h
      rw [if_pos ⟨by omega, h⟩] at e1
      have q9 := ih (q + 1) (u2 I 91 69 (oI ((q + 1 : Nat) : Int))) (by omega) e1.symm (hR.scr rfl) (hfr.wr rfl) (ht.at (by omega))
      exact q9
    refine ⟨fun _ => ⟨⟨by omega, by omega⟩, fun h => go (Or.inl h), fun h => ⟨fun h2 => go (Or.inr h2), fun h2 => hK I hfr hR ?_⟩⟩, fun h => by exfalso; omega⟩
    rw [if_neg (by rintro ⟨-, h3 | h3⟩; exact h h3; exact h2 h3)] at e1
    rw [e1]; exact ht
theorem k302 {K : mM → Prop} (hR : RM I A) (ht : Tx I T N p) (hK : ∀ I1, Fr [] [(91, 69)] I I1 → RM I1 A → Tx I1 T N (bl T N p) → K (bd L I1 R S)) : CallV d 302 [.ref 91] (bd L I R S) K := by
  have hp := ht.2.2.2.1
  have q9 := l302 (d := d) (L := L) (R := R) (S := S) (Q := rqV K) (I0 := I) (A := A) (T := T) (N := N) (p := p) (fun I1 h1 h2 h3 => rqV_of (hK I1 h1 h2 h3)) (N - p) p I (by omega) rfl hR (Fr.refl _ _ _) ht
  exact cV_of (ls := [.ref 91]) rfl q9
end
set_option maxRecDepth 4000 in
theorem e306 {d L : Nat} {I : Nat → Nat → Int32} {R : Nat → Nat → Option Nat} {S : List (Nat × Nat)} {K : Int32 → mM → Prop} {A : aS} (hR : RM I A) {x1 : Int} (hE : ∃ (T1 : Nat → Int) (N2 p3 : Nat), Tx I T1 N2 p3 ∧ (∀ (I5 : mI), (Fr [] [(91, 69)] I I5) → (RM I5 A) → (Tx I5 T1 N2 (bl T1 N2 p3)) → ((ld I5 91 69 = ld I5 91 68) → K (oI 0) (bd L I5 R S)) ∧ (¬ (ld I5 91 69 = ld I5 91 68) → (0 ≤ ld I5 91 69 ∧ ld I5 91 69 < 800) ∧ (inR x1 ∧ (((ld I5 153 (ld I5 91 69).toNat = x1) → K (oI 1) (bd L (u2 I5 91 69 (oI (ld I5 91 69 + 1))) R S)) ∧ (¬ (ld I5 153 (ld I5 91 69).toNat = x1) → K (oI 0) (bd L I5 R S))))))) : CallI (d + 1) 306 [.ref 91, .int (oI x1)] (bd L I R S) K := by
  refine cI_of (ls := [.ref 91, .int (oI x1)]) rfl ?_
  refine xG gb306.1 ?_
  refine s6 (p := 91) rfl ?_
  obtain ⟨T1, N2, p3, k4, hE⟩ := hE
  refine sV rc302 rfl (Nat.le_of_ble_eq_true rfl) ?_
  refine k302 hR k4 (fun I5 q6 q7 q8 => ?_)
  replace hE := hE I5 q6 q7 q8
  refine s6 (p := 91) rfl ?_
  refine s50 (v := ld I5 91 69) sh91 (by decide) (by decide) (oI_ld _ _ _) ?_
  refine s6 (p := 91) rfl ?_
  refine s50 (v := ld I5 91 68) sh91 (by decide) (by decide) (oI_ld _ _ _) ?_
  refine s61 (ld_inR _ _ _) (ld_inR _ _ _) (fun c9 => ?_) (fun c9 => ?_)
  · replace hE := hE.1 c9
    refine xG gb306.2.1 ?_
    refine s0 ?_
    refine s84 (by decide) ?_
    exact rqI_of hE
  · replace hE := hE.2 c9
    refine s6 (p := 91) rfl ?_
    refine s51 sh91 (by decide) (by decide) rf91_89 ?_
    refine s6 (p := 91) rfl ?_
    refine s50 (v := ld I5 91 69) sh91 (by decide) (by decide) (oI_ld _ _ _) ?_
    obtain ⟨g10, hE⟩ := hE
    refine s41 (v := ld I5 153 (ld I5 91 69).toNat) sh153 g10 rfl (oI_ld _ _ _) ?_
    refine s4 (x := x1) rfl ?_
    obtain ⟨g11, hE⟩ := hE
    refine s61 (ld_inR _ _ _) g11 (fun c12 => ?_) (fun c12 => ?_)
    · replace hE := hE.1 c12
      refine xG gb306.2.2 ?_
      refine s6 (p := 91) rfl ?_
      refine s13r ?_
      refine s50 (v := ld I5 91 69) sh91 (by decide) (by decide) (oI_ld _ _ _) ?_
      refine s0 ?_
      refine s16 ?_
      refine s52 sh91 (by decide) (by decide) ?_
      refine s0 ?_
      refine s84 (by decide) ?_
      exact rqI_of hE
    · replace hE := hE.2 c12
      refine s79 ?_
      refine xG gb306.2.1 ?_
      refine s0 ?_
      refine s84 (by decide) ?_
      exact rqI_of hE
def h305_1 (d L : Nat) (I : Nat → Nat → Int32) (R : Nat → Nat → Option Nat) (S : List (Nat × Nat)) (Q : Option Value → mM → Prop) (x1 : Int) (x2 : Int) (x3 : Int) : Prop := Wp d (gb 305 1) [.ref 91, .int (oI x1), .int (oI x2), .int (oI x3)] [] (bd L I R S) Q
set_option maxRecDepth 4000 in
theorem e305_1 {d L : Nat} {I : Nat → Nat → Int32} {R : Nat → Nat → Option Nat} {S : List (Nat × Nat)} {Q : Option Value → mM → Prop} {A : aS} (hR : RM I A) {x1 : Int} {x2 : Int} {x3 : Int} (hE : inR x3 ∧ (((x3 < ld I 91 68) → (0 ≤ x3 ∧ x3 < 800) ∧ (((ld I 153 x3.toNat < 48) → ((x3 = ld I 91 69) → Q (some (.int (oI 0))) (bd L I R S)) ∧ (¬ (x3 = ld I 91 69) → inR (x3 - (ld I 91 69)) ∧ (((4 < x3 - (ld I 91 69)) → Q (some (.int (oI 0))) (bd L I R S)) ∧ (¬ (4 < x3 - (ld I 91 69)) → inR x1 ∧ (inR x2 ∧ (((x1 ≤ ld I 91 90 ∧ ld I 91 90 ≤ x2) → Q (some (.int (oI 1))) (bd L (u2 I 91 69 (oI x3)) R S)) ∧ (¬ (x1 ≤ ld I 91 90 ∧ ld I 91 90 ≤ x2) → Q (some (.int (oI 0))) (bd L I R S)))))))) ∧ (¬ (ld I 153 x3.toNat < 48) → ((57 < ld I 153 x3.toNat) → ((x3 = ld I 91 69) → Q (some (.int (oI 0))) (bd L I R S)) ∧ (¬ (x3 = ld I 91 69) → inR (x3 - (ld I 91 69)) ∧ (((4 < x3 - (ld I 91 69)) → Q (some (.int (oI 0))) (bd L I R S)) ∧ (¬ (4 < x3 - (ld I 91 69)) → inR x1 ∧ (inR x2 ∧ (((x1 ≤ ld I 91 90 ∧ ld I 91 90 ≤ x2) → Q (some (.int (oI 1))) (bd L (u2 I 91 69 (oI x3)) R S)) ∧ (¬ (x1 ≤ ld I 91 90 ∧ ld I 91 90 ≤ x2) → Q (some (.int (oI 0))) (bd L I R S)))))))) ∧ (¬ (57 < ld I 153 x3.toNat) → inR (x3 - (ld I 91 69)) ∧ (((x3 - (ld I 91 69) < 4) → h305_1 (d + 1) L (u2 I 91 90 (oI (((10 * (ld I 91 90)) + (ld I 153 x3.toNat)) - 48))) R S Q x1 x2 (x3 + 1)) ∧ (¬ (x3 - (ld I 91 69) < 4) → h305_1 (d + 1) L I R S Q x1 x2 (x3 + 1))))))) ∧ (¬ (x3 < ld I 91 68) → ((x3 = ld I 91 69) → Q (some (.int (oI 0))) (bd L I R S)) ∧ (¬ (x3 = ld I 91 69) → inR (x3 - (ld I 91 69)) ∧ (((4 < x3 - (ld I 91 69)) → Q (some (.int (oI 0))) (bd L I R S)) ∧ (¬ (4 < x3 - (ld I 91 69)) → inR x1 ∧ (inR x2 ∧ (((x1 ≤ ld I 91 90 ∧ ld I 91 90 ≤ x2) → Q (some (.int (oI 1))) (bd L (u2 I 91 69 (oI x3)) R S)) ∧ (¬ (x1 ≤ ld I 91 90 ∧ ld I 91 90 ≤ x2) → Q (some (.int (oI 0))) (bd L I R S)))))))))) : h305_1 (d + 1) L I R S Q x1 x2 x3 := by
  unfold h305_1
  refine xG gb305.2.1 ?_
  refine s4 (x := x3) rfl ?_
  refine s6 (p := 91) rfl ?_
  refine s50 (v := ld I 91 68) sh91 (by decide) (by decide) (oI_ld _ _ _) ?_
  obtain ⟨g1, hE⟩ := hE
  refine s64 g1 (ld_inR _ _ _) (fun c2 => ?_) (fun c2 => ?_)
  · replace hE := hE.1 c2
    refine s6 (p := 91) rfl ?_
    refine s51 sh91 (by decide) (by decide) rf91_89 ?_
    refine s4 (x := x3) rfl ?_
    obtain ⟨g3, hE⟩ := hE
    refine s41 (v := ld I 153 x3.toNat) sh153 g3 rfl (oI_ld _ _ _) ?_
    refine s0 ?_
    refine s63 (ld_inR _ _ _) (inRd rfl) (fun c4 => ?_) (fun c4 => ?_)
    · replace hE := hE.1 c4
      refine xG gb305.2.2.2.1 ?_
      refine s4 (x := x3) rfl ?_
      refine s6 (p := 91) rfl ?_
      refine s50 (v := ld I 91 69) sh91 (by decide) (by decide) (oI_ld _ _ _) ?_
      refine s61 g1 (ld_inR _ _ _) (fun c5 => ?_) (fun c5 => ?_)
      · replace hE := hE.1 c5
        refine xG gb305.2.2.2.2.1 ?_
        refine s0 ?_
        refine s84 (by decide) ?_
        exact hE
      · replace hE := hE.2 c5
        refine s4 (x := x3) rfl ?_
        refine s6 (p := 91) rfl ?_
        refine s50 (v := ld I 91 69) sh91 (by decide) (by decide) (oI_ld _ _ _) ?_
        refine s17 ?_
        refine s0 ?_
        obtain ⟨g6, hE⟩ := hE
        refine s65 g6 (inRd rfl) (fun c7 => ?_) (fun c7 => ?_)
        · replace hE := hE.1 c7
          refine xG gb305.2.2.2.2.1 ?_
          refine s0 ?_
          refine s84 (by decide) ?_
          exact hE
        · replace hE := hE.2 c7
          refine s6 (p := 91) rfl ?_
          refine s50 (v := ld I 91 90) sh91 (by decide) (by decide) (oI_ld _ _ _) ?_
          refine s4 (x := x1) rfl ?_
          refine s4 (x := x2) rfl ?_
          obtain ⟨g8, hE⟩ := hE
          obtain ⟨g9, hE⟩ := hE
          refine sI rc210 rfl (Nat.le_of_ble_eq_true rfl) ?_
          refine k210 (ld_inR _ _ _) g8 g9 (fun c10 => ?_) (fun c10 => ?_)
          · replace hE := hE.1 c10
            refine s68 (inRd rfl) (fun c11 => absurd c11 (by decide)) (fun _ => ?_)
            refine xG gb305.2.2.2.2.2 ?_
            refine s6 (p := 91) rfl ?_
            refine s4 (x := x3) rfl ?_
            refine s52 sh91 (by decide) (by decide) ?_
            refine s0 ?_
            refine s84 (by decide) ?_
            exact hE
          · replace hE := hE.2 c10
            refine s68 (inRd rfl) (fun _ => ?_) (fun c12 => absurd (by decide) c12)
            refine s79 ?_
            refine xG gb305.2.2.2.2.1 ?_
            refine s0 ?_
            refine s84 (by decide) ?_
            exact hE
    · replace hE := hE.2 c4
      refine s6 (p := 91) rfl ?_
      refine s51 sh91 (by decide) (by decide) rf91_89 ?_
      refine s4 (x := x3) rfl ?_
      refine s41 (v := ld I 153 x3.toNat) sh153 g3 rfl (oI_ld _ _ _) ?_
      refine s0 ?_
      refine s65 (ld_inR _ _ _) (inRd rfl) (fun c13 => ?_) (fun c13 => ?_)
      · replace hE := hE.1 c13
        refine xG gb305.2.2.2.1 ?_
        refine s4 (x := x3) rfl ?_
        refine s6 (p := 91) rfl ?_
        refine s50 (v := ld I 91 69) sh91 (by decide) (by decide) (oI_ld _ _ _) ?_
        refine s61 g1 (ld_inR _ _ _) (fun c14 => ?_) (fun c14 => ?_)
        · replace hE := hE.1 c14
          refine xG gb305.2.2.2.2.1 ?_
          refine s0 ?_
          refine s84 (by decide) ?_
          exact hE
        · replace hE := hE.2 c14
          refine s4 (x := x3) rfl ?_
          refine s6 (p := 91) rfl ?_
          refine s50 (v := ld I 91 69) sh91 (by decide) (by decide) (oI_ld _ _ _) ?_
          refine s17 ?_
          refine s0 ?_
          obtain ⟨g15, hE⟩ := hE
          refine s65 g15 (inRd rfl) (fun c16 => ?_) (fun c16 => ?_)
          · replace hE := hE.1 c16
            refine xG gb305.2.2.2.2.1 ?_
            refine s0 ?_
            refine s84 (by decide) ?_
            exact hE
          · replace hE := hE.2 c16
            refine s6 (p := 91) rfl ?_
            refine s50 (v := ld I 91 90) sh91 (by decide) (by decide) (oI_ld _ _ _) ?_
            refine s4 (x := x1) rfl ?_
            refine s4 (x := x2) rfl ?_
            obtain ⟨g17, hE⟩ := hE
            obtain ⟨g18, hE⟩ := hE
            refine sI rc210 rfl (Nat.le_of_ble_eq_true rfl) ?_
            refine k210 (ld_inR _ _ _) g17 g18 (fun c19 => ?_) (fun c19 => ?_)
            · replace hE := hE.1 c19
              refine s68 (inRd rfl) (fun c20 => absurd c20 (by decide)) (fun _ => ?_)
              refine xG gb305.2.2.2.2.2 ?_
              refine s6 (p := 91) rfl ?_
              refine s4 (x := x3) rfl ?_
              refine s52 sh91 (by decide) (by decide) ?_
              refine s0 ?_
              refine s84 (by decide) ?_
              exact hE
            · replace hE := hE.2 c19
              refine s68 (inRd rfl) (fun _ => ?_) (fun c21 => absurd (by decide) c21)
              refine s79 ?_
              refine xG gb305.2.2.2.2.1 ?_
              refine s0 ?_
              refine s84 (by decide) ?_
              exact hE
      · replace hE := hE.2 c13
        refine s4 (x := x3) rfl ?_
        refine s6 (p := 91) rfl ?_
        refine s50 (v := ld I 91 69) sh91 (by decide) (by decide) (oI_ld _ _ _) ?_
        refine s17 ?_
        refine s0 ?_
        obtain ⟨g22, hE⟩ := hE
        refine s64 g22 (inRd rfl) (fun c23 => ?_) (fun c23 => ?_)
        · replace hE := hE.1 c23
          refine s6 (p := 91) rfl ?_
          refine s0 ?_
          refine s6 (p := 91) rfl ?_
          refine s50 (v := ld I 91 90) sh91 (by decide) (by decide) (oI_ld _ _ _) ?_
          refine s18 ?_
          refine s6 (p := 91) rfl ?_
          refine s51 sh91 (by decide) (by decide) rf91_89 ?_
          refine s4 (x := x3) rfl ?_
          refine s41 (v := ld I 153 x3.toNat) sh153 g3 rfl (oI_ld _ _ _) ?_
          refine s16 ?_
          refine s0 ?_
          refine s17 ?_
          refine s52 sh91 (by decide) (by decide) ?_
          refine s79 ?_
          refine xG gb305.2.2.1 ?_
          refine s10 (x := x3) (ls' := [.ref 91, .int (oI x1), .int (oI x2), .int (oI (x3 + 1))]) rfl rfl ?_
          refine s60 ?_
          exact hE
        · replace hE := hE.2 c23
          refine xG gb305.2.2.1 ?_
          refine s10 (x := x3) (ls' := [.ref 91, .int (oI x1), .int (oI x2), .int (oI (x3 + 1))]) rfl rfl ?_
          refine s60 ?_
          exact hE
  · replace hE := hE.2 c2
    refine xG gb305.2.2.2.1 ?_
    refine s4 (x := x3) rfl ?_
    refine s6 (p := 91) rfl ?_
    refine s50 (v := ld I 91 69) sh91 (by decide) (by decide) (oI_ld _ _ _) ?_
    refine s61 g1 (ld_inR _ _ _) (fun c24 => ?_) (fun c24 => ?_)
    · replace hE := hE.1 c24
      refine xG gb305.2.2.2.2.1 ?_
      refine s0 ?_
      refine s84 (by decide) ?_
      exact hE
    · replace hE := hE.2 c24
      refine s4 (x := x3) rfl ?_
      refine s6 (p := 91) rfl ?_
      refine s50 (v := ld I 91 69) sh91 (by decide) (by decide) (oI_ld _ _ _) ?_
      refine s17 ?_
      refine s0 ?_
      obtain ⟨g25, hE⟩ := hE
      refine s65 g25 (inRd rfl) (fun c26 => ?_) (fun c26 => ?_)
      · replace hE := hE.1 c26
        refine xG gb305.2.2.2.2.1 ?_
        refine s0 ?_
        refine s84 (by decide) ?_
        exact hE
      · replace hE := hE.2 c26
        refine s6 (p := 91) rfl ?_
        refine s50 (v := ld I 91 90) sh91 (by decide) (by decide) (oI_ld _ _ _) ?_
        refine s4 (x := x1) rfl ?_
        refine s4 (x := x2) rfl ?_
        obtain ⟨g27, hE⟩ := hE
        obtain ⟨g28, hE⟩ := hE
        refine sI rc210 rfl (Nat.le_of_ble_eq_true rfl) ?_
        refine k210 (ld_inR _ _ _) g27 g28 (fun c29 => ?_) (fun c29 => ?_)
        · replace hE := hE.1 c29
          refine s68 (inRd rfl) (fun c30 => absurd c30 (by decide)) (fun _ => ?_)
          refine xG gb305.2.2.2.2.2 ?_
          refine s6 (p := 91) rfl ?_
          refine s4 (x := x3) rfl ?_
          refine s52 sh91 (by decide) (by decide) ?_
          refine s0 ?_
          refine s84 (by decide) ?_
          exact hE
        · replace hE := hE.2 c29
          refine s68 (inRd rfl) (fun _ => ?_) (fun c31 => absurd (by decide) c31)
          refine s79 ?_
          refine xG gb305.2.2.2.2.1 ?_
          refine s0 ?_
          refine s84 (by decide) ?_
          exact hE
set_option maxRecDepth 4000 in
theorem e305 {d L : Nat} {I : Nat → Nat → Int32} {R : Nat → Nat → Option Nat} {S : List (Nat × Nat)} {K : Int32 → mM → Prop} {A : aS} (hR : RM I A) {x1 : Int} {x2 : Int} (hE : ∃ (T1 : Nat → Int) (N2 p3 : Nat), Tx I T1 N2 p3 ∧ (∀ (I5 : mI), (Fr [] [(91, 69)] I I5) → (RM I5 A) → (Tx I5 T1 N2 (bl T1 N2 p3)) → h305_1 (d + 1) L (u2 I5 91 90 (oI 0)) R S (rqI K) x1 x2 (ld I5 91 69))) : CallI (d + 1) 305 [.ref 91, .int (oI x1), .int (oI x2)] (bd L I R S) K := by
  refine cI_of (ls := [.ref 91, .int (oI x1), .int (oI x2), mUn]) rfl ?_
  refine xG gb305.1 ?_
  refine s6 (p := 91) rfl ?_
  obtain ⟨T1, N2, p3, k4, hE⟩ := hE
  refine sV rc302 rfl (Nat.le_of_ble_eq_true rfl) ?_
  refine k302 hR k4 (fun I5 q6 q7 q8 => ?_)
  replace hE := hE I5 q6 q7 q8
  refine s6 (p := 91) rfl ?_
  refine s50 (v := ld I5 91 69) sh91 (by decide) (by decide) (oI_ld _ _ _) ?_
  refine s7 (ls' := [.ref 91, .int (oI x1), .int (oI x2), .int (oI (ld I5 91 69))]) (Nat.le_of_ble_eq_true rfl) rfl ?_
  refine s6 (p := 91) rfl ?_
  refine s0 ?_
  refine s52 sh91 (by decide) (by decide) ?_
  refine s79 ?_
  exact hE
def dgk (T : Nat → Int) (N : Nat) : Nat → Nat → Nat
  | 0, z => z
  | f + 1, z => if z < N ∧ 48 ≤ T z ∧ T z ≤ 57 then dgk T N f (z + 1) else z
/-- behind the figures -/
def dg (T : Nat → Int) (N q : Nat) : Nat := dgk T N (N - q) q
def nvL (T : Nat → Int) (q : Nat) : Nat → Int
  | 0 => 0
  | k + 1 => 10 * nvL T q k + T (q + k) - 48
def nv (T : Nat → Int) (N q : Nat) : Int := nvL T q (min (dg T N q - q) 4)
abbrev nmOk (T : Nat → Int) (N q : Nat) (lo hi : Int) : Prop := ¬ dg T N q = q ∧ dg T N q - q ≤ 4 ∧ lo ≤ nv T N q ∧ nv T N q ≤ hi
theorem dgk_in {T : Nat → Int} {N : Nat} : ∀ f p, p ≤ N → p ≤ dgk T N f p ∧ dgk T N f p ≤ N
  | 0, p, h => ⟨Nat.le_refl _, h⟩
  | f + 1, p, h => by
    show p ≤ (if p < N ∧ 48 ≤ T p ∧ T p ≤ 57 then dgk T N f (p + 1) else p) ∧ (if p < N ∧ 48 ≤ T p ∧ T p ≤ 57 then dgk T N f (p + 1) else p) ≤ N
    split
    · rename_i q
      have := dgk_in (T := T) (N := N) f (p + 1) (by omega)
      omega
    · omega
theorem nvL_in {T : Nat → Int} {q : Nat} : ∀ k : Nat, (∀ j : Nat, j < k → 48 ≤ T (q + j) ∧ T (q + j) ≤ 57) → 0 ≤ nvL T q k ∧ nvL T q k ≤ 10 ^ k - 1
  | 0, _ => by show (0 : Int) ≤ 0 ∧ (0 : Int) ≤ 10 ^ 0 - 1; decide
  | k + 1, h => by
    have h1 := nvL_in (T := T) (q := q) k (fun j hj => h j (by omega))
    have h2 := h k (by omega)
    have e : nvL T q (k + 1) = 10 * nvL T q k + T (q + k) - 48 := rfl
    rw [e, Int.pow_succ]
    omega
section
variable {d L : Nat} {I I0 : mI} {R : Nat → Nat → Option Nat} {S : List (Nat × Nat)} {Q : Option Value → mM → Prop} {A : aS} {T : Nat → Int} {N p : Nat}
theorem k306 {K : Int32 → mM → Prop} {b : Int} (hR : RM I A) (ht : Tx I T N p) (hb : inR b) (h1 : (bl T N p < N ∧ T (bl T N p) = b) → ∀ I1, Fr [] [(91, 69)] I I1 → RM I1 A → Tx I1 T N (bl T N p + 1) → K (oI 1) (bd L I1 R S)) (h0 : ¬ (bl T N p < N ∧ T (bl T N p) = b) → ∀ I1, Fr [] [(91, 69)] I I1 → RM I1 A → Tx I1 T N (bl T N p) → K (oI 0) (bd L I1 R S)) : CallI (d + 1) 306 [.ref 91, .int (oI b)] (bd L I R S) K := by
  refine e306 (d := d) hR ⟨T, N, p, ht, fun I1 hf hR1 ht1 => ?_⟩
  have ht2 := ht1
  obtain ⟨a, b', c, e, t⟩ := ht2
  rw [a, c]
  refine ⟨fun h => h0 (by rintro ⟨x, -⟩; omega) I1 hf hR1 ht1, fun h => ?_⟩
  rw [Int.toNat_natCast, t _ (by omega)]
  refine ⟨⟨by omega, by omega⟩, hb, fun h2 => h1 ⟨by omega, h2⟩ _ (hf.wr rfl) (hR1.scr rfl) ?_, fun h2 => h0 (by rintro ⟨-, x⟩; exact h2 x) I1 hf hR1 ht1⟩
  exact ht1.at (q := bl T N p + 1) (by omega)
theorem l305 {lo hi : Int} {q : Nat} (hlo : inR lo) (hhi : inR hi) (h1 : nmOk T N q lo hi → ∀ I1, Fr [] [(91, 69), (91, 90)] I0 I1 → RM I1 A → Tx I1 T N (dg T N q) → ld I1 91 90 = nv T N q → Q (some (.int (oI 1))) (bd L I1 R S)) (h0 : ¬ nmOk T N q lo hi → ∀ I1, Fr [] [(91, 69), (91, 90)] I0 I1 → RM I1 A → Tx I1 T N q → Q (some (.int (oI 0))) (bd L I1 R S)) : ∀ (f z : Nat) (I : mI), f + z = N → q ≤ z → dgk T N f z = dg T N q → (∀ j : Nat, j < z - q → 48 ≤ T (q + j) ∧ T (q + j) ≤ 57) → RM I A → Fr [] [(91, 69), (91, 90)] I0 I → Tx I T N q → ld I 91 90 = nvL T q (min (z - q) 4) → h305_1 (d + 1) L I R S Q lo hi z := by
  have fin : ∀ (z : Nat) (I : mI), q ≤ z → z ≤ N → N ≤ 800 → z = dg T N q → RM I A → Fr [] [(91, 69), (91, 90)] I0 I → Tx I T N q → ld I 91 90 = nvL T q (min (z - q) 4) → ((((z : Int) = (q : Int)) → Q (some (.int (oI 0))) (bd L I R S)) ∧ (¬ ((z : Int) = (q : Int)) → inR ((z : Int) - (q : Int)) ∧ (((4 < (z : Int) - (q : Int)) → Q (some (.int (oI 0))) (bd L I R S)) ∧ (¬ (4 < (z : Int) - (q : Int)) → inR lo ∧ (inR hi ∧ (((lo ≤ ld I 91 90 ∧ ld I 91 90 ≤ hi) → Q (some (.int (oI 1))) (bd L (u2 I 91 69 (oI (z : Int))) R S)) ∧ (¬ (lo ≤ ld I 91 90 ∧ ld I 91 90 ≤ hi) → Q (some (.int (oI 0))) (bd L I R S)))))))) := by
    intro z I hq hz hN he hR hf ht hv
    have ev : nvL T q (min (z - q) 4) = nv T N q := by rw [he]; rfl
    rw [ev] at hv
    refine ⟨fun c => h0 (by rintro ⟨x, -⟩; omega) I hf hR ht, fun c => ⟨⟨by omega, by omega⟩, fun c2 => h0 (by rintro ⟨-, x, -⟩; omega) I hf hR ht, fun c2 => ⟨hlo, hhi, fun c3 => ?_, fun c3 => ?_⟩⟩⟩
    · rw [hv] at c3
      refine h1 ⟨by omega, by omega, c3.1, c3.2⟩ _ (hf.wr rfl) (hR.scr rfl) ?_ ?_
      · rw [← he]; exact ht.at hz
      · rw [(fr1 I 91 69 _).ld rfl]; exact hv
    · rw [hv] at c3
      exact h0 (by rintro ⟨-, -, x⟩; exact c3 x) I hf hR ht
  intro f
  induction f with
  | zero =>
    intro z I hf hq he hd hR hfr ht hv
    have ht2 := ht
    obtain ⟨a, b, c, e, t⟩ := ht2
    refine e305_1 hR ?_
    rw [a, c]
    exact ⟨⟨by omega, by omega⟩, fun h => by exfalso; omega, fun _ => fin z I hq (by omega) b he hR hfr ht hv⟩
  | succ f ih =>
    intro z I hf hq he hd hR hfr ht hv
    have ht2 := ht
    obtain ⟨a, b, c, e, t⟩ := ht2
    have e1 : dgk T N (f + 1) z = if z < N ∧ 48 ≤ T z ∧ T z ≤ 57 then dgk T N f (z + 1) else z := rfl
    rw [he] at e1
    refine e305_1 hR ?_
    rw [a, c, Int.toNat_natCast, t z (by omega)]
    refine ⟨⟨by omega, by omega⟩, fun _ => ⟨⟨by omega, by omega⟩, fun g1 => ?_, fun g1 => ⟨fun g2 => ?_, fun g2 => ?_⟩⟩, fun h => by exfalso; omega⟩
    · rw [if_neg (by rintro ⟨-, x, -⟩; omega)] at e1
      exact fin z I hq (by omega) b e1.symm hR hfr ht hv
    · rw [if_neg (by rintro ⟨-, -, x⟩; omega)] at e1
      exact fin z I hq (by omega) b e1.symm hR hfr ht hv
    · rw [if_pos ⟨by omega, by omega, by omega⟩] at e1
      have hd' : ∀ j : Nat, j < z + 1 - q → 48 ≤ T (q + j) ∧ T (q + j) ≤ 57 := by
        intro j hj
        by_cases h : j < z - q
        · exact hd j h
        · rw [show q + j = z by omega]; omega
      refine ⟨⟨by omega, by omega⟩, fun g3 => ?_, fun g3 => ?_⟩
      · have ei : nvL T q (min (z + 1 - q) 4) = 10 * nvL T q (z - q) + T z - 48 := by
          rw [show min (z + 1 - q) 4 = (z - q) + 1 by omega]
          show 10 * nvL T q (z - q) + T (q + (z - q)) - 48 = _
          rw [show q + (z - q) = z by omega]
        rw [show min (z - q) 4 = z - q by omega] at hv
        have ni := nvL_in (T := T) (q := q) (z - q) hd
        have pw : (10 : Int) ^ (z - q) ≤ 10 ^ 3 := by
          have h3 : z - q = 0 ∨ z - q = 1 ∨ z - q = 2 ∨ z - q = 3 := by omega
          rcases h3 with h | h | h | h <;> rw [h] <;> decide
        have p3 : (10 : Int) ^ 3 = 1000 := by decide
        rw [p3] at pw
        rw [hv]
        have vr : inR (10 * nvL T q (z - q) + T z - 48) := ⟨by omega, by omega⟩
        refine ih (z + 1) (u2 I 91 90 (oI (10 * nvL T q (z - q) + T z - 48))) (by omega) (by omega) e1.symm hd' (hR.scr rfl) (hfr.wr rfl) (ht.fr (fr1 I 91 90 _) rfl rfl (fun _ => rfl)) ?_
        rw [ld_w vr, if_pos rfl, ei]
      · refine ih (z + 1) I (by omega) (by omega) e1.symm hd' hR hfr ht ?_
        rw [hv, show min (z - q) 4 = 4 by omega, show min (z + 1 - q) 4 = 4 by omega]
theorem k305 {K : Int32 → mM → Prop} {lo hi : Int} (hR : RM I A) (ht : Tx I T N p) (hlo : inR lo) (hhi : inR hi) (h1 : nmOk T N (bl T N p) lo hi → ∀ I1, Fr [] [(91, 69), (91, 90)] I I1 → RM I1 A → Tx I1 T N (dg T N (bl T N p)) → ld I1 91 90 = nv T N (bl T N p) → K (oI 1) (bd L I1 R S)) (h0 : ¬ nmOk T N (bl T N p) lo hi → ∀ I1, Fr [] [(91, 69), (91, 90)] I I1 → RM I1 A → Tx I1 T N (bl T N p) → K (oI 0) (bd L I1 R S)) : CallI (d + 1) 305 [.ref 91, .int (oI lo), .int (oI hi)] (bd L I R S) K := by
  refine e305 (d := d) hR ⟨T, N, p, ht, fun I1 hf hR1 ht1 => ?_⟩
  have hb := bl_in (T := T) ht.2.2.2.1
  rw [ht1.2.2.1]
  have f1 : Fr [] [(91, 69), (91, 90)] I (u2 I1 91 90 (oI 0)) := (hf.sub rfl rfl).trans ((Fr.refl _ _ _).wr rfl)
  refine l305 (d := d) (I0 := u2 I1 91 90 (oI 0)) (A := A) (T := T) (N := N) (q := bl T N p) hlo hhi (fun h I2 g1 g2 g3 g4 => rqI_of (h1 h I2 (f1.trans g1) g2 g3 g4)) (fun h I2 g1 g2 g3 => rqI_of (h0 h I2 (f1.trans g1) g2 g3)) (N - bl T N p) (bl T N p) _ (by omega) (Nat.le_refl _) rfl (fun j hj => by omega) (hR1.scr rfl) (Fr.refl _ _ _) (ht1.fr (fr1 I1 91 90 _) rfl rfl (fun _ => rfl)) ?_
  rw [ld_w (inRd rfl), if_pos rfl, Nat.sub_self]; rfl
end
