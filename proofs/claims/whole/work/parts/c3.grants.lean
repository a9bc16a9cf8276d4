def R190 (d L : Nat) (I : mI) (R : mR) (S : mSh) (q : Nat) (b : Bool) : Prop := ∀ K : Int32 → mM → Prop, K (oI (bI b)) (bd L I R S) → CallI d 190 [.ref q, .ref 60] (bd L I R S) K
set_option maxRecDepth 4000 in
theorem e190 {d L : Nat} {I : Nat → Nat → Int32} {R : Nat → Nat → Option Nat} {S : List (Nat × Nat)} {K : Int32 → mM → Prop} {A : aS} (hC : RC R S I A) {p0 : Nat} (hE : obJ S p0 15 8 ∧ (((R p0 6 = none) → K (oI 1) (bd L I R S)) ∧ (∀ p2 : Nat, (R p0 6 = some p2) → obJ S p2 16 5 ∧ (∃ (b5 : Bool), R195a60 d L I R S p2 0 b5 ∧ (((bI b5 = 0) → K (oI 0) (bd L I R S)) ∧ (¬ (bI b5 = 0) → K (oI 1) (bd L I R S))))))) : CallI (d + 1) 190 [.ref p0, .ref 60] (bd L I R S) K := by
  refine cI_of (ls := [.ref p0, .ref 60]) rfl ?_
  refine xG gb190.1 ?_
  refine s6 (p := p0) rfl ?_
  obtain ⟨o1, hE⟩ := hE
  refine s51o (o := R p0 6) o1.sh o1.sp (by decide) o1.rf ?_
  refine s73o (fun n3 => ?_) (fun p2 n3 => ?_)
  · replace hE := hE.1 n3
    (try rw [n3])
    show Wp _ _ [.ref p0, .ref 60] [] _ _
    refine xG gb190.2.1 ?_
    refine s0 ?_
    refine s60 ?_
    refine xG gb190.2.2.2 ?_
    refine s84 (by decide) ?_
    exact rqI_of hE
  · replace hE := hE.2 p2 n3
    (try rw [n3])
    show Wp _ _ [.ref p0, .ref 60] [] _ _
    refine s6 (p := p0) rfl ?_
    refine s51o (o := (some p2)) o1.sh o1.sp (by decide) (o1.rf.trans n3) ?_
    refine s6 (p := 60) rfl ?_
    refine s0 ?_
    obtain ⟨o4, hE⟩ := hE
    obtain ⟨b5, r6, hE⟩ := hE
    refine sI rc195 rfl (Nat.le_of_ble_eq_true rfl) ?_
    refine r6 _ ?_
    refine s67 (bI_in _) (fun c7 => ?_) (fun c7 => ?_)
    · replace hE := hE.1 c7
      refine xG gb190.2.2.1 ?_
      refine s0 ?_
      refine s79 ?_
      refine xG gb190.2.2.2 ?_
      refine s84 (by decide) ?_
      exact rqI_of hE
    · replace hE := hE.2 c7
      refine s79 ?_
      refine xG gb190.2.1 ?_
      refine s0 ?_
      refine s60 ?_
      refine xG gb190.2.2.2 ?_
      refine s84 (by decide) ?_
      exact rqI_of hE
set_option maxRecDepth 4000 in
theorem e164 {d L : Nat} {I : Nat → Nat → Int32} {R : Nat → Nat → Option Nat} {S : List (Nat × Nat)} {K : mM → Prop} {A : aS} (hC : RC R S I A) {x1 : Int} {x2 : Int} {x3 : Int} (hE : ((ld I 70 9 < 2461) → (0 ≤ ld I 70 9 ∧ ld I 70 9 < 2461) ∧ (K (bd L (u2 (u2 (u2 (u2 (u2 I 71 (ld I 70 9).toNat (oI x1)) 72 (ld I 70 9).toNat (oI x2)) 73 (ld I 70 9).toNat (oI x3)) 70 9 (oI (ld I 70 9 + 1))) 70 14 (oI (ld I 70 14 + x3))) R S))) ∧ (¬ (ld I 70 9 < 2461) → K (bd L I R S))) : CallV d 164 [.ref 70, .int (oI x1), .int (oI x2), .int (oI x3)] (bd L I R S) K := by
  refine cV_of (ls := [.ref 70, .int (oI x1), .int (oI x2), .int (oI x3)]) rfl ?_
  refine xG gb164.1 ?_
  refine s6 (p := 70) rfl ?_
  refine s50 (v := ld I 70 9) sh70 (by decide) (by decide) (oI_ld _ _ _) ?_
  refine s0 ?_
  refine s64 (ld_inR _ _ _) (inRd rfl) (fun c1 => ?_) (fun c1 => ?_)
  · replace hE := hE.1 c1
    refine s6 (p := 70) rfl ?_
    refine s51 sh70 (by decide) (by decide) rf70_3 ?_
    refine s6 (p := 70) rfl ?_
    refine s50 (v := ld I 70 9) sh70 (by decide) (by decide) (oI_ld _ _ _) ?_
    refine s4 (x := x1) rfl ?_
    obtain ⟨g2, hE⟩ := hE
    refine s44 sh71 (by decide) g2 rfl ?_
    refine s6 (p := 70) rfl ?_
    refine s51 sh70 (by decide) (by decide) rf70_4 ?_
    refine s6 (p := 70) rfl ?_
    refine s50 (v := ld I 70 9) sh70 (by decide) (by decide) ((v2_ne (by decide)).trans (oI_ld _ _ _)) ?_
    refine s4 (x := x2) rfl ?_
    refine s44 sh72 (by decide) g2 rfl ?_
    refine s6 (p := 70) rfl ?_
    refine s51 sh70 (by decide) (by decide) rf70_5 ?_
    refine s6 (p := 70) rfl ?_
    refine s50 (v := ld I 70 9) sh70 (by decide) (by decide) ((v2_ne (by decide)).trans ((v2_ne (by decide)).trans (oI_ld _ _ _))) ?_
    refine s4 (x := x3) rfl ?_
    refine s44 sh73 (by decide) g2 rfl ?_
    refine s6 (p := 70) rfl ?_
    refine s13r ?_
    refine s50 (v := ld I 70 9) sh70 (by decide) (by decide) ((v2_ne (by decide)).trans ((v2_ne (by decide)).trans ((v2_ne (by decide)).trans (oI_ld _ _ _)))) ?_
    refine s0 ?_
    refine s16 ?_
    refine s52 sh70 (by decide) (by decide) ?_
    refine s6 (p := 70) rfl ?_
    refine s13r ?_
    refine s50 (v := ld I 70 14) sh70 (by decide) (by decide) ((v2_nk (by decide)).trans ((v2_ne (by decide)).trans ((v2_ne (by decide)).trans ((v2_ne (by decide)).trans (oI_ld _ _ _))))) ?_
    refine s4 (x := x3) rfl ?_
    refine s16 ?_
    refine s52 sh70 (by decide) (by decide) ?_
    refine s79 ?_
    refine xG gb164.2 ?_
    refine s83 ?_
    exact rqV_of hE
  · replace hE := hE.2 c1
    refine xG gb164.2 ?_
    refine s83 ?_
    exact rqV_of hE
section
variable {d L : Nat} {I I0 : mI} {R : mR} {S : mSh} {Q : Option Value → mM → Prop} {A : aS} {c day known kind half year subj code : Int}
theorem k190 {q s : Nat} {h : Nat → Int} (hE : EnvC 60 I h) (hc : ClO R S I A q s) (h0 : ¬ A 140 s = 0) (hC : RC R S I A) : R190 (d + 24) L I R S q (hdB A h s) := by
  intro K hK
  obtain ⟨o1, -, -, -, hr⟩ := hc
  obtain ⟨-, -, -, h5, h6, -⟩ := hr h0
  refine e190 (d := d + 23) hC ⟨o1, fun q1 => ?_, fun q2 q1 => ?_⟩
  · have e : hdB A h s = true := by
      unfold hdB
      by_cases e : A 143 s = -1
      · rw [e]; rfl
      · obtain ⟨x, hx, -⟩ := h6 e
        rw [hx] at q1; cases q1
    rw [e] at hK; exact hK
  · have hq9 : ¬ A 143 s = -1 := fun e => by rw [h5 e] at q1; cases q1
    obtain ⟨x, hx, hx2⟩ := h6 hq9
    rw [hx] at q1
    cases q1
    have hd : hdB A h s = tvA h 10 (wT A s) := by
      unfold hdB
      rw [show (A 143 s == -1) = false from beq_eq_false_iff_ne.mpr hq9, Bool.false_or]
    rw [hd] at hK
    refine ⟨NJn.ob hx2 (fun _ _ hx => NJn.ob hx (fun q x hx => NOne.ob 10 q x hx)), tvA h 10 (wT A s), any60 (d := d) hE hx2, fun c => ?_, fun c => ?_⟩
    · cases hv : tvA h 10 (wT A s)
      · rw [hv] at hK; exact hK
      · rw [hv] at c; exact absurd c (by decide)
    · cases hv : tvA h 10 (wT A s)
      · rw [hv] at c; exact absurd rfl c
      · rw [hv] at hK; exact hK
def LinesC (I : mI) (l : List Ln) : Prop := ld I 70 9 = l.length ∧ l.length ≤ 2461 ∧ I 70 14 = oI (lnSum l) ∧ ∀ i : Nat, i < l.length → ld I 71 i = (l.getD i (0, 0, 0)).1 ∧ ld I 72 i = (l.getD i (0, 0, 0)).2.1 ∧ ld I 73 i = (l.getD i (0, 0, 0)).2.2
theorem LinesC.fr {l : List Ln} {I1 : mI} {ws : List Nat} {os : List (Nat × Nat)} (h : LinesC I l) (hf : Fr ws os I I1) (h1 : (ws.contains 70 || os.contains (70, 9)) = false) (h2 : (ws.contains 70 || os.contains (70, 14)) = false) (h3 : ∀ k, (ws.contains 71 || os.contains (71, k)) = false) (h4 : ∀ k, (ws.contains 72 || os.contains (72, k)) = false) (h5 : ∀ k, (ws.contains 73 || os.contains (73, k)) = false) : LinesC I1 l :=
  ⟨(hf.ld h1).trans h.1, h.2.1, (hf 70 14 h2).trans h.2.2.1, fun i hi => by rw [hf.ld (h3 i), hf.ld (h4 i), hf.ld (h5 i)]; exact h.2.2.2 i hi⟩
theorem k164 {K : mM → Prop} {x y z : Int} {l : List Ln} (hC : RC R S I A) (hl : LinesC I l) (hlt : l.length < 2461) (hx : inR x) (hy : inR y) (hz : inR z) (hK : ∀ I1, Fr [71, 72, 73] [(70, 9), (70, 14)] I I1 → LinesC I1 (l ++ [(x, y, z)]) → K (bd L I1 R S)) : CallV d 164 [.ref 70, .int (oI x), .int (oI y), .int (oI z)] (bd L I R S) K := by
  obtain ⟨h1, -, h3, h4⟩ := hl
  have r1 : inR ((l.length : Int) + 1) := by unfold inR; omega
  refine e164 hC ?_
  rw [h1, Int.toNat_natCast]
  refine ⟨fun _ => ⟨by omega, ?_⟩, fun q => by exfalso; omega⟩
  refine hK _ ((((((Fr.refl _ _ _).wr rfl).wr rfl).wr rfl).wr rfl).wr rfl) ⟨?_, ?_, ?_, fun i hi => ?_⟩
  · rw [show ld (u2 (u2 (u2 (u2 (u2 I 71 l.length (oI x)) 72 l.length (oI y)) 73 l.length (oI z)) 70 9 (oI ((l.length : Int) + 1))) 70 14 (oI (ld I 70 14 + z))) 70 9 = ld (u2 (u2 (u2 (u2 I 71 l.length (oI x)) 72 l.length (oI y)) 73 l.length (oI z)) 70 9 (oI ((l.length : Int) + 1))) 70 9 by unfold ld; rw [v2_nk (by decide)], ld_w r1, if_pos rfl, List.length_append]; rfl
  · rw [List.length_append]; show l.length + 1 ≤ 2461; omega
  · rw [v2_eq, lnSum_app, ← oI_add, ← oI_ld, h3, oI_add]
  · rw [List.length_append] at hi
    have hi : i < l.length + 1 := hi
    rw [ld_o (a := 70) (b := 71) (by decide), ld_o (a := 70) (b := 71) (by decide), ld_o (a := 73) (b := 71) (by decide), ld_o (a := 72) (b := 71) (by decide), ld_w hx]
    rw [ld_o (a := 70) (b := 72) (by decide), ld_o (a := 70) (b := 72) (by decide), ld_o (a := 73) (b := 72) (by decide), ld_w hy, ld_o (a := 71) (b := 72) (by decide)]
    rw [ld_o (a := 70) (b := 73) (by decide), ld_o (a := 70) (b := 73) (by decide), ld_w hz, ld_o (a := 72) (b := 73) (by decide), ld_o (a := 71) (b := 73) (by decide)]
    rw [List.getD_eq_getElem?_getD, List.getElem?_append]
    by_cases e : i = l.length
    · rw [if_pos e, if_pos e, if_pos e, if_neg (by omega), e, Nat.sub_self]
      exact ⟨rfl, rfl, rfl⟩
    · rw [if_neg e, if_neg e, if_neg e, if_pos (by omega), ← List.getD_eq_getElem?_getD]
      exact h4 i (by omega)
theorem seg_yes {y k n : Nat} (hC : RC R S I A) (hW : WfC A) (hy : y < 8) (hk : k < 15) (hn : n < 60) (hb : isK A y k (n + 1) = true) : ∃ p s : Nat, R 56 (bsY A y + stK A y k + cnt (isK A y k) n) = some p ∧ cdS A y (n + 1 : Nat) = (s : Int) ∧ s < 320 ∧ WfS A s ∧ A 139 s = ((n + 1 : Nat) : Int) ∧ ¬ A 140 s = 0 ∧ ckd (A 140 s) = 130 + (k : Int) ∧ ClO R S I A p s ∧ cnt (isK A y k) (n + 1) = cnt (isK A y k) n + 1 ∧ cnt (isK A y k) n < cnt (isK A y k) 60 := by
  have hlt := cnt_lt (m := 60) (n := n) (by omega) hb
  have e1 : cnt (isK A y k) (n + 1) = cnt (isK A y k) n + 1 := by rw [cnt_succ, if_pos hb]
  have hor := hC.2.1.2.2.1 y k n hy hk hn hb
  unfold isK at hb
  simp only [Bool.and_eq_true, Bool.not_eq_true', beq_eq_false_iff_ne, beq_iff_eq] at hb
  obtain ⟨hb1, hb2⟩ := hb
  obtain ⟨p, hp1, hp2⟩ := (hC.2.1.1 y (n + 1) hy (by omega)).2 hb1
  obtain ⟨s, s1, s2, s3, s4, s5, -⟩ := cdS_wf hW hb1
  have es : (cdS A y (n + 1 : Nat)).toNat = s := by omega
  rw [es] at hp2 hb2
  exact ⟨p, s, hor.trans hp1, s1, s2, s3, s4, s5, hb2, hp2, e1, hlt⟩
theorem seg_no {y k n : Nat} (hb : isK A y k (n + 1) = false) : cnt (isK A y k) (n + 1) = cnt (isK A y k) n := by
  rw [cnt_succ, if_neg (by rw [hb]; decide)]; rfl
theorem seg_not {y k n s : Nat} (hb : isK A y k n = false) (hs : cdS A y n = (s : Int)) : ¬ ckd (A 140 s) = 130 + (k : Int) := by
  intro h
  unfold isK at hb
  rw [hs, Int.toNat_natCast, h, beq_self_eq_true, Bool.and_true, Bool.not_eq_false', beq_iff_eq] at hb
  omega
end
def h163_3 (d L : Nat) (I : Nat → Nat → Int32) (R : Nat → Nat → Option Nat) (S : List (Nat × Nat)) (Q : Option Value → mM → Prop) (x2 : Int) (x3 : Int) (x4 : Int) (w5 : Value) : Prop := Wp d (gb 163 3) [.ref 70, .ref 60, .int (oI x2), .int (oI x3), .int (oI x4), w5] [] (bd L I R S) Q
set_option maxRecDepth 4000 in
theorem e163_3 {d L : Nat} {I : Nat → Nat → Int32} {R : Nat → Nat → Option Nat} {S : List (Nat × Nat)} {Q : Option Value → mM → Prop} {A : aS} (hC : RC R S I A) {x2 : Int} {x3 : Int} {x4 : Int} {w5 : Value} (hE : inR x4 ∧ (inR x3 ∧ (((x4 < x3) → (0 ≤ x4 ∧ x4 < 480) ∧ (((R 56 x4.toNat = none) → h163_3 (d + 1) L I R S Q x2 x3 (x4 + 1) .null) ∧ (∀ p5 : Nat, (R 56 x4.toNat = some p5) → obJ S p5 15 8 ∧ (((ld I p5 3 = 159) → ∃ (b9 : Bool), R190 d L I R S p5 b9 ∧ (((bI b9 = 0) → h163_3 (d + 1) L I R S Q x2 x3 (x4 + 1) (.ref p5)) ∧ (¬ (bI b9 = 0) → inR ((ld I p5 4) * x2) ∧ (∃ l12 : List Ln, LinesC I l12 ∧ l12.length < 2461 ∧ (∀ (I16 : mI), (Fr [71, 72, 73] [(70, 9), (70, 14)] I I16) → (LinesC I16 (l12 ++ [((-1), ld I p5 0, (ld I p5 4) * x2)])) → h163_3 (d + 1) L I16 R S Q x2 x3 (x4 + 1) (.ref p5)))))) ∧ (¬ (ld I p5 3 = 159) → h163_3 (d + 1) L I R S Q x2 x3 (x4 + 1) (.ref p5)))))) ∧ (¬ (x4 < x3) → Q none (bd L I R S))))) : h163_3 (d + 1) L I R S Q x2 x3 x4 w5 := by
  unfold h163_3
  refine xG gb163.2.2.2.1 ?_
  refine s4 (x := x4) rfl ?_
  refine s4 (x := x3) rfl ?_
  obtain ⟨g1, hE⟩ := hE
  obtain ⟨g2, hE⟩ := hE
  refine s64 g1 g2 (fun c3 => ?_) (fun c3 => ?_)
  · replace hE := hE.1 c3
    refine s6 (p := 70) rfl ?_
    refine s51 sh70 (by decide) (by decide) rf70_1 ?_
    refine s51 sh43 (by decide) (by decide) rf43_11 ?_
    refine s4 (x := x4) rfl ?_
    obtain ⟨g4, hE⟩ := hE
    refine s43 (o := R 56 x4.toNat) sh56 g4 rfl (rfN rfl) ?_
    refine s9o (ls' := [.ref 70, .ref 60, .int (oI x2), .int (oI x3), .int (oI x4), vR (R 56 x4.toNat)]) (Nat.le_of_ble_eq_true rfl) rfl ?_
    refine s6o (o := R 56 x4.toNat) rfl ?_
    refine s73o (fun n6 => ?_) (fun p5 n6 => ?_)
    · replace hE := hE.1 n6
      (try rw [n6])
      show Wp _ _ [.ref 70, .ref 60, .int (oI x2), .int (oI x3), .int (oI x4), .null] [] _ _
      refine xG gb163.2.2.2.2.1 ?_
      refine s10 (x := x4) (ls' := [.ref 70, .ref 60, .int (oI x2), .int (oI x3), .int (oI (x4 + 1)), .null]) rfl rfl ?_
      refine s60 ?_
      exact hE
    · replace hE := hE.2 p5 n6
      (try rw [n6])
      show Wp _ _ [.ref 70, .ref 60, .int (oI x2), .int (oI x3), .int (oI x4), .ref p5] [] _ _
      refine s6 (p := p5) rfl ?_
      obtain ⟨o7, hE⟩ := hE
      refine s50 (v := ld I p5 3) o7.sh o7.sp (by decide) (oI_ld _ _ _) ?_
      refine s0 ?_
      refine s62 (ld_inR _ _ _) (inRd rfl) (fun c8 => ?_) (fun c8 => ?_)
      · replace hE := hE.1 c8
        refine s6 (p := p5) rfl ?_
        refine s6 (p := 60) rfl ?_
        obtain ⟨b9, r10, hE⟩ := hE
        refine sI (rcvO o7 rfl rfl) rfl (Nat.le_of_ble_eq_true rfl) ?_
        refine r10 _ ?_
        refine s67 (bI_in _) (fun c11 => ?_) (fun c11 => ?_)
        · replace hE := hE.1 c11
          refine xG gb163.2.2.2.2.1 ?_
          refine s10 (x := x4) (ls' := [.ref 70, .ref 60, .int (oI x2), .int (oI x3), .int (oI (x4 + 1)), .ref p5]) rfl rfl ?_
          refine s60 ?_
          exact hE
        · replace hE := hE.2 c11
          refine s6 (p := 70) rfl ?_
          refine s0 ?_
          refine s6 (p := p5) rfl ?_
          refine s50 (v := ld I p5 0) o7.sh o7.sp (by decide) (oI_ld _ _ _) ?_
          refine s6 (p := p5) rfl ?_
          refine s50 (v := ld I p5 4) o7.sh o7.sp (by decide) (oI_ld _ _ _) ?_
          refine s4 (x := x2) rfl ?_
          refine s18 ?_
          obtain ⟨g13, hE⟩ := hE
          obtain ⟨l12, k14, k15, hE⟩ := hE
          refine sV rc164 rfl (Nat.le_of_ble_eq_true rfl) ?_
          refine k164 hC k14 k15 (inRd rfl) (ld_inR _ _ _) g13 (fun I16 q17 q18 => ?_)
          replace hE := hE I16 q17 q18
          refine s79 ?_
          refine xG gb163.2.2.2.2.1 ?_
          refine s10 (x := x4) (ls' := [.ref 70, .ref 60, .int (oI x2), .int (oI x3), .int (oI (x4 + 1)), .ref p5]) rfl rfl ?_
          refine s60 ?_
          exact hE
      · replace hE := hE.2 c8
        refine xG gb163.2.2.2.2.1 ?_
        refine s10 (x := x4) (ls' := [.ref 70, .ref 60, .int (oI x2), .int (oI x3), .int (oI (x4 + 1)), .ref p5]) rfl rfl ?_
        refine s60 ?_
        exact hE
  · replace hE := hE.2 c3
    refine xG gb163.2.2.2.2.2 ?_
    refine s83 ?_
    exact hE
set_option maxRecDepth 4000 in
theorem e163 {d L : Nat} {I : Nat → Nat → Int32} {R : Nat → Nat → Option Nat} {S : List (Nat × Nat)} {K : mM → Prop} {A : aS} (hC : RC R S I A)  (hE : ∀ (I1 : mI), (Fr [60] [] I I1) → (∀ j : Nat, j < 12 → ld I1 60 j = 0) → ((ld I1 70 13 = (-1)) → (0 ≤ ((((ld I1 70 17) * 16) + 135) - 130) + 1 ∧ ((((ld I1 70 17) * 16) + 135) - 130) + 1 < 128) ∧ ((0 ≤ (((ld I1 70 17) * 16) + 135) - 130 ∧ (((ld I1 70 17) * 16) + 135) - 130 < 128) ∧ (h163_3 (d + 1) L (u2 I1 60 4 (oI (ld I1 70 16))) R S (rqV K) (ld I1 70 10) (ld I1 57 (((((ld I1 70 17) * 16) + 135) - 130) + 1).toNat) (ld I1 57 ((((ld I1 70 17) * 16) + 135) - 130).toNat) mUn))) ∧ (¬ (ld I1 70 13 = (-1)) → (0 ≤ ((((ld I1 70 17) * 16) + 135) - 130) + 1 ∧ ((((ld I1 70 17) * 16) + 135) - 130) + 1 < 128) ∧ ((0 ≤ (((ld I1 70 17) * 16) + 135) - 130 ∧ (((ld I1 70 17) * 16) + 135) - 130 < 128) ∧ (h163_3 (d + 1) L (u2 I1 60 4 (oI (ld I1 70 16))) R S (rqV K) (min (ld I1 70 10) (ld I1 70 13)) (ld I1 57 (((((ld I1 70 17) * 16) + 135) - 130) + 1).toNat) (ld I1 57 ((((ld I1 70 17) * 16) + 135) - 130).toNat) mUn)))) : CallV (d + 1) 163 [.ref 70] (bd L I R S) K := by
  refine cV_of (ls := [.ref 70, mUn, mUn, mUn, mUn, mUn]) rfl ?_
  refine xG gb163.1 ?_
  refine s6 (p := 70) rfl ?_
  refine s51 sh70 (by decide) (by decide) rf70_2 ?_
  refine s51 sh59 (by decide) (by decide) rf59_0 ?_
  refine s9 (ls' := [.ref 70, .ref 60, mUn, mUn, mUn, mUn]) (Nat.le_of_ble_eq_true rfl) rfl ?_
  refine s6 (p := 60) rfl ?_
  refine s0 ?_
  refine sV rc350 rfl (Nat.le_of_ble_eq_true rfl) ?_
  refine k350a60 hC (inRd rfl) (fun I1 q2 q3 => ?_)
  replace hE := hE I1 q2 q3
  refine s6 (p := 60) rfl ?_
  refine s0 ?_
  refine s6 (p := 70) rfl ?_
  refine s50 (v := ld I1 70 16) sh70 (by decide) (by decide) (oI_ld _ _ _) ?_
  refine s44 sh60 (by decide) (⟨by decide, by decide⟩ : (0 : Int) ≤ 4 ∧ (4 : Int) < 12) rfl ?_
  refine s6 (p := 70) rfl ?_
  refine s50 (v := ld I1 70 13) sh70 (by decide) (by decide) ((v2_ne (by decide)).trans (oI_ld _ _ _)) ?_
  refine s0 ?_
  refine s62 (ld_inR _ _ _) (inRd rfl) (fun c4 => ?_) (fun c4 => ?_)
  · replace hE := hE.1 c4
    refine s6 (p := 70) rfl ?_
    refine s50 (v := ld I1 70 10) sh70 (by decide) (by decide) ((v2_ne (by decide)).trans (oI_ld _ _ _)) ?_
    refine s60 ?_
    refine xG gb163.2.2.1 ?_
    refine s7 (ls' := [.ref 70, .ref 60, .int (oI (ld I1 70 10)), mUn, mUn, mUn]) (Nat.le_of_ble_eq_true rfl) rfl ?_
    refine s6 (p := 70) rfl ?_
    refine s51 sh70 (by decide) (by decide) rf70_1 ?_
    refine s6 (p := 70) rfl ?_
    refine s50 (v := ld I1 70 17) sh70 (by decide) (by decide) ((v2_ne (by decide)).trans (oI_ld _ _ _)) ?_
    refine s0 ?_
    refine sI rc98 rfl (Nat.le_of_ble_eq_true rfl) ?_
    refine cI_of (ls := [.ref 43, .int (oI (ld I1 70 17)), .int (oI 135)]) rfl ?_
    refine xG gb98 ?_
    refine s6 (p := 43) rfl ?_
    refine s51 sh43 (by decide) (by decide) rf43_12 ?_
    refine s4 (x := ld I1 70 17) rfl ?_
    refine s0 ?_
    refine s18 ?_
    refine s4 (x := 135) rfl ?_
    refine s16 ?_
    refine s0 ?_
    refine s17 ?_
    refine s0 ?_
    refine s16 ?_
    obtain ⟨g5, hE⟩ := hE
    refine s40 (v := ld I1 57 (((((ld I1 70 17) * 16) + 135) - 130) + 1).toNat) sh57 g5 rfl ((v2_ne (by decide)).trans (oI_ld _ _ _)) ?_
    refine s80 ?_
    refine rqI_of ?_
    refine s7 (ls' := [.ref 70, .ref 60, .int (oI (ld I1 70 10)), .int (oI (ld I1 57 (((((ld I1 70 17) * 16) + 135) - 130) + 1).toNat)), mUn, mUn]) (Nat.le_of_ble_eq_true rfl) rfl ?_
    refine s6 (p := 70) rfl ?_
    refine s51 sh70 (by decide) (by decide) rf70_1 ?_
    refine s6 (p := 70) rfl ?_
    refine s50 (v := ld I1 70 17) sh70 (by decide) (by decide) ((v2_ne (by decide)).trans (oI_ld _ _ _)) ?_
    refine s0 ?_
    refine sI rc99 rfl (Nat.le_of_ble_eq_true rfl) ?_
    refine cI_of (ls := [.ref 43, .int (oI (ld I1 70 17)), .int (oI 135)]) rfl ?_
    refine xG gb99 ?_
    refine s6 (p := 43) rfl ?_
    refine s51 sh43 (by decide) (by decide) rf43_12 ?_
    refine s4 (x := ld I1 70 17) rfl ?_
    refine s0 ?_
    refine s18 ?_
    refine s4 (x := 135) rfl ?_
    refine s16 ?_
    refine s0 ?_
    refine s17 ?_
    obtain ⟨g6, hE⟩ := hE
    refine s40 (v := ld I1 57 ((((ld I1 70 17) * 16) + 135) - 130).toNat) sh57 g6 rfl ((v2_ne (by decide)).trans (oI_ld _ _ _)) ?_
    refine s80 ?_
    refine rqI_of ?_
    refine s7 (ls' := [.ref 70, .ref 60, .int (oI (ld I1 70 10)), .int (oI (ld I1 57 (((((ld I1 70 17) * 16) + 135) - 130) + 1).toNat)), .int (oI (ld I1 57 ((((ld I1 70 17) * 16) + 135) - 130).toNat)), mUn]) (Nat.le_of_ble_eq_true rfl) rfl ?_
    refine s79 ?_
    exact hE
  · replace hE := hE.2 c4
    refine xG gb163.2.1 ?_
    refine s6 (p := 70) rfl ?_
    refine s50 (v := ld I1 70 10) sh70 (by decide) (by decide) ((v2_ne (by decide)).trans (oI_ld _ _ _)) ?_
    refine s6 (p := 70) rfl ?_
    refine s50 (v := ld I1 70 13) sh70 (by decide) (by decide) ((v2_ne (by decide)).trans (oI_ld _ _ _)) ?_
    refine sI rc345 rfl (Nat.le_of_ble_eq_true rfl) ?_
    refine k345 (ld_inR _ _ _) (ld_inR _ _ _) ?_
    refine s79 ?_
    refine xG gb163.2.2.1 ?_
    refine s7 (ls' := [.ref 70, .ref 60, .int (oI (min (ld I1 70 10) (ld I1 70 13))), mUn, mUn, mUn]) (Nat.le_of_ble_eq_true rfl) rfl ?_
    refine s6 (p := 70) rfl ?_
    refine s51 sh70 (by decide) (by decide) rf70_1 ?_
    refine s6 (p := 70) rfl ?_
    refine s50 (v := ld I1 70 17) sh70 (by decide) (by decide) ((v2_ne (by decide)).trans (oI_ld _ _ _)) ?_
    refine s0 ?_
    refine sI rc98 rfl (Nat.le_of_ble_eq_true rfl) ?_
    refine cI_of (ls := [.ref 43, .int (oI (ld I1 70 17)), .int (oI 135)]) rfl ?_
    refine xG gb98 ?_
    refine s6 (p := 43) rfl ?_
    refine s51 sh43 (by decide) (by decide) rf43_12 ?_
    refine s4 (x := ld I1 70 17) rfl ?_
    refine s0 ?_
    refine s18 ?_
    refine s4 (x := 135) rfl ?_
    refine s16 ?_
    refine s0 ?_
    refine s17 ?_
    refine s0 ?_
    refine s16 ?_
    obtain ⟨g7, hE⟩ := hE
    refine s40 (v := ld I1 57 (((((ld I1 70 17) * 16) + 135) - 130) + 1).toNat) sh57 g7 rfl ((v2_ne (by decide)).trans (oI_ld _ _ _)) ?_
    refine s80 ?_
    refine rqI_of ?_
    refine s7 (ls' := [.ref 70, .ref 60, .int (oI (min (ld I1 70 10) (ld I1 70 13))), .int (oI (ld I1 57 (((((ld I1 70 17) * 16) + 135) - 130) + 1).toNat)), mUn, mUn]) (Nat.le_of_ble_eq_true rfl) rfl ?_
    refine s6 (p := 70) rfl ?_
    refine s51 sh70 (by decide) (by decide) rf70_1 ?_
    refine s6 (p := 70) rfl ?_
    refine s50 (v := ld I1 70 17) sh70 (by decide) (by decide) ((v2_ne (by decide)).trans (oI_ld _ _ _)) ?_
    refine s0 ?_
    refine sI rc99 rfl (Nat.le_of_ble_eq_true rfl) ?_
    refine cI_of (ls := [.ref 43, .int (oI (ld I1 70 17)), .int (oI 135)]) rfl ?_
    refine xG gb99 ?_
    refine s6 (p := 43) rfl ?_
    refine s51 sh43 (by decide) (by decide) rf43_12 ?_
    refine s4 (x := ld I1 70 17) rfl ?_
    refine s0 ?_
    refine s18 ?_
    refine s4 (x := 135) rfl ?_
    refine s16 ?_
    refine s0 ?_
    refine s17 ?_
    obtain ⟨g8, hE⟩ := hE
    refine s40 (v := ld I1 57 ((((ld I1 70 17) * 16) + 135) - 130).toNat) sh57 g8 rfl ((v2_ne (by decide)).trans (oI_ld _ _ _)) ?_
    refine s80 ?_
    refine rqI_of ?_
    refine s7 (ls' := [.ref 70, .ref 60, .int (oI (min (ld I1 70 10) (ld I1 70 13))), .int (oI (ld I1 57 (((((ld I1 70 17) * 16) + 135) - 130) + 1).toNat)), .int (oI (ld I1 57 ((((ld I1 70 17) * 16) + 135) - 130).toNat)), mUn]) (Nat.le_of_ble_eq_true rfl) rfl ?_
    refine s79 ?_
    exact hE
def h165_2 (d L : Nat) (I : Nat → Nat → Int32) (R : Nat → Nat → Option Nat) (S : List (Nat × Nat)) (Q : Option Value → mM → Prop) (x1 : Int) (x2 : Int) (x4 : Int) (x5 : Int) (w6 : Value) : Prop := Wp d (gb 165 2) [.ref 70, .int (oI x1), .int (oI x2), .ref 60, .int (oI x4), .int (oI x5), w6] [] (bd L I R S) Q
set_option maxRecDepth 4000 in
theorem e165_2 {d L : Nat} {I : Nat → Nat → Int32} {R : Nat → Nat → Option Nat} {S : List (Nat × Nat)} {Q : Option Value → mM → Prop} {A : aS} (hC : RC R S I A) {x1 : Int} {x2 : Int} {x4 : Int} {x5 : Int} {w6 : Value} (hE : inR x5 ∧ (inR x4 ∧ (((x5 < x4) → (0 ≤ x5 ∧ x5 < 480) ∧ (((R 56 x5.toNat = none) → h165_2 (d + 1) L I R S Q x1 x2 x4 (x5 + 1) .null) ∧ (∀ p5 : Nat, (R 56 x5.toNat = some p5) → obJ S p5 15 8 ∧ (((ld I p5 3 = 159) → h165_2 (d + 1) L I R S Q x1 x2 x4 (x5 + 1) (.ref p5)) ∧ (¬ (ld I p5 3 = 159) → ((ld I p5 3 = 133) → ((ld I p5 2 < 0) → h165_2 (d + 1) L I R S Q x1 x2 x4 (x5 + 1) (.ref p5)) ∧ (¬ (ld I p5 2 < 0) → ((ld I p5 2 < 31) → ((iAnd (iShr x2 (ld I p5 2)) 1 = 0) → h165_2 (d + 1) L I R S Q x1 x2 x4 (x5 + 1) (.ref p5)) ∧ (¬ (iAnd (iShr x2 (ld I p5 2)) 1 = 0) → (0 ≤ ld I p5 2 ∧ ld I p5 2 < 6) ∧ (∃ (b18 : Bool), R190 d L (u2 (u2 I 60 9 (oI (ld I p5 2))) 60 10 (oI (ld I 61 (ld I p5 2).toNat))) R S p5 b18 ∧ (((bI b18 = 0) → h165_2 (d + 1) L (u2 (u2 (u2 (u2 I 60 9 (oI (ld I p5 2))) 60 10 (oI (ld I 61 (ld I p5 2).toNat))) 60 9 (oI 0)) 60 10 (oI 0)) R S Q x1 x2 x4 (x5 + 1) (.ref p5)) ∧ (¬ (bI b18 = 0) → inR x1 ∧ (∃ l21 : List Ln, LinesC (u2 (u2 I 60 9 (oI (ld I p5 2))) 60 10 (oI (ld I 61 (ld I p5 2).toNat))) l21 ∧ l21.length < 2461 ∧ (∀ (I25 : mI), (Fr [71, 72, 73] [(70, 9), (70, 14)] (u2 (u2 I 60 9 (oI (ld I p5 2))) 60 10 (oI (ld I 61 (ld I p5 2).toNat))) I25) → (LinesC I25 (l21 ++ [(x1, ld I p5 0, ld I p5 4)])) → h165_2 (d + 1) L (u2 (u2 I25 60 9 (oI 0)) 60 10 (oI 0)) R S Q x1 x2 x4 (x5 + 1) (.ref p5)))))))) ∧ (¬ (ld I p5 2 < 31) → h165_2 (d + 1) L I R S Q x1 x2 x4 (x5 + 1) (.ref p5)))) ∧ (¬ (ld I p5 3 = 133) → ∃ (b30 : Bool), R190 d L I R S p5 b30 ∧ (((bI b30 = 0) → h165_2 (d + 1) L (u2 (u2 I 60 9 (oI 0)) 60 10 (oI 0)) R S Q x1 x2 x4 (x5 + 1) (.ref p5)) ∧ (¬ (bI b30 = 0) → inR x1 ∧ (∃ l33 : List Ln, LinesC I l33 ∧ l33.length < 2461 ∧ (∀ (I37 : mI), (Fr [71, 72, 73] [(70, 9), (70, 14)] I I37) → (LinesC I37 (l33 ++ [(x1, ld I p5 0, ld I p5 4)])) → h165_2 (d + 1) L (u2 (u2 I37 60 9 (oI 0)) 60 10 (oI 0)) R S Q x1 x2 x4 (x5 + 1) (.ref p5))))))))))) ∧ (¬ (x5 < x4) → Q none (bd L I R S))))) : h165_2 (d + 1) L I R S Q x1 x2 x4 x5 w6 := by
  unfold h165_2
  refine xG gb165.2.2.1 ?_
  refine s4 (x := x5) rfl ?_
  refine s4 (x := x4) rfl ?_
  obtain ⟨g1, hE⟩ := hE
  obtain ⟨g2, hE⟩ := hE
  refine s64 g1 g2 (fun c3 => ?_) (fun c3 => ?_)
  · replace hE := hE.1 c3
    refine s6 (p := 70) rfl ?_
    refine s51 sh70 (by decide) (by decide) rf70_1 ?_
    refine s51 sh43 (by decide) (by decide) rf43_11 ?_
    refine s4 (x := x5) rfl ?_
    obtain ⟨g4, hE⟩ := hE
    refine s43 (o := R 56 x5.toNat) sh56 g4 rfl (rfN rfl) ?_
    refine s9o (ls' := [.ref 70, .int (oI x1), .int (oI x2), .ref 60, .int (oI x4), .int (oI x5), vR (R 56 x5.toNat)]) (Nat.le_of_ble_eq_true rfl) rfl ?_
    refine s6o (o := R 56 x5.toNat) rfl ?_
    refine s73o (fun n6 => ?_) (fun p5 n6 => ?_)
    · replace hE := hE.1 n6
      (try rw [n6])
      show Wp _ _ [.ref 70, .int (oI x1), .int (oI x2), .ref 60, .int (oI x4), .int (oI x5), .null] [] _ _
      refine xG gb165.2.2.2.2.2.2.1 ?_
      refine s10 (x := x5) (ls' := [.ref 70, .int (oI x1), .int (oI x2), .ref 60, .int (oI x4), .int (oI (x5 + 1)), .null]) rfl rfl ?_
      refine s60 ?_
      exact hE
    · replace hE := hE.2 p5 n6
      (try rw [n6])
      show Wp _ _ [.ref 70, .int (oI x1), .int (oI x2), .ref 60, .int (oI x4), .int (oI x5), .ref p5] [] _ _
      refine s6 (p := p5) rfl ?_
      obtain ⟨o7, hE⟩ := hE
      refine s50 (v := ld I p5 3) o7.sh o7.sp (by decide) (oI_ld _ _ _) ?_
      refine s0 ?_
      refine s61 (ld_inR _ _ _) (inRd rfl) (fun c8 => ?_) (fun c8 => ?_)
      · replace hE := hE.1 c8
        refine xG gb165.2.2.2.2.2.2.1 ?_
        refine s10 (x := x5) (ls' := [.ref 70, .int (oI x1), .int (oI x2), .ref 60, .int (oI x4), .int (oI (x5 + 1)), .ref p5]) rfl rfl ?_
        refine s60 ?_
        exact hE
      · replace hE := hE.2 c8
        refine s6 (p := p5) rfl ?_
        refine s50 (v := ld I p5 3) o7.sh o7.sp (by decide) (oI_ld _ _ _) ?_
        refine s0 ?_
        refine s62 (ld_inR _ _ _) (inRd rfl) (fun c9 => ?_) (fun c9 => ?_)
        · replace hE := hE.1 c9
          refine s6 (p := p5) rfl ?_
          refine s4 (x := x2) rfl ?_
          refine sI (rcvO o7 rfl rfl) rfl (Nat.le_of_ble_eq_true rfl) ?_
          refine cI_of (ls := [.ref p5, .int (oI x2)]) rfl ?_
          refine xG gb189.1 ?_
          refine s6 (p := p5) rfl ?_
          refine s50 (v := ld I p5 2) o7.sh o7.sp (by decide) (oI_ld _ _ _) ?_
          refine s69 (ld_inR _ _ _) (fun c10 => ?_) (fun c10 => ?_)
          · replace hE := hE.1 c10
            refine xG gb189.2.1 ?_
            refine s0 ?_
            refine s79 ?_
            refine xG gb189.2.2 ?_
            refine s84 (by decide) ?_
            refine rqI_of ?_
            refine s68 (inRd rfl) (fun _ => ?_) (fun c11 => absurd (by decide) c11)
            refine s60 ?_
            refine xG gb165.2.2.2.2.2.2.1 ?_
            refine s10 (x := x5) (ls' := [.ref 70, .int (oI x1), .int (oI x2), .ref 60, .int (oI x4), .int (oI (x5 + 1)), .ref p5]) rfl rfl ?_
            refine s60 ?_
            exact hE
          · replace hE := hE.2 c10
            refine s6 (p := p5) rfl ?_
            refine s50 (v := ld I p5 2) o7.sh o7.sp (by decide) (oI_ld _ _ _) ?_
            refine s0 ?_
            refine s64 (ld_inR _ _ _) (inRd rfl) (fun c12 => ?_) (fun c12 => ?_)
            · replace hE := hE.1 c12
              refine s4 (x := x2) rfl ?_
              refine s6 (p := p5) rfl ?_
              refine s50 (v := ld I p5 2) o7.sh o7.sp (by decide) (oI_ld _ _ _) ?_
              refine s23 ?_
              refine s0 ?_
              refine s25 ?_
              refine s67 (inR_toInt _) (fun c13 => ?_) (fun c13 => ?_)
              · replace hE := hE.1 c13
                refine xG gb189.2.1 ?_
                refine s0 ?_
                refine s79 ?_
                refine xG gb189.2.2 ?_
                refine s84 (by decide) ?_
                refine rqI_of ?_
                refine s68 (inRd rfl) (fun _ => ?_) (fun c14 => absurd (by decide) c14)
                refine s60 ?_
                refine xG gb165.2.2.2.2.2.2.1 ?_
                refine s10 (x := x5) (ls' := [.ref 70, .int (oI x1), .int (oI x2), .ref 60, .int (oI x4), .int (oI (x5 + 1)), .ref p5]) rfl rfl ?_
                refine s60 ?_
                exact hE
              · replace hE := hE.2 c13
                refine s0 ?_
                refine s60 ?_
                refine xG gb189.2.2 ?_
                refine s84 (by decide) ?_
                refine rqI_of ?_
                refine s68 (inRd rfl) (fun c15 => absurd c15 (by decide)) (fun _ => ?_)
                refine xG gb165.2.2.2.1 ?_
                refine s6 (p := p5) rfl ?_
                refine s50 (v := ld I p5 3) o7.sh o7.sp (by decide) (oI_ld _ _ _) ?_
                refine s0 ?_
                refine s62 (ld_inR _ _ _) (inRd rfl) (fun _ => ?_) (fun c16 => absurd c9 c16)
                refine s6 (p := 70) rfl ?_
                refine s51 sh70 (by decide) (by decide) rf70_2 ?_
                refine s6 (p := p5) rfl ?_
                refine s50 (v := ld I p5 2) o7.sh o7.sp (by decide) (oI_ld _ _ _) ?_
                refine s6 (p := 70) rfl ?_
                refine s51 sh70 (by decide) (by decide) rf70_2 ?_
                refine s51 sh59 (by decide) (by decide) rf59_1 ?_
                refine s6 (p := p5) rfl ?_
                refine s50 (v := ld I p5 2) o7.sh o7.sp (by decide) (oI_ld _ _ _) ?_
                obtain ⟨g17, hE⟩ := hE
                refine s40 (v := ld I 61 (ld I p5 2).toNat) sh61 g17 rfl (oI_ld _ _ _) ?_
                refine sV rc147 rfl (Nat.le_of_ble_eq_true rfl) ?_
                refine cV_of (ls := [.ref 59, .int (oI (ld I p5 2)), .int (oI (ld I 61 (ld I p5 2).toNat))]) rfl ?_
                refine xG gb147 ?_
                refine s6 (p := 59) rfl ?_
                refine s51 sh59 (by decide) (by decide) rf59_0 ?_
                refine s0 ?_
                refine s4 (x := ld I p5 2) rfl ?_
                refine s44 sh60 (by decide) (⟨by decide, by decide⟩ : (0 : Int) ≤ 9 ∧ (9 : Int) < 12) rfl ?_
                refine s6 (p := 59) rfl ?_
                refine s51 sh59 (by decide) (by decide) rf59_0 ?_
                refine s0 ?_
                refine s4 (x := ld I 61 (ld I p5 2).toNat) rfl ?_
                refine s44 sh60 (by decide) (⟨by decide, by decide⟩ : (0 : Int) ≤ 10 ∧ (10 : Int) < 12) rfl ?_
                refine s83 ?_
                refine rqV_of ?_
                refine s79 ?_
                refine xG gb165.2.2.2.2.1 ?_
                refine s6 (p := p5) rfl ?_
                refine s6 (p := 60) rfl ?_
                obtain ⟨b18, r19, hE⟩ := hE
                refine sI (rcvO o7 rfl rfl) rfl (Nat.le_of_ble_eq_true rfl) ?_
                refine r19 _ ?_
                refine s67 (bI_in _) (fun c20 => ?_) (fun c20 => ?_)
                · replace hE := hE.1 c20
                  refine xG gb165.2.2.2.2.2.1 ?_
                  refine s6 (p := 70) rfl ?_
                  refine s51 sh70 (by decide) (by decide) rf70_2 ?_
                  refine s0 ?_
                  refine s0 ?_
                  refine sV rc147 rfl (Nat.le_of_ble_eq_true rfl) ?_
                  refine cV_of (ls := [.ref 59, .int (oI 0), .int (oI 0)]) rfl ?_
                  refine xG gb147 ?_
                  refine s6 (p := 59) rfl ?_
                  refine s51 sh59 (by decide) (by decide) rf59_0 ?_
                  refine s0 ?_
                  refine s4 (x := 0) rfl ?_
                  refine s44 sh60 (by decide) (⟨by decide, by decide⟩ : (0 : Int) ≤ 9 ∧ (9 : Int) < 12) rfl ?_
                  refine s6 (p := 59) rfl ?_
                  refine s51 sh59 (by decide) (by decide) rf59_0 ?_
                  refine s0 ?_
                  refine s4 (x := 0) rfl ?_
                  refine s44 sh60 (by decide) (⟨by decide, by decide⟩ : (0 : Int) ≤ 10 ∧ (10 : Int) < 12) rfl ?_
                  refine s83 ?_
                  refine rqV_of ?_
                  refine s79 ?_
                  refine xG gb165.2.2.2.2.2.2.1 ?_
                  refine s10 (x := x5) (ls' := [.ref 70, .int (oI x1), .int (oI x2), .ref 60, .int (oI x4), .int (oI (x5 + 1)), .ref p5]) rfl rfl ?_
                  refine s60 ?_
                  exact hE
                · replace hE := hE.2 c20
                  refine s6 (p := 70) rfl ?_
                  refine s4 (x := x1) rfl ?_
                  refine s6 (p := p5) rfl ?_
                  refine s50 (v := ld I p5 0) o7.sh o7.sp (by decide) ((v2_ne (o7.ne (by decide))).trans ((v2_ne (o7.ne (by decide))).trans (oI_ld _ _ _))) ?_
                  refine s6 (p := p5) rfl ?_
                  refine s50 (v := ld I p5 4) o7.sh o7.sp (by decide) ((v2_ne (o7.ne (by decide))).trans ((v2_ne (o7.ne (by decide))).trans (oI_ld _ _ _))) ?_
                  obtain ⟨g22, hE⟩ := hE
                  obtain ⟨l21, k23, k24, hE⟩ := hE
                  refine sV rc164 rfl (Nat.le_of_ble_eq_true rfl) ?_
                  refine k164 (RC.scr (RC.scr hC rfl) rfl) k23 k24 g22 (ld_inR _ _ _) (ld_inR _ _ _) (fun I25 q26 q27 => ?_)
                  replace hE := hE I25 q26 q27
                  refine s79 ?_
                  refine xG gb165.2.2.2.2.2.1 ?_
                  refine s6 (p := 70) rfl ?_
                  refine s51 sh70 (by decide) (by decide) rf70_2 ?_
                  refine s0 ?_
                  refine s0 ?_
                  refine sV rc147 rfl (Nat.le_of_ble_eq_true rfl) ?_
                  refine cV_of (ls := [.ref 59, .int (oI 0), .int (oI 0)]) rfl ?_
                  refine xG gb147 ?_
                  refine s6 (p := 59) rfl ?_
                  refine s51 sh59 (by decide) (by decide) rf59_0 ?_
                  refine s0 ?_
                  refine s4 (x := 0) rfl ?_
                  refine s44 sh60 (by decide) (⟨by decide, by decide⟩ : (0 : Int) ≤ 9 ∧ (9 : Int) < 12) rfl ?_
                  refine s6 (p := 59) rfl ?_
                  refine s51 sh59 (by decide) (by decide) rf59_0 ?_
                  refine s0 ?_
                  refine s4 (x := 0) rfl ?_
                  refine s44 sh60 (by decide) (⟨by decide, by decide⟩ : (0 : Int) ≤ 10 ∧ (10 : Int) < 12) rfl ?_
                  refine s83 ?_
                  refine rqV_of ?_
                  refine s79 ?_
                  refine xG gb165.2.2.2.2.2.2.1 ?_
                  refine s10 (x := x5) (ls' := [.ref 70, .int (oI x1), .int (oI x2), .ref 60, .int (oI x4), .int (oI (x5 + 1)), .ref p5]) rfl rfl ?_
                  refine s60 ?_
                  exact hE
            · replace hE := hE.2 c12
              refine xG gb189.2.1 ?_
              refine s0 ?_
              refine s79 ?_
              refine xG gb189.2.2 ?_
              refine s84 (by decide) ?_
              refine rqI_of ?_
              refine s68 (inRd rfl) (fun _ => ?_) (fun c28 => absurd (by decide) c28)
              refine s60 ?_
              refine xG gb165.2.2.2.2.2.2.1 ?_
              refine s10 (x := x5) (ls' := [.ref 70, .int (oI x1), .int (oI x2), .ref 60, .int (oI x4), .int (oI (x5 + 1)), .ref p5]) rfl rfl ?_
              refine s60 ?_
              exact hE
        · replace hE := hE.2 c9
          refine xG gb165.2.2.2.1 ?_
          refine s6 (p := p5) rfl ?_
          refine s50 (v := ld I p5 3) o7.sh o7.sp (by decide) (oI_ld _ _ _) ?_
          refine s0 ?_
          refine s62 (ld_inR _ _ _) (inRd rfl) (fun c29 => absurd c29 c9) (fun _ => ?_)
          refine xG gb165.2.2.2.2.1 ?_
          refine s6 (p := p5) rfl ?_
          refine s6 (p := 60) rfl ?_
          obtain ⟨b30, r31, hE⟩ := hE
          refine sI (rcvO o7 rfl rfl) rfl (Nat.le_of_ble_eq_true rfl) ?_
          refine r31 _ ?_
          refine s67 (bI_in _) (fun c32 => ?_) (fun c32 => ?_)
          · replace hE := hE.1 c32
            refine xG gb165.2.2.2.2.2.1 ?_
            refine s6 (p := 70) rfl ?_
            refine s51 sh70 (by decide) (by decide) rf70_2 ?_
            refine s0 ?_
            refine s0 ?_
            refine sV rc147 rfl (Nat.le_of_ble_eq_true rfl) ?_
            refine cV_of (ls := [.ref 59, .int (oI 0), .int (oI 0)]) rfl ?_
            refine xG gb147 ?_
            refine s6 (p := 59) rfl ?_
            refine s51 sh59 (by decide) (by decide) rf59_0 ?_
            refine s0 ?_
            refine s4 (x := 0) rfl ?_
            refine s44 sh60 (by decide) (⟨by decide, by decide⟩ : (0 : Int) ≤ 9 ∧ (9 : Int) < 12) rfl ?_
            refine s6 (p := 59) rfl ?_
            refine s51 sh59 (by decide) (by decide) rf59_0 ?_
            refine s0 ?_
            refine s4 (x := 0) rfl ?_
            refine s44 sh60 (by decide) (⟨by decide, by decide⟩ : (0 : Int) ≤ 10 ∧ (10 : Int) < 12) rfl ?_
            refine s83 ?_
            refine rqV_of ?_
            refine s79 ?_
            refine xG gb165.2.2.2.2.2.2.1 ?_
            refine s10 (x := x5) (ls' := [.ref 70, .int (oI x1), .int (oI x2), .ref 60, .int (oI x4), .int (oI (x5 + 1)), .ref p5]) rfl rfl ?_
            refine s60 ?_
            exact hE
          · replace hE := hE.2 c32
            refine s6 (p := 70) rfl ?_
            refine s4 (x := x1) rfl ?_
            refine s6 (p := p5) rfl ?_
            refine s50 (v := ld I p5 0) o7.sh o7.sp (by decide) (oI_ld _ _ _) ?_
            refine s6 (p := p5) rfl ?_
            refine s50 (v := ld I p5 4) o7.sh o7.sp (by decide) (oI_ld _ _ _) ?_
            obtain ⟨g34, hE⟩ := hE
            obtain ⟨l33, k35, k36, hE⟩ := hE
            refine sV rc164 rfl (Nat.le_of_ble_eq_true rfl) ?_
            refine k164 hC k35 k36 g34 (ld_inR _ _ _) (ld_inR _ _ _) (fun I37 q38 q39 => ?_)
            replace hE := hE I37 q38 q39
            refine s79 ?_
            refine xG gb165.2.2.2.2.2.1 ?_
            refine s6 (p := 70) rfl ?_
            refine s51 sh70 (by decide) (by decide) rf70_2 ?_
            refine s0 ?_
            refine s0 ?_
            refine sV rc147 rfl (Nat.le_of_ble_eq_true rfl) ?_
            refine cV_of (ls := [.ref 59, .int (oI 0), .int (oI 0)]) rfl ?_
            refine xG gb147 ?_
            refine s6 (p := 59) rfl ?_
            refine s51 sh59 (by decide) (by decide) rf59_0 ?_
            refine s0 ?_
            refine s4 (x := 0) rfl ?_
            refine s44 sh60 (by decide) (⟨by decide, by decide⟩ : (0 : Int) ≤ 9 ∧ (9 : Int) < 12) rfl ?_
            refine s6 (p := 59) rfl ?_
            refine s51 sh59 (by decide) (by decide) rf59_0 ?_
            refine s0 ?_
            refine s4 (x := 0) rfl ?_
            refine s44 sh60 (by decide) (⟨by decide, by decide⟩ : (0 : Int) ≤ 10 ∧ (10 : Int) < 12) rfl ?_
            refine s83 ?_
            refine rqV_of ?_
            refine s79 ?_
            refine xG gb165.2.2.2.2.2.2.1 ?_
            refine s10 (x := x5) (ls' := [.ref 70, .int (oI x1), .int (oI x2), .ref 60, .int (oI x4), .int (oI (x5 + 1)), .ref p5]) rfl rfl ?_
            refine s60 ?_
            exact hE
  · replace hE := hE.2 c3
    refine xG gb165.2.2.2.2.2.2.2 ?_
    refine s83 ?_
    exact hE
set_option maxRecDepth 4000 in
theorem e165 {d L : Nat} {I : Nat → Nat → Int32} {R : Nat → Nat → Option Nat} {S : List (Nat × Nat)} {K : mM → Prop} {A : aS} (hC : RC R S I A) {x1 : Int} (hE : (0 ≤ x1 ∧ x1 < 40) ∧ (WfA A ∧ (WfP A ∧ (WfC A ∧ ((0 ≤ x1 ∧ x1 < A 91 1) ∧ ((0 ≤ ld I 70 16 ∧ ld I 70 16 ≤ 7) ∧ ((0 ≤ ld I 70 17 ∧ ld I 70 17 ≤ 7) ∧ ((0 ≤ ld I 59 15 ∧ ld I 59 15 ≤ 799) ∧ (∀ (I9 : mI), (Fr [60, 61] [] I I9) → (EnvC 60 I9 (psE A x1 (ld I 70 16) (ld I 75 x1.toNat) (ld I 59 15))) → (∀ j : Nat, j < 6 → ld I9 61 j = rsS A x1 (ld I 70 16) j (ld I 59 15)) → (0 ≤ psS A x1 (ld I 70 16) (ld I 70 17) (ld I 75 x1.toNat) (ld I 59 15) ∧ psS A x1 (ld I 70 16) (ld I 70 17) (ld I 75 x1.toNat) (ld I 59 15) < 1024) ∧ ((0 ≤ ld I9 70 17 ∧ ld I9 70 17 ≤ 7) ∧ (∃ e15 : Nat → Int, EnvC 60 (u2 (u2 I9 60 7 (oI (btS (psS A x1 (ld I 70 16) (ld I 70 17) (ld I 75 x1.toNat) (ld I 59 15))))) 60 8 (oI (ld I9 74 x1.toNat))) e15 ∧ (inR (tlS A e15 (ld I9 70 17) 132 1 0) ∧ (((ld I9 74 x1.toNat < tlS A e15 (ld I9 70 17) 132 1 0) → K (bd L (u2 (u2 I9 60 7 (oI (btS (psS A x1 (ld I 70 16) (ld I 70 17) (ld I 75 x1.toNat) (ld I 59 15))))) 60 8 (oI (ld I9 74 x1.toNat))) R S)) ∧ (¬ (ld I9 74 x1.toNat < tlS A e15 (ld I9 70 17) 132 1 0) → (0 ≤ ((((ld I9 70 17) * 16) + 135) - 130) + 1 ∧ ((((ld I9 70 17) * 16) + 135) - 130) + 1 < 128) ∧ ((0 ≤ (((ld I9 70 17) * 16) + 135) - 130 ∧ (((ld I9 70 17) * 16) + 135) - 130 < 128) ∧ (h165_2 (d + 27) L (u2 (u2 I9 60 7 (oI (btS (psS A x1 (ld I 70 16) (ld I 70 17) (ld I 75 x1.toNat) (ld I 59 15))))) 60 8 (oI (ld I9 74 x1.toNat))) R S (rqV K) x1 (psS A x1 (ld I 70 16) (ld I 70 17) (ld I 75 x1.toNat) (ld I 59 15)) (ld I9 57 (((((ld I9 70 17) * 16) + 135) - 130) + 1).toNat) (ld I9 57 ((((ld I9 70 17) * 16) + 135) - 130).toNat) mUn)))))))))))))))) : CallV (d + 27) 165 [.ref 70, .int (oI x1)] (bd L I R S) K := by
  refine cV_of (ls := [.ref 70, .int (oI x1), mUn, mUn, mUn, mUn, mUn]) rfl ?_
  refine xG gb165.1 ?_
  refine s6 (p := 70) rfl ?_
  refine s51 sh70 (by decide) (by decide) rf70_2 ?_
  refine s4 (x := x1) rfl ?_
  refine s6 (p := 70) rfl ?_
  refine s50 (v := ld I 70 16) sh70 (by decide) (by decide) (oI_ld _ _ _) ?_
  refine s6 (p := 70) rfl ?_
  refine s50 (v := ld I 70 17) sh70 (by decide) (by decide) (oI_ld _ _ _) ?_
  refine s6 (p := 70) rfl ?_
  refine s51 sh70 (by decide) (by decide) rf70_7 ?_
  refine s4 (x := x1) rfl ?_
  obtain ⟨g1, hE⟩ := hE
  refine s40 (v := ld I 75 x1.toNat) sh75 g1 rfl (oI_ld _ _ _) ?_
  obtain ⟨g2, hE⟩ := hE
  obtain ⟨g3, hE⟩ := hE
  obtain ⟨g4, hE⟩ := hE
  obtain ⟨g5, hE⟩ := hE
  obtain ⟨g6, hE⟩ := hE
  obtain ⟨g7, hE⟩ := hE
  obtain ⟨g8, hE⟩ := hE
  refine sI rc143 rfl (Nat.le_of_ble_eq_true rfl) ?_
  refine k143 hC g2 g3 g4 g5 g6 g7 (ld_inR _ _ _) g8 (fun I9 q10 q11 q12 => ?_)
  replace hE := hE I9 q10 q11 q12
  refine s7 (ls' := [.ref 70, .int (oI x1), .int (oI (psS A x1 (ld I 70 16) (ld I 70 17) (ld I 75 x1.toNat) (ld I 59 15))), mUn, mUn, mUn, mUn]) (Nat.le_of_ble_eq_true rfl) rfl ?_
  refine s6 (p := 70) rfl ?_
  refine s51 sh70 (by decide) (by decide) rf70_2 ?_
  refine s51 sh59 (by decide) (by decide) rf59_0 ?_
  refine s9 (ls' := [.ref 70, .int (oI x1), .int (oI (psS A x1 (ld I 70 16) (ld I 70 17) (ld I 75 x1.toNat) (ld I 59 15))), .ref 60, mUn, mUn, mUn]) (Nat.le_of_ble_eq_true rfl) rfl ?_
  refine s6 (p := 60) rfl ?_
  refine s0 ?_
  refine s4 (x := psS A x1 (ld I 70 16) (ld I 70 17) (ld I 75 x1.toNat) (ld I 59 15)) rfl ?_
  obtain ⟨g13, hE⟩ := hE
  refine sI rc342 rfl (Nat.le_of_ble_eq_true rfl) ?_
  refine k342 g13 ?_
  refine s44 sh60 (by decide) (⟨by decide, by decide⟩ : (0 : Int) ≤ 7 ∧ (7 : Int) < 12) rfl ?_
  refine s6 (p := 60) rfl ?_
  refine s0 ?_
  refine s6 (p := 70) rfl ?_
  refine s51 sh70 (by decide) (by decide) rf70_6 ?_
  refine s4 (x := x1) rfl ?_
  refine s40 (v := ld I9 74 x1.toNat) sh74 g1 rfl ((v2_ne (by decide)).trans (oI_ld _ _ _)) ?_
  refine s44 sh60 (by decide) (⟨by decide, by decide⟩ : (0 : Int) ≤ 8 ∧ (8 : Int) < 12) rfl ?_
  refine s6 (p := 70) rfl ?_
  refine s51 sh70 (by decide) (by decide) rf70_6 ?_
  refine s4 (x := x1) rfl ?_
  refine s40 (v := ld I9 74 x1.toNat) sh74 g1 rfl ((v2_ne (by decide)).trans ((v2_ne (by decide)).trans (oI_ld _ _ _))) ?_
  refine s6 (p := 70) rfl ?_
  refine s51 sh70 (by decide) (by decide) rf70_1 ?_
  refine s6 (p := 70) rfl ?_
  refine s50 (v := ld I9 70 17) sh70 (by decide) (by decide) ((v2_ne (by decide)).trans ((v2_ne (by decide)).trans (oI_ld _ _ _))) ?_
  refine s0 ?_
  refine s0 ?_
  refine s6 (p := 60) rfl ?_
  refine s0 ?_
  obtain ⟨g14, hE⟩ := hE
  obtain ⟨e15, k16, hE⟩ := hE
  refine sI rc97 rfl (Nat.le_of_ble_eq_true rfl) ?_
  refine k97a60 (RC.scr (RC.scr (RC.fr hC q10 rfl) rfl) rfl) g4 k16 g14 (⟨by decide, by decide⟩ : (130 : Int) ≤ 132 ∧ (132 : Int) ≤ 144) (inRd rfl) ?_
  obtain ⟨g17, hE⟩ := hE
  refine s64 (ld_inR _ _ _) g17 (fun c18 => ?_) (fun c18 => ?_)
  · replace hE := hE.1 c18
    refine s83 ?_
    exact rqV_of hE
  · replace hE := hE.2 c18
    refine xG gb165.2.1 ?_
    refine s6 (p := 70) rfl ?_
    refine s51 sh70 (by decide) (by decide) rf70_1 ?_
    refine s6 (p := 70) rfl ?_
    refine s50 (v := ld I9 70 17) sh70 (by decide) (by decide) ((v2_ne (by decide)).trans ((v2_ne (by decide)).trans (oI_ld _ _ _))) ?_
    refine s0 ?_
    refine sI rc98 rfl (Nat.le_of_ble_eq_true rfl) ?_
    refine cI_of (ls := [.ref 43, .int (oI (ld I9 70 17)), .int (oI 135)]) rfl ?_
    refine xG gb98 ?_
    refine s6 (p := 43) rfl ?_
    refine s51 sh43 (by decide) (by decide) rf43_12 ?_
    refine s4 (x := ld I9 70 17) rfl ?_
    refine s0 ?_
    refine s18 ?_
    refine s4 (x := 135) rfl ?_
    refine s16 ?_
    refine s0 ?_
    refine s17 ?_
    refine s0 ?_
    refine s16 ?_
    obtain ⟨g19, hE⟩ := hE
    refine s40 (v := ld I9 57 (((((ld I9 70 17) * 16) + 135) - 130) + 1).toNat) sh57 g19 rfl ((v2_ne (by decide)).trans ((v2_ne (by decide)).trans (oI_ld _ _ _))) ?_
    refine s80 ?_
    refine rqI_of ?_
    refine s7 (ls' := [.ref 70, .int (oI x1), .int (oI (psS A x1 (ld I 70 16) (ld I 70 17) (ld I 75 x1.toNat) (ld I 59 15))), .ref 60, .int (oI (ld I9 57 (((((ld I9 70 17) * 16) + 135) - 130) + 1).toNat)), mUn, mUn]) (Nat.le_of_ble_eq_true rfl) rfl ?_
    refine s6 (p := 70) rfl ?_
    refine s51 sh70 (by decide) (by decide) rf70_1 ?_
    refine s6 (p := 70) rfl ?_
    refine s50 (v := ld I9 70 17) sh70 (by decide) (by decide) ((v2_ne (by decide)).trans ((v2_ne (by decide)).trans (oI_ld _ _ _))) ?_
    refine s0 ?_
    refine sI rc99 rfl (Nat.le_of_ble_eq_true rfl) ?_
    refine cI_of (ls := [.ref 43, .int (oI (ld I9 70 17)), .int (oI 135)]) rfl ?_
    refine xG gb99 ?_
    refine s6 (p := 43) rfl ?_
    refine s51 sh43 (by decide) (by decide) rf43_12 ?_
    refine s4 (x := ld I9 70 17) rfl ?_
    refine s0 ?_
    refine s18 ?_
    refine s4 (x := 135) rfl ?_
    refine s16 ?_
    refine s0 ?_
    refine s17 ?_
    obtain ⟨g20, hE⟩ := hE
    refine s40 (v := ld I9 57 ((((ld I9 70 17) * 16) + 135) - 130).toNat) sh57 g20 rfl ((v2_ne (by decide)).trans ((v2_ne (by decide)).trans (oI_ld _ _ _))) ?_
    refine s80 ?_
    refine rqI_of ?_
    refine s7 (ls' := [.ref 70, .int (oI x1), .int (oI (psS A x1 (ld I 70 16) (ld I 70 17) (ld I 75 x1.toNat) (ld I 59 15))), .ref 60, .int (oI (ld I9 57 (((((ld I9 70 17) * 16) + 135) - 130) + 1).toNat)), .int (oI (ld I9 57 ((((ld I9 70 17) * 16) + 135) - 130).toNat)), mUn]) (Nat.le_of_ble_eq_true rfl) rfl ?_
    refine s79 ?_
    exact hE
set_option maxRecDepth 4000 in
theorem e166 {d L : Nat} {I : Nat → Nat → Int32} {R : Nat → Nat → Option Nat} {S : List (Nat × Nat)} {K : mM → Prop} {A : aS} (hC : RC R S I A)  (hE : (0 ≤ (((ld I 70 17) * 16) + 136) - 130 ∧ (((ld I 70 17) * 16) + 136) - 130 < 128) ∧ ((0 ≤ ((((ld I 70 17) * 16) + 136) - 130) + 1 ∧ ((((ld I 70 17) * 16) + 136) - 130) + 1 < 128) ∧ (((ld I 57 ((((ld I 70 17) * 16) + 136) - 130).toNat < ld I 57 (((((ld I 70 17) * 16) + 136) - 130) + 1).toNat) → (0 ≤ ld I 57 ((((ld I 70 17) * 16) + 136) - 130).toNat ∧ ld I 57 ((((ld I 70 17) * 16) + 136) - 130).toNat < 480) ∧ (((R 56 (ld I 57 ((((ld I 70 17) * 16) + 136) - 130).toNat).toNat = none) → K (bd L I R S)) ∧ (∀ p5 : Nat, (R 56 (ld I 57 ((((ld I 70 17) * 16) + 136) - 130).toNat).toNat = some p5) → obJ S p5 15 8 ∧ (inR ((ld I p5 4) * (ld I 70 10)) ∧ ((((ld I p5 4) * (ld I 70 10) < ld I 70 14) → inR (((ld I p5 4) * (ld I 70 10)) - (ld I 70 14)) ∧ (∃ l10 : List Ln, LinesC I l10 ∧ l10.length < 2461 ∧ (∀ (I14 : mI), (Fr [71, 72, 73] [(70, 9), (70, 14)] I I14) → (LinesC I14 (l10 ++ [((-1), ld I p5 0, ((ld I p5 4) * (ld I 70 10)) - (ld I 70 14))])) → K (bd L I14 R S)))) ∧ (¬ ((ld I p5 4) * (ld I 70 10) < ld I 70 14) → K (bd L I R S))))))) ∧ (¬ (ld I 57 ((((ld I 70 17) * 16) + 136) - 130).toNat < ld I 57 (((((ld I 70 17) * 16) + 136) - 130) + 1).toNat) → K (bd L I R S))))) : CallV (d + 1) 166 [.ref 70] (bd L I R S) K := by
  refine cV_of (ls := [.ref 70, mUn, mUn]) rfl ?_
  refine xG gb166.1 ?_
  refine s6 (p := 70) rfl ?_
  refine s51 sh70 (by decide) (by decide) rf70_1 ?_
  refine s6 (p := 70) rfl ?_
  refine s50 (v := ld I 70 17) sh70 (by decide) (by decide) (oI_ld _ _ _) ?_
  refine s0 ?_
  refine sI rc99 rfl (Nat.le_of_ble_eq_true rfl) ?_
  refine cI_of (ls := [.ref 43, .int (oI (ld I 70 17)), .int (oI 136)]) rfl ?_
  refine xG gb99 ?_
  refine s6 (p := 43) rfl ?_
  refine s51 sh43 (by decide) (by decide) rf43_12 ?_
  refine s4 (x := ld I 70 17) rfl ?_
  refine s0 ?_
  refine s18 ?_
  refine s4 (x := 136) rfl ?_
  refine s16 ?_
  refine s0 ?_
  refine s17 ?_
  obtain ⟨g1, hE⟩ := hE
  refine s40 (v := ld I 57 ((((ld I 70 17) * 16) + 136) - 130).toNat) sh57 g1 rfl (oI_ld _ _ _) ?_
  refine s80 ?_
  refine rqI_of ?_
  refine s7 (ls' := [.ref 70, .int (oI (ld I 57 ((((ld I 70 17) * 16) + 136) - 130).toNat)), mUn]) (Nat.le_of_ble_eq_true rfl) rfl ?_
  refine s4 (x := ld I 57 ((((ld I 70 17) * 16) + 136) - 130).toNat) rfl ?_
  refine s6 (p := 70) rfl ?_
  refine s51 sh70 (by decide) (by decide) rf70_1 ?_
  refine s6 (p := 70) rfl ?_
  refine s50 (v := ld I 70 17) sh70 (by decide) (by decide) (oI_ld _ _ _) ?_
  refine s0 ?_
  refine sI rc98 rfl (Nat.le_of_ble_eq_true rfl) ?_
  refine cI_of (ls := [.ref 43, .int (oI (ld I 70 17)), .int (oI 136)]) rfl ?_
  refine xG gb98 ?_
  refine s6 (p := 43) rfl ?_
  refine s51 sh43 (by decide) (by decide) rf43_12 ?_
  refine s4 (x := ld I 70 17) rfl ?_
  refine s0 ?_
  refine s18 ?_
  refine s4 (x := 136) rfl ?_
  refine s16 ?_
  refine s0 ?_
  refine s17 ?_
  refine s0 ?_
  refine s16 ?_
  obtain ⟨g2, hE⟩ := hE
  refine s40 (v := ld I 57 (((((ld I 70 17) * 16) + 136) - 130) + 1).toNat) sh57 g2 rfl (oI_ld _ _ _) ?_
  refine s80 ?_
  refine rqI_of ?_
  refine s64 (ld_inR _ _ _) (ld_inR _ _ _) (fun c3 => ?_) (fun c3 => ?_)
  · replace hE := hE.1 c3
    refine s6 (p := 70) rfl ?_
    refine s51 sh70 (by decide) (by decide) rf70_1 ?_
    refine s51 sh43 (by decide) (by decide) rf43_11 ?_
    refine s4 (x := ld I 57 ((((ld I 70 17) * 16) + 136) - 130).toNat) rfl ?_
    obtain ⟨g4, hE⟩ := hE
    refine s43 (o := R 56 (ld I 57 ((((ld I 70 17) * 16) + 136) - 130).toNat).toNat) sh56 g4 rfl (rfN rfl) ?_
    refine s60 ?_
    refine xG gb166.2.2.1 ?_
    refine s9o (ls' := [.ref 70, .int (oI (ld I 57 ((((ld I 70 17) * 16) + 136) - 130).toNat)), vR (R 56 (ld I 57 ((((ld I 70 17) * 16) + 136) - 130).toNat).toNat)]) (Nat.le_of_ble_eq_true rfl) rfl ?_
    refine s6o (o := R 56 (ld I 57 ((((ld I 70 17) * 16) + 136) - 130).toNat).toNat) rfl ?_
    refine s73o (fun n6 => ?_) (fun p5 n6 => ?_)
    · replace hE := hE.1 n6
      (try rw [n6])
      show Wp _ _ [.ref 70, .int (oI (ld I 57 ((((ld I 70 17) * 16) + 136) - 130).toNat)), .null] [] _ _
      refine xG gb166.2.2.2 ?_
      refine s83 ?_
      exact rqV_of hE
    · replace hE := hE.2 p5 n6
      (try rw [n6])
      show Wp _ _ [.ref 70, .int (oI (ld I 57 ((((ld I 70 17) * 16) + 136) - 130).toNat)), .ref p5] [] _ _
      refine s6 (p := 70) rfl ?_
      refine s50 (v := ld I 70 14) sh70 (by decide) (by decide) (oI_ld _ _ _) ?_
      refine s6 (p := p5) rfl ?_
      obtain ⟨o7, hE⟩ := hE
      refine s50 (v := ld I p5 4) o7.sh o7.sp (by decide) (oI_ld _ _ _) ?_
      refine s6 (p := 70) rfl ?_
      refine s50 (v := ld I 70 10) sh70 (by decide) (by decide) (oI_ld _ _ _) ?_
      refine s18 ?_
      obtain ⟨g8, hE⟩ := hE
      refine s66 (ld_inR _ _ _) g8 (fun c9 => ?_) (fun c9 => ?_)
      · replace hE := hE.1 c9
        refine s6 (p := 70) rfl ?_
        refine s0 ?_
        refine s6 (p := p5) rfl ?_
        refine s50 (v := ld I p5 0) o7.sh o7.sp (by decide) (oI_ld _ _ _) ?_
        refine s6 (p := p5) rfl ?_
        refine s50 (v := ld I p5 4) o7.sh o7.sp (by decide) (oI_ld _ _ _) ?_
        refine s6 (p := 70) rfl ?_
        refine s50 (v := ld I 70 10) sh70 (by decide) (by decide) (oI_ld _ _ _) ?_
        refine s18 ?_
        refine s6 (p := 70) rfl ?_
        refine s50 (v := ld I 70 14) sh70 (by decide) (by decide) (oI_ld _ _ _) ?_
        refine s17 ?_
        obtain ⟨g11, hE⟩ := hE
        obtain ⟨l10, k12, k13, hE⟩ := hE
        refine sV rc164 rfl (Nat.le_of_ble_eq_true rfl) ?_
        refine k164 hC k12 k13 (inRd rfl) (ld_inR _ _ _) g11 (fun I14 q15 q16 => ?_)
        replace hE := hE I14 q15 q16
        refine s79 ?_
        refine xG gb166.2.2.2 ?_
        refine s83 ?_
        exact rqV_of hE
      · replace hE := hE.2 c9
        refine xG gb166.2.2.2 ?_
        refine s83 ?_
        exact rqV_of hE
  · replace hE := hE.2 c3
    refine xG gb166.2.1 ?_
    refine s3 ?_
    refine s79 ?_
    refine xG gb166.2.2.1 ?_
    refine s9n (ls' := [.ref 70, .int (oI (ld I 57 ((((ld I 70 17) * 16) + 136) - 130).toNat)), .null]) (Nat.le_of_ble_eq_true rfl) rfl ?_
    refine s6n rfl ?_
    refine s73o (o := none) (fun _ => ?_) (fun _ h => absurd h (by simp))
    refine xG gb166.2.2.2 ?_
    refine s83 ?_
    exact rqV_of hE
def h162_1 (d L : Nat) (I : Nat → Nat → Int32) (R : Nat → Nat → Option Nat) (S : List (Nat × Nat)) (Q : Option Value → mM → Prop) (x1 : Int) (x2 : Int) : Prop := Wp d (gb 162 1) [.ref 70, .int (oI x1), .int (oI x2)] [] (bd L I R S) Q
set_option maxRecDepth 4000 in
theorem e162_1 {d L : Nat} {I : Nat → Nat → Int32} {R : Nat → Nat → Option Nat} {S : List (Nat × Nat)} {Q : Option Value → mM → Prop} {A : aS} (hC : RC R S I A) {x1 : Int} {x2 : Int} (hE : inR x2 ∧ (((x2 < A 91 1) → WfA A ∧ (WfP A ∧ (WfC A ∧ ((0 ≤ x2 ∧ x2 < A 91 1) ∧ ((0 ≤ ld I 70 16 ∧ ld I 70 16 ≤ 7) ∧ ((0 ≤ ld I 59 15 ∧ ld I 59 15 ≤ 799) ∧ (∀ (I9 : mI), (Fr [60, 61, 69] [] I I9) → (∀ j : Nat, (j : Int) ≤ ld I 70 16 → ld I9 69 j = stS A x2 j (ld I 59 15)) → (0 ≤ x2 ∧ x2 < 40) ∧ (∃ f13 t14 n15 : Int, WnOk f13 t14 n15 ∧ WnP (u2 I9 75 x2.toNat (oI (stS A x2 (ld I 70 16) (ld I 59 15)))) f13 t14 n15 ∧ (∀ (I18 : mI), (Fr [62, 63, 64, 65, 66, 67] [(59, 16)] (u2 I9 75 x2.toNat (oI (stS A x2 (ld I 70 16) (ld I 59 15)))) I18) → (ld I18 59 16 = x2) → (LyP A I18 x2 f13 t14 n15) → inR ((((ld I18 70 16) * 100) + 100) - 1) ∧ (((ld I18 59 13 ≤ (((ld I18 70 16) * 100) + 100) - 1 ∧ (((ld I18 70 16) * 100) + 100) - 1 ≤ ld I18 59 14) → (0 ≤ ((((ld I18 70 16) * 100) + 100) - 1) - (ld I18 59 13) ∧ ((((ld I18 70 16) * 100) + 100) - 1) - (ld I18 59 13) < 100) ∧ (((if ld I18 62 (((((ld I18 70 16) * 100) + 100) - 1) - (ld I18 59 13)).toNat = ld I18 70 15 then (1 : Int) else 0) = 0 ∨ (if ld I18 62 (((((ld I18 70 16) * 100) + 100) - 1) - (ld I18 59 13)).toNat = ld I18 70 15 then (1 : Int) else 0) = 1) ∧ ((0 ≤ ld I18 70 17 ∧ ld I18 70 17 ≤ 7) ∧ (∃ c28 y29 n30 s31 : Int, RgP A (u2 I18 76 x2.toNat (oI (if ld I18 62 (((((ld I18 70 16) * 100) + 100) - 1) - (ld I18 59 13)).toNat = ld I18 70 15 then (1 : Int) else 0))) c28 (100 * y29) (100 * y29 + 99) n30 ∧ (0 ≤ c28 ∧ c28 < A 91 1) ∧ (0 ≤ y29 ∧ y29 ≤ 7) ∧ (ld (u2 I18 76 x2.toNat (oI (if ld I18 62 (((((ld I18 70 16) * 100) + 100) - 1) - (ld I18 59 13)).toNat = ld I18 70 15 then (1 : Int) else 0))) 69 y29.toNat = s31) ∧ (∀ (I36 : mI), (Fr [60] [] (u2 I18 76 x2.toNat (oI (if ld I18 62 (((((ld I18 70 16) * 100) + 100) - 1) - (ld I18 59 13)).toNat = ld I18 70 15 then (1 : Int) else 0))) I36) → ((ld I36 76 x2.toNat = 0) → h162_1 (d + 28) L I36 R S Q (x1 + (saL A (ld I18 70 15) c28 y29 (ld I18 70 17) s31 n30 100)) (x2 + 1)) ∧ (¬ (ld I36 76 x2.toNat = 0) → (0 ≤ ld I36 70 17 ∧ ld I36 70 17 ≤ 7) ∧ (∃ c40 y41 n42 s43 : Int, RgP A (u2 I36 70 12 (oI (ld I36 70 12 + 1))) c40 (100 * y41) (100 * y41 + 99) n42 ∧ (0 ≤ c40 ∧ c40 < A 91 1) ∧ (0 ≤ y41 ∧ y41 ≤ 7) ∧ (ld (u2 I36 70 12 (oI (ld I36 70 12 + 1))) 69 y41.toNat = s43) ∧ (∀ (I48 : mI), (Fr [60] [] (u2 I36 70 12 (oI (ld I36 70 12 + 1))) I48) → h162_1 (d + 28) L (u2 I48 74 x2.toNat (oI (yrS A c40 y41 (ld I36 70 17) s43 n42))) R S Q (x1 + (saL A (ld I18 70 15) c28 y29 (ld I18 70 17) s31 n30 100)) (x2 + 1))))))))) ∧ (¬ (ld I18 59 13 ≤ (((ld I18 70 16) * 100) + 100) - 1 ∧ (((ld I18 70 16) * 100) + 100) - 1 ≤ ld I18 59 14) → ((if (-1) = ld I18 70 15 then (1 : Int) else 0) = 0 ∨ (if (-1) = ld I18 70 15 then (1 : Int) else 0) = 1) ∧ ((0 ≤ ld I18 70 17 ∧ ld I18 70 17 ≤ 7) ∧ (∃ c53 y54 n55 s56 : Int, RgP A (u2 I18 76 x2.toNat (oI (if (-1) = ld I18 70 15 then (1 : Int) else 0))) c53 (100 * y54) (100 * y54 + 99) n55 ∧ (0 ≤ c53 ∧ c53 < A 91 1) ∧ (0 ≤ y54 ∧ y54 ≤ 7) ∧ (ld (u2 I18 76 x2.toNat (oI (if (-1) = ld I18 70 15 then (1 : Int) else 0))) 69 y54.toNat = s56) ∧ (∀ (I61 : mI), (Fr [60] [] (u2 I18 76 x2.toNat (oI (if (-1) = ld I18 70 15 then (1 : Int) else 0))) I61) → ((ld I61 76 x2.toNat = 0) → h162_1 (d + 28) L I61 R S Q (x1 + (saL A (ld I18 70 15) c53 y54 (ld I18 70 17) s56 n55 100)) (x2 + 1)) ∧ (¬ (ld I61 76 x2.toNat = 0) → (0 ≤ ld I61 70 17 ∧ ld I61 70 17 ≤ 7) ∧ (∃ c65 y66 n67 s68 : Int, RgP A (u2 I61 70 12 (oI (ld I61 70 12 + 1))) c65 (100 * y66) (100 * y66 + 99) n67 ∧ (0 ≤ c65 ∧ c65 < A 91 1) ∧ (0 ≤ y66 ∧ y66 ≤ 7) ∧ (ld (u2 I61 70 12 (oI (ld I61 70 12 + 1))) 69 y66.toNat = s68) ∧ (∀ (I73 : mI), (Fr [60] [] (u2 I61 70 12 (oI (ld I61 70 12 + 1))) I73) → h162_1 (d + 28) L (u2 I73 74 x2.toNat (oI (yrS A c65 y66 (ld I61 70 17) s68 n67))) R S Q (x1 + (saL A (ld I18 70 15) c53 y54 (ld I18 70 17) s56 n55 100)) (x2 + 1)))))))))))))))))) ∧ (¬ (x2 < A 91 1) → ((ld I 70 11 = 0) → Q none (bd L (u2 I 70 10 (oI 0)) R S)) ∧ (¬ (ld I 70 11 = 0) → inR x1 ∧ (inR (4 * (ld I 70 11)) ∧ (0 < 4 * (ld I 70 11) ∧ (Q none (bd L (u2 I 70 10 (oI (Int.tdiv x1 (4 * (ld I 70 11))))) R S)))))))) : h162_1 (d + 28) L I R S Q x1 x2 := by
  unfold h162_1
  refine xG gb162.2.1 ?_
  refine s4 (x := x2) rfl ?_
  refine s6 (p := 70) rfl ?_
  refine s51 sh70 (by decide) (by decide) rf70_0 ?_
  refine s50 (v := A 91 1) sh21 (by decide) (by decide) (rdC hC.1 rfl) ?_
  obtain ⟨g1, hE⟩ := hE
  refine s64 g1 (inC hC.1 (a := 21) (k := 9) rfl) (fun c2 => ?_) (fun c2 => ?_)
  · replace hE := hE.1 c2
    refine s6 (p := 70) rfl ?_
    refine s51 sh70 (by decide) (by decide) rf70_7 ?_
    refine s4 (x := x2) rfl ?_
    refine s6 (p := 70) rfl ?_
    refine s51 sh70 (by decide) (by decide) rf70_2 ?_
    refine s4 (x := x2) rfl ?_
    refine s6 (p := 70) rfl ?_
    refine s50 (v := ld I 70 16) sh70 (by decide) (by decide) (oI_ld _ _ _) ?_
    obtain ⟨g3, hE⟩ := hE
    obtain ⟨g4, hE⟩ := hE
    obtain ⟨g5, hE⟩ := hE
    obtain ⟨g6, hE⟩ := hE
    obtain ⟨g7, hE⟩ := hE
    obtain ⟨g8, hE⟩ := hE
    refine sI rc142 rfl (Nat.le_of_ble_eq_true rfl) ?_
    refine k142 hC g3 g4 g5 g6 g7 g8 (fun I9 q10 q11 => ?_)
    replace hE := hE I9 q10 q11
    obtain ⟨g12, hE⟩ := hE
    refine s44 sh75 (by decide) g12 rfl ?_
    refine s6 (p := 70) rfl ?_
    refine s51 sh70 (by decide) (by decide) rf70_2 ?_
    refine s4 (x := x2) rfl ?_
    obtain ⟨f13, t14, n15, k16, k17, hE⟩ := hE
    refine sV rc136 rfl (Nat.le_of_ble_eq_true rfl) ?_
    refine k136 (RC.scr (RC.fr hC q10 rfl) rfl) k16 k17 g3 g6 (fun I18 q19 q20 q21 => ?_)
    replace hE := hE I18 q19 q20 q21
    refine s6 (p := 70) rfl ?_
    refine s51 sh70 (by decide) (by decide) rf70_8 ?_
    refine s4 (x := x2) rfl ?_
    refine s6 (p := 70) rfl ?_
    refine s51 sh70 (by decide) (by decide) rf70_2 ?_
    refine s6 (p := 70) rfl ?_
    refine s50 (v := ld I18 70 16) sh70 (by decide) (by decide) (oI_ld _ _ _) ?_
    refine s0 ?_
    refine s18 ?_
    refine s0 ?_
    refine s16 ?_
    refine s0 ?_
    refine s17 ?_
    refine sI rc140 rfl (Nat.le_of_ble_eq_true rfl) ?_
    refine cI_of (ls := [.ref 59, .int (oI ((((ld I18 70 16) * 100) + 100) - 1))]) rfl ?_
    refine xG gb140.1 ?_
    refine s4 (x := (((ld I18 70 16) * 100) + 100) - 1) rfl ?_
    refine s6 (p := 59) rfl ?_
    refine s50 (v := ld I18 59 13) sh59 (by decide) (by decide) (oI_ld _ _ _) ?_
    refine s6 (p := 59) rfl ?_
    refine s50 (v := ld I18 59 14) sh59 (by decide) (by decide) (oI_ld _ _ _) ?_
    obtain ⟨g22, hE⟩ := hE
    refine sI rc3 rfl (Nat.le_of_ble_eq_true rfl) ?_
    refine k3 g22 (ld_inR _ _ _) (ld_inR _ _ _) (fun c23 => ?_) (fun c23 => ?_)
    · replace hE := hE.1 c23
      refine s67 (inRd rfl) (fun c24 => absurd c24 (by decide)) (fun _ => ?_)
      refine s6 (p := 59) rfl ?_
      refine s51 sh59 (by decide) (by decide) rf59_5 ?_
      refine s4 (x := (((ld I18 70 16) * 100) + 100) - 1) rfl ?_
      refine s6 (p := 59) rfl ?_
      refine s50 (v := ld I18 59 13) sh59 (by decide) (by decide) (oI_ld _ _ _) ?_
      refine s17 ?_
      obtain ⟨g25, hE⟩ := hE
      refine s40 (v := ld I18 62 (((((ld I18 70 16) * 100) + 100) - 1) - (ld I18 59 13)).toNat) sh62 g25 rfl (oI_ld _ _ _) ?_
      refine s60 ?_
      refine xG gb140.2.2 ?_
      refine s80 ?_
      refine rqI_of ?_
      refine s6 (p := 70) rfl ?_
      refine s50 (v := ld I18 70 15) sh70 (by decide) (by decide) (oI_ld _ _ _) ?_
      refine s62j (j := 3) (v1 := 1) (v0 := 0) (ld_inR _ _ _) (ld_inR _ _ _) (fun hJ => ?_) (fun hJ => ?_) ?_
      · exact s0 (s60 hJ)
      · refine xG gb162.2.2.1 ?_
        exact s0 (s79 hJ)
      refine xG gb162.2.2.2.1 ?_
      obtain ⟨g26, hE⟩ := hE
      refine s46 sh76 (by decide) g12 rfl g26 ?_
      refine s4 (x := x1) rfl ?_
      refine s6 (p := 70) rfl ?_
      refine s51 sh70 (by decide) (by decide) rf70_2 ?_
      refine s6 (p := 70) rfl ?_
      refine s50 (v := ld I18 70 15) sh70 (by decide) (by decide) ((v2_ne (by decide)).trans (oI_ld _ _ _)) ?_
      refine s6 (p := 70) rfl ?_
      refine s50 (v := ld I18 70 17) sh70 (by decide) (by decide) ((v2_ne (by decide)).trans (oI_ld _ _ _)) ?_
      obtain ⟨g27, hE⟩ := hE
      obtain ⟨c28, y29, n30, s31, k32, k33, k34, k35, hE⟩ := hE
      refine sI rc156 rfl (Nat.le_of_ble_eq_true rfl) ?_
      refine k156 (RC.scr (RC.fr (RC.scr (RC.fr hC q10 rfl) rfl) q19 rfl) rfl) g3 g5 g4 k32 k33 k34 k35 g27 (ld_inR _ _ _) (fun I36 q37 => ?_)
      replace hE := hE I36 q37
      refine s16 ?_
      refine s7 (ls' := [.ref 70, .int (oI (x1 + (saL A (ld I18 70 15) c28 y29 (ld I18 70 17) s31 n30 100))), .int (oI x2)]) (Nat.le_of_ble_eq_true rfl) rfl ?_
      refine s6 (p := 70) rfl ?_
      refine s51 sh70 (by decide) (by decide) rf70_8 ?_
      refine s4 (x := x2) rfl ?_
      refine s42 (v := ld I36 76 x2.toNat) sh76 g12 rfl (oI_ld _ _ _) ?_
      refine s67 (ld_inR _ _ _) (fun c38 => ?_) (fun c38 => ?_)
      · replace hE := hE.1 c38
        refine xG gb162.2.2.2.2.1 ?_
        refine s10 (x := x2) (ls' := [.ref 70, .int (oI (x1 + (saL A (ld I18 70 15) c28 y29 (ld I18 70 17) s31 n30 100))), .int (oI (x2 + 1))]) rfl rfl ?_
        refine s60 ?_
        exact hE
      · replace hE := hE.2 c38
        refine s6 (p := 70) rfl ?_
        refine s13r ?_
        refine s50 (v := ld I36 70 12) sh70 (by decide) (by decide) (oI_ld _ _ _) ?_
        refine s0 ?_
        refine s16 ?_
        refine s52 sh70 (by decide) (by decide) ?_
        refine s6 (p := 70) rfl ?_
        refine s51 sh70 (by decide) (by decide) rf70_6 ?_
        refine s4 (x := x2) rfl ?_
        refine s6 (p := 70) rfl ?_
        refine s51 sh70 (by decide) (by decide) rf70_2 ?_
        refine s6 (p := 70) rfl ?_
        refine s50 (v := ld I36 70 17) sh70 (by decide) (by decide) ((v2_nk (by decide)).trans (oI_ld _ _ _)) ?_
        obtain ⟨g39, hE⟩ := hE
        obtain ⟨c40, y41, n42, s43, k44, k45, k46, k47, hE⟩ := hE
        refine sI rc154 rfl (Nat.le_of_ble_eq_true rfl) ?_
        refine k154 (RC.scr (RC.fr (RC.scr (RC.fr (RC.scr (RC.fr hC q10 rfl) rfl) q19 rfl) rfl) q37 rfl) rfl) g3 g5 g4 k44 k45 k46 k47 g39 (fun I48 q49 => ?_)
        replace hE := hE I48 q49
        refine s44 sh74 (by decide) g12 rfl ?_
        refine s79 ?_
        refine xG gb162.2.2.2.2.1 ?_
        refine s10 (x := x2) (ls' := [.ref 70, .int (oI (x1 + (saL A (ld I18 70 15) c28 y29 (ld I18 70 17) s31 n30 100))), .int (oI (x2 + 1))]) rfl rfl ?_
        refine s60 ?_
        exact hE
    · replace hE := hE.2 c23
      refine s67 (inRd rfl) (fun _ => ?_) (fun c50 => absurd (by decide) c50)
      refine xG gb140.2.1 ?_
      refine s0 ?_
      refine s79 ?_
      refine xG gb140.2.2 ?_
      refine s80 ?_
      refine rqI_of ?_
      refine s6 (p := 70) rfl ?_
      refine s50 (v := ld I18 70 15) sh70 (by decide) (by decide) (oI_ld _ _ _) ?_
      refine s62j (j := 3) (v1 := 1) (v0 := 0) (inRd rfl) (ld_inR _ _ _) (fun hJ => ?_) (fun hJ => ?_) ?_
      · exact s0 (s60 hJ)
      · refine xG gb162.2.2.1 ?_
        exact s0 (s79 hJ)
      refine xG gb162.2.2.2.1 ?_
      obtain ⟨g51, hE⟩ := hE
      refine s46 sh76 (by decide) g12 rfl g51 ?_
      refine s4 (x := x1) rfl ?_
      refine s6 (p := 70) rfl ?_
      refine s51 sh70 (by decide) (by decide) rf70_2 ?_
      refine s6 (p := 70) rfl ?_
      refine s50 (v := ld I18 70 15) sh70 (by decide) (by decide) ((v2_ne (by decide)).trans (oI_ld _ _ _)) ?_
      refine s6 (p := 70) rfl ?_
      refine s50 (v := ld I18 70 17) sh70 (by decide) (by decide) ((v2_ne (by decide)).trans (oI_ld _ _ _)) ?_
      obtain ⟨g52, hE⟩ := hE
      obtain ⟨c53, y54, n55, s56, k57, k58, k59, k60, hE⟩ := hE
      refine sI rc156 rfl (Nat.le_of_ble_eq_true rfl) ?_
      refine k156 (RC.scr (RC.fr (RC.scr (RC.fr hC q10 rfl) rfl) q19 rfl) rfl) g3 g5 g4 k57 k58 k59 k60 g52 (ld_inR _ _ _) (fun I61 q62 => ?_)
      replace hE := hE I61 q62
      refine s16 ?_
      refine s7 (ls' := [.ref 70, .int (oI (x1 + (saL A (ld I18 70 15) c53 y54 (ld I18 70 17) s56 n55 100))), .int (oI x2)]) (Nat.le_of_ble_eq_true rfl) rfl ?_
      refine s6 (p := 70) rfl ?_
      refine s51 sh70 (by decide) (by decide) rf70_8 ?_
      refine s4 (x := x2) rfl ?_
      refine s42 (v := ld I61 76 x2.toNat) sh76 g12 rfl (oI_ld _ _ _) ?_
      refine s67 (ld_inR _ _ _) (fun c63 => ?_) (fun c63 => ?_)
      · replace hE := hE.1 c63
        refine xG gb162.2.2.2.2.1 ?_
        refine s10 (x := x2) (ls' := [.ref 70, .int (oI (x1 + (saL A (ld I18 70 15) c53 y54 (ld I18 70 17) s56 n55 100))), .int (oI (x2 + 1))]) rfl rfl ?_
        refine s60 ?_
        exact hE
      · replace hE := hE.2 c63
        refine s6 (p := 70) rfl ?_
        refine s13r ?_
        refine s50 (v := ld I61 70 12) sh70 (by decide) (by decide) (oI_ld _ _ _) ?_
        refine s0 ?_
        refine s16 ?_
        refine s52 sh70 (by decide) (by decide) ?_
        refine s6 (p := 70) rfl ?_
        refine s51 sh70 (by decide) (by decide) rf70_6 ?_
        refine s4 (x := x2) rfl ?_
        refine s6 (p := 70) rfl ?_
        refine s51 sh70 (by decide) (by decide) rf70_2 ?_
        refine s6 (p := 70) rfl ?_
        refine s50 (v := ld I61 70 17) sh70 (by decide) (by decide) ((v2_nk (by decide)).trans (oI_ld _ _ _)) ?_
        obtain ⟨g64, hE⟩ := hE
        obtain ⟨c65, y66, n67, s68, k69, k70, k71, k72, hE⟩ := hE
        refine sI rc154 rfl (Nat.le_of_ble_eq_true rfl) ?_
        refine k154 (RC.scr (RC.fr (RC.scr (RC.fr (RC.scr (RC.fr hC q10 rfl) rfl) q19 rfl) rfl) q62 rfl) rfl) g3 g5 g4 k69 k70 k71 k72 g64 (fun I73 q74 => ?_)
        replace hE := hE I73 q74
        refine s44 sh74 (by decide) g12 rfl ?_
        refine s79 ?_
        refine xG gb162.2.2.2.2.1 ?_
        refine s10 (x := x2) (ls' := [.ref 70, .int (oI (x1 + (saL A (ld I18 70 15) c53 y54 (ld I18 70 17) s56 n55 100))), .int (oI (x2 + 1))]) rfl rfl ?_
        refine s60 ?_
        exact hE
  · replace hE := hE.2 c2
    refine xG gb162.2.2.2.2.2.1 ?_
    refine s6 (p := 70) rfl ?_
    refine s6 (p := 70) rfl ?_
    refine s50 (v := ld I 70 11) sh70 (by decide) (by decide) (oI_ld _ _ _) ?_
    refine s68 (ld_inR _ _ _) (fun c75 => ?_) (fun c75 => ?_)
    · replace hE := hE.1 c75
      refine s0 ?_
      refine s60 ?_
      refine xG gb162.2.2.2.2.2.2.2 ?_
      refine s52 sh70 (by decide) (by decide) ?_
      refine s83 ?_
      exact hE
    · replace hE := hE.2 c75
      refine xG gb162.2.2.2.2.2.2.1 ?_
      refine s4 (x := x1) rfl ?_
      refine s0 ?_
      refine s6 (p := 70) rfl ?_
      refine s50 (v := ld I 70 11) sh70 (by decide) (by decide) (oI_ld _ _ _) ?_
      refine s18 ?_
      obtain ⟨g76, hE⟩ := hE
      obtain ⟨g77, hE⟩ := hE
      obtain ⟨g78, hE⟩ := hE
      refine s19 g76 ⟨g77, g78⟩ ?_
      refine s79 ?_
      refine xG gb162.2.2.2.2.2.2.2 ?_
      refine s52 sh70 (by decide) (by decide) ?_
      refine s83 ?_
      exact hE
set_option maxRecDepth 4000 in
theorem e162 {d L : Nat} {I : Nat → Nat → Int32} {R : Nat → Nat → Option Nat} {S : List (Nat × Nat)} {K : mM → Prop} {A : aS} (hC : RC R S I A)  (hE : WfA A ∧ (WnOk ((ld I 70 16) * 100) ((((ld I 70 16) * 100) + 100) - 1) (ld I 70 18) ∧ (∀ (I3 : mI), (Fr [68] [(59, 13), (59, 14), (59, 15)] I I3) → (WnP I3 ((ld I 70 16) * 100) ((((ld I 70 16) * 100) + 100) - 1) (ld I 70 18)) → (ShP A I3 ((ld I 70 16) * 100) ((((ld I 70 16) * 100) + 100) - 1) (ld I 70 18)) → (0 ≤ ld I3 70 15 ∧ ld I3 70 15 < 6) ∧ (∃ y8 n9 : Int, (0 ≤ y8 ∧ y8 ≤ 7) ∧ WnP I3 (100 * y8) (100 * y8 + 99) n9 ∧ ShP A I3 (100 * y8) (100 * y8 + 99) n9 ∧ (h162_1 (d + 4) L (u2 (u2 I3 70 11 (oI (opS A (ld I3 70 15) y8 n9))) 70 12 (oI 0)) R S (rqV K) 0 0))))) : CallV (d + 4) 162 [.ref 70] (bd L I R S) K := by
  refine cV_of (ls := [.ref 70, mUn, mUn]) rfl ?_
  refine xG gb162.1 ?_
  refine s6 (p := 70) rfl ?_
  refine s51 sh70 (by decide) (by decide) rf70_2 ?_
  refine s6 (p := 70) rfl ?_
  refine s50 (v := ld I 70 16) sh70 (by decide) (by decide) (oI_ld _ _ _) ?_
  refine s6 (p := 70) rfl ?_
  refine s50 (v := ld I 70 18) sh70 (by decide) (by decide) (oI_ld _ _ _) ?_
  refine sV rc153 rfl (Nat.le_of_ble_eq_true rfl) ?_
  refine cV_of (ls := [.ref 59, .int (oI (ld I 70 16)), .int (oI (ld I 70 18))]) rfl ?_
  refine xG gb153 ?_
  refine s6 (p := 59) rfl ?_
  refine s4 (x := ld I 70 16) rfl ?_
  refine s0 ?_
  refine s18 ?_
  refine s4 (x := ld I 70 16) rfl ?_
  refine s0 ?_
  refine s18 ?_
  refine s0 ?_
  refine s16 ?_
  refine s0 ?_
  refine s17 ?_
  refine s4 (x := ld I 70 18) rfl ?_
  obtain ⟨g1, hE⟩ := hE
  obtain ⟨g2, hE⟩ := hE
  refine sV rc134 rfl (Nat.le_of_ble_eq_true rfl) ?_
  refine k134 hC g1 g2 (fun I3 q4 q5 q6 => ?_)
  replace hE := hE I3 q4 q5 q6
  refine s83 ?_
  refine rqV_of ?_
  refine s6 (p := 70) rfl ?_
  refine s6 (p := 70) rfl ?_
  refine s51 sh70 (by decide) (by decide) rf70_2 ?_
  refine s6 (p := 70) rfl ?_
  refine s50 (v := ld I3 70 15) sh70 (by decide) (by decide) (oI_ld _ _ _) ?_
  obtain ⟨g7, hE⟩ := hE
  obtain ⟨y8, n9, k10, k11, k12, hE⟩ := hE
  refine sI rc155 rfl (Nat.le_of_ble_eq_true rfl) ?_
  refine k155 (RC.fr hC q4 rfl) k10 g7 k11 k12 ?_
  refine s52 sh70 (by decide) (by decide) ?_
  refine s6 (p := 70) rfl ?_
  refine s0 ?_
  refine s52 sh70 (by decide) (by decide) ?_
  refine s0 ?_
  refine s7 (ls' := [.ref 70, .int (oI 0), mUn]) (Nat.le_of_ble_eq_true rfl) rfl ?_
  refine s0 ?_
  refine s7 (ls' := [.ref 70, .int (oI 0), .int (oI 0)]) (Nat.le_of_ble_eq_true rfl) rfl ?_
  refine s79 ?_
  exact hE
