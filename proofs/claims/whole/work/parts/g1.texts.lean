/-! the texts of the class, read -/
section
variable {d L q : Nat} {I : mI} {R : mR} {S : mSh} {K : Int32 → mM → Prop} {bs : List Int}
theorem lnR {n : Nat} (h : n ≤ 8000) : inR (n : Int) := ⟨by omega, by omega⟩
theorem gtX {x : Int} (hs : StrO R S I q bs) (hx : 0 ≤ x ∧ x < (bs.length : Int)) : bs[x.toNat]? = some (bs.getD x.toNat 0) ∧ 0 ≤ bs.getD x.toNat 0 ∧ bs.getD x.toNat 0 ≤ 127 := by
  have e : bs[x.toNat]? = some (bs.getD x.toNat 0) := by
    rw [List.getD_eq_getElem?_getD, List.getElem?_eq_getElem (by omega)]; rfl
  exact ⟨e, hs.2.2.1 _ _ e⟩
theorem gtR {x : Int} (hs : StrO R S I q bs) (hx : 0 ≤ x ∧ x < (bs.length : Int)) : inR (bs.getD x.toNat 0) := by
  have := (gtX hs hx).2
  exact ⟨by omega, by omega⟩
theorem k200S (hs : StrO R S I q bs) (hl : bs.length ≤ 8000) (hK : K (oI ((bs.length : Nat) : Int)) (bd L I R S)) : CallI (d + 1) 200 [.ref q] (bd L I R S) K := by
  obtain ⟨h1, h2, -, b, h3, h4, -, -⟩ := hs
  refine cI_of (ls := [.ref q]) rfl ?_
  refine xG gb200 ?_
  refine s6 (p := q) rfl ?_
  refine s51 h1.sh h1.sp (by decide) (h1.rf.trans h3) ?_
  refine s48 h4.sh (by decide) ?_
  refine s6 (p := q) rfl ?_
  refine sI (rcvO h1 rfl rfl) rfl (Nat.le_of_ble_eq_true rfl) ?_
  refine cI_of (ls := [.ref q]) rfl ?_
  refine xG gb201.1 ?_
  refine s54 ?_
  refine s67 (inRd rfl) (fun c1 => absurd c1 (by decide)) (fun _ => ?_)
  refine s6 (p := q) rfl ?_
  refine s50 (v := ld I q 1) h1.sh h1.sp (by decide) (oI_ld _ _ _) ?_
  refine s60 ?_
  refine xG gb201.2.2 ?_
  refine s85 ⟨by omega, by omega⟩ ?_
  refine rqI_of ?_
  refine s23 ?_
  refine s80 ?_
  refine rqI_of ?_
  rw [h2]
  have e : iShr ((bs.length : Nat) : Int) 0 = ((bs.length : Nat) : Int) := by
    rw [iShr0 (by omega)]
  rw [e]; exact hK
theorem k202S {x : Int} (hs : StrO R S I q bs) (hl : bs.length ≤ 8000) (hx : 0 ≤ x ∧ x < (bs.length : Int)) (hK : K (oI (bs.getD x.toNat 0)) (bd L I R S)) : CallI (d + 3) 202 [.ref q, .int (oI x)] (bd L I R S) K := by
  obtain ⟨ev, ei⟩ := gtX hs hx
  obtain ⟨h1, h2, -, b, h3, h4, h5, -⟩ := hs
  have e5 := h5 _ _ ev
  refine cI_of (ls := [.ref q, .int (oI x)]) rfl ?_
  refine xG gb202.1 ?_
  refine s6 (p := q) rfl ?_
  refine sI (rcvO h1 rfl rfl) rfl (Nat.le_of_ble_eq_true rfl) ?_
  refine cI_of (ls := [.ref q]) rfl ?_
  refine xG gb203.1 ?_
  refine s54 ?_
  refine s67 (inRd rfl) (fun c1 => absurd c1 (by decide)) (fun _ => ?_)
  refine s6 (p := q) rfl ?_
  refine s50 (v := ld I q 1) h1.sh h1.sp (by decide) (oI_ld _ _ _) ?_
  refine s68 (ld_inR _ _ _) (fun c2 => ?_) (fun c2 => absurd h2 c2)
  refine s0 ?_
  refine s60 ?_
  refine xG gb203.2.2 ?_
  refine s84 (by decide) ?_
  refine rqI_of ?_
  refine s67 (inRd rfl) (fun c3 => absurd c3 (by decide)) (fun _ => ?_)
  refine s6 (p := q) rfl ?_
  refine s51 h1.sh h1.sp (by decide) (h1.rf.trans h3) ?_
  refine s4 (x := x) rfl ?_
  refine sI rc348 rfl (Nat.le_of_ble_eq_true rfl) ?_
  refine cI_of (ls := [.ref b, .int (oI x)]) rfl ?_
  refine xG gb348 ?_
  refine s4 (x := x) rfl ?_
  refine s6 (p := b) rfl ?_
  refine s48 h4.sh (by decide) ?_
  refine sV rc204 rfl (Nat.le_of_ble_eq_true rfl) ?_
  refine k204 hx (by omega) ?_
  refine s6 (p := b) rfl ?_
  refine s4 (x := x) rfl ?_
  refine s41a (v := ld I b x.toNat) h4.sh hx (by omega) (oI_ld _ _ _) ?_
  refine s0 ?_
  refine s25 ?_
  refine s29 ?_
  rw [e5, chr_id ei]
  refine s86 ⟨by omega, by omega⟩ ?_
  refine rqI_of ?_
  refine s86 ⟨by omega, by omega⟩ ?_
  exact rqI_of hK
end
def h104_1 (d L : Nat) (I : Nat → Nat → Int32) (R : Nat → Nat → Option Nat) (S : List (Nat × Nat)) (Q : Option Value → mM → Prop) (x1 : Int) (x2 : Int) (x3 : Int) (w4 : Value) : Prop := Wp d (gb 104 1) [.ref 43, .int (oI x1), .int (oI x2), .int (oI x3), w4] [] (bd L I R S) Q
set_option maxRecDepth 4000 in
theorem e104_1 {d L : Nat} {I : Nat → Nat → Int32} {R : Nat → Nat → Option Nat} {S : List (Nat × Nat)} {Q : Option Value → mM → Prop} {A : aS} (hC : RC R S I A) {x1 : Int} {x2 : Int} {x3 : Int} {w4 : Value} (hE : inR x3 ∧ (((x3 < 61) → (0 ≤ (x1 * 61) + x3 ∧ (x1 * 61) + x3 < 488) ∧ (((R 55 ((x1 * 61) + x3).toNat = none) → h104_1 (d + 2) L I R S Q x1 (x2 + 0) (x3 + 1) .null) ∧ (∀ p4 : Nat, (R 55 ((x1 * 61) + x3).toNat = some p4) → obJ S p4 15 8 ∧ (∃ (p7 : Nat), (R p4 7 = some p7) ∧ obJ S p7 17 4 ∧ (∃ b10 : List Int, StrO R S I p7 b10 ∧ b10.length ≤ 8000 ∧ (h104_1 (d + 2) L I R S Q x1 (x2 + ((b10.length : Nat) : Int)) (x3 + 1) (.ref p4))))))) ∧ (¬ (x3 < 61) → Q (some (.int (oI x2))) (bd L I R S)))) : h104_1 (d + 2) L I R S Q x1 x2 x3 w4 := by
  unfold h104_1
  refine xG gb104.2.1 ?_
  refine s4 (x := x3) rfl ?_
  refine s0 ?_
  obtain ⟨g1, hE⟩ := hE
  refine s64 g1 (inRd rfl) (fun c2 => ?_) (fun c2 => ?_)
  · replace hE := hE.1 c2
    refine s6 (p := 43) rfl ?_
    refine s51 sh43 (by decide) (by decide) rf43_10 ?_
    refine s4 (x := x1) rfl ?_
    refine s0 ?_
    refine s18 ?_
    refine s4 (x := x3) rfl ?_
    refine s16 ?_
    obtain ⟨g3, hE⟩ := hE
    refine s43 (o := R 55 ((x1 * 61) + x3).toNat) sh55 g3 rfl (rfN rfl) ?_
    refine s9o (ls' := [.ref 43, .int (oI x1), .int (oI x2), .int (oI x3), vR (R 55 ((x1 * 61) + x3).toNat)]) (Nat.le_of_ble_eq_true rfl) rfl ?_
    refine s4 (x := x2) rfl ?_
    refine s6o (o := R 55 ((x1 * 61) + x3).toNat) rfl ?_
    refine s74o (fun n5 => ?_) (fun p4 n5 => ?_)
    · replace hE := hE.1 n5
      (try rw [n5])
      show Wp _ _ [.ref 43, .int (oI x1), .int (oI x2), .int (oI x3), .null] [.int (oI x2)] _ _
      refine s0 ?_
      refine s60 ?_
      refine xG gb104.2.2.2.1 ?_
      refine s16 ?_
      refine s7 (ls' := [.ref 43, .int (oI x1), .int (oI (x2 + 0)), .int (oI x3), .null]) (Nat.le_of_ble_eq_true rfl) rfl ?_
      refine s10 (x := x3) (ls' := [.ref 43, .int (oI x1), .int (oI (x2 + 0)), .int (oI (x3 + 1)), .null]) rfl rfl ?_
      refine s60 ?_
      exact hE
    · replace hE := hE.2 p4 n5
      (try rw [n5])
      show Wp _ _ [.ref 43, .int (oI x1), .int (oI x2), .int (oI x3), .ref p4] [.int (oI x2)] _ _
      refine xG gb104.2.2.1 ?_
      refine s6 (p := p4) rfl ?_
      obtain ⟨o6, hE⟩ := hE
      refine s51o (o := R p4 7) o6.sh o6.sp (by decide) o6.rf ?_
      obtain ⟨p7, n8, o9, hE⟩ := hE
      (try rw [n8])
      show Wp _ _ [.ref 43, .int (oI x1), .int (oI x2), .int (oI x3), .ref p4] [.ref p7, .int (oI x2)] _ _
      obtain ⟨b10, h11, h12, hE⟩ := hE
      refine sI (rcvO o9 rfl rfl) rfl (Nat.le_of_ble_eq_true rfl) ?_
      refine k200S h11 h12 ?_
      refine s79 ?_
      refine xG gb104.2.2.2.1 ?_
      refine s16 ?_
      refine s7 (ls' := [.ref 43, .int (oI x1), .int (oI (x2 + ((b10.length : Nat) : Int))), .int (oI x3), .ref p4]) (Nat.le_of_ble_eq_true rfl) rfl ?_
      refine s10 (x := x3) (ls' := [.ref 43, .int (oI x1), .int (oI (x2 + ((b10.length : Nat) : Int))), .int (oI (x3 + 1)), .ref p4]) rfl rfl ?_
      refine s60 ?_
      exact hE
  · replace hE := hE.2 c2
    refine xG gb104.2.2.2.2 ?_
    refine s4 (x := x2) rfl ?_
    refine s80 ?_
    exact hE
set_option maxRecDepth 4000 in
theorem e104 {d L : Nat} {I : Nat → Nat → Int32} {R : Nat → Nat → Option Nat} {S : List (Nat × Nat)} {K : Int32 → mM → Prop} {A : aS} (hC : RC R S I A) {x1 : Int} (hE : h104_1 d L I R S (rqI K) x1 0 1 mUn) : CallI d 104 [.ref 43, .int (oI x1)] (bd L I R S) K := by
  refine cI_of (ls := [.ref 43, .int (oI x1), mUn, mUn, mUn]) rfl ?_
  refine xG gb104.1 ?_
  refine s0 ?_
  refine s7 (ls' := [.ref 43, .int (oI x1), .int (oI 0), mUn, mUn]) (Nat.le_of_ble_eq_true rfl) rfl ?_
  refine s0 ?_
  refine s7 (ls' := [.ref 43, .int (oI x1), .int (oI 0), .int (oI 1), mUn]) (Nat.le_of_ble_eq_true rfl) rfl ?_
  refine s79 ?_
  exact hE
def h105_1 (d L : Nat) (I : Nat → Nat → Int32) (R : Nat → Nat → Option Nat) (S : List (Nat × Nat)) (Q : Option Value → mM → Prop) (x1 : Int) (w2 : Value) (x3 : Int) (x4 : Int) (w5 : Value) : Prop := Wp d (gb 105 1) [.ref 43, .int (oI x1), w2, .int (oI x3), .int (oI x4), w5] [] (bd L I R S) Q
set_option maxRecDepth 4000 in
theorem e105_1 {d L : Nat} {I : Nat → Nat → Int32} {R : Nat → Nat → Option Nat} {S : List (Nat × Nat)} {Q : Option Value → mM → Prop} {A : aS} (hC : RC R S I A) {x1 : Int} {w2 : Value} {x3 : Int} {x4 : Int} {w5 : Value} (hE : inR x4 ∧ (((x4 < 61) → (0 ≤ (x1 * 61) + x4 ∧ (x1 * 61) + x4 < 488) ∧ (((R 55 ((x1 * 61) + x4).toNat = none) → h105_1 (d + 4) L I R S Q x1 w2 x3 (x4 + 1) .null) ∧ (∀ p4 : Nat, (R 55 ((x1 * 61) + x4).toNat = some p4) → obJ S p4 15 8 ∧ (∃ (p7 : Nat), (R p4 7 = some p7) ∧ obJ S p7 17 4 ∧ (∃ b10 : List Int, StrO R S I p7 b10 ∧ b10.length ≤ 8000 ∧ (inR x3 ∧ (((x3 < ((b10.length : Nat) : Int)) → ∃ b15 : List Int, StrO R S I p7 b15 ∧ b15.length ≤ 8000 ∧ (0 ≤ x3 ∧ x3 < ((b15.length : Nat) : Int)) ∧ (Q (some (.int (oI (b15.getD x3.toNat 0)))) (bd L I R S))) ∧ (¬ (x3 < ((b10.length : Nat) : Int)) → ∃ b19 : List Int, StrO R S I p7 b19 ∧ b19.length ≤ 8000 ∧ (h105_1 (d + 4) L I R S Q x1 (mNl w2) (x3 - ((b19.length : Nat) : Int)) (x4 + 1) (.ref p4)))))))))) ∧ (¬ (x4 < 61) → Q (some (.int (oI (-1)))) (bd L I R S)))) : h105_1 (d + 4) L I R S Q x1 w2 x3 x4 w5 := by
  unfold h105_1
  refine xG gb105.2.1 ?_
  refine s4 (x := x4) rfl ?_
  refine s0 ?_
  obtain ⟨g1, hE⟩ := hE
  refine s64 g1 (inRd rfl) (fun c2 => ?_) (fun c2 => ?_)
  · replace hE := hE.1 c2
    refine s6 (p := 43) rfl ?_
    refine s51 sh43 (by decide) (by decide) rf43_10 ?_
    refine s4 (x := x1) rfl ?_
    refine s0 ?_
    refine s18 ?_
    refine s4 (x := x4) rfl ?_
    refine s16 ?_
    obtain ⟨g3, hE⟩ := hE
    refine s43 (o := R 55 ((x1 * 61) + x4).toNat) sh55 g3 rfl (rfN rfl) ?_
    refine s9o (ls' := [.ref 43, .int (oI x1), w2, .int (oI x3), .int (oI x4), vR (R 55 ((x1 * 61) + x4).toNat)]) (Nat.le_of_ble_eq_true rfl) rfl ?_
    refine s6o (o := R 55 ((x1 * 61) + x4).toNat) rfl ?_
    refine s74o (fun n5 => ?_) (fun p4 n5 => ?_)
    · replace hE := hE.1 n5
      (try rw [n5])
      show Wp _ _ [.ref 43, .int (oI x1), w2, .int (oI x3), .int (oI x4), .null] [] _ _
      refine s60 ?_
      refine xG gb105.2.2.2.2.1 ?_
      refine s10 (x := x4) (ls' := [.ref 43, .int (oI x1), w2, .int (oI x3), .int (oI (x4 + 1)), .null]) rfl rfl ?_
      refine s60 ?_
      exact hE
    · replace hE := hE.2 p4 n5
      (try rw [n5])
      show Wp _ _ [.ref 43, .int (oI x1), w2, .int (oI x3), .int (oI x4), .ref p4] [] _ _
      refine xG gb105.2.2.1 ?_
      refine s4 (x := x3) rfl ?_
      refine s6 (p := p4) rfl ?_
      obtain ⟨o6, hE⟩ := hE
      refine s51o (o := R p4 7) o6.sh o6.sp (by decide) o6.rf ?_
      obtain ⟨p7, n8, o9, hE⟩ := hE
      (try rw [n8])
      show Wp _ _ [.ref 43, .int (oI x1), w2, .int (oI x3), .int (oI x4), .ref p4] [.ref p7, .int (oI x3)] _ _
      obtain ⟨b10, h11, h12, hE⟩ := hE
      refine sI (rcvO o9 rfl rfl) rfl (Nat.le_of_ble_eq_true rfl) ?_
      refine k200S h11 h12 ?_
      obtain ⟨g13, hE⟩ := hE
      refine s64 g13 (lnR h12) (fun c14 => ?_) (fun c14 => ?_)
      · replace hE := hE.1 c14
        refine s6 (p := p4) rfl ?_
        refine s51o (o := (some p7)) o6.sh o6.sp (by decide) (o6.rf.trans n8) ?_
        refine s4 (x := x3) rfl ?_
        obtain ⟨b15, h16, h17, h18, hE⟩ := hE
        refine sI (rcvO o9 rfl rfl) rfl (Nat.le_of_ble_eq_true rfl) ?_
        refine k202S h16 h17 h18 ?_
        refine s80 ?_
        exact hE
      · replace hE := hE.2 c14
        refine xG gb105.2.2.2.1 ?_
        refine s4 (x := x3) rfl ?_
        refine s6 (p := p4) rfl ?_
        refine s51o (o := (some p7)) o6.sh o6.sp (by decide) (o6.rf.trans n8) ?_
        obtain ⟨b19, h20, h21, hE⟩ := hE
        refine sI (rcvO o9 rfl rfl) rfl (Nat.le_of_ble_eq_true rfl) ?_
        refine k200S h20 h21 ?_
        refine s17 ?_
        refine s7 (ls' := [.ref 43, .int (oI x1), mNl w2, .int (oI (x3 - ((b19.length : Nat) : Int))), .int (oI x4), .ref p4]) (Nat.le_of_ble_eq_true rfl) rfl ?_
        refine s79 ?_
        refine xG gb105.2.2.2.2.1 ?_
        refine s10 (x := x4) (ls' := [.ref 43, .int (oI x1), mNl w2, .int (oI (x3 - ((b19.length : Nat) : Int))), .int (oI (x4 + 1)), .ref p4]) rfl rfl ?_
        refine s60 ?_
        exact hE
  · replace hE := hE.2 c2
    refine xG gb105.2.2.2.2.2 ?_
    refine s0 ?_
    refine s80 ?_
    exact hE
set_option maxRecDepth 4000 in
theorem e105 {d L : Nat} {I : Nat → Nat → Int32} {R : Nat → Nat → Option Nat} {S : List (Nat × Nat)} {K : Int32 → mM → Prop} {A : aS} (hC : RC R S I A) {x1 : Int} {x2 : Int} (hE : h105_1 d L I R S (rqI K) x1 (.int (oI x2)) x2 1 mUn) : CallI d 105 [.ref 43, .int (oI x1), .int (oI x2)] (bd L I R S) K := by
  refine cI_of (ls := [.ref 43, .int (oI x1), .int (oI x2), mUn, mUn, mUn]) rfl ?_
  refine xG gb105.1 ?_
  refine s4 (x := x2) rfl ?_
  refine s7 (ls' := [.ref 43, .int (oI x1), .int (oI x2), .int (oI x2), mUn, mUn]) (Nat.le_of_ble_eq_true rfl) rfl ?_
  refine s0 ?_
  refine s7 (ls' := [.ref 43, .int (oI x1), .int (oI x2), .int (oI x2), .int (oI 1), mUn]) (Nat.le_of_ble_eq_true rfl) rfl ?_
  refine s79 ?_
  exact hE
set_option maxRecDepth 4000 in
theorem e45 {d L : Nat} {I : Nat → Nat → Int32} {R : Nat → Nat → Option Nat} {S : List (Nat × Nat)} {K : Int32 → mM → Prop} {A : aS} (hC : RC R S I A) {x1 : Int} {x2 : Int} (hE : inR x1 ∧ (((0 ≤ x1 ∧ x1 ≤ 7) → inR x2 ∧ (((x2 < (-1)) → K (oI (-1)) (bd L I R S)) ∧ (¬ (x2 < (-1)) → ((x2 = (-1)) → CallI (d + 1) 104 [.ref 43, .int (oI x1)] (bd L I R S) (fun y s => ∃ (y9 : Int) (I7 : mI), y = oI y9 ∧ s = bd L I7 R S ∧ inR y9 ∧ RC R S I7 A ∧ (K (oI y9) (bd L I7 R S)))) ∧ (¬ (x2 = (-1)) → CallI (d + 1) 105 [.ref 43, .int (oI x1), .int (oI x2)] (bd L I R S) (fun y s => ∃ (y12 : Int) (I10 : mI), y = oI y12 ∧ s = bd L I10 R S ∧ inR y12 ∧ RC R S I10 A ∧ (K (oI y12) (bd L I10 R S))))))) ∧ (¬ (0 ≤ x1 ∧ x1 ≤ 7) → K (oI (-1)) (bd L I R S)))) : CallI (d + 2) 45 [.ref 8, .int (oI x1), .int (oI x2)] (bd L I R S) K := by
  refine cI_of (ls := [.ref 8, .int (oI x1), .int (oI x2)]) rfl ?_
  refine xG gb45.1 ?_
  refine s4 (x := x1) rfl ?_
  refine sI rc22 rfl (Nat.le_of_ble_eq_true rfl) ?_
  refine cI_of (ls := [.int (oI x1)]) rfl ?_
  refine xG gb22 ?_
  refine s4 (x := x1) rfl ?_
  refine s0 ?_
  refine s0 ?_
  obtain ⟨g1, hE⟩ := hE
  refine sI rc3 rfl (Nat.le_of_ble_eq_true rfl) ?_
  refine k3 g1 (inRd rfl) (inRd rfl) (fun c2 => ?_) (fun c2 => ?_)
  · replace hE := hE.1 c2
    refine s84 (by decide) ?_
    refine rqI_of ?_
    refine s67 (inRd rfl) (fun c3 => absurd c3 (by decide)) (fun _ => ?_)
    refine s4 (x := x2) rfl ?_
    refine s0 ?_
    obtain ⟨g4, hE⟩ := hE
    refine s64 g4 (inRd rfl) (fun c5 => ?_) (fun c5 => ?_)
    · replace hE := hE.1 c5
      refine s79 ?_
      refine xG gb45.2.1 ?_
      refine s0 ?_
      refine s80 ?_
      exact rqI_of hE
    · replace hE := hE.2 c5
      refine xG gb45.2.2.1 ?_
      refine s4 (x := x2) rfl ?_
      refine s0 ?_
      refine s62 g4 (inRd rfl) (fun c6 => ?_) (fun c6 => ?_)
      · replace hE := hE.1 c6
        refine s6 (p := 8) rfl ?_
        refine s51 sh8 (by decide) (by decide) rf8_3 ?_
        refine s4 (x := x1) rfl ?_
        refine sI rc104 rfl (Nat.le_of_ble_eq_true rfl) ?_
        refine CallI.mono hE ?_
        rintro _ _ ⟨y9, I7, rfl, rfl, gy9, q8, hE⟩
        refine s60 ?_
        refine xG gb45.2.2.2.2 ?_
        refine s80 ?_
        exact rqI_of hE
      · replace hE := hE.2 c6
        refine xG gb45.2.2.2.1 ?_
        refine s6 (p := 8) rfl ?_
        refine s51 sh8 (by decide) (by decide) rf8_3 ?_
        refine s4 (x := x1) rfl ?_
        refine s4 (x := x2) rfl ?_
        refine sI rc105 rfl (Nat.le_of_ble_eq_true rfl) ?_
        refine CallI.mono hE ?_
        rintro _ _ ⟨y12, I10, rfl, rfl, gy12, q11, hE⟩
        refine s79 ?_
        refine xG gb45.2.2.2.2 ?_
        refine s80 ?_
        exact rqI_of hE
  · replace hE := hE.2 c2
    refine s84 (by decide) ?_
    refine rqI_of ?_
    refine s67 (inRd rfl) (fun _ => ?_) (fun c13 => absurd (by decide) c13)
    refine xG gb45.2.1 ?_
    refine s0 ?_
    refine s80 ?_
    exact rqI_of hE
section
variable {d L : Nat} {I I0 : mI} {R : mR} {S : mSh} {Q : Option Value → mM → Prop} {A : aS} {c day known kind half year subj code : Int}
variable {Y n : Nat} {K : Int32 → mM → Prop} {x1 x2 : Int}
/-- the texts of a code, one behind another -/
noncomputable def crX (A : aS) (y : Int) : Nat → Nat → List Int
  | 0, _ => []
  | f + 1, n => (if cdS A y n = -1 then [] else stX A (cdS A y n).toNat) ++ crX A y f (n + 1)
theorem crX_succ {y : Int} (f n : Nat) : crX A y (f + 1) n = (if cdS A y n = -1 then [] else stX A (cdS A y n).toNat) ++ crX A y f (n + 1) := rfl
theorem crX_rnd {y : Int} (hC : WfC A) : ∀ f n : Nat, rnd ([], false) (cdT A y f n) = (crX A y f n, false)
  | 0, n => rfl
  | f + 1, n => by
    have ih := crX_rnd (y := y) hC f (n + 1)
    rw [crX_succ, show cdT A y (f + 1) n = (if cdS A y n = -1 then [] else ccT A n (cdS A y n).toNat) ++ cdT A y f (n + 1) from rfl]
    by_cases c : cdS A y n = -1
    · rw [if_pos c, if_pos c]; exact ih
    · rw [if_neg c, if_neg c, rnd_app]
      obtain ⟨s, z1, -, -, z4, -⟩ := cdS_wf hC c
      have e : (rnd ([], false) (ccT A n (cdS A y n).toNat)).1 = stX A (cdS A y n).toNat := by unfold stX; rw [z1, Int.toNat_natCast, z4]
      have ef : (rnd ([], false) (ccT A n (cdS A y n).toNat)).2 = false := by
        unfold ccT
        rw [rnd_cons, rnd_cons, rnd_cons, rnd_app]; rfl
      rw [show rnd ([], false) (ccT A n (cdS A y n).toNat) = (stX A (cdS A y n).toNat, false) from Prod.ext e ef, rnd_base, ih]
theorem cdX_crX {y : Int} (hC : WfC A) : cdX A y = crX A y 60 1 := by unfold cdX; rw [crX_rnd hC]
theorem co_row (hC : RC R S I A) (hW : WfC A) (hY : Y < 8) (hn : n ≤ 60) : (R 55 (61 * Y + n) = none → cdS A Y n = -1) ∧ ∀ p, R 55 (61 * Y + n) = some p → ¬ cdS A Y n = -1 ∧ obJ S p 15 8 ∧ ∃ q, R p 7 = some q ∧ StrO R S I q (stX A (cdS A Y n).toNat) := by
  obtain ⟨o1, o2⟩ := hC.2.1.1 Y n hY hn
  by_cases c : cdS A Y n = -1
  · refine ⟨fun _ => c, fun p hp => ?_⟩
    rw [o1 c] at hp; cases hp
  · obtain ⟨q, b1, b2⟩ := o2 c
    refine ⟨fun h => (by rw [b1] at h; cases h), fun p hp => ?_⟩
    obtain rfl : q = p := by rw [b1] at hp; exact Option.some.inj hp
    obtain ⟨s, z1, -, -, -, z5, -⟩ := cdS_wf hW c
    obtain ⟨-, -, -, -, -, q7, h7⟩ := b2.2.2.2.2 (by rw [z1, Int.toNat_natCast]; exact z5)
    exact ⟨c, b2.1, q7, h7⟩
theorem l104 (hC : RC R S I A) (hW : WfC A) (hY : Y < 8) {K : Int32 → mM → Prop} : ∀ (f n : Nat) (x : Int) (w : Value), n + f = 61 → (crX A Y f n).length ≤ 8000 → K (oI (x + ((crX A Y f n).length : Nat))) (bd L I R S) → h104_1 (d + 2) L I R S (rqI K) (Y : Int) x (n : Int) w := by
  intro f
  induction f with
  | zero =>
    intro n x w hn hl hK
    refine e104_1 (d := d) hC ⟨⟨by omega, by omega⟩, fun c => by exfalso; omega, fun _ => rqI_of ?_⟩
    rw [show x = x + ((crX A Y 0 n).length : Nat) from (Int.add_zero x).symm]
    exact hK
  | succ f ih =>
    intro n x w hn hl hK
    have hr := co_row hC hW hY (n := n) (by omega)
    have et : ((Y : Int) * 61 + (n : Int)).toNat = 61 * Y + n := by omega
    rw [crX_succ, List.length_append] at hl hK
    refine e104_1 (d := d) hC ⟨⟨by omega, by omega⟩, fun _ => ⟨by omega, fun c => ?_, fun p c => ?_⟩, fun c => by exfalso; omega⟩
    · rw [et] at c
      rw [if_pos (hr.1 c)] at hl hK
      rw [show (n : Int) + 1 = ((n + 1 : Nat) : Int) by omega, Int.add_zero]
      refine ih (n + 1) x _ (by omega) (by have : ([] : List Int).length = 0 := rfl; omega) ?_
      rw [show ([] : List Int).length = 0 from rfl, Nat.zero_add] at hK
      exact hK
    · rw [et] at c
      obtain ⟨g1, g2, q7, g3, g4⟩ := hr.2 p c
      rw [if_neg g1] at hl hK
      refine ⟨g2, q7, g3, g4.1, _, g4, by omega, ?_⟩
      rw [show (n : Int) + 1 = ((n + 1 : Nat) : Int) by omega]
      refine ih (n + 1) _ _ (by omega) (by omega) ?_
      rw [show x + (((stX A (cdS A Y n).toNat).length : Nat) : Int) + ((crX A Y f (n + 1)).length : Nat) = x + (((stX A (cdS A Y n).toNat).length + (crX A Y f (n + 1)).length : Nat) : Int) by omega]
      exact hK
theorem l105 (hC : RC R S I A) (hW : WfC A) (hY : Y < 8) {K : Int32 → mM → Prop} : ∀ (f n : Nat) (x : Int) (w w5 : Value), n + f = 61 → (crX A Y f n).length ≤ 8000 → 0 ≤ x ∧ inR x → K (oI (if x < ((crX A Y f n).length : Nat) then (crX A Y f n).getD x.toNat 0 else -1)) (bd L I R S) → h105_1 (d + 4) L I R S (rqI K) (Y : Int) w x (n : Int) w5 := by
  intro f
  induction f with
  | zero =>
    intro n x w w5 hn hl hx hK
    refine e105_1 (d := d) hC ⟨⟨by omega, by omega⟩, fun c => by exfalso; omega, fun _ => rqI_of ?_⟩
    rw [if_neg (show ¬ x < ((crX A Y 0 n).length : Nat) by show ¬ x < ((0 : Nat) : Int); omega)] at hK
    exact hK
  | succ f ih =>
    intro n x w w5 hn hl hx hK
    have hr := co_row hC hW hY (n := n) (by omega)
    have et : ((Y : Int) * 61 + (n : Int)).toNat = 61 * Y + n := by omega
    rw [crX_succ] at hl hK
    refine e105_1 (d := d) hC ⟨⟨by omega, by omega⟩, fun _ => ⟨by omega, fun c => ?_, fun p c => ?_⟩, fun c => by exfalso; omega⟩
    · rw [et] at c
      rw [if_pos (hr.1 c), List.nil_append] at hl hK
      rw [show (n : Int) + 1 = ((n + 1 : Nat) : Int) by omega]
      exact ih (n + 1) x _ _ (by omega) hl hx hK
    · rw [et] at c
      obtain ⟨g1, g2, q7, g3, g4⟩ := hr.2 p c
      rw [if_neg g1] at hl hK
      have hl2 := hl
      rw [List.length_append] at hl2
      refine ⟨g2, q7, g3, g4.1, _, g4, by omega, hx.2, fun c2 => ⟨_, g4, by omega, ⟨hx.1, c2⟩, rqI_of ?_⟩, fun c2 => ⟨_, g4, by omega, ?_⟩⟩
      · rw [if_pos (by rw [List.length_append]; omega), List.getD_eq_getElem?_getD, List.getElem?_append_left (by omega), ← List.getD_eq_getElem?_getD] at hK
        exact hK
      · rw [show (n : Int) + 1 = ((n + 1 : Nat) : Int) by omega]
        refine ih (n + 1) (x - (((stX A (cdS A Y n).toNat).length : Nat) : Int)) _ _ (by omega) (by omega) ⟨by omega, by have := hx.2; unfold inR at this ⊢; omega⟩ ?_
        by_cases c3 : x - (((stX A (cdS A Y n).toNat).length : Nat) : Int) < ((crX A Y f (n + 1)).length : Nat)
        · rw [if_pos (by rw [List.length_append]; omega), List.getD_eq_getElem?_getD, List.getElem?_append_right (by omega), ← List.getD_eq_getElem?_getD] at hK
          rw [if_pos c3, show (x - (((stX A (cdS A Y n).toNat).length : Nat) : Int)).toNat = x.toNat - (stX A (cdS A Y n).toNat).length by omega]
          exact hK
        · rw [if_neg (by rw [List.length_append]; omega)] at hK
          rw [if_neg c3]; exact hK
theorem crX_b (hC : RC R S I A) (hW : WfC A) (hY : Y < 8) : ∀ (f n : Nat), n + f ≤ 61 → ∀ v ∈ crX A Y f n, 0 ≤ v ∧ v ≤ 127
  | 0, n, _, v, hv => absurd hv List.not_mem_nil
  | f + 1, n, hn, v, hv => by
    rw [crX_succ] at hv
    rcases List.mem_append.mp hv with h | h
    · by_cases c : cdS A Y n = -1
      · rw [if_pos c] at h; exact absurd h List.not_mem_nil
      · rw [if_neg c] at h
        obtain ⟨q, b1, -⟩ := (hC.2.1.1 Y n hY (by omega)).2 c
        obtain ⟨-, -, q7, -, g4⟩ := (co_row hC hW hY (n := n) (by omega)).2 q b1
        obtain ⟨j, hj⟩ := List.mem_iff_getElem?.mp h
        exact g4.2.2.1 j v hj
    · exact crX_b hC hW hY f (n + 1) (by omega) v h
theorem q45 (hC : RC R S I A) (hW : WF A) (i1 : inR x1) (i2 : inR x2) (hK : K (oI (writA A x1 x2)) (bd L I R S)) : CallI (d + 7) 45 [.ref 8, .int (oI x1), .int (oI x2)] (bd L I R S) K := by
  have hWC : WfC A := hW.2.2.2.2.2.2.2.2.2.2.1
  refine e45 (d := d + 5) hC ⟨i1, fun c1 => ⟨i2, fun c2 => ?_, fun c2 => ⟨fun c3 => ?_, fun c3 => ?_⟩⟩, fun c1 => ?_⟩
  · unfold writA at hK
    rw [if_pos c1, if_neg (by omega), if_neg (by omega)] at hK
    exact hK
  · obtain ⟨Y, rfl⟩ : ∃ Y : Nat, x1 = (Y : Int) := ⟨x1.toNat, by omega⟩
    have hl := hW.2.2.2.2.2.2.2.2.2.2.2 (Y : Int) c1
    unfold writA at hK
    rw [if_pos c1, if_pos c3] at hK
    rw [cdX_crX hWC] at hK hl
    refine e104 (d := d + 6) hC (l104 (d := d + 4) hC hWC (by omega) 60 1 0 mUn rfl hl ?_)
    rw [Int.zero_add]
    exact ⟨_, I, rfl, rfl, lnR hl, hC, hK⟩
  · obtain ⟨Y, rfl⟩ : ∃ Y : Nat, x1 = (Y : Int) := ⟨x1.toNat, by omega⟩
    have hl := hW.2.2.2.2.2.2.2.2.2.2.2 (Y : Int) c1
    unfold writA at hK
    rw [if_pos c1, if_neg c3] at hK
    rw [cdX_crX hWC] at hK hl
    refine e105 (d := d + 6) hC (l105 (d := d + 2) hC hWC (by omega) 60 1 x2 _ _ rfl hl ⟨by omega, i2⟩ ?_)
    by_cases c4 : x2 < ((crX A Y 60 1).length : Nat)
    · rw [if_pos (by omega)] at hK
      rw [if_pos c4]
      have e : (crX A Y 60 1)[x2.toNat]? = some ((crX A Y 60 1).getD x2.toNat 0) := by
        rw [List.getD_eq_getElem?_getD, List.getElem?_eq_getElem (by omega)]; rfl
      have hb := crX_b hC hWC (Y := Y) (by omega) 60 1 (by omega) _ (List.mem_iff_getElem?.mpr ⟨_, e⟩)
      exact ⟨_, I, rfl, rfl, ⟨by omega, by omega⟩, hC, hK⟩
    · rw [if_neg (by omega)] at hK
      rw [if_neg c4]
      exact ⟨_, I, rfl, rfl, inRd rfl, hC, hK⟩
  · unfold writA at hK
    rw [if_neg c1] at hK
    exact hK
end
