section
variable {d L : Nat} {I I0 : mI} {R : mR} {S : mSh} {Q : Option Value → mM → Prop} {A : aS} {c day known kind half year subj code : Int}
theorem l68 {m : Int} (hW : WfA A) (hWC : WfC A) (hX : WfX A) (hm : inR m) (hK : ∀ I1, Fr [] [(9, 14), (9, 15), (9, 16)] I0 I1 → RdP A I1 m 1023 → Q none (bd L I1 R S)) : ∀ (n k : Nat) (I : mI), k + n = 1023 → Fr [] [(9, 14), (9, 15), (9, 16)] I0 I → RC R S I A → HdC A I → RdP A I m k → h68_1 (d + 2) L I R S Q m (k + 1 : Nat) := by
  intro n
  induction n with
  | zero =>
    intro k I hk hf hC hd hp
    obtain rfl : k = 1023 := by omega
    exact e68_1 (d := d) hC ⟨by unfold inR; omega, fun q => by exfalso; omega, fun _ => hK I hf hp⟩
  | succ n ih =>
    intro k I hk hf hC hd hp
    refine e68_1 (d := d) hC ⟨by unfold inR; omega, fun _ => ⟨hW, hWC, hX, hm, k, rfl, by omega, hp, hd, fun I1 f1 p1 => ?_⟩, fun q => by exfalso; omega⟩
    exact ih (k + 1) I1 (by omega) (hf.trans f1) (hC.fr f1 rfl) (fun s hs => by rw [f1.ld rfl, f1.ld rfl]; exact hd s hs) p1
theorem k68 {m : Int} {K : mM → Prop} (hC : RC R S I A) (hW : WfA A) (hWC : WfC A) (hX : WfX A) (hm : inR m) (hd : HdC A I) (hK : ∀ I1, Fr [] [(9, 14), (9, 15), (9, 16)] I I1 → RdP A I1 m 1023 → K (bd L I1 R S)) : CallV (d + 2) 68 [.ref 9, .int (oI m)] (bd L I R S) K := by
  refine e68 (d := d + 2) hC ?_
  have r0 : inR 0 := inRd rfl
  refine l68 (d := d) (I0 := I) hW hWC hX hm (fun I1 f1 p1 => rqV_of (hK I1 f1 p1)) 1023 0 _ rfl ((((Fr.refl _ _ _).wr rfl).wr rfl).wr rfl) (((hC.scr rfl).scr rfl).scr rfl) (fun s hs => ?_) ⟨?_, ?_, ?_⟩
  · repeat rw [ld_o (by decide)]
    exact hd s hs
  · rw [ld_w r0, if_neg (by decide), ld_w r0, if_neg (by decide), ld_w r0, if_pos rfl]; rfl
  · rw [ld_w r0, if_neg (by decide), ld_w r0, if_pos rfl]; rfl
  · rw [ld_w r0, if_pos rfl]; rfl
/-! bits -/
theorem andnot {x y : Nat} (hx : x < 1024) (hy : y < 1024) : iAnd x (iXor y (-1)) = ((x &&& (1023 ^^^ y) : Nat) : Int) := by
  have hlt : x &&& (1023 ^^^ y) < 1024 := Nat.lt_of_le_of_lt Nat.and_le_left hx
  unfold iAnd iXor
  rw [oI_toInt, oI_nat, oI_nat]
  have e : nI x &&& (nI y ^^^ oI (-1)) = nI (x &&& (1023 ^^^ y)) := by
    apply Int32.toBitVec_inj.mp
    rw [Int32.toBitVec_and, Int32.toBitVec_xor]
    unfold nI
    rw [Int32.toBitVec_ofNat', Int32.toBitVec_ofNat', Int32.toBitVec_ofNat', show (oI (-1)).toBitVec = BitVec.allOnes 32 by decide]
    apply BitVec.eq_of_getLsbD_eq
    intro i hi
    rw [BitVec.getLsbD_and, BitVec.getLsbD_xor, BitVec.getLsbD_allOnes, BitVec.getLsbD_ofNat, BitVec.getLsbD_ofNat, BitVec.getLsbD_ofNat, decide_eq_true hi, Bool.true_and, Bool.true_and, Bool.true_and, Nat.testBit_and, Nat.testBit_xor]
    by_cases h10 : i < 10
    · have : (1023 : Nat).testBit i = true := by
        have := (by decide : ∀ j : Fin 10, (1023 : Nat).testBit j.val = true) ⟨i, h10⟩
        exact this
      rw [this, Bool.xor_comm]
    · have : x.testBit i = false := Nat.testBit_lt_two_pow (Nat.lt_of_lt_of_le hx (show 1024 ≤ 2 ^ i from Nat.pow_le_pow_right (n := 2) (by decide) (show 10 ≤ i by omega)))
      rw [this, Bool.false_and, Bool.false_and]
  rw [e]
  exact nI_toI (by omega)
def snL (A : aS) (x y w : Int) : Nat → Nat
  | 0 => 0
  | s + 1 => if dsS (A 101 s) (A 102 s) x y ≤ w then snL A x y w s ||| 2 ^ s else snL A x y w s
theorem snL_lt {x y w : Int} : ∀ s, snL A x y w s < 2 ^ s
  | 0 => by show 0 < 1; decide
  | s + 1 => by
    have ih := snL_lt (x := x) (y := y) (w := w) s
    show (if dsS (A 101 s) (A 102 s) x y ≤ w then snL A x y w s ||| 2 ^ s else snL A x y w s) < 2 ^ (s + 1)
    have h2 : 2 ^ (s + 1) = 2 * 2 ^ s := by rw [Nat.pow_succ]; omega
    split
    · exact Nat.or_lt_two_pow (by omega) (by omega)
    · omega
theorem snL_bit {x y w : Int} {i : Nat} : ∀ s, (snL A x y w s).testBit i = (decide (i < s) && decide (dsS (A 101 i) (A 102 i) x y ≤ w))
  | 0 => by show (0 : Nat).testBit i = _; rw [Nat.zero_testBit, decide_eq_false (by omega)]; rfl
  | s + 1 => by
    have ih := snL_bit (x := x) (y := y) (w := w) (i := i) s
    show (if dsS (A 101 s) (A 102 s) x y ≤ w then snL A x y w s ||| 2 ^ s else snL A x y w s).testBit i = _
    by_cases q : dsS (A 101 s) (A 102 s) x y ≤ w
    · rw [if_pos q, Nat.testBit_or, ih, Nat.testBit_two_pow]
      by_cases e : i = s
      · rw [e, decide_eq_true q, decide_eq_true (show s < s + 1 by omega), decide_eq_true (show s = s from rfl)]; simp
      · rw [decide_eq_false (show ¬ s = i by omega), Bool.or_false]
        by_cases e2 : i < s
        · rw [decide_eq_true e2, decide_eq_true (show i < s + 1 by omega)]
        · rw [decide_eq_false e2, decide_eq_false (show ¬ i < s + 1 by omega)]
    · rw [if_neg q, ih]
      by_cases e : i = s
      · rw [e, decide_eq_false q, Bool.and_false, Bool.and_false]
      · by_cases e2 : i < s
        · rw [decide_eq_true e2, decide_eq_true (show i < s + 1 by omega)]
        · rw [decide_eq_false e2, decide_eq_false (show ¬ i < s + 1 by omega)]
theorem or_pow {m s : Nat} (hm : m < 2 ^ s) (hs : s < 10) : iOr m (iShl 1 s) = ((m ||| 2 ^ s : Nat) : Int) := by
  have h1 : 2 ^ s ≤ 2 ^ 9 := Nat.pow_le_pow_right (by decide) (by omega)
  have e1 := iShl_nat (m := 1) (k := s) (by omega) (by omega)
  rw [Nat.one_mul] at e1
  have e3 : ((1 : Nat) : Int) = 1 := rfl
  rw [e3] at e1
  rw [e1, iOr_nat (by omega) (by omega)]
theorem l73 {x y w : Int} (hC : RC R S I A) (hX : WfX A) (hx : 0 ≤ x ∧ x ≤ 60) (hy : 0 ≤ y ∧ y ≤ 60) (hw : inR w) (hQ : Q (some (.int (oI ((snL A x y w 10 : Nat) : Int)))) (bd L I R S)) : ∀ (n s : Nat), s + n = 10 → h73_1 (d + 1) L I R S Q x y w ((snL A x y w s : Nat) : Int) s := by
  intro n
  induction n with
  | zero =>
    intro s hs
    obtain rfl : s = 10 := by omega
    exact e73_1 hC ⟨by unfold inR; omega, fun q => by exfalso; omega, fun _ => hQ⟩
  | succ n ih =>
    intro s hs
    have ih := ih (s + 1) (by omega)
    have e : snL A x y w (s + 1) = if dsS (A 101 s) (A 102 s) x y ≤ w then snL A x y w s ||| 2 ^ s else snL A x y w s := rfl
    have v := hX.2.1 s (by omega)
    have ed : ab (A 101 s - x) + ab (A 102 s - y) = dsS (A 101 s) (A 102 s) x y := by unfold dsS ab; omega
    have rd : inR (dsS (A 101 s) (A 102 s) x y) := by unfold inR dsS ab; omega
    rw [e] at ih
    refine e73_1 hC ?_
    rw [Int.toNat_natCast, ed]
    refine ⟨by unfold inR; omega, fun _ => ⟨by omega, by unfold inR; omega, by unfold inR; omega, rd, hw, fun q => ?_, fun q => ?_⟩, fun q => by exfalso; omega⟩
    · rw [if_neg (by omega)] at ih; exact ih
    · rw [if_pos (by omega)] at ih
      rw [or_pow (snL_lt s) (by omega)]
      exact ih
theorem k73 {x y w : Int} {K : Int32 → mM → Prop} (hC : RC R S I A) (hX : WfX A) (hx : 0 ≤ x ∧ x ≤ 60) (hy : 0 ≤ y ∧ y ≤ 60) (hw : inR w) (hK : K (oI ((snL A x y w 10 : Nat) : Int)) (bd L I R S)) : CallI (d + 1) 73 [.ref 9, .int (oI x), .int (oI y), .int (oI w)] (bd L I R S) K :=
  e73 (d := d + 1) hC (l73 hC hX hx hy hw (rqI_of hK) 10 0 rfl)
def rbL (r : Nat → Nat) (set : Int) : Nat → Nat
  | 0 => 0
  | j + 1 => if iAnd (iShr set j) 1 = 0 then rbL r set j else rbL r set j ||| r j
theorem rbL_lt {r : Nat → Nat} {set : Int} (hr : ∀ j, r j < 1024) : ∀ j, rbL r set j < 1024
  | 0 => by show 0 < 1024; decide
  | j + 1 => by
    have ih := rbL_lt (set := set) hr j
    show (if iAnd (iShr set j) 1 = 0 then rbL r set j else rbL r set j ||| r j) < 1024
    split
    · exact ih
    · exact Nat.or_lt_two_pow (n := 10) ih (hr j)
theorem l74 {r : Nat → Nat} {set : Int} (hC : RC R S I A) (hX : WfX A) (hj : ∀ j : Nat, j < (A 91 54).toNat → ld I 19 j = (r j : Nat)) (hr : ∀ j, r j < 1024) (hQ : Q (some (.int (oI ((rbL r set (A 91 54).toNat : Nat) : Int)))) (bd L I R S)) : ∀ (n j : Nat), j + n = (A 91 54).toNat → h74_1 d L I R S Q set ((rbL r set j : Nat) : Int) j := by
  have h10 := hX.1
  intro n
  induction n with
  | zero =>
    intro j hn
    refine e74_1 hC ⟨by unfold inR; omega, fun q => by exfalso; omega, fun _ => ?_⟩
    rw [show j = (A 91 54).toNat by omega]; exact hQ
  | succ n ih =>
    intro j hn
    have ih := ih (j + 1) (by omega)
    have e : rbL r set (j + 1) = if iAnd (iShr set j) 1 = 0 then rbL r set j else rbL r set j ||| r j := rfl
    rw [e] at ih
    refine e74_1 hC ?_
    rw [Int.toNat_natCast, hj j (by omega)]
    refine ⟨by unfold inR; omega, fun _ => ⟨fun q => ?_, fun q => ⟨by omega, ?_⟩⟩, fun q => by exfalso; omega⟩
    · rw [if_pos q] at ih; exact ih
    · rw [if_neg q] at ih
      rw [iOr_nat (Nat.lt_trans (rbL_lt hr j) (by decide)) (Nat.lt_trans (hr j) (by decide))]
      exact ih
theorem k74 {r : Nat → Nat} {set : Int} {K : Int32 → mM → Prop} (hC : RC R S I A) (hX : WfX A) (hj : ∀ j : Nat, j < (A 91 54).toNat → ld I 19 j = (r j : Nat)) (hr : ∀ j, r j < 1024) (hK : K (oI ((rbL r set (A 91 54).toNat : Nat) : Int)) (bd L I R S)) : CallI d 74 [.ref 9, .int (oI set)] (bd L I R S) K :=
  e74 hC (l74 hC hX hj hr (rqI_of hK) (A 91 54).toNat 0 (by omega))
end
def h72_1 (d L : Nat) (I : Nat → Nat → Int32) (R : Nat → Nat → Option Nat) (S : List (Nat × Nat)) (Q : Option Value → mM → Prop) (w1 : Value) (x2 : Int) (x3 : Int) (x4 : Int) (w5 : Value) (w6 : Value) : Prop := Wp d (gb 72 1) [.ref 9, w1, .int (oI x2), .int (oI x3), .int (oI x4), w5, w6] [] (bd L I R S) Q
def h72_3 (d L : Nat) (I : Nat → Nat → Int32) (R : Nat → Nat → Option Nat) (S : List (Nat × Nat)) (Q : Option Value → mM → Prop) (w1 : Value) (x2 : Int) (x3 : Int) (x4 : Int) (w5 : Value) (w6 : Value) : Prop := Wp d (gb 72 3) [.ref 9, w1, .int (oI x2), .int (oI x3), .int (oI x4), w5, w6] [] (bd L I R S) Q
def h72_5 (d L : Nat) (I : Nat → Nat → Int32) (R : Nat → Nat → Option Nat) (S : List (Nat × Nat)) (Q : Option Value → mM → Prop) (w1 : Value) (w2 : Value) (x3 : Int) (x4 : Int) (x5 : Int) (w6 : Value) : Prop := Wp d (gb 72 5) [.ref 9, w1, w2, .int (oI x3), .int (oI x4), .int (oI x5), w6] [] (bd L I R S) Q
set_option maxRecDepth 4000 in
theorem e72_1 {d L : Nat} {I : Nat → Nat → Int32} {R : Nat → Nat → Option Nat} {S : List (Nat × Nat)} {Q : Option Value → mM → Prop} {A : aS} (hC : RC R S I A) {w1 : Value} {x2 : Int} {x3 : Int} {x4 : Int} {w5 : Value} {w6 : Value} (hE : inR x4 ∧ (((x4 < A 91 2) → (0 ≤ x4 ∧ x4 < 6) ∧ (WfX A ∧ ((0 ≤ A 98 x4.toNat ∧ A 98 x4.toNat ≤ 60) ∧ ((0 ≤ A 99 x4.toNat ∧ A 99 x4.toNat ≤ 60) ∧ (inR x2 ∧ (h72_1 (d + 2) L I R S Q w1 x2 (iAnd x3 (iXor ((snL A (A 98 x4.toNat) (A 99 x4.toNat) x2 10 : Nat) : Int) (-1))) (x4 + 1) w5 w6)))))) ∧ (¬ (x4 < A 91 2) → h72_3 (d + 2) L I R S Q w1 x2 x3 0 w5 w6))) : h72_1 (d + 2) L I R S Q w1 x2 x3 x4 w5 w6 := by
  unfold h72_1
  refine xG gb72.2.1 ?_
  refine s4 (x := x4) rfl ?_
  refine s6 (p := 9) rfl ?_
  refine s50 (v := A 91 2) sh9 (by decide) (by decide) (rdC hC.1 rfl) ?_
  obtain ⟨g1, hE⟩ := hE
  refine s64 g1 (inC hC.1 (a := 9) (k := 11) rfl) (fun c2 => ?_) (fun c2 => ?_)
  · replace hE := hE.1 c2
    refine s4 (x := x3) rfl ?_
    refine s6 (p := 9) rfl ?_
    refine s6 (p := 9) rfl ?_
    refine s51 sh9 (by decide) (by decide) rf9_4 ?_
    refine s4 (x := x4) rfl ?_
    obtain ⟨g3, hE⟩ := hE
    refine s40 (v := A 98 x4.toNat) sh14 g3 rfl (rdC hC.1 rfl) ?_
    refine s6 (p := 9) rfl ?_
    refine s51 sh9 (by decide) (by decide) rf9_5 ?_
    refine s4 (x := x4) rfl ?_
    refine s40 (v := A 99 x4.toNat) sh15 g3 rfl (rdC hC.1 rfl) ?_
    refine s4 (x := x2) rfl ?_
    obtain ⟨g4, hE⟩ := hE
    obtain ⟨g5, hE⟩ := hE
    obtain ⟨g6, hE⟩ := hE
    obtain ⟨g7, hE⟩ := hE
    refine sI rc73 rfl (Nat.le_of_ble_eq_true rfl) ?_
    refine k73 hC g4 g5 g6 g7 ?_
    refine s0 ?_
    refine s27 ?_
    refine s25 ?_
    refine s7 (ls' := [.ref 9, w1, .int (oI x2), .int (oI (iAnd x3 (iXor ((snL A (A 98 x4.toNat) (A 99 x4.toNat) x2 10 : Nat) : Int) (-1)))), .int (oI x4), w5, w6]) (Nat.le_of_ble_eq_true rfl) rfl ?_
    refine s10 (x := x4) (ls' := [.ref 9, w1, .int (oI x2), .int (oI (iAnd x3 (iXor ((snL A (A 98 x4.toNat) (A 99 x4.toNat) x2 10 : Nat) : Int) (-1)))), .int (oI (x4 + 1)), w5, w6]) rfl rfl ?_
    refine s60 ?_
    exact hE
  · replace hE := hE.2 c2
    refine xG gb72.2.2.1 ?_
    refine s0 ?_
    refine s7 (ls' := [.ref 9, w1, .int (oI x2), .int (oI x3), .int (oI 0), w5, w6]) (Nat.le_of_ble_eq_true rfl) rfl ?_
    refine s79 ?_
    exact hE
set_option maxRecDepth 4000 in
theorem e72_3 {d L : Nat} {I : Nat → Nat → Int32} {R : Nat → Nat → Option Nat} {S : List (Nat × Nat)} {Q : Option Value → mM → Prop} {A : aS} (hC : RC R S I A) {w1 : Value} {x2 : Int} {x3 : Int} {x4 : Int} {w5 : Value} {w6 : Value} (hE : inR x4 ∧ (((x4 < A 91 54) → (0 ≤ x4 ∧ x4 < 10) ∧ (WfX A ∧ ((0 ≤ A 131 x4.toNat ∧ A 131 x4.toNat ≤ 60) ∧ ((0 ≤ A 132 x4.toNat ∧ A 132 x4.toNat ≤ 60) ∧ (inR x2 ∧ (h72_3 (d + 2) L (u2 I 19 x4.toNat (oI ((snL A (A 131 x4.toNat) (A 132 x4.toNat) x2 10 : Nat) : Int))) R S Q w1 x2 x3 (x4 + 1) w5 w6)))))) ∧ (¬ (x4 < A 91 54) → h72_5 (d + 2) L I R S Q w1 (.int (oI x2)) x3 (-1) 0 w6))) : h72_3 (d + 2) L I R S Q w1 x2 x3 x4 w5 w6 := by
  unfold h72_3
  refine xG gb72.2.2.2.1 ?_
  refine s4 (x := x4) rfl ?_
  refine s6 (p := 9) rfl ?_
  refine s50 (v := A 91 54) sh9 (by decide) (by decide) (rdC hC.1 rfl) ?_
  obtain ⟨g1, hE⟩ := hE
  refine s64 g1 (inC hC.1 (a := 9) (k := 12) rfl) (fun c2 => ?_) (fun c2 => ?_)
  · replace hE := hE.1 c2
    refine s6 (p := 9) rfl ?_
    refine s51 sh9 (by decide) (by decide) rf9_9 ?_
    refine s4 (x := x4) rfl ?_
    refine s6 (p := 9) rfl ?_
    refine s6 (p := 9) rfl ?_
    refine s51 sh9 (by decide) (by decide) rf9_7 ?_
    refine s4 (x := x4) rfl ?_
    obtain ⟨g3, hE⟩ := hE
    refine s40 (v := A 131 x4.toNat) sh17 g3 rfl (rdC hC.1 rfl) ?_
    refine s6 (p := 9) rfl ?_
    refine s51 sh9 (by decide) (by decide) rf9_8 ?_
    refine s4 (x := x4) rfl ?_
    refine s40 (v := A 132 x4.toNat) sh18 g3 rfl (rdC hC.1 rfl) ?_
    refine s4 (x := x2) rfl ?_
    obtain ⟨g4, hE⟩ := hE
    obtain ⟨g5, hE⟩ := hE
    obtain ⟨g6, hE⟩ := hE
    obtain ⟨g7, hE⟩ := hE
    refine sI rc73 rfl (Nat.le_of_ble_eq_true rfl) ?_
    refine k73 hC g4 g5 g6 g7 ?_
    refine s44 sh19 (by decide) g3 rfl ?_
    refine s10 (x := x4) (ls' := [.ref 9, w1, .int (oI x2), .int (oI x3), .int (oI (x4 + 1)), w5, w6]) rfl rfl ?_
    refine s60 ?_
    exact hE
  · replace hE := hE.2 c2
    refine xG gb72.2.2.2.2.1 ?_
    refine s0 ?_
    refine s7 (ls' := [.ref 9, w1, .int (oI x2), .int (oI x3), .int (oI (-1)), w5, w6]) (Nat.le_of_ble_eq_true rfl) rfl ?_
    refine s0 ?_
    refine s7 (ls' := [.ref 9, w1, .int (oI x2), .int (oI x3), .int (oI (-1)), .int (oI 0), w6]) (Nat.le_of_ble_eq_true rfl) rfl ?_
    refine s79 ?_
    exact hE
set_option maxRecDepth 4000 in
theorem e72_5 {d L : Nat} {I : Nat → Nat → Int32} {R : Nat → Nat → Option Nat} {S : List (Nat × Nat)} {Q : Option Value → mM → Prop} {A : aS} (hC : RC R S I A) {w1 : Value} {w2 : Value} {x3 : Int} {x4 : Int} {x5 : Int} {w6 : Value} (hE : inR x5 ∧ (((x5 < iShl 1 (A 91 54)) → inR x4 ∧ (((x4 = (-1)) → WfX A ∧ (∃ r7 : Nat → Nat, (∀ j : Nat, j < (A 91 54).toNat → ld I 19 j = (r7 j : Nat)) ∧ (∀ j : Nat, r7 j < 1024) ∧ (((iAnd x3 (iXor ((rbL r7 x5 (A 91 54).toNat : Nat) : Int) (-1)) = 0) → h72_5 (d + 1) L I R S Q w1 w2 x3 x5 (x5 + 1) (.int (oI 1))) ∧ (¬ (iAnd x3 (iXor ((rbL r7 x5 (A 91 54).toNat : Nat) : Int) (-1)) = 0) → h72_5 (d + 1) L I R S Q w1 w2 x3 x4 (x5 + 1) (.int (oI 1)))))) ∧ (¬ (x4 = (-1)) → (0 ≤ x5 ∧ x5 < 1024) ∧ ((0 ≤ x4 ∧ x4 < 1024) ∧ (inR (btS x5) ∧ (inR (btS x4) ∧ (((btS x5 < btS x4) → WfX A ∧ (∃ r18 : Nat → Nat, (∀ j : Nat, j < (A 91 54).toNat → ld I 19 j = (r18 j : Nat)) ∧ (∀ j : Nat, r18 j < 1024) ∧ (((iAnd x3 (iXor ((rbL r18 x5 (A 91 54).toNat : Nat) : Int) (-1)) = 0) → h72_5 (d + 1) L I R S Q w1 w2 x3 x5 (x5 + 1) (.int (oI 1))) ∧ (¬ (iAnd x3 (iXor ((rbL r18 x5 (A 91 54).toNat : Nat) : Int) (-1)) = 0) → h72_5 (d + 1) L I R S Q w1 w2 x3 x4 (x5 + 1) (.int (oI 1)))))) ∧ (¬ (btS x5 < btS x4) → h72_5 (d + 1) L I R S Q w1 w2 x3 x4 (x5 + 1) (.int (oI 0)))))))))) ∧ (¬ (x5 < iShl 1 (A 91 54)) → Q (some (.int (oI x4))) (bd L I R S)))) : h72_5 (d + 1) L I R S Q w1 w2 x3 x4 x5 w6 := by
  unfold h72_5
  refine xG gb72.2.2.2.2.2.1 ?_
  refine s4 (x := x5) rfl ?_
  refine s0 ?_
  refine s6 (p := 9) rfl ?_
  refine s50 (v := A 91 54) sh9 (by decide) (by decide) (rdC hC.1 rfl) ?_
  refine s22 ?_
  obtain ⟨g1, hE⟩ := hE
  refine s64 g1 (inR_toInt _) (fun c2 => ?_) (fun c2 => ?_)
  · replace hE := hE.1 c2
    refine s4 (x := x4) rfl ?_
    refine s0 ?_
    obtain ⟨g3, hE⟩ := hE
    refine s61 g3 (inRd rfl) (fun c4 => ?_) (fun c4 => ?_)
    · replace hE := hE.1 c4
      refine xG gb72.2.2.2.2.2.2.1 ?_
      refine s0 ?_
      refine s60 ?_
      refine xG gb72.2.2.2.2.2.2.2.2.1 ?_
      refine s7 (ls' := [.ref 9, w1, w2, .int (oI x3), .int (oI x4), .int (oI x5), .int (oI 1)]) (Nat.le_of_ble_eq_true rfl) rfl ?_
      refine s4 (x := 1) rfl ?_
      refine s67 (inRd rfl) (fun c5 => absurd c5 (by decide)) (fun _ => ?_)
      refine s4 (x := x3) rfl ?_
      refine s6 (p := 9) rfl ?_
      refine s4 (x := x5) rfl ?_
      obtain ⟨g6, hE⟩ := hE
      obtain ⟨r7, k8, k9, hE⟩ := hE
      refine sI rc74 rfl (Nat.le_of_ble_eq_true rfl) ?_
      refine k74 hC g6 k8 k9 ?_
      refine s0 ?_
      refine s27 ?_
      refine s25 ?_
      refine s68 (inR_toInt _) (fun c10 => ?_) (fun c10 => ?_)
      · replace hE := hE.1 c10
        refine s4 (x := x5) rfl ?_
        refine s7 (ls' := [.ref 9, w1, w2, .int (oI x3), .int (oI x5), .int (oI x5), .int (oI 1)]) (Nat.le_of_ble_eq_true rfl) rfl ?_
        refine s79 ?_
        refine xG gb72.2.2.2.2.2.2.2.2.2.1 ?_
        refine s10 (x := x5) (ls' := [.ref 9, w1, w2, .int (oI x3), .int (oI x5), .int (oI (x5 + 1)), .int (oI 1)]) rfl rfl ?_
        refine s60 ?_
        exact hE
      · replace hE := hE.2 c10
        refine xG gb72.2.2.2.2.2.2.2.2.2.1 ?_
        refine s10 (x := x5) (ls' := [.ref 9, w1, w2, .int (oI x3), .int (oI x4), .int (oI (x5 + 1)), .int (oI 1)]) rfl rfl ?_
        refine s60 ?_
        exact hE
    · replace hE := hE.2 c4
      refine s4 (x := x5) rfl ?_
      obtain ⟨g11, hE⟩ := hE
      refine sI rc342 rfl (Nat.le_of_ble_eq_true rfl) ?_
      refine k342 g11 ?_
      refine s4 (x := x4) rfl ?_
      obtain ⟨g12, hE⟩ := hE
      refine sI rc342 rfl (Nat.le_of_ble_eq_true rfl) ?_
      refine k342 g12 ?_
      obtain ⟨g13, hE⟩ := hE
      obtain ⟨g14, hE⟩ := hE
      refine s64 g13 g14 (fun c15 => ?_) (fun c15 => ?_)
      · replace hE := hE.1 c15
        refine s79 ?_
        refine xG gb72.2.2.2.2.2.2.1 ?_
        refine s0 ?_
        refine s60 ?_
        refine xG gb72.2.2.2.2.2.2.2.2.1 ?_
        refine s7 (ls' := [.ref 9, w1, w2, .int (oI x3), .int (oI x4), .int (oI x5), .int (oI 1)]) (Nat.le_of_ble_eq_true rfl) rfl ?_
        refine s4 (x := 1) rfl ?_
        refine s67 (inRd rfl) (fun c16 => absurd c16 (by decide)) (fun _ => ?_)
        refine s4 (x := x3) rfl ?_
        refine s6 (p := 9) rfl ?_
        refine s4 (x := x5) rfl ?_
        obtain ⟨g17, hE⟩ := hE
        obtain ⟨r18, k19, k20, hE⟩ := hE
        refine sI rc74 rfl (Nat.le_of_ble_eq_true rfl) ?_
        refine k74 hC g17 k19 k20 ?_
        refine s0 ?_
        refine s27 ?_
        refine s25 ?_
        refine s68 (inR_toInt _) (fun c21 => ?_) (fun c21 => ?_)
        · replace hE := hE.1 c21
          refine s4 (x := x5) rfl ?_
          refine s7 (ls' := [.ref 9, w1, w2, .int (oI x3), .int (oI x5), .int (oI x5), .int (oI 1)]) (Nat.le_of_ble_eq_true rfl) rfl ?_
          refine s79 ?_
          refine xG gb72.2.2.2.2.2.2.2.2.2.1 ?_
          refine s10 (x := x5) (ls' := [.ref 9, w1, w2, .int (oI x3), .int (oI x5), .int (oI (x5 + 1)), .int (oI 1)]) rfl rfl ?_
          refine s60 ?_
          exact hE
        · replace hE := hE.2 c21
          refine xG gb72.2.2.2.2.2.2.2.2.2.1 ?_
          refine s10 (x := x5) (ls' := [.ref 9, w1, w2, .int (oI x3), .int (oI x4), .int (oI (x5 + 1)), .int (oI 1)]) rfl rfl ?_
          refine s60 ?_
          exact hE
      · replace hE := hE.2 c15
        refine xG gb72.2.2.2.2.2.2.2.1 ?_
        refine s0 ?_
        refine s79 ?_
        refine xG gb72.2.2.2.2.2.2.2.2.1 ?_
        refine s7 (ls' := [.ref 9, w1, w2, .int (oI x3), .int (oI x4), .int (oI x5), .int (oI 0)]) (Nat.le_of_ble_eq_true rfl) rfl ?_
        refine s4 (x := 0) rfl ?_
        refine s67 (inRd rfl) (fun _ => ?_) (fun c22 => absurd (by decide) c22)
        refine xG gb72.2.2.2.2.2.2.2.2.2.1 ?_
        refine s10 (x := x5) (ls' := [.ref 9, w1, w2, .int (oI x3), .int (oI x4), .int (oI (x5 + 1)), .int (oI 0)]) rfl rfl ?_
        refine s60 ?_
        exact hE
  · replace hE := hE.2 c2
    refine xG gb72.2.2.2.2.2.2.2.2.2.2 ?_
    refine s4 (x := x4) rfl ?_
    refine s80 ?_
    exact hE
set_option maxRecDepth 4000 in
theorem e72 {d L : Nat} {I : Nat → Nat → Int32} {R : Nat → Nat → Option Nat} {S : List (Nat × Nat)} {K : Int32 → mM → Prop} {A : aS} (hC : RC R S I A) {x1 : Int} {x2 : Int} (hE : h72_1 d L I R S (rqI K) (.int (oI x1)) x2 x1 0 mUn mUn) : CallI d 72 [.ref 9, .int (oI x1), .int (oI x2)] (bd L I R S) K := by
  refine cI_of (ls := [.ref 9, .int (oI x1), .int (oI x2), mUn, mUn, mUn, mUn]) rfl ?_
  refine xG gb72.1 ?_
  refine s4 (x := x1) rfl ?_
  refine s7 (ls' := [.ref 9, .int (oI x1), .int (oI x2), .int (oI x1), mUn, mUn, mUn]) (Nat.le_of_ble_eq_true rfl) rfl ?_
  refine s0 ?_
  refine s7 (ls' := [.ref 9, .int (oI x1), .int (oI x2), .int (oI x1), .int (oI 0), mUn, mUn]) (Nat.le_of_ble_eq_true rfl) rfl ?_
  refine s79 ?_
  exact hE
