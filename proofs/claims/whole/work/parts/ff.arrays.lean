/-! arrays of bytes copied -/
def CpA (I I1 : mI) (a b n : Nat) : Prop := (∀ c k, ¬ c = b → I1 c k = I c k) ∧ ∀ k, I1 b k = if k < n then I a k else I b k
def AlK (a n : Nat) (I : mI) (R : mR) (S : mSh) (p : Nat) (I1 : mI) (R1 : mR) (S1 : mSh) : Prop := p = 155 + S.length ∧ S1 = S ++ [(1, n)] ∧ (∀ k, I1 p k = I a k) ∧ (∀ k, R1 p k = none) ∧ ∀ c k, ¬ c = p → I1 c k = I c k ∧ R1 c k = R c k
section
variable {d L a b n na nb p q x y : Nat} {z c v : Int} {is : List mIns} {ls st : List Value} {Q : Option Value → mM → Prop} {I I1 : mI} {R R1 : mR} {S S1 : mSh}
theorem arB.al (h : AlC 1 n I R S p I1 R1 S1) (hn : n ≤ 4000) : arB S1 p n := ⟨Or.inr h.ob, hn⟩
theorem obJ.app {X : mSh} {kd : Nat} (h : obJ S p kd n) : obJ (S ++ X) p kd n := ⟨h.1, by rw [List.getElem?_append_left h.lt]; exact h.2⟩
theorem arB.app {X : mSh} (h : arB S b n) : arB (S ++ X) b n := ⟨h.1.imp id obJ.app, h.2⟩
theorem arB.lt (h : arB S b n) : b < 155 + S.length := by
  rcases h.1 with ⟨rfl, rfl⟩ | h1
  · omega
  · have := h1.lt; have := h1.1; omega
theorem AlK.arB (h : AlK a n I R S p I1 R1 S1) (ha : arB S b n) : arB S1 p n := by
  obtain ⟨rfl, rfl, -⟩ := h
  refine ⟨Or.inr ⟨by omega, ?_⟩, ha.2⟩
  rw [show 155 + S.length - 155 = S.length by omega, List.getElem?_append_right (Nat.le_refl _), Nat.sub_self]
  rfl
theorem s104 {z0 : Int} (h1 : arB S a na) (h2 : arB S b nb) (hl : st.length ≤ 4) (hz : 0 ≤ z ∧ z ≤ (na : Int) ∧ z ≤ (nb : Int)) (hy : ∀ j : Nat, 0 ≤ ld I a j ∧ ld I a j ≤ 127) (h : ∀ I1, CpA I I1 a b z.toNat → Wp (d + 1) is ls st (bd L I1 R S) Q) : Wp (d + 1) ((104, x, y, z0) :: is) ls (.int (oI z) :: .int (oI 0) :: .ref b :: .int (oI 0) :: .ref a :: st) (bd L I R S) Q := by
  have e := h1.le
  have ez : (oI z).toInt = z := toInt_oI ⟨by omega, by omega⟩
  have e0 : (oI 0).toInt = 0 := rfl
  have hn : mnat (104, x, y, z0) (.int (oI z) :: .int (oI 0) :: .ref b :: .int (oI 0) :: .ref a :: st) (bd L I R S) = some (st, bd L (fun c k => if c = b then mCpy (I a) (I b) 0 0 z.toNat k else I c k) R S) := by
    have e1 := h1.sh (L := L) (I := I) (R := R)
    have e2 := h2.sh (L := L) (I := I) (R := R)
    simp only [mnat, e1, e2, ez, e0]
    refine (if_pos ⟨h1.sp, h2.sp, hl, hz.1, Int.le_refl _, Int.le_refl _, by omega, by omega, fun j hj => ?_⟩).trans rfl
    show -128 ≤ ld I a (0 + j) ∧ ld I a (0 + j) ≤ 127
    have := hy (0 + j)
    omega
  rw [w_nat (i := (104, x, y, z0)) (Nat.not_lt_of_le (Nat.le_of_ble_eq_true rfl)) hn]
  refine h _ ⟨fun c k hc => if_neg hc, fun k => ?_⟩
  show (if b = b then mCpy (I a) (I b) 0 0 z.toNat k else I b k) = _
  rw [if_pos rfl]
  unfold mCpy
  by_cases hk : k < z.toNat
  · rw [if_pos hk, if_pos ⟨Nat.zero_le _, by omega⟩, Nat.zero_add, Nat.sub_zero]
  · rw [if_neg hk, if_neg (by omega)]
theorem s105 {z0 : Int} (h1 : arB S a n) (hl : st.length ≤ 4) (hy : ∀ j : Nat, 0 ≤ ld I a j ∧ ld I a j ≤ 127) (h : ∀ p I1 R1 S1, AlK a n I R S p I1 R1 S1 → Wp (d + 1) is ls (.ref p :: st) (bd L I1 R1 S1) Q) : Wp (d + 1) ((105, x, y, z0) :: is) ls (.ref a :: st) (bd L I R S) Q := by
  have hn : mnat (105, x, y, z0) (.ref a :: st) (bd L I R S) = some (.ref (155 + S.length) :: st, bd L (fun c k => if c = 155 + S.length then I a k else I c k) (fun c k => if c = 155 + S.length then none else R c k) (S ++ [(1, n)])) := by
    have e1 := h1.sh (L := L) (I := I) (R := R)
    simp only [mnat, e1]
    rw [mNew_bd, bd_len]
    refine (if_pos ⟨h1.sp, hl, fun j hj => ?_⟩).trans rfl
    show -128 ≤ ld I a j ∧ ld I a j ≤ 127
    have := hy j
    omega
  rw [w_nat (i := (105, x, y, z0)) (Nat.not_lt_of_le (Nat.le_of_ble_eq_true rfl)) hn]
  exact h _ _ _ _ ⟨rfl, rfl, fun _ => if_pos rfl, fun _ => if_pos rfl, fun _ _ hc => ⟨if_neg hc, if_neg hc⟩⟩
theorem s106 {z0 : Int} (h1 : arB S a n) (h : Wp (d + 1) is ls (.ref a :: st) (bd L I R S) Q) : Wp (d + 1) ((106, x, y, z0) :: is) ls (.ref a :: st) (bd L I R S) Q := by
  have hn : mnat (106, x, y, z0) (.ref a :: st) (bd L I R S) = some (.ref a :: st, bd L I R S) := by
    have e1 := h1.sh (L := L) (I := I) (R := R)
    simp only [mnat, e1]
    exact if_pos h1.sp
  rw [w_nat (i := (106, x, y, z0)) (Nat.not_lt_of_le (Nat.le_of_ble_eq_true rfl)) hn]
  exact h
end
set_option maxRecDepth 4000 in
theorem e351 {d L : Nat} {I : Nat → Nat → Int32} {R : Nat → Nat → Option Nat} {S : List (Nat × Nat)} {K : Option Nat → mM → Prop} {b1 n1 : Nat} {x1 : Int} (hE : (arB S b1 n1) ∧ (inR x1 ∧ (((x1 = (n1 : Int)) → (∀ j : Nat, 0 ≤ ld I b1 j ∧ ld I b1 j ≤ 127) ∧ ∀ (p5 : Nat) (I6 : mI) (R7 : mR) (S8 : mSh), (AlK b1 n1 I R S p5 I6 R7 S8) → (K (some p5) (bd L I6 R7 S8))) ∧ (¬ (x1 = (n1 : Int)) → (0 ≤ x1 ∧ x1 ≤ 1000000) ∧ (∀ (p10 : Nat) (I11 : mI) (R12 : mR) (S13 : mSh), (AlC 1 x1.toNat I R S p10 I11 R12 S13) → ((x1.toNat ≤ 4000) ∧ ((arB S13 b1 n1) ∧ ((0 ≤ min (n1 : Int) x1 ∧ min (n1 : Int) x1 ≤ (n1 : Int) ∧ min (n1 : Int) x1 ≤ (x1.toNat : Int)) ∧ (∀ j : Nat, 0 ≤ ld I11 b1 j ∧ ld I11 b1 j ≤ 127) ∧ ∀ (I20 : mI), (CpA I11 I20 b1 p10 (min (n1 : Int) x1).toNat) → (K (some p10) (bd L I20 R12 S13)))))))))) : CallR (d + 1) 351 [.ref b1, .int (oI x1)] (bd L I R S) K := by
  refine cR_of (ls := [.ref b1, .int (oI x1), mUn]) rfl ?_
  refine xG gb351.1 ?_
  refine s4 (x := x1) rfl ?_
  refine s6 (p := b1) rfl ?_
  obtain ⟨k1, hE⟩ := hE
  refine s48 k1.sh (by decide) ?_
  obtain ⟨g2, hE⟩ := hE
  refine s62 g2 k1.inR (fun c3 => ?_) (fun c3 => ?_)
  · replace hE := hE.1 c3
    refine s6 (p := b1) rfl ?_
    obtain ⟨g4, hE⟩ := hE
    refine s105 k1 (Nat.le_of_ble_eq_true rfl) g4 (fun p5 I6 R7 S8 a9 => ?_)
    replace hE := hE p5 I6 R7 S8 a9
    refine s106 (a9.arB k1) ?_
    refine s82o (o := some p5) ?_
    exact rqR_of (x := (some p5)) hE
  · replace hE := hE.2 c3
    refine xG gb351.2 ?_
    refine s4 (x := x1) rfl ?_
    obtain ⟨g15, hE⟩ := hE
    refine s59 g2 g15 (fun p10 I11 R12 S13 a14 => ?_)
    replace hE := hE p10 I11 R12 S13 a14
    obtain ⟨g16, hE⟩ := hE
    refine s9 (ls' := [.ref b1, .int (oI x1), .ref p10]) (Nat.le_of_ble_eq_true rfl) rfl ?_
    refine s6 (p := b1) rfl ?_
    refine s0 ?_
    refine s6 (p := p10) rfl ?_
    refine s0 ?_
    refine s6 (p := b1) rfl ?_
    obtain ⟨k17, hE⟩ := hE
    refine s48 k17.sh (by decide) ?_
    refine s4 (x := x1) rfl ?_
    refine sI rc345 rfl (Nat.le_of_ble_eq_true rfl) ?_
    refine k345 k17.inR g2 ?_
    obtain ⟨g18, g19, hE⟩ := hE
    refine s104 k17 (arB.al a14 g16) (Nat.le_of_ble_eq_true rfl) g18 g19 (fun I20 q21 => ?_)
    replace hE := hE I20 q21
    refine s6 (p := p10) rfl ?_
    refine s82o (o := some p10) ?_
    exact rqR_of (x := (some p10)) hE
set_option maxRecDepth 4000 in
theorem e353 {d L : Nat} {I : Nat → Nat → Int32} {R : Nat → Nat → Option Nat} {S : List (Nat × Nat)} {K : Option Nat → mM → Prop} {b1 n1 : Nat} {x2 : Int} (hE : inR x2 ∧ (((x2 < 0) → False) ∧ (¬ (x2 < 0) → inR (x2 - 0) ∧ ((0 ≤ x2 - 0 ∧ x2 - 0 ≤ 1000000) ∧ (∀ (p3 : Nat) (I4 : mI) (R5 : mR) (S6 : mSh), (AlC 1 ((x2 - 0).toNat) I R S p3 I4 R5 S6) → (((x2 - 0).toNat ≤ 4000) ∧ ((arB S6 b1 n1) ∧ (inR ((n1 : Int) - 0) ∧ ((0 ≤ min ((n1 : Int) - 0) (x2 - 0) ∧ min ((n1 : Int) - 0) (x2 - 0) ≤ (n1 : Int) ∧ min ((n1 : Int) - 0) (x2 - 0) ≤ ((x2 - 0).toNat : Int)) ∧ (∀ j : Nat, 0 ≤ ld I4 b1 j ∧ ld I4 b1 j ≤ 127) ∧ ∀ (I15 : mI), (CpA I4 I15 b1 p3 (min ((n1 : Int) - 0) (x2 - 0)).toNat) → (K (some p3) (bd L I15 R5 S6))))))))))) : CallR (d + 1) 353 [.ref b1, .int (oI 0), .int (oI x2)] (bd L I R S) K := by
  refine cR_of (ls := [.ref b1, .int (oI 0), .int (oI x2), mUn, mUn]) rfl ?_
  refine xG gb353 ?_
  refine s4 (x := 0) rfl ?_
  refine s4 (x := x2) rfl ?_
  refine sV rc354 rfl (Nat.le_of_ble_eq_true rfl) ?_
  refine cV_of (ls := [.int (oI 0), .int (oI x2)]) rfl ?_
  refine xG gb354.1 ?_
  refine s4 (x := x2) rfl ?_
  refine s4 (x := 0) rfl ?_
  obtain ⟨g1, hE⟩ := hE
  refine s64 g1 (inRd rfl) (fun c2 => ?_) (fun c2 => ?_)
  · replace hE := hE.1 c2
    exact hE.elim
  · replace hE := hE.2 c2
    refine xG gb354.2 ?_
    refine s83 ?_
    refine rqV_of ?_
    refine s4 (x := x2) rfl ?_
    refine s4 (x := 0) rfl ?_
    refine s17 ?_
    refine s7 (ls' := [.ref b1, .int (oI 0), .int (oI x2), .int (oI (x2 - 0)), mUn]) (Nat.le_of_ble_eq_true rfl) rfl ?_
    refine s4 (x := x2 - 0) rfl ?_
    obtain ⟨g8, hE⟩ := hE
    obtain ⟨g9, hE⟩ := hE
    refine s59 g8 g9 (fun p3 I4 R5 S6 a7 => ?_)
    replace hE := hE p3 I4 R5 S6 a7
    obtain ⟨g10, hE⟩ := hE
    refine s9 (ls' := [.ref b1, .int (oI 0), .int (oI x2), .int (oI (x2 - 0)), .ref p3]) (Nat.le_of_ble_eq_true rfl) rfl ?_
    refine s6 (p := b1) rfl ?_
    refine s4 (x := 0) rfl ?_
    refine s6 (p := p3) rfl ?_
    refine s0 ?_
    refine s6 (p := b1) rfl ?_
    obtain ⟨k11, hE⟩ := hE
    refine s48 k11.sh (by decide) ?_
    refine s4 (x := 0) rfl ?_
    refine s17 ?_
    refine s4 (x := x2 - 0) rfl ?_
    obtain ⟨g12, hE⟩ := hE
    refine sI rc345 rfl (Nat.le_of_ble_eq_true rfl) ?_
    refine k345 g12 g8 ?_
    obtain ⟨g13, g14, hE⟩ := hE
    refine s104 k11 (arB.al a7 g10) (Nat.le_of_ble_eq_true rfl) g13 g14 (fun I15 q16 => ?_)
    replace hE := hE I15 q16
    refine s6 (p := p3) rfl ?_
    refine s82o (o := some p3) ?_
    exact rqR_of (x := (some p3)) hE
set_option maxRecDepth 4000 in
theorem e352 {d L : Nat} {I : Nat → Nat → Int32} {R : Nat → Nat → Option Nat} {S : List (Nat × Nat)} {K : Option Nat → mM → Prop} {b1 n1 : Nat} {x2 : Int} (hE : (arB S b1 n1) ∧ (inR x2 ∧ (((x2 = (n1 : Int)) → (∀ j : Nat, 0 ≤ ld I b1 j ∧ ld I b1 j ≤ 127) ∧ ∀ (p6 : Nat) (I7 : mI) (R8 : mR) (S9 : mSh), (AlK b1 n1 I R S p6 I7 R8 S9) → (K (some p6) (bd L I7 R8 S9))) ∧ (¬ (x2 = (n1 : Int)) → CallR d 353 [.ref b1, .int (oI 0), .int (oI x2)] (bd L I R S) (fun o14 s => ∃ (I11 : mI) (R12 : mR) (S13 : mSh), s = bd L I11 R12 S13 ∧ (K o14 (bd L I11 R12 S13))))))) : CallR (d + 1) 352 [.ref b1, .int (oI 0), .int (oI x2)] (bd L I R S) K := by
  refine cR_of (ls := [.ref b1, .int (oI 0), .int (oI x2)]) rfl ?_
  refine xG gb352.1 ?_
  refine s4 (x := 0) rfl ?_
  refine s68 (inRd rfl) (fun _ => ?_) (fun c1 => absurd (by decide) c1)
  refine s4 (x := x2) rfl ?_
  refine s6 (p := b1) rfl ?_
  obtain ⟨k2, hE⟩ := hE
  refine s48 k2.sh (by decide) ?_
  obtain ⟨g3, hE⟩ := hE
  refine s61 g3 k2.inR (fun c4 => ?_) (fun c4 => ?_)
  · replace hE := hE.1 c4
    refine xG gb352.2.2 ?_
    refine s6 (p := b1) rfl ?_
    obtain ⟨g5, hE⟩ := hE
    refine s105 k2 (Nat.le_of_ble_eq_true rfl) g5 (fun p6 I7 R8 S9 a10 => ?_)
    replace hE := hE p6 I7 R8 S9 a10
    refine s106 (a10.arB k2) ?_
    refine s82o (o := some p6) ?_
    exact rqR_of (x := (some p6)) hE
  · replace hE := hE.2 c4
    refine s79 ?_
    refine xG gb352.2.1 ?_
    refine s6 (p := b1) rfl ?_
    refine s4 (x := 0) rfl ?_
    refine s4 (x := x2) rfl ?_
    refine sR rc353 rfl (Nat.le_of_ble_eq_true rfl) ?_
    refine CallR.mono hE ?_
    rintro o14 _ ⟨I11, R12, S13, rfl, hE⟩
    refine s82o ?_
    exact rqR_of (x := o14) hE
section
variable {d L b n m : Nat} {I : mI} {R : mR} {S : mSh} {K : Option Nat → mM → Prop}
/-- a longer copy of b: m bytes -/
def CpN (b n m : Nat) (I : mI) (R : mR) (S : mSh) (p : Nat) (I1 : mI) (R1 : mR) (S1 : mSh) : Prop := p = 155 + S.length ∧ S1 = S ++ [(1, m)] ∧ (∀ k, I1 p k = if k < n then I b k else 0) ∧ (∀ c k, ¬ c = p → I1 c k = I c k) ∧ ∀ c k, ¬ c = p → R1 c k = R c k
theorem k351 (hb : arB S b n) (hy : ∀ j : Nat, 0 ≤ ld I b j ∧ ld I b j ≤ 127) (hm : n < m ∧ m ≤ 4000) (hK : ∀ p I1 R1 S1, CpN b n m I R S p I1 R1 S1 → K (some p) (bd L I1 R1 S1)) : CallR (d + 2) 351 [.ref b, .int (oI (m : Int))] (bd L I R S) K := by
  refine e351 (d := d + 1) ⟨hb, ⟨by omega, by omega⟩, fun c => absurd c (by omega), fun _ => ⟨by omega, fun p I1 R1 S1 ha => ?_⟩⟩
  have hmn : min (n : Int) (m : Int) = (n : Int) := Int.min_eq_left (by omega)
  rw [hmn]
  have hlt := hb.lt
  have hp := ha.1
  have hS : S1 = S ++ [(1, m)] := by rw [ha.2.1, Int.toNat_natCast]
  refine ⟨by omega, by rw [hS]; exact hb.app, ⟨by omega, by omega, by omega⟩, fun j => ?_, fun I2 hc => hK p I2 R1 S1 ⟨hp, hS, fun k => ?_, fun c k hne => ?_, fun c k hne => (ha.2.2.2.2 c k hne).2⟩⟩
  · have e : I1 b j = I b j := (ha.2.2.2.2 b j (by omega)).1
    show 0 ≤ (I1 b j).toInt ∧ (I1 b j).toInt ≤ 127
    rw [e]; exact hy j
  · rw [hc.2 k, Int.toNat_natCast]
    by_cases hk : k < n
    · rw [if_pos hk, if_pos hk]; exact (ha.2.2.2.2 b k (by omega)).1
    · rw [if_neg hk, if_neg hk]; exact ha.2.2.1 k
  · exact (hc.1 c k hne).trans (ha.2.2.2.2 c k hne).1
theorem k352 (hb : arB S b n) (hy : ∀ j : Nat, 0 ≤ ld I b j ∧ ld I b j ≤ 127) (hm : m ≤ n) (hK : ∀ p I1 R1 S1, p = 155 + S.length → S1 = S ++ [(1, m)] → (∀ k, k < m → I1 p k = I b k) → (∀ c k, ¬ c = p → I1 c k = I c k) → (∀ c k, ¬ c = p → R1 c k = R c k) → K (some p) (bd L I1 R1 S1)) : CallR (d + 4) 352 [.ref b, .int (oI 0), .int (oI (m : Int))] (bd L I R S) K := by
  have hlt := hb.lt
  have hn := hb.2
  refine e352 (d := d + 3) ⟨hb, ⟨by omega, by omega⟩, fun c => ?_, fun c => ?_⟩
  · refine ⟨hy, fun p I1 R1 S1 ha => hK p I1 R1 S1 ha.1 (by rw [ha.2.1, show m = n by omega]) (fun k _ => ha.2.2.1 k) (fun c k hc => (ha.2.2.2.2 c k hc).1) (fun c k hc => (ha.2.2.2.2 c k hc).2)⟩
  · refine e353 (d := d + 2) (n1 := n) ⟨⟨by omega, by omega⟩, fun c => absurd c (by omega), fun _ => ?_⟩
    rw [show (m : Int) - 0 = (m : Int) by omega]
    refine ⟨⟨by omega, by omega⟩, by omega, fun p I1 R1 S1 ha => ?_⟩
    have hp := ha.1
    have hS : S1 = S ++ [(1, m)] := by rw [ha.2.1, Int.toNat_natCast]
    rw [show (n : Int) - 0 = (n : Int) by omega]
    have hmn : min (n : Int) (m : Int) = (m : Int) := Int.min_eq_right (by omega)
    rw [hmn]
    refine ⟨by omega, by rw [hS]; exact hb.app, ⟨by omega, by omega⟩, ⟨by omega, by omega, by omega⟩, fun j => ?_, fun I2 hc => ⟨_, _, _, rfl, hK p I2 R1 S1 hp hS (fun k hk => ?_) (fun c k hne => ?_) (fun c k hne => (ha.2.2.2.2 c k hne).2)⟩⟩
    · have e : I1 b j = I b j := (ha.2.2.2.2 b j (by omega)).1
      show 0 ≤ (I1 b j).toInt ∧ (I1 b j).toInt ≤ 127
      rw [e]; exact hy j
    · rw [hc.2 k, Int.toNat_natCast, if_pos hk]; exact (ha.2.2.2.2 b k (by omega)).1
    · exact (hc.1 c k hne).trans (ha.2.2.2.2 c k hne).1
end
