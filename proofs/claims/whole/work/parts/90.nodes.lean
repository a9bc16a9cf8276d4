/-! the reference: trees written, as they are walked -/
def nmW (x : Int) : Int64 := if x = 0 then Int64.ofInt 6383461 else (if x = 1 then Int64.ofInt 8319381538418553444 else (if x = 2 then Int64.ofInt 6578553 else (if x = 3 then Int64.ofInt 2036687218 else (if x = 4 then Int64.ofInt 1751215206 else (if x = 5 then Int64.ofInt 28561341215368548 else (if x = 6 then Int64.ofInt 499984983410 else (if x = 7 then Int64.ofInt 123563851081075 else (if x = 8 then Int64.ofInt 8175547842767975027 else (if x = 9 then Int64.ofInt 32498687873999732 else (if x = 10 then Int64.ofInt 1835102827 else Int64.ofInt 1886351218))))))))))
def bdW (x : Int) : Int64 := if x = 1 then Int64.ofInt 427071729268 else (if x = 2 then Int64.ofInt 111567739122533 else (if x = 3 then Int64.ofInt 107152796905060 else (if x = 4 then Int64.ofInt 1885434739 else (if x = 5 then Int64.ofInt 1919513445 else (if x = 6 then Int64.ofInt 444300619380 else (if x = 7 then Int64.ofInt 6513008 else (if x = 8 then Int64.ofInt 6710629 else (if x = 9 then Int64.ofInt 1751215206 else (if x = 10 then Int64.ofInt 1919905645 else (if x = 11 then Int64.ofInt 495873779302 else (if x = 12 then Int64.ofInt 1937007984 else (if x = 13 then Int64.ofInt 7364985 else (if x = 14 then Int64.ofInt 499917087592 else Int64.ofInt 495756340332)))))))))))))
set_option maxRecDepth 4000 in
theorem e329 {d L : Nat} {I : Nat → Nat → Int32} {R : Nat → Nat → Option Nat} {S : List (Nat × Nat)} {K : Int64 → mM → Prop}  {x0 : Int} (hE : inR x0 ∧ ((x0 = 0 → K (Int64.ofInt 6383461) (bd L I R S)) ∧ (x0 = 1 → K (Int64.ofInt 8319381538418553444) (bd L I R S)) ∧ (x0 = 2 → K (Int64.ofInt 6578553) (bd L I R S)) ∧ (x0 = 3 → K (Int64.ofInt 2036687218) (bd L I R S)) ∧ (x0 = 4 → K (Int64.ofInt 1751215206) (bd L I R S)) ∧ (x0 = 5 → K (Int64.ofInt 28561341215368548) (bd L I R S)) ∧ (x0 = 6 → K (Int64.ofInt 499984983410) (bd L I R S)) ∧ (x0 = 7 → K (Int64.ofInt 123563851081075) (bd L I R S)) ∧ (x0 = 8 → K (Int64.ofInt 8175547842767975027) (bd L I R S)) ∧ (x0 = 9 → K (Int64.ofInt 32498687873999732) (bd L I R S)) ∧ (x0 = 10 → K (Int64.ofInt 1835102827) (bd L I R S)) ∧ (¬ x0 = 0 ∧ ¬ x0 = 1 ∧ ¬ x0 = 2 ∧ ¬ x0 = 3 ∧ ¬ x0 = 4 ∧ ¬ x0 = 5 ∧ ¬ x0 = 6 ∧ ¬ x0 = 7 ∧ ¬ x0 = 8 ∧ ¬ x0 = 9 ∧ ¬ x0 = 10 → K (Int64.ofInt 1886351218) (bd L I R S)))) : CallL d 329 [.int (oI x0)] (bd L I R S) K := by
  refine cL_of (ls := [.int (oI x0)]) rfl ?_
  refine xG gb329.1 ?_
  refine s4 (x := x0) rfl ?_
  obtain ⟨g1, hE⟩ := hE
  refine s76 g1 ?_
  by_cases c2 : x0 = 0
  · replace hE := hE.1 c2
    rw [show mSel ((jSW.getD 329 []).getD 0 []) (x0 - 0) = 1 by rw [c2]; rfl]
    refine xG gb329.2.1 ?_
    refine s2 ?_
    refine s81 ?_
    exact rqL_of hE
  replace hE := hE.2
  by_cases c3 : x0 = 1
  · replace hE := hE.1 c3
    rw [show mSel ((jSW.getD 329 []).getD 0 []) (x0 - 0) = 2 by rw [c3]; rfl]
    refine xG gb329.2.2.1 ?_
    refine s2 ?_
    refine s81 ?_
    exact rqL_of hE
  replace hE := hE.2
  by_cases c4 : x0 = 2
  · replace hE := hE.1 c4
    rw [show mSel ((jSW.getD 329 []).getD 0 []) (x0 - 0) = 3 by rw [c4]; rfl]
    refine xG gb329.2.2.2.1 ?_
    refine s2 ?_
    refine s81 ?_
    exact rqL_of hE
  replace hE := hE.2
  by_cases c5 : x0 = 3
  · replace hE := hE.1 c5
    rw [show mSel ((jSW.getD 329 []).getD 0 []) (x0 - 0) = 4 by rw [c5]; rfl]
    refine xG gb329.2.2.2.2.1 ?_
    refine s2 ?_
    refine s81 ?_
    exact rqL_of hE
  replace hE := hE.2
  by_cases c6 : x0 = 4
  · replace hE := hE.1 c6
    rw [show mSel ((jSW.getD 329 []).getD 0 []) (x0 - 0) = 5 by rw [c6]; rfl]
    refine xG gb329.2.2.2.2.2.1 ?_
    refine s2 ?_
    refine s81 ?_
    exact rqL_of hE
  replace hE := hE.2
  by_cases c7 : x0 = 5
  · replace hE := hE.1 c7
    rw [show mSel ((jSW.getD 329 []).getD 0 []) (x0 - 0) = 6 by rw [c7]; rfl]
    refine xG gb329.2.2.2.2.2.2.1 ?_
    refine s2 ?_
    refine s81 ?_
    exact rqL_of hE
  replace hE := hE.2
  by_cases c8 : x0 = 6
  · replace hE := hE.1 c8
    rw [show mSel ((jSW.getD 329 []).getD 0 []) (x0 - 0) = 7 by rw [c8]; rfl]
    refine xG gb329.2.2.2.2.2.2.2.1 ?_
    refine s2 ?_
    refine s81 ?_
    exact rqL_of hE
  replace hE := hE.2
  by_cases c9 : x0 = 7
  · replace hE := hE.1 c9
    rw [show mSel ((jSW.getD 329 []).getD 0 []) (x0 - 0) = 8 by rw [c9]; rfl]
    refine xG gb329.2.2.2.2.2.2.2.2.1 ?_
    refine s2 ?_
    refine s81 ?_
    exact rqL_of hE
  replace hE := hE.2
  by_cases c10 : x0 = 8
  · replace hE := hE.1 c10
    rw [show mSel ((jSW.getD 329 []).getD 0 []) (x0 - 0) = 9 by rw [c10]; rfl]
    refine xG gb329.2.2.2.2.2.2.2.2.2.1 ?_
    refine s2 ?_
    refine s81 ?_
    exact rqL_of hE
  replace hE := hE.2
  by_cases c11 : x0 = 9
  · replace hE := hE.1 c11
    rw [show mSel ((jSW.getD 329 []).getD 0 []) (x0 - 0) = 10 by rw [c11]; rfl]
    refine xG gb329.2.2.2.2.2.2.2.2.2.2.1 ?_
    refine s2 ?_
    refine s81 ?_
    exact rqL_of hE
  replace hE := hE.2
  by_cases c12 : x0 = 10
  · replace hE := hE.1 c12
    rw [show mSel ((jSW.getD 329 []).getD 0 []) (x0 - 0) = 11 by rw [c12]; rfl]
    refine xG gb329.2.2.2.2.2.2.2.2.2.2.2.1 ?_
    refine s2 ?_
    refine s81 ?_
    exact rqL_of hE
  replace hE := hE.2
  replace hE := hE ⟨c2, c3, c4, c5, c6, c7, c8, c9, c10, c11, c12⟩
  rw [show mSel ((jSW.getD 329 []).getD 0 []) (x0 - 0) = 12 by exact mSel_def (lo := 0) (vs := [0, 1, 2, 3, 4, 5, 6, 7, 8, 9, 10]) rfl (by intro v hv; simp only [List.mem_cons, List.not_mem_nil, or_false] at hv; omega)]
  refine xG gb329.2.2.2.2.2.2.2.2.2.2.2.2 ?_
  refine s2 ?_
  refine s81 ?_
  exact rqL_of hE
set_option maxRecDepth 4000 in
theorem e326 {d L : Nat} {I : Nat → Nat → Int32} {R : Nat → Nat → Option Nat} {S : List (Nat × Nat)} {K : Int64 → mM → Prop}  {x0 : Int} (hE : inR x0 ∧ ((x0 = 1 → K (Int64.ofInt 427071729268) (bd L I R S)) ∧ (x0 = 2 → K (Int64.ofInt 111567739122533) (bd L I R S)) ∧ (x0 = 3 → K (Int64.ofInt 107152796905060) (bd L I R S)) ∧ (x0 = 4 → K (Int64.ofInt 1885434739) (bd L I R S)) ∧ (x0 = 5 → K (Int64.ofInt 1919513445) (bd L I R S)) ∧ (x0 = 6 → K (Int64.ofInt 444300619380) (bd L I R S)) ∧ (x0 = 7 → K (Int64.ofInt 6513008) (bd L I R S)) ∧ (x0 = 8 → K (Int64.ofInt 6710629) (bd L I R S)) ∧ (x0 = 9 → K (Int64.ofInt 1751215206) (bd L I R S)) ∧ (x0 = 10 → K (Int64.ofInt 1919905645) (bd L I R S)) ∧ (x0 = 11 → K (Int64.ofInt 495873779302) (bd L I R S)) ∧ (x0 = 12 → K (Int64.ofInt 1937007984) (bd L I R S)) ∧ (x0 = 13 → K (Int64.ofInt 7364985) (bd L I R S)) ∧ (x0 = 14 → K (Int64.ofInt 499917087592) (bd L I R S)) ∧ (¬ x0 = 1 ∧ ¬ x0 = 2 ∧ ¬ x0 = 3 ∧ ¬ x0 = 4 ∧ ¬ x0 = 5 ∧ ¬ x0 = 6 ∧ ¬ x0 = 7 ∧ ¬ x0 = 8 ∧ ¬ x0 = 9 ∧ ¬ x0 = 10 ∧ ¬ x0 = 11 ∧ ¬ x0 = 12 ∧ ¬ x0 = 13 ∧ ¬ x0 = 14 → K (Int64.ofInt 495756340332) (bd L I R S)))) : CallL d 326 [.int (oI x0)] (bd L I R S) K := by
  refine cL_of (ls := [.int (oI x0)]) rfl ?_
  refine xG gb326.1 ?_
  refine s4 (x := x0) rfl ?_
  obtain ⟨g1, hE⟩ := hE
  refine s76 g1 ?_
  by_cases c2 : x0 = 1
  · replace hE := hE.1 c2
    rw [show mSel ((jSW.getD 326 []).getD 0 []) (x0 - 1) = 1 by rw [c2]; rfl]
    refine xG gb326.2.1 ?_
    refine s2 ?_
    refine s81 ?_
    exact rqL_of hE
  replace hE := hE.2
  by_cases c3 : x0 = 2
  · replace hE := hE.1 c3
    rw [show mSel ((jSW.getD 326 []).getD 0 []) (x0 - 1) = 2 by rw [c3]; rfl]
    refine xG gb326.2.2.1 ?_
    refine s2 ?_
    refine s81 ?_
    exact rqL_of hE
  replace hE := hE.2
  by_cases c4 : x0 = 3
  · replace hE := hE.1 c4
    rw [show mSel ((jSW.getD 326 []).getD 0 []) (x0 - 1) = 3 by rw [c4]; rfl]
    refine xG gb326.2.2.2.1 ?_
    refine s2 ?_
    refine s81 ?_
    exact rqL_of hE
  replace hE := hE.2
  by_cases c5 : x0 = 4
  · replace hE := hE.1 c5
    rw [show mSel ((jSW.getD 326 []).getD 0 []) (x0 - 1) = 4 by rw [c5]; rfl]
    refine xG gb326.2.2.2.2.1 ?_
    refine s2 ?_
    refine s81 ?_
    exact rqL_of hE
  replace hE := hE.2
  by_cases c6 : x0 = 5
  · replace hE := hE.1 c6
    rw [show mSel ((jSW.getD 326 []).getD 0 []) (x0 - 1) = 5 by rw [c6]; rfl]
    refine xG gb326.2.2.2.2.2.1 ?_
    refine s2 ?_
    refine s81 ?_
    exact rqL_of hE
  replace hE := hE.2
  by_cases c7 : x0 = 6
  · replace hE := hE.1 c7
    rw [show mSel ((jSW.getD 326 []).getD 0 []) (x0 - 1) = 6 by rw [c7]; rfl]
    refine xG gb326.2.2.2.2.2.2.1 ?_
    refine s2 ?_
    refine s81 ?_
    exact rqL_of hE
  replace hE := hE.2
  by_cases c8 : x0 = 7
  · replace hE := hE.1 c8
    rw [show mSel ((jSW.getD 326 []).getD 0 []) (x0 - 1) = 7 by rw [c8]; rfl]
    refine xG gb326.2.2.2.2.2.2.2.1 ?_
    refine s2 ?_
    refine s81 ?_
    exact rqL_of hE
  replace hE := hE.2
  by_cases c9 : x0 = 8
  · replace hE := hE.1 c9
    rw [show mSel ((jSW.getD 326 []).getD 0 []) (x0 - 1) = 8 by rw [c9]; rfl]
    refine xG gb326.2.2.2.2.2.2.2.2.1 ?_
    refine s2 ?_
    refine s81 ?_
    exact rqL_of hE
  replace hE := hE.2
  by_cases c10 : x0 = 9
  · replace hE := hE.1 c10
    rw [show mSel ((jSW.getD 326 []).getD 0 []) (x0 - 1) = 9 by rw [c10]; rfl]
    refine xG gb326.2.2.2.2.2.2.2.2.2.1 ?_
    refine s2 ?_
    refine s81 ?_
    exact rqL_of hE
  replace hE := hE.2
  by_cases c11 : x0 = 10
  · replace hE := hE.1 c11
    rw [show mSel ((jSW.getD 326 []).getD 0 []) (x0 - 1) = 10 by rw [c11]; rfl]
    refine xG gb326.2.2.2.2.2.2.2.2.2.2.1 ?_
    refine s2 ?_
    refine s81 ?_
    exact rqL_of hE
  replace hE := hE.2
  by_cases c12 : x0 = 11
  · replace hE := hE.1 c12
    rw [show mSel ((jSW.getD 326 []).getD 0 []) (x0 - 1) = 11 by rw [c12]; rfl]
    refine xG gb326.2.2.2.2.2.2.2.2.2.2.2.1 ?_
    refine s2 ?_
    refine s81 ?_
    exact rqL_of hE
  replace hE := hE.2
  by_cases c13 : x0 = 12
  · replace hE := hE.1 c13
    rw [show mSel ((jSW.getD 326 []).getD 0 []) (x0 - 1) = 12 by rw [c13]; rfl]
    refine xG gb326.2.2.2.2.2.2.2.2.2.2.2.2.1 ?_
    refine s2 ?_
    refine s81 ?_
    exact rqL_of hE
  replace hE := hE.2
  by_cases c14 : x0 = 13
  · replace hE := hE.1 c14
    rw [show mSel ((jSW.getD 326 []).getD 0 []) (x0 - 1) = 13 by rw [c14]; rfl]
    refine xG gb326.2.2.2.2.2.2.2.2.2.2.2.2.2.1 ?_
    refine s2 ?_
    refine s81 ?_
    exact rqL_of hE
  replace hE := hE.2
  by_cases c15 : x0 = 14
  · replace hE := hE.1 c15
    rw [show mSel ((jSW.getD 326 []).getD 0 []) (x0 - 1) = 14 by rw [c15]; rfl]
    refine xG gb326.2.2.2.2.2.2.2.2.2.2.2.2.2.2.1 ?_
    refine s2 ?_
    refine s81 ?_
    exact rqL_of hE
  replace hE := hE.2
  replace hE := hE ⟨c2, c3, c4, c5, c6, c7, c8, c9, c10, c11, c12, c13, c14, c15⟩
  rw [show mSel ((jSW.getD 326 []).getD 0 []) (x0 - 1) = 15 by exact mSel_def (lo := 1) (vs := [1, 2, 3, 4, 5, 6, 7, 8, 9, 10, 11, 12, 13, 14]) rfl (by intro v hv; simp only [List.mem_cons, List.not_mem_nil, or_false] at hv; omega)]
  refine xG gb326.2.2.2.2.2.2.2.2.2.2.2.2.2.2.2 ?_
  refine s2 ?_
  refine s81 ?_
  exact rqL_of hE
section
variable {d L : Nat} {I : mI} {R : Nat → Nat → Option Nat} {S : List (Nat × Nat)} {K : Int64 → mM → Prop} {x : Int}
theorem k329 (hx : inR x) (h : K (nmW x) (bd L I R S)) : CallL d 329 [.int (oI x)] (bd L I R S) K := by
  refine e329 ⟨hx, ?_⟩
  unfold nmW at h
  refine ⟨fun c => by subst c; exact h, ?_⟩
  refine ⟨fun c => by subst c; exact h, ?_⟩
  refine ⟨fun c => by subst c; exact h, ?_⟩
  refine ⟨fun c => by subst c; exact h, ?_⟩
  refine ⟨fun c => by subst c; exact h, ?_⟩
  refine ⟨fun c => by subst c; exact h, ?_⟩
  refine ⟨fun c => by subst c; exact h, ?_⟩
  refine ⟨fun c => by subst c; exact h, ?_⟩
  refine ⟨fun c => by subst c; exact h, ?_⟩
  refine ⟨fun c => by subst c; exact h, ?_⟩
  refine ⟨fun c => by subst c; exact h, ?_⟩
  intro c
  rw [if_neg c.1, if_neg c.2.1, if_neg c.2.2.1, if_neg c.2.2.2.1, if_neg c.2.2.2.2.1, if_neg c.2.2.2.2.2.1, if_neg c.2.2.2.2.2.2.1, if_neg c.2.2.2.2.2.2.2.1, if_neg c.2.2.2.2.2.2.2.2.1, if_neg c.2.2.2.2.2.2.2.2.2.1, if_neg c.2.2.2.2.2.2.2.2.2.2] at h
  exact h
theorem k326 (hx : inR x) (h : K (bdW x) (bd L I R S)) : CallL d 326 [.int (oI x)] (bd L I R S) K := by
  refine e326 ⟨hx, ?_⟩
  unfold bdW at h
  refine ⟨fun c => by subst c; exact h, ?_⟩
  refine ⟨fun c => by subst c; exact h, ?_⟩
  refine ⟨fun c => by subst c; exact h, ?_⟩
  refine ⟨fun c => by subst c; exact h, ?_⟩
  refine ⟨fun c => by subst c; exact h, ?_⟩
  refine ⟨fun c => by subst c; exact h, ?_⟩
  refine ⟨fun c => by subst c; exact h, ?_⟩
  refine ⟨fun c => by subst c; exact h, ?_⟩
  refine ⟨fun c => by subst c; exact h, ?_⟩
  refine ⟨fun c => by subst c; exact h, ?_⟩
  refine ⟨fun c => by subst c; exact h, ?_⟩
  refine ⟨fun c => by subst c; exact h, ?_⟩
  refine ⟨fun c => by subst c; exact h, ?_⟩
  refine ⟨fun c => by subst c; exact h, ?_⟩
  intro c
  rw [if_neg c.1, if_neg c.2.1, if_neg c.2.2.1, if_neg c.2.2.2.1, if_neg c.2.2.2.2.1, if_neg c.2.2.2.2.2.1, if_neg c.2.2.2.2.2.2.1, if_neg c.2.2.2.2.2.2.2.1, if_neg c.2.2.2.2.2.2.2.2.1, if_neg c.2.2.2.2.2.2.2.2.2.1, if_neg c.2.2.2.2.2.2.2.2.2.2.1, if_neg c.2.2.2.2.2.2.2.2.2.2.2.1, if_neg c.2.2.2.2.2.2.2.2.2.2.2.2.1, if_neg c.2.2.2.2.2.2.2.2.2.2.2.2.2] at h
  exact h
end
def R328 (d L : Nat) (I : mI) (R : Nat → Nat → Option Nat) (S : List (Nat × Nat)) (k c : Int) : Prop := ∀ K : Int32 → mM → Prop, K (oI c) (bd L I R S) → CallI d 328 [.ref 91, .int (oI k)] (bd L I R S) K
set_option maxRecDepth 4000 in
theorem e328 {d L : Nat} {I : Nat → Nat → Int32} {R : Nat → Nat → Option Nat} {S : List (Nat × Nat)} {K : Int32 → mM → Prop} {A : aS} (hR : RM I A) {x1 : Int} (hE : (0 ≤ x1 ∧ x1 < 7200) ∧ (((A 144 x1.toNat = 2) → K (oI 2) (bd L I R S)) ∧ (¬ (A 144 x1.toNat = 2) → ((A 144 x1.toNat = 3) → K (oI 2) (bd L I R S)) ∧ (¬ (A 144 x1.toNat = 3) → (0 ≤ A 145 x1.toNat ∧ A 145 x1.toNat < 7200) ∧ (((A 146 (A 145 x1.toNat).toNat = (-1)) → ∃ (b6 : Int), R328 d L I R S (A 145 x1.toNat) b6 ∧ (K (oI b6) (bd L I R S))) ∧ (¬ (A 146 (A 145 x1.toNat).toNat = (-1)) → ((A 144 x1.toNat = 0) → K (oI 0) (bd L I R S)) ∧ (¬ (A 144 x1.toNat = 0) → K (oI 1) (bd L I R S)))))))) : CallI (d + 1) 328 [.ref 91, .int (oI x1)] (bd L I R S) K := by
  refine cI_of (ls := [.ref 91, .int (oI x1), mUn]) rfl ?_
  refine xG gb328.1 ?_
  refine s6 (p := 91) rfl ?_
  refine s51 sh91 (by decide) (by decide) rf91_79 ?_
  refine s4 (x := x1) rfl ?_
  obtain ⟨g1, hE⟩ := hE
  refine s40 (v := A 144 x1.toNat) sh144 g1 rfl (rdM hR.1 rfl) ?_
  refine s0 ?_
  refine s61 (inA hR.1 (a := 144) (k := x1.toNat) rfl) (inRd rfl) (fun c2 => ?_) (fun c2 => ?_)
  · replace hE := hE.1 c2
    refine xG gb328.2.1 ?_
    refine s0 ?_
    refine s80 ?_
    exact rqI_of hE
  · replace hE := hE.2 c2
    refine s6 (p := 91) rfl ?_
    refine s51 sh91 (by decide) (by decide) rf91_79 ?_
    refine s4 (x := x1) rfl ?_
    refine s40 (v := A 144 x1.toNat) sh144 g1 rfl (rdM hR.1 rfl) ?_
    refine s0 ?_
    refine s62 (inA hR.1 (a := 144) (k := x1.toNat) rfl) (inRd rfl) (fun c3 => ?_) (fun c3 => ?_)
    · replace hE := hE.1 c3
      refine s79 ?_
      refine xG gb328.2.1 ?_
      refine s0 ?_
      refine s80 ?_
      exact rqI_of hE
    · replace hE := hE.2 c3
      refine xG gb328.2.2.1 ?_
      refine s6 (p := 91) rfl ?_
      refine s51 sh91 (by decide) (by decide) rf91_80 ?_
      refine s4 (x := x1) rfl ?_
      refine s40 (v := A 145 x1.toNat) sh145 g1 rfl (rdM hR.1 rfl) ?_
      refine s7 (ls' := [.ref 91, .int (oI x1), .int (oI (A 145 x1.toNat))]) (Nat.le_of_ble_eq_true rfl) rfl ?_
      refine s6 (p := 91) rfl ?_
      refine s51 sh91 (by decide) (by decide) rf91_81 ?_
      refine s4 (x := A 145 x1.toNat) rfl ?_
      obtain ⟨g4, hE⟩ := hE
      refine s40 (v := A 146 (A 145 x1.toNat).toNat) sh146 g4 rfl (rdM hR.1 rfl) ?_
      refine s0 ?_
      refine s61 (inA hR.1 (a := 146) (k := (A 145 x1.toNat).toNat) rfl) (inRd rfl) (fun c5 => ?_) (fun c5 => ?_)
      · replace hE := hE.1 c5
        refine xG gb328.2.2.2.2.2 ?_
        refine s6 (p := 91) rfl ?_
        refine s4 (x := A 145 x1.toNat) rfl ?_
        obtain ⟨b6, r7, hE⟩ := hE
        refine sI rc328 rfl (Nat.le_of_ble_eq_true rfl) ?_
        refine r7 _ ?_
        refine s80 ?_
        exact rqI_of hE
      · replace hE := hE.2 c5
        refine s6 (p := 91) rfl ?_
        refine s51 sh91 (by decide) (by decide) rf91_79 ?_
        refine s4 (x := x1) rfl ?_
        refine s40 (v := A 144 x1.toNat) sh144 g1 rfl (rdM hR.1 rfl) ?_
        refine s68 (inA hR.1 (a := 144) (k := x1.toNat) rfl) (fun c8 => ?_) (fun c8 => ?_)
        · replace hE := hE.1 c8
          refine s0 ?_
          refine s60 ?_
          refine xG gb328.2.2.2.2.1 ?_
          refine s80 ?_
          exact rqI_of hE
        · replace hE := hE.2 c8
          refine xG gb328.2.2.2.1 ?_
          refine s0 ?_
          refine s79 ?_
          refine xG gb328.2.2.2.2.1 ?_
          refine s80 ?_
          exact rqI_of hE
def h327_8 (d L : Nat) (I : Nat → Nat → Int32) (R : Nat → Nat → Option Nat) (S : List (Nat × Nat)) (Q : Option Value → mM → Prop) (x1 : Int) (w2 : Value) (x3 : Int) (x4 : Int) (x5 : Int) : Prop := Wp d (gb 327 8) [.ref 91, .int (oI x1), w2, .int (oI x3), .int (oI x4), .int (oI x5)] [] (bd L I R S) Q
set_option maxRecDepth 4000 in
theorem e327_8 {d L : Nat} {I : Nat → Nat → Int32} {R : Nat → Nat → Option Nat} {S : List (Nat × Nat)} {Q : Option Value → mM → Prop} {A : aS} (hR : RM I A) {x1 : Int} {w2 : Value} {x3 : Int} {x4 : Int} {x5 : Int} (hE : inR x5 ∧ (((x5 = (-1)) → inR x3 ∧ (((x3 = 0) → Q none (bd L I R S)) ∧ (¬ (x3 = 0) → CallV d 323 [.ref 91, .int (oI 41)] (bd L I R S) (fun s => ∃ (I5 : mI), s = bd L I5 R S ∧ RM I5 A ∧ (Q none (bd L I5 R S)))))) ∧ (¬ (x5 = (-1)) → (0 ≤ x1 ∧ x1 < 7200) ∧ (((x5 = A 145 x1.toNat) → inR x4 ∧ (((x4 = 0) → CallV d 327 [.ref 91, .int (oI x5), .int (oI 0)] (bd L I R S) (fun s => ∃ (I11 : mI), s = bd L I11 R S ∧ RM I11 A ∧ ((0 ≤ x5 ∧ x5 < 7200) ∧ (h327_8 (d + 1) L I11 R S Q x1 w2 x3 x4 (A 146 x5.toNat))))) ∧ (¬ (x4 = 0) → ((A 144 x1.toNat = 1) → CallV d 327 [.ref 91, .int (oI x5), .int (oI 1)] (bd L I R S) (fun s => ∃ (I15 : mI), s = bd L I15 R S ∧ RM I15 A ∧ ((0 ≤ x5 ∧ x5 < 7200) ∧ (h327_8 (d + 1) L I15 R S Q x1 w2 x3 x4 (A 146 x5.toNat))))) ∧ (¬ (A 144 x1.toNat = 1) → CallV d 327 [.ref 91, .int (oI x5), .int (oI 0)] (bd L I R S) (fun s => ∃ (I18 : mI), s = bd L I18 R S ∧ RM I18 A ∧ ((0 ≤ x5 ∧ x5 < 7200) ∧ (h327_8 (d + 1) L I18 R S Q x1 w2 x3 x4 (A 146 x5.toNat)))))))) ∧ (¬ (x5 = A 145 x1.toNat) → ((A 144 x1.toNat = 0) → CallV d 322 [.ref 91, .long (Int64.ofInt 28530)] (bd L I R S) (fun s => ∃ (I22 : mI), s = bd L I22 R S ∧ RM I22 A ∧ (inR x4 ∧ (((x4 = 0) → CallV d 327 [.ref 91, .int (oI x5), .int (oI 0)] (bd L I22 R S) (fun s => ∃ (I26 : mI), s = bd L I26 R S ∧ RM I26 A ∧ ((0 ≤ x5 ∧ x5 < 7200) ∧ (h327_8 (d + 1) L I26 R S Q x1 w2 x3 x4 (A 146 x5.toNat))))) ∧ (¬ (x4 = 0) → ((A 144 x1.toNat = 1) → CallV d 327 [.ref 91, .int (oI x5), .int (oI 1)] (bd L I22 R S) (fun s => ∃ (I30 : mI), s = bd L I30 R S ∧ RM I30 A ∧ ((0 ≤ x5 ∧ x5 < 7200) ∧ (h327_8 (d + 1) L I30 R S Q x1 w2 x3 x4 (A 146 x5.toNat))))) ∧ (¬ (A 144 x1.toNat = 1) → CallV d 327 [.ref 91, .int (oI x5), .int (oI 0)] (bd L I22 R S) (fun s => ∃ (I33 : mI), s = bd L I33 R S ∧ RM I33 A ∧ ((0 ≤ x5 ∧ x5 < 7200) ∧ (h327_8 (d + 1) L I33 R S Q x1 w2 x3 x4 (A 146 x5.toNat)))))))))) ∧ (¬ (A 144 x1.toNat = 0) → CallV d 322 [.ref 91, .long (Int64.ofInt 6385252)] (bd L I R S) (fun s => ∃ (I36 : mI), s = bd L I36 R S ∧ RM I36 A ∧ (inR x4 ∧ (((x4 = 0) → CallV d 327 [.ref 91, .int (oI x5), .int (oI 0)] (bd L I36 R S) (fun s => ∃ (I40 : mI), s = bd L I40 R S ∧ RM I40 A ∧ ((0 ≤ x5 ∧ x5 < 7200) ∧ (h327_8 (d + 1) L I40 R S Q x1 w2 x3 x4 (A 146 x5.toNat))))) ∧ (¬ (x4 = 0) → ((A 144 x1.toNat = 1) → CallV d 327 [.ref 91, .int (oI x5), .int (oI 1)] (bd L I36 R S) (fun s => ∃ (I44 : mI), s = bd L I44 R S ∧ RM I44 A ∧ ((0 ≤ x5 ∧ x5 < 7200) ∧ (h327_8 (d + 1) L I44 R S Q x1 w2 x3 x4 (A 146 x5.toNat))))) ∧ (¬ (A 144 x1.toNat = 1) → CallV d 327 [.ref 91, .int (oI x5), .int (oI 0)] (bd L I36 R S) (fun s => ∃ (I47 : mI), s = bd L I47 R S ∧ RM I47 A ∧ ((0 ≤ x5 ∧ x5 < 7200) ∧ (h327_8 (d + 1) L I47 R S Q x1 w2 x3 x4 (A 146 x5.toNat))))))))))))))) : h327_8 (d + 1) L I R S Q x1 w2 x3 x4 x5 := by
  unfold h327_8
  refine xG gb327.2.2.2.2.2.2.2.2.1 ?_
  refine s4 (x := x5) rfl ?_
  refine s0 ?_
  obtain ⟨g1, hE⟩ := hE
  refine s61 g1 (inRd rfl) (fun c2 => ?_) (fun c2 => ?_)
  · replace hE := hE.1 c2
    refine xG gb327.2.2.2.2.2.2.2.2.2.2.2.2.2.2.1 ?_
    refine s4 (x := x3) rfl ?_
    obtain ⟨g3, hE⟩ := hE
    refine s67 g3 (fun c4 => ?_) (fun c4 => ?_)
    · replace hE := hE.1 c4
      refine xG gb327.2.2.2.2.2.2.2.2.2.2.2.2.2.2.2 ?_
      refine s83 ?_
      exact hE
    · replace hE := hE.2 c4
      refine s6 (p := 91) rfl ?_
      refine s0 ?_
      refine sV rc323 rfl (Nat.le_of_ble_eq_true rfl) ?_
      refine CallV.mono hE ?_
      rintro _ ⟨I5, rfl, q6, hE⟩
      refine s79 ?_
      refine xG gb327.2.2.2.2.2.2.2.2.2.2.2.2.2.2.2 ?_
      refine s83 ?_
      exact hE
  · replace hE := hE.2 c2
    refine s4 (x := x5) rfl ?_
    refine s6 (p := 91) rfl ?_
    refine s51 sh91 (by decide) (by decide) rf91_80 ?_
    refine s4 (x := x1) rfl ?_
    obtain ⟨g7, hE⟩ := hE
    refine s40 (v := A 145 x1.toNat) sh145 g7 rfl (rdM hR.1 rfl) ?_
    refine s61 g1 (inA hR.1 (a := 145) (k := x1.toNat) rfl) (fun c8 => ?_) (fun c8 => ?_)
    · replace hE := hE.1 c8
      refine xG gb327.2.2.2.2.2.2.2.2.2.2.2.1 ?_
      refine s6 (p := 91) rfl ?_
      refine s4 (x := x5) rfl ?_
      refine s4 (x := x4) rfl ?_
      obtain ⟨g9, hE⟩ := hE
      refine s67 g9 (fun c10 => ?_) (fun c10 => ?_)
      · replace hE := hE.1 c10
        refine xG gb327.2.2.2.2.2.2.2.2.2.2.2.2.1 ?_
        refine s0 ?_
        refine s79 ?_
        refine xG gb327.2.2.2.2.2.2.2.2.2.2.2.2.2.1 ?_
        refine sV rc327 rfl (Nat.le_of_ble_eq_true rfl) ?_
        refine CallV.mono hE ?_
        rintro _ ⟨I11, rfl, q12, hE⟩
        refine s6 (p := 91) rfl ?_
        refine s51 sh91 (by decide) (by decide) rf91_81 ?_
        refine s4 (x := x5) rfl ?_
        obtain ⟨g13, hE⟩ := hE
        refine s40 (v := A 146 x5.toNat) sh146 g13 rfl (rdM q12.1 rfl) ?_
        refine s7 (ls' := [.ref 91, .int (oI x1), w2, .int (oI x3), .int (oI x4), .int (oI (A 146 x5.toNat))]) (Nat.le_of_ble_eq_true rfl) rfl ?_
        refine s60 ?_
        exact hE
      · replace hE := hE.2 c10
        refine s6 (p := 91) rfl ?_
        refine s51 sh91 (by decide) (by decide) rf91_79 ?_
        refine s4 (x := x1) rfl ?_
        refine s40 (v := A 144 x1.toNat) sh144 g7 rfl (rdM hR.1 rfl) ?_
        refine s0 ?_
        refine s62 (inA hR.1 (a := 144) (k := x1.toNat) rfl) (inRd rfl) (fun c14 => ?_) (fun c14 => ?_)
        · replace hE := hE.1 c14
          refine s0 ?_
          refine s60 ?_
          refine xG gb327.2.2.2.2.2.2.2.2.2.2.2.2.2.1 ?_
          refine sV rc327 rfl (Nat.le_of_ble_eq_true rfl) ?_
          refine CallV.mono hE ?_
          rintro _ ⟨I15, rfl, q16, hE⟩
          refine s6 (p := 91) rfl ?_
          refine s51 sh91 (by decide) (by decide) rf91_81 ?_
          refine s4 (x := x5) rfl ?_
          obtain ⟨g17, hE⟩ := hE
          refine s40 (v := A 146 x5.toNat) sh146 g17 rfl (rdM q16.1 rfl) ?_
          refine s7 (ls' := [.ref 91, .int (oI x1), w2, .int (oI x3), .int (oI x4), .int (oI (A 146 x5.toNat))]) (Nat.le_of_ble_eq_true rfl) rfl ?_
          refine s60 ?_
          exact hE
        · replace hE := hE.2 c14
          refine xG gb327.2.2.2.2.2.2.2.2.2.2.2.2.1 ?_
          refine s0 ?_
          refine s79 ?_
          refine xG gb327.2.2.2.2.2.2.2.2.2.2.2.2.2.1 ?_
          refine sV rc327 rfl (Nat.le_of_ble_eq_true rfl) ?_
          refine CallV.mono hE ?_
          rintro _ ⟨I18, rfl, q19, hE⟩
          refine s6 (p := 91) rfl ?_
          refine s51 sh91 (by decide) (by decide) rf91_81 ?_
          refine s4 (x := x5) rfl ?_
          obtain ⟨g20, hE⟩ := hE
          refine s40 (v := A 146 x5.toNat) sh146 g20 rfl (rdM q19.1 rfl) ?_
          refine s7 (ls' := [.ref 91, .int (oI x1), w2, .int (oI x3), .int (oI x4), .int (oI (A 146 x5.toNat))]) (Nat.le_of_ble_eq_true rfl) rfl ?_
          refine s60 ?_
          exact hE
    · replace hE := hE.2 c8
      refine s6 (p := 91) rfl ?_
      refine s6 (p := 91) rfl ?_
      refine s51 sh91 (by decide) (by decide) rf91_79 ?_
      refine s4 (x := x1) rfl ?_
      refine s40 (v := A 144 x1.toNat) sh144 g7 rfl (rdM hR.1 rfl) ?_
      refine s68 (inA hR.1 (a := 144) (k := x1.toNat) rfl) (fun c21 => ?_) (fun c21 => ?_)
      · replace hE := hE.1 c21
        refine s2 ?_
        refine s60 ?_
        refine xG gb327.2.2.2.2.2.2.2.2.2.2.1 ?_
        refine sV rc322 rfl (Nat.le_of_ble_eq_true rfl) ?_
        refine CallV.mono hE ?_
        rintro _ ⟨I22, rfl, q23, hE⟩
        refine s79 ?_
        refine xG gb327.2.2.2.2.2.2.2.2.2.2.2.1 ?_
        refine s6 (p := 91) rfl ?_
        refine s4 (x := x5) rfl ?_
        refine s4 (x := x4) rfl ?_
        obtain ⟨g24, hE⟩ := hE
        refine s67 g24 (fun c25 => ?_) (fun c25 => ?_)
        · replace hE := hE.1 c25
          refine xG gb327.2.2.2.2.2.2.2.2.2.2.2.2.1 ?_
          refine s0 ?_
          refine s79 ?_
          refine xG gb327.2.2.2.2.2.2.2.2.2.2.2.2.2.1 ?_
          refine sV rc327 rfl (Nat.le_of_ble_eq_true rfl) ?_
          refine CallV.mono hE ?_
          rintro _ ⟨I26, rfl, q27, hE⟩
          refine s6 (p := 91) rfl ?_
          refine s51 sh91 (by decide) (by decide) rf91_81 ?_
          refine s4 (x := x5) rfl ?_
          obtain ⟨g28, hE⟩ := hE
          refine s40 (v := A 146 x5.toNat) sh146 g28 rfl (rdM q27.1 rfl) ?_
          refine s7 (ls' := [.ref 91, .int (oI x1), w2, .int (oI x3), .int (oI x4), .int (oI (A 146 x5.toNat))]) (Nat.le_of_ble_eq_true rfl) rfl ?_
          refine s60 ?_
          exact hE
        · replace hE := hE.2 c25
          refine s6 (p := 91) rfl ?_
          refine s51 sh91 (by decide) (by decide) rf91_79 ?_
          refine s4 (x := x1) rfl ?_
          refine s40 (v := A 144 x1.toNat) sh144 g7 rfl (rdM q23.1 rfl) ?_
          refine s0 ?_
          refine s62 (inA q23.1 (a := 144) (k := x1.toNat) rfl) (inRd rfl) (fun c29 => ?_) (fun c29 => ?_)
          · replace hE := hE.1 c29
            refine s0 ?_
            refine s60 ?_
            refine xG gb327.2.2.2.2.2.2.2.2.2.2.2.2.2.1 ?_
            refine sV rc327 rfl (Nat.le_of_ble_eq_true rfl) ?_
            refine CallV.mono hE ?_
            rintro _ ⟨I30, rfl, q31, hE⟩
            refine s6 (p := 91) rfl ?_
            refine s51 sh91 (by decide) (by decide) rf91_81 ?_
            refine s4 (x := x5) rfl ?_
            obtain ⟨g32, hE⟩ := hE
            refine s40 (v := A 146 x5.toNat) sh146 g32 rfl (rdM q31.1 rfl) ?_
            refine s7 (ls' := [.ref 91, .int (oI x1), w2, .int (oI x3), .int (oI x4), .int (oI (A 146 x5.toNat))]) (Nat.le_of_ble_eq_true rfl) rfl ?_
            refine s60 ?_
            exact hE
          · replace hE := hE.2 c29
            refine xG gb327.2.2.2.2.2.2.2.2.2.2.2.2.1 ?_
            refine s0 ?_
            refine s79 ?_
            refine xG gb327.2.2.2.2.2.2.2.2.2.2.2.2.2.1 ?_
            refine sV rc327 rfl (Nat.le_of_ble_eq_true rfl) ?_
            refine CallV.mono hE ?_
            rintro _ ⟨I33, rfl, q34, hE⟩
            refine s6 (p := 91) rfl ?_
            refine s51 sh91 (by decide) (by decide) rf91_81 ?_
            refine s4 (x := x5) rfl ?_
            obtain ⟨g35, hE⟩ := hE
            refine s40 (v := A 146 x5.toNat) sh146 g35 rfl (rdM q34.1 rfl) ?_
            refine s7 (ls' := [.ref 91, .int (oI x1), w2, .int (oI x3), .int (oI x4), .int (oI (A 146 x5.toNat))]) (Nat.le_of_ble_eq_true rfl) rfl ?_
            refine s60 ?_
            exact hE
      · replace hE := hE.2 c21
        refine xG gb327.2.2.2.2.2.2.2.2.2.1 ?_
        refine s2 ?_
        refine s79 ?_
        refine xG gb327.2.2.2.2.2.2.2.2.2.2.1 ?_
        refine sV rc322 rfl (Nat.le_of_ble_eq_true rfl) ?_
        refine CallV.mono hE ?_
        rintro _ ⟨I36, rfl, q37, hE⟩
        refine s79 ?_
        refine xG gb327.2.2.2.2.2.2.2.2.2.2.2.1 ?_
        refine s6 (p := 91) rfl ?_
        refine s4 (x := x5) rfl ?_
        refine s4 (x := x4) rfl ?_
        obtain ⟨g38, hE⟩ := hE
        refine s67 g38 (fun c39 => ?_) (fun c39 => ?_)
        · replace hE := hE.1 c39
          refine xG gb327.2.2.2.2.2.2.2.2.2.2.2.2.1 ?_
          refine s0 ?_
          refine s79 ?_
          refine xG gb327.2.2.2.2.2.2.2.2.2.2.2.2.2.1 ?_
          refine sV rc327 rfl (Nat.le_of_ble_eq_true rfl) ?_
          refine CallV.mono hE ?_
          rintro _ ⟨I40, rfl, q41, hE⟩
          refine s6 (p := 91) rfl ?_
          refine s51 sh91 (by decide) (by decide) rf91_81 ?_
          refine s4 (x := x5) rfl ?_
          obtain ⟨g42, hE⟩ := hE
          refine s40 (v := A 146 x5.toNat) sh146 g42 rfl (rdM q41.1 rfl) ?_
          refine s7 (ls' := [.ref 91, .int (oI x1), w2, .int (oI x3), .int (oI x4), .int (oI (A 146 x5.toNat))]) (Nat.le_of_ble_eq_true rfl) rfl ?_
          refine s60 ?_
          exact hE
        · replace hE := hE.2 c39
          refine s6 (p := 91) rfl ?_
          refine s51 sh91 (by decide) (by decide) rf91_79 ?_
          refine s4 (x := x1) rfl ?_
          refine s40 (v := A 144 x1.toNat) sh144 g7 rfl (rdM q37.1 rfl) ?_
          refine s0 ?_
          refine s62 (inA q37.1 (a := 144) (k := x1.toNat) rfl) (inRd rfl) (fun c43 => ?_) (fun c43 => ?_)
          · replace hE := hE.1 c43
            refine s0 ?_
            refine s60 ?_
            refine xG gb327.2.2.2.2.2.2.2.2.2.2.2.2.2.1 ?_
            refine sV rc327 rfl (Nat.le_of_ble_eq_true rfl) ?_
            refine CallV.mono hE ?_
            rintro _ ⟨I44, rfl, q45, hE⟩
            refine s6 (p := 91) rfl ?_
            refine s51 sh91 (by decide) (by decide) rf91_81 ?_
            refine s4 (x := x5) rfl ?_
            obtain ⟨g46, hE⟩ := hE
            refine s40 (v := A 146 x5.toNat) sh146 g46 rfl (rdM q45.1 rfl) ?_
            refine s7 (ls' := [.ref 91, .int (oI x1), w2, .int (oI x3), .int (oI x4), .int (oI (A 146 x5.toNat))]) (Nat.le_of_ble_eq_true rfl) rfl ?_
            refine s60 ?_
            exact hE
          · replace hE := hE.2 c43
            refine xG gb327.2.2.2.2.2.2.2.2.2.2.2.2.1 ?_
            refine s0 ?_
            refine s79 ?_
            refine xG gb327.2.2.2.2.2.2.2.2.2.2.2.2.2.1 ?_
            refine sV rc327 rfl (Nat.le_of_ble_eq_true rfl) ?_
            refine CallV.mono hE ?_
            rintro _ ⟨I47, rfl, q48, hE⟩
            refine s6 (p := 91) rfl ?_
            refine s51 sh91 (by decide) (by decide) rf91_81 ?_
            refine s4 (x := x5) rfl ?_
            obtain ⟨g49, hE⟩ := hE
            refine s40 (v := A 146 x5.toNat) sh146 g49 rfl (rdM q48.1 rfl) ?_
            refine s7 (ls' := [.ref 91, .int (oI x1), w2, .int (oI x3), .int (oI x4), .int (oI (A 146 x5.toNat))]) (Nat.le_of_ble_eq_true rfl) rfl ?_
            refine s60 ?_
            exact hE
set_option maxRecDepth 4000 in
theorem e327 {d L : Nat} {I : Nat → Nat → Int32} {R : Nat → Nat → Option Nat} {S : List (Nat × Nat)} {K : mM → Prop} {A : aS} (hR : RM I A) {x1 : Int} {x2 : Int} (hE : ∃ (b1 : Int), R328 d L I R S x1 b1 ∧ (inR b1 ∧ (inR x2 ∧ (((b1 < x2) → CallV d 323 [.ref 91, .int (oI 40)] (bd L I R S) (fun s => ∃ (I7 : mI), s = bd L I7 R S ∧ RM I7 A ∧ ((0 ≤ x1 ∧ x1 < 7200) ∧ (((A 144 x1.toNat = 3) → CallV d 322 [.ref 91, .long (nmW (A 147 x1.toNat))] (bd L I7 R S) (fun s => ∃ (I11 : mI), s = bd L I11 R S ∧ RM I11 A ∧ (CallV d 323 [.ref 91, .int (oI (A 148 x1.toNat))] (bd L I11 R S) (fun s => ∃ (I13 : mI), s = bd L I13 R S ∧ RM I13 A ∧ (CallV d 324 [.ref 91, .int (oI (A 149 x1.toNat))] (bd L I13 R S) (fun s => ∃ (I15 : mI), s = bd L I15 R S ∧ RM I15 A ∧ (CallV d 323 [.ref 91, .int (oI 41)] (bd L I15 R S) (fun s => ∃ (I18 : mI), s = bd L I18 R S ∧ RM I18 A ∧ (K (bd L I18 R S)))))))))) ∧ (¬ (A 144 x1.toNat = 3) → ((A 144 x1.toNat = 2) → CallV d 322 [.ref 91, .long (Int64.ofInt 7237492)] (bd L I7 R S) (fun s => ∃ (I21 : mI), s = bd L I21 R S ∧ RM I21 A ∧ (CallV d 327 [.ref 91, .int (oI (A 145 x1.toNat)), .int (oI 2)] (bd L I21 R S) (fun s => ∃ (I23 : mI), s = bd L I23 R S ∧ RM I23 A ∧ (CallV d 323 [.ref 91, .int (oI 41)] (bd L I23 R S) (fun s => ∃ (I26 : mI), s = bd L I26 R S ∧ RM I26 A ∧ (K (bd L I26 R S)))))))) ∧ (¬ (A 144 x1.toNat = 2) → (0 ≤ A 145 x1.toNat ∧ A 145 x1.toNat < 7200) ∧ (((A 146 (A 145 x1.toNat).toNat = (-1)) → h327_8 (d + 1) L I7 R S (rqV K) x1 (.int (oI x2)) 1 0 (A 145 x1.toNat)) ∧ (¬ (A 146 (A 145 x1.toNat).toNat = (-1)) → h327_8 (d + 1) L I7 R S (rqV K) x1 (.int (oI x2)) 1 1 (A 145 x1.toNat))))))))) ∧ (¬ (b1 < x2) → (0 ≤ x1 ∧ x1 < 7200) ∧ (((A 144 x1.toNat = 3) → CallV d 322 [.ref 91, .long (nmW (A 147 x1.toNat))] (bd L I R S) (fun s => ∃ (I33 : mI), s = bd L I33 R S ∧ RM I33 A ∧ (CallV d 323 [.ref 91, .int (oI (A 148 x1.toNat))] (bd L I33 R S) (fun s => ∃ (I35 : mI), s = bd L I35 R S ∧ RM I35 A ∧ (CallV d 324 [.ref 91, .int (oI (A 149 x1.toNat))] (bd L I35 R S) (fun s => ∃ (I37 : mI), s = bd L I37 R S ∧ RM I37 A ∧ (K (bd L I37 R S)))))))) ∧ (¬ (A 144 x1.toNat = 3) → ((A 144 x1.toNat = 2) → CallV d 322 [.ref 91, .long (Int64.ofInt 7237492)] (bd L I R S) (fun s => ∃ (I41 : mI), s = bd L I41 R S ∧ RM I41 A ∧ (CallV d 327 [.ref 91, .int (oI (A 145 x1.toNat)), .int (oI 2)] (bd L I41 R S) (fun s => ∃ (I43 : mI), s = bd L I43 R S ∧ RM I43 A ∧ (K (bd L I43 R S)))))) ∧ (¬ (A 144 x1.toNat = 2) → (0 ≤ A 145 x1.toNat ∧ A 145 x1.toNat < 7200) ∧ (((A 146 (A 145 x1.toNat).toNat = (-1)) → h327_8 (d + 1) L I R S (rqV K) x1 (.int (oI x2)) 0 0 (A 145 x1.toNat)) ∧ (¬ (A 146 (A 145 x1.toNat).toNat = (-1)) → h327_8 (d + 1) L I R S (rqV K) x1 (.int (oI x2)) 0 1 (A 145 x1.toNat))))))))))) : CallV (d + 1) 327 [.ref 91, .int (oI x1), .int (oI x2)] (bd L I R S) K := by
  refine cV_of (ls := [.ref 91, .int (oI x1), .int (oI x2), mUn, mUn, mUn]) rfl ?_
  refine xG gb327.1 ?_
  refine s6 (p := 91) rfl ?_
  refine s4 (x := x1) rfl ?_
  obtain ⟨b1, r2, hE⟩ := hE
  refine sI rc328 rfl (Nat.le_of_ble_eq_true rfl) ?_
  refine r2 _ ?_
  refine s4 (x := x2) rfl ?_
  obtain ⟨g3, hE⟩ := hE
  obtain ⟨g4, hE⟩ := hE
  refine s64 g3 g4 (fun c5 => ?_) (fun c5 => ?_)
  · replace hE := hE.1 c5
    refine s0 ?_
    refine s60 ?_
    refine xG gb327.2.2.1 ?_
    refine s7 (ls' := [.ref 91, .int (oI x1), .int (oI x2), .int (oI 1), mUn, mUn]) (Nat.le_of_ble_eq_true rfl) rfl ?_
    refine s4 (x := 1) rfl ?_
    refine s67 (inRd rfl) (fun c6 => absurd c6 (by decide)) (fun _ => ?_)
    refine s6 (p := 91) rfl ?_
    refine s0 ?_
    refine sV rc323 rfl (Nat.le_of_ble_eq_true rfl) ?_
    refine CallV.mono hE ?_
    rintro _ ⟨I7, rfl, q8, hE⟩
    refine s79 ?_
    refine xG gb327.2.2.2.1 ?_
    refine s6 (p := 91) rfl ?_
    refine s51 sh91 (by decide) (by decide) rf91_79 ?_
    refine s4 (x := x1) rfl ?_
    obtain ⟨g9, hE⟩ := hE
    refine s40 (v := A 144 x1.toNat) sh144 g9 rfl (rdM q8.1 rfl) ?_
    refine s0 ?_
    refine s62 (inA q8.1 (a := 144) (k := x1.toNat) rfl) (inRd rfl) (fun c10 => ?_) (fun c10 => ?_)
    · replace hE := hE.1 c10
      refine s6 (p := 91) rfl ?_
      refine s6 (p := 91) rfl ?_
      refine s51 sh91 (by decide) (by decide) rf91_82 ?_
      refine s4 (x := x1) rfl ?_
      refine s40 (v := A 147 x1.toNat) sh147 g9 rfl (rdM q8.1 rfl) ?_
      refine sL rc329 rfl (Nat.le_of_ble_eq_true rfl) ?_
      refine k329 (inA q8.1 (a := 147) (k := x1.toNat) rfl) ?_
      refine sV rc322 rfl (Nat.le_of_ble_eq_true rfl) ?_
      refine CallV.mono hE ?_
      rintro _ ⟨I11, rfl, q12, hE⟩
      refine s6 (p := 91) rfl ?_
      refine s6 (p := 91) rfl ?_
      refine s51 sh91 (by decide) (by decide) rf91_83 ?_
      refine s4 (x := x1) rfl ?_
      refine s40 (v := A 148 x1.toNat) sh148 g9 rfl (rdM q12.1 rfl) ?_
      refine sV rc323 rfl (Nat.le_of_ble_eq_true rfl) ?_
      refine CallV.mono hE ?_
      rintro _ ⟨I13, rfl, q14, hE⟩
      refine s6 (p := 91) rfl ?_
      refine s6 (p := 91) rfl ?_
      refine s51 sh91 (by decide) (by decide) rf91_84 ?_
      refine s4 (x := x1) rfl ?_
      refine s40 (v := A 149 x1.toNat) sh149 g9 rfl (rdM q14.1 rfl) ?_
      refine sV rc324 rfl (Nat.le_of_ble_eq_true rfl) ?_
      refine CallV.mono hE ?_
      rintro _ ⟨I15, rfl, q16, hE⟩
      refine s60 ?_
      refine xG gb327.2.2.2.2.2.2.2.2.2.2.2.2.2.2.1 ?_
      refine s4 (x := 1) rfl ?_
      refine s67 (inRd rfl) (fun c17 => absurd c17 (by decide)) (fun _ => ?_)
      refine s6 (p := 91) rfl ?_
      refine s0 ?_
      refine sV rc323 rfl (Nat.le_of_ble_eq_true rfl) ?_
      refine CallV.mono hE ?_
      rintro _ ⟨I18, rfl, q19, hE⟩
      refine s79 ?_
      refine xG gb327.2.2.2.2.2.2.2.2.2.2.2.2.2.2.2 ?_
      refine s83 ?_
      exact rqV_of hE
    · replace hE := hE.2 c10
      refine xG gb327.2.2.2.2.1 ?_
      refine s6 (p := 91) rfl ?_
      refine s51 sh91 (by decide) (by decide) rf91_79 ?_
      refine s4 (x := x1) rfl ?_
      refine s40 (v := A 144 x1.toNat) sh144 g9 rfl (rdM q8.1 rfl) ?_
      refine s0 ?_
      refine s62 (inA q8.1 (a := 144) (k := x1.toNat) rfl) (inRd rfl) (fun c20 => ?_) (fun c20 => ?_)
      · replace hE := hE.1 c20
        refine s6 (p := 91) rfl ?_
        refine s2 ?_
        refine sV rc322 rfl (Nat.le_of_ble_eq_true rfl) ?_
        refine CallV.mono hE ?_
        rintro _ ⟨I21, rfl, q22, hE⟩
        refine s6 (p := 91) rfl ?_
        refine s6 (p := 91) rfl ?_
        refine s51 sh91 (by decide) (by decide) rf91_80 ?_
        refine s4 (x := x1) rfl ?_
        refine s40 (v := A 145 x1.toNat) sh145 g9 rfl (rdM q22.1 rfl) ?_
        refine s0 ?_
        refine sV rc327 rfl (Nat.le_of_ble_eq_true rfl) ?_
        refine CallV.mono hE ?_
        rintro _ ⟨I23, rfl, q24, hE⟩
        refine s60 ?_
        refine xG gb327.2.2.2.2.2.2.2.2.2.2.2.2.2.2.1 ?_
        refine s4 (x := 1) rfl ?_
        refine s67 (inRd rfl) (fun c25 => absurd c25 (by decide)) (fun _ => ?_)
        refine s6 (p := 91) rfl ?_
        refine s0 ?_
        refine sV rc323 rfl (Nat.le_of_ble_eq_true rfl) ?_
        refine CallV.mono hE ?_
        rintro _ ⟨I26, rfl, q27, hE⟩
        refine s79 ?_
        refine xG gb327.2.2.2.2.2.2.2.2.2.2.2.2.2.2.2 ?_
        refine s83 ?_
        exact rqV_of hE
      · replace hE := hE.2 c20
        refine xG gb327.2.2.2.2.2.1 ?_
        refine s6 (p := 91) rfl ?_
        refine s51 sh91 (by decide) (by decide) rf91_81 ?_
        refine s6 (p := 91) rfl ?_
        refine s51 sh91 (by decide) (by decide) rf91_80 ?_
        refine s4 (x := x1) rfl ?_
        refine s40 (v := A 145 x1.toNat) sh145 g9 rfl (rdM q8.1 rfl) ?_
        obtain ⟨g28, hE⟩ := hE
        refine s40 (v := A 146 (A 145 x1.toNat).toNat) sh146 g28 rfl (rdM q8.1 rfl) ?_
        refine s0 ?_
        refine s61 (inA q8.1 (a := 146) (k := (A 145 x1.toNat).toNat) rfl) (inRd rfl) (fun c29 => ?_) (fun c29 => ?_)
        · replace hE := hE.1 c29
          refine xG gb327.2.2.2.2.2.2.1 ?_
          refine s0 ?_
          refine s79 ?_
          refine xG gb327.2.2.2.2.2.2.2.1 ?_
          refine s7 (ls' := [.ref 91, .int (oI x1), .int (oI x2), .int (oI 1), .int (oI 0), mUn]) (Nat.le_of_ble_eq_true rfl) rfl ?_
          refine s6 (p := 91) rfl ?_
          refine s51 sh91 (by decide) (by decide) rf91_80 ?_
          refine s4 (x := x1) rfl ?_
          refine s40 (v := A 145 x1.toNat) sh145 g9 rfl (rdM q8.1 rfl) ?_
          refine s7 (ls' := [.ref 91, .int (oI x1), .int (oI x2), .int (oI 1), .int (oI 0), .int (oI (A 145 x1.toNat))]) (Nat.le_of_ble_eq_true rfl) rfl ?_
          refine s79 ?_
          exact hE
        · replace hE := hE.2 c29
          refine s0 ?_
          refine s60 ?_
          refine xG gb327.2.2.2.2.2.2.2.1 ?_
          refine s7 (ls' := [.ref 91, .int (oI x1), .int (oI x2), .int (oI 1), .int (oI 1), mUn]) (Nat.le_of_ble_eq_true rfl) rfl ?_
          refine s6 (p := 91) rfl ?_
          refine s51 sh91 (by decide) (by decide) rf91_80 ?_
          refine s4 (x := x1) rfl ?_
          refine s40 (v := A 145 x1.toNat) sh145 g9 rfl (rdM q8.1 rfl) ?_
          refine s7 (ls' := [.ref 91, .int (oI x1), .int (oI x2), .int (oI 1), .int (oI 1), .int (oI (A 145 x1.toNat))]) (Nat.le_of_ble_eq_true rfl) rfl ?_
          refine s79 ?_
          exact hE
  · replace hE := hE.2 c5
    refine xG gb327.2.1 ?_
    refine s0 ?_
    refine s79 ?_
    refine xG gb327.2.2.1 ?_
    refine s7 (ls' := [.ref 91, .int (oI x1), .int (oI x2), .int (oI 0), mUn, mUn]) (Nat.le_of_ble_eq_true rfl) rfl ?_
    refine s4 (x := 0) rfl ?_
    refine s67 (inRd rfl) (fun _ => ?_) (fun c30 => absurd (by decide) c30)
    refine xG gb327.2.2.2.1 ?_
    refine s6 (p := 91) rfl ?_
    refine s51 sh91 (by decide) (by decide) rf91_79 ?_
    refine s4 (x := x1) rfl ?_
    obtain ⟨g31, hE⟩ := hE
    refine s40 (v := A 144 x1.toNat) sh144 g31 rfl (rdM hR.1 rfl) ?_
    refine s0 ?_
    refine s62 (inA hR.1 (a := 144) (k := x1.toNat) rfl) (inRd rfl) (fun c32 => ?_) (fun c32 => ?_)
    · replace hE := hE.1 c32
      refine s6 (p := 91) rfl ?_
      refine s6 (p := 91) rfl ?_
      refine s51 sh91 (by decide) (by decide) rf91_82 ?_
      refine s4 (x := x1) rfl ?_
      refine s40 (v := A 147 x1.toNat) sh147 g31 rfl (rdM hR.1 rfl) ?_
      refine sL rc329 rfl (Nat.le_of_ble_eq_true rfl) ?_
      refine k329 (inA hR.1 (a := 147) (k := x1.toNat) rfl) ?_
      refine sV rc322 rfl (Nat.le_of_ble_eq_true rfl) ?_
      refine CallV.mono hE ?_
      rintro _ ⟨I33, rfl, q34, hE⟩
      refine s6 (p := 91) rfl ?_
      refine s6 (p := 91) rfl ?_
      refine s51 sh91 (by decide) (by decide) rf91_83 ?_
      refine s4 (x := x1) rfl ?_
      refine s40 (v := A 148 x1.toNat) sh148 g31 rfl (rdM q34.1 rfl) ?_
      refine sV rc323 rfl (Nat.le_of_ble_eq_true rfl) ?_
      refine CallV.mono hE ?_
      rintro _ ⟨I35, rfl, q36, hE⟩
      refine s6 (p := 91) rfl ?_
      refine s6 (p := 91) rfl ?_
      refine s51 sh91 (by decide) (by decide) rf91_84 ?_
      refine s4 (x := x1) rfl ?_
      refine s40 (v := A 149 x1.toNat) sh149 g31 rfl (rdM q36.1 rfl) ?_
      refine sV rc324 rfl (Nat.le_of_ble_eq_true rfl) ?_
      refine CallV.mono hE ?_
      rintro _ ⟨I37, rfl, q38, hE⟩
      refine s60 ?_
      refine xG gb327.2.2.2.2.2.2.2.2.2.2.2.2.2.2.1 ?_
      refine s4 (x := 0) rfl ?_
      refine s67 (inRd rfl) (fun _ => ?_) (fun c39 => absurd (by decide) c39)
      refine xG gb327.2.2.2.2.2.2.2.2.2.2.2.2.2.2.2 ?_
      refine s83 ?_
      exact rqV_of hE
    · replace hE := hE.2 c32
      refine xG gb327.2.2.2.2.1 ?_
      refine s6 (p := 91) rfl ?_
      refine s51 sh91 (by decide) (by decide) rf91_79 ?_
      refine s4 (x := x1) rfl ?_
      refine s40 (v := A 144 x1.toNat) sh144 g31 rfl (rdM hR.1 rfl) ?_
      refine s0 ?_
      refine s62 (inA hR.1 (a := 144) (k := x1.toNat) rfl) (inRd rfl) (fun c40 => ?_) (fun c40 => ?_)
      · replace hE := hE.1 c40
        refine s6 (p := 91) rfl ?_
        refine s2 ?_
        refine sV rc322 rfl (Nat.le_of_ble_eq_true rfl) ?_
        refine CallV.mono hE ?_
        rintro _ ⟨I41, rfl, q42, hE⟩
        refine s6 (p := 91) rfl ?_
        refine s6 (p := 91) rfl ?_
        refine s51 sh91 (by decide) (by decide) rf91_80 ?_
        refine s4 (x := x1) rfl ?_
        refine s40 (v := A 145 x1.toNat) sh145 g31 rfl (rdM q42.1 rfl) ?_
        refine s0 ?_
        refine sV rc327 rfl (Nat.le_of_ble_eq_true rfl) ?_
        refine CallV.mono hE ?_
        rintro _ ⟨I43, rfl, q44, hE⟩
        refine s60 ?_
        refine xG gb327.2.2.2.2.2.2.2.2.2.2.2.2.2.2.1 ?_
        refine s4 (x := 0) rfl ?_
        refine s67 (inRd rfl) (fun _ => ?_) (fun c45 => absurd (by decide) c45)
        refine xG gb327.2.2.2.2.2.2.2.2.2.2.2.2.2.2.2 ?_
        refine s83 ?_
        exact rqV_of hE
      · replace hE := hE.2 c40
        refine xG gb327.2.2.2.2.2.1 ?_
        refine s6 (p := 91) rfl ?_
        refine s51 sh91 (by decide) (by decide) rf91_81 ?_
        refine s6 (p := 91) rfl ?_
        refine s51 sh91 (by decide) (by decide) rf91_80 ?_
        refine s4 (x := x1) rfl ?_
        refine s40 (v := A 145 x1.toNat) sh145 g31 rfl (rdM hR.1 rfl) ?_
        obtain ⟨g46, hE⟩ := hE
        refine s40 (v := A 146 (A 145 x1.toNat).toNat) sh146 g46 rfl (rdM hR.1 rfl) ?_
        refine s0 ?_
        refine s61 (inA hR.1 (a := 146) (k := (A 145 x1.toNat).toNat) rfl) (inRd rfl) (fun c47 => ?_) (fun c47 => ?_)
        · replace hE := hE.1 c47
          refine xG gb327.2.2.2.2.2.2.1 ?_
          refine s0 ?_
          refine s79 ?_
          refine xG gb327.2.2.2.2.2.2.2.1 ?_
          refine s7 (ls' := [.ref 91, .int (oI x1), .int (oI x2), .int (oI 0), .int (oI 0), mUn]) (Nat.le_of_ble_eq_true rfl) rfl ?_
          refine s6 (p := 91) rfl ?_
          refine s51 sh91 (by decide) (by decide) rf91_80 ?_
          refine s4 (x := x1) rfl ?_
          refine s40 (v := A 145 x1.toNat) sh145 g31 rfl (rdM hR.1 rfl) ?_
          refine s7 (ls' := [.ref 91, .int (oI x1), .int (oI x2), .int (oI 0), .int (oI 0), .int (oI (A 145 x1.toNat))]) (Nat.le_of_ble_eq_true rfl) rfl ?_
          refine s79 ?_
          exact hE
        · replace hE := hE.2 c47
          refine s0 ?_
          refine s60 ?_
          refine xG gb327.2.2.2.2.2.2.2.1 ?_
          refine s7 (ls' := [.ref 91, .int (oI x1), .int (oI x2), .int (oI 0), .int (oI 1), mUn]) (Nat.le_of_ble_eq_true rfl) rfl ?_
          refine s6 (p := 91) rfl ?_
          refine s51 sh91 (by decide) (by decide) rf91_80 ?_
          refine s4 (x := x1) rfl ?_
          refine s40 (v := A 145 x1.toNat) sh145 g31 rfl (rdM hR.1 rfl) ?_
          refine s7 (ls' := [.ref 91, .int (oI x1), .int (oI x2), .int (oI 0), .int (oI 1), .int (oI (A 145 x1.toNat))]) (Nat.le_of_ble_eq_true rfl) rfl ?_
          refine s79 ?_
          exact hE
