/-! the invariant holds at the start -/
/-- the cells that are there before the law: script, MOST, WORDS and its bytes, the empty text and its bytes, DigitOnes, DigitTens -/
def s0I (xs : Nat → Int32) (a k : Nat) : Int32 := if a = 0 then xs k else if a = 1 then oI (mxN k) else if a = 3 then oI (wrdS.getD k 0) else if a = 6 then oI ((48 + k % 10 : Nat) : Int) else if a = 7 then oI ((48 + k / 10 : Nat) : Int) else 0
def s0R (a k : Nat) : Option Nat := if k = 0 then (if a = 2 then some 3 else if a = 4 then some 5 else none) else none
def s0S (L : Nat) : List (Nat × Nat) := [(0, L), (0, 7), (17, 4), (1, 328), (17, 4), (1, 0), (1, 100), (1, 100)]
def sZ (L : Nat) (xs : Nat → Int32) : mM := (s0I xs, s0R, s0S L)
def zIn (L : Nat) (xs : Nat → Int32) : mI := (zcD (sZ L xs) zB).1
def zRn (L : Nat) (xs : Nat → Int32) : mR := (zcD (sZ L xs) zB).2.1
def zAn (L : Nat) (xs : Nat → Int32) : aS := fun a k => ld (zIn L xs) a k
def zrB : Bool := (List.range 155).all (fun a => (List.range (zRf.getD a []).length).all (fun k => match zr a k with
  | some t => (decide (8 ≤ a) && (zcR zB (a - 8) k == some t)) || (decide (a < 8) && (s0R a k == some t))
  | none => true))
theorem zrB_t : zrB = true := by decide +kernel
theorem zSh_t : ∀ L : Nat, zSh L = s0S L ++ zB.map (fun q => q.1) := by
  have e : (zSh 0).drop 1 = (s0S 0 ++ zB.map (fun q => q.1)).drop 1 := by decide +kernel
  intro L
  show (0, L) :: (zSh 0).drop 1 = (0, L) :: (s0S 0 ++ zB.map (fun q => q.1)).drop 1
  rw [e]
section
variable {L : Nat} {xs : Nat → Int32}
theorem z_bd : zcD (sZ L xs) zB = bd L (zIn L xs) (zRn L xs) [] := by
  refine Prod.ext rfl (Prod.ext ?_ ?_)
  · show zRn L xs = rfB (zRn L xs)
    funext a k
    unfold rfB
    split
    · rename_i t ht
      have ha : a < 155 := by
        apply Classical.byContradiction
        intro c
        unfold zr at ht
        have hz : zRf.length = 155 := by decide +kernel
        rw [List.getD_eq_getElem?_getD, List.getD_eq_getElem?_getD, List.getElem?_eq_none (show zRf.length ≤ a by omega)] at ht
        cases ht
      have hk : k < (zRf.getD a []).length := by
        apply Classical.byContradiction
        intro c
        unfold zr at ht
        rw [List.getD_eq_getElem?_getD, List.getElem?_eq_none (by omega)] at ht
        cases ht
      have h1 := List.all_eq_true.mp (List.all_eq_true.mp zrB_t a (List.mem_range.mpr ha)) k (List.mem_range.mpr hk)
      rw [ht] at h1
      simp only [Bool.or_eq_true, Bool.and_eq_true, decide_eq_true_eq, beq_iff_eq] at h1
      show (if a < 8 then s0R a k else zcR zB (a - 8) k) = some t
      rcases h1 with ⟨h1, h2⟩ | ⟨h1, h2⟩
      · rw [if_neg (by omega)]; exact h2
      · rw [if_pos h1]; exact h2
    · rfl
  · show s0S L ++ zB.map (fun q => q.1) = zSh L ++ []
    rw [List.append_nil, zSh_t]
theorem zI_hi {a k : Nat} (ha : 8 ≤ a) : zIn L xs a k = zcI zB (a - 8) k := if_neg (by omega)
theorem zI_lo {a k : Nat} (ha : a < 8) : zIn L xs a k = s0I xs a k := if_pos ha
theorem zI_f {a k : Nat} {v : Int} (ha : 8 ≤ a) (h : decide ((zcI zB (a - 8) k).toInt = v) = true) : ld (zIn L xs) a k = v := by
  unfold ld
  rw [zI_hi ha]
  exact of_decide_eq_true h
def zN (a : Nat) : Bool := match zB[a - 8]? with
  | some q => q.2.1.isEmpty
  | none => false
theorem zI_0 {a : Nat} (ha : 8 ≤ a) (h : zN a = true) (k : Nat) : ld (zIn L xs) a k = 0 := by
  unfold ld
  rw [zI_hi ha]
  unfold zN at h
  unfold zcI
  split at h
  · rename_i q hq
    rw [hq]
    have e := List.isEmpty_iff.mp h
    dsimp only
    rw [e]; rfl
  · cases h
def zM (a n : Nat) : Bool := match zB[a - 8]? with
  | some q => decide (q.2.1 = zFl n)
  | none => false
theorem zI_m {a n : Nat} (ha : 8 ≤ a) (h : zM a n = true) (k : Nat) : ld (zIn L xs) a k = if k < n then -1 else 0 := by
  unfold ld
  rw [zI_hi ha]
  unfold zM at h
  unfold zcI
  split at h
  · rename_i q hq
    rw [hq]
    have e := of_decide_eq_true h
    dsimp only
    rw [e, zFl_get]
    split <;> rfl
  · cases h
def zEq (a b : Nat) : Bool := match zB[a - 8]?, zB[b - 8]? with
  | some q, some r => decide (q.2.1 = r.2.1)
  | _, _ => false
theorem zI_e {a b : Nat} (ha : 8 ≤ a) (hb : 8 ≤ b) (h : zEq a b = true) (k : Nat) : ld (zIn L xs) a k = ld (zIn L xs) b k := by
  unfold ld
  rw [zI_hi ha, zI_hi hb]
  unfold zEq at h
  unfold zcI
  split at h
  · rename_i q r hq hr
    rw [hq, hr]
    have e := of_decide_eq_true h
    dsimp only
    rw [e]
  · cases h
theorem zR_n {a : Nat} (ha : 8 ≤ a) (h : (match zB[a - 8]? with
  | some q => q.2.2.isEmpty
  | none => false) = true) (k : Nat) : zRn L xs a k = none := by
  show (if a < 8 then s0R a k else zcR zB (a - 8) k) = none
  rw [if_neg (by omega)]
  unfold zcR
  split at h
  · rename_i q hq
    rw [hq]
    have e := List.isEmpty_iff.mp h
    dsimp only
    rw [e]; rfl
  · cases h
end
/-! no act yet: the code of each year is empty -/
section
variable {A : aS}
theorem cd0Y {n : Int} (h65 : (A 91 65).toNat = 0) : ∀ f, cdY A n f = -1
  | 0 => rfl
  | f + 1 => by
    rw [cdY_succ, h65]
    show cdY A n f = -1
    exact cd0Y h65 f
theorem cd0 (h65 : (A 91 65).toNat = 0) (y n : Int) : cdS A y n = -1 := cd0Y h65 _
theorem isK0 (h65 : (A 91 65).toNat = 0) (y k n : Nat) : isK A y k n = false := by
  unfold isK; rw [cd0 h65]; rfl
theorem isC0 (h65 : (A 91 65).toNat = 0) (y n : Nat) : isC A y n = false := by
  unfold isC; rw [cd0 h65]; rfl
theorem cnt0 {P : Nat → Bool} (h : ∀ n, P n = false) : ∀ n, cnt P n = 0
  | 0 => rfl
  | n + 1 => by
    show cnt P n + (if P (n + 1) = true then 1 else 0) = 0
    rw [cnt0 h n, h]; rfl
theorem stK0 (h65 : (A 91 65).toNat = 0) (y : Nat) : ∀ k, stK A y k = 0
  | 0 => rfl
  | k + 1 => by
    show stK A y k + cnt (isK A y k) 60 = 0
    rw [stK0 h65 y k, cnt0 (isK0 h65 y k)]
theorem bsY0 (h65 : (A 91 65).toNat = 0) (y : Nat) : bsY A y = 0 := by
  unfold bsY; rw [h65]; rfl
theorem cdT0 (h65 : (A 91 65).toNat = 0) (y : Int) : ∀ f n, cdT A y f n = []
  | 0, _ => rfl
  | f + 1, n => by
    show (if cdS A y n = -1 then [] else ccT A n (cdS A y n).toNat) ++ cdT A y f (n + 1) = []
    rw [if_pos (cd0 h65 _ _), cdT0 h65 y f (n + 1)]; rfl
theorem cdX0 (h65 : (A 91 65).toNat = 0) (y : Int) : cdX A y = [] := by
  unfold cdX; rw [cdT0 h65]; rfl
theorem vt0 (h : ∀ k, A 134 k = 0) (c : Nat) : ∀ n, vtL A c n = 0
  | 0 => rfl
  | n + 1 => by
    show vtL A c n + A 134 (10 * n + c) = 0
    rw [vt0 h c n, h]; rfl
theorem gv0 (h : ∀ k, A 134 k = 0) (b : Nat) : ∀ n, gvL A b n = 0
  | 0 => rfl
  | n + 1 => by
    show gvL A b n + A 134 (10 * b + n) = 0
    rw [gv0 h b n, h]; rfl
end
section
variable {L : Nat} {xs : Nat → Int32}
theorem zWF : WF (zAn L xs) := by
  have f : ∀ {k : Nat} {v : Int}, decide ((zcI zB 83 k).toInt = v) = true → zAn L xs 91 k = v := fun h => zI_f (a := 91) (by decide) h
  have h0 : zAn L xs 91 0 = 0 := f (by decide +kernel)
  have h1 : zAn L xs 91 1 = 0 := f (by decide +kernel)
  have h2 : zAn L xs 91 2 = 0 := f (by decide +kernel)
  have h3 : zAn L xs 91 3 = 0 := f (by decide +kernel)
  have h4 : zAn L xs 91 4 = 0 := f (by decide +kernel)
  have h40 : zAn L xs 91 40 = 0 := f (by decide +kernel)
  have h54 : zAn L xs 91 54 = 0 := f (by decide +kernel)
  have h57 : zAn L xs 91 57 = 0 := f (by decide +kernel)
  have h58 : zAn L xs 91 58 = 0 := f (by decide +kernel)
  have h59 : zAn L xs 91 59 = 0 := f (by decide +kernel)
  have h63 : zAn L xs 91 63 = 0 := f (by decide +kernel)
  have h65 : zAn L xs 91 65 = 0 := f (by decide +kernel)
  have h66 : zAn L xs 91 66 = 0 := f (by decide +kernel)
  have h67 : zAn L xs 91 67 = 0 := f (by decide +kernel)
  have g65 : (zAn L xs 91 65).toNat = 0 := by rw [h65]; rfl
  have a98 : ∀ k, zAn L xs 98 k = 0 := zI_0 (by decide) (by decide +kernel)
  have a99 : ∀ k, zAn L xs 99 k = 0 := zI_0 (by decide) (by decide +kernel)
  have a96 : ∀ k, zAn L xs 96 k = 0 := zI_0 (by decide) (by decide +kernel)
  have a97 : ∀ k, zAn L xs 97 k = if k < 240 then -1 else 0 := zI_m (by decide) (by decide +kernel)
  have a101 : ∀ k, zAn L xs 101 k = 0 := zI_0 (by decide) (by decide +kernel)
  have a102 : ∀ k, zAn L xs 102 k = 0 := zI_0 (by decide) (by decide +kernel)
  have a110 : ∀ k, zAn L xs 110 k = 0 := zI_0 (by decide) (by decide +kernel)
  have a134 : ∀ k, zAn L xs 134 k = 0 := zI_0 (by decide) (by decide +kernel)
  have a152 : ∀ k, zAn L xs 152 k = 0 := zI_0 (by decide) (by decide +kernel)
  refine ⟨?_, ?_, ?_, ?_, ?_, ?_, ?_, ?_, ?_, ?_, ?_, ?_⟩
  · refine ⟨by omega, by omega, by omega, ⟨by omega, by omega⟩, fun k hk => ?_⟩
    unfold nN at hk
    omega
  · intro c hc; omega
  · refine ⟨by omega, fun t ht => ?_, by omega, fun h hh => ?_, fun s hs => ?_⟩
    · omega
    · omega
    · omega
  · refine ⟨by omega, by omega, by omega, fun c hc => ?_, fun k _ => ?_, fun b c _ _ _ => a134 _, fun _ => ⟨h58, h59⟩⟩
    · omega
    · have := a134 k; omega
  · refine ⟨by omega, fun k _ => ?_, fun k hk => ?_, fun k hk => ?_⟩
    · have := a101 k; have := a102 k; omega
    · omega
    · omega
  · have g := a110
    refine ⟨?_, ?_, ?_, ?_, ?_, ?_, ?_, ?_⟩
    · rw [g, g, g, g, g, g, g, h3]; rfl
    · rw [g]; decide
    · rw [g]; decide
    · rw [g]; decide
    · rw [g]; decide
    · rw [g]; decide
    · rw [g]; decide
    · rw [g]; decide
  · show zAn L xs 91 4 = (unL (zAn L xs) (zAn L xs 91 3).toNat : Int)
    rw [h3, h4]; rfl
  · show 0 ≤ zAn L xs 91 67 ∧ zAn L xs 91 67 ≤ 800
    omega
  · refine ⟨by omega, fun j _ => ?_⟩
    have := a152 j; omega
  · refine ⟨fun k _ => ?_, fun c _ _ => a96 c⟩
    rw [a97]; split <;> decide
  · refine ⟨by omega, fun a ha => ?_⟩
    omega
  · intro y _
    rw [cdX0 g65]; exact Nat.zero_le _
theorem zRM : RM (zIn L xs) (zAn L xs) := ⟨fun _ _ _ => rfl, Or.inl (zI_f (by decide) (by decide +kernel))⟩
theorem zRelC : RelC0 (zIn L xs) (zAn L xs) := by
  have hA : ∀ r ∈ mrA, 8 ≤ r.1 ∧ 8 ≤ r.2 ∧ zEq r.1 r.2 = true := by decide +kernel
  have hS : ∀ r ∈ mrS, 8 ≤ r.1 ∧ (zcI zB (r.1 - 8) r.2.1).toInt = (zcI zB 83 r.2.2).toInt := by decide +kernel
  intro a k
  split
  · rename_i q hq
    rcases mrc2 hq with ⟨r, hr, ha, hq2⟩ | ⟨r, hr, ha, hk, hq2⟩
    · obtain ⟨h1, h2, h3⟩ := hA r hr
      rw [hq2, ← ha]
      exact zI_e h1 h2 h3 k
    · obtain ⟨h1, h2⟩ := hS r hr
      rw [hq2, ← ha, ← hk]
      show ld (zIn L xs) r.1 r.2.1 = ld (zIn L xs) 91 r.2.2
      unfold ld
      rw [zI_hi h1, zI_hi (by decide)]
      exact h2
  · trivial
theorem wrd_in : ∀ j : Nat, inR (wrdS.getD j 0) := by
  have h : ∀ v ∈ wrdS, (0 : Int) ≤ v ∧ v ≤ 127 := by decide +kernel
  intro j
  rw [List.getD_eq_getElem?_getD]
  cases e : wrdS[j]? with
  | none => exact ⟨by decide, by decide⟩
  | some v =>
    have := h v (List.mem_of_getElem? e)
    exact ⟨by show -2147483648 ≤ v; omega, by show v ≤ 2147483647; omega⟩
theorem mxN_in (k : Nat) : inR (mxN k) := by
  unfold mxN inR
  repeat' split
  all_goals decide
theorem zSt : StC (zIn L xs) := by
  refine ⟨fun k _ => ?_, fun j _ => ?_, fun j hj => ⟨?_, ?_⟩, ?_, ?_, fun i _ => zI_0 (by decide) (by decide +kernel) i⟩
  · exact toInt_oI (mxN_in k)
  · exact toInt_oI (wrd_in j)
  · exact toInt_oI (z := ((48 + j % 10 : Nat) : Int)) (by unfold inR; omega)
  · exact toInt_oI (z := ((48 + j / 10 : Nat) : Int)) (by unfold inR; omega)
  · rfl
  · rfl
theorem zInv : Inv 0 (zIn L xs) (zRn L xs) [] (zAn L xs) := by
  have f : ∀ {k : Nat} {v : Int}, decide ((zcI zB 83 k).toInt = v) = true → zAn L xs 91 k = v := fun h => zI_f (a := 91) (by decide) h
  have h3 : zAn L xs 91 3 = 0 := f (by decide +kernel)
  have h40 : zAn L xs 91 40 = 0 := f (by decide +kernel)
  have h65 : zAn L xs 91 65 = 0 := f (by decide +kernel)
  have h67 : zAn L xs 91 67 = 0 := f (by decide +kernel)
  have g65 : (zAn L xs 91 65).toNat = 0 := by rw [h65]; rfl
  have gN : nN (zAn L xs) = 0 := by unfold nN; rw [h3]; rfl
  have a134 : ∀ k, zAn L xs 134 k = 0 := zI_0 (by decide) (by decide +kernel)
  have c8 : ld (zIn L xs) 8 9 = 0 := zI_f (by decide) (by decide +kernel)
  have c70 : ld (zIn L xs) 70 15 = -1 := zI_f (by decide) (by decide +kernel)
  have c77 : ld (zIn L xs) 77 13 = -1 := zI_f (by decide) (by decide +kernel)
  have r53 : zRn L xs 53 0 = some 54 := by
    show zcR zB 45 0 = some 54
    decide +kernel
  refine ⟨⟨⟨zRelC, ⟨?_, ?_, ?_, ?_, ?_, ?_⟩, ⟨?_, ?_⟩, ?_, ⟨?_, ?_⟩, zSt, ?_⟩, ?_, ⟨?_, ?_⟩, ?_⟩, zWF, zRM, ?_, 16, ⟨54, r53, Or.inl ⟨rfl, rfl⟩, by decide⟩, ?_, ?_⟩
  · exact fun y n _ _ => ⟨fun _ => zR_n (by decide) (by decide +kernel) _, fun c => absurd (cd0 g65 _ _) c⟩
  · intro y k _ _
    rw [stK0 g65, bsY0 g65]
    exact zI_0 (by decide) (by decide +kernel) _
  · intro y k n _ _ _ hb
    rw [isK0 g65] at hb; cases hb
  · intro y _
    rw [cnt0 (isC0 g65 y)]
    exact zI_0 (by decide) (by decide +kernel) _
  · rw [g65]
    exact zI_f (v := 0) (by decide) (by decide +kernel)
  · intro a j ha _
    rw [g65] at ha; omega
  · intro k hk
    rw [gN] at hk; omega
  · intro o ho
    rw [gN]
    have e : fstO (zAn L xs) (o : Int) 0 = -1 := by unfold fstO; rw [gN]; rfl
    rw [e, zI_m (a := 40) (n := 46) (by decide) (by decide +kernel), zI_m (a := 41) (n := 46) (by decide) (by decide +kernel), if_pos ho]
    exact ⟨rfl, rfl⟩
  · intro t y ht hy
    rw [h40, if_neg (by omega), zI_m (a := 29) (n := 160) (by decide) (by decide +kernel), if_pos (by omega)]
  · intro c _
    rw [vt0 a134]
    exact zI_0 (by decide) (by decide +kernel) _
  · intro b _
    rw [gv0 a134]
    exact zI_0 (by decide) (by decide +kernel) _
  · refine ⟨zI_f (by decide) (by decide +kernel), 54, 16, r53, Or.inl ⟨rfl, rfl⟩, by decide, by decide, fun j => ?_, ?_⟩
    · rw [zI_0 (by decide) (by decide +kernel)]; decide
    · rw [zI_f (v := 0) (by decide) (by decide +kernel)]; decide
  · intro sc year code kn hs hk
    have := hk.1
    omega
  · exact zI_f (by decide) (by decide +kernel)
  · intro sc hours hs hk
    have := hk.1
    omega
  · refine ⟨⟨by omega, by omega⟩, ?_, ?_⟩
    · rw [c8, zI_f (v := 0) (by decide) (by decide +kernel)]; decide
    · rw [c8, zI_f (v := 0) (by decide) (by decide +kernel)]; decide
  · unfold Tot
    rw [g65]; exact Nat.le_refl _
  · rw [g65, h67]; decide
  · rw [g65, h67]; decide
end
