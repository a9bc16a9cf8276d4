/-! the executor -/
abbrev zcT : Type := Option (List Value × List Value × zcM)
def zs04 (i : mIns) (ls st : List Value) (c : zcM) : zcT := match ls[i.2.1]? with
  | some (.int x) => some (ls, .int x :: st, c)
  | _ => none
def zs06 (i : mIns) (ls st : List Value) (c : zcM) : zcT := match ls[i.2.1]? with
  | some (.ref x) => some (ls, .ref x :: st, c)
  | _ => none
def zs07 (i : mIns) (ls st : List Value) (c : zcM) : zcT := match st with
  | .int x :: r => if i.2.1 < ls.length then some (mSet ls i.2.1 (.int x), r, c) else none
  | _ => none
def zs10 (i : mIns) (ls st : List Value) (c : zcM) : zcT := match ls[i.2.1]? with
  | some (.int x) => some (mSet ls i.2.1 (.int (x + oI i.2.2.2)), st, c)
  | _ => none
def zs13 (ls st : List Value) (c : zcM) : zcT := match st with
  | .ref x :: r => some (ls, .ref x :: .ref x :: r, c)
  | _ => none
def zs44 (ls st : List Value) (c : zcM) : zcT := match st with
  | .int x :: .int j :: .ref a :: r => match zcQ c a with
    | some q => if q.1 = 0 ∧ 0 ≤ j.toInt ∧ j.toInt < q.2 then some (ls, r, zcU (zfI j.toInt.toNat x) c (a - 8)) else none
    | none => none
  | _ => none
def zs48 (ls st : List Value) (c : zcM) : zcT := match st with
  | .ref a :: r => if a = 1 then some (ls, .int (oI (7 : Nat)) :: r, c) else match zcQ c a with
    | some q => if q.1 < 4 then some (ls, .int (oI q.2) :: r, c) else none
    | none => none
  | _ => none
def zs49 (i : mIns) (ls st : List Value) (c : zcM) : zcT := match st with
  | .int x :: .ref a :: r => match zcQ c a with
    | some q => if q.1 = i.2.2.1 + 4 ∧ i.2.1 < q.2 ∧ mNar 1 x = true then some (ls, r, zcU (zfI i.2.1 x) c (a - 8)) else none
    | none => none
  | _ => none
def zs51 (i : mIns) (ls st : List Value) (c : zcM) : zcT := match st with
  | .ref a :: r => match zcQ c a with
    | some q => if q.1 = i.2.2.1 + 4 ∧ i.2.1 < q.2 then some (ls, vR (zcR c (a - 8) i.2.1) :: r, c) else none
    | none => none
  | _ => none
def zs52 (i : mIns) (ls st : List Value) (c : zcM) : zcT := match st with
  | .int x :: .ref a :: r => match zcQ c a with
    | some q => if q.1 = i.2.2.1 + 4 ∧ i.2.1 < q.2 then some (ls, r, zcU (zfI i.2.1 x) c (a - 8)) else none
    | none => none
  | _ => none
def zs53 (i : mIns) (ls st : List Value) (c : zcM) : zcT := match st with
  | .ref v :: .ref a :: r => match zcQ c a with
    | some q => if q.1 = i.2.2.1 + 4 ∧ i.2.1 < q.2 then some (ls, r, zcU (zfR i.2.1 (some v)) c (a - 8)) else none
    | none => none
  | _ => none
def zs59 (i : mIns) (ls st : List Value) (c : zcM) : zcT := match st with
  | .int n :: r => if 0 ≤ n.toInt ∧ n.toInt ≤ 1000000 then some (ls, .ref (zcN c 8) :: r, c ++ [((i.2.1, n.toInt.toNat), [], [])]) else none
  | _ => none
def zst (i : mIns) (ls st : List Value) (c : zcM) : zcT :=
  if i.1 = 0 then some (ls, .int (oI i.2.2.2) :: st, c)
  else if i.1 = 4 then zs04 i ls st c
  else if i.1 = 6 then zs06 i ls st c
  else if i.1 = 7 then zs07 i ls st c
  else if i.1 = 10 then zs10 i ls st c
  else if i.1 = 13 then zs13 ls st c
  else if i.1 = 44 then zs44 ls st c
  else if i.1 = 48 then zs48 ls st c
  else if i.1 = 49 then zs49 i ls st c
  else if i.1 = 51 then zs51 i ls st c
  else if i.1 = 52 then zs52 i ls st c
  else if i.1 = 53 then zs53 i ls st c
  else if i.1 = 54 then some (ls, .int (oI i.2.2.2) :: st, c)
  else if i.1 = 55 then some (ls, .ref i.2.1 :: st, c)
  else if i.1 = 58 then some (ls, .ref (zcN c 8) :: st, c ++ [((i.2.2.1 + 4, jNs.getD i.2.2.1 0), [], [])])
  else if i.1 = 59 then zs59 i ls st c
  else none
section
variable {s : mM} {c : zcM} {ls st : List Value} {i : mIns} {r : List Value × List Value × zcM} {x y : Nat} {z : Int}
theorem mOb_i {σ : mM} {a ci k n : Nat} (ha : 8 ≤ a) (h : σ.2.2[a]? = some (ci + 4, n)) (hk : k < n) : mOb σ a ci k = true := by
  unfold mOb
  rw [h]
  simp [nSP, ha, hk]
theorem mIx_i {σ : mM} {a n : Nat} {j : Int32} (h : σ.2.2[a]? = some (0, n)) (h0 : 0 ≤ j.toInt) (h1 : j.toInt < n) : mIx σ a 0 j = true := by
  unfold mIx
  rw [h]
  simp [h0, h1]
theorem zs04_s (h : zs04 (4, x, y, z) ls st c = some r) : mstep (4, x, y, z) ls st (zcD s c) = some (r.1, r.2.1, zcD s r.2.2) := by
  unfold zs04 at h
  dsimp only at h
  split at h
  · rename_i v hv
    cases h
    show mst1 (4, x, y, z) ls st (zcD s c) = _
    simp [mst1, hv]
  · cases h
theorem zs06_s (h : zs06 (6, x, y, z) ls st c = some r) : mstep (6, x, y, z) ls st (zcD s c) = some (r.1, r.2.1, zcD s r.2.2) := by
  unfold zs06 at h
  dsimp only at h
  split at h
  · rename_i v hv
    cases h
    show mst1 (6, x, y, z) ls st (zcD s c) = _
    simp [mst1, hv]
  · cases h
theorem zs07_s (h : zs07 (7, x, y, z) ls st c = some r) : mstep (7, x, y, z) ls st (zcD s c) = some (r.1, r.2.1, zcD s r.2.2) := by
  unfold zs07 at h
  split at h
  · rename_i v st'
    split at h
    · rename_i hc
      cases h
      show (if x < ls.length then some (mSet ls x (.int v), st', zcD s c) else none) = _
      exact if_pos hc
    · cases h
  · cases h
theorem zs10_s (h : zs10 (10, x, y, z) ls st c = some r) : mstep (10, x, y, z) ls st (zcD s c) = some (r.1, r.2.1, zcD s r.2.2) := by
  unfold zs10 at h
  dsimp only at h
  split at h
  · rename_i v hv
    cases h
    show mst1 (10, x, y, z) ls st (zcD s c) = _
    simp [mst1, hv]
  · cases h
theorem zs13_s (h : zs13 ls st c = some r) : mstep (13, x, y, z) ls st (zcD s c) = some (r.1, r.2.1, zcD s r.2.2) := by
  unfold zs13 at h
  split at h
  · cases h; rfl
  · cases h
theorem zs44_s (h8 : s.2.2.length = 8) (h : zs44 ls st c = some r) : mstep (44, x, y, z) ls st (zcD s c) = some (r.1, r.2.1, zcD s r.2.2) := by
  unfold zs44 at h
  split at h
  · rename_i v j a st'
    split at h
    · rename_i q hq
      split at h
      · rename_i hc
        cases h
        obtain ⟨h1, ⟨w, h2⟩, h3⟩ := zcQ_s (s := s) h8 hq
        obtain ⟨q1, q2⟩ := q
        obtain ⟨rfl, c2, c3⟩ := hc
        show (if nSP ≤ a ∧ mIx (zcD s c) a 0 j = true then some (ls, st', wI (zcD s c) a j.toInt.toNat v) else none) = _
        rw [if_pos ⟨h1, mIx_i h3 c2 c3⟩, zwI h1 h2]
      · cases h
    · cases h
  · cases h
theorem zs48_s (h8 : s.2.2.length = 8) (hm : s.2.2[1]? = some (0, 7)) (h : zs48 ls st c = some r) : mstep (48, x, y, z) ls st (zcD s c) = some (r.1, r.2.1, zcD s r.2.2) := by
  unfold zs48 at h
  split at h
  · rename_i a st'
    have go : ∀ kd n : Nat, (zcD s c).2.2[a]? = some (kd, n) → kd < 4 → mstep (48, x, y, z) ls (.ref a :: st') (zcD s c) = some (ls, .int (oI n) :: st', zcD s c) := fun kd n h1 h2 => by
      show (match (zcD s c).2.2[a]? with
        | some (kd, n) => if kd < 4 then some (ls, (.int (oI n) : Value) :: st', zcD s c) else none
        | none => none) = _
      rw [h1]
      exact if_pos h2
    split at h
    · rename_i ha
      cases h
      refine go 0 7 ?_ (by decide)
      rw [ha]
      show (s.2.2 ++ c.map (fun q => q.1))[1]? = _
      rw [List.getElem?_append_left (by omega)]; exact hm
    · split at h
      · rename_i q hq
        split at h
        · rename_i hc
          cases h
          exact go q.1 q.2 (zcQ_s (s := s) h8 hq).2.2 hc
        · cases h
      · cases h
  · cases h
theorem zs49_s (h8 : s.2.2.length = 8) (h : zs49 (49, x, y, z) ls st c = some r) : mstep (49, x, y, z) ls st (zcD s c) = some (r.1, r.2.1, zcD s r.2.2) := by
  unfold zs49 at h
  split at h
  · rename_i v a st'
    split at h
    · rename_i q hq
      split at h
      · rename_i hc
        cases h
        obtain ⟨h1, ⟨w, h2⟩, h3⟩ := zcQ_s (s := s) h8 hq
        obtain ⟨q1, q2⟩ := q
        obtain ⟨rfl, c2, c3⟩ := hc
        show (if nSP ≤ a ∧ mOb (zcD s c) a y x = true ∧ mNar 1 v = true then some (ls, st', wI (zcD s c) a x v) else none) = _
        rw [if_pos ⟨h1, mOb_i h1 h3 c2, c3⟩, zwI h1 h2]
      · cases h
    · cases h
  · cases h
theorem zs51_s (h8 : s.2.2.length = 8) (h : zs51 (51, x, y, z) ls st c = some r) : mstep (51, x, y, z) ls st (zcD s c) = some (r.1, r.2.1, zcD s r.2.2) := by
  unfold zs51 at h
  split at h
  · rename_i a st'
    split at h
    · rename_i q hq
      split at h
      · rename_i hc
        cases h
        obtain ⟨h1, ⟨w, h2⟩, h3⟩ := zcQ_s (s := s) h8 hq
        obtain ⟨q1, q2⟩ := q
        obtain ⟨rfl, c2⟩ := hc
        show (if mOb (zcD s c) a y x = true then some (ls, vR (if a < 8 then s.2.1 a x else zcR c (a - 8) x) :: st', zcD s c) else none) = _
        rw [if_pos (mOb_i h1 h3 c2), if_neg (Nat.not_lt.mpr h1)]
      · cases h
    · cases h
  · cases h
theorem zs52_s (h8 : s.2.2.length = 8) (h : zs52 (52, x, y, z) ls st c = some r) : mstep (52, x, y, z) ls st (zcD s c) = some (r.1, r.2.1, zcD s r.2.2) := by
  unfold zs52 at h
  split at h
  · rename_i v a st'
    split at h
    · rename_i q hq
      split at h
      · rename_i hc
        cases h
        obtain ⟨h1, ⟨w, h2⟩, h3⟩ := zcQ_s (s := s) h8 hq
        obtain ⟨q1, q2⟩ := q
        obtain ⟨rfl, c2⟩ := hc
        show (if nSP ≤ a ∧ mOb (zcD s c) a y x = true then some (ls, st', wI (zcD s c) a x v) else none) = _
        rw [if_pos ⟨h1, mOb_i h1 h3 c2⟩, zwI h1 h2]
      · cases h
    · cases h
  · cases h
theorem zs53_s (h8 : s.2.2.length = 8) (h : zs53 (53, x, y, z) ls st c = some r) : mstep (53, x, y, z) ls st (zcD s c) = some (r.1, r.2.1, zcD s r.2.2) := by
  unfold zs53 at h
  split at h
  · rename_i v a st'
    split at h
    · rename_i q hq
      split at h
      · rename_i hc
        cases h
        obtain ⟨h1, ⟨w, h2⟩, h3⟩ := zcQ_s (s := s) h8 hq
        obtain ⟨q1, q2⟩ := q
        obtain ⟨rfl, c2⟩ := hc
        show (if nSP ≤ a ∧ mOb (zcD s c) a y x = true then some (ls, st', wR (zcD s c) a x (some v)) else none) = _
        rw [if_pos ⟨h1, mOb_i h1 h3 c2⟩, zwR h1 h2]
      · cases h
    · cases h
  · cases h
theorem zs59_s (h8 : s.2.2.length = 8) (h : zs59 (59, x, y, z) ls st c = some r) : mstep (59, x, y, z) ls st (zcD s c) = some (r.1, r.2.1, zcD s r.2.2) := by
  unfold zs59 at h
  split at h
  · rename_i n st'
    split at h
    · rename_i hc
      cases h
      show (if 0 ≤ n.toInt ∧ n.toInt ≤ 1000000 then some (ls, .ref (zcD s c).2.2.length :: st', mNew (zcD s c) (x, n.toInt.toNat)) else none) = _
      rw [if_pos hc, zNew h8, zlen h8]
    · cases h
  · cases h
theorem zst_s (h8 : s.2.2.length = 8) (hm : s.2.2[1]? = some (0, 7)) (h : zst i ls st c = some r) : mstep i ls st (zcD s c) = some (r.1, r.2.1, zcD s r.2.2) := by
  obtain ⟨o, x, y, z⟩ := i
  unfold zst at h
  dsimp only at h
  by_cases e0 : o = 0
  · rw [if_pos e0] at h; subst e0; cases h; rfl
  rw [if_neg e0] at h
  by_cases e1 : o = 4
  · rw [if_pos e1] at h; subst e1; exact zs04_s h
  rw [if_neg e1] at h
  by_cases e2 : o = 6
  · rw [if_pos e2] at h; subst e2; exact zs06_s h
  rw [if_neg e2] at h
  by_cases e3 : o = 7
  · rw [if_pos e3] at h; subst e3; exact zs07_s h
  rw [if_neg e3] at h
  by_cases e4 : o = 10
  · rw [if_pos e4] at h; subst e4; exact zs10_s h
  rw [if_neg e4] at h
  by_cases e5 : o = 13
  · rw [if_pos e5] at h; subst e5; exact zs13_s h
  rw [if_neg e5] at h
  by_cases e6 : o = 44
  · rw [if_pos e6] at h; subst e6; exact zs44_s h8 h
  rw [if_neg e6] at h
  by_cases e7 : o = 48
  · rw [if_pos e7] at h; subst e7; exact zs48_s h8 hm h
  rw [if_neg e7] at h
  by_cases e8 : o = 49
  · rw [if_pos e8] at h; subst e8; exact zs49_s h8 h
  rw [if_neg e8] at h
  by_cases e9 : o = 51
  · rw [if_pos e9] at h; subst e9; exact zs51_s h8 h
  rw [if_neg e9] at h
  by_cases e10 : o = 52
  · rw [if_pos e10] at h; subst e10; exact zs52_s h8 h
  rw [if_neg e10] at h
  by_cases e11 : o = 53
  · rw [if_pos e11] at h; subst e11; exact zs53_s h8 h
  rw [if_neg e11] at h
  by_cases e12 : o = 54
  · rw [if_pos e12] at h; subst e12; cases h; rfl
  rw [if_neg e12] at h
  by_cases e13 : o = 55
  · rw [if_pos e13] at h; subst e13; cases h; rfl
  rw [if_neg e13] at h
  by_cases e14 : o = 58
  · rw [if_pos e14] at h
    subst e14
    cases h
    show some (ls, .ref (zcD s c).2.2.length :: st, mNew (zcD s c) (y + 4, jNs.getD y 0)) = _
    rw [zNew h8, zlen h8]
  rw [if_neg e14] at h
  by_cases e15 : o = 59
  · rw [if_pos e15] at h; subst e15; exact zs59_s h8 h
  rw [if_neg e15] at h
  cases h
def zrc (m : Nat) (as : List Value) (c : zcM) : Bool := decide ((mLay as).length ≤ jML.getD m 0) && match jMR.getD m 0, as with
  | 0, _ => true
  | k + 1, .ref a :: _ => (match zcQ c a with
    | some q => q.1 == k + 1
    | none => false)
  | _, _ => false
theorem zrc_s {m : Nat} {as : List Value} (h8 : s.2.2.length = 8) (h : zrc m as c = true) : mRcv m as (zcD s c) = true := by
  unfold zrc at h
  unfold mRcv
  simp only [Bool.and_eq_true] at h ⊢
  refine ⟨h.1, ?_⟩
  have h2 := h.2
  generalize jMR.getD m 0 = k at h2 ⊢
  cases k with
  | zero => rfl
  | succ k =>
    cases as with
    | nil => cases h2
    | cons v r =>
      cases v with
      | ref a =>
        dsimp only at h2 ⊢
        split at h2
        · rename_i q hq
          obtain ⟨h3, -, h4⟩ := zcQ_s (s := s) h8 hq
          rw [h4]
          have e := eq_of_beq h2
          simp [nSP, h3, e]
        · cases h2
      | _ => cases h2
def zcall (i : mIns) (st : List Value) (c : zcM) : Option (List Value × List Value) := match mPop i.2.2.1 [] st with
  | some (as, r) => if zrc i.2.1 as c && decide (r.length ≤ 4) then some (as, r) else none
  | none => none
theorem zcall_s {q : List Value × List Value} (h8 : s.2.2.length = 8) (h : zcall i st c = some q) : mcall i st (zcD s c) = some q := by
  unfold zcall at h
  unfold mcall
  split at h
  · rename_i as r hp
    rw [hp]
    split at h
    · rename_i hc
      cases h
      simp only [Bool.and_eq_true] at hc
      dsimp only
      rw [if_pos]
      rw [Bool.and_eq_true]
      exact ⟨zrc_s h8 hc.1, hc.2⟩
    · cases h
  · cases h
end
def zrun : Nat → Nat → List mIns → List Value → List Value → zcM → Option zcM
  | 0, _, _, _, _, _ => none
  | _ + 1, _, [], _, _, _ => none
  | n + 1, d, i :: is, ls, st, c =>
    if i.1 < 60 then
      match zst i ls st c with
      | some r => zrun n d is r.1 r.2.1 r.2.2
      | none => none
    else if i.1 < 80 then
      match mbr i st with
      | some (none, st') => zrun n d is ls st' c
      | some (some q, st') => zrun n d (gb q.1 q.2) ls st' c
      | none => none
    else if i.1 = 83 then
      match st with
      | [] => some c
      | _ :: _ => none
    else match d with
      | 0 => none
      | d' + 1 =>
        if i.1 = 100 then
          match zcall i st c with
          | some (as, r) =>
            match zrun n d' (gb i.2.1 0) (mkL i.2.1 as) [] c with
            | some c' => zrun n (d' + 1) is ls r c'
            | none => none
          | none => none
        else if i.1 = 107 then
          match st with
          | .ref _ :: r => if r.length ≤ 4 then zrun n (d' + 1) is ls r c else none
          | _ => none
        else none
theorem zrun_cons (n d : Nat) (i : mIns) (is : List mIns) (ls st : List Value) (c : zcM) : zrun (n + 1) d (i :: is) ls st c =
    if i.1 < 60 then
      match zst i ls st c with
      | some r => zrun n d is r.1 r.2.1 r.2.2
      | none => none
    else if i.1 < 80 then
      match mbr i st with
      | some (none, st') => zrun n d is ls st' c
      | some (some q, st') => zrun n d (gb q.1 q.2) ls st' c
      | none => none
    else if i.1 = 83 then
      match st with
      | [] => some c
      | _ :: _ => none
    else match d with
      | 0 => none
      | d' + 1 =>
        if i.1 = 100 then
          match zcall i st c with
          | some (as, r) =>
            match zrun n d' (gb i.2.1 0) (mkL i.2.1 as) [] c with
            | some c' => zrun n (d' + 1) is ls r c'
            | none => none
          | none => none
        else if i.1 = 107 then
          match st with
          | .ref _ :: r => if r.length ≤ 4 then zrun n (d' + 1) is ls r c else none
          | _ => none
        else none := rfl
theorem mret83 {i : mIns} {σ : mM} (h : i.1 = 83) : mret i [] σ = some (none, σ) := by
  obtain ⟨o, x, y, z⟩ := i
  dsimp only at h
  subst h
  rfl
theorem mnat107 {i : mIns} {a : Nat} {r : List Value} {σ : mM} (h : i.1 = 107) (hr : r.length ≤ 4) : mnat i (.ref a :: r) σ = some (r, σ) := by
  obtain ⟨o, x, y, z⟩ := i
  dsimp only at h
  subst h
  exact if_pos hr
theorem zrun_s {s : mM} (h8 : s.2.2.length = 8) (hm : s.2.2[1]? = some (0, 7)) : ∀ (n d : Nat) (is : List mIns) (ls st : List Value) (c c1 : zcM), zrun n d is ls st c = some c1 → ex n d is ls st (zcD s c) = some (none, zcD s c1) := by
  intro n
  induction n with
  | zero => intro d is ls st c c1 h; cases h
  | succ n ih =>
    intro d is ls st c c1 h
    cases is with
    | nil => cases h
    | cons i is =>
      rw [zrun_cons] at h
      rw [ex_cons]
      by_cases h60 : i.1 < 60
      · rw [if_pos h60] at h ⊢
        split at h
        · rename_i r hr
          rw [zst_s h8 hm hr]
          exact ih _ _ _ _ _ _ h
        · cases h
      rw [if_neg h60] at h ⊢
      by_cases h80 : i.1 < 80
      · rw [if_pos h80] at h ⊢
        split at h
        · rename_i st' hb
          rw [hb]
          exact ih _ _ _ _ _ _ h
        · rename_i q st' hb
          rw [hb]
          exact ih _ _ _ _ _ _ h
        · cases h
      rw [if_neg h80] at h ⊢
      by_cases h83 : i.1 = 83
      · rw [if_pos h83] at h
        rw [if_pos (by omega)]
        split at h
        · cases h
          exact mret83 h83
        · cases h
      rw [if_neg h83] at h
      cases d with
      | zero => cases h
      | succ d' =>
        dsimp only at h ⊢
        by_cases h100 : i.1 = 100
        · rw [if_pos h100] at h
          rw [if_neg (by omega), if_pos (by omega)]
          split at h
          · rename_i as r hc
            rw [zcall_s h8 hc]
            dsimp only
            split at h
            · rename_i c2 hc2
              rw [ih _ _ _ _ _ _ hc2]
              dsimp only
              rw [show mpush i.1 none r = some r by rw [h100]; rfl]
              exact ih _ _ _ _ _ _ h
            · cases h
          · cases h
        rw [if_neg h100] at h
        by_cases h107 : i.1 = 107
        · rw [if_pos h107] at h
          rw [if_neg (by omega), if_neg (by omega)]
          split at h
          · rename_i a r
            split at h
            · rename_i hr
              rw [mnat107 h107 hr]
              exact ih _ _ _ _ _ _ h
            · cases h
          · cases h
        rw [if_neg h107] at h
        cases h
