/-! what an IF's text says -/
def wOr : Int64 := Int64.ofInt 28530
def wAnd : Int64 := Int64.ofInt 6385252
def wNot : Int64 := Int64.ofInt 7237492
/-- one or more, a word between -/
def chP {α : Type} (T : Nat → Int) (N : Nat) (w : Int64) (e : Nat → Option α × Nat) : Nat → Nat → Option (List α) × Nat
  | 0, p => (none, p)
  | f + 1, p => match e p with
    | (none, r) => (none, r)
    | (some a, r) => if tkOk T N (bl T N r) w then (match chP T N w e f (lt T N (bl T N r)) with
        | (none, r') => (none, r')
        | (some l, r') => (some (a :: l), r')) else (some [a], bl T N r)
def yLf (T : Nat → Int) (N q : Nat) : Option Lf × Nat :=
  if nmS T N q = -1 then (none, q) else
  if bl T N (lt T N q) < N ∧ (T (bl T N (lt T N q)) = 60 ∨ T (bl T N (lt T N q)) = 62 ∨ T (bl T N (lt T N q)) = 61) then
    (if nmOk T N (bl T N (bl T N (lt T N q) + 1)) 0 9999 then (some (nmS T N q, T (bl T N (lt T N q)), nv T N (bl T N (bl T N (lt T N q) + 1))), dg T N (bl T N (bl T N (lt T N q) + 1))) else (none, bl T N (bl T N (lt T N q) + 1)))
  else (none, bl T N (lt T N q))
def sgP (T : Nat → Int) (N F : Nat) : (n : Nat) → Nat → Option (One n) × Nat
  | 0 => fun p => if tkOk T N (bl T N p) wNot then (none, bl T N p) else if bl T N p < N ∧ T (bl T N p) = 40 then (none, bl T N p) else yLf T N (bl T N p)
  | n + 1 => fun p => if tkOk T N (bl T N p) wNot then ((sgP T N F n (lt T N (bl T N p))).1.map (fun o => Sum.inr (Sum.inl o)), (sgP T N F n (lt T N (bl T N p))).2)
    else if bl T N p < N ∧ T (bl T N p) = 40 then (match chP T N wOr (chP T N wAnd (sgP T N F n) F) F (bl T N p + 1) with
      | (none, r) => (none, r)
      | (some t, r) => if bl T N r < N ∧ T (bl T N r) = 41 then (some (Sum.inr (Sum.inr t)), bl T N r + 1) else (none, bl T N r))
    else ((yLf T N (bl T N p)).1.map Sum.inl, (yLf T N (bl T N p)).2)
def anP (T : Nat → Int) (N F n p : Nat) : Option (Any n) × Nat := chP T N wOr (chP T N wAnd (sgP T N F n) F) F p
theorem sgP_succ {T : Nat → Int} {N F n p : Nat} : sgP T N F (n + 1) p = (if tkOk T N (bl T N p) wNot then ((sgP T N F n (lt T N (bl T N p))).1.map (fun o => Sum.inr (Sum.inl o)), (sgP T N F n (lt T N (bl T N p))).2)
    else if bl T N p < N ∧ T (bl T N p) = 40 then (match chP T N wOr (chP T N wAnd (sgP T N F n) F) F (bl T N p + 1) with
      | (none, r) => (none, r)
      | (some t, r) => if bl T N r < N ∧ T (bl T N r) = 41 then (some (Sum.inr (Sum.inr t)), bl T N r + 1) else (none, bl T N r))
    else ((yLf T N (bl T N p)).1.map Sum.inl, (yLf T N (bl T N p)).2)) := rfl
/-- where a reading may end: from p on, d bytes at least if it succeeds -/
def rdOk {α : Type} (N d p : Nat) (r : Option α × Nat) : Prop := p ≤ r.2 ∧ r.2 ≤ N ∧ (∀ a, r.1 = some a → p + d ≤ r.2)
theorem lt_in {T : Nat → Int} {N q : Nat} (h : q ≤ N) : q ≤ lt T N q ∧ lt T N q ≤ N := ltk_in _ _ h
theorem dg_in {T : Nat → Int} {N q : Nat} (h : q ≤ N) : q ≤ dg T N q ∧ dg T N q ≤ N := dgk_in _ _ h
theorem tk_pos {T : Nat → Int} {N q : Nat} {w : Int64} (h : q ≤ N) (hw : ¬ w = Int64.ofInt 0) (ht : tkOk T N q w) : q + 1 ≤ lt T N q := by
  have h1 := lt_in (T := T) h
  by_cases e : lt T N q = q
  · have h2 := ht.2
    rw [e, Nat.sub_self] at h2
    exact absurd h2.symm hw
  · omega
theorem ch_in {α : Type} {T : Nat → Int} {N d : Nat} {w : Int64} {e : Nat → Option α × Nat} (he : ∀ p, p ≤ N → rdOk N d p (e p)) : ∀ f p, p ≤ N → rdOk N d p (chP T N w e f p)
  | 0, p, h => ⟨Nat.le_refl _, h, fun a q => by exact absurd q (by intro h; cases h)⟩
  | f + 1, p, h => by
    have h1 := he p h
    unfold chP
    generalize e p = x at h1
    obtain ⟨x1, x2⟩ := x
    cases x1 with
    | none => exact ⟨h1.1, h1.2.1, fun a q => by cases q⟩
    | some a =>
      have h2 := h1.2.2 a rfl
      have h3 := h1.2.1
      dsimp only at h2 h3 ⊢
      have h4 := bl_in (T := T) h3
      split
      · have h5 := lt_in (T := T) h4.2
        have h6 := ch_in (T := T) (w := w) he f (lt T N (bl T N x2)) h5.2
        generalize chP T N w e f (lt T N (bl T N x2)) = y at h6
        obtain ⟨y1, y2⟩ := y
        cases y1 with
        | none => exact ⟨by have := h6.1; dsimp only at this ⊢; omega, h6.2.1, fun a q => by cases q⟩
        | some l => exact ⟨by have := h6.1; dsimp only at this ⊢; omega, h6.2.1, fun a q => by have := h6.1; dsimp only at this ⊢; omega⟩
      · exact ⟨by dsimp only; omega, h4.2, fun a q => by dsimp only; omega⟩
theorem nm_pos {T : Nat → Int} {N q : Nat} (h : q ≤ N) (hn : ¬ nmS T N q = -1) : q + 1 ≤ lt T N q := by
  have h1 := lt_in (T := T) h
  by_cases e : lt T N q = q
  · exfalso
    apply hn
    have e0 : whL T q (lt T N q - q) = Int64.ofInt 0 := by rw [e, Nat.sub_self]; rfl
    have hw : ∀ w : Int64, ¬ w = Int64.ofInt 0 → ¬ tkOk T N q w := fun w hw ht => hw (ht.2.symm.trans e0)
    unfold nmS
    rw [if_neg (hw _ (by decide)), if_neg (hw _ (by decide)), if_neg (hw _ (by decide)), if_neg (hw _ (by decide)), if_neg (hw _ (by decide)), if_neg (hw _ (by decide)), if_neg (hw _ (by decide)), if_neg (hw _ (by decide)), if_neg (hw _ (by decide)), if_neg (hw _ (by decide)), if_neg (hw _ (by decide)), if_neg (hw _ (by decide))]
  · omega
theorem yLf_in {T : Nat → Int} {N q : Nat} (h : q ≤ N) : rdOk N 3 q (yLf T N q) := by
  unfold yLf
  split
  · exact ⟨Nat.le_refl _, h, fun a q => by cases q⟩
  · rename_i hn
    have h1 := nm_pos (T := T) h hn
    have h2 := lt_in (T := T) h
    have h3 := bl_in (T := T) h2.2
    split
    · rename_i hs
      have h4 := bl_in (T := T) (N := N) (p := bl T N (lt T N q) + 1) (by omega)
      have h5 := dg_in (T := T) h4.2
      split
      · rename_i hd
        have h6 := hd.1
        exact ⟨by dsimp only; omega, h5.2, fun a q => by dsimp only; omega⟩
      · exact ⟨by dsimp only; omega, h4.2, fun a q => by cases q⟩
    · exact ⟨by dsimp only; omega, h3.2, fun a q => by cases q⟩
theorem sg_in {T : Nat → Int} {N F : Nat} : ∀ n p, p ≤ N → rdOk N 3 p (sgP T N F n p)
  | 0, p, h => by
    have h1 := bl_in (T := T) h
    have h2 := yLf_in (T := T) h1.2
    show rdOk N 3 p (if tkOk T N (bl T N p) wNot then (none, bl T N p) else if bl T N p < N ∧ T (bl T N p) = 40 then (none, bl T N p) else yLf T N (bl T N p))
    split
    · exact ⟨h1.1, h1.2, fun a q => by cases q⟩
    · split
      · exact ⟨h1.1, h1.2, fun a q => by cases q⟩
      · exact ⟨Nat.le_trans h1.1 h2.1, h2.2.1, fun a q => by have := h2.2.2 a q; omega⟩
  | n + 1, p, h => by
    have h1 := bl_in (T := T) h
    have h2 := yLf_in (T := T) h1.2
    have h3 := lt_in (T := T) h1.2
    have h4 := sg_in (T := T) (N := N) (F := F) n
    rw [sgP_succ]
    split
    · rename_i ht
      have h5 := h4 _ h3.2
      have h6 := tk_pos h1.2 (by decide) ht
      generalize sgP T N F n (lt T N (bl T N p)) = x at h5
      obtain ⟨x1, x2⟩ := x
      refine ⟨by have := h5.1; dsimp only at this ⊢; omega, h5.2.1, fun a q => ?_⟩
      cases x1 with
      | none => cases q
      | some o => have := h5.2.2 o rfl; dsimp only at this ⊢; omega
    · split
      · rename_i hb
        have h5 := ch_in (T := T) (w := wOr) (fun p hp => ch_in (T := T) (w := wAnd) (e := sgP T N F n) h4 F p hp) F (bl T N p + 1) (by omega)
        generalize chP T N wOr (chP T N wAnd (sgP T N F n) F) F (bl T N p + 1) = x at h5
        obtain ⟨x1, x2⟩ := x
        cases x1 with
        | none => exact ⟨by have := h5.1; dsimp only at this ⊢; omega, h5.2.1, fun a q => by cases q⟩
        | some t =>
          have h6 := h5.2.2 t rfl
          have h7 := h5.2.1
          dsimp only at h6 h7 ⊢
          have h8 := bl_in (T := T) h7
          split
          · exact ⟨by dsimp only; omega, by dsimp only; omega, fun a q => by dsimp only; omega⟩
          · exact ⟨by dsimp only; omega, by dsimp only; omega, fun a q => by cases q⟩
      · refine ⟨by have := h2.1; dsimp only at this ⊢; omega, h2.2.1, fun a q => ?_⟩
        generalize yLf T N (bl T N p) = x at h2 q
        obtain ⟨x1, x2⟩ := x
        cases x1 with
        | none => cases q
        | some o => have := h2.2.2 o rfl; dsimp only at this ⊢; omega
theorem an_in {T : Nat → Int} {N F n p : Nat} (h : p ≤ N) : rdOk N 3 p (anP T N F n p) := ch_in (fun p hp => ch_in (sg_in n) F p hp) F p h
