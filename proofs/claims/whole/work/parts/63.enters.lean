/-! the reference: whom to enter for what -/
def rwL (A : aS) (school : Int) : Nat → List Nat
  | 0 => []
  | c + 1 => if onS A c (A 91 0) (A 91 0) = school then rwL A school c ++ [c] else rwL A school c
def mxL (w H : Nat → Int) (nxt : Int → Int) (h : Int) : Nat → Int
  | 0 => -1
  | t + 1 => if ¬ w t = -1 ∧ H t ≤ h then max (mxL w H nxt h t) (w t + nxt (h - H t)) else mxL w H nxt h t
def mfS (H : Nat → Int) : List (Nat → Int) → Int → Int
  | [], _ => 0
  | w :: ws, h => mxL w H (mfS H ws) h 64
def pkC (w H : Nat → Int) (nxt : Int → Int) (left best : Int) (t : Nat) : Prop := ¬ w t = -1 ∧ H t ≤ left ∧ w t + nxt (left - H t) = best
def pkF (w H : Nat → Int) (nxt : Int → Int) (left best : Int) : Nat → Nat → Nat
  | 0, _ => 0
  | f + 1, t => if ¬ w t = -1 ∧ H t ≤ left ∧ w t + nxt (left - H t) = best then t else pkF w H nxt left best f (t + 1)
def pkS (H : Nat → Int) (w : Nat → Int) (ws : List (Nat → Int)) (left : Int) : Nat := pkF w H (mfS H ws) left (mfS H (w :: ws) left) 64 0
def ckS (H : Nat → Int) : List (Nat → Int) → Int → List Nat
  | [], _ => []
  | w :: ws, left => pkS H w ws left :: ckS H ws (left - H (pkS H w ws left))
def lfS (H : Nat → Int) : List (Nat → Int) → Int → Int
  | [], left => left
  | w :: ws, left => lfS H ws (left - H (pkS H w ws left))
/-- worths as they come: never below -1, nothing for nothing, bounded -/
def WsOk (M : Int) (w : Nat → Int) : Prop := (∀ t, -1 ≤ w t ∧ w t ≤ M) ∧ ¬ w 0 = -1
def HOk (H : Nat → Int) : Prop := (∀ t, 0 ≤ H t ∧ H t ≤ 60000) ∧ H 0 = 0
theorem mxL_in {w H : Nat → Int} {nxt : Int → Int} {h M N : Int} (hH : HOk H) (hw : WsOk M w) (hM : 0 ≤ M) (hn : ∀ x, 0 ≤ x → 0 ≤ nxt x ∧ nxt x ≤ N) (hN : 0 ≤ N) : ∀ t, -1 ≤ mxL w H nxt h t ∧ mxL w H nxt h t ≤ M + N
  | 0 => by unfold mxL; omega
  | t + 1 => by
    have ih := mxL_in (h := h) hH hw hM hn hN t
    have h1 := hw.1 t
    unfold mxL
    split
    · rename_i c
      have h2 := hn (h - H t) (by omega)
      omega
    · exact ih
theorem mxL_pos {w H : Nat → Int} {nxt : Int → Int} {h M N : Int} (hH : HOk H) (hw : WsOk M w) (hn : ∀ x, 0 ≤ x → 0 ≤ nxt x ∧ nxt x ≤ N) (hh : 0 ≤ h) : ∀ t, 0 ≤ mxL w H nxt h (t + 1)
  | 0 => by
    have h1 := hw.1 0
    have h0 := hw.2
    have h2 := hH.2
    have h3 := hn (h - H 0) (by omega)
    unfold mxL
    rw [if_pos ⟨h0, by omega⟩]
    omega
  | t + 1 => by
    have ih := mxL_pos hH hw hn hh t
    unfold mxL
    split
    · omega
    · exact ih
theorem mxL_hit {w H : Nat → Int} {nxt : Int → Int} {h : Int} : ∀ t, mxL w H nxt h t = -1 ∨ ∃ j, j < t ∧ pkC w H nxt h (mxL w H nxt h t) j
  | 0 => Or.inl rfl
  | t + 1 => by
    have ih := mxL_hit (w := w) (H := H) (nxt := nxt) (h := h) t
    unfold mxL
    split
    · rename_i c
      by_cases hm : mxL w H nxt h t ≤ w t + nxt (h - H t)
      · rw [show max (mxL w H nxt h t) (w t + nxt (h - H t)) = w t + nxt (h - H t) by omega]
        exact Or.inr ⟨t, by omega, c.1, c.2, rfl⟩
      · rw [show max (mxL w H nxt h t) (w t + nxt (h - H t)) = mxL w H nxt h t by omega]
        rcases ih with h1 | ⟨j, h1, h2⟩
        · exact Or.inl h1
        · exact Or.inr ⟨j, by omega, h2⟩
    · rcases ih with h1 | ⟨j, h1, h2⟩
      · exact Or.inl h1
      · exact Or.inr ⟨j, by omega, h2⟩
theorem mfS_in {H : Nat → Int} {M : Int} (hH : HOk H) (hM : 0 ≤ M) : ∀ (ws : List (Nat → Int)), (∀ w ∈ ws, WsOk M w) → ∀ h, 0 ≤ h → 0 ≤ mfS H ws h ∧ mfS H ws h ≤ M * ws.length
  | [], _, h, _ => by unfold mfS; simp
  | w :: ws, hw, h, hh => by
    have ih := mfS_in hH hM ws (fun q hq => hw q (List.mem_cons_of_mem _ hq))
    have hN : 0 ≤ M * ws.length := Int.mul_nonneg hM (by omega)
    have h1 := mxL_in (h := h) hH (hw w List.mem_cons_self) hM ih hN 64
    have h2 := mxL_pos hH (hw w List.mem_cons_self) ih hh 63
    have e : M * ((w :: ws).length : Int) = M + M * ws.length := by rw [List.length_cons, show ((ws.length + 1 : Nat) : Int) = ws.length + 1 by omega, Int.mul_add, Int.mul_one]; omega
    rw [e]
    exact ⟨h2, h1.2⟩
theorem pkF_spec {w H : Nat → Int} {nxt : Int → Int} {left best : Int} : ∀ (f t : Nat), (∃ j, t ≤ j ∧ j < t + f ∧ pkC w H nxt left best j) → t ≤ pkF w H nxt left best f t ∧ pkF w H nxt left best f t < t + f ∧ pkC w H nxt left best (pkF w H nxt left best f t)
  | 0, t, ⟨j, h1, h2, _⟩ => by omega
  | f + 1, t, ⟨j, h1, h2, h3⟩ => by
    unfold pkF
    split
    · rename_i c; exact ⟨by omega, by omega, c⟩
    · rename_i c
      have : ∃ j, t + 1 ≤ j ∧ j < t + 1 + f ∧ pkC w H nxt left best j := by
        refine ⟨j, ?_, by omega, h3⟩
        by_cases e : j = t
        · rw [e] at h3; exact absurd h3 c
        · omega
      have ih := pkF_spec f (t + 1) this
      exact ⟨by omega, by omega, ih.2.2⟩
theorem pkS_spec {H : Nat → Int} {M : Int} (hH : HOk H) (hM : 0 ≤ M) {w : Nat → Int} {ws : List (Nat → Int)} (hw : WsOk M w) (hws : ∀ q ∈ ws, WsOk M q) {left : Int} (hl : 0 ≤ left) : pkS H w ws left < 64 ∧ pkC w H (mfS H ws) left (mfS H (w :: ws) left) (pkS H w ws left) := by
  have h1 := mxL_hit (w := w) (H := H) (nxt := mfS H ws) (h := left) 64
  have h2 := mxL_pos hH hw (mfS_in hH hM ws hws) hl 63
  rcases h1 with h1 | ⟨j, h1, h3⟩
  · omega
  · have := pkF_spec (w := w) (H := H) (nxt := mfS H ws) (left := left) (best := mfS H (w :: ws) left) 64 0 ⟨j, by omega, by omega, h3⟩
    exact ⟨by unfold pkS; omega, this.2.2⟩
theorem teS_in {A : aS} (hC : WfC A) {code s : Int} : 0 ≤ teS A code s ∧ teS A code s ≤ 9999 := by
  unfold teS
  rcases fsS_prop hC (h := zE) (y := code) (kind := 14) (key := s) with q | ⟨m, t, q1, q2, q3, q4, q5, q6, q7, q8, -⟩
  · rw [if_pos q]; omega
  · rw [q1, if_neg (by omega), q4, Int.toNat_natCast]
    exact (q6.2.2 q7).2.1 (by omega)
theorem hrL_in {A : aS} (hC : WfC A) {code set : Int} : ∀ s : Nat, 0 ≤ hrL A code set s ∧ hrL A code set s ≤ 9999 * s
  | 0 => by unfold hrL; omega
  | s + 1 => by
    have ih := hrL_in hC (code := code) (set := set) s
    have h := teS_in hC (code := code) (s := s)
    unfold hrL; split <;> omega
theorem bit0 : ∀ s : Nat, s < 6 → iAnd (iShr 0 (s : Int)) 1 = 0 := by
  intro s hs
  have e : iShr ((0 : Nat) : Int) (s : Int) = ((0 / 2 ^ s : Nat) : Int) := iShr_nat (m := 0) (by omega) (by decide)
  rw [Nat.zero_div] at e
  have e' : iShr 0 (s : Int) = 0 := e
  rw [e']; rfl
theorem hrS_0 {A : aS} {code : Int} : hrS A code 0 = 0 := by
  unfold hrS
  have : ∀ s : Nat, s ≤ 6 → hrL A code 0 s = 0 := by
    intro s
    induction s with
    | zero => intro _; rfl
    | succ s ih => intro h; unfold hrL; rw [if_pos (bit0 s (by omega))]; exact ih (by omega)
  exact this 6 (Nat.le_refl _)
theorem hr_ok {A : aS} (hC : WfC A) {code : Int} : HOk (fun t => hrS A code t) := by
  refine ⟨fun t => ?_, hrS_0⟩
  have := hrL_in hC (code := code) (set := (t : Int)) 6
  dsimp only
  unfold hrS
  omega
theorem wo_ok {A : aS} (hC : WfC A) {c year : Int} : WsOk 599940 (fun t => woS A c year t) := by
  refine ⟨fun t => woS_in hC, ?_⟩
  have h := brS_in hC (e := woE A c year) (c := c) (year := year) (set := 0)
  have e : iAnd 0 (iXor (mayS A c year) (-1)) = 0 := by
    unfold iAnd
    have : oI 0 &&& oI (iXor (mayS A c year) (-1)) = 0 := by
      show (0 : Int32) &&& _ = 0
      exact Int32.zero_and
    rw [this]; rfl
  show ¬ woS A c year ((0 : Nat) : Int) = -1
  have : woS A c year 0 = brS A (woE A c year) c year 0 := by unfold woS; rw [if_pos e]
  have e0 : ((0 : Nat) : Int) = 0 := rfl
  rw [e0, this]
  omega
theorem rwL_in {A : aS} {school : Int} : ∀ c, (rwL A school c).length ≤ c ∧ ∀ q ∈ rwL A school c, q < c
  | 0 => ⟨Nat.le_refl _, fun q hq => (by cases hq)⟩
  | c + 1 => by
    obtain ⟨h1, h2⟩ := rwL_in (A := A) (school := school) c
    unfold rwL
    split
    · refine ⟨by rw [List.length_append, List.length_singleton]; omega, fun q hq => ?_⟩
      rcases List.mem_append.mp hq with h | h
      · have := h2 q h; omega
      · rw [List.mem_singleton.mp h]; omega
    · exact ⟨by omega, fun q hq => by have := h2 q hq; omega⟩
