/-! the reference: whom to enter for what -/
def rwL (A : aS) (school : Int) : Nat → List Nat
  | 0 => []
  | c + 1 => if onS A c (A 91 0) (A 91 0) = school then rwL A school c ++ [c] else rwL A school c
def mxL (w H : Nat → Int) (nxt : Int → Int) (h : Int) : Nat → Int
  | 0 => -1
  | t + 1 => if ¬ w t = -1 ∧ H t ≤ h then max (mxL w H nxt h t) (w t + nxt (h - H t)) else mxL w H nxt h t
def mfS (H : Nat → Int) : List (Nat → Int) → Int → Int
  | [], _ => 0
  | w :: ws, h => mxL w H (mfS H ws) h 64
def pkC (w H : Nat → Int) (nxt : Int → Int) (left best : Int) (t : Nat) : Prop := ¬ w t = -1 ∧ H t ≤ left ∧ w t + nxt (left - H t) = best
def pkF (w H : Nat → Int) (nxt : Int → Int) (left best : Int) : Nat → Nat → Nat
  | 0, _ => 0
  | f + 1, t => if ¬ w t = -1 ∧ H t ≤ left ∧ w t + nxt (left - H t) = best then t else pkF w H nxt left best f (t + 1)
def pkS (H : Nat → Int) (w : Nat → Int) (ws : List (Nat → Int)) (left : Int) : Nat := pkF w H (mfS H ws) left (mfS H (w :: ws) left) 64 0
def ckS (H : Nat → Int) : List (Nat → Int) → Int → List Nat
  | [], _ => []
  | w :: ws, left => pkS H w ws left :: ckS H ws (left - H (pkS H w ws left))
def lfS (H : Nat → Int) : List (Nat → Int) → Int → Int
  | [], left => left
  | w :: ws, left => lfS H ws (left - H (pkS H w ws left))
/-- worths as they come: never below -1, nothing for nothing, bounded -/
def WsOk (M : Int) (w : Nat → Int) : Prop := (∀ t, -1 ≤ w t ∧ w t ≤ M) ∧ ¬ w 0 = -1
def HOk (H : Nat → Int) : Prop := (∀ t, 0 ≤ H t ∧ H t ≤ 60000) ∧ H 0 = 0
theorem mxL_in {w H : Nat → Int} {nxt : Int → Int} {h M N : Int} (hH : HOk H) (hw : WsOk M w) (hM : 0 ≤ M) (hn : ∀ x, 0 ≤ x → 0 ≤ nxt x ∧ nxt x ≤ N) (hN : 0 ≤ N) : ∀ t, -1 ≤ mxL w H nxt h t ∧ mxL w H nxt h t ≤ M + N
  | 0 => by unfold mxL; omega
  | t + 1 => by
    have ih := mxL_in (h := h) hH hw hM hn hN t
    have h1 := hw.1 t
    unfold mxL
    split
    · rename_i c
      have h2 := hn (h - H t) (by omega)
      omega
    · exact ih
theorem mxL_pos {w H : Nat → Int} {nxt : Int → Int} {h M N : Int} (hH : HOk H) (hw : WsOk M w) (hn : ∀ x, 0 ≤ x → 0 ≤ nxt x ∧ nxt x ≤ N) (hh : 0 ≤ h) : ∀ t, 0 ≤ mxL w H nxt h (t + 1)
  | 0 => by
    have h1 := hw.1 0
    have h0 := hw.2
    have h2 := hH.2
    have h3 := hn (h - H 0) (by omega)
    have e : mxL w H nxt h (0 + 1) = if ¬ w 0 = -1 ∧ H 0 ≤ h then max (-1) (w 0 + nxt (h - H 0)) else -1 := rfl
    rw [e, if_pos ⟨h0, by omega⟩]
    omega
  | t + 1 => by
    have ih := mxL_pos hH hw hn hh t
    unfold mxL
    split
    · omega
    · exact ih
theorem mxL_hit {w H : Nat → Int} {nxt : Int → Int} {h : Int} : ∀ t, mxL w H nxt h t = -1 ∨ ∃ j, j < t ∧ pkC w H nxt h (mxL w H nxt h t) j
  | 0 => Or.inl rfl
  | t + 1 => by
    have ih := mxL_hit (w := w) (H := H) (nxt := nxt) (h := h) t
    unfold mxL
    split
    · rename_i c
      by_cases hm : mxL w H nxt h t ≤ w t + nxt (h - H t)
      · rw [show max (mxL w H nxt h t) (w t + nxt (h - H t)) = w t + nxt (h - H t) by omega]
        exact Or.inr ⟨t, by omega, c.1, c.2, rfl⟩
      · rw [show max (mxL w H nxt h t) (w t + nxt (h - H t)) = mxL w H nxt h t by omega]
        rcases ih with h1 | ⟨j, h1, h2⟩
        · exact Or.inl h1
        · exact Or.inr ⟨j, by omega, h2⟩
    · rcases ih with h1 | ⟨j, h1, h2⟩
      · exact Or.inl h1
      · exact Or.inr ⟨j, by omega, h2⟩
theorem mfS_in {H : Nat → Int} {M : Int} (hH : HOk H) (hM : 0 ≤ M) : ∀ (ws : List (Nat → Int)), (∀ w ∈ ws, WsOk M w) → ∀ h, 0 ≤ h → 0 ≤ mfS H ws h ∧ mfS H ws h ≤ M * ws.length
  | [], _, h, _ => by unfold mfS; simp
  | w :: ws, hw, h, hh => by
    have ih := mfS_in hH hM ws (fun q hq => hw q (List.mem_cons_of_mem _ hq))
    have hN : 0 ≤ M * ws.length := Int.mul_nonneg hM (by omega)
    have h1 := mxL_in (h := h) hH (hw w List.mem_cons_self) hM ih hN 64
    have h2 := mxL_pos hH (hw w List.mem_cons_self) ih hh 63
    have e : M * ((w :: ws).length : Int) = M + M * ws.length := by rw [List.length_cons, show ((ws.length + 1 : Nat) : Int) = ws.length + 1 by omega, Int.mul_add, Int.mul_one]; omega
    rw [e]
    exact ⟨h2, h1.2⟩
theorem pkF_spec {w H : Nat → Int} {nxt : Int → Int} {left best : Int} : ∀ (f t : Nat), (∃ j, t ≤ j ∧ j < t + f ∧ pkC w H nxt left best j) → t ≤ pkF w H nxt left best f t ∧ pkF w H nxt left best f t < t + f ∧ pkC w H nxt left best (pkF w H nxt left best f t)
  | 0, t, ⟨j, h1, h2, _⟩ => by omega
  | f + 1, t, ⟨j, h1, h2, h3⟩ => by
    unfold pkF
    split
    · rename_i c; exact ⟨by omega, by omega, c⟩
    · rename_i c
      have : ∃ j, t + 1 ≤ j ∧ j < t + 1 + f ∧ pkC w H nxt left best j := by
        refine ⟨j, ?_, by omega, h3⟩
        by_cases e : j = t
        · rw [e] at h3; exact absurd h3 c
        · omega
      have ih := pkF_spec f (t + 1) this
      exact ⟨by omega, by omega, ih.2.2⟩
theorem pkS_spec {H : Nat → Int} {M : Int} (hH : HOk H) (hM : 0 ≤ M) {w : Nat → Int} {ws : List (Nat → Int)} (hw : WsOk M w) (hws : ∀ q ∈ ws, WsOk M q) {left : Int} (hl : 0 ≤ left) : pkS H w ws left < 64 ∧ pkC w H (mfS H ws) left (mfS H (w :: ws) left) (pkS H w ws left) := by
  have h1 := mxL_hit (w := w) (H := H) (nxt := mfS H ws) (h := left) 64
  have h2 : 0 ≤ mxL w H (mfS H ws) left 64 := mxL_pos hH hw (mfS_in hH hM ws hws) hl 63
  rcases h1 with h1 | ⟨j, h1, h3⟩
  · omega
  · have := pkF_spec (w := w) (H := H) (nxt := mfS H ws) (left := left) (best := mfS H (w :: ws) left) 64 0 ⟨j, by omega, by omega, h3⟩
    exact ⟨by unfold pkS; omega, this.2.2⟩
theorem teS_in {A : aS} (hC : WfC A) {code s : Int} : 0 ≤ teS A code s ∧ teS A code s ≤ 9999 := by
  unfold teS
  rcases fsS_prop hC (h := zE) (y := code) (kind := 14) (key := s) with q | ⟨m, t, q1, q2, q3, q4, q5, q6, q7, q8, -⟩
  · rw [if_pos q]; omega
  · rw [q1, if_neg (by omega), q4, Int.toNat_natCast]
    exact (q6.2.2 q7).2.1 (by omega)
theorem hrL_in {A : aS} (hC : WfC A) {code set : Int} : ∀ s : Nat, 0 ≤ hrL A code set s ∧ hrL A code set s ≤ 9999 * s
  | 0 => by unfold hrL; omega
  | s + 1 => by
    have ih := hrL_in hC (code := code) (set := set) s
    have h := teS_in hC (code := code) (s := s)
    unfold hrL; split <;> omega
theorem bit0 : ∀ s : Nat, s < 6 → iAnd (iShr 0 (s : Int)) 1 = 0 := by
  intro s hs
  have e : iShr ((0 : Nat) : Int) (s : Int) = ((0 / 2 ^ s : Nat) : Int) := iShr_nat (m := 0) (by omega) (by decide)
  rw [Nat.zero_div] at e
  have e' : iShr 0 (s : Int) = 0 := e
  rw [e']; rfl
theorem hrS_0 {A : aS} {code : Int} : hrS A code 0 = 0 := by
  unfold hrS
  have : ∀ s : Nat, s ≤ 6 → hrL A code 0 s = 0 := by
    intro s
    induction s with
    | zero => intro _; rfl
    | succ s ih => intro h; unfold hrL; rw [if_pos (bit0 s (by omega))]; exact ih (by omega)
  exact this 6 (Nat.le_refl _)
theorem hr_ok {A : aS} (hC : WfC A) {code : Int} : HOk (fun t => hrS A code t) := by
  refine ⟨fun t => ?_, hrS_0⟩
  have := hrL_in hC (code := code) (set := (t : Int)) 6
  dsimp only
  unfold hrS
  omega
theorem wo_ok {A : aS} (hC : WfC A) {c year : Int} : WsOk 599940 (fun t => woS A c year t) := by
  refine ⟨fun t => woS_in hC, ?_⟩
  have h := brS_in hC (e := woE A c year) (c := c) (year := year) (set := 0)
  have e : iAnd 0 (iXor (mayS A c year) (-1)) = 0 := by
    unfold iAnd
    have : oI 0 &&& oI (iXor (mayS A c year) (-1)) = 0 := by
      show (0 : Int32) &&& _ = 0
      exact Int32.zero_and
    rw [this]; rfl
  show ¬ woS A c year ((0 : Nat) : Int) = -1
  have : woS A c year 0 = brS A (woE A c year) c year 0 := by unfold woS; rw [if_pos e]
  have e0 : ((0 : Nat) : Int) = 0 := rfl
  rw [e0, this]
  omega
theorem rwL_in {A : aS} {school : Int} : ∀ c, (rwL A school c).length ≤ c ∧ ∀ q ∈ rwL A school c, q < c
  | 0 => ⟨Nat.le_refl _, fun q hq => (by cases hq)⟩
  | c + 1 => by
    obtain ⟨h1, h2⟩ := rwL_in (A := A) (school := school) c
    unfold rwL
    split
    · refine ⟨by rw [List.length_append, List.length_singleton]; omega, fun q hq => ?_⟩
      rcases List.mem_append.mp hq with h | h
      · have := h2 q h; omega
      · rw [List.mem_singleton.mp h]; omega
    · exact ⟨by omega, fun q hq => by have := h2 q hq; omega⟩
def h277_1 (d L : Nat) (I : Nat → Nat → Int32) (R : Nat → Nat → Option Nat) (S : List (Nat × Nat)) (Q : Option Value → mM → Prop) (x1 : Int) (x2 : Int) (x3 : Int) (x4 : Int) (w5 : Value) (w6 : Value) (w7 : Value) : Prop := Wp d (gb 277 1) [.ref 91, .int (oI x1), .int (oI x2), .int (oI x3), .int (oI x4), w5, w6, w7] [] (bd L I R S) Q
def h277_3 (d L : Nat) (I : Nat → Nat → Int32) (R : Nat → Nat → Option Nat) (S : List (Nat × Nat)) (Q : Option Value → mM → Prop) (x1 : Int) (x2 : Int) (x3 : Int) (x4 : Int) (w5 : Value) (w6 : Value) (w7 : Value) : Prop := Wp d (gb 277 3) [.ref 91, .int (oI x1), .int (oI x2), .int (oI x3), .int (oI x4), w5, w6, w7] [] (bd L I R S) Q
def h277_7 (d L : Nat) (I : Nat → Nat → Int32) (R : Nat → Nat → Option Nat) (S : List (Nat × Nat)) (Q : Option Value → mM → Prop) (w1 : Value) (x2 : Int) (w3 : Value) (x4 : Int) (w5 : Value) (w6 : Value) (w7 : Value) : Prop := Wp d (gb 277 7) [.ref 91, w1, .int (oI x2), w3, .int (oI x4), w5, w6, w7] [] (bd L I R S) Q
def h277_9 (d L : Nat) (I : Nat → Nat → Int32) (R : Nat → Nat → Option Nat) (S : List (Nat × Nat)) (Q : Option Value → mM → Prop) (w1 : Value) (x2 : Int) (w3 : Value) (x4 : Int) (w5 : Value) (w6 : Value) (w7 : Value) : Prop := Wp d (gb 277 9) [.ref 91, w1, .int (oI x2), w3, .int (oI x4), w5, w6, w7] [] (bd L I R S) Q
def h277_10 (d L : Nat) (I : Nat → Nat → Int32) (R : Nat → Nat → Option Nat) (S : List (Nat × Nat)) (Q : Option Value → mM → Prop) (w1 : Value) (x2 : Int) (w3 : Value) (x4 : Int) (x5 : Int) (w6 : Value) (w7 : Value) : Prop := Wp d (gb 277 10) [.ref 91, w1, .int (oI x2), w3, .int (oI x4), .int (oI x5), w6, w7] [] (bd L I R S) Q
def h277_11 (d L : Nat) (I : Nat → Nat → Int32) (R : Nat → Nat → Option Nat) (S : List (Nat × Nat)) (Q : Option Value → mM → Prop) (w1 : Value) (x2 : Int) (w3 : Value) (x4 : Int) (x5 : Int) (x6 : Int) (x7 : Int) : Prop := Wp d (gb 277 11) [.ref 91, w1, .int (oI x2), w3, .int (oI x4), .int (oI x5), .int (oI x6), .int (oI x7)] [] (bd L I R S) Q
def h277_16 (d L : Nat) (I : Nat → Nat → Int32) (R : Nat → Nat → Option Nat) (S : List (Nat × Nat)) (Q : Option Value → mM → Prop) (w1 : Value) (x2 : Int) (w3 : Value) (x4 : Int) (x5 : Int) (w6 : Value) (w7 : Value) : Prop := Wp d (gb 277 16) [.ref 91, w1, .int (oI x2), w3, .int (oI x4), .int (oI x5), w6, w7] [] (bd L I R S) Q
def h277_17 (d L : Nat) (I : Nat → Nat → Int32) (R : Nat → Nat → Option Nat) (S : List (Nat × Nat)) (Q : Option Value → mM → Prop) (w1 : Value) (x2 : Int) (w3 : Value) (x4 : Int) (x5 : Int) (x6 : Int) (w7 : Value) : Prop := Wp d (gb 277 17) [.ref 91, w1, .int (oI x2), w3, .int (oI x4), .int (oI x5), .int (oI x6), w7] [] (bd L I R S) Q
set_option maxRecDepth 4000 in
theorem e277_1 {d L : Nat} {I : Nat → Nat → Int32} {R : Nat → Nat → Option Nat} {S : List (Nat × Nat)} {Q : Option Value → mM → Prop} {A : aS} (hR : RM I A) {x1 : Int} {x2 : Int} {x3 : Int} {x4 : Int} {w5 : Value} {w6 : Value} {w7 : Value} (hE : inR x4 ∧ (((x4 < 64) → WfC A ∧ ((0 ≤ x3 ∧ x3 ≤ 7) ∧ (∀ (I5 : mI), (Fr [150, 151] [(91, 87)] I I5) → (RM I5 A) → (0 ≤ x4 ∧ x4 < 64) ∧ (h277_1 (d + 27) L (u2 I5 126 x4.toNat (oI (hrS A x3 x4))) R S Q x1 x2 x3 (x4 + 1) w5 w6 w7)))) ∧ (¬ (x4 < 64) → h277_3 (d + 27) L (u2 I 91 49 (oI 0)) R S Q x1 x2 x3 0 w5 w6 w7))) : h277_1 (d + 27) L I R S Q x1 x2 x3 x4 w5 w6 w7 := by
  unfold h277_1
  refine xG gb277.2.1 ?_
  refine s4 (x := x4) rfl ?_
  refine s0 ?_
  obtain ⟨g1, hE⟩ := hE
  refine s64 g1 (inRd rfl) (fun c2 => ?_) (fun c2 => ?_)
  · replace hE := hE.1 c2
    refine s6 (p := 91) rfl ?_
    refine s51 sh91 (by decide) (by decide) rf91_46 ?_
    refine s4 (x := x4) rfl ?_
    refine s6 (p := 91) rfl ?_
    refine s4 (x := x3) rfl ?_
    refine s4 (x := x4) rfl ?_
    obtain ⟨g3, hE⟩ := hE
    obtain ⟨g4, hE⟩ := hE
    refine sI rc278 rfl (Nat.le_of_ble_eq_true rfl) ?_
    refine k278 hR g3 g4 g1 (fun I5 q6 q7 => ?_)
    replace hE := hE I5 q6 q7
    obtain ⟨g8, hE⟩ := hE
    refine s44 sh126 (by decide) g8 rfl ?_
    refine s10 (x := x4) (ls' := [.ref 91, .int (oI x1), .int (oI x2), .int (oI x3), .int (oI (x4 + 1)), w5, w6, w7]) rfl rfl ?_
    refine s60 ?_
    exact hE
  · replace hE := hE.2 c2
    refine xG gb277.2.2.1 ?_
    refine s6 (p := 91) rfl ?_
    refine s0 ?_
    refine s52 sh91 (by decide) (by decide) ?_
    refine s0 ?_
    refine s7 (ls' := [.ref 91, .int (oI x1), .int (oI x2), .int (oI x3), .int (oI 0), w5, w6, w7]) (Nat.le_of_ble_eq_true rfl) rfl ?_
    refine s79 ?_
    exact hE
set_option maxRecDepth 4000 in
theorem e277_3 {d L : Nat} {I : Nat → Nat → Int32} {R : Nat → Nat → Option Nat} {S : List (Nat × Nat)} {Q : Option Value → mM → Prop} {A : aS} (hR : RM I A) {x1 : Int} {x2 : Int} {x3 : Int} {x4 : Int} {w5 : Value} {w6 : Value} {w7 : Value} (hE : inR x4 ∧ (((x4 < A 91 1) → (0 ≤ x4 ∧ x4 < 40) ∧ (WfN A ∧ (inR (onS A x4 (A 91 0) (A 91 0)) ∧ (inR x1 ∧ (((onS A x4 (A 91 0) (A 91 0) = x1) → (0 ≤ ld I 91 49 ∧ ld I 91 49 < 40) ∧ (WfA A ∧ (WfC A ∧ (WfP A ∧ ((0 ≤ x4 ∧ x4 < A 91 1) ∧ ((0 ≤ ld I 91 49 ∧ ld I 91 49 < 40) ∧ ((0 ≤ x3 ∧ x3 ≤ 7) ∧ (∀ (I15 : mI), (Fr [111, 112, 113, 114, 115, 116, 125, 150, 151] [(91, 87)] (u2 (u2 I 128 x4.toNat (oI 0)) 124 (ld I 91 49).toNat (oI x4)) I15) → (RM I15 A) → (∀ t : Nat, t < 64 → ld I15 125 (64 * (ld I 91 49).toNat + t) = woS A x4 x3 t) → (∀ j : Nat, (j < 64 * (ld I 91 49).toNat ∨ 64 * (ld I 91 49).toNat + 64 ≤ j) → ld I15 125 j = ld (u2 (u2 I 128 x4.toNat (oI 0)) 124 (ld I 91 49).toNat (oI x4)) 125 j) → h277_3 (d + 31) L (u2 I15 91 49 (oI (ld I15 91 49 + 1))) R S Q x1 x2 x3 (x4 + 1) w5 w6 w7)))))))) ∧ (¬ (onS A x4 (A 91 0) (A 91 0) = x1) → h277_3 (d + 31) L (u2 I 128 x4.toNat (oI 0)) R S Q x1 x2 x3 (x4 + 1) w5 w6 w7)))))) ∧ (¬ (x4 < A 91 1) → h277_7 (d + 31) L I R S Q (.int (oI x1)) x2 (.int (oI x3)) 0 w5 w6 w7))) : h277_3 (d + 31) L I R S Q x1 x2 x3 x4 w5 w6 w7 := by
  unfold h277_3
  refine xG gb277.2.2.2.1 ?_
  refine s4 (x := x4) rfl ?_
  refine s6 (p := 91) rfl ?_
  refine s50 (v := A 91 1) sh91 (by decide) (by decide) (rdM hR.1 rfl) ?_
  obtain ⟨g1, hE⟩ := hE
  refine s64 g1 (inA hR.1 (a := 91) (k := 1) rfl) (fun c2 => ?_) (fun c2 => ?_)
  · replace hE := hE.1 c2
    refine s6 (p := 91) rfl ?_
    refine s51 sh91 (by decide) (by decide) rf91_48 ?_
    refine s4 (x := x4) rfl ?_
    refine s0 ?_
    obtain ⟨g3, hE⟩ := hE
    refine s44 sh128 (by decide) g3 rfl ?_
    refine s6 (p := 91) rfl ?_
    refine s4 (x := x4) rfl ?_
    refine s6 (p := 91) rfl ?_
    refine s50 (v := A 91 0) sh91 (by decide) (by decide) ((v2_ne (by decide)).trans (rdM hR.1 rfl)) ?_
    refine s6 (p := 91) rfl ?_
    refine s50 (v := A 91 0) sh91 (by decide) (by decide) ((v2_ne (by decide)).trans (rdM hR.1 rfl)) ?_
    obtain ⟨g4, hE⟩ := hE
    refine sI rc225 rfl (Nat.le_of_ble_eq_true rfl) ?_
    refine k225 (RelM.scr hR.1 rfl) g4 g1 (inA hR.1 (a := 91) (k := 0) rfl) (inA hR.1 (a := 91) (k := 0) rfl) ?_
    refine s4 (x := x1) rfl ?_
    obtain ⟨g5, hE⟩ := hE
    obtain ⟨g6, hE⟩ := hE
    refine s61 g5 g6 (fun c7 => ?_) (fun c7 => ?_)
    · replace hE := hE.1 c7
      refine xG gb277.2.2.2.2.1 ?_
      refine s6 (p := 91) rfl ?_
      refine s51 sh91 (by decide) (by decide) rf91_44 ?_
      refine s6 (p := 91) rfl ?_
      refine s50 (v := ld I 91 49) sh91 (by decide) (by decide) ((v2_ne (by decide)).trans (oI_ld _ _ _)) ?_
      refine s4 (x := x4) rfl ?_
      obtain ⟨g8, hE⟩ := hE
      refine s44 sh124 (by decide) g8 rfl ?_
      refine s6 (p := 91) rfl ?_
      refine s6 (p := 91) rfl ?_
      refine s50 (v := ld I 91 49) sh91 (by decide) (by decide) ((v2_ne (by decide)).trans ((v2_ne (by decide)).trans (oI_ld _ _ _))) ?_
      refine s4 (x := x4) rfl ?_
      refine s4 (x := x3) rfl ?_
      obtain ⟨g9, hE⟩ := hE
      obtain ⟨g10, hE⟩ := hE
      obtain ⟨g11, hE⟩ := hE
      obtain ⟨g12, hE⟩ := hE
      obtain ⟨g13, hE⟩ := hE
      obtain ⟨g14, hE⟩ := hE
      refine sV rc279 rfl (Nat.le_of_ble_eq_true rfl) ?_
      refine k279 (RM.scr (RM.scr hR rfl) rfl) g9 g10 g11 g12 g13 g14 (fun I15 q16 q17 q18 q19 => ?_)
      replace hE := hE I15 q16 q17 q18 q19
      refine s6 (p := 91) rfl ?_
      refine s13r ?_
      refine s50 (v := ld I15 91 49) sh91 (by decide) (by decide) (oI_ld _ _ _) ?_
      refine s0 ?_
      refine s16 ?_
      refine s52 sh91 (by decide) (by decide) ?_
      refine s79 ?_
      refine xG gb277.2.2.2.2.2.1 ?_
      refine s10 (x := x4) (ls' := [.ref 91, .int (oI x1), .int (oI x2), .int (oI x3), .int (oI (x4 + 1)), w5, w6, w7]) rfl rfl ?_
      refine s60 ?_
      exact hE
    · replace hE := hE.2 c7
      refine s60 ?_
      refine xG gb277.2.2.2.2.2.1 ?_
      refine s10 (x := x4) (ls' := [.ref 91, .int (oI x1), .int (oI x2), .int (oI x3), .int (oI (x4 + 1)), w5, w6, w7]) rfl rfl ?_
      refine s60 ?_
      exact hE
  · replace hE := hE.2 c2
    refine xG gb277.2.2.2.2.2.2.1 ?_
    refine s0 ?_
    refine s7 (ls' := [.ref 91, .int (oI x1), .int (oI x2), .int (oI x3), .int (oI 0), w5, w6, w7]) (Nat.le_of_ble_eq_true rfl) rfl ?_
    refine s79 ?_
    exact hE
set_option maxRecDepth 4000 in
theorem e277_7 {d L : Nat} {I : Nat → Nat → Int32} {R : Nat → Nat → Option Nat} {S : List (Nat × Nat)} {Q : Option Value → mM → Prop} {A : aS} (hR : RM I A) {w1 : Value} {x2 : Int} {w3 : Value} {x4 : Int} {w5 : Value} {w6 : Value} {w7 : Value} (hE : inR x4 ∧ (inR x2 ∧ (((x2 < x4) → h277_9 d L I R S Q w1 x2 (mNl w3) (ld I 91 49 - 1) w5 w6 w7) ∧ (¬ (x2 < x4) → (0 ≤ (201 * (ld I 91 49)) + x4 ∧ (201 * (ld I 91 49)) + x4 < 8241) ∧ (h277_7 d L (u2 I 127 ((201 * (ld I 91 49)) + x4).toNat (oI 0)) R S Q w1 x2 (mNl w3) (x4 + 1) w5 w6 w7))))) : h277_7 d L I R S Q w1 x2 w3 x4 w5 w6 w7 := by
  unfold h277_7
  refine xG gb277.2.2.2.2.2.2.2.1 ?_
  refine s4 (x := x4) rfl ?_
  refine s4 (x := x2) rfl ?_
  obtain ⟨g1, hE⟩ := hE
  obtain ⟨g2, hE⟩ := hE
  refine s65 g1 g2 (fun c3 => ?_) (fun c3 => ?_)
  · replace hE := hE.1 c3
    refine xG gb277.2.2.2.2.2.2.2.2.1 ?_
    refine s6 (p := 91) rfl ?_
    refine s50 (v := ld I 91 49) sh91 (by decide) (by decide) (oI_ld _ _ _) ?_
    refine s0 ?_
    refine s17 ?_
    refine s7 (ls' := [.ref 91, w1, .int (oI x2), mNl w3, .int (oI (ld I 91 49 - 1)), w5, w6, w7]) (Nat.le_of_ble_eq_true rfl) rfl ?_
    refine s79 ?_
    exact hE
  · replace hE := hE.2 c3
    refine s6 (p := 91) rfl ?_
    refine s51 sh91 (by decide) (by decide) rf91_47 ?_
    refine s0 ?_
    refine s6 (p := 91) rfl ?_
    refine s50 (v := ld I 91 49) sh91 (by decide) (by decide) (oI_ld _ _ _) ?_
    refine s18 ?_
    refine s4 (x := x4) rfl ?_
    refine s16 ?_
    refine s0 ?_
    obtain ⟨g4, hE⟩ := hE
    refine s44 sh127 (by decide) g4 rfl ?_
    refine s10 (x := x4) (ls' := [.ref 91, w1, .int (oI x2), mNl w3, .int (oI (x4 + 1)), w5, w6, w7]) rfl rfl ?_
    refine s60 ?_
    exact hE
set_option maxRecDepth 4000 in
theorem e277_9 {d L : Nat} {I : Nat → Nat → Int32} {R : Nat → Nat → Option Nat} {S : List (Nat × Nat)} {Q : Option Value → mM → Prop} {A : aS} (hR : RM I A) {w1 : Value} {x2 : Int} {w3 : Value} {x4 : Int} {w5 : Value} {w6 : Value} {w7 : Value} (hE : inR x4 ∧ (((x4 < 0) → h277_16 d L (u2 I 91 50 (oI 0)) R S Q w1 x2 (mNl w3) x2 0 w6 w7) ∧ (¬ (x4 < 0) → h277_10 d L I R S Q w1 x2 w3 x4 0 w6 w7))) : h277_9 d L I R S Q w1 x2 w3 x4 w5 w6 w7 := by
  unfold h277_9
  refine xG gb277.2.2.2.2.2.2.2.2.2.1 ?_
  refine s4 (x := x4) rfl ?_
  obtain ⟨g1, hE⟩ := hE
  refine s69 g1 (fun c2 => ?_) (fun c2 => ?_)
  · replace hE := hE.1 c2
    refine xG gb277.2.2.2.2.2.2.2.2.2.2.2.2.2.2.2.1 ?_
    refine s4 (x := x2) rfl ?_
    refine s7 (ls' := [.ref 91, w1, .int (oI x2), mNl w3, .int (oI x2), w5, w6, w7]) (Nat.le_of_ble_eq_true rfl) rfl ?_
    refine s6 (p := 91) rfl ?_
    refine s0 ?_
    refine s52 sh91 (by decide) (by decide) ?_
    refine s0 ?_
    refine s7 (ls' := [.ref 91, w1, .int (oI x2), mNl w3, .int (oI x2), .int (oI 0), w6, w7]) (Nat.le_of_ble_eq_true rfl) rfl ?_
    refine s79 ?_
    exact hE
  · replace hE := hE.2 c2
    refine s0 ?_
    refine s7 (ls' := [.ref 91, w1, .int (oI x2), w3, .int (oI x4), .int (oI 0), w6, w7]) (Nat.le_of_ble_eq_true rfl) rfl ?_
    refine s79 ?_
    exact hE
set_option maxRecDepth 4000 in
theorem e277_10 {d L : Nat} {I : Nat → Nat → Int32} {R : Nat → Nat → Option Nat} {S : List (Nat × Nat)} {Q : Option Value → mM → Prop} {A : aS} (hR : RM I A) {w1 : Value} {x2 : Int} {w3 : Value} {x4 : Int} {x5 : Int} {w6 : Value} {w7 : Value} (hE : inR x5 ∧ (inR x2 ∧ (((x2 < x5) → h277_9 d L I R S Q w1 x2 (mNl w3) (x4 + (-1)) (.int (oI x5)) w6 w7) ∧ (¬ (x2 < x5) → h277_11 d L I R S Q w1 x2 w3 x4 x5 (-1) 0)))) : h277_10 d L I R S Q w1 x2 w3 x4 x5 w6 w7 := by
  unfold h277_10
  refine xG gb277.2.2.2.2.2.2.2.2.2.2.1 ?_
  refine s4 (x := x5) rfl ?_
  refine s4 (x := x2) rfl ?_
  obtain ⟨g1, hE⟩ := hE
  obtain ⟨g2, hE⟩ := hE
  refine s65 g1 g2 (fun c3 => ?_) (fun c3 => ?_)
  · replace hE := hE.1 c3
    refine xG gb277.2.2.2.2.2.2.2.2.2.2.2.2.2.2.1 ?_
    refine s10 (x := x4) (ls' := [.ref 91, w1, .int (oI x2), mNl w3, .int (oI (x4 + (-1))), .int (oI x5), w6, w7]) rfl rfl ?_
    refine s60 ?_
    exact hE
  · replace hE := hE.2 c3
    refine s0 ?_
    refine s7 (ls' := [.ref 91, w1, .int (oI x2), w3, .int (oI x4), .int (oI x5), .int (oI (-1)), w7]) (Nat.le_of_ble_eq_true rfl) rfl ?_
    refine s0 ?_
    refine s7 (ls' := [.ref 91, w1, .int (oI x2), w3, .int (oI x4), .int (oI x5), .int (oI (-1)), .int (oI 0)]) (Nat.le_of_ble_eq_true rfl) rfl ?_
    refine s79 ?_
    exact hE
set_option maxRecDepth 4000 in
theorem e277_11 {d L : Nat} {I : Nat → Nat → Int32} {R : Nat → Nat → Option Nat} {S : List (Nat × Nat)} {Q : Option Value → mM → Prop} {A : aS} (hR : RM I A) {w1 : Value} {x2 : Int} {w3 : Value} {x4 : Int} {x5 : Int} {x6 : Int} {x7 : Int} (hE : inR x7 ∧ (((x7 < 64) → (0 ≤ (64 * x4) + x7 ∧ (64 * x4) + x7 < 2560) ∧ (((ld I 125 ((64 * x4) + x7).toNat = (-1)) → h277_11 (d + 1) L I R S Q w1 x2 w3 x4 x5 x6 (x7 + 1)) ∧ (¬ (ld I 125 ((64 * x4) + x7).toNat = (-1)) → (0 ≤ x7 ∧ x7 < 64) ∧ (inR x5 ∧ (((x5 < ld I 126 x7.toNat) → h277_11 (d + 1) L I R S Q w1 x2 w3 x4 x5 x6 (x7 + 1)) ∧ (¬ (x5 < ld I 126 x7.toNat) → (0 ≤ (((201 * x4) + 201) + x5) - (ld I 126 x7.toNat) ∧ (((201 * x4) + 201) + x5) - (ld I 126 x7.toNat) < 8241) ∧ (inR x6 ∧ (inR ((ld I 125 ((64 * x4) + x7).toNat) + (ld I 127 ((((201 * x4) + 201) + x5) - (ld I 126 x7.toNat)).toNat)) ∧ (h277_11 (d + 1) L I R S Q w1 x2 w3 x4 x5 (max x6 ((ld I 125 ((64 * x4) + x7).toNat) + (ld I 127 ((((201 * x4) + 201) + x5) - (ld I 126 x7.toNat)).toNat))) (x7 + 1)))))))))) ∧ (¬ (x7 < 64) → (0 ≤ (201 * x4) + x5 ∧ (201 * x4) + x5 < 8241) ∧ (h277_10 (d + 1) L (u2 I 127 ((201 * x4) + x5).toNat (oI x6)) R S Q w1 x2 w3 x4 (x5 + 1) (.int (oI x6)) (.int (oI x7)))))) : h277_11 (d + 1) L I R S Q w1 x2 w3 x4 x5 x6 x7 := by
  unfold h277_11
  refine xG gb277.2.2.2.2.2.2.2.2.2.2.2.1 ?_
  refine s4 (x := x7) rfl ?_
  refine s0 ?_
  obtain ⟨g1, hE⟩ := hE
  refine s64 g1 (inRd rfl) (fun c2 => ?_) (fun c2 => ?_)
  · replace hE := hE.1 c2
    refine s6 (p := 91) rfl ?_
    refine s51 sh91 (by decide) (by decide) rf91_45 ?_
    refine s0 ?_
    refine s4 (x := x4) rfl ?_
    refine s18 ?_
    refine s4 (x := x7) rfl ?_
    refine s16 ?_
    obtain ⟨g3, hE⟩ := hE
    refine s40 (v := ld I 125 ((64 * x4) + x7).toNat) sh125 g3 rfl (oI_ld _ _ _) ?_
    refine s0 ?_
    refine s61 (ld_inR _ _ _) (inRd rfl) (fun c4 => ?_) (fun c4 => ?_)
    · replace hE := hE.1 c4
      refine xG gb277.2.2.2.2.2.2.2.2.2.2.2.2.1 ?_
      refine s10 (x := x7) (ls' := [.ref 91, w1, .int (oI x2), w3, .int (oI x4), .int (oI x5), .int (oI x6), .int (oI (x7 + 1))]) rfl rfl ?_
      refine s60 ?_
      exact hE
    · replace hE := hE.2 c4
      refine s6 (p := 91) rfl ?_
      refine s51 sh91 (by decide) (by decide) rf91_46 ?_
      refine s4 (x := x7) rfl ?_
      obtain ⟨g5, hE⟩ := hE
      refine s40 (v := ld I 126 x7.toNat) sh126 g5 rfl (oI_ld _ _ _) ?_
      refine s4 (x := x5) rfl ?_
      obtain ⟨g6, hE⟩ := hE
      refine s65 (ld_inR _ _ _) g6 (fun c7 => ?_) (fun c7 => ?_)
      · replace hE := hE.1 c7
        refine xG gb277.2.2.2.2.2.2.2.2.2.2.2.2.1 ?_
        refine s10 (x := x7) (ls' := [.ref 91, w1, .int (oI x2), w3, .int (oI x4), .int (oI x5), .int (oI x6), .int (oI (x7 + 1))]) rfl rfl ?_
        refine s60 ?_
        exact hE
      · replace hE := hE.2 c7
        refine s4 (x := x6) rfl ?_
        refine s6 (p := 91) rfl ?_
        refine s51 sh91 (by decide) (by decide) rf91_45 ?_
        refine s0 ?_
        refine s4 (x := x4) rfl ?_
        refine s18 ?_
        refine s4 (x := x7) rfl ?_
        refine s16 ?_
        refine s40 (v := ld I 125 ((64 * x4) + x7).toNat) sh125 g3 rfl (oI_ld _ _ _) ?_
        refine s6 (p := 91) rfl ?_
        refine s51 sh91 (by decide) (by decide) rf91_47 ?_
        refine s0 ?_
        refine s4 (x := x4) rfl ?_
        refine s18 ?_
        refine s0 ?_
        refine s16 ?_
        refine s4 (x := x5) rfl ?_
        refine s16 ?_
        refine s6 (p := 91) rfl ?_
        refine s51 sh91 (by decide) (by decide) rf91_46 ?_
        refine s4 (x := x7) rfl ?_
        refine s40 (v := ld I 126 x7.toNat) sh126 g5 rfl (oI_ld _ _ _) ?_
        refine s17 ?_
        obtain ⟨g8, hE⟩ := hE
        refine s40 (v := ld I 127 ((((201 * x4) + 201) + x5) - (ld I 126 x7.toNat)).toNat) sh127 g8 rfl (oI_ld _ _ _) ?_
        refine s16 ?_
        obtain ⟨g9, hE⟩ := hE
        obtain ⟨g10, hE⟩ := hE
        refine sI rc346 rfl (Nat.le_of_ble_eq_true rfl) ?_
        refine k346 g9 g10 ?_
        refine s7 (ls' := [.ref 91, w1, .int (oI x2), w3, .int (oI x4), .int (oI x5), .int (oI (max x6 ((ld I 125 ((64 * x4) + x7).toNat) + (ld I 127 ((((201 * x4) + 201) + x5) - (ld I 126 x7.toNat)).toNat)))), .int (oI x7)]) (Nat.le_of_ble_eq_true rfl) rfl ?_
        refine s79 ?_
        refine xG gb277.2.2.2.2.2.2.2.2.2.2.2.2.1 ?_
        refine s10 (x := x7) (ls' := [.ref 91, w1, .int (oI x2), w3, .int (oI x4), .int (oI x5), .int (oI (max x6 ((ld I 125 ((64 * x4) + x7).toNat) + (ld I 127 ((((201 * x4) + 201) + x5) - (ld I 126 x7.toNat)).toNat)))), .int (oI (x7 + 1))]) rfl rfl ?_
        refine s60 ?_
        exact hE
  · replace hE := hE.2 c2
    refine xG gb277.2.2.2.2.2.2.2.2.2.2.2.2.2.1 ?_
    refine s6 (p := 91) rfl ?_
    refine s51 sh91 (by decide) (by decide) rf91_47 ?_
    refine s0 ?_
    refine s4 (x := x4) rfl ?_
    refine s18 ?_
    refine s4 (x := x5) rfl ?_
    refine s16 ?_
    refine s4 (x := x6) rfl ?_
    obtain ⟨g11, hE⟩ := hE
    refine s44 sh127 (by decide) g11 rfl ?_
    refine s10 (x := x5) (ls' := [.ref 91, w1, .int (oI x2), w3, .int (oI x4), .int (oI (x5 + 1)), .int (oI x6), .int (oI x7)]) rfl rfl ?_
    refine s60 ?_
    exact hE
set_option maxRecDepth 4000 in
theorem e277_16 {d L : Nat} {I : Nat → Nat → Int32} {R : Nat → Nat → Option Nat} {S : List (Nat × Nat)} {Q : Option Value → mM → Prop} {A : aS} (hR : RM I A) {w1 : Value} {x2 : Int} {w3 : Value} {x4 : Int} {x5 : Int} {w6 : Value} {w7 : Value} (hE : inR x5 ∧ (((x5 < ld I 91 49) → h277_17 d L I R S Q w1 x2 w3 x4 x5 0 w7) ∧ (¬ (x5 < ld I 91 49) → Q none (bd L (u2 I 91 51 (oI (x2 - x4))) R S)))) : h277_16 d L I R S Q w1 x2 w3 x4 x5 w6 w7 := by
  unfold h277_16
  refine xG gb277.2.2.2.2.2.2.2.2.2.2.2.2.2.2.2.2.1 ?_
  refine s4 (x := x5) rfl ?_
  refine s6 (p := 91) rfl ?_
  refine s50 (v := ld I 91 49) sh91 (by decide) (by decide) (oI_ld _ _ _) ?_
  obtain ⟨g1, hE⟩ := hE
  refine s64 g1 (ld_inR _ _ _) (fun c2 => ?_) (fun c2 => ?_)
  · replace hE := hE.1 c2
    refine s0 ?_
    refine s7 (ls' := [.ref 91, w1, .int (oI x2), w3, .int (oI x4), .int (oI x5), .int (oI 0), w7]) (Nat.le_of_ble_eq_true rfl) rfl ?_
    refine s79 ?_
    exact hE
  · replace hE := hE.2 c2
    refine xG gb277.2.2.2.2.2.2.2.2.2.2.2.2.2.2.2.2.2.2.2.2.2.2 ?_
    refine s6 (p := 91) rfl ?_
    refine s4 (x := x2) rfl ?_
    refine s4 (x := x4) rfl ?_
    refine s17 ?_
    refine s52 sh91 (by decide) (by decide) ?_
    refine s83 ?_
    exact hE
set_option maxRecDepth 4000 in
theorem e277_17 {d L : Nat} {I : Nat → Nat → Int32} {R : Nat → Nat → Option Nat} {S : List (Nat × Nat)} {Q : Option Value → mM → Prop} {A : aS} (hR : RM I A) {w1 : Value} {x2 : Int} {w3 : Value} {x4 : Int} {x5 : Int} {x6 : Int} {w7 : Value} (hE : (0 ≤ (64 * x5) + x6 ∧ (64 * x5) + x6 < 2560) ∧ (((ld I 125 ((64 * x5) + x6).toNat = (-1)) → h277_17 (d + 1) L I R S Q w1 x2 w3 x4 x5 (x6 + 1) w7) ∧ (¬ (ld I 125 ((64 * x5) + x6).toNat = (-1)) → (0 ≤ x6 ∧ x6 < 64) ∧ (inR x4 ∧ (((x4 < ld I 126 x6.toNat) → h277_17 (d + 1) L I R S Q w1 x2 w3 x4 x5 (x6 + 1) w7) ∧ (¬ (x4 < ld I 126 x6.toNat) → (0 ≤ (((201 * x5) + 201) + x4) - (ld I 126 x6.toNat) ∧ (((201 * x5) + 201) + x4) - (ld I 126 x6.toNat) < 8241) ∧ ((0 ≤ (201 * x5) + x4 ∧ (201 * x5) + x4 < 8241) ∧ (inR ((ld I 125 ((64 * x5) + x6).toNat) + (ld I 127 ((((201 * x5) + 201) + x4) - (ld I 126 x6.toNat)).toNat)) ∧ ((((ld I 125 ((64 * x5) + x6).toNat) + (ld I 127 ((((201 * x5) + 201) + x4) - (ld I 126 x6.toNat)).toNat) = ld I 127 ((201 * x5) + x4).toNat) → (0 ≤ x5 ∧ x5 < 40) ∧ ((0 ≤ ld I 124 x5.toNat ∧ ld I 124 x5.toNat < 40) ∧ (inR x6 ∧ (h277_16 (d + 1) L (u2 (u2 I 128 (ld I 124 x5.toNat).toNat (oI x6)) 91 50 (oI (ld I 91 50 + (if x6 = 0 then (0 : Int) else 1)))) R S Q w1 x2 (mNl w3) (x4 - (ld I 126 x6.toNat)) (x5 + 1) (.int (oI x6)) w7)))) ∧ (¬ ((ld I 125 ((64 * x5) + x6).toNat) + (ld I 127 ((((201 * x5) + 201) + x4) - (ld I 126 x6.toNat)).toNat) = ld I 127 ((201 * x5) + x4).toNat) → h277_17 (d + 1) L I R S Q w1 x2 w3 x4 x5 (x6 + 1) w7)))))))))) : h277_17 (d + 1) L I R S Q w1 x2 w3 x4 x5 x6 w7 := by
  unfold h277_17
  refine xG gb277.2.2.2.2.2.2.2.2.2.2.2.2.2.2.2.2.2.1 ?_
  refine s6 (p := 91) rfl ?_
  refine s51 sh91 (by decide) (by decide) rf91_45 ?_
  refine s0 ?_
  refine s4 (x := x5) rfl ?_
  refine s18 ?_
  refine s4 (x := x6) rfl ?_
  refine s16 ?_
  obtain ⟨g1, hE⟩ := hE
  refine s40 (v := ld I 125 ((64 * x5) + x6).toNat) sh125 g1 rfl (oI_ld _ _ _) ?_
  refine s0 ?_
  refine s61 (ld_inR _ _ _) (inRd rfl) (fun c2 => ?_) (fun c2 => ?_)
  · replace hE := hE.1 c2
    refine xG gb277.2.2.2.2.2.2.2.2.2.2.2.2.2.2.2.2.2.2.1 ?_
    refine s10 (x := x6) (ls' := [.ref 91, w1, .int (oI x2), w3, .int (oI x4), .int (oI x5), .int (oI (x6 + 1)), w7]) rfl rfl ?_
    refine s60 ?_
    exact hE
  · replace hE := hE.2 c2
    refine s6 (p := 91) rfl ?_
    refine s51 sh91 (by decide) (by decide) rf91_46 ?_
    refine s4 (x := x6) rfl ?_
    obtain ⟨g3, hE⟩ := hE
    refine s40 (v := ld I 126 x6.toNat) sh126 g3 rfl (oI_ld _ _ _) ?_
    refine s4 (x := x4) rfl ?_
    obtain ⟨g4, hE⟩ := hE
    refine s65 (ld_inR _ _ _) g4 (fun c5 => ?_) (fun c5 => ?_)
    · replace hE := hE.1 c5
      refine xG gb277.2.2.2.2.2.2.2.2.2.2.2.2.2.2.2.2.2.2.1 ?_
      refine s10 (x := x6) (ls' := [.ref 91, w1, .int (oI x2), w3, .int (oI x4), .int (oI x5), .int (oI (x6 + 1)), w7]) rfl rfl ?_
      refine s60 ?_
      exact hE
    · replace hE := hE.2 c5
      refine s6 (p := 91) rfl ?_
      refine s51 sh91 (by decide) (by decide) rf91_45 ?_
      refine s0 ?_
      refine s4 (x := x5) rfl ?_
      refine s18 ?_
      refine s4 (x := x6) rfl ?_
      refine s16 ?_
      refine s40 (v := ld I 125 ((64 * x5) + x6).toNat) sh125 g1 rfl (oI_ld _ _ _) ?_
      refine s6 (p := 91) rfl ?_
      refine s51 sh91 (by decide) (by decide) rf91_47 ?_
      refine s0 ?_
      refine s4 (x := x5) rfl ?_
      refine s18 ?_
      refine s0 ?_
      refine s16 ?_
      refine s4 (x := x4) rfl ?_
      refine s16 ?_
      refine s6 (p := 91) rfl ?_
      refine s51 sh91 (by decide) (by decide) rf91_46 ?_
      refine s4 (x := x6) rfl ?_
      refine s40 (v := ld I 126 x6.toNat) sh126 g3 rfl (oI_ld _ _ _) ?_
      refine s17 ?_
      obtain ⟨g6, hE⟩ := hE
      refine s40 (v := ld I 127 ((((201 * x5) + 201) + x4) - (ld I 126 x6.toNat)).toNat) sh127 g6 rfl (oI_ld _ _ _) ?_
      refine s16 ?_
      refine s6 (p := 91) rfl ?_
      refine s51 sh91 (by decide) (by decide) rf91_47 ?_
      refine s0 ?_
      refine s4 (x := x5) rfl ?_
      refine s18 ?_
      refine s4 (x := x4) rfl ?_
      refine s16 ?_
      obtain ⟨g7, hE⟩ := hE
      refine s40 (v := ld I 127 ((201 * x5) + x4).toNat) sh127 g7 rfl (oI_ld _ _ _) ?_
      obtain ⟨g8, hE⟩ := hE
      refine s61 g8 (ld_inR _ _ _) (fun c9 => ?_) (fun c9 => ?_)
      · replace hE := hE.1 c9
        refine xG gb277.2.2.2.2.2.2.2.2.2.2.2.2.2.2.2.2.2.2.2.1 ?_
        refine s6 (p := 91) rfl ?_
        refine s51 sh91 (by decide) (by decide) rf91_48 ?_
        refine s6 (p := 91) rfl ?_
        refine s51 sh91 (by decide) (by decide) rf91_44 ?_
        refine s4 (x := x5) rfl ?_
        obtain ⟨g10, hE⟩ := hE
        refine s40 (v := ld I 124 x5.toNat) sh124 g10 rfl (oI_ld _ _ _) ?_
        refine s4 (x := x6) rfl ?_
        obtain ⟨g11, hE⟩ := hE
        refine s44 sh128 (by decide) g11 rfl ?_
        refine s4 (x := x4) rfl ?_
        refine s6 (p := 91) rfl ?_
        refine s51 sh91 (by decide) (by decide) rf91_46 ?_
        refine s4 (x := x6) rfl ?_
        refine s40 (v := ld I 126 x6.toNat) sh126 g3 rfl ((v2_ne (by decide)).trans (oI_ld _ _ _)) ?_
        refine s17 ?_
        refine s7 (ls' := [.ref 91, w1, .int (oI x2), mNl w3, .int (oI (x4 - (ld I 126 x6.toNat))), .int (oI x5), .int (oI x6), w7]) (Nat.le_of_ble_eq_true rfl) rfl ?_
        refine s6 (p := 91) rfl ?_
        refine s13r ?_
        refine s50 (v := ld I 91 50) sh91 (by decide) (by decide) ((v2_ne (by decide)).trans (oI_ld _ _ _)) ?_
        refine s4 (x := x6) rfl ?_
        obtain ⟨g12, hE⟩ := hE
        refine s67j (j := 21) (v1 := 0) (v0 := 1) g12 (fun hJ => ?_) (fun hJ => ?_) ?_
        · refine xG gb277.2.2.2.2.2.2.2.2.2.2.2.2.2.2.2.2.2.2.2.2.1 ?_
          exact s0 (s79 hJ)
        · exact s0 (s60 hJ)
        refine xG gb277.2.2.2.2.2.2.2.2.2.2.2.2.2.2.2.2.2.2.2.2.2.1 ?_
        refine sI rc227 rfl (Nat.le_of_ble_eq_true rfl) ?_
        refine k227 (ite_01 (by decide) (by decide)) ?_
        refine s16 ?_
        refine s52 sh91 (by decide) (by decide) ?_
        refine s10 (x := x5) (ls' := [.ref 91, w1, .int (oI x2), mNl w3, .int (oI (x4 - (ld I 126 x6.toNat))), .int (oI (x5 + 1)), .int (oI x6), w7]) rfl rfl ?_
        refine s60 ?_
        exact hE
      · replace hE := hE.2 c9
        refine s79 ?_
        refine xG gb277.2.2.2.2.2.2.2.2.2.2.2.2.2.2.2.2.2.2.1 ?_
        refine s10 (x := x6) (ls' := [.ref 91, w1, .int (oI x2), w3, .int (oI x4), .int (oI x5), .int (oI (x6 + 1)), w7]) rfl rfl ?_
        refine s60 ?_
        exact hE
set_option maxRecDepth 4000 in
theorem e277 {d L : Nat} {I : Nat → Nat → Int32} {R : Nat → Nat → Option Nat} {S : List (Nat × Nat)} {K : mM → Prop} {A : aS} (hR : RM I A) {x1 : Int} {x2 : Int} (hE : h277_1 d L I R S (rqV K) x1 x2 (Int.tdiv (A 91 0) 100) 0 mUn mUn mUn) : CallV d 277 [.ref 91, .int (oI x1), .int (oI x2)] (bd L I R S) K := by
  refine cV_of (ls := [.ref 91, .int (oI x1), .int (oI x2), mUn, mUn, mUn, mUn, mUn]) rfl ?_
  refine xG gb277.1 ?_
  refine s6 (p := 91) rfl ?_
  refine s50 (v := A 91 0) sh91 (by decide) (by decide) (rdM hR.1 rfl) ?_
  refine s0 ?_
  refine s19 (inA hR.1 (a := 91) (k := 0) rfl) ⟨(inRd rfl), by decide⟩ ?_
  refine s7 (ls' := [.ref 91, .int (oI x1), .int (oI x2), .int (oI (Int.tdiv (A 91 0) 100)), mUn, mUn, mUn, mUn]) (Nat.le_of_ble_eq_true rfl) rfl ?_
  refine s0 ?_
  refine s7 (ls' := [.ref 91, .int (oI x1), .int (oI x2), .int (oI (Int.tdiv (A 91 0) 100)), .int (oI 0), mUn, mUn, mUn]) (Nat.le_of_ble_eq_true rfl) rfl ?_
  refine s79 ?_
  exact hE
/-- what the rows hold -/
noncomputable def wsL (A : aS) (year : Int) (l : List Nat) : List (Nat → Int) := l.map (fun (c : Nat) => fun (t : Nat) => woS A c year t)
def RwI (A : aS) (year : Int) (l : List Nat) (I : mI) : Prop := ld I 91 49 = l.length ∧ (∀ r : Nat, r < l.length → ld I 124 r = l.getD r 0) ∧ ∀ r t : Nat, r < l.length → t < 64 → ld I 125 (64 * r + t) = woS A (l.getD r 0) year t
def HrI (A : aS) (year : Int) (I : mI) : Prop := ∀ t : Nat, t < 64 → ld I 126 t = hrS A year t
section
variable {d L : Nat} {I I0 : mI} {R : Nat → Nat → Option Nat} {S : List (Nat × Nat)} {Q : Option Value → mM → Prop} {A : aS} {c day known kind half year subj code : Int} {w1 w3 : Value}
theorem RwI.fr {I1 : mI} {l : List Nat} {ws : List Nat} {os : List (Nat × Nat)} (h : RwI A year l I) (hf : Fr ws os I I1) (h1 : (ws.contains 91 || os.contains (91, 49)) = false) (h2 : ∀ k, (ws.contains 124 || os.contains (124, k)) = false) (h3 : ∀ k, (ws.contains 125 || os.contains (125, k)) = false) : RwI A year l I1 :=
  ⟨(hf.ld h1).trans h.1, fun r hr => (hf.ld (h2 r)).trans (h.2.1 r hr), fun r t hr ht => (hf.ld (h3 _)).trans (h.2.2 r t hr ht)⟩
theorem HrI.fr {I1 : mI} {ws : List Nat} {os : List (Nat × Nat)} (h : HrI A year I) (hf : Fr ws os I I1) (h1 : ∀ k, (ws.contains 126 || os.contains (126, k)) = false) : HrI A year I1 := fun t ht => (hf.ld (h1 t)).trans (h t ht)
theorem ws_get {l : List Nat} {r : Nat} (hr : r < l.length) : (wsL A year l).drop r = (fun t : Nat => woS A (l.getD r 0) year t) :: (wsL A year l).drop (r + 1) := by
  have e : l.getD r 0 = l[r] := by rw [List.getD_eq_getElem?_getD, List.getElem?_eq_getElem hr]; rfl
  unfold wsL
  rw [← List.map_drop, ← List.map_drop, List.drop_eq_getElem_cons hr, List.map_cons, e]
theorem ws_ok (hC : WfC A) {l : List Nat} (n : Nat) : ∀ w ∈ (wsL A year l).drop n, WsOk 599940 w := by
  intro w hw
  have := List.mem_of_mem_drop hw
  unfold wsL at this
  obtain ⟨c, -, rfl⟩ := List.mem_map.mp this
  exact wo_ok hC
theorem ws_len {l : List Nat} (n : Nat) : ((wsL A year l).drop n).length = l.length - n := by rw [List.length_drop]; unfold wsL; rw [List.length_map]
/-- the table of the most pence, from a row on -/
def MfI (A : aS) (year hours : Int) (l : List Nat) (r : Nat) (I : mI) : Prop := ∀ r' : Nat, r ≤ r' → r' ≤ l.length → ∀ h : Nat, (h : Int) ≤ hours → ld I 127 (201 * r' + h) = mfS (fun t => hrS A year t) ((wsL A year l).drop r') h
theorem mf_b (hC : WfC A) {l : List Nat} {r : Nat} {h : Int} (hl : l.length ≤ 40) (hh : 0 ≤ h) : 0 ≤ mfS (fun t => hrS A year t) ((wsL A year l).drop r) h ∧ mfS (fun t => hrS A year t) ((wsL A year l).drop r) h ≤ 599940 * 40 := by
  have := mfS_in (H := fun t => hrS A year t) (M := 599940) (hr_ok hC) (by omega) ((wsL A year l).drop r) (ws_ok hC r) h hh
  rw [ws_len] at this
  omega
theorem l277_11 {hours : Int} {l : List Nat} {r h : Nat} (hC : WfC A) (hl : l.length ≤ 40) (hr : r < l.length) (hh : (h : Int) ≤ hours ∧ hours ≤ 200) (hR : RM I A) (hw : RwI A year l I) (hH : HrI A year I) (hm : MfI A year hours l (r + 1) I) (hK : ∀ w6 w7, h277_10 (d + 1) L (u2 I 127 (201 * r + h) (oI (mfS (fun t => hrS A year t) ((wsL A year l).drop r) h))) R S Q w1 hours w3 r ((h : Int) + 1) w6 w7) : ∀ (n t : Nat), t + n = 64 → h277_11 (d + 1) L I R S Q w1 hours w3 r h (mxL (fun t => woS A (l.getD r 0) year t) (fun t => hrS A year t) (mfS (fun t => hrS A year t) ((wsL A year l).drop (r + 1))) h t) t := by
  intro n
  induction n with
  | zero =>
    intro t ht
    have e : mfS (fun t => hrS A year t) ((wsL A year l).drop r) h = mxL (fun t => woS A (l.getD r 0) year t) (fun t => hrS A year t) (mfS (fun t => hrS A year t) ((wsL A year l).drop (r + 1))) h 64 := by rw [ws_get hr]; rfl
    rw [e] at hK
    rw [show t = 64 by omega]
    refine e277_11 hR ⟨inRd rfl, fun h => absurd h (by decide), fun _ => ⟨by omega, ?_⟩⟩
    rw [show (201 * (r : Int) + h).toNat = 201 * r + h by omega]
    exact hK _ _
  | succ n ih =>
    intro t ht
    have ih := ih (t + 1) (by omega)
    have es : mxL (fun t => woS A (l.getD r 0) year t) (fun t => hrS A year t) (mfS (fun t => hrS A year t) ((wsL A year l).drop (r + 1))) h (t + 1) = if ¬ woS A (l.getD r 0) year t = -1 ∧ hrS A year t ≤ h then max (mxL (fun t => woS A (l.getD r 0) year t) (fun t => hrS A year t) (mfS (fun t => hrS A year t) ((wsL A year l).drop (r + 1))) h t) (woS A (l.getD r 0) year t + mfS (fun t => hrS A year t) ((wsL A year l).drop (r + 1)) (h - hrS A year t)) else mxL (fun t => woS A (l.getD r 0) year t) (fun t => hrS A year t) (mfS (fun t => hrS A year t) ((wsL A year l).drop (r + 1))) h t := rfl
    rw [es] at ih
    have wv := hw.2.2 r t hr (by omega)
    have hv := hH t (by omega)
    have hi := (hr_ok hC (code := year)).1 t
    have wi := woS_in hC (c := ((l.getD r 0 : Nat) : Int)) (year := year) (set := (t : Int))
    have mi := mxL_in (nxt := mfS (fun t => hrS A year t) ((wsL A year l).drop (r + 1))) (h := (h : Int)) (hr_ok hC (code := year)) (wo_ok hC (c := ((l.getD r 0 : Nat) : Int)) (year := year)) (by omega) (fun x hx => mf_b hC (year := year) (l := l) (r := r + 1) hl hx) (by omega) t
    refine e277_11 hR ?_
    rw [show (64 * (r : Int) + t).toNat = 64 * r + t by omega, wv]
    simp only [Int.toNat_natCast, hv]
    refine ⟨⟨by omega, by omega⟩, fun _ => ⟨by omega, fun c1 => ?_, fun c1 => ⟨by omega, ⟨by omega, by omega⟩, fun c2 => ?_, fun c2 => ?_⟩⟩, fun h => by exfalso; omega⟩
    · rw [if_neg (by rintro ⟨a, -⟩; exact a c1)] at ih; exact ih
    · rw [if_neg (by rintro ⟨-, a⟩; omega)] at ih; exact ih
    · dsimp only at hi
      have eix : (201 * (r : Int) + 201 + h - hrS A year t).toNat = 201 * (r + 1) + (h - hrS A year t).toNat := by omega
      have mv := hm (r + 1) (Nat.le_refl _) (by omega) (h - hrS A year t).toNat (by omega)
      rw [show (((h - hrS A year t).toNat : Nat) : Int) = h - hrS A year t by omega] at mv
      have mb := mf_b hC (year := year) (l := l) (r := r + 1) (h := (h : Int) - hrS A year t) hl (by omega)
      rw [eix, mv]
      rw [if_pos ⟨c1, by omega⟩] at ih
      exact ⟨by omega, ⟨by omega, by omega⟩, ⟨by omega, by omega⟩, ih⟩
theorem l277_10 {hours : Int} {l : List Nat} {r : Nat} (hC : WfC A) (hl : l.length ≤ 40) (hr : r < l.length) (hh : 0 ≤ hours ∧ hours ≤ 200) (hK : ∀ I1 w5 w6 w7, RM I1 A → Fr [127] [] I0 I1 → MfI A year hours l r I1 → h277_9 (d + 1) L I1 R S Q w1 hours (mNl w3) ((r : Int) + -1) w5 w6 w7) : ∀ (n h : Nat) (I : mI) (w6 w7 : Value), h + n = hours.toNat + 1 → RM I A → Fr [127] [] I0 I → RwI A year l I → HrI A year I → MfI A year hours l (r + 1) I → (∀ j : Nat, j < h → ld I 127 (201 * r + j) = mfS (fun t => hrS A year t) ((wsL A year l).drop r) j) → h277_10 (d + 1) L I R S Q w1 hours w3 r h w6 w7 := by
  intro n
  induction n with
  | zero =>
    intro h I w6 w7 hn hR hf hw hH hm hj
    refine e277_10 hR ⟨⟨by omega, by omega⟩, ⟨by omega, by omega⟩, fun _ => hK I _ _ _ hR hf ?_, fun h => by exfalso; omega⟩
    intro r' h1 h2 j h3
    by_cases e : r' = r
    · subst e; exact hj j (by omega)
    · exact hm r' (by omega) h2 j h3
  | succ n ih =>
    intro h I w6 w7 hn hR hf hw hH hm hj
    refine e277_10 hR ⟨⟨by omega, by omega⟩, ⟨by omega, by omega⟩, fun h => by exfalso; omega, fun _ => ?_⟩
    have mb := mf_b hC (year := year) (l := l) (r := r) (h := (h : Int)) hl (by omega)
    have vr : inR (mfS (fun t => hrS A year t) ((wsL A year l).drop r) h) := ⟨by omega, by omega⟩
    refine l277_11 hC hl hr ⟨by omega, hh.2⟩ hR hw hH hm (fun w6 w7 => ?_) 64 0 rfl
    refine ih (h + 1) _ w6 w7 (by omega) (hR.scr rfl) (hf.wr rfl) (hw.fr (frA I 127 _ _) rfl (fun _ => rfl) (fun _ => rfl)) (hH.fr (frA I 127 _ _) (fun _ => rfl)) ?_ ?_
    · intro r' h1 h2 j h3
      rw [ld_w vr, if_neg (by omega)]
      exact hm r' h1 h2 j h3
    · intro j hj2
      rw [ld_w vr]
      by_cases e : j = h
      · rw [if_pos (by omega), e]
      · rw [if_neg (by omega)]; exact hj j (by omega)

theorem l277_17 {hours left : Int} {l : List Nat} {r : Nat} (hC : WfC A) (hl : l.length ≤ 40) (hr : r < l.length) (hq : ∀ q ∈ l, q < 40) (hh : 0 ≤ left ∧ left ≤ hours ∧ hours ≤ 200) (hR : RM I A) (hw : RwI A year l I) (hH : HrI A year I) (hm : MfI A year hours l 0 I) (hK : ∀ w3 w6 w7, h277_16 (d + 1) L (u2 (u2 I 128 (l.getD r 0) (oI ((pkS (fun t => hrS A year t) (fun t => woS A (l.getD r 0) year t) ((wsL A year l).drop (r + 1)) left : Nat) : Int))) 91 50 (oI (ld I 91 50 + (if ((pkS (fun t => hrS A year t) (fun t => woS A (l.getD r 0) year t) ((wsL A year l).drop (r + 1)) left : Nat) : Int) = 0 then (0 : Int) else 1)))) R S Q w1 hours w3 (left - hrS A year (pkS (fun t => hrS A year t) (fun t => woS A (l.getD r 0) year t) ((wsL A year l).drop (r + 1)) left : Nat)) ((r : Int) + 1) w6 w7) : ∀ (f t : Nat), t + f = 64 → (∃ j, t ≤ j ∧ j < 64 ∧ pkC (fun t => woS A (l.getD r 0) year t) (fun t => hrS A year t) (mfS (fun t => hrS A year t) ((wsL A year l).drop (r + 1))) left (mfS (fun t => hrS A year t) ((wsL A year l).drop r) left) j) → pkF (fun t => woS A (l.getD r 0) year t) (fun t => hrS A year t) (mfS (fun t => hrS A year t) ((wsL A year l).drop (r + 1))) left (mfS (fun t => hrS A year t) ((wsL A year l).drop r) left) f t = pkS (fun t => hrS A year t) (fun t => woS A (l.getD r 0) year t) ((wsL A year l).drop (r + 1)) left → ∀ w3 w7, h277_17 (d + 1) L I R S Q w1 hours w3 left r t w7 := by
  intro f
  induction f with
  | zero => rintro t ht ⟨j, h1, h2, -⟩; omega
  | succ f ih =>
    intro t ht hj hp w3 w7
    have ep : pkF (fun t => woS A (l.getD r 0) year t) (fun t => hrS A year t) (mfS (fun t => hrS A year t) ((wsL A year l).drop (r + 1))) left (mfS (fun t => hrS A year t) ((wsL A year l).drop r) left) (f + 1) t = if ¬ woS A (l.getD r 0) year t = -1 ∧ hrS A year t ≤ left ∧ woS A (l.getD r 0) year t + mfS (fun t => hrS A year t) ((wsL A year l).drop (r + 1)) (left - hrS A year t) = mfS (fun t => hrS A year t) ((wsL A year l).drop r) left then t else pkF (fun t => woS A (l.getD r 0) year t) (fun t => hrS A year t) (mfS (fun t => hrS A year t) ((wsL A year l).drop (r + 1))) left (mfS (fun t => hrS A year t) ((wsL A year l).drop r) left) f (t + 1) := rfl
    have nx : ¬ (¬ woS A (l.getD r 0) year t = -1 ∧ hrS A year t ≤ left ∧ woS A (l.getD r 0) year t + mfS (fun t => hrS A year t) ((wsL A year l).drop (r + 1)) (left - hrS A year t) = mfS (fun t => hrS A year t) ((wsL A year l).drop r) left) → ∀ w3 w7, h277_17 (d + 1) L I R S Q w1 hours w3 left r ((t : Int) + 1) w7 := by
      intro hn
      rw [ep, if_neg hn] at hp
      refine ih (t + 1) (by omega) ?_ hp
      obtain ⟨j, h1, h2, h3⟩ := hj
      refine ⟨j, ?_, h2, h3⟩
      by_cases e : j = t
      · rw [e] at h3; exact absurd h3 hn
      · omega
    have wv := hw.2.2 r t hr (by omega)
    have hv := hH t (by omega)
    have hi := (hr_ok hC (code := year)).1 t
    dsimp only at hi
    have wi := woS_in hC (c := ((l.getD r 0 : Nat) : Int)) (year := year) (set := (t : Int))
    have mv0 := hm r (by omega) (by omega) left.toNat (by omega)
    rw [show ((left.toNat : Nat) : Int) = left by omega] at mv0
    have r124 := hw.2.1 r hr
    have hqm : l.getD r 0 < 40 := by
      rw [List.getD_eq_getElem?_getD, List.getElem?_eq_getElem hr]
      exact hq _ (List.getElem_mem hr)
    refine e277_17 hR ?_
    rw [show (64 * (r : Int) + t).toNat = 64 * r + t by omega, wv, show (201 * (r : Int) + left).toNat = 201 * r + left.toNat by omega, mv0]
    simp only [Int.toNat_natCast, hv, r124]
    refine ⟨by omega, fun c1 => nx (by rintro ⟨a, -⟩; exact a c1) _ _, fun c1 => ⟨by omega, ⟨by omega, by omega⟩, fun c2 => nx (by rintro ⟨-, a, -⟩; omega) _ _, fun c2 => ?_⟩⟩
    have eix : (201 * (r : Int) + 201 + left - hrS A year t).toNat = 201 * (r + 1) + (left - hrS A year t).toNat := by omega
    have mv := hm (r + 1) (by omega) (by omega) (left - hrS A year t).toNat (by omega)
    rw [show (((left - hrS A year t).toNat : Nat) : Int) = left - hrS A year t by omega] at mv
    have mb := mf_b hC (year := year) (l := l) (r := r + 1) (h := left - hrS A year t) hl (by omega)
    rw [eix, mv]
    refine ⟨by omega, by omega, ⟨by omega, by omega⟩, fun c3 => ⟨by omega, by omega, ⟨by omega, by omega⟩, ?_⟩, fun c3 => nx (by rintro ⟨-, -, a⟩; exact c3 a) _ _⟩
    rw [ep, if_pos ⟨c1, by omega, c3⟩] at hp
    rw [← hp] at hK
    exact hK _ _ _
/-- how many are entered for something -/
def cnL (l : List Nat) : Int := (l.map (fun t : Nat => if (t : Int) = 0 then (0 : Int) else 1)).sum
def StI (l : List Nat) (ts : List Nat) (I : mI) : Prop := ∀ c : Nat, c < 40 → ∀ r : Nat, r < ts.length → l.getD r 0 = c → r < l.length → ld I 128 c = ts.getD r 0
end
