/-! the reference: nodes written -/
theorem wdOr : WdOk wOr := by decide
theorem wdAnd : WdOk wAnd := by decide
theorem wdNot : WdOk wNot := by decide
theorem inR_nd {A : aS} {k : Int} (h : ndIn A k) : inR k := by have h1 := h.1; have h2 := h.2.1; have h3 := h.2.2; unfold inR; omega
def clT (x3 : Int) : List Tk := if x3 = 0 then [] else [tS 41]
section
variable {d L : Nat} {I I0 : mI} {R : Nat → Nat → Option Nat} {S : List (Nat × Nat)} {A : aS} {Q : Option Value → mM → Prop} {K : mM → Prop} {B : List Int} {b : Bool} {w : Int64} {v : Int}
theorem l327c {α : Type} {P : Int → α → Prop} {f : α → List Tk} {k x3 x4 ls : Int} {w2 : Value} {us : List Tk} (hk : ndIn A k) (hx3 : x3 = 0 ∨ x3 = 1) (hx4 : x4 = 0 ∨ x4 = 1) (hls : ls = if x4 = 1 ∧ A 144 k.toNat = 1 then 1 else 0) (hw : w = if A 144 k.toNat = 0 then wOr else wAnd) (hP : ∀ a x, P a x → ndIn A a) (hch : ∀ a x, P a x → WtOk (d + 1) L R S A 327 [.ref 91, .int (oI a), .int (oI ls)] (f x)) {a : Int} {x : α} (hx : P a x) (hf : FM I0 I) (hR : RM I A) (hW : Wr I B b) (hl : (rnd (B, b) (f x ++ us)).1.length ≤ 8000)
    (hgo : ∀ I1, FM I0 I1 → RM I1 A → Wr I1 (rnd (B, b) (f x)).1 (rnd (B, b) (f x)).2 → (rnd ((rnd (B, b) (f x)).1, (rnd (B, b) (f x)).2) us).1.length ≤ 8000 → h327_8 (d + 2) L I1 R S Q k w2 x3 x4 (A 146 a.toNat)) :
    (inR x4 ∧ (((x4 = 0) → CallV (d + 1) 327 [.ref 91, .int (oI a), .int (oI 0)] (bd L I R S) (fun s => ∃ (I11 : mI), s = bd L I11 R S ∧ RM I11 A ∧ ((0 ≤ a ∧ a < 7200) ∧ (h327_8 (d + 2) L I11 R S Q k w2 x3 x4 (A 146 a.toNat))))) ∧ (¬ (x4 = 0) → ((A 144 k.toNat = 1) → CallV (d + 1) 327 [.ref 91, .int (oI a), .int (oI 1)] (bd L I R S) (fun s => ∃ (I15 : mI), s = bd L I15 R S ∧ RM I15 A ∧ ((0 ≤ a ∧ a < 7200) ∧ (h327_8 (d + 2) L I15 R S Q k w2 x3 x4 (A 146 a.toNat))))) ∧ (¬ (A 144 k.toNat = 1) → CallV (d + 1) 327 [.ref 91, .int (oI a), .int (oI 0)] (bd L I R S) (fun s => ∃ (I18 : mI), s = bd L I18 R S ∧ RM I18 A ∧ ((0 ≤ a ∧ a < 7200) ∧ (h327_8 (d + 2) L I18 R S Q k w2 x3 x4 (A 146 a.toNat)))))))) := by
  have h5 := hP _ _ hx
  have g1 := h5.1; have g2 := h5.2.1; have g3 := h5.2.2
  have h := (hch a x hx).go (us := us) (P := fun I1 => (0 ≤ a ∧ a < 7200) ∧ (h327_8 (d + 2) L I1 R S Q k w2 x3 x4 (A 146 a.toNat))) hf hR hW hl (fun I1 f1 r1 w1 l1 => ⟨by omega, hgo I1 f1 r1 w1 l1⟩)
  refine ⟨by rcases hx4 with q | q <;> rw [q] <;> exact inRd rfl, fun q => ?_, fun q => ⟨fun q2 => ?_, fun q2 => ?_⟩⟩
  · rw [hls, if_neg (by omega)] at h; exact h
  · rw [hls, if_pos ⟨by omega, q2⟩] at h; exact h
  · rw [hls, if_neg (by omega)] at h; exact h
theorem l327 {α : Type} {P : Int → α → Prop} {f : α → List Tk} {k x3 x4 ls : Int} {w2 : Value} {whole : List α} (hk : ndIn A k) (hx3 : x3 = 0 ∨ x3 = 1) (hx4 : x4 = 0 ∨ x4 = 1) (hls : ls = if x4 = 1 ∧ A 144 k.toNat = 1 then 1 else 0) (hw : w = if A 144 k.toNat = 0 then wOr else wAnd) (hP : ∀ a x, P a x → ndIn A a) (hch : ∀ a x, P a x → WtOk (d + 1) L R S A 327 [.ref 91, .int (oI a), .int (oI ls)] (f x)) (hwh : MCh P (A 146) whole (A 145 k.toNat)) :
    ∀ (r : List α) (a : Int) (I : mI) (B : List Int) (b : Bool), MCh P (A 146) r a → r.length < whole.length → FM I0 I → RM I A → Wr I B b → (rnd (B, b) (jr w f r ++ clT x3)).1.length ≤ 8000 → (∀ I1, FM I0 I1 → RM I1 A → Wr I1 (rnd (B, b) (jr w f r ++ clT x3)).1 (rnd (B, b) (jr w f r ++ clT x3)).2 → Q none (bd L I1 R S)) → h327_8 (d + 2) L I R S Q k w2 x3 x4 a := by
  have g1 := hk.1; have g2 := hk.2.1; have g3 := hk.2.2
  intro r
  induction r with
  | nil =>
    intro a I B b hm hlen hf hR hW hl hK
    have ha : a = -1 := hm
    subst ha
    refine e327_8 (d := d + 1) hR ⟨inRd rfl, fun _ => ⟨by rcases hx3 with q | q <;> rw [q] <;> exact inRd rfl, fun q => ?_, fun q => ?_⟩, fun q => absurd rfl q⟩
    · have e : clT x3 = [] := if_pos q
      rw [e] at hK
      exact hK I hf hR hW
    · have e : clT x3 = [tS 41] := if_neg q
      rw [e] at hl hK
      exact wt323 (by decide) I B b _ hR hW hl (fun I1 f1 r1 w1 => ⟨I1, rfl, r1, hK I1 (hf.trans f1) r1 w1⟩)
  | cons x r ih =>
    intro a I B b hm hlen hf hR hW hl hK
    have h5 := hP _ _ hm.1
    have g4 := h5.1; have g5 := h5.2.1
    have hne : ¬ a = A 145 k.toNat := by
      intro q
      rw [q] at hm
      have := MCh_len (fun a x h => (hP a x h).1) _ _ _ hm hwh
      omega
    have e1 : jr w f (x :: r) ++ clT x3 = [tW w] ++ (f x ++ (jr w f r ++ clT x3)) := by
      show (tW w :: (f x ++ jr w f r)) ++ clT x3 = _
      rw [List.cons_append, List.append_assoc]; rfl
    rw [e1] at hl hK
    have hin := inR_nd h5
    have key : WdOk w → CallV (d + 1) 322 [.ref 91, .long w] (bd L I R S) (fun s => ∃ (I22 : mI), s = bd L I22 R S ∧ RM I22 A ∧ (inR x4 ∧ (((x4 = 0) → CallV (d + 1) 327 [.ref 91, .int (oI a), .int (oI 0)] (bd L I22 R S) (fun s => ∃ (I11 : mI), s = bd L I11 R S ∧ RM I11 A ∧ ((0 ≤ a ∧ a < 7200) ∧ (h327_8 (d + 2) L I11 R S Q k w2 x3 x4 (A 146 a.toNat))))) ∧ (¬ (x4 = 0) → ((A 144 k.toNat = 1) → CallV (d + 1) 327 [.ref 91, .int (oI a), .int (oI 1)] (bd L I22 R S) (fun s => ∃ (I15 : mI), s = bd L I15 R S ∧ RM I15 A ∧ ((0 ≤ a ∧ a < 7200) ∧ (h327_8 (d + 2) L I15 R S Q k w2 x3 x4 (A 146 a.toNat))))) ∧ (¬ (A 144 k.toNat = 1) → CallV (d + 1) 327 [.ref 91, .int (oI a), .int (oI 0)] (bd L I22 R S) (fun s => ∃ (I18 : mI), s = bd L I18 R S ∧ RM I18 A ∧ ((0 ≤ a ∧ a < 7200) ∧ (h327_8 (d + 2) L I18 R S Q k w2 x3 x4 (A 146 a.toNat))))))))) := by
      intro hwd
      refine (wt322 hwd).go (us := f x ++ (jr w f r ++ clT x3)) hf hR hW hl (fun I1 f1 r1 w1 l1 => ?_)
      refine l327c (w := w) (us := jr w f r ++ clT x3) hk hx3 hx4 hls hw hP hch hm.1 f1 r1 w1 l1 (fun I2 f2 r2 w2' l2 => ?_)
      refine ih _ I2 _ _ hm.2 (by have : (x :: r).length = r.length + 1 := rfl; omega) f2 r2 w2' l2 (fun I3 f3 r3 w3 => hK I3 f3 r3 ?_)
      rw [rnd_app, rnd_app]; exact w3
    refine e327_8 (d := d + 1) hR ⟨hin, fun q => absurd q (by omega), fun _ => ⟨by omega, fun q => absurd q hne, fun _ => ⟨fun q => ?_, fun q => ?_⟩⟩⟩
    · rw [hw, if_pos q] at key; exact key wdOr
    · rw [hw, if_neg q] at key; exact key wdAnd
theorem f327 {α : Type} {P : Int → α → Prop} {f : α → List Tk} {k x3 x4 ls : Int} {w2 : Value} {x : α} {r : List α} (hk : ndIn A k) (hx3 : x3 = 0 ∨ x3 = 1) (hx4 : x4 = 0 ∨ x4 = 1) (hls : ls = if x4 = 1 ∧ A 144 k.toNat = 1 then 1 else 0) (hw : w = if A 144 k.toNat = 0 then wOr else wAnd) (hP : ∀ a x, P a x → ndIn A a) (hch : ∀ a x, P a x → WtOk (d + 1) L R S A 327 [.ref 91, .int (oI a), .int (oI ls)] (f x)) (hwh : MCh P (A 146) (x :: r) (A 145 k.toNat)) (hf : FM I0 I) (hR : RM I A) (hW : Wr I B b) (hl : (rnd (B, b) (jn w f (x :: r) ++ clT x3)).1.length ≤ 8000) (hK : ∀ I1, FM I0 I1 → RM I1 A → Wr I1 (rnd (B, b) (jn w f (x :: r) ++ clT x3)).1 (rnd (B, b) (jn w f (x :: r) ++ clT x3)).2 → Q none (bd L I1 R S)) : h327_8 (d + 2) L I R S Q k w2 x3 x4 (A 145 k.toNat) := by
  have g1 := hk.1; have g2 := hk.2.1; have g3 := hk.2.2
  have h5 := hP _ _ hwh.1
  have g4 := h5.1; have g5 := h5.2.1
  have e1 : jn w f (x :: r) ++ clT x3 = f x ++ (jr w f r ++ clT x3) := by show (f x ++ jr w f r) ++ clT x3 = _; rw [List.append_assoc]
  rw [e1] at hl hK
  refine e327_8 (d := d + 1) hR ⟨inR_nd h5, fun q => absurd q (by omega), fun _ => ⟨by omega, fun _ => ?_, fun q => absurd rfl q⟩⟩
  refine l327c (w := w) (us := jr w f r ++ clT x3) hk hx3 hx4 hls hw hP hch hwh.1 hf hR hW hl (fun I2 f2 r2 w2' l2 => ?_)
  refine l327 hk hx3 hx4 hls hw hP hch hwh r _ I2 _ _ hwh.2 (by show r.length < r.length + 1; omega) f2 r2 w2' l2 (fun I3 f3 r3 w3 => hK I3 f3 r3 ?_)
  rw [rnd_app]; exact w3
theorem wn_gen {α : Type} {P : Int → α → Prop} {f : α → List Tk} {k kd ls c : Int} {whole : List α} (hk : ndIn A k) (hkd : kd = 0 ∨ kd = 1) (h144 : A 144 k.toNat = kd) (hne : whole ≠ []) (hw : w = if kd = 0 then wOr else wAnd) (hP : ∀ a x, P a x → ndIn A a) (hc : ∀ I, RM I A → R328 (d + 1) L I R S k c) (hcr : inR c) (hls : inR ls) (hch : ∀ a x, P a x → WtOk (d + 1) L R S A 327 [.ref 91, .int (oI a), .int (oI (if ¬ whole.length = 1 ∧ kd = 1 then 1 else 0))] (f x)) (hwh : MCh P (A 146) whole (A 145 k.toNat)) : WtOk (d + 2) L R S A 327 [.ref 91, .int (oI k), .int (oI ls)] (prT (decide (c < ls)) (jn w f whole)) := by
  intro I B b K hR hW hl hK
  have g1 := hk.1; have g2 := hk.2.1; have g3 := hk.2.2
  cases whole with
  | nil => exact absurd rfl hne
  | cons x r =>
    have h5 := hP _ _ hwh.1
    have g4 := h5.1; have g5 := h5.2.1
    have fin : ∀ (x3 : Int) (I' : mI) (B' : List Int) (b' : Bool), (x3 = 0 ∨ x3 = 1) → FM I I' → RM I' A → Wr I' B' b' → (rnd (B', b') (jn w f (x :: r) ++ clT x3)).1.length ≤ 8000 → (∀ I1, FM I I1 → RM I1 A → Wr I1 (rnd (B', b') (jn w f (x :: r) ++ clT x3)).1 (rnd (B', b') (jn w f (x :: r) ++ clT x3)).2 → K (bd L I1 R S)) → (0 ≤ A 145 k.toNat ∧ A 145 k.toNat < 7200) ∧ (((A 146 (A 145 k.toNat).toNat = (-1)) → h327_8 (d + 2) L I' R S (rqV K) k (.int (oI ls)) x3 0 (A 145 k.toNat)) ∧ (¬ (A 146 (A 145 k.toNat).toNat = (-1)) → h327_8 (d + 2) L I' R S (rqV K) k (.int (oI ls)) x3 1 (A 145 k.toNat))) := by
      intro x3 I' B' b' hx3 f' r' w' l' k'
      refine ⟨by omega, fun q => ?_, fun q => ?_⟩
      · cases r with
        | cons y r => have := (hP _ _ hwh.2.1).1; omega
        | nil =>
          rw [if_neg (fun z => z.1 rfl)] at hch
          exact f327 (I0 := I) (w := w) (ls := 0) hk hx3 (Or.inl rfl) (by rw [if_neg (by omega)]) (by rw [h144]; exact hw) hP hch hwh f' r' w' l' (fun I1 f1 r1 w1 => ⟨rfl, k' I1 f1 r1 w1⟩)
      · cases r with
        | nil => exact absurd hwh.2 q
        | cons y r =>
          have hz : ¬ (x :: y :: r).length = 1 := by show ¬ r.length + 1 + 1 = 1; omega
          refine f327 (I0 := I) (w := w) (ls := if ¬ (x :: y :: r).length = 1 ∧ kd = 1 then 1 else 0) hk hx3 (Or.inr rfl) ?_ (by rw [h144]; exact hw) hP hch hwh f' r' w' l' (fun I1 f1 r1 w1 => ⟨rfl, k' I1 f1 r1 w1⟩)
          rw [h144]
          rcases hkd with q | q
          · rw [if_neg (by omega), if_neg (by omega)]
          · rw [if_pos ⟨hz, q⟩, if_pos ⟨rfl, q⟩]
    refine e327 (d := d + 1) hR ⟨c, hc I hR, hcr, hls, fun q => ?_, fun q => ?_⟩
    · rw [decide_eq_true q] at hl hK
      have e : prT true (jn w f (x :: r)) = [tS 40] ++ (jn w f (x :: r) ++ clT 1) := rfl
      rw [e] at hl hK
      refine (wt323 (x := 40) (by decide)).go (us := jn w f (x :: r) ++ clT 1) (FM.refl I) hR hW hl (fun I1 f1 r1 w1 l1 => ⟨by omega, fun q => absurd q (by omega), fun _ => ⟨fun q => absurd q (by omega), fun _ => ?_⟩⟩)
      exact fin 1 I1 _ _ (Or.inr rfl) f1 r1 w1 l1 (fun I2 f2 r2 w2 => hK I2 f2 r2 (by rw [rnd_app]; exact w2))
    · rw [decide_eq_false q] at hl hK
      have e : prT false (jn w f (x :: r)) = jn w f (x :: r) ++ clT 0 := (List.append_nil _).symm
      rw [e] at hl hK
      refine ⟨by omega, fun q => absurd q (by omega), fun _ => ⟨fun q => absurd q (by omega), fun _ => ?_⟩⟩
      exact fin 0 I _ _ (Or.inl rfl) (FM.refl I) hR hW hl hK
end
