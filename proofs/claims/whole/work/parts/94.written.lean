/-! the reference: bodies and codes written -/
theorem iteQ {α : Type} {P : α → Prop} {c : Prop} {hc : Decidable c} {a b : α} (h1 : P a) (h2 : P b) : P (if c then a else b) := by split <;> assumption
theorem wdNm {x : Int} : WdOk (nmW x) := (iteQ (P := WdOk) (by decide) (iteQ (P := WdOk) (by decide) (iteQ (P := WdOk) (by decide) (iteQ (P := WdOk) (by decide) (iteQ (P := WdOk) (by decide) (iteQ (P := WdOk) (by decide) (iteQ (P := WdOk) (by decide) (iteQ (P := WdOk) (by decide) (iteQ (P := WdOk) (by decide) (iteQ (P := WdOk) (by decide) (iteQ (P := WdOk) (by decide) (by decide))))))))))))
theorem wdBd {x : Int} : WdOk (bdW x) := (iteQ (P := WdOk) (by decide) (iteQ (P := WdOk) (by decide) (iteQ (P := WdOk) (by decide) (iteQ (P := WdOk) (by decide) (iteQ (P := WdOk) (by decide) (iteQ (P := WdOk) (by decide) (iteQ (P := WdOk) (by decide) (iteQ (P := WdOk) (by decide) (iteQ (P := WdOk) (by decide) (iteQ (P := WdOk) (by decide) (iteQ (P := WdOk) (by decide) (iteQ (P := WdOk) (by decide) (iteQ (P := WdOk) (by decide) (iteQ (P := WdOk) (by decide) (by decide)))))))))))))))
theorem cAll_in {α : Type} {c : α → Int} (h : ∀ x, 0 ≤ c x ∧ c x ≤ 2) (l : List α) : 0 ≤ cAll c l ∧ cAll c l ≤ 2 := by
  unfold cAll
  split
  · exact h _
  · decide
theorem cAny_in {α : Type} {c : α → Int} (h : ∀ x, 0 ≤ c x ∧ c x ≤ 2) (l : List (List α)) : 0 ≤ cAny c l ∧ cAny c l ≤ 2 := by
  unfold cAny
  split
  · exact cAll_in h _
  · decide
theorem cOne_in : ∀ (n : Nat) (o : One n), 0 ≤ cOne n o ∧ cOne n o ≤ 2
  | 0, _ => by show (0 : Int) ≤ 2 ∧ (2 : Int) ≤ 2; decide
  | n + 1, .inl _ => by show (0 : Int) ≤ 2 ∧ (2 : Int) ≤ 2; decide
  | n + 1, .inr (.inl _) => by show (0 : Int) ≤ 2 ∧ (2 : Int) ≤ 2; decide
  | n + 1, .inr (.inr t) => cAny_in (cOne_in n) t
section
variable {d L : Nat} {I I0 : mI} {R : Nat → Nat → Option Nat} {S : List (Nat × Nat)} {A : aS} {Q : Option Value → mM → Prop} {K : mM → Prop} {x : List Int × Bool} {k ls : Int}
theorem WtOk.t {m : Nat} {as : List Value} {t : Tk} {us : List Tk} {P : mI → Prop} (h : WtOk d L R S A m as [t]) (hf : FM I0 I) (hR : RM I A) (hw : Wr I x.1 x.2) (hl : (rnd x (t :: us)).1.length ≤ 8000) (hK : ∀ I1, FM I0 I1 → RM I1 A → Wr I1 (stk x t).1 (stk x t).2 → (rnd (stk x t) us).1.length ≤ 8000 → P I1) : CallV d m as (bd L I R S) (fun s => ∃ I1 : mI, s = bd L I1 R S ∧ RM I1 A ∧ P I1) := h.go (us := us) hf hR hw hl hK
theorem wn_lf {l : Lf} (h : MLf A k l) (hls : 0 ≤ ls ∧ ls ≤ 2) : WtOk (d + 2) L R S A 327 [.ref 91, .int (oI k), .int (oI ls)] (tLf l) := by
  intro I B b K hR hW hl hK
  obtain ⟨h1, h2, h3, h4, h5, h6, h7, h8⟩ := h
  have g1 := h1.1; have g2 := h1.2.1; have g3 := h1.2.2
  refine e327 (d := d + 1) hR ⟨2, r328_lf hR h1 (Or.inl h2), inRd rfl, by unfold inR; omega, fun q => absurd q (by omega), fun _ => ⟨by omega, fun _ => ?_, fun q => absurd h2 q⟩⟩
  rw [h3, h4, h5]
  refine WtOk.t (x := (B, b)) (us := [tS l.2.1, tN l.2.2]) (wt322 wdNm) (FM.refl I) hR hW hl (fun I1 f1 r1 w1 l1 => ?_)
  refine WtOk.t (us := [tN l.2.2]) (wt323 (by omega)) f1 r1 w1 l1 (fun I2 f2 r2 w2 l2 => ?_)
  refine WtOk.t (us := []) (wt324 h8) f2 r2 w2 l2 (fun I3 f3 r3 w3 l3 => hK I3 f3 r3 w3)
theorem wn_all {α : Type} {P : Int → α → Prop} {c : α → Int} {f : Int → α → List Tk} (hc2 : ∀ x, 0 ≤ c x ∧ c x ≤ 2) (hP : ∀ a x, P a x → ndIn A a) (hc : ∀ I, RM I A → ∀ a x, P a x → R328 d L I R S a (c x)) (hch : ∀ ls a x, 0 ≤ ls ∧ ls ≤ 2 → P a x → WtOk (d + 1) L R S A 327 [.ref 91, .int (oI a), .int (oI ls)] (f ls x)) {l : List α} (h : MAllP A P k l) (hls : 0 ≤ ls ∧ ls ≤ 2) : WtOk (d + 2) L R S A 327 [.ref 91, .int (oI k), .int (oI ls)] (tAll c f ls l) := by
  have hi := cAll_in hc2 l
  refine wn_gen (kd := 1) h.1 (Or.inr rfl) h.2.1 h.2.2.1 (by rw [if_neg (by decide)]) hP (fun I hR => r328_all hR hP (hc I hR) h) (by unfold inR; omega) (by unfold inR; omega) (fun a x hx => ?_) h.2.2.2
  by_cases hl : l.length = 1
  · rw [if_pos hl, if_neg (fun q => q.1 hl)]; exact hch 0 a x (by decide) hx
  · rw [if_neg hl, if_pos ⟨hl, rfl⟩]; exact hch 1 a x (by decide) hx
theorem wn_any {α : Type} {P : Int → α → Prop} {c : α → Int} {f : Int → α → List Tk} (hc2 : ∀ x, 0 ≤ c x ∧ c x ≤ 2) (hP : ∀ a x, P a x → ndIn A a) (hc : ∀ I, RM I A → ∀ a x, P a x → R328 d L I R S a (c x)) (hch : ∀ ls a x, 0 ≤ ls ∧ ls ≤ 2 → P a x → WtOk (d + 1) L R S A 327 [.ref 91, .int (oI a), .int (oI ls)] (f ls x)) {t : List (List α)} (h : MAnyP A P k t) (hls : 0 ≤ ls ∧ ls ≤ 2) : WtOk (d + 3) L R S A 327 [.ref 91, .int (oI k), .int (oI ls)] (tAny c f ls t) := by
  have hi := cAny_in hc2 t
  refine wn_gen (d := d + 1) (kd := 0) h.1 (Or.inl rfl) h.2.1 h.2.2.1 (by rw [if_pos rfl]) (P := MAllP A P) (fun a x q => q.1) (fun I hR => r328_any hR hP (hc I hR) h) (by unfold inR; omega) (by unfold inR; omega) (fun a x hx => ?_) h.2.2.2
  rw [if_neg (by omega)]
  exact wn_all hc2 hP hc hch hx (by decide)
theorem wn_one : ∀ (n d : Nat) (k ls : Int) (o : One n), MOne A n k o → 0 ≤ ls ∧ ls ≤ 2 → WtOk (d + 2 + 2 * n) L R S A 327 [.ref 91, .int (oI k), .int (oI ls)] (tOne n ls o)
  | 0, d, k, ls, o, h, hls => wn_lf h hls
  | n + 1, d, k, ls, .inl l, h, hls => by
    have h' : MLf A k l := h
    exact wn_lf (d := d + 2 + 2 * n) h' hls
  | n + 1, d, k, ls, .inr (.inl o), h, hls => by
    have h' : ndIn A k ∧ A 144 k.toNat = 2 ∧ MOne A n (A 145 k.toNat) o := h
    have g1 := h'.1.1; have g2 := h'.1.2.1; have g3 := h'.1.2.2
    have ih := wn_one n (d + 1) (A 145 k.toNat) 2 o h'.2.2 (by decide)
    rw [show d + 1 + 2 + 2 * n = d + 2 + 2 * n + 1 by omega] at ih
    intro I B b K hR hW hl hK
    refine e327 (d := d + 2 + 2 * n + 1) hR ⟨2, r328_lf (d := d + 2 + 2 * n) hR h'.1 (Or.inr h'.2.1), inRd rfl, by unfold inR; omega, fun q => absurd q (by omega), fun _ => ⟨by omega, fun q => absurd q (by omega), fun _ => ⟨fun _ => ?_, fun q => absurd h'.2.1 q⟩⟩⟩
    refine WtOk.t (x := (B, b)) (us := tOne n 2 o) (wt322 (d := d + 2 + 2 * n) wdNot) (FM.refl I) hR hW hl (fun I1 f1 r1 w1 l1 => ?_)
    exact ih I1 _ _ _ r1 w1 l1 (fun I2 f2 r2 w2 => ⟨I2, rfl, r2, hK I2 (f1.trans f2) r2 w2⟩)
  | n + 1, d, k, ls, .inr (.inr t), h, hls => by
    have h' : MAnyP A (MOne A n) k t := h
    have hq := wn_any (d := d + 1 + 2 * n) (L := L) (R := R) (S := S) (f := tOne n) (c := cOne n) (cOne_in n) (fun a x q => MOne.nd q) (fun I hR a x q => r328 hR n d a x q) (fun ls a x hl q => by have := wn_one n d a ls x q hl; rw [show d + 2 + 2 * n = d + 1 + 2 * n + 1 by omega] at this; exact this) h' hls
    rw [show d + 1 + 2 * n + 3 = d + 2 + 2 * (n + 1) by omega] at hq
    exact hq
theorem wn_top {n : Nat} {t : Any n} (h : MAny A n k t) (hls : 0 ≤ ls ∧ ls ≤ 2) : WtOk (d + 4 + 2 * n) L R S A 327 [.ref 91, .int (oI k), .int (oI ls)] (tAny (cOne n) (tOne n) ls t) := by
  have hq := wn_any (d := d + 1 + 2 * n) (L := L) (R := R) (S := S) (f := tOne n) (c := cOne n) (cOne_in n) (fun a x q => MOne.nd q) (fun I hR a x q => r328 hR n d a x q) (fun ls a x hl q => by have := wn_one (L := L) (R := R) (S := S) n d a ls x q hl; rw [show d + 2 + 2 * n = d + 1 + 2 * n + 1 by omega] at this; exact this) h hls
  rw [show d + 1 + 2 * n + 3 = d + 4 + 2 * n by omega] at hq
  exact hq
end
def bdR (kd num sec : Int) : List Tk := if kd = 1 then (if num = 1 then tW wPresent else if num = 2 then tW wLate else tW wWork) :: [tW wAs, tN sec] else if kd = 9 then [] else tN num :: (if kd = 2 then [tW wAs, tN sec] else if kd = 4 then [tW wNeeds, tN sec] else if kd = 13 then [tW wIs, tN sec] else if kd = 14 then [tW wIs, tN sec] else if kd = 6 then tW wPer :: (if sec = -2 then [tW wHead] else if sec = -3 then [tW wChild] else [tW wPass, tN sec]) else [])
noncomputable def whT (A : aS) (s : Nat) : List Tk := if A 143 s = -1 then [] else tW wIf :: tAny (cOne 10) (tOne 10) 0 (wT A s)
noncomputable def smT (A : aS) (s : Nat) : List Tk := tW (bdW (A 140 s)) :: (bdR (A 140 s) (A 141 s) (A 142 s) ++ whT A s)
section
variable {d L : Nat} {I I0 : mI} {R : Nat → Nat → Option Nat} {S : List (Nat × Nat)} {A : aS} {Q : Option Value → mM → Prop} {K : mM → Prop} {x : List Int × Bool} {s : Nat}
theorem f325 (hS : WfS A s) (h0 : ¬ A 140 s = 0) (hf : FM I0 I) (hR : RM I A) (hw : Wr I x.1 x.2) (hl : (rnd x (whT A s)).1.length ≤ 8000) (hK : ∀ I1, FM I0 I1 → RM I1 A → Wr I1 (rnd x (whT A s)).1 (rnd x (whT A s)).2 → K (bd L I1 R S)) : (((A 143 s = (-1)) → K (bd L I R S)) ∧ (¬ (A 143 s = (-1)) → CallV (d + 24) 322 [.ref 91, .long (Int64.ofInt 26982)] (bd L I R S) (fun s' => ∃ (I5 : mI), s' = bd L I5 R S ∧ RM I5 A ∧ (CallV (d + 24) 327 [.ref 91, .int (oI (A 143 s)), .int (oI 0)] (bd L I5 R S) (fun s' => ∃ (I6 : mI), s' = bd L I6 R S ∧ RM I6 A ∧ (K (bd L I6 R S))))))) := by
  refine ⟨fun q => ?_, fun q => ?_⟩
  · have e : whT A s = [] := if_pos q
    rw [e] at hK
    exact hK I hf hR hw
  · have e : whT A s = tW wIf :: tAny (cOne 10) (tOne 10) 0 (wT A s) := if_neg q
    rw [e] at hl hK
    refine WtOk.t (t := tW wIf) (us := tAny (cOne 10) (tOne 10) 0 (wT A s)) (wt322 (by decide)) hf hR hw hl (fun I1 f1 r1 w1 l1 => ?_)
    exact wn_top (d := d) (wT_spec hS h0 q) (by decide) I1 _ _ _ r1 w1 l1 (fun I2 f2 r2 w2 => ⟨I2, rfl, r2, hK I2 (f1.trans f2) r2 w2⟩)
theorem k325 (hs : s < 360) (hS : WfS A s) (h0 : ¬ A 140 s = 0) : WtOk (d + 25) L R S A 325 [.ref 91, .int (oI s)] (smT A s) := by
  intro I B b K hR hW hl hK
  obtain ⟨hS1, hS2, hS3⟩ := hS
  obtain ⟨c1, c2, c3, c4, c5, c6, c7, c8⟩ := hS3 h0
  refine e325 (d := d + 24) (x1 := (s : Int)) hR ?_
  rw [Int.toNat_natCast]
  refine ⟨by omega, ?_⟩
  refine WtOk.t (x := (B, b)) (t := tW (bdW (A 140 s))) (us := bdR (A 140 s) (A 141 s) (A 142 s) ++ whT A s) (wt322 wdBd) (FM.refl I) hR hW hl (fun I1 f1 r1 w1 l1 => ?_)
  have hK' : ∀ I2, FM I I2 → RM I2 A → Wr I2 (rnd (stk (B, b) (tW (bdW (A 140 s)))) (bdR (A 140 s) (A 141 s) (A 142 s) ++ whT A s)).1 (rnd (stk (B, b) (tW (bdW (A 140 s)))) (bdR (A 140 s) (A 141 s) (A 142 s) ++ whT A s)).2 → K (bd L I2 R S) := hK
  generalize stk (B, b) (tW (bdW (A 140 s))) = x1 at w1 l1 hK'
  clear hK hl
  have hS : WfS A s := ⟨hS1, hS2, hS3⟩
  refine ⟨fun q => ⟨fun q2 => ?_, fun q2 => ⟨fun q3 => ?_, fun q3 => ?_⟩⟩, fun q => ⟨fun q2 => ?_, fun q2 => ?_⟩⟩
  · have e : bdR (A 140 s) (A 141 s) (A 142 s) ++ whT A s = tW wPresent :: tW wAs :: tN (A 142 s) :: whT A s := by unfold bdR; rw [if_pos q, if_pos q2]; rfl
    rw [e] at l1 hK'
    refine WtOk.t (t := tW wPresent) (us := tW wAs :: tN (A 142 s) :: whT A s) (wt322 (by decide)) f1 r1 w1 l1 (fun I2 f2 r2 w2 l2 => ?_)
    refine WtOk.t (t := tW wAs) (us := tN (A 142 s) :: whT A s) (wt322 (by decide)) f2 r2 w2 l2 (fun I3 f3 r3 w3 l3 => ?_)
    refine WtOk.t (t := tN (A 142 s)) (us := whT A s) (wt324 (c2 (by omega))) f3 r3 w3 l3 (fun I4 f4 r4 w4 l4 => ?_)
    exact f325 hS h0 f4 r4 w4 l4 hK'
  · have e : bdR (A 140 s) (A 141 s) (A 142 s) ++ whT A s = tW wLate :: tW wAs :: tN (A 142 s) :: whT A s := by unfold bdR; rw [if_pos q, if_neg q2, if_pos q3]; rfl
    rw [e] at l1 hK'
    refine WtOk.t (t := tW wLate) (us := tW wAs :: tN (A 142 s) :: whT A s) (wt322 (by decide)) f1 r1 w1 l1 (fun I2 f2 r2 w2 l2 => ?_)
    refine WtOk.t (t := tW wAs) (us := tN (A 142 s) :: whT A s) (wt322 (by decide)) f2 r2 w2 l2 (fun I3 f3 r3 w3 l3 => ?_)
    refine WtOk.t (t := tN (A 142 s)) (us := whT A s) (wt324 (c2 (by omega))) f3 r3 w3 l3 (fun I4 f4 r4 w4 l4 => ?_)
    exact f325 hS h0 f4 r4 w4 l4 hK'
  · have e : bdR (A 140 s) (A 141 s) (A 142 s) ++ whT A s = tW wWork :: tW wAs :: tN (A 142 s) :: whT A s := by unfold bdR; rw [if_pos q, if_neg q2, if_neg q3]; rfl
    rw [e] at l1 hK'
    refine WtOk.t (t := tW wWork) (us := tW wAs :: tN (A 142 s) :: whT A s) (wt322 (by decide)) f1 r1 w1 l1 (fun I2 f2 r2 w2 l2 => ?_)
    refine WtOk.t (t := tW wAs) (us := tN (A 142 s) :: whT A s) (wt322 (by decide)) f2 r2 w2 l2 (fun I3 f3 r3 w3 l3 => ?_)
    refine WtOk.t (t := tN (A 142 s)) (us := whT A s) (wt324 (c2 (by omega))) f3 r3 w3 l3 (fun I4 f4 r4 w4 l4 => ?_)
    exact f325 hS h0 f4 r4 w4 l4 hK'
  · have e : bdR (A 140 s) (A 141 s) (A 142 s) ++ whT A s = whT A s := by unfold bdR; rw [if_neg q, if_pos q2]; rfl
    rw [e] at l1 hK'
    exact f325 hS h0 f1 r1 w1 l1 hK'
  have e0 : bdR (A 140 s) (A 141 s) (A 142 s) ++ whT A s = tN (A 141 s) :: ((if A 140 s = 2 then [tW wAs, tN (A 142 s)] else if A 140 s = 4 then [tW wNeeds, tN (A 142 s)] else if A 140 s = 13 then [tW wIs, tN (A 142 s)] else if A 140 s = 14 then [tW wIs, tN (A 142 s)] else if A 140 s = 6 then tW wPer :: (if A 142 s = -2 then [tW wHead] else if A 142 s = -3 then [tW wChild] else [tW wPass, tN (A 142 s)]) else []) ++ whT A s) := by
    unfold bdR; rw [if_neg q, if_neg q2]; rfl
  rw [e0] at l1 hK'
  refine WtOk.t (t := tN (A 141 s)) (wt324 (c1 (by omega))) f1 r1 w1 l1 (fun I2 f2 r2 w2 l2 => ?_)
  refine ⟨fun q3 => ?_, fun q3 => ⟨fun q4 => ?_, fun q4 => ⟨fun q5 => ?_, fun q5 => ⟨fun q6 => ?_, fun q6 => ⟨fun q7 => ?_, fun q7 => ?_⟩⟩⟩⟩⟩
  · rw [if_pos q3] at l2 hK'
    refine WtOk.t (t := tW wAs) (us := tN (A 142 s) :: whT A s) (wt322 (by decide)) f2 r2 w2 l2 (fun I3 f3 r3 w3 l3 => ?_)
    refine WtOk.t (t := tN (A 142 s)) (us := whT A s) (wt324 (c2 (by omega))) f3 r3 w3 l3 (fun I4 f4 r4 w4 l4 => ?_)
    exact f325 hS h0 f4 r4 w4 l4 hK'
  · rw [if_neg q3, if_pos q4] at l2 hK'
    refine WtOk.t (t := tW wNeeds) (us := tN (A 142 s) :: whT A s) (wt322 (by decide)) f2 r2 w2 l2 (fun I3 f3 r3 w3 l3 => ?_)
    refine WtOk.t (t := tN (A 142 s)) (us := whT A s) (wt324 (c2 (by omega))) f3 r3 w3 l3 (fun I4 f4 r4 w4 l4 => ?_)
    exact f325 hS h0 f4 r4 w4 l4 hK'
  · rw [if_neg q3, if_neg q4, if_pos q5] at l2 hK'
    refine WtOk.t (t := tW wIs) (us := tN (A 142 s) :: whT A s) (wt322 (by decide)) f2 r2 w2 l2 (fun I3 f3 r3 w3 l3 => ?_)
    refine WtOk.t (t := tN (A 142 s)) (us := whT A s) (wt324 (c2 (by omega))) f3 r3 w3 l3 (fun I4 f4 r4 w4 l4 => ?_)
    exact f325 hS h0 f4 r4 w4 l4 hK'
  · rw [if_neg q3, if_neg q4, if_neg q5, if_pos q6] at l2 hK'
    refine WtOk.t (t := tW wIs) (us := tN (A 142 s) :: whT A s) (wt322 (by decide)) f2 r2 w2 l2 (fun I3 f3 r3 w3 l3 => ?_)
    refine WtOk.t (t := tN (A 142 s)) (us := whT A s) (wt324 (c2 (by omega))) f3 r3 w3 l3 (fun I4 f4 r4 w4 l4 => ?_)
    exact f325 hS h0 f4 r4 w4 l4 hK'
  · rw [if_neg q3, if_neg q4, if_neg q5, if_neg q6, if_pos q7] at l2 hK'
    refine WtOk.t (t := tW wPer) (us := (if A 142 s = -2 then [tW wHead] else if A 142 s = -3 then [tW wChild] else [tW wPass, tN (A 142 s)]) ++ whT A s) (wt322 (by decide)) f2 r2 w2 l2 (fun I3 f3 r3 w3 l3 => ?_)
    have hK3 : ∀ I9, FM I I9 → RM I9 A → Wr I9 (rnd (stk (stk x1 (tN (A 141 s))) (tW wPer)) ((if A 142 s = -2 then [tW wHead] else if A 142 s = -3 then [tW wChild] else [tW wPass, tN (A 142 s)]) ++ whT A s)).1 (rnd (stk (stk x1 (tN (A 141 s))) (tW wPer)) ((if A 142 s = -2 then [tW wHead] else if A 142 s = -3 then [tW wChild] else [tW wPass, tN (A 142 s)]) ++ whT A s)).2 → K (bd L I9 R S) := hK'
    clear hK'
    have c3' := c3 q7
    refine ⟨fun q8 => ?_, fun q8 => ⟨fun q9 => ?_, fun q9 => ?_⟩⟩
    · rw [if_pos q8] at l3 hK3
      refine WtOk.t (t := tW wHead) (us := whT A s) (wt322 (by decide)) f3 r3 w3 l3 (fun I4 f4 r4 w4 l4 => ⟨fun _ => ?_, fun z => absurd (by omega) z⟩)
      exact f325 hS h0 f4 r4 w4 l4 hK3
    · rw [if_neg q8, if_pos q9] at l3 hK3
      refine WtOk.t (t := tW wChild) (us := whT A s) (wt322 (by decide)) f3 r3 w3 l3 (fun I4 f4 r4 w4 l4 => ⟨fun _ => ?_, fun z => absurd (by omega) z⟩)
      exact f325 hS h0 f4 r4 w4 l4 hK3
    · rw [if_neg q8, if_neg q9] at l3 hK3
      refine WtOk.t (t := tW wPass) (us := tN (A 142 s) :: whT A s) (wt322 (by decide)) f3 r3 w3 l3 (fun I4 f4 r4 w4 l4 => ⟨fun z => absurd z (by omega), fun _ => ?_⟩)
      refine WtOk.t (t := tN (A 142 s)) (us := whT A s) (wt324 (by omega)) f4 r4 w4 l4 (fun I5 f5 r5 w5 l5 => ?_)
      exact f325 hS h0 f5 r5 w5 l5 hK3
  · rw [if_neg q3, if_neg q4, if_neg q5, if_neg q6, if_neg q7] at l2 hK'
    exact f325 hS h0 f2 r2 w2 l2 hK'
end
