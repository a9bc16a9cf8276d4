/-! the reference: words and numbers written -/
def Wr (I : mI) (B : List Int) (b : Bool) : Prop := ld I 91 92 = (B.length : Int) ∧ (∀ (j : Nat) (v : Int), B[j]? = some v → ld I 154 j = v) ∧ ld I 91 93 = bI b
def gpB (b : Bool) : List Int := if b = true then [32] else []
def wbX (w : Int64) (j : Nat) : Int64 := (w >>> ((oI (8 * (j : Int))).toInt64 &&& 63)) &&& (Int64.ofInt 255)
def wBk (w : Int64) : Nat → List Int
  | 0 => []
  | k + 1 => (if wbX w k = Int64.ofInt 0 then [] else [(wbX w k).toInt32.toInt]) ++ wBk w k
def wB (w : Int64) : List Int := wBk w 8
abbrev WdOk (w : Int64) : Prop := ∀ j : Nat, j < 8 → -128 ≤ (wbX w j).toInt32.toInt ∧ (wbX w j).toInt32.toInt ≤ 127
def pw (k : Nat) : Int := if k = 0 then 0 else if k = 1 then 1 else if k = 2 then 10 else if k = 3 then 100 else 1000
def dg1 (v u : Int) : Int := 48 + (Int.tdiv v u - Int.tdiv (Int.tdiv v u) 10 * 10)
def dL (v : Int) : Nat → List Int
  | 0 => []
  | k + 1 => dg1 v (pw (k + 1)) :: dL v k
def dB (v : Int) : List Int := if 9 < v then (if 99 < v then (if 999 < v then dL v 4 else dL v 3) else dL v 2) else dL v 1
theorem dg1_in {v u : Int} (hv : 0 ≤ v) (hu : 0 < u) : 48 ≤ dg1 v u ∧ dg1 v u ≤ 57 := by
  unfold dg1
  have h1 : 0 ≤ Int.tdiv v u := Int.tdiv_nonneg hv (by omega)
  rw [Int.tdiv_eq_ediv_of_nonneg h1]
  omega
theorem wBk_len {w : Int64} : ∀ k, (wBk w k).length ≤ k
  | 0 => Nat.le_refl _
  | k + 1 => by
    show ((if wbX w k = Int64.ofInt 0 then [] else [(wbX w k).toInt32.toInt]) ++ wBk w k).length ≤ k + 1
    have := wBk_len (w := w) k
    rw [List.length_append]
    split
    · show 0 + _ ≤ _; omega
    · show 1 + _ ≤ _; omega
theorem dL_len {v : Int} : ∀ k, (dL v k).length = k
  | 0 => rfl
  | k + 1 => by show (dL v k).length + 1 = k + 1; rw [dL_len k]
theorem dB_len {v : Int} : (dB v).length ≤ 4 := by
  unfold dB
  split
  · split
    · split
      · rw [dL_len]; decide
      · rw [dL_len]; decide
    · rw [dL_len]; decide
  · rw [dL_len]; decide
section
variable {d L : Nat} {I I0 : mI} {R : Nat → Nat → Option Nat} {S : List (Nat × Nat)} {A : aS} {Q : Option Value → mM → Prop} {K : mM → Prop} {B : List Int} {b : Bool} {w : Int64} {v : Int}
theorem Wr.flag (h : Wr I B b) : Wr (u2 I 91 93 (oI 1)) B true := by
  refine ⟨?_, fun j v hv => ?_, ?_⟩
  · rw [ld_w (inRd rfl), if_neg (by decide)]; exact h.1
  · rw [ld_o (by decide)]; exact h.2.1 j v hv
  · rw [ld_w (inRd rfl), if_pos rfl]; rfl
theorem Wr.fr {ws : List Nat} {os : List (Nat × Nat)} {I1 : mI} (h : Wr I B b) (hf : Fr ws os I I1) (h1 : (ws.contains 91 || os.contains (91, 92)) = false) (h2 : (ws.contains 91 || os.contains (91, 93)) = false) (h3 : ∀ k, (ws.contains 154 || os.contains (154, k)) = false) : Wr I1 B b :=
  ⟨(ld_fr hf h1).trans h.1, fun j v hv => (ld_fr hf (h3 j)).trans (h.2.1 j v hv), (ld_fr hf h2).trans h.2.2⟩
theorem k323 {x : Int} (hR : RM I A) (hw : Wr I B b) (hl : B.length < 8000) (hx : -128 ≤ x ∧ x ≤ 127) (hK : ∀ I1, FM I I1 → RM I1 A → Wr I1 (B ++ [x]) false → K (bd L I1 R S)) : CallV d 323 [.ref 91, .int (oI x)] (bd L I R S) K := by
  refine e323 hR ?_
  rw [hw.1, iB_id hx, iB_id hx, Int.toNat_natCast]
  refine ⟨by omega, hK _ ((((FM.refl I).wr (by decide)).wr (by decide)).wr (by decide)) (((hR.scr rfl).scr rfl).scr rfl) ⟨?_, fun j v hv => ?_, ?_⟩⟩
  · rw [ld_w (inRd rfl), if_neg (by decide), ld_w (by unfold inR; omega), if_pos rfl, List.length_append]; rfl
  · rw [ld_o (by decide), ld_o (by decide), ld_w (by unfold inR; omega)]
    split
    · rename_i q
      rw [q, List.getElem?_append_right (Nat.le_refl _), Nat.sub_self] at hv
      cases hv; rfl
    · rename_i q
      by_cases hj : j < B.length
      · rw [List.getElem?_append_left hj] at hv; exact hw.2.1 j v hv
      · rw [List.getElem?_append_right (by omega), List.getElem?_eq_none (by show 1 ≤ j - B.length; omega)] at hv; cases hv
  · rw [ld_w (inRd rfl), if_pos rfl]; rfl
theorem l322 (hwo : WdOk w) (n : Nat) (hn : n ≤ 8000) : ∀ (k : Nat) (I : mI) (B : List Int) (b : Bool) (w2 : Value), k ≤ 8 → FM I0 I → RM I A → Wr I B b → (B ++ wBk w k).length = n → (∀ I1, FM I0 I1 → RM I1 A → Wr I1 (B ++ wBk w k) true → Q none (bd L I1 R S)) → h322_2 (d + 1) L I R S Q w w2 (8 * (k : Int) - 8) := by
  intro k
  induction k with
  | zero =>
    intro I B b w2 hk hf hR hw hl hK
    refine e322_2 hR ⟨by unfold inR; omega, fun _ => ?_, fun c => absurd (by omega) c⟩
    refine hK _ (hf.wr (by decide)) (hR.scr rfl) ?_
    show Wr _ (B ++ []) true
    rw [List.append_nil]
    exact hw.flag
  | succ k ih =>
    intro I B b w2 hk hf hR hw hl hK
    rw [show 8 * ((k + 1 : Nat) : Int) - 8 = 8 * (k : Int) by omega]
    refine e322_2 hR ⟨by unfold inR; omega, fun c => absurd c (by omega), fun _ => ⟨inR_toInt _, fun c => ?_, fun c => ?_⟩⟩
    · have c' : wbX w k = Int64.ofInt 0 := lCmp_0.mp c
      have e : wBk w (k + 1) = wBk w k := by show (if wbX w k = Int64.ofInt 0 then [] else [(wbX w k).toInt32.toInt]) ++ wBk w k = _; rw [if_pos c']; rfl
      rw [e] at hl hK
      exact ih I B b _ (by omega) hf hR hw hl hK
    · have c' : ¬ wbX w k = Int64.ofInt 0 := fun q => c (lCmp_0.mpr q)
      have e : B ++ wBk w (k + 1) = (B ++ [(wbX w k).toInt32.toInt]) ++ wBk w k := by
        show B ++ ((if wbX w k = Int64.ofInt 0 then [] else [(wbX w k).toInt32.toInt]) ++ wBk w k) = _
        rw [if_neg c', List.append_assoc]
      rw [e] at hl hK
      have hl2 : B.length < 8000 := by
        rw [List.length_append, List.length_append] at hl
        have : ([(wbX w k).toInt32.toInt] : List Int).length = 1 := rfl
        omega
      refine k323 hR hw hl2 (hwo k (by omega)) (fun I5 f5 r5 w5 => ⟨I5, rfl, r5, ?_⟩)
      exact ih I5 _ false _ (by omega) (hf.trans f5) r5 w5 hl hK
theorem k322 (hwo : WdOk w) (hR : RM I A) (hw : Wr I B b) (hl : (B ++ (gpB b ++ wB w)).length ≤ 8000) (hK : ∀ I1, FM I I1 → RM I1 A → Wr I1 (B ++ (gpB b ++ wB w)) true → K (bd L I1 R S)) : CallV (d + 1) 322 [.ref 91, .long w] (bd L I R S) K := by
  refine e322 hR ⟨fun c => ?_, fun c => ?_⟩
  · rw [hw.2.2] at c
    cases b with
    | true => exact absurd c (by decide)
    | false =>
      have e : B ++ (gpB false ++ wB w) = B ++ wBk w 8 := by rw [show gpB false = [] from rfl, List.nil_append]; unfold wB; exact rfl
      rw [e] at hl hK
      have h := l322 (d := d) (Q := rqV K) (I0 := I) hwo (B ++ wBk w 8).length hl 8 I B false mUn (Nat.le_refl _) (FM.refl I) hR hw rfl (fun I1 f1 r1 w1 => ⟨rfl, hK I1 f1 r1 w1⟩)
      rw [show 8 * ((8 : Nat) : Int) - 8 = 56 by decide] at h
      exact h
  · rw [hw.2.2] at c
    cases b with
    | false => exact absurd rfl c
    | true =>
      have e : B ++ (gpB true ++ wB w) = (B ++ [32]) ++ wBk w 8 := by rw [show gpB true = [32] from rfl, List.append_assoc]; unfold wB; exact rfl
      rw [e] at hl hK
      have hl2 : B.length < 8000 := by
        rw [List.length_append, List.length_append] at hl
        have : ([32] : List Int).length = 1 := rfl
        omega
      refine k323 hR hw hl2 (by decide) (fun I5 f5 r5 w5 => ⟨I5, rfl, r5, ?_⟩)
      have h := l322 (d := d) (Q := rqV K) (I0 := I) hwo ((B ++ [32]) ++ wBk w 8).length hl 8 I5 (B ++ [32]) false mUn (Nat.le_refl _) f5 r5 w5 rfl (fun I1 f1 r1 w1 => ⟨rfl, hK I1 f1 r1 w1⟩)
      rw [show 8 * ((8 : Nat) : Int) - 8 = 56 by decide] at h
      exact h
theorem l324 (hv : 0 ≤ v ∧ v ≤ 9999) : ∀ (k : Nat) (I : mI) (B : List Int) (b : Bool), k ≤ 4 → FM I0 I → RM I A → Wr I B b → (B ++ dL v k).length ≤ 8000 → (∀ I1, FM I0 I1 → RM I1 A → Wr I1 (B ++ dL v k) true → Q none (bd L I1 R S)) → h324_3 (d + 1) L I R S Q v (pw k) := by
  intro k
  induction k with
  | zero =>
    intro I B b hk hf hR hw hl hK
    refine e324_3 hR ⟨inRd rfl, fun c => absurd c (by decide), fun _ => ?_⟩
    refine hK _ (hf.wr (by decide)) (hR.scr rfl) ?_
    show Wr _ (B ++ []) true
    rw [List.append_nil]
    exact hw.flag
  | succ k ih =>
    intro I B b hk hf hR hw hl hK
    have hp : Int.tdiv (pw (k + 1)) 10 = pw k ∧ 0 < pw (k + 1) ∧ pw (k + 1) ≤ 1000 := by
      have : k = 0 ∨ k = 1 ∨ k = 2 ∨ k = 3 := by omega
      rcases this with rfl | rfl | rfl | rfl <;> decide
    have e : B ++ dL v (k + 1) = (B ++ [dg1 v (pw (k + 1))]) ++ dL v k := by rw [List.append_assoc]; rfl
    rw [e] at hl hK
    have hl2 : B.length < 8000 := by
      rw [List.length_append, List.length_append] at hl
      have : ([dg1 v (pw (k + 1))] : List Int).length = 1 := rfl
      omega
    have hdv : 0 ≤ Int.tdiv v (pw (k + 1)) := Int.tdiv_nonneg hv.1 (by omega)
    have hdv2 : Int.tdiv v (pw (k + 1)) ≤ v := by rw [Int.tdiv_eq_ediv_of_nonneg hv.1]; exact Int.ediv_le_self _ hv.1
    have hd1 := dg1_in (v := v) hv.1 hp.2.1
    refine e324_3 hR ⟨by unfold inR; omega, fun _ => ⟨by unfold inR; omega, hp.2.1, by unfold inR; omega, ?_⟩, fun c => absurd hp.2.1 c⟩
    refine k323 (x := dg1 v (pw (k + 1))) hR hw hl2 (by omega) (fun I5 f5 r5 w5 => ⟨I5, rfl, r5, ?_⟩)
    rw [hp.1]
    exact ih I5 _ false (by omega) (hf.trans f5) r5 w5 hl hK
theorem m324 (hv : 0 ≤ v ∧ v ≤ 9999) (hf : FM I0 I) (hR : RM I A) (hw : Wr I B b) (hl : (B ++ dB v).length ≤ 8000) (hK : ∀ I1, FM I0 I1 → RM I1 A → Wr I1 (B ++ dB v) true → Q none (bd L I1 R S)) : h324_2 (d + 1) L I R S Q v 1 := by
  have h1 : Int.tdiv v 1 = v := Int.tdiv_one v
  have h2 : Int.tdiv v 10 = v / 10 := Int.tdiv_eq_ediv_of_nonneg hv.1
  have h3 : Int.tdiv v 100 = v / 100 := Int.tdiv_eq_ediv_of_nonneg hv.1
  have h4 : Int.tdiv v 1000 = v / 1000 := Int.tdiv_eq_ediv_of_nonneg hv.1
  refine e324_2 hR ⟨by unfold inR; omega, inRd rfl, by decide, by rw [h1]; unfold inR; omega, fun c => ?_, fun c => ?_⟩
  · rw [h1] at c
    refine e324_2 hR ⟨by unfold inR; omega, inRd rfl, by decide, by rw [show (1 : Int) * 10 = 10 by decide, h2]; unfold inR; omega, fun c2 => ?_, fun c2 => ?_⟩
    · rw [show (1 : Int) * 10 = 10 by decide, h2] at c2
      refine e324_2 hR ⟨by unfold inR; omega, inRd rfl, by decide, by rw [show (1 : Int) * 10 * 10 = 100 by decide, h3]; unfold inR; omega, fun c3 => ?_, fun c3 => ?_⟩
      · rw [show (1 : Int) * 10 * 10 = 100 by decide, h3] at c3
        refine e324_2 hR ⟨by unfold inR; omega, inRd rfl, by decide, by rw [show (1 : Int) * 10 * 10 * 10 = 1000 by decide, h4]; unfold inR; omega, fun c4 => ?_, fun c4 => ?_⟩
        · rw [show (1 : Int) * 10 * 10 * 10 = 1000 by decide, h4] at c4; omega
        · have e : dB v = dL v 4 := by unfold dB; rw [if_pos (by omega), if_pos (by omega), if_pos (by omega)]
          rw [e] at hl hK
          exact l324 (I0 := I0) hv 4 I B b (by decide) hf hR hw hl hK
      · rw [show (1 : Int) * 10 * 10 = 100 by decide, h3] at c3
        have e : dB v = dL v 3 := by unfold dB; rw [if_pos (by omega), if_pos (by omega), if_neg (by omega)]
        rw [e] at hl hK
        exact l324 (I0 := I0) hv 3 I B b (by decide) hf hR hw hl hK
    · rw [show (1 : Int) * 10 = 10 by decide, h2] at c2
      have e : dB v = dL v 2 := by unfold dB; rw [if_pos (by omega), if_neg (by omega)]
      rw [e] at hl hK
      exact l324 (I0 := I0) hv 2 I B b (by decide) hf hR hw hl hK
  · rw [h1] at c
    have e : dB v = dL v 1 := by unfold dB; rw [if_neg (by omega)]
    rw [e] at hl hK
    exact l324 (I0 := I0) hv 1 I B b (by decide) hf hR hw hl hK
theorem k324 (hv : 0 ≤ v ∧ v ≤ 9999) (hR : RM I A) (hw : Wr I B b) (hl : (B ++ (gpB b ++ dB v)).length ≤ 8000) (hK : ∀ I1, FM I I1 → RM I1 A → Wr I1 (B ++ (gpB b ++ dB v)) true → K (bd L I1 R S)) : CallV (d + 1) 324 [.ref 91, .int (oI v)] (bd L I R S) K := by
  refine e324 hR ⟨fun c => ?_, fun c => ?_⟩
  · rw [hw.2.2] at c
    cases b with
    | true => exact absurd c (by decide)
    | false => exact m324 (I0 := I) hv (FM.refl I) hR hw hl (fun I1 f1 r1 w1 => ⟨rfl, hK I1 f1 r1 w1⟩)
  · rw [hw.2.2] at c
    cases b with
    | false => exact absurd rfl c
    | true =>
      have e : B ++ (gpB true ++ dB v) = (B ++ [32]) ++ dB v := by rw [List.append_assoc]; rfl
      rw [e] at hl hK
      have hl2 : B.length < 8000 := by
        rw [List.length_append, List.length_append] at hl
        have : ([32] : List Int).length = 1 := rfl
        omega
      refine k323 hR hw hl2 (by decide) (fun I5 f5 r5 w5 => ⟨I5, rfl, r5, ?_⟩)
      exact m324 (I0 := I) hv f5 r5 w5 hl (fun I1 f1 r1 w1 => ⟨rfl, hK I1 f1 r1 w1⟩)
end
