section
variable {d L : Nat} {I I0 I1 : mI} {R : mR} {S : mSh} {Q : Option Value → mM → Prop} {A A1 : aS} {c day known kind half year subj code : Int}
theorem vtL_set {b0 c0 j : Nat} {v : Int} (hj : j < 10) (h0 : c0 < 10) : ∀ n, vtL (u2 A 134 (10 * b0 + c0) v) j n = vtL A j n + if j = c0 ∧ b0 < n then v - A 134 (10 * b0 + c0) else 0
  | 0 => by rw [if_neg (by omega)]; rfl
  | n + 1 => by
    have ih := vtL_set (b0 := b0) (v := v) hj h0 n
    show vtL (u2 A 134 (10 * b0 + c0) v) j n + u2 A 134 (10 * b0 + c0) v 134 (10 * n + j) = vtL A j n + A 134 (10 * n + j) + _
    rw [ih, v2_w]
    by_cases q : 10 * n + j = 10 * b0 + c0
    · rw [if_pos q, q, if_neg (by omega), if_pos (by omega)]; omega
    · rw [if_neg q]
      by_cases q2 : j = c0 ∧ b0 < n
      · rw [if_pos q2, if_pos (by omega)]; omega
      · rw [if_neg q2, if_neg (by omega)]; omega
theorem gvL_set {b0 c0 b : Nat} {v : Int} (h0 : c0 < 10) : ∀ n, n ≤ 10 → gvL (u2 A 134 (10 * b0 + c0) v) b n = gvL A b n + if b = b0 ∧ c0 < n then v - A 134 (10 * b0 + c0) else 0
  | 0, _ => by rw [if_neg (by omega)]; rfl
  | n + 1, hn => by
    have ih := gvL_set (b0 := b0) (b := b) (v := v) h0 n (by omega)
    show gvL (u2 A 134 (10 * b0 + c0) v) b n + u2 A 134 (10 * b0 + c0) v 134 (10 * b + n) = gvL A b n + A 134 (10 * b + n) + _
    rw [ih, v2_w]
    by_cases q : 10 * b + n = 10 * b0 + c0
    · rw [if_pos q, q, if_neg (by omega), if_pos (by omega)]; omega
    · rw [if_neg q]
      by_cases q2 : b = b0 ∧ c0 < n
      · rw [if_pos q2, if_pos (by omega)]; omega
      · rw [if_neg q2, if_neg (by omega)]; omega
theorem hs_gv {b e : Nat} : ∀ k : Nat, hsL A b e k + (if e < k then A 134 (10 * b + e) else 0) = gvL A b k
  | 0 => by rw [if_neg (by omega)]; rfl
  | k + 1 => by
    have ih := hs_gv (b := b) (e := e) k
    have e1 : hsL A b e (k + 1) = hsL A b e k + (if (k : Int) = (e : Int) then 0 else A 134 (10 * (b : Int) + k).toNat) := rfl
    have e2 : gvL A b (k + 1) = gvL A b k + A 134 (10 * b + k) := rfl
    rw [e1, e2, ← ih, show (10 * (b : Int) + k).toNat = 10 * b + k by omega]
    by_cases q : k = e
    · rw [if_pos (by omega), if_pos (by omega), if_neg (by omega), q]
    · rw [if_neg (by omega)]
      by_cases q2 : e < k
      · rw [if_pos q2, if_pos (by omega)]; omega
      · rw [if_neg q2, if_neg (by omega)]; omega
theorem gv_up (hV : WfV A) {b : Nat} (hb : b < 60) : ∀ n, (A 91 58).toNat + n ≤ 10 → gvL A b ((A 91 58).toNat + n) = gvL A b (A 91 58).toNat
  | 0, _ => rfl
  | n + 1, h => by
    have ih := gv_up hV hb n (by omega)
    show gvL A b ((A 91 58).toNat + n) + A 134 (10 * b + ((A 91 58).toNat + n)) = _
    rw [ih, hV.2.2.2.2.2.1 b _ hb (by omega) (Or.inr (by omega))]
    omega
theorem gvL_in (hV : WfV A) {b : Nat} (hb : b < 60) : ∀ n, n ≤ 10 → 0 ≤ gvL A b n ∧ gvL A b n ≤ 9 * n
  | 0, _ => by show (0 : Int) ≤ 0 ∧ (0 : Int) ≤ _; omega
  | n + 1, h => by
    have ih := gvL_in hV hb n (by omega)
    have := hV.2.2.2.2.1 (10 * b + n) (by omega)
    show 0 ≤ gvL A b n + A 134 (10 * b + n) ∧ gvL A b n + A 134 (10 * b + n) ≤ _
    omega
theorem heap_eq (hV : WfV A) {x1 x2 x3 : Int} (h1 : 0 ≤ x1 ∧ x1 < 60) (h2 : 0 ≤ x2 ∧ x2 ≤ A 91 58 - 1) : heapS A x1 x2 x3 = gvL A x1.toNat 10 + (x3 - A 134 (x1 * 10 + x2).toNat) := by
  have v1 := hV.2.1
  have g := gv_up hV (b := x1.toNat) (by omega) (10 - (A 91 58).toNat) (by omega)
  rw [show (A 91 58).toNat + (10 - (A 91 58).toNat) = 10 by omega] at g
  have h := hs_gv (A := A) (b := x1.toNat) (e := x2.toNat) (A 91 58).toNat
  rw [if_pos (by omega), show ((x1.toNat : Nat) : Int) = x1 by omega, show ((x2.toNat : Nat) : Int) = x2 by omega, ← g, show 10 * x1.toNat + x2.toNat = (x1 * 10 + x2).toNat by omega] at h
  unfold heapS
  omega
theorem Fr1.kp {B : Nat → Nat → Bool} {a : Nat} (hf : Fr [a] [] I I1) (hB : ∀ k, B a k = false) : KpB B I I1 := by
  intro b k hb
  refine hf b k ?_
  by_cases e : b = a
  · subst e; rw [hB k] at hb; cases hb
  · simp [e]
theorem KpB.trans {B : Nat → Nat → Bool} {I2 : mI} (h : KpB B I I1) (h2 : KpB B I1 I2) : KpB B I I2 := fun a k hb => (h2 a k hb).trans (h a k hb)
theorem RelC0.frm {a : Nat} (h : RelC0 I A) (hf : Fr [a] [] I I1) (hn : ∀ k, mr a k = none) : RelC0 I1 A := by
  intro b j
  have h9 := h b j
  split
  · rename_i q hq
    rw [hq] at h9
    have e : ¬ b = a := by
      rintro rfl
      rw [hn j] at hq
      cases hq
    have e2 : ld I1 b j = ld I b j := hf.ld (by simp [e])
    rw [e2]; exact h9
  · trivial
theorem relC_fill {a a' m : Nat} {v : Int} (h : RelC0 I A) (hf : Fr [a] [] I I1) (hm : ∀ k, mr a k = some (a', k)) (hin : ∀ j, j < m → ld I1 a j = v) (hout : ∀ j, m ≤ j → I1 a j = I a j) : RelC0 I1 (fl A a' 0 v m) := by
  intro b j
  have h9 := h b j
  split
  · rename_i q hq
    rw [hq] at h9
    dsimp only at h9 ⊢
    by_cases e : b = a
    · subst e
      rw [hm j] at hq
      cases hq
      dsimp only at h9 ⊢
      rw [fl_in]
      by_cases c : j < m
      · rw [if_pos (by omega)]; exact hin j c
      · rw [if_neg (by omega), ← h9]
        unfold ld
        rw [hout j (by omega)]
    · have e2 : ld I1 b j = ld I b j := hf.ld (by simp [e])
      rw [e2, h9]
      refine (fl_o ?_ m).symm
      intro e3
      have hq2 : mr b j = some (a', q.2) := by rw [hq, ← e3]
      exact e (mr_inj (hm q.2) hq2).1
  · trivial
theorem l350b {v : Int} (hv : inR v) (hK : ∀ I1, Fr [89] [] I0 I1 → (∀ j : Nat, j < 600 → ld I1 89 j = v) → (∀ j, 600 ≤ j → I1 89 j = I0 89 j) → Q none (bd L I1 R S)) : ∀ (f k : Nat) (I : mI), k + f = 600 → Fr [89] [] I0 I → (∀ j : Nat, j < k → ld I 89 j = v) → (∀ j, 600 ≤ j → I 89 j = I0 89 j) → h350_1a89 d L I R S Q v k 600 := by
  intro f
  induction f with
  | zero =>
    intro k I hk hf hj ho
    exact e350_1a89 ⟨by unfold inR; omega, inRd rfl, fun c => absurd c (by omega), fun _ => hK I hf (fun j h => hj j (by omega)) ho⟩
  | succ f ih =>
    intro k I hk hf hj ho
    refine e350_1a89 ⟨by unfold inR; omega, inRd rfl, fun _ => ⟨by omega, ?_⟩, fun c => absurd (by omega) c⟩
    rw [Int.toNat_natCast]
    refine ih (k + 1) _ (by omega) (hf.wr rfl) (fun j hj2 => ?_) (fun j hj2 => ?_)
    · rw [ld_w hv]
      split
      · rfl
      · exact hj j (by omega)
    · exact (if_neg (by omega)).trans (ho j hj2)
theorem k350b {v : Int} {K : mM → Prop} (hv : inR v) (hK : ∀ I1, Fr [89] [] I I1 → (∀ j : Nat, j < 600 → ld I1 89 j = v) → (∀ j, 600 ≤ j → I1 89 j = I 89 j) → K (bd L I1 R S)) : CallV d 350 [.ref 89, .int (oI v)] (bd L I R S) K :=
  e350a89 (l350b hv (fun I1 h1 h2 h3 => rqV_of (hK I1 h1 h2 h3)) 600 0 I (by omega) (Fr.refl _ _ _) (fun j hj => by omega) (fun _ _ => rfl))
theorem vtL_0 {j : Nat} (hj : j < 10) (h : ∀ i, i < 600 → A 134 i = 0) : ∀ n, n ≤ 60 → vtL A j n = 0
  | 0, _ => rfl
  | n + 1, hn => by
    show vtL A j n + A 134 (10 * n + j) = 0
    rw [vtL_0 hj h n (by omega), h _ (by omega)]; rfl
theorem gvL_0 {b : Nat} (hb : b < 60) (h : ∀ i, i < 600 → A 134 i = 0) : ∀ n, n ≤ 10 → gvL A b n = 0
  | 0, _ => rfl
  | n + 1, hn => by
    show gvL A b n + A 134 (10 * b + n) = 0
    rw [gvL_0 hb h n (by omega), h _ (by omega)]; rfl
end
set_option maxRecDepth 4000 in
theorem e55 {d L : Nat} {I : Nat → Nat → Int32} {R : Nat → Nat → Option Nat} {S : List (Nat × Nat)} {K : Int32 → mM → Prop} {A : aS} (hC : RC R S I A) {x1 : Int} {x2 : Int} {x3 : Int} (hE : inR x1 ∧ (inR (A 91 59 - 1) ∧ (((0 ≤ x1 ∧ x1 ≤ A 91 59 - 1) → inR x2 ∧ (inR (A 91 58 - 1) ∧ (((0 ≤ x2 ∧ x2 ≤ A 91 58 - 1) → inR x3 ∧ (((0 ≤ x3 ∧ x3 ≤ 9) → (0 ≤ (x1 * 10) + x2 ∧ (x1 * 10) + x2 < 600) ∧ ((0 ≤ x1 ∧ x1 < 60) ∧ (inR (ld I 90 x1.toNat + (x3 - (A 134 ((x1 * 10) + x2).toNat))) ∧ (((A 91 57 < ld I 90 x1.toNat + (x3 - (A 134 ((x1 * 10) + x2).toNat))) → K (oI (-1)) (bd L I R S)) ∧ (¬ (A 91 57 < ld I 90 x1.toNat + (x3 - (A 134 ((x1 * 10) + x2).toNat))) → (0 ≤ x2 ∧ x2 < 10) ∧ (K (oI (A 91 57 - (ld I 90 x1.toNat + (x3 - (A 134 ((x1 * 10) + x2).toNat))))) (bd L (u2 (u2 (u2 I 89 ((x1 * 10) + x2).toNat (oI x3)) 90 x1.toNat (oI (ld I 90 x1.toNat + (x3 - (A 134 ((x1 * 10) + x2).toNat))))) 87 x2.toNat (oI (ld I 87 x2.toNat + (x3 - (A 134 ((x1 * 10) + x2).toNat))))) R S))))))) ∧ (¬ (0 ≤ x3 ∧ x3 ≤ 9) → K (oI (-1)) (bd L I R S)))) ∧ (¬ (0 ≤ x2 ∧ x2 ≤ A 91 58 - 1) → K (oI (-1)) (bd L I R S))))) ∧ (¬ (0 ≤ x1 ∧ x1 ≤ A 91 59 - 1) → K (oI (-1)) (bd L I R S))))) : CallI (d + 1) 55 [.ref 8, .int (oI x1), .int (oI x2), .int (oI x3)] (bd L I R S) K := by
  refine cI_of (ls := [.ref 8, .int (oI x1), .int (oI x2), .int (oI x3), mUn]) rfl ?_
  refine xG gb55.1 ?_
  refine s4 (x := x1) rfl ?_
  refine s0 ?_
  refine s6 (p := 8) rfl ?_
  refine s51 sh8 (by decide) (by decide) rf8_7 ?_
  refine s50 (v := A 91 59) sh85 (by decide) (by decide) (rdC hC.1 rfl) ?_
  refine s0 ?_
  refine s17 ?_
  obtain ⟨g1, hE⟩ := hE
  obtain ⟨g2, hE⟩ := hE
  refine sI rc3 rfl (Nat.le_of_ble_eq_true rfl) ?_
  refine k3 g1 (inRd rfl) g2 (fun c3 => ?_) (fun c3 => ?_)
  · replace hE := hE.1 c3
    refine s67 (inRd rfl) (fun c4 => absurd c4 (by decide)) (fun _ => ?_)
    refine s4 (x := x2) rfl ?_
    refine s0 ?_
    refine s6 (p := 8) rfl ?_
    refine s51 sh8 (by decide) (by decide) rf8_7 ?_
    refine s50 (v := A 91 58) sh85 (by decide) (by decide) (rdC hC.1 rfl) ?_
    refine s0 ?_
    refine s17 ?_
    obtain ⟨g5, hE⟩ := hE
    obtain ⟨g6, hE⟩ := hE
    refine sI rc3 rfl (Nat.le_of_ble_eq_true rfl) ?_
    refine k3 g5 (inRd rfl) g6 (fun c7 => ?_) (fun c7 => ?_)
    · replace hE := hE.1 c7
      refine s67 (inRd rfl) (fun c8 => absurd c8 (by decide)) (fun _ => ?_)
      refine s4 (x := x3) rfl ?_
      refine s0 ?_
      refine s0 ?_
      obtain ⟨g9, hE⟩ := hE
      refine sI rc3 rfl (Nat.le_of_ble_eq_true rfl) ?_
      refine k3 g9 (inRd rfl) (inRd rfl) (fun c10 => ?_) (fun c10 => ?_)
      · replace hE := hE.1 c10
        refine s67 (inRd rfl) (fun c11 => absurd c11 (by decide)) (fun _ => ?_)
        refine s0 ?_
        refine s60 ?_
        refine xG gb55.2.2.1 ?_
        refine s7 (ls' := [.ref 8, .int (oI x1), .int (oI x2), .int (oI x3), .int (oI 1)]) (Nat.le_of_ble_eq_true rfl) rfl ?_
        refine s4 (x := 1) rfl ?_
        refine s67 (inRd rfl) (fun c12 => absurd c12 (by decide)) (fun _ => ?_)
        refine s6 (p := 8) rfl ?_
        refine s51 sh8 (by decide) (by decide) rf8_7 ?_
        refine s4 (x := x1) rfl ?_
        refine s4 (x := x2) rfl ?_
        refine s4 (x := x3) rfl ?_
        refine sI rc184 rfl (Nat.le_of_ble_eq_true rfl) ?_
        refine cI_of (ls := [.ref 85, .int (oI x1), .int (oI x2), .int (oI x3), mUn, mUn]) rfl ?_
        refine xG gb184.1 ?_
        refine s4 (x := x1) rfl ?_
        refine s0 ?_
        refine s18 ?_
        refine s4 (x := x2) rfl ?_
        refine s16 ?_
        refine s7 (ls' := [.ref 85, .int (oI x1), .int (oI x2), .int (oI x3), .int (oI ((x1 * 10) + x2)), mUn]) (Nat.le_of_ble_eq_true rfl) rfl ?_
        refine s4 (x := x3) rfl ?_
        refine s6 (p := 85) rfl ?_
        refine s51 sh85 (by decide) (by decide) rf85_6 ?_
        refine s4 (x := (x1 * 10) + x2) rfl ?_
        obtain ⟨g13, hE⟩ := hE
        refine s40 (v := A 134 ((x1 * 10) + x2).toNat) sh89 g13 rfl (rdC hC.1 rfl) ?_
        refine s17 ?_
        refine s7 (ls' := [.ref 85, .int (oI x1), .int (oI x2), .int (oI x3), .int (oI ((x1 * 10) + x2)), .int (oI (x3 - (A 134 ((x1 * 10) + x2).toNat)))]) (Nat.le_of_ble_eq_true rfl) rfl ?_
        refine s6 (p := 85) rfl ?_
        refine s51 sh85 (by decide) (by decide) rf85_7 ?_
        refine s4 (x := x1) rfl ?_
        obtain ⟨g14, hE⟩ := hE
        refine s40 (v := ld I 90 x1.toNat) sh90 g14 rfl (oI_ld _ _ _) ?_
        refine s4 (x := x3 - (A 134 ((x1 * 10) + x2).toNat)) rfl ?_
        refine s16 ?_
        refine s6 (p := 85) rfl ?_
        refine s50 (v := A 91 57) sh85 (by decide) (by decide) (rdC hC.1 rfl) ?_
        obtain ⟨g15, hE⟩ := hE
        refine s66 g15 (inC hC.1 (a := 85) (k := 0) rfl) (fun c16 => ?_) (fun c16 => ?_)
        · replace hE := hE.1 c16
          refine s0 ?_
          refine s80 ?_
          refine rqI_of ?_
          refine s60 ?_
          refine xG gb55.2.2.2.2 ?_
          refine s80 ?_
          exact rqI_of hE
        · replace hE := hE.2 c16
          refine xG gb184.2 ?_
          refine s6 (p := 85) rfl ?_
          refine s51 sh85 (by decide) (by decide) rf85_6 ?_
          refine s4 (x := (x1 * 10) + x2) rfl ?_
          refine s4 (x := x3) rfl ?_
          refine s44 sh89 (by decide) g13 rfl ?_
          refine s6 (p := 85) rfl ?_
          refine s51 sh85 (by decide) (by decide) rf85_7 ?_
          refine s4 (x := x1) rfl ?_
          refine s14 ?_
          refine s40 (v := ld I 90 x1.toNat) sh90 g14 rfl ((v2_ne (by decide)).trans (oI_ld _ _ _)) ?_
          refine s4 (x := x3 - (A 134 ((x1 * 10) + x2).toNat)) rfl ?_
          refine s16 ?_
          refine s44 sh90 (by decide) g14 rfl ?_
          refine s6 (p := 85) rfl ?_
          refine s51 sh85 (by decide) (by decide) rf85_4 ?_
          refine s4 (x := x2) rfl ?_
          refine s14 ?_
          obtain ⟨g17, hE⟩ := hE
          refine s40 (v := ld I 87 x2.toNat) sh87 g17 rfl ((v2_ne (by decide)).trans ((v2_ne (by decide)).trans (oI_ld _ _ _))) ?_
          refine s4 (x := x3 - (A 134 ((x1 * 10) + x2).toNat)) rfl ?_
          refine s16 ?_
          refine s44 sh87 (by decide) g17 rfl ?_
          refine s6 (p := 85) rfl ?_
          refine s50 (v := A 91 57) sh85 (by decide) (by decide) ((v2_ne (by decide)).trans ((v2_ne (by decide)).trans ((v2_ne (by decide)).trans (rdC hC.1 rfl)))) ?_
          refine s6 (p := 85) rfl ?_
          refine s51 sh85 (by decide) (by decide) rf85_7 ?_
          refine s4 (x := x1) rfl ?_
          refine s40 (v := ld I 90 x1.toNat + (x3 - (A 134 ((x1 * 10) + x2).toNat))) sh90 g14 rfl ((v2_ne (by decide)).trans (v2_eq)) ?_
          refine s17 ?_
          refine s80 ?_
          refine rqI_of ?_
          refine s60 ?_
          refine xG gb55.2.2.2.2 ?_
          refine s80 ?_
          exact rqI_of hE
      · replace hE := hE.2 c10
        refine s67 (inRd rfl) (fun _ => ?_) (fun c18 => absurd (by decide) c18)
        refine xG gb55.2.1 ?_
        refine s0 ?_
        refine s79 ?_
        refine xG gb55.2.2.1 ?_
        refine s7 (ls' := [.ref 8, .int (oI x1), .int (oI x2), .int (oI x3), .int (oI 0)]) (Nat.le_of_ble_eq_true rfl) rfl ?_
        refine s4 (x := 0) rfl ?_
        refine s67 (inRd rfl) (fun _ => ?_) (fun c19 => absurd (by decide) c19)
        refine xG gb55.2.2.2.1 ?_
        refine s0 ?_
        refine s79 ?_
        refine xG gb55.2.2.2.2 ?_
        refine s80 ?_
        exact rqI_of hE
    · replace hE := hE.2 c7
      refine s67 (inRd rfl) (fun _ => ?_) (fun c20 => absurd (by decide) c20)
      refine xG gb55.2.1 ?_
      refine s0 ?_
      refine s79 ?_
      refine xG gb55.2.2.1 ?_
      refine s7 (ls' := [.ref 8, .int (oI x1), .int (oI x2), .int (oI x3), .int (oI 0)]) (Nat.le_of_ble_eq_true rfl) rfl ?_
      refine s4 (x := 0) rfl ?_
      refine s67 (inRd rfl) (fun _ => ?_) (fun c21 => absurd (by decide) c21)
      refine xG gb55.2.2.2.1 ?_
      refine s0 ?_
      refine s79 ?_
      refine xG gb55.2.2.2.2 ?_
      refine s80 ?_
      exact rqI_of hE
  · replace hE := hE.2 c3
    refine s67 (inRd rfl) (fun _ => ?_) (fun c22 => absurd (by decide) c22)
    refine xG gb55.2.1 ?_
    refine s0 ?_
    refine s79 ?_
    refine xG gb55.2.2.1 ?_
    refine s7 (ls' := [.ref 8, .int (oI x1), .int (oI x2), .int (oI x3), .int (oI 0)]) (Nat.le_of_ble_eq_true rfl) rfl ?_
    refine s4 (x := 0) rfl ?_
    refine s67 (inRd rfl) (fun _ => ?_) (fun c23 => absurd (by decide) c23)
    refine xG gb55.2.2.2.1 ?_
    refine s0 ?_
    refine s79 ?_
    refine xG gb55.2.2.2.2 ?_
    refine s80 ?_
    exact rqI_of hE
set_option maxRecDepth 4000 in
theorem q55 {d L n : Nat} {I : mI} {R : mR} {S : mSh} {A : aS} {K : Int32 → mM → Prop} {x1 : Int} {x2 : Int} {x3 : Int} (hX : CX R S I A n) (hW : WF A) (hn : n ≤ 100000) (rx1 : inR x1) (rx2 : inR x2) (rx3 : inR x3) (hK : ∀ I1, FK I I1 → CX R S I1 (o289 A x1 x2 x3).2 (n + 1) → K (oI (o289 A x1 x2 x3).1) (bd L I1 R S)) : CallI (d + 1) 55 [.ref 8, .int (oI x1), .int (oI x2), .int (oI x3)] (bd L I R S) K := by
  have hC := hX.1
  have hA := hW.1
  have w0 := hA.1
  have w1 := hA.2.1
  have w2 := hA.2.2.1
  have w3 : 0 ≤ A 91 3 ∧ A 91 3 ≤ 850 := hA.2.2.2.1
  have ty := today_year hA
  have c9 := hX.2.2.2.1
  have hV := hW.2.2.2.1
  have v0 := hV.1
  have v1 := hV.2.1
  have v2 := hV.2.2.1
  have gb : 0 ≤ x1 ∧ x1 ≤ A 91 59 - 1 → ld I 90 x1.toNat = gvL A x1.toNat 10 := fun h => hC.2.2.2.2.1.2 _ (by omega)
  have hh : 0 ≤ x1 ∧ x1 ≤ A 91 59 - 1 → 0 ≤ x2 ∧ x2 ≤ A 91 58 - 1 → heapS A x1 x2 x3 = ld I 90 x1.toNat + (x3 - A 134 (x1 * 10 + x2).toNat) := fun h h2 => by rw [gb h]; exact heap_eq hV (by omega) h2
  have gg : 0 ≤ x1 ∧ x1 ≤ A 91 59 - 1 → 0 ≤ gvL A x1.toNat 10 ∧ gvL A x1.toNat 10 ≤ 90 := fun h => gvL_in hV (by omega) 10 (by omega)
  have gr : 0 ≤ x1 ∧ x1 ≤ A 91 59 - 1 → 0 ≤ x2 ∧ x2 ≤ A 91 58 - 1 → 0 ≤ A 134 (x1 * 10 + x2).toNat ∧ A 134 (x1 * 10 + x2).toNat ≤ 9 := fun h h2 => hV.2.2.2.2.1 _ (by omega)
  refine e55 (d := d) hC ?_
  refine ⟨by first | assumption | exact inRd rfl | omega | exact ⟨by omega, by omega⟩ | (unfold WnOk; omega) | exact hW.1 | exact hW.2.1 | exact hW.2.2.1 | exact hW.2.2.2.1 | exact hW.2.2.2.2.1 | exact hW.2.2.2.2.2.2.2.2.2.1 | exact hW.2.2.2.2.2.2.2.2.2.2.1 | (constructor <;> omega), ?_⟩
  refine ⟨by first | assumption | exact inRd rfl | omega | exact ⟨by omega, by omega⟩ | (unfold WnOk; omega) | exact hW.1 | exact hW.2.1 | exact hW.2.2.1 | exact hW.2.2.2.1 | exact hW.2.2.2.2.1 | exact hW.2.2.2.2.2.2.2.2.2.1 | exact hW.2.2.2.2.2.2.2.2.2.2.1 | (constructor <;> omega), ?_⟩
  refine ⟨fun c1 => ?_, fun c1 => ?_⟩
  · refine ⟨by first | assumption | exact inRd rfl | omega | exact ⟨by omega, by omega⟩ | (unfold WnOk; omega) | exact hW.1 | exact hW.2.1 | exact hW.2.2.1 | exact hW.2.2.2.1 | exact hW.2.2.2.2.1 | exact hW.2.2.2.2.2.2.2.2.2.1 | exact hW.2.2.2.2.2.2.2.2.2.2.1 | (constructor <;> omega), ?_⟩
    refine ⟨by first | assumption | exact inRd rfl | omega | exact ⟨by omega, by omega⟩ | (unfold WnOk; omega) | exact hW.1 | exact hW.2.1 | exact hW.2.2.1 | exact hW.2.2.2.1 | exact hW.2.2.2.2.1 | exact hW.2.2.2.2.2.2.2.2.2.1 | exact hW.2.2.2.2.2.2.2.2.2.2.1 | (constructor <;> omega), ?_⟩
    refine ⟨fun c2 => ?_, fun c2 => ?_⟩
    · refine ⟨by first | assumption | exact inRd rfl | omega | exact ⟨by omega, by omega⟩ | (unfold WnOk; omega) | exact hW.1 | exact hW.2.1 | exact hW.2.2.1 | exact hW.2.2.2.1 | exact hW.2.2.2.2.1 | exact hW.2.2.2.2.2.2.2.2.2.1 | exact hW.2.2.2.2.2.2.2.2.2.2.1 | (constructor <;> omega), ?_⟩
      refine ⟨fun c3 => ?_, fun c3 => ?_⟩
      · refine ⟨by first | assumption | exact inRd rfl | omega | exact ⟨by omega, by omega⟩ | (unfold WnOk; omega) | exact hW.1 | exact hW.2.1 | exact hW.2.2.1 | exact hW.2.2.2.1 | exact hW.2.2.2.2.1 | exact hW.2.2.2.2.2.2.2.2.2.1 | exact hW.2.2.2.2.2.2.2.2.2.2.1 | (constructor <;> omega), ?_⟩
        refine ⟨by first | assumption | exact inRd rfl | omega | exact ⟨by omega, by omega⟩ | (unfold WnOk; omega) | exact hW.1 | exact hW.2.1 | exact hW.2.2.1 | exact hW.2.2.2.1 | exact hW.2.2.2.2.1 | exact hW.2.2.2.2.2.2.2.2.2.1 | exact hW.2.2.2.2.2.2.2.2.2.2.1 | (constructor <;> omega), ?_⟩
        refine ⟨by first | assumption | exact inRd rfl | omega | exact ⟨by omega, by omega⟩ | (unfold WnOk; omega) | exact hW.1 | exact hW.2.1 | exact hW.2.2.1 | exact hW.2.2.2.1 | exact hW.2.2.2.2.1 | exact hW.2.2.2.2.2.2.2.2.2.1 | exact hW.2.2.2.2.2.2.2.2.2.2.1 | (constructor <;> omega), ?_⟩
        refine ⟨fun c4 => ?_, fun c4 => ?_⟩
        · have ho : o289 A x1 x2 x3 = ((-1), A) := by
            unfold o289
            repeat' split
            all_goals first | (exfalso; omega) | with_reducible rfl
          rw [ho] at hK
          exact hK I (FK.refl I) (hX.up (Nat.le_succ n))
        · refine ⟨by first | assumption | exact inRd rfl | omega | exact ⟨by omega, by omega⟩ | (unfold WnOk; omega) | exact hW.1 | exact hW.2.1 | exact hW.2.2.1 | exact hW.2.2.2.1 | exact hW.2.2.2.2.1 | exact hW.2.2.2.2.2.2.2.2.2.1 | exact hW.2.2.2.2.2.2.2.2.2.2.1 | (constructor <;> omega), ?_⟩
          have he := hh (by omega) (by omega)
          have r134 := hV.2.2.2.2.1 (x1 * 10 + x2).toNat (by omega)
          have g9 := gb (by omega)
          have gi := gvL_in hV (b := x1.toNat) (by omega) 10 (by omega)
          have s8 := hC.2.2.2.2.1.1 x2.toNat (by omega)
          have s9 := vtL_in hV (c := x2.toNat) (by omega) 60 (by omega)
          have ho : o289 A x1 x2 x3 = ((A 91 57 - (ld I 90 x1.toNat + (x3 - (A 134 ((x1 * 10) + x2).toNat)))), (u2 A 134 (10 * x1 + x2).toNat x3)) := by
            unfold o289
            rw [if_pos (by omega), if_pos (by omega), if_pos (by omega), if_pos (by omega)]
            exact Prod.ext (by dsimp only; omega) rfl
          rw [ho] at hK
          have ix : (10 * x1 + x2).toNat = (x1 * 10 + x2).toNat := by omega
          have iy : (x1 * 10 + x2).toNat = 10 * x1.toNat + x2.toNat := by omega
          have h0 : RelC0 (u2 (u2 (u2 I 89 ((x1 * 10) + x2).toNat (oI x3)) 90 x1.toNat (oI (ld I 90 x1.toNat + (x3 - (A 134 ((x1 * 10) + x2).toNat))))) 87 x2.toNat (oI (ld I 87 x2.toNat + (x3 - (A 134 ((x1 * 10) + x2).toNat))))) (u2 A 134 (10 * x1 + x2).toNat x3) := by
            rw [ix]
            exact RelC0.scr (RelC0.scr (RelC0.set hC.1 (a := 89) (k := (x1 * 10 + x2).toNat) (v := x3) rfl rx3) (a := 90) (k := x1.toNat) rfl) (a := 87) (k := x2.toNat) rfl
          have ko : ∀ ks rs, (∀ k, dp ks rs 134 k = false) → Ko ks rs A (u2 A 134 (10 * x1 + x2).toNat x3) := fun ks rs h1 => Ko.set (Ko.refl _ _ _) (h1 _)
          have q1 : inR (ld I 90 x1.toNat + (x3 - A 134 (x1 * 10 + x2).toNat)) := ⟨by omega, by omega⟩
          have q2 : inR (ld I 87 x2.toNat + (x3 - A 134 (x1 * 10 + x2).toNat)) := ⟨by omega, by omega⟩
          have hp : PoC (u2 (u2 (u2 I 89 ((x1 * 10) + x2).toNat (oI x3)) 90 x1.toNat (oI (ld I 90 x1.toNat + (x3 - (A 134 ((x1 * 10) + x2).toNat))))) 87 x2.toNat (oI (ld I 87 x2.toNat + (x3 - (A 134 ((x1 * 10) + x2).toNat))))) (u2 A 134 (10 * x1 + x2).toNat x3) := by
            rw [ix]
            constructor
            · intro k hk
              rw [ld_w q2, ld_o (by decide), ld_o (by decide), iy, vtL_set hk (by omega), ← hC.2.2.2.2.1.1 k hk]
              by_cases q : k = x2.toNat
              · rw [if_pos q, if_pos (by omega), q]
              · rw [if_neg q, if_neg (by omega), Int.add_zero]
            · intro b hb
              rw [ld_o (by decide), ld_w q1, ld_o (by decide), iy, gvL_set (by omega) 10 (by omega), ← hC.2.2.2.2.1.2 b hb]
              by_cases q : b = x1.toNat
              · rw [if_pos q, if_pos (by omega), q]
              · rw [if_neg q, if_neg (by omega), Int.add_zero]
          have hr := hC.all h0 (KpB.wr (KpB.wr (KpB.wr (KpB.refl I) rfl) rfl) rfl) (ko _ _ (fun _ => rfl)) ((hC.2.2.1.kp (KpB.wr (KpB.wr (KpB.wr (KpB.refl I) rfl) rfl) rfl)).ko (ko _ _ (fun _ => rfl))) ((hC.2.2.2.1.kp (KpB.wr (KpB.wr (KpB.wr (KpB.refl I) rfl) rfl) rfl)).ko (ko _ _ (fun _ => rfl))) hp (KpB.wr (KpB.wr (KpB.wr (KpB.refl I) rfl) rfl) rfl)
          exact hK _ (FK.wr (FK.wr (FK.wr (FK.refl I) (by decide)) (by decide)) (by decide)) (CX.up (hX.ko (ko _ _ (fun _ => rfl)) hr (MmK.wr (MmK.wr (MmK.wr (MmK.refl I) rfl) rfl) rfl) rfl) (Nat.le_succ n))
      · have ho : o289 A x1 x2 x3 = ((-1), A) := by
          unfold o289
          repeat' split
          all_goals first | (exfalso; omega) | with_reducible rfl
        rw [ho] at hK
        exact hK I (FK.refl I) (hX.up (Nat.le_succ n))
    · have ho : o289 A x1 x2 x3 = ((-1), A) := by
        unfold o289
        repeat' split
        all_goals first | (exfalso; omega) | with_reducible rfl
      rw [ho] at hK
      exact hK I (FK.refl I) (hX.up (Nat.le_succ n))
  · have ho : o289 A x1 x2 x3 = ((-1), A) := by
      unfold o289
      repeat' split
      all_goals first | (exfalso; omega) | with_reducible rfl
    rw [ho] at hK
    exact hK I (FK.refl I) (hX.up (Nat.le_succ n))
