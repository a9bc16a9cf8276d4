set_option maxRecDepth 4000 in
theorem e56 {d L : Nat} {I : Nat → Nat → Int32} {R : Nat → Nat → Option Nat} {S : List (Nat × Nat)} {K : Int32 → mM → Prop} {A : aS} (hC : RC R S I A) {x1 : Int} {x2 : Int} (hE : inR x1 ∧ (inR (A 91 58 - 1) ∧ (((0 ≤ x1 ∧ x1 ≤ A 91 58 - 1) → inR x2 ∧ ((x2 = 0 → (0 ≤ x1 ∧ x1 < 10) ∧ (K (oI (A 133 x1.toNat)) (bd L I R S))) ∧ (x2 = 1 → (0 ≤ x1 ∧ x1 < 10) ∧ (K (oI (ld I 87 x1.toNat)) (bd L I R S))) ∧ (x2 = 2 → WfV A ∧ ((0 ≤ x1 ∧ x1 < 10) ∧ (inR (ahL (ld I 87) x1.toNat (A 91 58).toNat) ∧ (((ahL (ld I 87) x1.toNat (A 91 58).toNat < A 91 57) → K (oI (ahL (ld I 87) x1.toNat (A 91 58).toNat)) (bd L I R S)) ∧ (¬ (ahL (ld I 87) x1.toNat (A 91 58).toNat < A 91 57) → K (oI (-1)) (bd L I R S)))))) ∧ (¬ x2 = 0 ∧ ¬ x2 = 1 ∧ ¬ x2 = 2 → K (oI (-1)) (bd L I R S)))) ∧ (¬ (0 ≤ x1 ∧ x1 ≤ A 91 58 - 1) → K (oI (-1)) (bd L I R S))))) : CallI (d + 2) 56 [.ref 8, .int (oI x1), .int (oI x2)] (bd L I R S) K := by
  refine cI_of (ls := [.ref 8, .int (oI x1), .int (oI x2)]) rfl ?_
  refine xG gb56.1 ?_
  refine s4 (x := x1) rfl ?_
  refine s0 ?_
  refine s6 (p := 8) rfl ?_
  refine s51 sh8 (by decide) (by decide) rf8_7 ?_
  refine s50 (v := A 91 58) sh85 (by decide) (by decide) (rdC hC.1 rfl) ?_
  refine s0 ?_
  refine s17 ?_
  obtain ⟨g1, hE⟩ := hE
  obtain ⟨g2, hE⟩ := hE
  refine sI rc3 rfl (Nat.le_of_ble_eq_true rfl) ?_
  refine k3 g1 (inRd rfl) g2 (fun c3 => ?_) (fun c3 => ?_)
  · replace hE := hE.1 c3
    refine s68 (inRd rfl) (fun c4 => absurd c4 (by decide)) (fun _ => ?_)
    refine xG gb56.2 ?_
    refine s6 (p := 8) rfl ?_
    refine s51 sh8 (by decide) (by decide) rf8_7 ?_
    refine s4 (x := x1) rfl ?_
    refine s4 (x := x2) rfl ?_
    refine sI rc185 rfl (Nat.le_of_ble_eq_true rfl) ?_
    refine cI_of (ls := [.ref 85, .int (oI x1), .int (oI x2), mUn]) rfl ?_
    refine xG gb185.1 ?_
    refine s4 (x := x2) rfl ?_
    obtain ⟨g5, hE⟩ := hE
    refine s76 g5 ?_
    by_cases c6 : x2 = 0
    · replace hE := hE.1 c6
      rw [show mSel ((jSW.getD 185 []).getD 0 []) (x2 - 0) = 1 by rw [c6]; rfl]
      refine xG gb185.2.1 ?_
      refine s6 (p := 85) rfl ?_
      refine s51 sh85 (by decide) (by decide) rf85_3 ?_
      refine s4 (x := x1) rfl ?_
      obtain ⟨g7, hE⟩ := hE
      refine s40 (v := A 133 x1.toNat) sh86 g7 rfl (rdC hC.1 rfl) ?_
      refine s80 ?_
      refine rqI_of ?_
      refine s80 ?_
      exact rqI_of hE
    replace hE := hE.2
    by_cases c8 : x2 = 1
    · replace hE := hE.1 c8
      rw [show mSel ((jSW.getD 185 []).getD 0 []) (x2 - 0) = 2 by rw [c8]; rfl]
      refine xG gb185.2.2.1 ?_
      refine s6 (p := 85) rfl ?_
      refine s51 sh85 (by decide) (by decide) rf85_4 ?_
      refine s4 (x := x1) rfl ?_
      obtain ⟨g9, hE⟩ := hE
      refine s40 (v := ld I 87 x1.toNat) sh87 g9 rfl (oI_ld _ _ _) ?_
      refine s80 ?_
      refine rqI_of ?_
      refine s80 ?_
      exact rqI_of hE
    replace hE := hE.2
    by_cases c10 : x2 = 2
    · replace hE := hE.1 c10
      rw [show mSel ((jSW.getD 185 []).getD 0 []) (x2 - 0) = 3 by rw [c10]; rfl]
      refine xG gb185.2.2.2.1 ?_
      refine s6 (p := 85) rfl ?_
      refine s4 (x := x1) rfl ?_
      refine s6 (p := 85) rfl ?_
      refine s51 sh85 (by decide) (by decide) rf85_4 ?_
      obtain ⟨g11, hE⟩ := hE
      obtain ⟨g12, hE⟩ := hE
      refine sI rc186 rfl (Nat.le_of_ble_eq_true rfl) ?_
      refine k186a87 hC g11 g12 ?_
      refine s7 (ls' := [.ref 85, .int (oI x1), .int (oI x2), .int (oI (ahL (ld I 87) x1.toNat (A 91 58).toNat))]) (Nat.le_of_ble_eq_true rfl) rfl ?_
      refine s4 (x := ahL (ld I 87) x1.toNat (A 91 58).toNat) rfl ?_
      refine s6 (p := 85) rfl ?_
      refine s50 (v := A 91 57) sh85 (by decide) (by decide) (rdC hC.1 rfl) ?_
      obtain ⟨g13, hE⟩ := hE
      refine s64 g13 (inC hC.1 (a := 85) (k := 0) rfl) (fun c14 => ?_) (fun c14 => ?_)
      · replace hE := hE.1 c14
        refine s4 (x := ahL (ld I 87) x1.toNat (A 91 58).toNat) rfl ?_
        refine s60 ?_
        refine xG gb185.2.2.2.2.2.1 ?_
        refine s80 ?_
        refine rqI_of ?_
        refine s80 ?_
        exact rqI_of hE
      · replace hE := hE.2 c14
        refine xG gb185.2.2.2.2.1 ?_
        refine s0 ?_
        refine s79 ?_
        refine xG gb185.2.2.2.2.2.1 ?_
        refine s80 ?_
        refine rqI_of ?_
        refine s80 ?_
        exact rqI_of hE
    replace hE := hE.2
    replace hE := hE ⟨c6, c8, c10⟩
    rw [show mSel ((jSW.getD 185 []).getD 0 []) (x2 - 0) = 6 by exact mSel_def (lo := 0) (vs := [0, 1, 2]) rfl (by intro v hv; simp only [List.mem_cons, List.not_mem_nil, or_false] at hv; omega)]
    refine xG gb185.2.2.2.2.2.2 ?_
    refine s0 ?_
    refine s80 ?_
    refine rqI_of ?_
    refine s80 ?_
    exact rqI_of hE
  · replace hE := hE.2 c3
    refine s68 (inRd rfl) (fun _ => ?_) (fun c15 => absurd (by decide) c15)
    refine s0 ?_
    refine s80 ?_
    exact rqI_of hE
set_option maxRecDepth 4000 in
theorem q56 {d L n : Nat} {I : mI} {R : mR} {S : mSh} {A : aS} {K : Int32 → mM → Prop} {x1 : Int} {x2 : Int} (hX : CX R S I A n) (hW : WF A) (hn : n ≤ 100000) (rx1 : inR x1) (rx2 : inR x2) (hK : ∀ I1, FK I I1 → CX R S I1 A (n + 1) → K (oI (cofA A x1 x2)) (bd L I1 R S)) : CallI (d + 2) 56 [.ref 8, .int (oI x1), .int (oI x2)] (bd L I R S) K := by
  have hC := hX.1
  have hA := hW.1
  have w0 := hA.1
  have w1 := hA.2.1
  have w2 := hA.2.2.1
  have w3 : 0 ≤ A 91 3 ∧ A 91 3 ≤ 850 := hA.2.2.2.1
  have ty := today_year hA
  have c9 := hX.2.2.2.1
  have hV := hW.2.2.2.1
  have v0 := hV.1
  have v1 := hV.2.1
  have v2 := hV.2.2.1
  have sm : ∀ c : Nat, c < 10 → ld I 87 c = vtS A c := fun c hc => hC.sums hV hc
  have ah : 0 ≤ x1 ∧ x1 ≤ A 91 58 - 1 → ahL (ld I 87) x1.toNat (A 91 58).toNat = ahL (vtS A) x1.toNat (A 91 58).toNat := fun h => ahL_eq _ (fun j hj => sm j (by omega)) (sm _ (by omega))
  have s1 : 0 ≤ x1 ∧ x1 ≤ A 91 58 - 1 → ld I 87 x1.toNat = vtS A x1.toNat := fun h => sm _ (by omega)
  have ai := ahL_in (v := ld I 87) (c := x1.toNat) (A 91 58).toNat
  refine e56 (d := d) hC ?_
  refine ⟨by first | assumption | exact inRd rfl | omega | exact ⟨by omega, by omega⟩ | (unfold WnOk; omega) | exact hW.1 | exact hW.2.1 | exact hW.2.2.1 | exact hW.2.2.2.1 | exact hW.2.2.2.2.1 | exact hW.2.2.2.2.2.2.2.2.2.1 | exact hW.2.2.2.2.2.2.2.2.2.2.1 | (constructor <;> omega), ?_⟩
  refine ⟨by first | assumption | exact inRd rfl | omega | exact ⟨by omega, by omega⟩ | (unfold WnOk; omega) | exact hW.1 | exact hW.2.1 | exact hW.2.2.1 | exact hW.2.2.2.1 | exact hW.2.2.2.2.1 | exact hW.2.2.2.2.2.2.2.2.2.1 | exact hW.2.2.2.2.2.2.2.2.2.2.1 | (constructor <;> omega), ?_⟩
  refine ⟨fun c1 => ?_, fun c1 => ?_⟩
  · refine ⟨by first | assumption | exact inRd rfl | omega | exact ⟨by omega, by omega⟩ | (unfold WnOk; omega) | exact hW.1 | exact hW.2.1 | exact hW.2.2.1 | exact hW.2.2.2.1 | exact hW.2.2.2.2.1 | exact hW.2.2.2.2.2.2.2.2.2.1 | exact hW.2.2.2.2.2.2.2.2.2.2.1 | (constructor <;> omega), ?_⟩
    refine ⟨fun c2 => ?_, fun c2 => ?_, fun c2 => ?_, fun c2 => ?_⟩
    · refine ⟨by first | assumption | exact inRd rfl | omega | exact ⟨by omega, by omega⟩ | (unfold WnOk; omega) | exact hW.1 | exact hW.2.1 | exact hW.2.2.1 | exact hW.2.2.2.1 | exact hW.2.2.2.2.1 | exact hW.2.2.2.2.2.2.2.2.2.1 | exact hW.2.2.2.2.2.2.2.2.2.2.1 | (constructor <;> omega), ?_⟩
      have ho : cofA A x1 x2 = (A 133 x1.toNat) := by
        unfold cofA
        repeat' split
        all_goals first | (exfalso; omega) | with_reducible rfl | omega
      rw [ho] at hK
      exact hK I (FK.refl I) (hX.up (Nat.le_succ n))
    · refine ⟨by first | assumption | exact inRd rfl | omega | exact ⟨by omega, by omega⟩ | (unfold WnOk; omega) | exact hW.1 | exact hW.2.1 | exact hW.2.2.1 | exact hW.2.2.2.1 | exact hW.2.2.2.2.1 | exact hW.2.2.2.2.2.2.2.2.2.1 | exact hW.2.2.2.2.2.2.2.2.2.2.1 | (constructor <;> omega), ?_⟩
      have ho : cofA A x1 x2 = (ld I 87 x1.toNat) := by
        unfold cofA
        repeat' split
        all_goals first | (exfalso; omega) | with_reducible rfl | omega
      rw [ho] at hK
      exact hK I (FK.refl I) (hX.up (Nat.le_succ n))
    · refine ⟨by first | assumption | exact inRd rfl | omega | exact ⟨by omega, by omega⟩ | (unfold WnOk; omega) | exact hW.1 | exact hW.2.1 | exact hW.2.2.1 | exact hW.2.2.2.1 | exact hW.2.2.2.2.1 | exact hW.2.2.2.2.2.2.2.2.2.1 | exact hW.2.2.2.2.2.2.2.2.2.2.1 | (constructor <;> omega), ?_⟩
      refine ⟨by first | assumption | exact inRd rfl | omega | exact ⟨by omega, by omega⟩ | (unfold WnOk; omega) | exact hW.1 | exact hW.2.1 | exact hW.2.2.1 | exact hW.2.2.2.1 | exact hW.2.2.2.2.1 | exact hW.2.2.2.2.2.2.2.2.2.1 | exact hW.2.2.2.2.2.2.2.2.2.2.1 | (constructor <;> omega), ?_⟩
      refine ⟨by first | assumption | exact inRd rfl | omega | exact ⟨by omega, by omega⟩ | (unfold WnOk; omega) | exact hW.1 | exact hW.2.1 | exact hW.2.2.1 | exact hW.2.2.2.1 | exact hW.2.2.2.2.1 | exact hW.2.2.2.2.2.2.2.2.2.1 | exact hW.2.2.2.2.2.2.2.2.2.2.1 | (constructor <;> omega), ?_⟩
      refine ⟨fun c3 => ?_, fun c3 => ?_⟩
      · have ho : cofA A x1 x2 = (ahL (ld I 87) x1.toNat (A 91 58).toNat) := by
          unfold cofA
          repeat' split
          all_goals first | (exfalso; omega) | with_reducible rfl | omega
        rw [ho] at hK
        exact hK I (FK.refl I) (hX.up (Nat.le_succ n))
      · have ho : cofA A x1 x2 = (-1) := by
          unfold cofA
          repeat' split
          all_goals first | (exfalso; omega) | with_reducible rfl | omega
        rw [ho] at hK
        exact hK I (FK.refl I) (hX.up (Nat.le_succ n))
    · have ho : cofA A x1 x2 = (-1) := by
        unfold cofA
        repeat' split
        all_goals first | (exfalso; omega) | with_reducible rfl | omega
      rw [ho] at hK
      exact hK I (FK.refl I) (hX.up (Nat.le_succ n))
  · have ho : cofA A x1 x2 = (-1) := by
      unfold cofA
      repeat' split
      all_goals first | (exfalso; omega) | with_reducible rfl | omega
    rw [ho] at hK
    exact hK I (FK.refl I) (hX.up (Nat.le_succ n))
theorem pa_yes {A : aS} {h r : Int} (c : A 136 h.toNat < smS A) : paS A h r = Int.tdiv (A 136 h.toNat * r) 2 := if_pos c
theorem pa_no {A : aS} {h r : Int} (c : ¬ A 136 h.toNat < smS A) : paS A h r = A 136 h.toNat * r := if_neg c
theorem mul500 {a b : Int} (ha : 1 ≤ a ∧ a ≤ 500) (hb : -1 ≤ b ∧ b ≤ 480) : -500 ≤ a * b ∧ a * b ≤ 240000 := by
  have h1 := Int.mul_le_mul_of_nonneg_left hb.2 (show 0 ≤ a by omega)
  have h2 := Int.mul_le_mul_of_nonneg_left hb.1 (show 0 ≤ a by omega)
  omega
set_option maxRecDepth 4000 in
theorem e59 {d L : Nat} {I : Nat → Nat → Int32} {R : Nat → Nat → Option Nat} {S : List (Nat × Nat)} {K : Int32 → mM → Prop} {A : aS} (hC : RC R S I A) {x1 : Int} {x2 : Int} (hE : inR x2 ∧ (((0 ≤ x2 ∧ x2 ≤ 1) → inR x1 ∧ (((0 ≤ x1 ∧ x1 ≤ 9999999) → WfC A ∧ ((0 ≤ Int.tdiv (A 91 0) 100 ∧ Int.tdiv (A 91 0) 100 ≤ 7) ∧ (WfT A ∧ (tlS A zE (Int.tdiv (A 91 0) 100) 143 1 0 = smS A ∧ (inR (if 480 < rtS A x1 then -1 else rtS A x1) ∧ ((((if 480 < rtS A x1 then -1 else rtS A x1) = (-1)) → K (oI (if 480 < rtS A x1 then -1 else rtS A x1)) (bd L I R S)) ∧ (¬ ((if 480 < rtS A x1 then -1 else rtS A x1) = (-1)) → ((x2 = 0) → K (oI (if 480 < rtS A x1 then -1 else rtS A x1)) (bd L I R S)) ∧ (¬ (x2 = 0) → ((x2 = 1) → (0 ≤ (if 480 < rtS A x1 then -1 else rtS A x1) ∧ (if 480 < rtS A x1 then -1 else rtS A x1) ≤ 480) ∧ (K (oI (coS A (if 480 < rtS A x1 then -1 else rtS A x1))) (bd L I R S))) ∧ (¬ (x2 = 1) → (0 ≤ x2 - 10 ∧ x2 - 10 < 40) ∧ (inR (tlS A zE (Int.tdiv (A 91 0) 100) 143 1 0) ∧ (((A 136 (x2 - 10).toNat < tlS A zE (Int.tdiv (A 91 0) 100) 143 1 0) → inR ((A 136 (x2 - 10).toNat) * (if 480 < rtS A x1 then -1 else rtS A x1)) ∧ (K (oI (Int.tdiv ((A 136 (x2 - 10).toNat) * (if 480 < rtS A x1 then -1 else rtS A x1)) 2)) (bd L I R S))) ∧ (¬ (A 136 (x2 - 10).toNat < tlS A zE (Int.tdiv (A 91 0) 100) 143 1 0) → K (oI ((A 136 (x2 - 10).toNat) * (if 480 < rtS A x1 then -1 else rtS A x1))) (bd L I R S))))))))))))) ∧ (¬ (0 ≤ x1 ∧ x1 ≤ 9999999) → K (oI (-1)) (bd L I R S)))) ∧ (¬ (0 ≤ x2 ∧ x2 ≤ 1) → ((x2 < 10) → inR x1 ∧ (((0 ≤ x1 ∧ x1 ≤ 9999999) → K (oI (-1)) (bd L I R S)) ∧ (¬ (0 ≤ x1 ∧ x1 ≤ 9999999) → K (oI (-1)) (bd L I R S)))) ∧ (¬ (x2 < 10) → inR (x2 - 10) ∧ (inR (A 91 63 - 1) ∧ (((0 ≤ x2 - 10 ∧ x2 - 10 ≤ A 91 63 - 1) → inR x1 ∧ (((0 ≤ x1 ∧ x1 ≤ 9999999) → WfC A ∧ ((0 ≤ Int.tdiv (A 91 0) 100 ∧ Int.tdiv (A 91 0) 100 ≤ 7) ∧ (WfT A ∧ (tlS A zE (Int.tdiv (A 91 0) 100) 143 1 0 = smS A ∧ (inR (if 480 < rtS A x1 then -1 else rtS A x1) ∧ ((((if 480 < rtS A x1 then -1 else rtS A x1) = (-1)) → K (oI (if 480 < rtS A x1 then -1 else rtS A x1)) (bd L I R S)) ∧ (¬ ((if 480 < rtS A x1 then -1 else rtS A x1) = (-1)) → ((x2 = 0) → K (oI (if 480 < rtS A x1 then -1 else rtS A x1)) (bd L I R S)) ∧ (¬ (x2 = 0) → ((x2 = 1) → (0 ≤ (if 480 < rtS A x1 then -1 else rtS A x1) ∧ (if 480 < rtS A x1 then -1 else rtS A x1) ≤ 480) ∧ (K (oI (coS A (if 480 < rtS A x1 then -1 else rtS A x1))) (bd L I R S))) ∧ (¬ (x2 = 1) → (0 ≤ x2 - 10 ∧ x2 - 10 < 40) ∧ (inR (tlS A zE (Int.tdiv (A 91 0) 100) 143 1 0) ∧ (((A 136 (x2 - 10).toNat < tlS A zE (Int.tdiv (A 91 0) 100) 143 1 0) → inR ((A 136 (x2 - 10).toNat) * (if 480 < rtS A x1 then -1 else rtS A x1)) ∧ (K (oI (Int.tdiv ((A 136 (x2 - 10).toNat) * (if 480 < rtS A x1 then -1 else rtS A x1)) 2)) (bd L I R S))) ∧ (¬ (A 136 (x2 - 10).toNat < tlS A zE (Int.tdiv (A 91 0) 100) 143 1 0) → K (oI ((A 136 (x2 - 10).toNat) * (if 480 < rtS A x1 then -1 else rtS A x1))) (bd L I R S))))))))))))) ∧ (¬ (0 ≤ x1 ∧ x1 ≤ 9999999) → K (oI (-1)) (bd L I R S)))) ∧ (¬ (0 ≤ x2 - 10 ∧ x2 - 10 ≤ A 91 63 - 1) → inR x1 ∧ (((0 ≤ x1 ∧ x1 ≤ 9999999) → K (oI (-1)) (bd L I R S)) ∧ (¬ (0 ≤ x1 ∧ x1 ≤ 9999999) → K (oI (-1)) (bd L I R S)))))))))) : CallI (d + 26) 59 [.ref 8, .int (oI x1), .int (oI x2)] (bd L I R S) K := by
  refine cI_of (ls := [.ref 8, .int (oI x1), .int (oI x2), mUn, mUn, mUn]) rfl ?_
  refine xG gb59.1 ?_
  refine s4 (x := x2) rfl ?_
  refine s0 ?_
  refine s0 ?_
  obtain ⟨g1, hE⟩ := hE
  refine sI rc3 rfl (Nat.le_of_ble_eq_true rfl) ?_
  refine k3 g1 (inRd rfl) (inRd rfl) (fun c2 => ?_) (fun c2 => ?_)
  · replace hE := hE.1 c2
    refine s68 (inRd rfl) (fun c3 => absurd c3 (by decide)) (fun _ => ?_)
    refine xG gb59.2.1 ?_
    refine s0 ?_
    refine s60 ?_
    refine xG gb59.2.2.2.1 ?_
    refine s7 (ls' := [.ref 8, .int (oI x1), .int (oI x2), .int (oI 1), mUn, mUn]) (Nat.le_of_ble_eq_true rfl) rfl ?_
    refine s4 (x := x1) rfl ?_
    refine s0 ?_
    refine s0 ?_
    obtain ⟨g4, hE⟩ := hE
    refine sI rc3 rfl (Nat.le_of_ble_eq_true rfl) ?_
    refine k3 g4 (inRd rfl) (inRd rfl) (fun c5 => ?_) (fun c5 => ?_)
    · replace hE := hE.1 c5
      refine s67 (inRd rfl) (fun c6 => absurd c6 (by decide)) (fun _ => ?_)
      refine s4 (x := 1) rfl ?_
      refine s68 (inRd rfl) (fun c7 => absurd c7 (by decide)) (fun _ => ?_)
      refine xG gb59.2.2.2.2.2.1 ?_
      refine s6 (p := 8) rfl ?_
      refine s51 sh8 (by decide) (by decide) rf8_3 ?_
      refine s6 (p := 8) rfl ?_
      refine s50 (v := A 91 0) sh8 (by decide) (by decide) (rdC hC.1 rfl) ?_
      refine s0 ?_
      refine s19 (inC hC.1 (a := 8) (k := 8) rfl) ⟨(inRd rfl), by decide⟩ ?_
      refine s0 ?_
      refine s0 ?_
      refine s0 ?_
      refine sI rc96 rfl (Nat.le_of_ble_eq_true rfl) ?_
      refine cI_of (ls := [.ref 43, .int (oI (Int.tdiv (A 91 0) 100)), .int (oI 143), .int (oI 1), .int (oI 0)]) rfl ?_
      refine xG gb96 ?_
      refine s6 (p := 43) rfl ?_
      refine s4 (x := Int.tdiv (A 91 0) 100) rfl ?_
      refine s4 (x := 143) rfl ?_
      refine s4 (x := 1) rfl ?_
      refine s6 (p := 43) rfl ?_
      refine s51 sh43 (by decide) (by decide) rf43_13 ?_
      refine s4 (x := 0) rfl ?_
      obtain ⟨g8, hE⟩ := hE
      obtain ⟨g9, hE⟩ := hE
      refine sI rc97 rfl (Nat.le_of_ble_eq_true rfl) ?_
      refine k97a58 hC g8 (RC.zE hC) g9 (⟨by decide, by decide⟩ : (130 : Int) ≤ 143 ∧ (143 : Int) ≤ 144) (inRd rfl) ?_
      refine s80 ?_
      refine rqI_of ?_
      refine s7 (ls' := [.ref 8, .int (oI x1), .int (oI x2), .int (oI 1), .int (oI (tlS A zE (Int.tdiv (A 91 0) 100) 143 1 0)), mUn]) (Nat.le_of_ble_eq_true rfl) rfl ?_
      refine s6 (p := 8) rfl ?_
      refine s51 sh8 (by decide) (by decide) rf8_0 ?_
      refine s4 (x := x1) rfl ?_
      refine s4 (x := tlS A zE (Int.tdiv (A 91 0) 100) 143 1 0) rfl ?_
      obtain ⟨g10, hE⟩ := hE
      obtain ⟨g11, hE⟩ := hE
      refine sI rc76 rfl (Nat.le_of_ble_eq_true rfl) ?_
      refine k76 hC g10 g8 g4 g11 ?_
      refine s7 (ls' := [.ref 8, .int (oI x1), .int (oI x2), .int (oI 1), .int (oI (tlS A zE (Int.tdiv (A 91 0) 100) 143 1 0)), .int (oI (if 480 < rtS A x1 then -1 else rtS A x1))]) (Nat.le_of_ble_eq_true rfl) rfl ?_
      refine s4 (x := (if 480 < rtS A x1 then -1 else rtS A x1)) rfl ?_
      refine s0 ?_
      obtain ⟨g12, hE⟩ := hE
      refine s61 g12 (inRd rfl) (fun c13 => ?_) (fun c13 => ?_)
      · replace hE := hE.1 c13
        refine xG gb59.2.2.2.2.2.2.1 ?_
        refine s4 (x := (if 480 < rtS A x1 then -1 else rtS A x1)) rfl ?_
        refine s80 ?_
        exact rqI_of hE
      · replace hE := hE.2 c13
        refine s4 (x := x2) rfl ?_
        refine s68 g1 (fun c14 => ?_) (fun c14 => ?_)
        · replace hE := hE.1 c14
          refine s79 ?_
          refine xG gb59.2.2.2.2.2.2.1 ?_
          refine s4 (x := (if 480 < rtS A x1 then -1 else rtS A x1)) rfl ?_
          refine s80 ?_
          exact rqI_of hE
        · replace hE := hE.2 c14
          refine xG gb59.2.2.2.2.2.2.2.1 ?_
          refine s4 (x := x2) rfl ?_
          refine s0 ?_
          refine s62 g1 (inRd rfl) (fun c15 => ?_) (fun c15 => ?_)
          · replace hE := hE.1 c15
            refine s6 (p := 8) rfl ?_
            refine s51 sh8 (by decide) (by decide) rf8_0 ?_
            refine s4 (x := (if 480 < rtS A x1 then -1 else rtS A x1)) rfl ?_
            refine s4 (x := tlS A zE (Int.tdiv (A 91 0) 100) 143 1 0) rfl ?_
            obtain ⟨g16, hE⟩ := hE
            refine sI rc77 rfl (Nat.le_of_ble_eq_true rfl) ?_
            refine k77 hC g10 g8 g16 g11 ?_
            refine s60 ?_
            refine xG gb59.2.2.2.2.2.2.2.2.2 ?_
            refine s80 ?_
            exact rqI_of hE
          · replace hE := hE.2 c15
            refine xG gb59.2.2.2.2.2.2.2.2.1 ?_
            refine s6 (p := 8) rfl ?_
            refine s51 sh8 (by decide) (by decide) rf8_0 ?_
            refine s4 (x := x2) rfl ?_
            refine s0 ?_
            refine s17 ?_
            refine s4 (x := (if 480 < rtS A x1 then -1 else rtS A x1)) rfl ?_
            refine s4 (x := tlS A zE (Int.tdiv (A 91 0) 100) 143 1 0) rfl ?_
            refine sI rc78 rfl (Nat.le_of_ble_eq_true rfl) ?_
            refine cI_of (ls := [.ref 9, .int (oI (x2 - 10)), .int (oI (if 480 < rtS A x1 then -1 else rtS A x1)), .int (oI (tlS A zE (Int.tdiv (A 91 0) 100) 143 1 0)), mUn]) rfl ?_
            refine xG gb78.1 ?_
            refine s6 (p := 9) rfl ?_
            refine s51 sh9 (by decide) (by decide) rf9_10 ?_
            refine s4 (x := x2 - 10) rfl ?_
            obtain ⟨g17, hE⟩ := hE
            refine s40 (v := A 136 (x2 - 10).toNat) sh20 g17 rfl (rdC hC.1 rfl) ?_
            refine s4 (x := (if 480 < rtS A x1 then -1 else rtS A x1)) rfl ?_
            refine s18 ?_
            refine s7 (ls' := [.ref 9, .int (oI (x2 - 10)), .int (oI (if 480 < rtS A x1 then -1 else rtS A x1)), .int (oI (tlS A zE (Int.tdiv (A 91 0) 100) 143 1 0)), .int (oI ((A 136 (x2 - 10).toNat) * (if 480 < rtS A x1 then -1 else rtS A x1)))]) (Nat.le_of_ble_eq_true rfl) rfl ?_
            refine s6 (p := 9) rfl ?_
            refine s51 sh9 (by decide) (by decide) rf9_10 ?_
            refine s4 (x := x2 - 10) rfl ?_
            refine s40 (v := A 136 (x2 - 10).toNat) sh20 g17 rfl (rdC hC.1 rfl) ?_
            refine s4 (x := tlS A zE (Int.tdiv (A 91 0) 100) 143 1 0) rfl ?_
            obtain ⟨g18, hE⟩ := hE
            refine s64 (inC hC.1 (a := 20) (k := (x2 - 10).toNat) rfl) g18 (fun c19 => ?_) (fun c19 => ?_)
            · replace hE := hE.1 c19
              refine s4 (x := (A 136 (x2 - 10).toNat) * (if 480 < rtS A x1 then -1 else rtS A x1)) rfl ?_
              refine s0 ?_
              obtain ⟨g20, hE⟩ := hE
              refine s19 g20 ⟨(inRd rfl), by decide⟩ ?_
              refine s60 ?_
              refine xG gb78.2.2 ?_
              refine s80 ?_
              refine rqI_of ?_
              refine s79 ?_
              refine xG gb59.2.2.2.2.2.2.2.2.2 ?_
              refine s80 ?_
              exact rqI_of hE
            · replace hE := hE.2 c19
              refine xG gb78.2.1 ?_
              refine s4 (x := (A 136 (x2 - 10).toNat) * (if 480 < rtS A x1 then -1 else rtS A x1)) rfl ?_
              refine s79 ?_
              refine xG gb78.2.2 ?_
              refine s80 ?_
              refine rqI_of ?_
              refine s79 ?_
              refine xG gb59.2.2.2.2.2.2.2.2.2 ?_
              refine s80 ?_
              exact rqI_of hE
    · replace hE := hE.2 c5
      refine s67 (inRd rfl) (fun _ => ?_) (fun c21 => absurd (by decide) c21)
      refine xG gb59.2.2.2.2.1 ?_
      refine s0 ?_
      refine s80 ?_
      exact rqI_of hE
  · replace hE := hE.2 c2
    refine s68 (inRd rfl) (fun _ => ?_) (fun c22 => absurd (by decide) c22)
    refine s4 (x := x2) rfl ?_
    refine s0 ?_
    refine s63 g1 (inRd rfl) (fun c23 => ?_) (fun c23 => ?_)
    · replace hE := hE.1 c23
      refine xG gb59.2.2.1 ?_
      refine s0 ?_
      refine s79 ?_
      refine xG gb59.2.2.2.1 ?_
      refine s7 (ls' := [.ref 8, .int (oI x1), .int (oI x2), .int (oI 0), mUn, mUn]) (Nat.le_of_ble_eq_true rfl) rfl ?_
      refine s4 (x := x1) rfl ?_
      refine s0 ?_
      refine s0 ?_
      obtain ⟨g24, hE⟩ := hE
      refine sI rc3 rfl (Nat.le_of_ble_eq_true rfl) ?_
      refine k3 g24 (inRd rfl) (inRd rfl) (fun c25 => ?_) (fun c25 => ?_)
      · replace hE := hE.1 c25
        refine s67 (inRd rfl) (fun c26 => absurd c26 (by decide)) (fun _ => ?_)
        refine s4 (x := 0) rfl ?_
        refine s68 (inRd rfl) (fun _ => ?_) (fun c27 => absurd (by decide) c27)
        refine s79 ?_
        refine xG gb59.2.2.2.2.1 ?_
        refine s0 ?_
        refine s80 ?_
        exact rqI_of hE
      · replace hE := hE.2 c25
        refine s67 (inRd rfl) (fun _ => ?_) (fun c28 => absurd (by decide) c28)
        refine xG gb59.2.2.2.2.1 ?_
        refine s0 ?_
        refine s80 ?_
        exact rqI_of hE
    · replace hE := hE.2 c23
      refine s4 (x := x2) rfl ?_
      refine s0 ?_
      refine s17 ?_
      refine s0 ?_
      refine s6 (p := 8) rfl ?_
      refine s51 sh8 (by decide) (by decide) rf8_0 ?_
      refine s50 (v := A 91 63) sh9 (by decide) (by decide) (rdC hC.1 rfl) ?_
      refine s0 ?_
      refine s17 ?_
      obtain ⟨g29, hE⟩ := hE
      obtain ⟨g30, hE⟩ := hE
      refine sI rc3 rfl (Nat.le_of_ble_eq_true rfl) ?_
      refine k3 g29 (inRd rfl) g30 (fun c31 => ?_) (fun c31 => ?_)
      · replace hE := hE.1 c31
        refine s67 (inRd rfl) (fun c32 => absurd c32 (by decide)) (fun _ => ?_)
        refine s79 ?_
        refine xG gb59.2.1 ?_
        refine s0 ?_
        refine s60 ?_
        refine xG gb59.2.2.2.1 ?_
        refine s7 (ls' := [.ref 8, .int (oI x1), .int (oI x2), .int (oI 1), mUn, mUn]) (Nat.le_of_ble_eq_true rfl) rfl ?_
        refine s4 (x := x1) rfl ?_
        refine s0 ?_
        refine s0 ?_
        obtain ⟨g33, hE⟩ := hE
        refine sI rc3 rfl (Nat.le_of_ble_eq_true rfl) ?_
        refine k3 g33 (inRd rfl) (inRd rfl) (fun c34 => ?_) (fun c34 => ?_)
        · replace hE := hE.1 c34
          refine s67 (inRd rfl) (fun c35 => absurd c35 (by decide)) (fun _ => ?_)
          refine s4 (x := 1) rfl ?_
          refine s68 (inRd rfl) (fun c36 => absurd c36 (by decide)) (fun _ => ?_)
          refine xG gb59.2.2.2.2.2.1 ?_
          refine s6 (p := 8) rfl ?_
          refine s51 sh8 (by decide) (by decide) rf8_3 ?_
          refine s6 (p := 8) rfl ?_
          refine s50 (v := A 91 0) sh8 (by decide) (by decide) (rdC hC.1 rfl) ?_
          refine s0 ?_
          refine s19 (inC hC.1 (a := 8) (k := 8) rfl) ⟨(inRd rfl), by decide⟩ ?_
          refine s0 ?_
          refine s0 ?_
          refine s0 ?_
          refine sI rc96 rfl (Nat.le_of_ble_eq_true rfl) ?_
          refine cI_of (ls := [.ref 43, .int (oI (Int.tdiv (A 91 0) 100)), .int (oI 143), .int (oI 1), .int (oI 0)]) rfl ?_
          refine xG gb96 ?_
          refine s6 (p := 43) rfl ?_
          refine s4 (x := Int.tdiv (A 91 0) 100) rfl ?_
          refine s4 (x := 143) rfl ?_
          refine s4 (x := 1) rfl ?_
          refine s6 (p := 43) rfl ?_
          refine s51 sh43 (by decide) (by decide) rf43_13 ?_
          refine s4 (x := 0) rfl ?_
          obtain ⟨g37, hE⟩ := hE
          obtain ⟨g38, hE⟩ := hE
          refine sI rc97 rfl (Nat.le_of_ble_eq_true rfl) ?_
          refine k97a58 hC g37 (RC.zE hC) g38 (⟨by decide, by decide⟩ : (130 : Int) ≤ 143 ∧ (143 : Int) ≤ 144) (inRd rfl) ?_
          refine s80 ?_
          refine rqI_of ?_
          refine s7 (ls' := [.ref 8, .int (oI x1), .int (oI x2), .int (oI 1), .int (oI (tlS A zE (Int.tdiv (A 91 0) 100) 143 1 0)), mUn]) (Nat.le_of_ble_eq_true rfl) rfl ?_
          refine s6 (p := 8) rfl ?_
          refine s51 sh8 (by decide) (by decide) rf8_0 ?_
          refine s4 (x := x1) rfl ?_
          refine s4 (x := tlS A zE (Int.tdiv (A 91 0) 100) 143 1 0) rfl ?_
          obtain ⟨g39, hE⟩ := hE
          obtain ⟨g40, hE⟩ := hE
          refine sI rc76 rfl (Nat.le_of_ble_eq_true rfl) ?_
          refine k76 hC g39 g37 g33 g40 ?_
          refine s7 (ls' := [.ref 8, .int (oI x1), .int (oI x2), .int (oI 1), .int (oI (tlS A zE (Int.tdiv (A 91 0) 100) 143 1 0)), .int (oI (if 480 < rtS A x1 then -1 else rtS A x1))]) (Nat.le_of_ble_eq_true rfl) rfl ?_
          refine s4 (x := (if 480 < rtS A x1 then -1 else rtS A x1)) rfl ?_
          refine s0 ?_
          obtain ⟨g41, hE⟩ := hE
          refine s61 g41 (inRd rfl) (fun c42 => ?_) (fun c42 => ?_)
          · replace hE := hE.1 c42
            refine xG gb59.2.2.2.2.2.2.1 ?_
            refine s4 (x := (if 480 < rtS A x1 then -1 else rtS A x1)) rfl ?_
            refine s80 ?_
            exact rqI_of hE
          · replace hE := hE.2 c42
            refine s4 (x := x2) rfl ?_
            refine s68 g1 (fun c43 => ?_) (fun c43 => ?_)
            · replace hE := hE.1 c43
              refine s79 ?_
              refine xG gb59.2.2.2.2.2.2.1 ?_
              refine s4 (x := (if 480 < rtS A x1 then -1 else rtS A x1)) rfl ?_
              refine s80 ?_
              exact rqI_of hE
            · replace hE := hE.2 c43
              refine xG gb59.2.2.2.2.2.2.2.1 ?_
              refine s4 (x := x2) rfl ?_
              refine s0 ?_
              refine s62 g1 (inRd rfl) (fun c44 => ?_) (fun c44 => ?_)
              · replace hE := hE.1 c44
                refine s6 (p := 8) rfl ?_
                refine s51 sh8 (by decide) (by decide) rf8_0 ?_
                refine s4 (x := (if 480 < rtS A x1 then -1 else rtS A x1)) rfl ?_
                refine s4 (x := tlS A zE (Int.tdiv (A 91 0) 100) 143 1 0) rfl ?_
                obtain ⟨g45, hE⟩ := hE
                refine sI rc77 rfl (Nat.le_of_ble_eq_true rfl) ?_
                refine k77 hC g39 g37 g45 g40 ?_
                refine s60 ?_
                refine xG gb59.2.2.2.2.2.2.2.2.2 ?_
                refine s80 ?_
                exact rqI_of hE
              · replace hE := hE.2 c44
                refine xG gb59.2.2.2.2.2.2.2.2.1 ?_
                refine s6 (p := 8) rfl ?_
                refine s51 sh8 (by decide) (by decide) rf8_0 ?_
                refine s4 (x := x2) rfl ?_
                refine s0 ?_
                refine s17 ?_
                refine s4 (x := (if 480 < rtS A x1 then -1 else rtS A x1)) rfl ?_
                refine s4 (x := tlS A zE (Int.tdiv (A 91 0) 100) 143 1 0) rfl ?_
                refine sI rc78 rfl (Nat.le_of_ble_eq_true rfl) ?_
                refine cI_of (ls := [.ref 9, .int (oI (x2 - 10)), .int (oI (if 480 < rtS A x1 then -1 else rtS A x1)), .int (oI (tlS A zE (Int.tdiv (A 91 0) 100) 143 1 0)), mUn]) rfl ?_
                refine xG gb78.1 ?_
                refine s6 (p := 9) rfl ?_
                refine s51 sh9 (by decide) (by decide) rf9_10 ?_
                refine s4 (x := x2 - 10) rfl ?_
                obtain ⟨g46, hE⟩ := hE
                refine s40 (v := A 136 (x2 - 10).toNat) sh20 g46 rfl (rdC hC.1 rfl) ?_
                refine s4 (x := (if 480 < rtS A x1 then -1 else rtS A x1)) rfl ?_
                refine s18 ?_
                refine s7 (ls' := [.ref 9, .int (oI (x2 - 10)), .int (oI (if 480 < rtS A x1 then -1 else rtS A x1)), .int (oI (tlS A zE (Int.tdiv (A 91 0) 100) 143 1 0)), .int (oI ((A 136 (x2 - 10).toNat) * (if 480 < rtS A x1 then -1 else rtS A x1)))]) (Nat.le_of_ble_eq_true rfl) rfl ?_
                refine s6 (p := 9) rfl ?_
                refine s51 sh9 (by decide) (by decide) rf9_10 ?_
                refine s4 (x := x2 - 10) rfl ?_
                refine s40 (v := A 136 (x2 - 10).toNat) sh20 g46 rfl (rdC hC.1 rfl) ?_
                refine s4 (x := tlS A zE (Int.tdiv (A 91 0) 100) 143 1 0) rfl ?_
                obtain ⟨g47, hE⟩ := hE
                refine s64 (inC hC.1 (a := 20) (k := (x2 - 10).toNat) rfl) g47 (fun c48 => ?_) (fun c48 => ?_)
                · replace hE := hE.1 c48
                  refine s4 (x := (A 136 (x2 - 10).toNat) * (if 480 < rtS A x1 then -1 else rtS A x1)) rfl ?_
                  refine s0 ?_
                  obtain ⟨g49, hE⟩ := hE
                  refine s19 g49 ⟨(inRd rfl), by decide⟩ ?_
                  refine s60 ?_
                  refine xG gb78.2.2 ?_
                  refine s80 ?_
                  refine rqI_of ?_
                  refine s79 ?_
                  refine xG gb59.2.2.2.2.2.2.2.2.2 ?_
                  refine s80 ?_
                  exact rqI_of hE
                · replace hE := hE.2 c48
                  refine xG gb78.2.1 ?_
                  refine s4 (x := (A 136 (x2 - 10).toNat) * (if 480 < rtS A x1 then -1 else rtS A x1)) rfl ?_
                  refine s79 ?_
                  refine xG gb78.2.2 ?_
                  refine s80 ?_
                  refine rqI_of ?_
                  refine s79 ?_
                  refine xG gb59.2.2.2.2.2.2.2.2.2 ?_
                  refine s80 ?_
                  exact rqI_of hE
        · replace hE := hE.2 c34
          refine s67 (inRd rfl) (fun _ => ?_) (fun c50 => absurd (by decide) c50)
          refine xG gb59.2.2.2.2.1 ?_
          refine s0 ?_
          refine s80 ?_
          exact rqI_of hE
      · replace hE := hE.2 c31
        refine s67 (inRd rfl) (fun _ => ?_) (fun c51 => absurd (by decide) c51)
        refine xG gb59.2.2.1 ?_
        refine s0 ?_
        refine s79 ?_
        refine xG gb59.2.2.2.1 ?_
        refine s7 (ls' := [.ref 8, .int (oI x1), .int (oI x2), .int (oI 0), mUn, mUn]) (Nat.le_of_ble_eq_true rfl) rfl ?_
        refine s4 (x := x1) rfl ?_
        refine s0 ?_
        refine s0 ?_
        obtain ⟨g52, hE⟩ := hE
        refine sI rc3 rfl (Nat.le_of_ble_eq_true rfl) ?_
        refine k3 g52 (inRd rfl) (inRd rfl) (fun c53 => ?_) (fun c53 => ?_)
        · replace hE := hE.1 c53
          refine s67 (inRd rfl) (fun c54 => absurd c54 (by decide)) (fun _ => ?_)
          refine s4 (x := 0) rfl ?_
          refine s68 (inRd rfl) (fun _ => ?_) (fun c55 => absurd (by decide) c55)
          refine s79 ?_
          refine xG gb59.2.2.2.2.1 ?_
          refine s0 ?_
          refine s80 ?_
          exact rqI_of hE
        · replace hE := hE.2 c53
          refine s67 (inRd rfl) (fun _ => ?_) (fun c56 => absurd (by decide) c56)
          refine xG gb59.2.2.2.2.1 ?_
          refine s0 ?_
          refine s80 ?_
          exact rqI_of hE
set_option maxRecDepth 4000 in
theorem q59 {d L n : Nat} {I : mI} {R : mR} {S : mSh} {A : aS} {K : Int32 → mM → Prop} {x1 : Int} {x2 : Int} (hX : CX R S I A n) (hW : WF A) (hn : n ≤ 100000) (rx1 : inR x1) (rx2 : inR x2) (hK : ∀ I1, FK I I1 → CX R S I1 A (n + 1) → K (oI (rateA A x1 x2)) (bd L I1 R S)) : CallI (d + 26) 59 [.ref 8, .int (oI x1), .int (oI x2)] (bd L I R S) K := by
  have hC := hX.1
  have hA := hW.1
  have w0 := hA.1
  have w1 := hA.2.1
  have w2 := hA.2.2.1
  have w3 : 0 ≤ A 91 3 ∧ A 91 3 ≤ 850 := hA.2.2.2.1
  have ty := today_year hA
  have c9 := hX.2.2.2.1
  have hT := hW.2.2.1
  have t1 := hT.2.2.1
  have sm : tlS A zE (Int.tdiv (A 91 0) 100) 143 1 0 = smS A := tlS_ln (b := 15) hW.2.2.2.2.2.2.2.2.2.2.1 (by omega)
  have smi := tlS_in (A := A) (ow := 0) (h := zE) (y := Int.tdiv (A 91 0) 100) (kd := 143) (mask := 1) hW.2.2.2.2.2.2.2.2.2.2.1
  have rx2b : -2147483648 ≤ x2 ∧ x2 ≤ 2147483647 := rx2
  obtain ⟨i1, i2, -, -⟩ := rtF_spec hT (w := x1) 481 0
  have er : rtF A x1 481 0 = rtS A x1 := rfl
  rw [er] at i1 i2
  have r1 : 480 < rtS A x1 → (if 480 < rtS A x1 then -1 else rtS A x1) = -1 := fun h => if_pos h
  have r2 : ¬ 480 < rtS A x1 → (if 480 < rtS A x1 then -1 else rtS A x1) = rtS A x1 := fun h => if_neg h
  have pr : 0 ≤ x2 - 10 ∧ x2 - 10 ≤ A 91 63 - 1 → -500 ≤ A 136 (x2 - 10).toNat * (if 480 < rtS A x1 then -1 else rtS A x1) ∧ A 136 (x2 - 10).toNat * (if 480 < rtS A x1 then -1 else rtS A x1) ≤ 240000 := fun h => mul500 (hT.2.2.2.1 _ (by omega)) (by by_cases c : 480 < rtS A x1 <;> omega)
  refine e59 (d := d) hC ?_
  refine ⟨by first | assumption | exact inRd rfl | omega | exact ⟨by omega, by omega⟩ | (unfold WnOk; omega) | exact hW.1 | exact hW.2.1 | exact hW.2.2.1 | exact hW.2.2.2.1 | exact hW.2.2.2.2.1 | exact hW.2.2.2.2.2.2.2.2.2.1 | exact hW.2.2.2.2.2.2.2.2.2.2.1 | (constructor <;> omega), ?_⟩
  refine ⟨fun c1 => ?_, fun c1 => ?_⟩
  · refine ⟨by first | assumption | exact inRd rfl | omega | exact ⟨by omega, by omega⟩ | (unfold WnOk; omega) | exact hW.1 | exact hW.2.1 | exact hW.2.2.1 | exact hW.2.2.2.1 | exact hW.2.2.2.2.1 | exact hW.2.2.2.2.2.2.2.2.2.1 | exact hW.2.2.2.2.2.2.2.2.2.2.1 | (constructor <;> omega), ?_⟩
    refine ⟨fun c2 => ?_, fun c2 => ?_⟩
    · refine ⟨by first | assumption | exact inRd rfl | omega | exact ⟨by omega, by omega⟩ | (unfold WnOk; omega) | exact hW.1 | exact hW.2.1 | exact hW.2.2.1 | exact hW.2.2.2.1 | exact hW.2.2.2.2.1 | exact hW.2.2.2.2.2.2.2.2.2.1 | exact hW.2.2.2.2.2.2.2.2.2.2.1 | (constructor <;> omega), ?_⟩
      refine ⟨by first | assumption | exact inRd rfl | omega | exact ⟨by omega, by omega⟩ | (unfold WnOk; omega) | exact hW.1 | exact hW.2.1 | exact hW.2.2.1 | exact hW.2.2.2.1 | exact hW.2.2.2.2.1 | exact hW.2.2.2.2.2.2.2.2.2.1 | exact hW.2.2.2.2.2.2.2.2.2.2.1 | (constructor <;> omega), ?_⟩
      refine ⟨by first | assumption | exact inRd rfl | omega | exact ⟨by omega, by omega⟩ | (unfold WnOk; omega) | exact hW.1 | exact hW.2.1 | exact hW.2.2.1 | exact hW.2.2.2.1 | exact hW.2.2.2.2.1 | exact hW.2.2.2.2.2.2.2.2.2.1 | exact hW.2.2.2.2.2.2.2.2.2.2.1 | (constructor <;> omega), ?_⟩
      refine ⟨by first | assumption | exact inRd rfl | omega | exact ⟨by omega, by omega⟩ | (unfold WnOk; omega) | exact hW.1 | exact hW.2.1 | exact hW.2.2.1 | exact hW.2.2.2.1 | exact hW.2.2.2.2.1 | exact hW.2.2.2.2.2.2.2.2.2.1 | exact hW.2.2.2.2.2.2.2.2.2.2.1 | (constructor <;> omega), ?_⟩
      refine ⟨by first | assumption | exact inRd rfl | omega | exact ⟨by omega, by omega⟩ | (unfold WnOk; omega) | exact hW.1 | exact hW.2.1 | exact hW.2.2.1 | exact hW.2.2.2.1 | exact hW.2.2.2.2.1 | exact hW.2.2.2.2.2.2.2.2.2.1 | exact hW.2.2.2.2.2.2.2.2.2.2.1 | (constructor <;> omega), ?_⟩
      refine ⟨fun c3 => ?_, fun c3 => ?_⟩
      · have ho : rateA A x1 x2 = (if 480 < rtS A x1 then -1 else rtS A x1) := by
          unfold rateA
          repeat' split
          all_goals first | (exfalso; omega) | with_reducible rfl | rw [pa_yes (by rw [← sm]; assumption)] | rw [pa_no (by rw [← sm]; assumption)] | rw [r2 (by omega), pa_yes (by rw [← sm]; assumption)] | rw [r2 (by omega), pa_no (by rw [← sm]; assumption)] | rw [r2 (by omega)] | omega
        rw [ho] at hK
        exact hK I (FK.refl I) (hX.up (Nat.le_succ n))
      · refine ⟨fun c4 => ?_, fun c4 => ?_⟩
        · have ho : rateA A x1 x2 = (if 480 < rtS A x1 then -1 else rtS A x1) := by
            unfold rateA
            repeat' split
            all_goals first | (exfalso; omega) | with_reducible rfl | rw [pa_yes (by rw [← sm]; assumption)] | rw [pa_no (by rw [← sm]; assumption)] | rw [r2 (by omega), pa_yes (by rw [← sm]; assumption)] | rw [r2 (by omega), pa_no (by rw [← sm]; assumption)] | rw [r2 (by omega)] | omega
          rw [ho] at hK
          exact hK I (FK.refl I) (hX.up (Nat.le_succ n))
        · refine ⟨fun c5 => ?_, fun c5 => ?_⟩
          · refine ⟨by first | assumption | exact inRd rfl | omega | exact ⟨by omega, by omega⟩ | (unfold WnOk; omega) | exact hW.1 | exact hW.2.1 | exact hW.2.2.1 | exact hW.2.2.2.1 | exact hW.2.2.2.2.1 | exact hW.2.2.2.2.2.2.2.2.2.1 | exact hW.2.2.2.2.2.2.2.2.2.2.1 | (constructor <;> omega), ?_⟩
            have ho : rateA A x1 x2 = (coS A (if 480 < rtS A x1 then -1 else rtS A x1)) := by
              unfold rateA
              repeat' split
              all_goals first | (exfalso; omega) | with_reducible rfl | rw [pa_yes (by rw [← sm]; assumption)] | rw [pa_no (by rw [← sm]; assumption)] | rw [r2 (by omega), pa_yes (by rw [← sm]; assumption)] | rw [r2 (by omega), pa_no (by rw [← sm]; assumption)] | rw [r2 (by omega)] | omega
            rw [ho] at hK
            exact hK I (FK.refl I) (hX.up (Nat.le_succ n))
          · refine ⟨by first | assumption | exact inRd rfl | omega | exact ⟨by omega, by omega⟩ | (unfold WnOk; omega) | exact hW.1 | exact hW.2.1 | exact hW.2.2.1 | exact hW.2.2.2.1 | exact hW.2.2.2.2.1 | exact hW.2.2.2.2.2.2.2.2.2.1 | exact hW.2.2.2.2.2.2.2.2.2.2.1 | (constructor <;> omega), ?_⟩
            refine ⟨by first | assumption | exact inRd rfl | omega | exact ⟨by omega, by omega⟩ | (unfold WnOk; omega) | exact hW.1 | exact hW.2.1 | exact hW.2.2.1 | exact hW.2.2.2.1 | exact hW.2.2.2.2.1 | exact hW.2.2.2.2.2.2.2.2.2.1 | exact hW.2.2.2.2.2.2.2.2.2.2.1 | (constructor <;> omega), ?_⟩
            refine ⟨fun c6 => ?_, fun c6 => ?_⟩
            · refine ⟨by first | assumption | exact inRd rfl | omega | exact ⟨by omega, by omega⟩ | (unfold WnOk; omega) | exact hW.1 | exact hW.2.1 | exact hW.2.2.1 | exact hW.2.2.2.1 | exact hW.2.2.2.2.1 | exact hW.2.2.2.2.2.2.2.2.2.1 | exact hW.2.2.2.2.2.2.2.2.2.2.1 | (constructor <;> omega), ?_⟩
              have ho : rateA A x1 x2 = (Int.tdiv ((A 136 (x2 - 10).toNat) * (if 480 < rtS A x1 then -1 else rtS A x1)) 2) := by
                unfold rateA
                repeat' split
                all_goals first | (exfalso; omega) | with_reducible rfl | rw [pa_yes (by rw [← sm]; assumption)] | rw [pa_no (by rw [← sm]; assumption)] | rw [r2 (by omega), pa_yes (by rw [← sm]; assumption)] | rw [r2 (by omega), pa_no (by rw [← sm]; assumption)] | rw [r2 (by omega)] | omega
              rw [ho] at hK
              exact hK I (FK.refl I) (hX.up (Nat.le_succ n))
            · have ho : rateA A x1 x2 = ((A 136 (x2 - 10).toNat) * (if 480 < rtS A x1 then -1 else rtS A x1)) := by
                unfold rateA
                repeat' split
                all_goals first | (exfalso; omega) | with_reducible rfl | rw [pa_yes (by rw [← sm]; assumption)] | rw [pa_no (by rw [← sm]; assumption)] | rw [r2 (by omega), pa_yes (by rw [← sm]; assumption)] | rw [r2 (by omega), pa_no (by rw [← sm]; assumption)] | rw [r2 (by omega)] | omega
              rw [ho] at hK
              exact hK I (FK.refl I) (hX.up (Nat.le_succ n))
    · have ho : rateA A x1 x2 = (-1) := by
        unfold rateA
        repeat' split
        all_goals first | (exfalso; omega) | with_reducible rfl | rw [pa_yes (by rw [← sm]; assumption)] | rw [pa_no (by rw [← sm]; assumption)] | rw [r2 (by omega), pa_yes (by rw [← sm]; assumption)] | rw [r2 (by omega), pa_no (by rw [← sm]; assumption)] | rw [r2 (by omega)] | omega
      rw [ho] at hK
      exact hK I (FK.refl I) (hX.up (Nat.le_succ n))
  · refine ⟨fun c7 => ?_, fun c7 => ?_⟩
    · refine ⟨by first | assumption | exact inRd rfl | omega | exact ⟨by omega, by omega⟩ | (unfold WnOk; omega) | exact hW.1 | exact hW.2.1 | exact hW.2.2.1 | exact hW.2.2.2.1 | exact hW.2.2.2.2.1 | exact hW.2.2.2.2.2.2.2.2.2.1 | exact hW.2.2.2.2.2.2.2.2.2.2.1 | (constructor <;> omega), ?_⟩
      refine ⟨fun c8 => ?_, fun c8 => ?_⟩
      · have ho : rateA A x1 x2 = (-1) := by
          unfold rateA
          repeat' split
          all_goals first | (exfalso; omega) | with_reducible rfl | rw [pa_yes (by rw [← sm]; assumption)] | rw [pa_no (by rw [← sm]; assumption)] | rw [r2 (by omega), pa_yes (by rw [← sm]; assumption)] | rw [r2 (by omega), pa_no (by rw [← sm]; assumption)] | rw [r2 (by omega)] | omega
        rw [ho] at hK
        exact hK I (FK.refl I) (hX.up (Nat.le_succ n))
      · have ho : rateA A x1 x2 = (-1) := by
          unfold rateA
          repeat' split
          all_goals first | (exfalso; omega) | with_reducible rfl | rw [pa_yes (by rw [← sm]; assumption)] | rw [pa_no (by rw [← sm]; assumption)] | rw [r2 (by omega), pa_yes (by rw [← sm]; assumption)] | rw [r2 (by omega), pa_no (by rw [← sm]; assumption)] | rw [r2 (by omega)] | omega
        rw [ho] at hK
        exact hK I (FK.refl I) (hX.up (Nat.le_succ n))
    · refine ⟨by first | assumption | exact inRd rfl | omega | exact ⟨by omega, by omega⟩ | (unfold WnOk; omega) | exact hW.1 | exact hW.2.1 | exact hW.2.2.1 | exact hW.2.2.2.1 | exact hW.2.2.2.2.1 | exact hW.2.2.2.2.2.2.2.2.2.1 | exact hW.2.2.2.2.2.2.2.2.2.2.1 | (constructor <;> omega), ?_⟩
      refine ⟨by first | assumption | exact inRd rfl | omega | exact ⟨by omega, by omega⟩ | (unfold WnOk; omega) | exact hW.1 | exact hW.2.1 | exact hW.2.2.1 | exact hW.2.2.2.1 | exact hW.2.2.2.2.1 | exact hW.2.2.2.2.2.2.2.2.2.1 | exact hW.2.2.2.2.2.2.2.2.2.2.1 | (constructor <;> omega), ?_⟩
      refine ⟨fun c9 => ?_, fun c9 => ?_⟩
      · refine ⟨by first | assumption | exact inRd rfl | omega | exact ⟨by omega, by omega⟩ | (unfold WnOk; omega) | exact hW.1 | exact hW.2.1 | exact hW.2.2.1 | exact hW.2.2.2.1 | exact hW.2.2.2.2.1 | exact hW.2.2.2.2.2.2.2.2.2.1 | exact hW.2.2.2.2.2.2.2.2.2.2.1 | (constructor <;> omega), ?_⟩
        refine ⟨fun c10 => ?_, fun c10 => ?_⟩
        · refine ⟨by first | assumption | exact inRd rfl | omega | exact ⟨by omega, by omega⟩ | (unfold WnOk; omega) | exact hW.1 | exact hW.2.1 | exact hW.2.2.1 | exact hW.2.2.2.1 | exact hW.2.2.2.2.1 | exact hW.2.2.2.2.2.2.2.2.2.1 | exact hW.2.2.2.2.2.2.2.2.2.2.1 | (constructor <;> omega), ?_⟩
          refine ⟨by first | assumption | exact inRd rfl | omega | exact ⟨by omega, by omega⟩ | (unfold WnOk; omega) | exact hW.1 | exact hW.2.1 | exact hW.2.2.1 | exact hW.2.2.2.1 | exact hW.2.2.2.2.1 | exact hW.2.2.2.2.2.2.2.2.2.1 | exact hW.2.2.2.2.2.2.2.2.2.2.1 | (constructor <;> omega), ?_⟩
          refine ⟨by first | assumption | exact inRd rfl | omega | exact ⟨by omega, by omega⟩ | (unfold WnOk; omega) | exact hW.1 | exact hW.2.1 | exact hW.2.2.1 | exact hW.2.2.2.1 | exact hW.2.2.2.2.1 | exact hW.2.2.2.2.2.2.2.2.2.1 | exact hW.2.2.2.2.2.2.2.2.2.2.1 | (constructor <;> omega), ?_⟩
          refine ⟨by first | assumption | exact inRd rfl | omega | exact ⟨by omega, by omega⟩ | (unfold WnOk; omega) | exact hW.1 | exact hW.2.1 | exact hW.2.2.1 | exact hW.2.2.2.1 | exact hW.2.2.2.2.1 | exact hW.2.2.2.2.2.2.2.2.2.1 | exact hW.2.2.2.2.2.2.2.2.2.2.1 | (constructor <;> omega), ?_⟩
          refine ⟨by first | assumption | exact inRd rfl | omega | exact ⟨by omega, by omega⟩ | (unfold WnOk; omega) | exact hW.1 | exact hW.2.1 | exact hW.2.2.1 | exact hW.2.2.2.1 | exact hW.2.2.2.2.1 | exact hW.2.2.2.2.2.2.2.2.2.1 | exact hW.2.2.2.2.2.2.2.2.2.2.1 | (constructor <;> omega), ?_⟩
          refine ⟨fun c11 => ?_, fun c11 => ?_⟩
          · have ho : rateA A x1 x2 = (if 480 < rtS A x1 then -1 else rtS A x1) := by
              unfold rateA
              repeat' split
              all_goals first | (exfalso; omega) | with_reducible rfl | rw [pa_yes (by rw [← sm]; assumption)] | rw [pa_no (by rw [← sm]; assumption)] | rw [r2 (by omega), pa_yes (by rw [← sm]; assumption)] | rw [r2 (by omega), pa_no (by rw [← sm]; assumption)] | rw [r2 (by omega)] | omega
            rw [ho] at hK
            exact hK I (FK.refl I) (hX.up (Nat.le_succ n))
          · refine ⟨fun c12 => ?_, fun c12 => ?_⟩
            · have ho : rateA A x1 x2 = (if 480 < rtS A x1 then -1 else rtS A x1) := by
                unfold rateA
                repeat' split
                all_goals first | (exfalso; omega) | with_reducible rfl | rw [pa_yes (by rw [← sm]; assumption)] | rw [pa_no (by rw [← sm]; assumption)] | rw [r2 (by omega), pa_yes (by rw [← sm]; assumption)] | rw [r2 (by omega), pa_no (by rw [← sm]; assumption)] | rw [r2 (by omega)] | omega
              rw [ho] at hK
              exact hK I (FK.refl I) (hX.up (Nat.le_succ n))
            · refine ⟨fun c13 => ?_, fun c13 => ?_⟩
              · refine ⟨by first | assumption | exact inRd rfl | omega | exact ⟨by omega, by omega⟩ | (unfold WnOk; omega) | exact hW.1 | exact hW.2.1 | exact hW.2.2.1 | exact hW.2.2.2.1 | exact hW.2.2.2.2.1 | exact hW.2.2.2.2.2.2.2.2.2.1 | exact hW.2.2.2.2.2.2.2.2.2.2.1 | (constructor <;> omega), ?_⟩
                have ho : rateA A x1 x2 = (coS A (if 480 < rtS A x1 then -1 else rtS A x1)) := by
                  unfold rateA
                  repeat' split
                  all_goals first | (exfalso; omega) | with_reducible rfl | rw [pa_yes (by rw [← sm]; assumption)] | rw [pa_no (by rw [← sm]; assumption)] | rw [r2 (by omega), pa_yes (by rw [← sm]; assumption)] | rw [r2 (by omega), pa_no (by rw [← sm]; assumption)] | rw [r2 (by omega)] | omega
                rw [ho] at hK
                exact hK I (FK.refl I) (hX.up (Nat.le_succ n))
              · refine ⟨by first | assumption | exact inRd rfl | omega | exact ⟨by omega, by omega⟩ | (unfold WnOk; omega) | exact hW.1 | exact hW.2.1 | exact hW.2.2.1 | exact hW.2.2.2.1 | exact hW.2.2.2.2.1 | exact hW.2.2.2.2.2.2.2.2.2.1 | exact hW.2.2.2.2.2.2.2.2.2.2.1 | (constructor <;> omega), ?_⟩
                refine ⟨by first | assumption | exact inRd rfl | omega | exact ⟨by omega, by omega⟩ | (unfold WnOk; omega) | exact hW.1 | exact hW.2.1 | exact hW.2.2.1 | exact hW.2.2.2.1 | exact hW.2.2.2.2.1 | exact hW.2.2.2.2.2.2.2.2.2.1 | exact hW.2.2.2.2.2.2.2.2.2.2.1 | (constructor <;> omega), ?_⟩
                refine ⟨fun c14 => ?_, fun c14 => ?_⟩
                · refine ⟨by first | assumption | exact inRd rfl | omega | exact ⟨by omega, by omega⟩ | (unfold WnOk; omega) | exact hW.1 | exact hW.2.1 | exact hW.2.2.1 | exact hW.2.2.2.1 | exact hW.2.2.2.2.1 | exact hW.2.2.2.2.2.2.2.2.2.1 | exact hW.2.2.2.2.2.2.2.2.2.2.1 | (constructor <;> omega), ?_⟩
                  have ho : rateA A x1 x2 = (Int.tdiv ((A 136 (x2 - 10).toNat) * (if 480 < rtS A x1 then -1 else rtS A x1)) 2) := by
                    unfold rateA
                    repeat' split
                    all_goals first | (exfalso; omega) | with_reducible rfl | rw [pa_yes (by rw [← sm]; assumption)] | rw [pa_no (by rw [← sm]; assumption)] | rw [r2 (by omega), pa_yes (by rw [← sm]; assumption)] | rw [r2 (by omega), pa_no (by rw [← sm]; assumption)] | rw [r2 (by omega)] | omega
                  rw [ho] at hK
                  exact hK I (FK.refl I) (hX.up (Nat.le_succ n))
                · have ho : rateA A x1 x2 = ((A 136 (x2 - 10).toNat) * (if 480 < rtS A x1 then -1 else rtS A x1)) := by
                    unfold rateA
                    repeat' split
                    all_goals first | (exfalso; omega) | with_reducible rfl | rw [pa_yes (by rw [← sm]; assumption)] | rw [pa_no (by rw [← sm]; assumption)] | rw [r2 (by omega), pa_yes (by rw [← sm]; assumption)] | rw [r2 (by omega), pa_no (by rw [← sm]; assumption)] | rw [r2 (by omega)] | omega
                  rw [ho] at hK
                  exact hK I (FK.refl I) (hX.up (Nat.le_succ n))
        · have ho : rateA A x1 x2 = (-1) := by
            unfold rateA
            repeat' split
            all_goals first | (exfalso; omega) | with_reducible rfl | rw [pa_yes (by rw [← sm]; assumption)] | rw [pa_no (by rw [← sm]; assumption)] | rw [r2 (by omega), pa_yes (by rw [← sm]; assumption)] | rw [r2 (by omega), pa_no (by rw [← sm]; assumption)] | rw [r2 (by omega)] | omega
          rw [ho] at hK
          exact hK I (FK.refl I) (hX.up (Nat.le_succ n))
      · refine ⟨by first | assumption | exact inRd rfl | omega | exact ⟨by omega, by omega⟩ | (unfold WnOk; omega) | exact hW.1 | exact hW.2.1 | exact hW.2.2.1 | exact hW.2.2.2.1 | exact hW.2.2.2.2.1 | exact hW.2.2.2.2.2.2.2.2.2.1 | exact hW.2.2.2.2.2.2.2.2.2.2.1 | (constructor <;> omega), ?_⟩
        refine ⟨fun c15 => ?_, fun c15 => ?_⟩
        · have ho : rateA A x1 x2 = (-1) := by
            unfold rateA
            repeat' split
            all_goals first | (exfalso; omega) | with_reducible rfl | rw [pa_yes (by rw [← sm]; assumption)] | rw [pa_no (by rw [← sm]; assumption)] | rw [r2 (by omega), pa_yes (by rw [← sm]; assumption)] | rw [r2 (by omega), pa_no (by rw [← sm]; assumption)] | rw [r2 (by omega)] | omega
          rw [ho] at hK
          exact hK I (FK.refl I) (hX.up (Nat.le_succ n))
        · have ho : rateA A x1 x2 = (-1) := by
            unfold rateA
            repeat' split
            all_goals first | (exfalso; omega) | with_reducible rfl | rw [pa_yes (by rw [← sm]; assumption)] | rw [pa_no (by rw [← sm]; assumption)] | rw [r2 (by omega), pa_yes (by rw [← sm]; assumption)] | rw [r2 (by omega), pa_no (by rw [← sm]; assumption)] | rw [r2 (by omega)] | omega
          rw [ho] at hK
          exact hK I (FK.refl I) (hX.up (Nat.le_succ n))
def h51_3 (d L : Nat) (I : Nat → Nat → Int32) (R : Nat → Nat → Option Nat) (S : List (Nat × Nat)) (Q : Option Value → mM → Prop) (x1 : Int) (x2 : Int) (x3 : Int) (x4 : Int) : Prop := Wp d (gb 51 3) [.ref 8, .int (oI x1), .int (oI x2), .int (oI x3), .int (oI x4)] [] (bd L I R S) Q
set_option maxRecDepth 4000 in
theorem e51_3 {d L : Nat} {I : Nat → Nat → Int32} {R : Nat → Nat → Option Nat} {S : List (Nat × Nat)} {Q : Option Value → mM → Prop} {A : aS} (hC : RC R S I A) {x1 : Int} {x2 : Int} {x3 : Int} {x4 : Int} (hE : inR x4 ∧ (((x4 < A 91 1) → (0 ≤ x4 ∧ x4 < 40) ∧ (h51_3 (d + 1) L I R S Q x1 x2 (iOr x3 (iShl 1 (A 93 x4.toNat))) (x4 + 1))) ∧ (¬ (x4 < A 91 1) → CallI d 72 [.ref 9, .int (oI x3), .int (oI x1)] (bd L I R S) (fun y s => ∃ (y6 : Int) (I4 : mI), y = oI y6 ∧ s = bd L I4 R S ∧ inR y6 ∧ RC R S I4 A ∧ (((y6 = (-1)) → Q (some (.int (oI y6))) (bd L I4 R S)) ∧ (¬ (y6 = (-1)) → inR x2 ∧ (((x2 = 1) → Q (some (.int (oI y6))) (bd L I4 R S)) ∧ (¬ (x2 = 1) → (0 ≤ y6 ∧ y6 < 1024) ∧ (Q (some (.int (oI (btS y6)))) (bd L I4 R S)))))))))) : h51_3 (d + 1) L I R S Q x1 x2 x3 x4 := by
  unfold h51_3
  refine xG gb51.2.2.2.1 ?_
  refine s4 (x := x4) rfl ?_
  refine s6 (p := 8) rfl ?_
  refine s51 sh8 (by decide) (by decide) rf8_1 ?_
  refine s50 (v := A 91 1) sh21 (by decide) (by decide) (rdC hC.1 rfl) ?_
  obtain ⟨g1, hE⟩ := hE
  refine s64 g1 (inC hC.1 (a := 21) (k := 9) rfl) (fun c2 => ?_) (fun c2 => ?_)
  · replace hE := hE.1 c2
    refine s4 (x := x3) rfl ?_
    refine s0 ?_
    refine s6 (p := 8) rfl ?_
    refine s51 sh8 (by decide) (by decide) rf8_1 ?_
    refine s51 sh21 (by decide) (by decide) rf21_1 ?_
    refine s4 (x := x4) rfl ?_
    obtain ⟨g3, hE⟩ := hE
    refine s40 (v := A 93 x4.toNat) sh23 g3 rfl (rdC hC.1 rfl) ?_
    refine s22 ?_
    refine s26 ?_
    refine s7 (ls' := [.ref 8, .int (oI x1), .int (oI x2), .int (oI (iOr x3 (iShl 1 (A 93 x4.toNat)))), .int (oI x4)]) (Nat.le_of_ble_eq_true rfl) rfl ?_
    refine s10 (x := x4) (ls' := [.ref 8, .int (oI x1), .int (oI x2), .int (oI (iOr x3 (iShl 1 (A 93 x4.toNat)))), .int (oI (x4 + 1))]) rfl rfl ?_
    refine s60 ?_
    exact hE
  · replace hE := hE.2 c2
    refine xG gb51.2.2.2.2.1 ?_
    refine s6 (p := 8) rfl ?_
    refine s51 sh8 (by decide) (by decide) rf8_0 ?_
    refine s4 (x := x3) rfl ?_
    refine s4 (x := x1) rfl ?_
    refine sI rc72 rfl (Nat.le_of_ble_eq_true rfl) ?_
    refine CallI.mono hE ?_
    rintro _ _ ⟨y6, I4, rfl, rfl, gy6, q5, hE⟩
    refine s7 (ls' := [.ref 8, .int (oI x1), .int (oI x2), .int (oI x3), .int (oI y6)]) (Nat.le_of_ble_eq_true rfl) rfl ?_
    refine s4 (x := y6) rfl ?_
    refine s0 ?_
    refine s61 gy6 (inRd rfl) (fun c7 => ?_) (fun c7 => ?_)
    · replace hE := hE.1 c7
      refine xG gb51.2.2.2.2.2.1 ?_
      refine s4 (x := y6) rfl ?_
      refine s60 ?_
      refine xG gb51.2.2.2.2.2.2.2 ?_
      refine s80 ?_
      exact hE
    · replace hE := hE.2 c7
      refine s4 (x := x2) rfl ?_
      refine s0 ?_
      obtain ⟨g8, hE⟩ := hE
      refine s62 g8 (inRd rfl) (fun c9 => ?_) (fun c9 => ?_)
      · replace hE := hE.1 c9
        refine s79 ?_
        refine xG gb51.2.2.2.2.2.1 ?_
        refine s4 (x := y6) rfl ?_
        refine s60 ?_
        refine xG gb51.2.2.2.2.2.2.2 ?_
        refine s80 ?_
        exact hE
      · replace hE := hE.2 c9
        refine xG gb51.2.2.2.2.2.2.1 ?_
        refine s4 (x := y6) rfl ?_
        obtain ⟨g10, hE⟩ := hE
        refine sI rc342 rfl (Nat.le_of_ble_eq_true rfl) ?_
        refine k342 g10 ?_
        refine s79 ?_
        refine xG gb51.2.2.2.2.2.2.2 ?_
        refine s80 ?_
        exact hE
section
variable {d L : Nat} {I I0 : mI} {R : mR} {S : mSh} {Q : Option Value → mM → Prop} {A : aS} {c day known kind half year subj code : Int}
theorem or_bit {m s : Nat} (hm : m < 1024) (hs : s < 10) : iOr m (iShl 1 s) = ((m ||| 2 ^ s : Nat) : Int) ∧ m ||| 2 ^ s < 1024 := by
  have h1 : 2 ^ s ≤ 2 ^ 9 := Nat.pow_le_pow_right (by decide) (by omega)
  have e1 := iShl_nat (m := 1) (k := s) (by omega) (by omega)
  rw [Nat.one_mul] at e1
  have e3 : ((1 : Nat) : Int) = 1 := rfl
  rw [e3] at e1
  exact ⟨by rw [e1, iOr_nat (by omega) (by omega)], Nat.or_lt_two_pow (n := 10) (by omega) (by omega)⟩
theorem LvP.succ {lv k s : Nat} (h : LvP A lv k) (hs : s < 10) (he : A 93 k = s) : LvP A (lv ||| 2 ^ s) (k + 1) := by
  refine ⟨(or_bit h.1 hs).2, fun i hi => ?_⟩
  rw [Nat.testBit_or, Bool.or_eq_true, h.2 i hi, Nat.testBit_two_pow, decide_eq_true_eq]
  constructor
  · rintro (⟨c, h1, h2⟩ | h1)
    · exact ⟨c, by omega, h2⟩
    · exact ⟨k, by omega, by omega⟩
  · rintro ⟨c, h1, h2⟩
    by_cases e : c = k
    · subst e
      exact Or.inr (by omega)
    · exact Or.inl ⟨c, by omega, h2⟩
theorem l51 {w what : Int} (hA : WfA A) (hP : WfP A) (hX : WfX A) (hC : RC R S I A) (hw : 0 ≤ w ∧ w ≤ 120) (hwh : 0 ≤ what ∧ what ≤ 1) (hQ : ∀ I1, Fr [19] [] I I1 → Q (some (.int (oI (sitesA A w what)))) (bd L I1 R S)) : ∀ (n k lv : Nat), k + n = (A 91 1).toNat → LvP A lv k → h51_3 (d + 3) L I R S Q w what ((lv : Nat) : Int) k := by
  have w1 := hA.2.1
  have z0 := hX.1
  have hp : 2 ^ (A 91 54).toNat ≤ 2 ^ 10 := Nat.pow_le_pow_right (by decide) (by omega)
  have si : siS A w = -1 ∨ (0 ≤ siS A w ∧ siS A w < 1024) := by
    have := siL_in (A := A) (w := w) (2 ^ (A 91 54).toNat)
    have e : siS A w = siL A w (2 ^ (A 91 54).toNat) := rfl
    rw [e]
    rcases this with h | h
    · exact Or.inl h
    · refine Or.inr ⟨h.1, ?_⟩
      have h3 : ((2 ^ (A 91 54).toNat : Nat) : Int) ≤ ((2 ^ 10 : Nat) : Int) := Int.ofNat_le.mpr hp
      have h4 : ((2 ^ 10 : Nat) : Int) = 1024 := rfl
      omega
  intro n
  induction n with
  | zero =>
    intro k lv hk hl
    refine e51_3 (d := d + 2) hC ⟨⟨by omega, by omega⟩, fun c => by exfalso; omega, fun _ => ?_⟩
    obtain rfl : k = (A 91 1).toNat := by omega
    refine k72 (d := d) hC hA hP hX ⟨by omega, by omega⟩ hl (fun I1 q1 => ?_)
    have q := hQ I1 q1
    have ea : sitesA A w what = if siS A w = -1 ∨ what = 1 then siS A w else btS (siS A w) := by
      unfold sitesA
      rw [if_neg (by omega)]
    refine ⟨siS A w, I1, rfl, rfl, ⟨by omega, by omega⟩, hC.fr q1 rfl, fun c => ?_, fun c => ⟨⟨by omega, by omega⟩, fun c2 => ?_, fun c2 => ⟨by omega, ?_⟩⟩⟩
    · rw [ea, if_pos (Or.inl c)] at q; exact q
    · rw [ea, if_pos (Or.inr c2)] at q; exact q
    · rw [ea, if_neg (by omega)] at q; exact q
  | succ n ih =>
    intro k lv hk hl
    have wp := (hP k (by omega)).2.1
    refine e51_3 (d := d + 2) hC ⟨⟨by omega, by omega⟩, fun c => ⟨by omega, ?_⟩, fun c => by exfalso; omega⟩
    have q9 := ih (k + 1) (lv ||| 2 ^ (A 93 k).toNat) (by omega) (hl.succ (by omega) (by omega))
    rw [← (or_bit hl.1 (by omega)).1, show (((A 93 k).toNat : Nat) : Int) = A 93 k by omega, show ((k + 1 : Nat) : Int) = (k : Int) + 1 by omega] at q9
    exact q9
end
set_option maxRecDepth 4000 in
theorem e51 {d L : Nat} {I : Nat → Nat → Int32} {R : Nat → Nat → Option Nat} {S : List (Nat × Nat)} {K : Int32 → mM → Prop} {A : aS} (hC : RC R S I A) {x1 : Int} {x2 : Int} (hE : inR x1 ∧ (((0 ≤ x1 ∧ x1 ≤ 120) → inR x2 ∧ (((0 ≤ x2 ∧ x2 ≤ 1) → h51_3 (d + 1) L I R S (rqI K) x1 x2 0 0) ∧ (¬ (0 ≤ x2 ∧ x2 ≤ 1) → K (oI (-1)) (bd L I R S)))) ∧ (¬ (0 ≤ x1 ∧ x1 ≤ 120) → K (oI (-1)) (bd L I R S)))) : CallI (d + 1) 51 [.ref 8, .int (oI x1), .int (oI x2)] (bd L I R S) K := by
  refine cI_of (ls := [.ref 8, .int (oI x1), .int (oI x2), mUn, mUn]) rfl ?_
  refine xG gb51.1 ?_
  refine s4 (x := x1) rfl ?_
  refine s0 ?_
  refine s0 ?_
  obtain ⟨g1, hE⟩ := hE
  refine sI rc3 rfl (Nat.le_of_ble_eq_true rfl) ?_
  refine k3 g1 (inRd rfl) (inRd rfl) (fun c2 => ?_) (fun c2 => ?_)
  · replace hE := hE.1 c2
    refine s67 (inRd rfl) (fun c3 => absurd c3 (by decide)) (fun _ => ?_)
    refine s4 (x := x2) rfl ?_
    refine s0 ?_
    refine s0 ?_
    obtain ⟨g4, hE⟩ := hE
    refine sI rc3 rfl (Nat.le_of_ble_eq_true rfl) ?_
    refine k3 g4 (inRd rfl) (inRd rfl) (fun c5 => ?_) (fun c5 => ?_)
    · replace hE := hE.1 c5
      refine s68 (inRd rfl) (fun c6 => absurd c6 (by decide)) (fun _ => ?_)
      refine xG gb51.2.2.1 ?_
      refine s0 ?_
      refine s7 (ls' := [.ref 8, .int (oI x1), .int (oI x2), .int (oI 0), mUn]) (Nat.le_of_ble_eq_true rfl) rfl ?_
      refine s0 ?_
      refine s7 (ls' := [.ref 8, .int (oI x1), .int (oI x2), .int (oI 0), .int (oI 0)]) (Nat.le_of_ble_eq_true rfl) rfl ?_
      refine s79 ?_
      exact hE
    · replace hE := hE.2 c5
      refine s68 (inRd rfl) (fun _ => ?_) (fun c7 => absurd (by decide) c7)
      refine s79 ?_
      refine xG gb51.2.1 ?_
      refine s0 ?_
      refine s80 ?_
      exact rqI_of hE
  · replace hE := hE.2 c2
    refine s67 (inRd rfl) (fun _ => ?_) (fun c8 => absurd (by decide) c8)
    refine xG gb51.2.1 ?_
    refine s0 ?_
    refine s80 ?_
    exact rqI_of hE
set_option maxRecDepth 4000 in
theorem q51 {d L n : Nat} {I : mI} {R : mR} {S : mSh} {A : aS} {K : Int32 → mM → Prop} {x1 : Int} {x2 : Int} (hX : CX R S I A n) (hW : WF A) (hn : n ≤ 100000) (rx1 : inR x1) (rx2 : inR x2) (hK : ∀ I1, FK I I1 → CX R S I1 A (n + 1) → K (oI (sitesA A x1 x2)) (bd L I1 R S)) : CallI (d + 3) 51 [.ref 8, .int (oI x1), .int (oI x2)] (bd L I R S) K := by
  have hC := hX.1
  have hA := hW.1
  have w0 := hA.1
  have w1 := hA.2.1
  have w2 := hA.2.2.1
  have w3 : 0 ≤ A 91 3 ∧ A 91 3 ≤ 850 := hA.2.2.2.1
  have ty := today_year hA
  have c9 := hX.2.2.2.1
  refine e51 (d := d + 2) hC ?_
  refine ⟨by first | assumption | exact inRd rfl | omega | exact ⟨by omega, by omega⟩ | (unfold WnOk; omega) | exact hW.1 | exact hW.2.1 | exact hW.2.2.1 | exact hW.2.2.2.1 | exact hW.2.2.2.2.1 | exact hW.2.2.2.2.2.2.2.2.2.1 | exact hW.2.2.2.2.2.2.2.2.2.2.1 | (constructor <;> omega), ?_⟩
  refine ⟨fun c1 => ?_, fun c1 => ?_⟩
  · refine ⟨by first | assumption | exact inRd rfl | omega | exact ⟨by omega, by omega⟩ | (unfold WnOk; omega) | exact hW.1 | exact hW.2.1 | exact hW.2.2.1 | exact hW.2.2.2.1 | exact hW.2.2.2.2.1 | exact hW.2.2.2.2.2.2.2.2.2.1 | exact hW.2.2.2.2.2.2.2.2.2.2.1 | (constructor <;> omega), ?_⟩
    refine ⟨fun c2 => ?_, fun c2 => ?_⟩
    · refine l51 (d := d) (I := I) hA hW.2.1 hW.2.2.2.2.1 hC (by omega) (by omega) (fun I1 q1 => ?_) (A 91 1).toNat 0 0 (by omega) ⟨by decide, fun i hi => ?_⟩
      · exact rqI_of (hK I1 (Fr.FK q1 rfl) (CX.up (hX.fr q1 rfl rfl) (Nat.le_succ n)))
      · rw [Nat.zero_testBit]
        exact ⟨fun h => Bool.noConfusion h, fun ⟨c, h, _⟩ => absurd h (Nat.not_lt_zero c)⟩
    · have ho : sitesA A x1 x2 = (-1) := by
        unfold sitesA
        repeat' split
        all_goals first | (exfalso; omega) | with_reducible rfl | omega
      rw [ho] at hK
      exact hK I (FK.refl I) (hX.up (Nat.le_succ n))
  · have ho : sitesA A x1 x2 = (-1) := by
      unfold sitesA
      repeat' split
      all_goals first | (exfalso; omega) | with_reducible rfl | omega
    rw [ho] at hK
    exact hK I (FK.refl I) (hX.up (Nat.le_succ n))
