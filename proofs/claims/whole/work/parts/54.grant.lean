section
variable {d L : Nat} {I I0 : mI} {R : Nat → Nat → Option Nat} {S : List (Nat × Nat)} {Q : Option Value → mM → Prop} {A : aS} {c day known kind half year subj code : Int}
theorem RM.scr' {a k : Nat} {x : Int32} (h : RM I A) (hp : (pm a k || a == 151 || (a == 91 && k == 87)) = false) : RM (u2 I a k x) A := h.scr hp
theorem fr1 (I : mI) (a k : Nat) (x : Int32) : Fr [] [(a, k)] I (u2 I a k x) := (Fr.refl _ _ _).wr (by simp)
theorem frA (I : mI) (a k : Nat) (x : Int32) : Fr [a] [] I (u2 I a k x) := (Fr.refl _ _ _).wr (by simp)
/-- behind the children's lines -/
theorem l260_19 {school : Int} (hW : WfA A) (hC : WfC A) (hP : WfP A) (hT : WfT A) (hy : 0 ≤ year ∧ year ≤ 7) (hcd : 0 ≤ code ∧ code ≤ 7) (hkn : inR known) (hK : ∀ I1, Fr [111, 112, 113, 114, 115, 116, 117, 118, 119, 120, 150, 151] [(91, 34), (91, 35), (91, 36), (91, 37), (91, 38), (91, 39), (91, 87)] I0 I1 → RM I1 A → LinesI I1 (gtL A school year code known) → ld I1 91 35 = ld I0 91 35 → ld I1 91 36 = ld I0 91 36 → ld I1 91 37 = ld I0 91 37 → ld I1 91 38 = ld I0 91 38 → Q none (bd L I1 R S)) (hav : ld I0 91 35 = avS A school year code known) (hyv : ∀ k : Nat, k < (A 91 1).toNat → ld I0 120 k = yvS A school k year code known) : ∀ (n k : Nat) (I : mI) (w1 w5 w6 w8 w9 : Value), k + n = (A 91 1).toNat → RM I A → Fr [117, 118, 119, 150, 151] [(91, 34), (91, 39), (91, 87)] I0 I → LinesI I (ghL A year code (pfS A school year code known) 60 ++ gaL A school year code known k) → h260_19 (d + 30) L I R S Q w1 year code known w5 w6 k w8 w9 := by
  have hW1 := hW.2.1
  have pfi := pfS_in hW hC hT (school := school) (year := year) (code := code) (known := known)
  have avi := avS_in hW hC (school := school) (year := year) (code := code) (known := known)
  have hg := ghL_b hC (year := year) (code := code) pfi 60
  intro n
  induction n with
  | zero =>
    intro k I w1 w5 w6 w8 w9 hk hR hf hl
    have ek : k = (A 91 1).toNat := by omega
    rw [ek] at hl
    have ha := gaL_b hC (year := year) (code := code) (known := known) (school := school) (A 91 1).toNat
    have hb : LnB (gbL A school year code known) := hg.1.app ha.1
    have hlen : (gbL A school year code known).length ≤ 2460 := by unfold gbL; rw [List.length_append]; omega
    have hsum := hb.sum
    have hl : LinesI I (gbL A school year code known) := hl
    refine e260_19 hR ⟨⟨by omega, by omega⟩, fun h => by exfalso; omega, fun _ => ⟨hC, hcd, fun I1 hf1 hR1 => ?_⟩⟩
    have fin : ∀ I2, RM I2 A → Fr [117, 118, 119, 150, 151] [(91, 34), (91, 39), (91, 87)] I0 I2 → LinesI I2 (gtL A school year code known) → Q none (bd L I2 R S) := fun I2 h1 h2 h3 => hK I2 (h2.sub rfl rfl) h1 h3 (h2.ld rfl) (h2.ld rfl) (h2.ld rfl) (h2.ld rfl)
    have f01 : Fr [117, 118, 119, 150, 151] [(91, 34), (91, 39), (91, 87)] I0 I1 := hf.trans (hf1.sub rfl rfl)
    have hl1 := hl.fr hf1 rfl rfl (fun _ => rfl) (fun _ => rfl) (fun _ => rfl)
    rcases lsS_prop hC (y := code) (kind := 7) with q | ⟨m, s, q1, q2, q3, q4, q5, q6, q7, q8⟩
    · rw [q]
      refine ⟨inRd rfl, fun _ => fin I1 hR1 f01 ?_, fun h => absurd rfl h⟩
      unfold gtL; rw [if_pos q]; exact hl1
    · have w := (q6.2.2 q7).1 (by omega)
      have en := ls_nu hC q4
      have eg : gtL A school year code known = if A 141 s * avS A school year code known < lnSum (gbL A school year code known) then gbL A school year code known ++ [(-1, (m : Int), A 141 s * avS A school year code known - lnSum (gbL A school year code known))] else gbL A school year code known := by
        unfold gtL; rw [q1, if_neg (by omega), en]
      rw [q1]
      refine ⟨⟨by omega, by omega⟩, fun h => by exfalso; omega, fun _ => ⟨by omega, fun I2 hf2 hR2 => ?_⟩⟩
      have hl2 := hl1.fr hf2 rfl rfl (fun _ => rfl) (fun _ => rfl) (fun _ => rfl)
      have f02 := f01.trans (hf2.sub (ws' := [117, 118, 119, 150, 151]) (os' := [(91, 34), (91, 39), (91, 87)]) rfl rfl)
      have e35 : ld I2 91 35 = avS A school year code known := (f02.ld rfl).trans hav
      have e39 : ld I2 91 39 = lnSum (gbL A school year code known) := ld_of hl2.2.2.1 ⟨by omega, by omega⟩
      rw [q4, Int.toNat_natCast, e35, e39]
      have hm : 0 ≤ A 141 s * avS A school year code known ∧ A 141 s * avS A school year code known ≤ 9999 * 40 := ⟨Int.mul_nonneg w.1 avi.1, Int.mul_le_mul w.2 avi.2 avi.1 (by omega)⟩
      refine ⟨by omega, ⟨by omega, by omega⟩, fun hc => ⟨⟨by omega, by omega⟩, _, hl2, by omega, fun I3 hf3 hl3 => ?_⟩, fun hc => ?_⟩
      · refine fin I3 (hR2.fr hf3 rfl rfl (fun _ => rfl)) (f02.trans (hf3.sub rfl rfl)) ?_
        rw [eg, if_pos hc]; exact hl3
      · refine fin I2 hR2 f02 ?_
        rw [eg, if_neg hc]; exact hl2
  | succ n ih =>
    intro k I w1 w5 w6 w8 w9 hk hR hf hl
    have hv := (hf.ld (a := 120) (k := k) rfl).trans (hyv k (by omega))
    have ha := gaL_b hC (year := year) (code := code) (known := known) (school := school) k
    have es : gaL A school year code known (k + 1) = gaL A school year code known k ++ (if yvS A school k year code known = -1 then [] else gcS A k year code known (yvS A school k year code known)) := rfl
    refine e260_19 hR ?_
    simp only [Int.toNat_natCast, hv]
    refine ⟨⟨by omega, by omega⟩, fun h => ⟨by omega, fun c1 => ?_, fun c1 => ⟨hW, hC, hP, by omega, hy, hcd, hkn, _, hl, ?_, fun I1 hf1 hR1 hl1 => ?_⟩⟩, fun h => by exfalso; omega⟩
    · refine ih (k + 1) I w1 w5 (mNl w6) w8 w9 (by omega) hR hf ?_
      rw [es, if_pos c1, List.append_nil]; exact hl
    · rw [List.length_append]; omega
    · refine ih (k + 1) I1 w1 w5 (mNl w6) w8 w9 (by omega) hR1 (hf.trans hf1) ?_
      rw [es, if_neg c1, ← List.append_assoc]; exact hl1
theorem l260_16 {school : Int} (hW : WfA A) (hC : WfC A) (hP : WfP A) (hT : WfT A) (hy : 0 ≤ year ∧ year ≤ 7) (hcd : 0 ≤ code ∧ code ≤ 7) (hkn : inR known) (hK : ∀ I1, Fr [111, 112, 113, 114, 115, 116, 117, 118, 119, 120, 150, 151] [(91, 34), (91, 35), (91, 36), (91, 37), (91, 38), (91, 39), (91, 87)] I0 I1 → RM I1 A → LinesI I1 (gtL A school year code known) → ld I1 91 35 = ld I0 91 35 → ld I1 91 36 = ld I0 91 36 → ld I1 91 37 = ld I0 91 37 → ld I1 91 38 = ld I0 91 38 → Q none (bd L I1 R S)) (hav : ld I0 91 35 = avS A school year code known) (hyv : ∀ k : Nat, k < (A 91 1).toNat → ld I0 120 k = yvS A school k year code known) : ∀ (n k : Nat) (I : mI) (w1 w5 w8 w9 : Value), k + n = 60 → RM I A → EnvI I (putE zE 3 year) → Fr [117, 118, 119, 150, 151] [(91, 34), (91, 39), (91, 87)] I0 I → LinesI I (ghL A year code (pfS A school year code known) k) → h260_16 (d + 30) L I R S Q w1 year code known w5 (pfS A school year code known) ((k : Int) + 1) w8 w9 := by
  have pfi := pfS_in hW hC hT (school := school) (year := year) (code := code) (known := known)
  intro n
  induction n with
  | zero =>
    intro k I w1 w5 w8 w9 hk hR he hf hl
    refine e260_16 (d := d + 3) hR ⟨⟨by omega, by omega⟩, fun _ => ?_, fun h => by exfalso; omega⟩
    refine l260_19 (d := d) hW hC hP hT hy hcd hkn hK hav hyv (A 91 1).toNat 0 I _ _ _ _ _ (by omega) hR hf ?_
    rw [show k = 60 by omega] at hl
    have : ghL A year code (pfS A school year code known) 60 ++ gaL A school year code known 0 = ghL A year code (pfS A school year code known) 60 := List.append_nil _
    rw [this]; exact hl
  | succ n ih =>
    intro k I w1 w5 w8 w9 hk hR he hf hl
    have hg := ghL_b hC (year := year) (code := code) pfi k
    have es : ghL A year code (pfS A school year code known) (k + 1) = ghL A year code (pfS A school year code known) k ++ (if grB A (putE zE 3 year) code (k + 1 : Nat) (-2) = true then [(-1, ((k + 1 : Nat) : Int), nuS A code (k + 1 : Nat) * pfS A school year code known)] else []) := rfl
    have ek : ((k + 1 : Nat) : Int) = (k : Int) + 1 := by omega
    rw [ek] at es
    refine e260_16 (d := d + 3) hR ⟨⟨by omega, by omega⟩, fun h => by exfalso; omega, fun _ => ⟨hC, hcd, by omega, putE zE 3 year, he, fun c1 I1 hf1 hR1 I2 hf2 hR2 => ?_, fun c1 I1 hf1 hR1 => ?_⟩⟩
    · have ci := cdS_in hC (y := code) (n := (k : Int) + 1)
      have hnu := nu_in hC c1
      unfold nuS at hnu
      have hm : 0 ≤ A 141 (cdS A code ((k : Int) + 1)).toNat * pfS A school year code known ∧ A 141 (cdS A code ((k : Int) + 1)).toNat * pfS A school year code known ≤ 9999 * 40 := ⟨Int.mul_nonneg hnu.1 pfi.1, Int.mul_le_mul hnu.2 pfi.2 pfi.1 (by omega)⟩
      have hcn : ¬ cdS A code ((k : Int) + 1) = -1 := by
        intro h; unfold grB at c1; rw [h] at c1; simp at c1
      refine ⟨by omega, ⟨by omega, by omega⟩, _, (hl.fr hf1 rfl rfl (fun _ => rfl) (fun _ => rfl) (fun _ => rfl)).fr hf2 rfl rfl (fun _ => rfl) (fun _ => rfl) (fun _ => rfl), by omega, fun I3 hf3 hl3 => ?_⟩
      have q := ih (k + 1) I3 w1 w5 w8 w9 (by omega) (hR2.fr hf3 rfl rfl (fun _ => rfl)) (((he.fr hf1 (fun _ => rfl)).fr hf2 (fun _ => rfl)).fr hf3 (fun _ => rfl)) (hf.trans ((hf1.sub rfl rfl).trans ((hf2.sub rfl rfl).trans (hf3.sub rfl rfl)))) (by rw [es, if_pos c1]; exact hl3)
      exact q
    · exact ih (k + 1) I1 w1 w5 w8 w9 (by omega) hR1 (he.fr hf1 (fun _ => rfl)) (hf.trans (hf1.sub rfl rfl)) (by rw [es, if_neg c1, List.append_nil]; exact hl.fr hf1 rfl rfl (fun _ => rfl) (fun _ => rfl) (fun _ => rfl))
end
