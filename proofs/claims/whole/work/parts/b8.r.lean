section
variable {d L : Nat} {I I0 : mI} {R : mR} {S : mSh} {Q : Option Value → mM → Prop} {A : aS} {c day known kind half year subj code : Int}
/-- what the register holds of a child over its window -/
def RgP (A : aS) (I : mI) (c f t kn : Int) : Prop := WnOk f t kn ∧ WnP I f t kn ∧ ShP A I f t kn ∧ LyP A I c f t kn ∧ ld I 59 16 = c
theorem WnP.fr {f t kn : Int} {I1 : mI} {ws : List Nat} {os : List (Nat × Nat)} (h : WnP I f t kn) (hf : Fr ws os I I1) (h1 : (ws.contains 59 || os.contains (59, 13)) = false) (h2 : (ws.contains 59 || os.contains (59, 14)) = false) (h3 : (ws.contains 59 || os.contains (59, 15)) = false) : WnP I1 f t kn := ⟨(hf.ld h1).trans h.1, (hf.ld h2).trans h.2.1, (hf.ld h3).trans h.2.2⟩
theorem ShP.fr {f t kn : Int} {I1 : mI} {ws : List Nat} {os : List (Nat × Nat)} (h : ShP A I f t kn) (hf : Fr ws os I I1) (h1 : ∀ k, (ws.contains 68 || os.contains (68, k)) = false) : ShP A I1 f t kn := fun i hi s hs => by rw [hf.ld (h1 i)]; exact h i hi s hs
theorem LyP.fr {f t kn : Int} {I1 : mI} {ws : List Nat} {os : List (Nat × Nat)} (h : LyP A I c f t kn) (hf : Fr ws os I I1) (hp : ∀ j, (ws.contains 62 || os.contains (62, j)) = false ∧ (ws.contains 64 || os.contains (64, j)) = false ∧ (ws.contains 65 || os.contains (65, j)) = false ∧ (ws.contains 66 || os.contains (66, j)) = false ∧ (ws.contains 67 || os.contains (67, j)) = false) : LyP A I1 c f t kn := by
  intro i hi
  rw [hf.ld (hp _).1, hf.ld (hp _).2.1, hf.ld (hp _).2.1, hf.ld (hp _).2.2.1, hf.ld (hp _).2.2.2.1, hf.ld (hp _).2.2.2.2]
  exact h i hi
theorem RgP.fr {f t kn : Int} {I1 : mI} {ws : List Nat} {os : List (Nat × Nat)} (h : RgP A I c f t kn) (hf : Fr ws os I I1) (h1 : (ws.contains 59 || os.contains (59, 13)) = false) (h2 : (ws.contains 59 || os.contains (59, 14)) = false) (h3 : (ws.contains 59 || os.contains (59, 15)) = false) (h4 : (ws.contains 59 || os.contains (59, 16)) = false) (h5 : ∀ k, (ws.contains 68 || os.contains (68, k)) = false) (hp : ∀ j, (ws.contains 62 || os.contains (62, j)) = false ∧ (ws.contains 64 || os.contains (64, j)) = false ∧ (ws.contains 65 || os.contains (65, j)) = false ∧ (ws.contains 66 || os.contains (66, j)) = false ∧ (ws.contains 67 || os.contains (67, j)) = false) : RgP A I1 c f t kn := ⟨h.1, h.2.1.fr hf h1 h2 h3, h.2.2.1.fr hf h5, h.2.2.2.1.fr hf hp, (hf.ld h4).trans h.2.2.2.2⟩
theorem RgP.f60 {f t kn : Int} {I1 : mI} (h : RgP A I c f t kn) (hf : Fr [60] [] I I1) : RgP A I1 c f t kn := h.fr hf rfl rfl rfl rfl (fun _ => rfl) (fun _ => ⟨rfl, rfl, rfl, rfl, rfl⟩)
theorem mkL_in (hW : WfA A) : ∀ k, k ≤ nN A → 0 ≤ mkL' A c half known k ∧ mkL' A c half known k ≤ 3
  | 0, _ => by show (0 : Int) ≤ 0 ∧ (0 : Int) ≤ 3; omega
  | k + 1, h => by
    have ih := mkL_in hW k (by omega)
    rw [mkL_succ]
    split
    · rename_i q; have := (hW.2.2.2.2 k (by omega)).2.2.2.2.2.1 q.1; omega
    · exact ih
theorem mkS_in (hW : WfA A) : 0 ≤ mkS A c half known ∧ mkS A c half known ≤ 3 := mkL_in hW _ (Nat.le_refl _)
theorem putE_comm {h : Nat → Int} {a b : Nat} {x y : Int} (hab : ¬ a = b) : putE (putE h a x) b y = putE (putE h b y) a x := by
  funext i
  unfold putE
  by_cases e1 : i = b
  · rw [if_pos e1, if_neg (by omega), if_pos e1]
  · rw [if_neg e1]
    by_cases e2 : i = a
    · rw [if_pos e2, if_pos e2]
    · rw [if_neg e2, if_neg e2, if_neg e1]
theorem td100 (h : 0 ≤ day ∧ day ≤ 799) : (0 ≤ Int.tdiv day 100 ∧ Int.tdiv day 100 ≤ 7) ∧ (0 ≤ day - Int.tdiv day 100 * 100 ∧ day - Int.tdiv day 100 * 100 < 100) := by
  rw [Int.tdiv_eq_ediv_of_nonneg h.1]; omega
theorem iShr00 : ∀ o : Fin 6, iAnd (iShr 0 (o.val : Int)) 1 = 0 := by decide +kernel
theorem feF_0 {h : Nat → Int} (hC : WfC A) : ∀ f n, feF A h code 0 f n = -1
  | 0, n => rfl
  | f + 1, n => by
    have e : feF A h code 0 (f + 1) n = cond (feC A h code 0 n) (n : Int) (feF A h code 0 f (n + 1)) := rfl
    rw [e]
    have e2 : feC A h code 0 n = false := by
      cases hb : feC A h code 0 n with
      | false => rfl
      | true =>
        unfold feC at hb
        simp only [Bool.and_eq_true, Bool.not_eq_true', beq_eq_false_iff_ne, beq_iff_eq] at hb
        obtain ⟨s, s1, s2, s3, s4, s5, -⟩ := cdS_wf hC hb.1
        have hb2 := hb.2
        rw [s1, Int.toNat_natCast] at hb2
        have w := s3.2.2 s5
        have w1 := w.1 (by omega)
        have w2 := (w.2.2.2.2.1 hb2.1).1
        have := iShr00 ⟨(A 141 s).toNat, by omega⟩
        dsimp only at this
        rw [show (((A 141 s).toNat : Nat) : Int) = A 141 s by omega] at this
        rw [this] at hb2
        exact absurd hb2.2.1 (by decide)
    rw [e2, cond_false]
    exact feF_0 hC f (n + 1)
theorem feS_0 {h : Nat → Int} (hC : WfC A) : feS A h code 0 = -1 := feF_0 hC 60 1
theorem k149 {f t kn : Int} {K : Int32 → mM → Prop} (hC : RC R S I A) (hW : WfA A) (hWC : WfC A) (hP : WfP A) (hr : RgP A I c f t kn) (hc : 0 ≤ c ∧ c < A 91 1) (hd : f ≤ day ∧ day ≤ t) (hh : 0 ≤ half ∧ half ≤ 1) (hcd : 0 ≤ code ∧ code ≤ 7) (hK : ∀ I1, Fr [60] [] I I1 → K (oI (qtS A c (Int.tdiv day 100) (day - Int.tdiv day 100 * 100) half code (ld I 69 (Int.tdiv day 100).toNat) kn)) (bd L I1 R S)) : CallI (d + 25) 149 [.ref 59, .int (oI day), .int (oI half), .int (oI code)] (bd L I R S) K := by
  obtain ⟨hw, ⟨n1, n2, n3⟩, hs, hl, h16⟩ := hr
  unfold WnOk at hw
  have h40 := hW.2.1
  have td := td100 (day := day) (by omega)
  have ag := ageC_in hP hc (day := day) (by omega)
  have on := onS_in hW (c := c) (day := day) (known := kn)
  have mk := mkS_in hW (c := c) (half := 2 * day + half) (known := kn)
  have kd := kdS_lt hW (c := c) (day := day) (known := kn)
  have ei : f + ((day - f).toNat : Int) = day := by omega
  obtain ⟨l1, l2, ⟨l3, l4⟩, l5, l6⟩ := hl (day - f).toNat (by omega)
  have sh := hs (day - f).toNat (by omega)
  rw [ei] at l1 l2 l3 l4 l5 l6 sh
  have lm : ld I 64 ((day - f) * 2 + half).toNat = mkS A c (2 * day + half) kn := by
    by_cases e : half = 0
    · rw [e, show ((day - f) * 2 + 0).toNat = 2 * (day - f).toNat by omega, l5, Int.add_zero]
    · rw [show half = 1 by omega, show ((day - f) * 2 + 1).toNat = 2 * (day - f).toNat + 1 by omega, l6]
  have ed : 100 * Int.tdiv day 100 + (day - Int.tdiv day 100 * 100) = day := by omega
  have hq : qtS A c (Int.tdiv day 100) (day - Int.tdiv day 100 * 100) half code (ld I 69 (Int.tdiv day 100).toNat) kn = if onS A c day kn = -1 ∨ spS A 1 (onS A c day kn) day kn = true then 0 else seS A code (if mkS A c (2 * day + half) kn = 0 then feS A (qE A c (Int.tdiv day 100) (day - Int.tdiv day 100 * 100) half (ld I 69 (Int.tdiv day 100).toNat) kn) code (kdS A c day kn) else fsS A (qE A c (Int.tdiv day 100) (day - Int.tdiv day 100 * 100) half (ld I 69 (Int.tdiv day 100).toNat) kn) code 1 (mkS A c (2 * day + half) kn)) := by
    unfold qtS qnS
    rw [ed]
  rw [hq] at hK
  have r1 : inR (max 0 (Int.tdiv (day - A 92 c.toNat) 100)) := by unfold inR; omega
  have r2 : inR (day - Int.tdiv day 100 * 100) := by unfold inR; omega
  have r3 : inR (Int.tdiv day 100) := by unfold inR; omega
  have r4 : inR half := by unfold inR; omega
  have env : ∀ (I1 : mI) (ex : Int), (∀ j : Nat, j < 12 → ld I1 60 j = 0) → ex = (if kdS A c day kn = 0 then 0 else 1) → EnvC 60 (u2 (u2 (u2 (u2 (u2 (u2 (u2 (u2 I1 60 1 (oI (max 0 (Int.tdiv (day - A 92 c.toNat) 100)))) 60 2 (oI (ld I 69 (Int.tdiv day 100).toNat))) 60 3 (oI (day - Int.tdiv day 100 * 100))) 60 4 (oI (Int.tdiv day 100))) 60 6 (oI (bI (spS A 4 c day kn)))) 60 0 (oI half)) 60 5 (oI ex)) 60 11 (oI (bI (spS A 5 c day kn)))) (qE A c (Int.tdiv day 100) (day - Int.tdiv day 100 * 100) half (ld I 69 (Int.tdiv day 100).toNat) kn) := by
    intro I1 ex hz hex
    have e0 := ((((((((EnvC.zero hz).put (k := 0) (j := 1) (by decide) r1 (by decide)).put (k := 1) (j := 2) (by decide) (ld_inR I 69 (Int.tdiv day 100).toNat) (by decide)).put (k := 2) (j := 3) (by decide) r2 (by decide)).put (k := 3) (j := 4) (by decide) r3 (by decide)).put (k := 6) (j := 6) (by decide) (bI_in (spS A 4 c day kn)) (by decide)).put (k := 4) (j := 0) (by decide) r4 (by decide)).put (k := 5) (j := 5) (v := ex) (by decide) (by rw [hex]; exact ite_in (inRd rfl) (inRd rfl)) (by decide)).put (k := 11) (j := 11) (by decide) (bI_in (spS A 5 c day kn)) (by decide)
    rw [putE_comm (a := 6) (b := 4) (by decide), putE_comm (a := 6) (b := 5) (by decide), hex] at e0
    unfold qE ageS
    rw [ed]
    rw [hex]
    exact e0
  refine e149 (d := d) hC ?_
  rw [n1, n2, l1, l2, lm]
  refine ⟨by unfold inR; omega, fun _ => ⟨by omega, fun q => ?_, fun q => ⟨fun q2 => ⟨by unfold inR; omega, fun _ => ⟨by omega, fun q3 => ⟨fun q4 => ?_, fun q4 I1 f1 z1 => ?_⟩, fun q3 I1 f1 z1 => ?_⟩, fun q3 => absurd hh q3⟩, fun q2 => ?_⟩⟩, fun q => absurd hd q⟩
  · have := hK I (Fr.refl _ _ _)
    rw [if_pos (Or.inl q)] at this; exact this
  all_goals
    have hon := sh (onS A c day kn).toNat (by omega)
    unfold btB at hon
    rw [show (((onS A c day kn).toNat : Nat) : Int) = onS A c day kn by omega] at hon
  · rw [q2] at hon
    have hsp : ¬ (onS A c day kn = -1 ∨ spS A 1 (onS A c day kn) day kn = true) := by
      rintro (x | x)
      · exact q x
      · rw [x] at hon; exact absurd hon (by decide)
    have := hK I (Fr.refl _ _ _)
    rw [if_neg hsp, if_pos q3, q4, feS_0 hWC] at this
    exact this
  · rw [q2] at hon
    have hsp : ¬ (onS A c day kn = -1 ∨ spS A 1 (onS A c day kn) day kn = true) := by
      rintro (x | x)
      · exact q x
      · rw [x] at hon; exact absurd hon (by decide)
    rw [if_neg hsp, if_pos q3] at hK
    rw [f1.ld rfl, f1.ld rfl, f1.ld rfl, f1.ld rfl, f1.ld rfl, n1, h16, l3, l4]
    refine ⟨by omega, ag.1, by unfold inR; omega, by omega, by omega, hWC, hcd, _, env I1 1 z1 (by rw [if_neg q4]), ?_⟩
    rw [tlS_exc hWC kd]
    exact hK _ ((((((((f1.wr rfl).wr rfl).wr rfl).wr rfl).wr rfl).wr rfl).wr rfl).wr rfl)
  · rw [q2] at hon
    have hsp : ¬ (onS A c day kn = -1 ∨ spS A 1 (onS A c day kn) day kn = true) := by
      rintro (x | x)
      · exact q x
      · rw [x] at hon; exact absurd hon (by decide)
    rw [if_neg hsp, if_neg q3] at hK
    rw [f1.ld rfl, f1.ld rfl, f1.ld rfl, f1.ld rfl, f1.ld rfl, n1, h16, l3, l4]
    refine ⟨by omega, ag.1, by unfold inR; omega, by omega, by omega, hWC, hcd, _, env I1 _ z1 rfl, ?_⟩
    rw [show (130 : Int) = ckd 1 from rfl, tlS_key hWC (by omega) (by omega)]
    exact hK _ ((((((((f1.wr rfl).wr rfl).wr rfl).wr rfl).wr rfl).wr rfl).wr rfl).wr rfl)
  · have hsp : spS A 1 (onS A c day kn) day kn = true := by
      rw [← hon, Bool.not_eq_true']
      exact beq_eq_false_iff_ne.mpr q2
    have := hK I (Fr.refl _ _ _)
    rw [if_pos (Or.inr hsp)] at this; exact this
end
