section
variable {d L : Nat} {I I0 : mI} {R : mR} {S : mSh} {Q : Option Value → mM → Prop} {A : aS} {c day known kind half year subj code : Int}
theorem EnvC.z910 {e : Nat → Int} (h : EnvC 60 I e) (h9 : e 9 = 0) (h10 : e 10 = 0) : EnvC 60 (u2 (u2 I 60 9 (oI 0)) 60 10 (oI 0)) e :=
  ((h.put (k := 9) (j := 9) (v := 0) (by decide) (inRd rfl) (by decide)).put (k := 10) (j := 10) (v := 0) (by decide) (inRd rfl) (by decide)).eq (fun i hi => by
    unfold putE
    split
    · rename_i e1; rw [e1, h10]
    · split
      · rename_i e1; rw [e1, h9]
      · rfl)
theorem ckd6 {b : Int} (hb : 0 ≤ b ∧ b ≤ 15) (h : ckd b = 130 + ((5 : Nat) : Int)) : b = 6 := by
  unfold ckd at h
  split at h
  · omega
  · split at h <;> omega
theorem ckd7 {b : Int} (hb : 0 ≤ b ∧ b ≤ 15) (h : ckd b = 130 + ((6 : Nat) : Int)) : b = 7 := by
  unfold ckd at h
  split at h
  · omega
  · split at h <;> omega
theorem grB_no {h : Nat → Int} {y n : Nat} {per : Int} (hC : WfC A) (hb : isK A y 5 n = false) : grB A h y n per = false := by
  unfold grB
  by_cases q : cdS A y n = -1
  · rw [q]; rfl
  · obtain ⟨s, s1, s2, s3, s4, s5, -⟩ := cdS_wf hC q
    have := seg_not hb s1
    rw [s1, Int.toNat_natCast]
    have e : ¬ A 140 s = 6 := fun e => this (by rw [e]; rfl)
    rw [show (A 140 s == 6) = false from beq_eq_false_iff_ne.mpr e, Bool.false_and, Bool.and_false]
theorem grB_yes {h : Nat → Int} {y n s : Nat} {per : Int} (hs : cdS A y n = (s : Int)) (h6 : A 140 s = 6) : grB A h y n per = (A 142 s == per && hdB A h s) := by
  unfold grB
  rw [hs, Int.toNat_natCast, h6, show (!((s : Int) == -1)) = true by rw [Bool.not_eq_true']; exact beq_eq_false_iff_ne.mpr (by omega)]
  rfl
theorem l163 {y : Nat} {pf : Int} {h : Nat → Int} {l0 : List Ln} (hWC : WfC A) (hy : y < 8) (hpf : 0 ≤ pf ∧ pf ≤ 40) (hh : h = putE zE 3 year) (hl0 : l0.length + 60 ≤ 2461) (hK : ∀ I1, Fr [71, 72, 73] [(70, 9), (70, 14)] I0 I1 → LinesC I1 (l0 ++ ghL A year y pf 60) → Q none (bd L I1 R S)) : ∀ (f n : Nat) (I : mI) (w : Value), n + f = 60 → Fr [71, 72, 73] [(70, 9), (70, 14)] I0 I → RC R S I A → EnvC 60 I h → LinesC I (l0 ++ ghL A year y pf n) → h163_3 (d + 25) L I R S Q pf ((bsY A y + stK A y 6 : Nat) : Int) ((bsY A y + stK A y 5 + cnt (isK A y 5) n : Nat) : Int) w := by
  have hst : stK A y 6 = stK A y 5 + cnt (isK A y 5) 60 := rfl
  have hle := stK_le (A := A) (y := y) (k := 6)
  have hbs := bsY_le (A := A) (y := y)
  have hgl := fun n => (ghL_b hWC (year := year) (code := (y : Int)) hpf n).2
  intro f
  induction f with
  | zero =>
    intro n I w hn hf hC hE hl
    obtain rfl : n = 60 := by omega
    exact e163_3 (d := d + 24) hC ⟨by unfold inR; omega, by unfold inR; omega, fun q => by exfalso; omega, fun _ => hK I hf hl⟩
  | succ f ih =>
    intro n I w hn hf hC hE hl
    have hgn := hgl n
    have eg : ghL A year y pf (n + 1) = ghL A year y pf n ++ (if grB A (putE zE 3 year) y (n + 1 : Nat) (-2) = true then [(-1, ((n + 1 : Nat) : Int), nuS A y (n + 1 : Nat) * pf)] else []) := rfl
    cases hb : isK A y 5 (n + 1) with
    | false =>
      rw [← seg_no hb]
      refine ih (n + 1) I w (by omega) hf hC hE ?_
      rw [eg, grB_no hWC hb, if_neg (by decide), List.append_nil]; exact hl
    | true =>
      obtain ⟨q, s, r1, r2, r3, r4, r5, r6, r7, r8, r9, r10⟩ := seg_yes hC hWC hy (by decide) (by omega) hb
      have h6 := ckd6 r4.2.1 r7
      obtain ⟨o1, o2, o3, o4, o5⟩ := r8
      obtain ⟨a1, a2, a3, -⟩ := o5 r6
      have ix : ((bsY A y + stK A y 5 + cnt (isK A y 5) n : Nat) : Int) + 1 = ((bsY A y + stK A y 5 + cnt (isK A y 5) (n + 1) : Nat) : Int) := by rw [r9]; omega
      have w1 := (r4.2.2 r6).1 (by omega)
      have w2 := (r4.2.2 r6).2.2.1 h6
      have e3 : cVal (A 140 s) (A 141 s) (A 142 s) = A 141 s := by unfold cVal; rw [if_neg (by omega), if_neg (by omega)]
      have ep : cPer (A 140 s) (A 142 s) = 159 ↔ A 142 s = -2 := by
        unfold cPer
        rw [if_pos h6]
        constructor
        · intro x; split at x
          · assumption
          · split at x <;> omega
        · intro x; rw [if_pos x]
      have enu : nuS A y (n + 1 : Nat) = A 141 s := by unfold nuS; rw [r2, Int.toNat_natCast]
      have hm : A 141 s * pf ≤ 9999 * 40 := Int.mul_le_mul w1.2 hpf.2 hpf.1 (by omega)
      have hm0 : 0 ≤ A 141 s * pf := Int.mul_nonneg w1.1 hpf.1
      have skip : ∀ w, grB A (putE zE 3 year) y (n + 1 : Nat) (-2) = false → h163_3 (d + 25) L I R S Q pf ((bsY A y + stK A y 6 : Nat) : Int) ((bsY A y + stK A y 5 + cnt (isK A y 5) (n + 1) : Nat) : Int) w := fun w hg => ih (n + 1) I w (by omega) hf hC hE (by rw [eg, hg, if_neg (by decide), List.append_nil]; exact hl)
      refine e163_3 (d := d + 24) hC ⟨by unfold inR; omega, by unfold inR; omega, fun _ => ⟨by omega, ?_⟩, fun q => by exfalso; omega⟩
      rw [Int.toNat_natCast, r1, ix]
      refine ⟨fun x => absurd x (by simp), fun p' hp' => ?_⟩
      cases hp'
      refine ⟨o1, ?_⟩
      rw [a2, a3, e3, o2, ep]
      refine ⟨fun q1 => ⟨hdB A h s, k190 (d := d) hE ⟨o1, o2, o3, o4, o5⟩ r6 hC, fun q2 => skip _ ?_, fun q2 => ⟨by unfold inR; omega, _, hl, by rw [List.length_append]; omega, fun I1 f1 l1 => ?_⟩⟩, fun q1 => skip _ ?_⟩
      · rw [grB_yes r2 h6, ← hh]
        cases hv : hdB A h s
        · rw [Bool.and_false]
        · rw [hv] at q2; exact absurd q2 (by decide)
      · refine ih (n + 1) I1 _ (by omega) (hf.trans f1) (hC.fr f1 rfl) (hE.fr f1 (fun _ => rfl)) ?_
        have hg : grB A (putE zE 3 year) y (n + 1 : Nat) (-2) = true := by
          rw [grB_yes r2 h6, ← hh, q1]
          cases hv : hdB A h s
          · rw [hv] at q2; exact absurd rfl q2
          · rfl
        rw [eg, hg, if_pos rfl, ← List.append_assoc, enu, ← r5]
        exact l1
      · rw [grB_yes r2 h6, show (A 142 s == -2) = false from beq_eq_false_iff_ne.mpr q1, Bool.false_and]
theorem k163 {av cov : Int} {l : List Ln} {K : mM → Prop} (hC : RC R S I A) (hWC : WfC A) (hl : LinesC I l) (hll : l.length + 60 ≤ 2461) (hc : 0 ≤ code ∧ code ≤ 7) (h10 : ld I 70 10 = av) (h13 : ld I 70 13 = cov) (h16 : ld I 70 16 = year) (h17 : ld I 70 17 = code) (hav : 0 ≤ av ∧ av ≤ 40) (hcov : -1 ≤ cov) (hK : ∀ I1, Fr [60, 71, 72, 73] [(70, 9), (70, 14)] I I1 → LinesC I1 (l ++ ghL A year code (if cov = -1 then av else min av cov) 60) → K (bd L I1 R S)) : CallV (d + 25) 163 [.ref 70] (bd L I R S) K := by
  obtain ⟨y, rfl⟩ : ∃ n : Nat, code = n := ⟨code.toNat, by omega⟩
  refine e163 (d := d + 24) hC (fun I1 f1 z1 => ?_)
  have hC1 := hC.fr f1 rfl
  rw [f1.ld rfl, f1.ld rfl, f1.ld rfl, f1.ld rfl, h10, h13, h16, h17, show ((y : Int) * 16 + 135 - 130 + 1).toNat = 16 * y + 6 by omega, show ((y : Int) * 16 + 135 - 130).toNat = 16 * y + 5 by omega, hC1.2.1.2.1 y 6 (by omega) (by omega), hC1.2.1.2.1 y 5 (by omega) (by omega)]
  have ry : inR year := by rw [← h16]; exact ld_inR _ _ _
  have go : ∀ pf : Int, 0 ≤ pf ∧ pf ≤ 40 → pf = (if cov = -1 then av else min av cov) → h163_3 (d + 25) L (u2 I1 60 4 (oI year)) R S (rqV K) pf ((bsY A y + stK A y 6 : Nat) : Int) ((bsY A y + stK A y 5 : Nat) : Int) mUn := fun pf hpf hp => by
    have f2 : Fr [60, 71, 72, 73] [(70, 9), (70, 14)] I (u2 I1 60 4 (oI year)) := (f1.sub rfl rfl).wr rfl
    exact l163 (d := d) (I0 := u2 I1 60 4 (oI year)) (year := year) hWC (by omega) hpf rfl hll (fun I2 f3 l3 => rqV_of (hK I2 (f2.trans (f3.sub rfl rfl)) (by rw [← hp]; exact l3))) 60 0 _ _ rfl (Fr.refl _ _ _) (hC1.scr rfl) ((EnvC.zero z1).put (k := 3) (j := 4) (by decide) ry (by decide)) (by
      rw [show ghL A year y pf 0 = [] from rfl, List.append_nil]
      exact hl.fr (ws := [60]) (os := []) (f1.wr rfl) rfl rfl (fun _ => rfl) (fun _ => rfl) (fun _ => rfl))
  refine ⟨fun q => ⟨by omega, by omega, go _ hav (by rw [if_pos q])⟩, fun q => ⟨by omega, by omega, go _ (by omega) (by rw [if_neg q])⟩⟩
theorem l165 {y : Nat} {set kn : Int} {e : Nat → Int} {l0 : List Ln} (hWC : WfC A) (hW : WfA A) (hy : y < 8) (hc : 0 ≤ c ∧ c < 40) (h9 : e 9 = 0) (h10 : e 10 = 0) (hl0 : l0.length + 60 ≤ 2461) (hK : ∀ I1, Fr [60, 71, 72, 73] [(70, 9), (70, 14)] I0 I1 → LinesC I1 (l0 ++ gcL A e c year y kn set 60) → Q none (bd L I1 R S)) : ∀ (f n : Nat) (I : mI) (w : Value), n + f = 60 → Fr [60, 71, 72, 73] [(70, 9), (70, 14)] I0 I → RC R S I A → EnvC 60 I e → (∀ j : Nat, j < 6 → ld I 61 j = rsS A c year j kn) → LinesC I (l0 ++ gcL A e c year y kn set n) → h165_2 (d + 25) L I R S Q c set ((bsY A y + stK A y 6 : Nat) : Int) ((bsY A y + stK A y 5 + cnt (isK A y 5) n : Nat) : Int) w := by
  have hst : stK A y 6 = stK A y 5 + cnt (isK A y 5) 60 := rfl
  have hle := stK_le (A := A) (y := y) (k := 6)
  have hbs := bsY_le (A := A) (y := y)
  have hgl := fun n => gcL_len (A := A) (c := c) (year := year) (code := (y : Int)) (known := kn) (e := e) (set := set) n
  intro f
  induction f with
  | zero =>
    intro n I w hn hf hC hE hj hl
    obtain rfl : n = 60 := by omega
    exact e165_2 (d := d + 24) hC ⟨by unfold inR; omega, by unfold inR; omega, fun q => by exfalso; omega, fun _ => hK I hf hl⟩
  | succ f ih =>
    intro n I w hn hf hC hE hj hl
    have hgn := hgl n
    have eg : gcL A e c year y kn set (n + 1) = gcL A e c year y kn set n ++ gcO A e c year y kn set (n + 1 : Nat) := rfl
    cases hb : isK A y 5 (n + 1) with
    | false =>
      rw [← seg_no hb]
      refine ih (n + 1) I w (by omega) hf hC hE hj ?_
      have e0 : gcO A e c year y kn set (n + 1 : Nat) = [] := by
        unfold gcO
        by_cases q : cdS A y (n + 1 : Nat) = -1
        · rw [if_pos q]
        · obtain ⟨s, s1, s2, s3, s4, s5, -⟩ := cdS_wf hWC q
          have := seg_not hb s1
          rw [if_neg q, s1, Int.toNat_natCast, if_pos (fun e => this (by rw [e]; rfl))]
      rw [eg, e0, List.append_nil]; exact hl
    | true =>
      obtain ⟨q, s, r1, r2, r3, r4, r5, r6, r7, r8, r9, r10⟩ := seg_yes hC hWC hy (by decide) (by omega) hb
      have h6 := ckd6 r4.2.1 r7
      obtain ⟨o1, o2, o3, o4, o5⟩ := r8
      obtain ⟨a1, a2, a3, -⟩ := o5 r6
      have ix : ((bsY A y + stK A y 5 + cnt (isK A y 5) n : Nat) : Int) + 1 = ((bsY A y + stK A y 5 + cnt (isK A y 5) (n + 1) : Nat) : Int) := by rw [r9]; omega
      have w1 := (r4.2.2 r6).1 (by omega)
      have w2 := (r4.2.2 r6).2.2.1 h6
      have e3 : cVal (A 140 s) (A 141 s) (A 142 s) = A 141 s := by unfold cVal; rw [if_neg (by omega), if_neg (by omega)]
      have hO : gcO A e c year y kn set (n + 1 : Nat) = (if grB A e y (n + 1 : Nat) (-3) = true then [(c, ((n + 1 : Nat) : Int), A 141 s)] else []) ++ (if (0 ≤ A 142 s ∧ A 142 s ≤ 5) ∧ ¬ iAnd (iShr set (A 142 s)) 1 = 0 ∧ grB A (putE (putE e 9 (A 142 s)) 10 (rsS A c year (A 142 s) kn)) y (n + 1 : Nat) (A 142 s) = true then [(c, ((n + 1 : Nat) : Int), A 141 s)] else []) := by
        unfold gcO
        rw [r2, Int.toNat_natCast, if_neg (by omega), if_neg (by omega)]
      have cl : ClO R S I A q s := ⟨o1, o2, o3, o4, o5⟩
      have go : ∀ (I2 : mI) (w : Value) (lx : List Ln), Fr [60, 71, 72, 73] [(70, 9), (70, 14)] I I2 → EnvC 60 I2 e → LinesC I2 (l0 ++ gcL A e c year y kn set n ++ lx) → gcO A e c year y kn set (n + 1 : Nat) = lx → h165_2 (d + 25) L I2 R S Q c set ((bsY A y + stK A y 6 : Nat) : Int) ((bsY A y + stK A y 5 + cnt (isK A y 5) (n + 1) : Nat) : Int) w := fun I2 w lx f2 e2 l2 hx =>
        ih (n + 1) I2 w (by omega) (hf.trans f2) (hC.fr f2 rfl) e2 (fun j hj2 => by rw [f2.ld rfl]; exact hj j hj2) (by rw [eg, hx, ← List.append_assoc]; exact l2)
      have skip : ∀ w, gcO A e c year y kn set (n + 1 : Nat) = [] → h165_2 (d + 25) L I R S Q c set ((bsY A y + stK A y 6 : Nat) : Int) ((bsY A y + stK A y 5 + cnt (isK A y 5) (n + 1) : Nat) : Int) w := fun w hg => go I w [] (Fr.refl _ _ _) hE (by rw [List.append_nil]; exact hl) hg
      have hlen : (l0 ++ gcL A e c year y kn set n).length < 2461 := by rw [List.length_append]; omega
      refine e165_2 (d := d + 24) hC ⟨by unfold inR; omega, by unfold inR; omega, fun _ => ⟨by omega, ?_⟩, fun q => by exfalso; omega⟩
      rw [Int.toNat_natCast, r1, ix]
      refine ⟨fun x => absurd x (by simp), fun p' hp' => ?_⟩
      cases hp'
      refine ⟨o1, ?_⟩
      rw [a1, a2, a3, e3, o2]
      have g3 : grB A e y (n + 1 : Nat) (-3) = (A 142 s == -3 && hdB A e s) := grB_yes r2 h6
      rcases w2 with v | v | v
      · rw [show cPer (A 140 s) (A 142 s) = 159 by unfold cPer; rw [if_pos h6, if_pos v]]
        refine ⟨fun _ => skip _ ?_, fun x => absurd rfl x⟩
        rw [hO, g3, v, if_neg (by simp), if_neg (by omega)]; rfl
      · rw [show cPer (A 140 s) (A 142 s) = 160 by unfold cPer; rw [if_pos h6, if_neg (by omega), if_pos v]]
        refine ⟨fun x => absurd x (by decide), fun _ => ⟨fun x => absurd x (by decide), fun _ => ⟨hdB A e s, k190 (d := d) hE cl r6 hC, fun q2 => ?_, fun q2 => ⟨by unfold inR; omega, _, hl, hlen, fun I1 f1 l1 => ?_⟩⟩⟩⟩
        · have hv : hdB A e s = false := by
            cases hv : hdB A e s
            · rfl
            · rw [hv] at q2; exact absurd q2 (by decide)
          have f2 : Fr [60, 71, 72, 73] [(70, 9), (70, 14)] I (u2 (u2 I 60 9 (oI 0)) 60 10 (oI 0)) := ((Fr.refl _ _ _).wr rfl).wr rfl
          refine go _ _ [] f2 (hE.z910 h9 h10) (by rw [List.append_nil]; exact hl.fr (ws := [60]) (os := []) (((Fr.refl _ _ _).wr rfl).wr rfl) rfl rfl (fun _ => rfl) (fun _ => rfl) (fun _ => rfl)) ?_
          rw [hO, g3, hv, Bool.and_false, if_neg (by decide), if_neg (by omega)]; rfl
        · have hv : hdB A e s = true := by
            cases hv : hdB A e s
            · rw [hv] at q2; exact absurd rfl q2
            · rfl
          refine go _ _ [(c, A 139 s, A 141 s)] (((f1.sub rfl rfl).wr rfl).wr rfl) ((hE.fr f1 (fun _ => rfl)).z910 h9 h10) (l1.fr (ws := [60]) (os := []) (((Fr.refl _ _ _).wr rfl).wr rfl) rfl rfl (fun _ => rfl) (fun _ => rfl) (fun _ => rfl)) ?_
          rw [hO, g3, hv, v, beq_self_eq_true, Bool.and_true, if_pos rfl, if_neg (by omega), r5]; rfl
      · have eo : cOf (A 140 s) (A 141 s) (A 142 s) = A 142 s := by unfold cOf; rw [if_neg (by omega), if_pos ⟨h6, v.1⟩]
        rw [show cPer (A 140 s) (A 142 s) = 133 by unfold cPer; rw [if_pos h6, if_neg (by omega), if_neg (by omega)], eo]
        have n3 : grB A e y (n + 1 : Nat) (-3) = false := by rw [g3, show (A 142 s == -3) = false from beq_eq_false_iff_ne.mpr (by omega), Bool.false_and]
        have h61 : ld I 61 (A 142 s).toNat = rsS A c year (A 142 s) kn := by
          rw [hj _ (by omega), show (((A 142 s).toNat : Nat) : Int) = A 142 s by omega]
        have ra : inR (A 142 s) := by unfold inR; omega
        have rr : inR (rsS A c year (A 142 s) kn) := by rw [← h61]; exact ld_inR _ _ _
        have env := (hE.put (k := 9) (j := 9) (by decide) ra (by decide)).put (k := 10) (j := 10) (by decide) rr (by decide)
        have gs : grB A (putE (putE e 9 (A 142 s)) 10 (rsS A c year (A 142 s) kn)) y (n + 1 : Nat) (A 142 s) = hdB A (putE (putE e 9 (A 142 s)) 10 (rsS A c year (A 142 s) kn)) s := by rw [grB_yes r2 h6, beq_self_eq_true, Bool.true_and]
        have e910 : ∀ I3, EnvC 60 I3 (putE (putE e 9 (A 142 s)) 10 (rsS A c year (A 142 s) kn)) → EnvC 60 (u2 (u2 I3 60 9 (oI 0)) 60 10 (oI 0)) e := fun I3 h3 =>
          ((h3.put (k := 9) (j := 9) (v := 0) (by decide) (inRd rfl) (by decide)).put (k := 10) (j := 10) (v := 0) (by decide) (inRd rfl) (by decide)).eq (fun i hi => by
            unfold putE
            split
            · rename_i e1; rw [e1, h10]
            · split
              · rename_i e1; rw [e1, h9]
              · rfl)
        rw [h61]
        refine ⟨fun x => absurd x (by decide), fun _ => ⟨fun _ => ⟨fun x => by exfalso; omega, fun _ => ⟨fun _ => ⟨fun q2 => skip _ ?_, fun q2 => ⟨by omega, hdB A (putE (putE e 9 (A 142 s)) 10 (rsS A c year (A 142 s) kn)) s, k190 (d := d) env (cl.ext (Ext.same (fun a k ha => by rw [v2_ne (by omega), v2_ne (by omega)]))) r6 ((hC.scr rfl).scr rfl), fun q3 => ?_, fun q3 => ⟨by unfold inR; omega, _, hl.fr (ws := [60]) (os := []) (((Fr.refl _ _ _).wr rfl).wr rfl) rfl rfl (fun _ => rfl) (fun _ => rfl) (fun _ => rfl), hlen, fun I1 f1 l1 => ?_⟩⟩⟩, fun x => by exfalso; omega⟩⟩, fun x => absurd rfl x⟩⟩
        · rw [hO, n3, if_neg (by decide), if_neg (fun h => h.2.1 q2)]; rfl
        · have hv : hdB A (putE (putE e 9 (A 142 s)) 10 (rsS A c year (A 142 s) kn)) s = false := by
            cases hv : hdB A (putE (putE e 9 (A 142 s)) 10 (rsS A c year (A 142 s) kn)) s
            · rfl
            · rw [hv] at q3; exact absurd q3 (by decide)
          refine go _ _ [] (((((Fr.refl _ _ _).wr rfl).wr rfl).wr rfl).wr rfl) (e910 _ env) (by rw [List.append_nil]; exact hl.fr (ws := [60]) (os := []) (((((Fr.refl _ _ _).wr rfl).wr rfl).wr rfl).wr rfl) rfl rfl (fun _ => rfl) (fun _ => rfl) (fun _ => rfl)) ?_
          rw [hO, n3, if_neg (by decide), if_neg (by rw [gs, hv]; simp)]; rfl
        · have hv : hdB A (putE (putE e 9 (A 142 s)) 10 (rsS A c year (A 142 s) kn)) s = true := by
            cases hv : hdB A (putE (putE e 9 (A 142 s)) 10 (rsS A c year (A 142 s) kn)) s
            · rw [hv] at q3; exact absurd rfl q3
            · rfl
          refine go _ _ [(c, A 139 s, A 141 s)] (((((((Fr.refl _ _ _).wr rfl).wr rfl).trans (f1.sub rfl rfl))).wr rfl).wr rfl) (e910 _ (env.fr f1 (fun _ => rfl))) (l1.fr (ws := [60]) (os := []) (((Fr.refl _ _ _).wr rfl).wr rfl) rfl rfl (fun _ => rfl) (fun _ => rfl) (fun _ => rfl)) ?_
          rw [hO, n3, if_neg (by decide), if_pos ⟨v, q2, by rw [gs, hv]⟩, r5]; rfl
end
