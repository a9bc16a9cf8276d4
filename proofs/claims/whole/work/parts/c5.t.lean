section
variable {d L : Nat} {I I0 : mI} {R : mR} {S : mSh} {Q : Option Value → mM → Prop} {A : aS} {c day known kind half year subj code : Int}
theorem GaC.fr {sc kn : Int} {k : Nat} {I1 : mI} {ws : List Nat} {os : List (Nat × Nat)} (h : GaC A I sc year code kn k) (hf : Fr ws os I I1) (h1 : (ws.contains 70 || os.contains (70, 15)) = false) (h2 : (ws.contains 70 || os.contains (70, 16)) = false) (h3 : (ws.contains 70 || os.contains (70, 17)) = false) (h4 : (ws.contains 70 || os.contains (70, 11)) = false) (h5 : (ws.contains 70 || os.contains (70, 12)) = false) (h6 : (ws.contains 59 || os.contains (59, 13)) = false) (h7 : (ws.contains 59 || os.contains (59, 14)) = false) (h8 : (ws.contains 59 || os.contains (59, 15)) = false) (h9 : ∀ k, (ws.contains 68 || os.contains (68, k)) = false ∧ (ws.contains 74 || os.contains (74, k)) = false ∧ (ws.contains 75 || os.contains (75, k)) = false ∧ (ws.contains 76 || os.contains (76, k)) = false) : GaC A I1 sc year code kn k := by
  obtain ⟨⟨g15, g16, g17⟩, ⟨gw, gs⟩, g11, g12, gj⟩ := h
  exact ⟨⟨by rw [hf.ld h1]; exact g15, by rw [hf.ld h2]; exact g16, by rw [hf.ld h3]; exact g17⟩, ⟨gw.fr hf h6 h7 h8, gs.fr hf (fun k => (h9 k).1)⟩, by rw [hf.ld h4]; exact g11, by rw [hf.ld h5]; exact g12, fun j hj => by rw [hf.ld (h9 j).2.1, hf.ld (h9 j).2.2.1, hf.ld (h9 j).2.2.2]; exact gj j hj⟩
/-- the grant that stands reckoned -/
def GrC (A : aS) (I : mI) (sc year code kn : Int) : Prop := LinesC I (gtL A sc year code kn) ∧ ld I 70 10 = avS A sc year code kn ∧ ld I 70 11 = opS A sc year kn ∧ ld I 70 12 = puL A sc year kn (A 91 1).toNat ∧ ld I 70 13 = sfS A sc year code
def GrK (I : mI) (sc year code kn ch : Int) : Prop := ld I 70 15 = sc ∧ ld I 70 16 = year ∧ ld I 70 17 = code ∧ ld I 70 18 = kn ∧ ld I 70 19 = ch
theorem l161_6 {sc kn : Int} (hW : WfA A) (hP : WfP A) (hWC : WfC A) (hT : WfT A) (hs : 0 ≤ sc ∧ sc < 6) (hy : 0 ≤ year ∧ year ≤ 7) (hcd : 0 ≤ code ∧ code ≤ 7) (hkn : 0 ≤ kn ∧ kn ≤ 799) (hK : ∀ I1, Fr [60, 61, 71, 72, 73] [(70, 9), (70, 14)] I0 I1 → RC R S I1 A → LinesC I1 (gtL A sc year code kn) → Q none (bd L I1 R S)) : ∀ (n k : Nat) (I : mI) (w1 w2 w3 w4 w5 w6 w7 : Value), k + n = (A 91 1).toNat → Fr [60, 61, 71, 72, 73] [(70, 9), (70, 14)] I0 I → RC R S I A → GaC A I sc year code kn (A 91 1).toNat → ld I 70 10 = avS A sc year code kn → LinesC I (ghL A year code (pfS A sc year code kn) 60 ++ gaL A sc year code kn k) → h161_6 (d + 28) L I R S Q w1 w2 w3 w4 w5 w6 w7 k := by
  have h40 := hW.2.1
  have pf := pfS_in hW hWC hT (school := sc) (year := year) (code := code) (known := kn)
  have b1 := ghL_b hWC (year := year) (code := code) pf 60
  have b2 := fun k => gaL_b hWC (year := year) (code := code) (known := kn) (school := sc) k
  intro n
  induction n with
  | zero =>
    intro k I w1 w2 w3 w4 w5 w6 w7 hk hf hC hg h10 hl
    have b2 := b2 k
    refine e161_6 (d := d + 27) hC ⟨by unfold inR; omega, fun q => by exfalso; omega, fun _ => ?_⟩
    refine k166 (d := d + 26) hC hWC hl (by rw [List.length_append]; omega) (b1.1.app b2.1) hcd hg.1.2.2 h10 (avS_in hW hWC) (fun I1 f1 l1 => ⟨I1, rfl, hC.fr f1 rfl, hK I1 (hf.trans (f1.sub rfl rfl)) (hC.fr f1 rfl) ?_⟩)
    rw [show k = (A 91 1).toNat by omega] at l1
    exact l1
  | succ n ih =>
    intro k I w1 w2 w3 w4 w5 w6 w7 hk hf hC hg h10 hl
    have b2 := b2 k
    obtain ⟨j1, j2, j3⟩ := hg.2.2.2.2 k (by omega)
    have eg : gaL A sc year code kn (k + 1) = gaL A sc year code kn k ++ (if yvS A sc k year code kn = -1 then [] else gcS A k year code kn (yvS A sc k year code kn)) := rfl
    have yi := yhS_in hWC (c := (k : Int)) (year := year) (code := code) (known := kn) (std := stS A k year kn) 200 (Nat.le_refl _)
    have e9 : yhS A k year code (stS A k year kn) kn 200 = yrS A k year code (stS A k year kn) kn := by unfold yhS; rw [if_neg (by decide), Int.add_zero]; rfl
    rw [e9] at yi
    refine e161_6 (d := d + 27) hC ?_
    rw [Int.toNat_natCast, j2]
    refine ⟨by unfold inR; omega, fun _ => ⟨by omega, fun q => ?_, fun q => ?_⟩, fun q => by exfalso; omega⟩
    · have hno : ¬ onS A k (100 * year + 99) kn = sc := fun e => by rw [if_pos e] at q; omega
      have := ih (k + 1) I w1 w2 w3 w4 w5 w6 (mNl w7) (by omega) hf hC hg h10 (by rw [eg, show yvS A sc k year code kn = -1 by unfold yvS; rw [if_neg hno], if_pos rfl, List.append_nil]; exact hl)
      rw [show ((k + 1 : Nat) : Int) = (k : Int) + 1 by omega] at this
      exact this
    · have hyes : onS A k (100 * year + 99) kn = sc := Classical.byContradiction (fun e => q (by rw [if_neg e]))
      have ev : yvS A sc k year code kn = yrS A k year code (stS A k year kn) kn := by unfold yvS; rw [if_pos hyes]
      refine k165 (d := d) (c := (k : Int)) (kn := kn) (q := yrS A k year code (stS A k year kn) kn) hC hW hP hWC hl (by rw [List.length_append]; omega) (by omega) hy hcd hkn hg.2.1.1.2.2 hg.1.2.1 hg.1.2.2 (by rw [Int.toNat_natCast]; exact j1) (by rw [Int.toNat_natCast]; exact j3 hyes) yi.1 (fun I1 f1 l1 => ⟨I1, rfl, hC.fr f1 rfl, ?_⟩)
      have := ih (k + 1) I1 w1 w2 w3 w4 w5 w6 (mNl w7) (by omega) (hf.trans f1) (hC.fr f1 rfl) (hg.fr f1 rfl rfl rfl rfl rfl rfl rfl rfl (fun _ => ⟨rfl, rfl, rfl, rfl⟩)) (by rw [f1.ld rfl]; exact h10) (by rw [eg, ev, if_neg (by omega), ← List.append_assoc]; exact l1)
      rw [show ((k + 1 : Nat) : Int) = (k : Int) + 1 by omega] at this
      exact this
theorem k161 {sc kn ch : Int} {K : mM → Prop} (hC : RC R S I A) (hW : WfA A) (hP : WfP A) (hWC : WfC A) (hT : WfT A) (hs : 0 ≤ sc ∧ sc < 6) (hy : 0 ≤ year ∧ year ≤ 7) (hcd : 0 ≤ code ∧ code ≤ 7) (hkn : 0 ≤ kn ∧ kn ≤ 799) (hch : inR ch) (hm : GrK I sc year code kn ch → GrC A I sc year code kn) (hK : ∀ I1, Fr [60, 61, 62, 63, 64, 65, 66, 67, 68, 69, 71, 72, 73, 74, 75, 76] [(59, 13), (59, 14), (59, 15), (59, 16), (70, 9), (70, 10), (70, 11), (70, 12), (70, 13), (70, 14), (70, 15), (70, 16), (70, 17), (70, 18), (70, 19)] I I1 → RC R S I1 A → GrC A I1 sc year code kn → GrK I1 sc year code kn ch → K (bd L I1 R S)) : CallV (d + 29) 161 [.ref 70, .int (oI sc), .int (oI year), .int (oI code), .int (oI kn), .int (oI ch)] (bd L I R S) K := by
  have r1 : inR sc := by unfold inR; omega
  have r2 : inR year := by unfold inR; omega
  have r3 : inR code := by unfold inR; omega
  have r4 : inR kn := by unfold inR; omega
  have r0 : inR 0 := inRd rfl
  have main : h161_3 (d + 29) L I R S (rqV K) sc year code kn ch (.int (oI 0)) mUn mUn := by
    refine e161_3 (d := d + 3) hC ?_
    have fK : Fr [60, 61, 62, 63, 64, 65, 66, 67, 68, 69, 71, 72, 73, 74, 75, 76] [(59, 13), (59, 14), (59, 15), (59, 16), (70, 9), (70, 10), (70, 11), (70, 12), (70, 13), (70, 14), (70, 15), (70, 16), (70, 17), (70, 18), (70, 19)] I (u2 (u2 (u2 (u2 (u2 (u2 (u2 I 70 15 (oI sc)) 70 16 (oI year)) 70 17 (oI code)) 70 18 (oI kn)) 70 19 (oI ch)) 70 9 (oI 0)) 70 14 (oI 0)) := (((((((Fr.refl _ _ _).wr rfl).wr rfl).wr rfl).wr rfl).wr rfl).wr rfl).wr rfl
    have hCK : RC R S (u2 (u2 (u2 (u2 (u2 (u2 (u2 I 70 15 (oI sc)) 70 16 (oI year)) 70 17 (oI code)) 70 18 (oI kn)) 70 19 (oI ch)) 70 9 (oI 0)) 70 14 (oI 0)) A := ((((((hC.scr rfl).scr rfl).scr rfl).scr rfl).scr rfl).scr rfl).scr rfl
    refine k162 (d := d) hCK hW hP hWC hs hy hcd hkn ?_ ?_ ?_ ?_ (fun I1 f1 hC1 hg h10 => ⟨I1, rfl, hC1, ?_⟩)
    · rw [ld_w r0, if_neg (by decide), ld_w r0, if_neg (by decide), ld_w hch, if_neg (by decide), ld_w r4, if_neg (by decide), ld_w r3, if_neg (by decide), ld_w r2, if_neg (by decide), ld_w r1, if_pos rfl]
    · rw [ld_w r0, if_neg (by decide), ld_w r0, if_neg (by decide), ld_w hch, if_neg (by decide), ld_w r4, if_neg (by decide), ld_w r3, if_neg (by decide), ld_w r2, if_pos rfl]
    · rw [ld_w r0, if_neg (by decide), ld_w r0, if_neg (by decide), ld_w hch, if_neg (by decide), ld_w r4, if_neg (by decide), ld_w r3, if_pos rfl]
    · rw [ld_w r0, if_neg (by decide), ld_w r0, if_neg (by decide), ld_w hch, if_neg (by decide), ld_w r4, if_pos rfl]
    · have k18 : ld I1 70 18 = kn := by
        rw [f1.ld rfl, ld_w r0, if_neg (by decide), ld_w r0, if_neg (by decide), ld_w hch, if_neg (by decide), ld_w r4, if_pos rfl]
      have k19 : ld I1 70 19 = ch := by
        rw [f1.ld rfl, ld_w r0, if_neg (by decide), ld_w r0, if_neg (by decide), ld_w hch, if_pos rfl]
      have l1 : LinesC I1 [] := by
        refine ⟨?_, by decide, ?_, fun i hi => absurd hi (by simp)⟩
        · rw [f1.ld rfl, ld_w r0, if_neg (by decide), ld_w r0, if_pos rfl]; rfl
        · rw [f1 70 14 rfl, v2_eq]; rfl
      have et := tlS_one (A := A) (h := zE) (y := code) (b := 11) (ow := -1) hWC (by omega)
      have sf := sfS_in hWC hT (school := sc) (year := year) (code := code)
      have rsf : inR (sfS A sc year code) := by unfold inR; omega
      have fF : Fr [60, 61, 62, 63, 64, 65, 66, 67, 68, 69, 71, 72, 73, 74, 75, 76] [(59, 13), (59, 14), (59, 15), (59, 16), (70, 9), (70, 10), (70, 11), (70, 12), (70, 13), (70, 14), (70, 15), (70, 16), (70, 17), (70, 18), (70, 19)] I I1 := fK.trans (f1.sub rfl rfl)
      have go : ∀ (v : Int) (w7 : Value), v = sfS A sc year code → CallV (d + 28) 163 [.ref 70] (bd L (u2 I1 70 13 (oI v)) R S) (fun s => ∃ I2 : mI, s = bd L I2 R S ∧ RC R S I2 A ∧ h161_6 (d + 29) L I2 R S (rqV K) (.int (oI sc)) (.int (oI year)) (.int (oI code)) (.int (oI kn)) (.int (oI ch)) (mNl (.int (oI 0))) w7 0) := by
        rintro v w7 rfl
        have fx : Fr [] [(70, 13)] I1 (u2 I1 70 13 (oI (sfS A sc year code))) := fr1 _ _ _ _
        have k13 : ld (u2 I1 70 13 (oI (sfS A sc year code))) 70 13 = sfS A sc year code := by rw [ld_w rsf, if_pos rfl]
        refine k163 (d := d + 3) (year := year) (code := code) (av := avS A sc year code kn) (cov := sfS A sc year code) (l := []) (hC1.scr rfl) hWC (l1.fr fx rfl rfl (fun _ => rfl) (fun _ => rfl) (fun _ => rfl)) (by decide) hcd (by rw [fx.ld rfl]; exact h10) k13 (by rw [fx.ld rfl]; exact hg.1.2.1) (by rw [fx.ld rfl]; exact hg.1.2.2) (avS_in hW hWC) sf.1 (fun I2 f2 l2 => ⟨I2, rfl, (hC1.scr rfl).fr f2 rfl, ?_⟩)
        refine l161_6 (d := d + 1) (I0 := I2) hW hP hWC hT hs hy hcd hkn (fun I3 f3 hC3 l3 => rqV_of (hK I3 ?_ hC3 ⟨l3, ?_, ?_, ?_, ?_⟩ ⟨?_, ?_, ?_, ?_, ?_⟩)) (A 91 1).toNat 0 I2 _ _ _ _ _ _ _ (by omega) (Fr.refl _ _ _) ((hC1.scr rfl).fr f2 rfl) ((hg.fr fx rfl rfl rfl rfl rfl rfl rfl rfl (fun _ => ⟨rfl, rfl, rfl, rfl⟩)).fr f2 rfl rfl rfl rfl rfl rfl rfl rfl (fun _ => ⟨rfl, rfl, rfl, rfl⟩)) (by rw [f2.ld rfl, fx.ld rfl]; exact h10) (by
          have : ghL A year code (pfS A sc year code kn) 60 ++ gaL A sc year code kn 0 = [] ++ ghL A year code (if sfS A sc year code = -1 then avS A sc year code kn else min (avS A sc year code kn) (sfS A sc year code)) 60 := by
            unfold pfS
            rw [show gaL A sc year code kn 0 = [] from rfl, List.append_nil, List.nil_append]
          rw [this]; exact l2)
        · exact (fF.wr rfl).trans ((f2.sub rfl rfl).trans (f3.sub rfl rfl))
        · rw [f3.ld rfl, f2.ld rfl, fx.ld rfl]; exact h10
        · rw [f3.ld rfl, f2.ld rfl, fx.ld rfl]; exact hg.2.2.1
        · rw [f3.ld rfl, f2.ld rfl, fx.ld rfl]; exact hg.2.2.2.1
        · rw [f3.ld rfl, f2.ld rfl]; exact k13
        · rw [f3.ld rfl, f2.ld rfl, fx.ld rfl]; exact hg.1.1
        · rw [f3.ld rfl, f2.ld rfl, fx.ld rfl]; exact hg.1.2.1
        · rw [f3.ld rfl, f2.ld rfl, fx.ld rfl]; exact hg.1.2.2
        · rw [f3.ld rfl, f2.ld rfl, fx.ld rfl]; exact k18
        · rw [f3.ld rfl, f2.ld rfl, fx.ld rfl]; exact k19
      rw [hg.1.1, hg.1.2.1, hg.1.2.2]
      refine ⟨hWC, hcd, tlS_R hWC (inRd rfl), fun q => go _ _ ?_, fun q => ⟨hT, go _ _ ?_⟩⟩
      · unfold sfS
        rw [show (139 : Int) = ckd 11 from rfl, et] at q
        by_cases e : fsS A zE code 11 (-1) = -1
        · rw [if_pos (show lsS A code 11 = -1 from e)]
        · rw [if_neg e] at q
          rcases fsS_prop hWC (h := zE) (y := code) (kind := 11) (key := -1) with h1 | ⟨m, s, h1, h2, h3, h4, h5, h6, h7, h8, -⟩
          · exact absurd h1 e
          · have w1 := (h6.2.2 h7).1 (by omega)
            unfold nuS at q
            rw [h1, h4, Int.toNat_natCast] at q
            omega
      · unfold sfS
        rw [show (139 : Int) = ckd 11 from rfl, et] at q ⊢
        by_cases e : fsS A zE code 11 (-1) = -1
        · rw [if_pos e] at q; exact absurd rfl q
        · rw [if_neg e, if_neg (show ¬ lsS A code 11 = -1 from e), show 1 + (hnL A sc year (A 91 40).toNat - 1) = hnL A sc year (A 91 40).toNat by omega]; rfl
  refine e161 (d := d + 29) hC ⟨r1, fun q1 => ⟨r2, fun q2 => ⟨r3, fun q3 => ⟨r4, fun q4 => ⟨hch, fun q5 => hK I (Fr.refl _ _ _) hC (hm ⟨q1, q2, q3, q4, q5⟩) ⟨q1, q2, q3, q4, q5⟩, fun _ => main⟩, fun _ => main⟩, fun _ => main⟩, fun _ => main⟩, fun _ => main⟩
end
