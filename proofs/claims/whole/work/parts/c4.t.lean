section
variable {d L : Nat} {I I0 : mI} {R : mR} {S : mSh} {Q : Option Value → mM → Prop} {A : aS} {c day known kind half year subj code : Int}
theorem k165 {kn q : Int} {l : List Ln} {K : mM → Prop} (hC : RC R S I A) (hW : WfA A) (hP : WfP A) (hWC : WfC A) (hl : LinesC I l) (hll : l.length + 60 ≤ 2461) (hc : 0 ≤ c ∧ c < A 91 1) (hy : 0 ≤ year ∧ year ≤ 7) (hcd : 0 ≤ code ∧ code ≤ 7) (hkn : 0 ≤ kn ∧ kn ≤ 799) (h15 : ld I 59 15 = kn) (h16 : ld I 70 16 = year) (h17 : ld I 70 17 = code) (h75 : ld I 75 c.toNat = stS A c year kn) (h74 : ld I 74 c.toNat = q) (hq : 0 ≤ q) (hK : ∀ I1, Fr [60, 61, 71, 72, 73] [(70, 9), (70, 14)] I I1 → LinesC I1 (l ++ gcS A c year code kn q) → K (bd L I1 R S)) : CallV (d + 27) 165 [.ref 70, .int (oI c)] (bd L I R S) K := by
  have h40 := hW.2.1
  have pi := psS_in (A := A) (c := c) (year := year) (code := code) (std := stS A c year kn) (known := kn)
  have bi := btS_in (psS A c year code (stS A c year kn) kn)
  have rq : inR q := by rw [← h74]; exact ld_inR _ _ _
  refine e165 (d := d) hC ?_
  rw [h15, h16, h17, h75]
  refine ⟨by omega, hW, hP, hWC, hc, hy, hcd, hkn, fun I9 f9 e9 m9 => ?_⟩
  have hC9 := hC.fr f9 rfl
  rw [f9.ld rfl, f9.ld rfl, h17, h74]
  have env := (e9.put (k := 7) (j := 7) (v := btS (psS A c year code (stS A c year kn) kn)) (by decide) (by unfold inR; omega) (by decide)).put (k := 8) (j := 8) (by decide) rq (by decide)
  have et := tlS_one (A := A) (h := gcE A c year code kn q) (y := code) (b := 3) (ow := 0) hWC (by omega)
  have f10 : Fr [60, 61, 71, 72, 73] [(70, 9), (70, 14)] I (u2 (u2 I9 60 7 (oI (btS (psS A c year code (stS A c year kn) kn)))) 60 8 (oI q)) := ((f9.sub rfl rfl).wr rfl).wr rfl
  have l10 : LinesC (u2 (u2 I9 60 7 (oI (btS (psS A c year code (stS A c year kn) kn)))) 60 8 (oI q)) l := (hl.fr f9 rfl rfl (fun _ => rfl) (fun _ => rfl) (fun _ => rfl)).fr (ws := [60]) (os := []) (((Fr.refl _ _ _).wr rfl).wr rfl) rfl rfl (fun _ => rfl) (fun _ => rfl) (fun _ => rfl)
  refine ⟨by omega, hcd, gcE A c year code kn q, env, tlS_R hWC (inRd rfl), ?_⟩
  rw [show (132 : Int) = ckd 3 from rfl, et]
  unfold gcS at hK
  refine ⟨fun q1 => hK _ f10 ?_, fun q1 => ⟨by omega, by omega, ?_⟩⟩
  · by_cases e : fsS A (gcE A c year code kn q) code 3 (-1) = -1
    · rw [if_pos e] at q1; omega
    · rw [if_neg e] at q1
      rw [if_pos ⟨e, q1⟩, List.append_nil]; exact l10
  · have hneg : ¬ (¬ fsS A (gcE A c year code kn q) code 3 (-1) = -1 ∧ q < nuS A code (fsS A (gcE A c year code kn q) code 3 (-1))) := fun h => by
      rw [if_neg h.1] at q1; exact q1 h.2
    rw [if_neg hneg] at hK
    obtain ⟨y, rfl⟩ : ∃ n : Nat, code = n := ⟨code.toNat, by omega⟩
    rw [show ((y : Int) * 16 + 135 - 130 + 1).toNat = 16 * y + 6 by omega, show ((y : Int) * 16 + 135 - 130).toNat = 16 * y + 5 by omega, hC9.2.1.2.1 y 6 (by omega) (by omega), hC9.2.1.2.1 y 5 (by omega) (by omega)]
    exact l165 (d := d + 2) (I0 := u2 (u2 I9 60 7 (oI (btS (psS A c year y (stS A c year kn) kn)))) 60 8 (oI q)) (kn := kn) hWC hW (by omega) (by omega) rfl rfl hll (fun I1 f1 l1 => rqV_of (hK I1 (f10.trans (f1.sub rfl rfl)) l1)) 60 0 _ _ rfl (Fr.refl _ _ _) ((hC9.scr rfl).scr rfl) env (fun j hj => by rw [ld_o (by decide), ld_o (by decide)]; exact m9 j hj) (by rw [show gcL A (gcE A c year y kn q) c year y kn (psS A c year y (stS A c year kn) kn) 0 = [] from rfl, List.append_nil]; exact l10)
theorem fsC7 {y n : Nat} (hC : WfC A) : fsC A zE y 7 (-1) n = isK A y 6 n := by
  unfold fsC isK
  by_cases q : cdS A y n = -1
  · rw [q]; rfl
  · obtain ⟨s, s1, s2, s3, s4, s5, -⟩ := cdS_wf hC q
    rw [s1, Int.toNat_natCast]
    by_cases e : A 140 s = 7
    · have w := (s3.2.2 s5).2.2.2.2.2.2.1 (Or.inl e)
      have hd : hdB A zE s = true := by unfold hdB; rw [w]; rfl
      rw [hd, e]; rfl
    · have e2 : ¬ ckd (A 140 s) = 130 + ((6 : Nat) : Int) := fun h => e (ckd7 s3.2.1 h)
      rw [show (A 140 s == 7) = false from beq_eq_false_iff_ne.mpr e, show (ckd (A 140 s) == 130 + ((6 : Nat) : Int)) = false from beq_eq_false_iff_ne.mpr e2, Bool.false_and]
theorem first7 {y : Nat} (hC : WfC A) : ∀ f n : Nat, n + f = 60 → cnt (isK A y 6) n = 0 → (fsF A zE y 7 (-1) f (n + 1) = -1 ∧ cnt (isK A y 6) 60 = 0) ∨ ∃ m : Nat, fsF A zE y 7 (-1) f (n + 1) = ((m + 1 : Nat) : Int) ∧ m < 60 ∧ cnt (isK A y 6) m = 0 ∧ isK A y 6 (m + 1) = true
  | 0, n, hn, h0 => Or.inl ⟨rfl, by rw [← show n = 60 by omega]; exact h0⟩
  | f + 1, n, hn, h0 => by
    have e : fsF A zE y 7 (-1) (f + 1) (n + 1) = cond (fsC A zE y 7 (-1) (n + 1)) ((n + 1 : Nat) : Int) (fsF A zE y 7 (-1) f (n + 1 + 1)) := rfl
    rw [e, fsC7 hC]
    cases hb : isK A y 6 (n + 1) with
    | true => exact Or.inr ⟨n, rfl, by omega, h0, hb⟩
    | false => exact first7 hC f (n + 1) (by omega) (by rw [seg_no hb]; exact h0)
theorem k166 {av : Int} {l : List Ln} {K : mM → Prop} (hC : RC R S I A) (hWC : WfC A) (hl : LinesC I l) (hll : l.length < 2461) (hb : LnB l) (hcd : 0 ≤ code ∧ code ≤ 7) (h17 : ld I 70 17 = code) (h10 : ld I 70 10 = av) (hav : 0 ≤ av ∧ av ≤ 40) (hK : ∀ I1, Fr [71, 72, 73] [(70, 9), (70, 14)] I I1 → LinesC I1 (if lsS A code 7 = -1 then l else if nuS A code (lsS A code 7) * av < lnSum l then l ++ [(-1, lsS A code 7, nuS A code (lsS A code 7) * av - lnSum l)] else l) → K (bd L I1 R S)) : CallV (d + 1) 166 [.ref 70] (bd L I R S) K := by
  obtain ⟨y, rfl⟩ : ∃ n : Nat, code = n := ⟨code.toNat, by omega⟩
  have hs := LnB.sum hb
  have hs2 : (399960 : Int) * l.length ≤ 399960 * 2461 := by omega
  have h14 : ld I 70 14 = lnSum l := ld_of hl.2.2.1 (by unfold inR; omega)
  have hst : stK A y 7 = stK A y 6 + cnt (isK A y 6) 60 := rfl
  have hle := stK_le (A := A) (y := y) (k := 7)
  have hbs := bsY_le (A := A) (y := y)
  refine e166 (d := d) hC ?_
  rw [h17, h10, h14, show ((y : Int) * 16 + 136 - 130 + 1).toNat = 16 * y + 7 by omega, show ((y : Int) * 16 + 136 - 130).toNat = 16 * y + 6 by omega, hC.2.1.2.1 y 7 (by omega) (by omega), hC.2.1.2.1 y 6 (by omega) (by omega)]
  have es : lsS A y 7 = fsF A zE y 7 (-1) 60 (0 + 1) := rfl
  rcases first7 hWC 60 0 rfl rfl with ⟨e1, e2⟩ | ⟨m, e1, e2, e3, e4⟩
  · rw [es, e1, if_pos rfl] at hK
    exact ⟨by omega, by omega, fun q => by exfalso; omega, fun _ => hK I (Fr.refl _ _ _) hl⟩
  · obtain ⟨q, s, r1, r2, r3, r4, r5, r6, r7, r8, r9, r10⟩ := seg_yes hC hWC (show y < 8 by omega) (show 6 < 15 by decide) e2 e4
    rw [e3, Nat.add_zero] at r1
    have h7 := ckd7 r4.2.1 r7
    obtain ⟨o1, o2, o3, o4, o5⟩ := r8
    obtain ⟨a1, a2, a3, -⟩ := o5 r6
    have w1 := (r4.2.2 r6).1 (by omega)
    have ev : cVal (A 140 s) (A 141 s) (A 142 s) = A 141 s := by unfold cVal; rw [if_neg (by omega), if_neg (by omega)]
    have enu : nuS A y (lsS A y 7) = A 141 s := by unfold nuS; rw [es, e1, r2, Int.toNat_natCast]
    have hm : A 141 s * av ≤ 9999 * 40 := Int.mul_le_mul w1.2 hav.2 hav.1 (by omega)
    have hm0 : 0 ≤ A 141 s * av := Int.mul_nonneg w1.1 hav.1
    rw [enu, if_neg (by rw [es, e1]; omega)] at hK
    refine ⟨by omega, by omega, fun _ => ⟨by omega, ?_⟩, fun q => by exfalso; omega⟩
    rw [Int.toNat_natCast, r1]
    refine ⟨fun x => absurd x (by simp), fun p' hp' => ?_⟩
    cases hp'
    rw [a3, ev, o2]
    refine ⟨o1, by unfold inR; omega, fun q1 => ⟨by unfold inR; omega, l, hl, hll, fun I1 f1 l1 => ?_⟩, fun q1 => ?_⟩
    · refine hK I1 f1 ?_
      rw [if_pos q1, es, e1, ← r5]; exact l1
    · rw [if_neg q1] at hK
      exact hK I (Fr.refl _ _ _) hl
end
