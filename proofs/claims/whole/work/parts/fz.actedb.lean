/-- as ActR, and an act refused leaves the years of the acts -/
def ActB (F : Nat) (A : aS) (n y ans : Int) (A1 : aS) : Prop := ActR F A n y ans A1 ∧ (ans < 0 → ∀ k, A1 138 k = A 138 k)
section
variable {d L : Nat} {I I0 : mI} {R : Nat → Nat → Option Nat} {S : List (Nat × Nat)} {A : aS} {Q : Option Value → mM → Prop} {x2 : Int}
theorem k301b {F : Nat} {x1 : Int} {K : Int32 → mM → Prop} (hF : 800 < F) (hR : RM I A) (hA : WfA A) (hC : WfC A) (hW : WfF A) (hD : WfD A) (i1 : inR x1) (i2 : inR x2) (hK : ∀ ans I1 A1, FM I I1 → RM I1 A1 → ActB F A x1 x2 ans A1 → K (oI ans) (bd L I1 R S)) : CallI (d + 50) 301 [.ref 91, .int (oI x1), .int (oI x2)] (bd L I R S) K := by
  have ht0 := hA.1
  have hc0 := hC.1
  have hw0 := hW.1
  have hw1 := hW.2
  have hd0 := hD.1
  refine e301 (d := d + 49) hR ⟨i1, fun c1 => ⟨i2, by rw [Int.tdiv_eq_ediv_of_nonneg ht0.1]; unfold inR; omega, fun c2 => ⟨fun c3 => ?_, fun c3 => ?_⟩, fun c2 => ?_⟩, fun c1 => ?_⟩
  · exact hK (-3) I A (FM.refl I) hR ⟨Or.inr ⟨⟨c1, c2⟩, Or.inl ⟨c3, rfl, rfl⟩⟩, fun _ _ => rfl⟩
  · obtain ⟨N, rfl⟩ : ∃ N : Nat, x1 = (N : Int) := ⟨x1.toNat, by omega⟩
    obtain ⟨ac, hac⟩ : ∃ ac : Nat, A 91 65 = (ac : Int) := ⟨(A 91 65).toNat, by omega⟩
    have hact : (A 91 65).toNat = ac := by omega
    refine c301 (I0 := I) (N := N) (d := d + 49) (by omega) (fun j hj => iB_id (hD.2 j hj)) (fun j => inA hR.1 rfl) (by omega) hC (by omega) ?_ N 0 I mUn (by omega) (FM.refl I) hR (fun j hj => absurd hj (by omega))
    intro I8 w1 f8 r8 t8
    have e65 : u2 (u2 A 91 67 0) 137 (A 91 65).toNat 0 91 65 = (ac : Int) := by rw [v2_ne (by decide), v2_nk (by decide)]; exact hac
    have e66 : u2 (u2 A 91 67 0) 137 (A 91 65).toNat 0 91 66 = A 91 66 := by rw [v2_ne (by decide), v2_nk (by decide)]
    have e67 : u2 (u2 A 91 67 0) 137 (A 91 65).toNat 0 91 67 = 0 := by rw [v2_ne (by decide), v2_eq]
    have e137 : u2 (u2 A 91 67 0) 137 (A 91 65).toNat 0 137 ac = ((0 : Nat) : Int) := by rw [hact]; exact v2_eq
    have x9 : ∀ a k, ¬ (a = 91 ∧ k = 67) → ¬ (a = 137 ∧ k = ac) → u2 (u2 A 91 67 0) 137 (A 91 65).toNat 0 a k = A a k := by
      intro a k h1 h2
      rw [hact, show u2 (u2 A 91 67 0) 137 ac 0 a k = u2 A 91 67 0 a k from if_neg h2]
      exact if_neg h1
    have w9 : WfC (u2 (u2 A 91 67 0) 137 (A 91 65).toNat 0) := by
      refine ⟨by rw [e65]; omega, fun a ha => ?_⟩
      rw [e65] at ha
      have g := hC.2 a (by omega)
      rw [x9 137 a (by omega) (by omega), x9 138 a (by omega) (by omega)]
      refine ⟨g.1, g.2.1, fun j hj => (g.2.2 j hj).ext ⟨by rw [e66]; exact Int.le_refl _, by rw [e66]; omega, fun j _ => ⟨x9 _ _ (by omega) (by omega), x9 _ _ (by omega) (by omega), x9 _ _ (by omega) (by omega), x9 _ _ (by omega) (by omega), x9 _ _ (by omega) (by omega), x9 _ _ (by omega) (by omega)⟩⟩ ⟨x9 _ _ (by omega) (by omega), x9 _ _ (by omega) (by omega), x9 _ _ (by omega) (by omega), x9 _ _ (by omega) (by omega), x9 _ _ (by omega) (by omega)⟩⟩
    generalize u2 (u2 A 91 67 0) 137 (A 91 65).toNat 0 = A9 at r8 e65 e66 e67 e137 x9 w9
    refine l301 (T := A 152) (N := N) (F := F) (ac := ac) (I0 := I) (by omega) (by omega) 40 0 0 I8 A9 rfl f8 r8 (Nat.zero_le _) t8 w9 e65 e137 (by omega) (by omega) ?_ ?_
    · intro I1 A1 r f1 r1 t1 x1 p1
      rw [e66] at x1
      have hr := t1.2.2.2.1
      refine rqI_of (hK (-1) _ (u2 (u2 A1 91 71 (r : Int)) 91 66 (A 91 66)) ((f1.wr (by decide)).wr (by decide)) ((r1.set 91 71 (by unfold inR; omega) rfl).set 91 66 (by unfold inR; omega) rfl) ⟨Or.inr ⟨⟨c1, c2⟩, Or.inr ⟨c3, ?_, ?_, Or.inl ⟨r, ?_, rfl, ?_, ?_, ?_⟩⟩⟩, fun _ k => ?_⟩)
      · intro a k h1 h2 h3 h4
        rw [show u2 (u2 A1 91 71 (r : Int)) 91 66 (A 91 66) a k = u2 A1 91 71 (r : Int) a k from if_neg (by omega), show u2 A1 91 71 (r : Int) a k = A1 a k from if_neg (by omega), x1 a k (by omega) (by omega) (by omega) (by omega)]
        exact x9 a k (by omega) (by omega)
      · rw [v2_nk (by decide), v2_nk (by decide), x1 91 67 (by omega) (by omega) (by omega) (by omega)]; exact e67
      · rw [Int.toNat_natCast]; exact p1
      · rw [v2_nk (by decide)]; exact v2_eq
      · exact v2_eq
      · rw [v2_nk (by decide), v2_nk (by decide), x1 91 65 (by omega) (by omega) (by omega) (by omega), e65, hac]
      · rw [v2_ne (by decide), v2_ne (by decide), x1 138 k (by omega) (by omega) (by omega) (by omega)]
        exact x9 138 k (by omega) (by omega)
    · intro I1 A1 r l f1 r1 t1 x1 h6 hb1 h137 hl hs p1
      rw [e66] at x1 h6 hb1
      rw [show (ac : Int) = A 91 65 from hac.symm]
      have hr := t1.2.2.2.1
      have e71 : A1 91 65 = A 91 65 := by rw [x1 91 65 (by omega) (by omega) (by omega) (by omega), e65, hac]
      have q6 : u2 (u2 (u2 A1 91 71 (-1)) 138 ac x2) 91 65 (A 91 65 + 1) 91 66 = A1 91 66 := by rw [v2_nk (by decide), v2_ne (by decide), v2_nk (by decide)]
      refine rqI_of (hK (A 91 65) _ (u2 (u2 (u2 A1 91 71 (-1)) 138 ac x2) 91 65 (A 91 65 + 1)) ((((f1.wr (by decide)).wr (by decide)).wr (by decide)).wr (by decide)) ⟨(((r1.1.set 91 71 (inRd rfl)).set 138 ac i2).set 91 65 (by unfold inR; omega)).scr rfl, Or.inl ?_⟩ ⟨Or.inr ⟨⟨c1, c2⟩, Or.inr ⟨c3, ?_, ?_, Or.inr ⟨r, l, ?_, rfl, ?_, v2_eq, ?_, ?_, ?_, ?_, ?_, ?_⟩⟩⟩, fun h9 => absurd h9 (by omega)⟩)
      · rw [ld_w (inRd rfl), if_pos rfl]
      · intro a k h1 h2 h3 h4
        rw [show u2 (u2 (u2 A1 91 71 (-1)) 138 ac x2) 91 65 (A 91 65 + 1) a k = u2 (u2 A1 91 71 (-1)) 138 ac x2 a k from if_neg (by omega), show u2 (u2 A1 91 71 (-1)) 138 ac x2 a k = u2 A1 91 71 (-1) a k from if_neg (by omega), show u2 A1 91 71 (-1) a k = A1 a k from if_neg (by omega), x1 a k (by omega) (by omega) (by omega) (by omega)]
        exact x9 a k (by omega) (by omega)
      · rw [v2_nk (by decide), v2_ne (by decide), v2_nk (by decide), x1 91 67 (by omega) (by omega) (by omega) (by omega)]; exact e67
      · rw [Int.toNat_natCast]; exact p1
      · rw [v2_nk (by decide), v2_ne (by decide)]; exact v2_eq
      · rw [hact, v2_ne (by decide)]; exact v2_eq
      · rw [hact, v2_ne (by decide), v2_ne (by decide), v2_ne (by decide), h137]; congr 1; omega
      · omega
      · intro i o hi
        have g := hs i o hi
        rw [hact]
        refine ⟨StmB.ext0 (by have g1 := g.1; rw [show 40 * ac + 0 + i = 40 * ac + i by omega] at g1; exact g1) (fun a h1 h2 => ?_) (fun a j h1 h2 _ => ?_) (by omega), g.2⟩
        · rw [v2_ne (by omega), v2_ne (by omega), v2_ne (by omega)]
        · rw [v2_ne (by omega), v2_ne (by omega), v2_ne (by omega)]
      · omega
      · omega
  · exact hK (-2) I A (FM.refl I) hR ⟨Or.inl ⟨fun q => c2 q.2, rfl, rfl⟩, fun _ _ => rfl⟩
  · exact hK (-2) I A (FM.refl I) hR ⟨Or.inl ⟨fun q => c1 q.1, rfl, rfl⟩, fun _ _ => rfl⟩
end
section
variable {L F : Nat} {I : mI} {R : mR} {S : mSh} {A : aS} {x1 x2 : Int}
theorem act_ex (hF : 800 < F) (hR : RM I A) (hW : WF A) (i1 : inR x1) (i2 : inR x2) : ∃ ans A1, ActB F A x1 x2 ans A1 := by
  obtain ⟨n, v, s, -, x, -, h⟩ := k301b (d := 0) (L := 0) (R := fun _ _ => none) (S := []) (K := fun _ _ => ∃ ans A1, ActB F A x1 x2 ans A1) hF hR hW.1 hW.2.2.2.2.2.2.2.2.2.2.1 hW.2.2.2.2.2.2.2.1 hW.2.2.2.2.2.2.2.2.1 i1 i2 (fun ans I1 A1 _ _ h => ⟨ans, A1, h⟩)
  exact h
/-- what an act refused says of the reference -/
def AcN (A A1 : aS) (r : Int) : Prop := ActX A A1 ∧ A1 91 67 = 0 ∧ A1 91 71 = r ∧ A1 91 66 = A 91 66 ∧ A1 91 65 = A 91 65 ∧ ∀ k, A1 138 k = A 138 k
end
section
variable {A A1 : aS} {I I1 : mI} {R R1 : mR} {S S1 : mSh} {r : Int} {N : Nat}
theorem AcN.st {s ac : Nat} (h : AcN A A1 r) (h65 : A 91 65 = (ac : Int)) (hs : s < 40 * ac) : A1 139 s = A 139 s ∧ A1 140 s = A 140 s ∧ A1 141 s = A 141 s ∧ A1 142 s = A 142 s ∧ A1 143 s = A 143 s :=
  ⟨h.1 139 s (by omega) (by omega) (by omega) (by omega), h.1 140 s (by omega) (by omega) (by omega) (by omega), h.1 141 s (by omega) (by omega) (by omega) (by omega), h.1 142 s (by omega) (by omega) (by omega) (by omega), h.1 143 s (by omega) (by omega) (by omega) (by omega)⟩
theorem AcN.sa {ac : Nat} (h : AcN A A1 r) (hW : WfC A) (h65 : A 91 65 = (ac : Int)) : StAg A A1 ac := fun a ha => by
  have g := hW.2 a (by omega)
  refine ⟨(h.1 137 a (by omega) (by omega) (by omega) (by omega)).symm, (h.2.2.2.2.2 a).symm, fun j hj => ?_⟩
  have e := h.st h65 (s := 40 * a + j) (by omega)
  exact ⟨e.1.symm, e.2.1.symm⟩
theorem AcN.nd (h : AcN A A1 r) (h66 : 0 ≤ A 91 66 ∧ A 91 66 ≤ 7200) : NdAg A A1 := ⟨Int.le_of_eq h.2.2.2.1.symm, h.2.2.2.1 ▸ h66.2, fun j hj => ⟨h.1 144 j (by omega) (by omega) (by omega) (by omega), h.1 145 j (by omega) (by omega) (by omega) (by omega), h.1 146 j (by omega) (by omega) (by omega) (by omega), h.1 147 j (by omega) (by omega) (by omega) (by omega), h.1 148 j (by omega) (by omega) (by omega) (by omega), h.1 149 j (by omega) (by omega) (by omega) (by omega)⟩⟩
theorem rc_no (hC : RC R S I A) (hW : WfC A) (h66 : 0 ≤ A 91 66 ∧ A 91 66 ≤ 7200) (hE : EndN I R S I1 R1 S1 r N) (hf : AcN A A1 r) : RC R1 S1 I1 A1 := by
  obtain ⟨ac, h65⟩ : ∃ ac : Nat, A 91 65 = (ac : Int) := ⟨(A 91 65).toNat, by have := hW.1; omega⟩
  obtain ⟨E1, ⟨X, E2, -⟩, E3, E4, E5, E6, -, E8⟩ := hE
  have eA : (A 91 65).toNat = ac := by omega
  have sa := hf.sa hW h65
  have nd := hf.nd h66
  have cdx : ∀ Y, CdAg A A1 Y := fun Y => CdAg.of hW hf.2.2.2.2.1.symm (by rw [eA]; exact sa)
  have oldc : ∀ p s, s < 40 * ac → WfS A s → ClO R S I A p s → ClO R1 S1 I1 A1 p s := fun p s hs hw hc => clo_old hw nd (hf.st h65 hs) (hc.ext E1)
  have kI : ∀ a k, a < 155 → ¬ (a = 46 ∨ a = 48 ∨ a = 49 ∨ a = 50 ∨ (a = 43 ∧ (k = 1 ∨ k = 3))) → ld I1 a k = ld I a k := fun a k ha hn => by unfold ld; rw [E3 a k ha hn]
  have hcoc : CoC R1 S1 I1 A1 := by
    obtain ⟨c1, c2, c3, c4, c5, c6⟩ := hC.2.1
    have bs : ∀ Y : Nat, bsY A1 Y = bsY A Y := fun Y => bsY_eq hf.2.2.2.2.1 hf.2.2.2.2.2
    refine ⟨fun Y n hY hn => ?_, fun Y k hY hk => ?_, fun Y k n hY hk hn hb => ?_, fun Y hY => ?_, ?_, fun a j ha hj => ?_⟩
    · obtain ⟨o1, o2⟩ := c1 Y n hY hn
      rw [E4 55 _ (by decide) (by decide), ← (cdx Y n).1]
      refine ⟨o1, fun c => ?_⟩
      obtain ⟨q, b1, b2⟩ := o2 c
      obtain ⟨s, z1, -, z3, -, -, a, j, z6, z7, z8⟩ := cdS_wf hW c
      have g := (hW.2 a z7).1
      refine ⟨q, b1, oldc q _ ?_ ?_ b2⟩
      · rw [z1, Int.toNat_natCast]; omega
      · rw [z1, Int.toNat_natCast]; exact z3
    · rw [bs, ← (cdx Y).t1 k, ← c2 Y k hY hk]
      exact kI 57 _ (by decide) (by omega)
    · have hb2 := hb
      rw [← (cdx Y).k1] at hb2
      have h9 := c3 Y k n hY hk hn hb2
      rw [bs, ← (cdx Y).t1 k, ← (show isK A Y k = isK A1 Y k from funext fun n => (cdx Y).k1), E4 56 _ (by decide) (by decide), E4 55 _ (by decide) (by decide)]
      exact h9
    · rw [← (cdx Y).c1, ← c4 Y hY]
      exact kI 44 _ (by decide) (by omega)
    · rw [kI 43 7 (by decide) (by omega), c5, hf.2.2.2.2.1, eA, prS_ag ac sa]
    · rw [hf.2.2.2.2.1, eA] at ha
      have g := hW.2 a (by omega)
      have hj2 := hj
      rw [← (sa a ha).1] at hj2
      obtain ⟨q, b1, b2⟩ := c6 a j (by omega) hj2
      refine ⟨q, ?_, oldc q _ (by have := g.1; omega) (g.2.2 j hj2) b2⟩
      rw [← prS_ag a (sa.sub (by omega)), E4 51 _ (by decide) (by decide)]
      exact b1
  have kp : ∀ a k, a < 155 → ¬ (a = 46 ∨ a = 48 ∨ a = 49 ∨ a = 50 ∨ a = 54 ∨ a = 53 ∨ a = 57 ∨ a = 44 ∨ a = 43 ∨ a = 52) → I1 a k = I a k := fun a k ha hn => E3 a k ha (by omega)
  refine ⟨hC.1.act kp hf.1 (E5.trans hf.2.1.symm) ?_ (E6.trans hf.2.2.1.symm) (fun k => ?_), hcoc, (hC.2.2.1.kp (fun a k h => ?_)).ko (hf.1.ko (by decide) (by decide)), (hC.2.2.2.1.kp (fun a k h => ?_)).ko (hf.1.ko (by decide) (by decide)), (hC.2.2.2.2.1.kp (fun a k h => ?_)).ko (hf.1.ko (by decide) (by decide)), hC.2.2.2.2.2.1.lo (fun a k ha => E3 a k (by omega) (by omega)), ?_⟩
  · rw [kI 43 2 (by decide) (by omega), hf.2.2.2.2.1]
    exact hC.at rfl
  · rw [kI 52 k (by decide) (by omega), hf.2.2.2.2.2 k]
    exact hC.at rfl
  · unfold kbB at h
    have := List.contains_iff_mem.mp h
    simp only [List.mem_cons, List.not_mem_nil, or_false] at this
    exact kp a k (by omega) (by omega)
  · unfold kpB at h
    have := eq_of_beq h
    exact kp a k (by omega) (by omega)
  · unfold kvB at h
    simp only [Bool.or_eq_true, beq_iff_eq] at h
    exact kp a k (by omega) (by omega)
  · obtain ⟨p1, b, n, p2, p3, p4, p5, p6, p7⟩ := hC.2.2.2.2.2.2
    have e53 : R1 53 0 = R 53 0 := E4 53 0 (by decide) (by decide)
    have hb : ld I1 b = ld I b := by
      funext j
      rcases p3 with ⟨z, -⟩ | z
      · rw [z]; exact kI 54 j (by decide) (by omega)
      · unfold ld
        rw [E8 b j z.1 (by have := z.lt; have := z.1; omega)]
    refine ⟨(kI 53 1 (by decide) (by omega)).trans p1, b, n, e53.trans p2, ?_, p4, p5, fun j => by rw [hb]; exact p6 j, by rw [kI 53 3 (by decide) (by omega)]; exact p7⟩
    rcases p3 with z | z
    · exact Or.inl z
    · exact Or.inr (by rw [E2]; exact z.app)
end
