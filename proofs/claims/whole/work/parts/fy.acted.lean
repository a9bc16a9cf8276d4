section
variable {A A1 Ax : aS} {I I1 : mI} {R R1 : mR} {S S1 : mSh} {p s ac y Y N sz : Nat} {o : Stm} {l : List Stm}
theorem mrc2 {a k : Nat} {q : Nat × Nat} (h : mr a k = some q) : (∃ r ∈ mrA, r.1 = a ∧ q = (r.2, k)) ∨ ∃ r ∈ mrS, r.1 = a ∧ r.2.1 = k ∧ q = (91, r.2.2) := by
  unfold mr at h
  split at h
  · rename_i r hr
    cases h
    have h2 := List.find?_some hr
    exact Or.inl ⟨r, List.mem_of_find?_eq_some hr, eq_of_beq h2, rfl⟩
  · split at h
    · rename_i r hr
      cases h
      have h2 := List.find?_some hr
      simp only [Bool.and_eq_true, beq_iff_eq] at h2
      exact Or.inr ⟨r, List.mem_of_find?_eq_some hr, h2.1, h2.2, rfl⟩
    · cases h
theorem mrA_ok : ∀ r ∈ mrA, ¬ r.1 = 43 ∧ (¬ r.1 = 52 → ¬ (137 ≤ r.2 ∧ r.2 ≤ 149)) ∧ ¬ r.2 = 91 ∧ r.1 < 155 ∧ ¬ (r.1 = 46 ∨ r.1 = 48 ∨ r.1 = 49 ∨ r.1 = 50 ∨ r.1 = 54 ∨ r.1 = 53 ∨ r.1 = 57 ∨ r.1 = 44) := by decide
theorem mrS_ok : ∀ r ∈ mrS, ¬ r.1 = 52 ∧ (r.1 = 43 → (r.2.1 = 1 ∧ r.2.2 = 67) ∨ (r.2.1 = 2 ∧ r.2.2 = 65) ∨ (r.2.1 = 3 ∧ r.2.2 = 71)) ∧ (¬ r.1 = 43 → ¬ (r.2.2 = 65 ∨ r.2.2 = 66 ∨ r.2.2 = 67 ∨ r.2.2 = 71)) ∧ r.1 < 155 ∧ ¬ (r.1 = 46 ∨ r.1 = 48 ∨ r.1 = 49 ∨ r.1 = 50 ∨ r.1 = 54 ∨ r.1 = 53 ∨ r.1 = 57 ∨ r.1 = 44) := by decide
theorem mrA_52 : ∀ r ∈ mrA, r.1 = 52 → r.2 = 138 := by decide
theorem RelC0.act (h : RelC0 I A) (hI : ∀ a k, a < 155 → ¬ (a = 46 ∨ a = 48 ∨ a = 49 ∨ a = 50 ∨ a = 54 ∨ a = 53 ∨ a = 57 ∨ a = 44 ∨ a = 43 ∨ a = 52) → I1 a k = I a k) (hx : ActX A A1) (h1 : ld I1 43 1 = A1 91 67) (h2 : ld I1 43 2 = A1 91 65) (h3 : ld I1 43 3 = A1 91 71) (h52 : ∀ k, ld I1 52 k = A1 138 k) : RelC0 I1 A1 := by
  intro a k
  have h9 := h a k
  split
  · rename_i q hq
    rw [hq] at h9
    dsimp only at h9
    rcases mrc2 hq with ⟨r, hr, ha, hq2⟩ | ⟨r, hr, ha, hk, hq2⟩
    · obtain ⟨o1, o2, o3, o4, o5⟩ := mrA_ok r hr
      subst hq2
      by_cases c : a = 52
      · have := mrA_52 r hr (ha.trans c)
        rw [c]
        show ld I1 52 k = A1 r.2 k
        rw [this]; exact h52 k
      · have := o2 (by omega)
        show ld I1 a k = A1 r.2 k
        rw [hx r.2 k (by omega) (by omega) (by omega) (by omega)]
        refine Eq.trans ?_ h9
        unfold ld; rw [hI a k (by omega) (by omega)]
    · obtain ⟨o1, o2, o3, o4, o5⟩ := mrS_ok r hr
      subst hq2
      by_cases c : a = 43
      · subst c
        show ld I1 43 k = A1 91 r.2.2
        rcases o2 ha with ⟨z1, z2⟩ | ⟨z1, z2⟩ | ⟨z1, z2⟩
        · rw [← hk, z1, z2]; exact h1
        · rw [← hk, z1, z2]; exact h2
        · rw [← hk, z1, z2]; exact h3
      · have := o3 (by omega)
        show ld I1 a k = A1 91 r.2.2
        rw [hx 91 r.2.2 (by omega) (by omega) (by omega) (by omega)]
        refine Eq.trans ?_ h9
        unfold ld; rw [hI a k (by omega) (by omega)]
  · trivial
theorem coc_act (hC : CoC R S I A) (hW : WfC A) (hW1 : WfC A1) (hWx : WfC Ax) (h65 : A 91 65 = (ac : Int)) (h66 : 0 ≤ A 91 66) (hsz : sz = prS A ac) (hE : EndA I R S I1 R1 S1 Ax l y ac sz N) (hf : AcF A A1 l y ac) (hx : AcF A Ax l y ac) (hy : y < 8) : CoC R1 S1 I1 A1 := by
  obtain ⟨c1, c2, c3, c4, c5, c6⟩ := hC
  obtain ⟨E1, -, E3, E4, ⟨e1, e2, e3, e4, e5⟩, E6, E7, -⟩ := hE
  have h165 : (A1 91 65).toNat = ac + 1 := by have := hf.2.2.2.1; omega
  have hx65 : (Ax 91 65).toNat = ac + 1 := by have := hx.2.2.2.1; omega
  have eA : (A 91 65).toNat = ac := by omega
  have sa := hf.sa hW h65
  have st := hf.two hx hW h65
  have cdx : ∀ Y, CdAg A1 Ax Y := fun Y => CdAg.of hW1 (hf.2.2.2.1.trans hx.2.2.2.1.symm) (by rw [h165]; exact st)
  have epr : ∀ a, a ≤ ac → prS A1 a = prS A a := fun a ha => (prS_ag a (sa.sub ha)).symm
  have eprx : ∀ a, a ≤ ac + 1 → prS Ax a = prS A1 a := fun a ha => (prS_ag a (st.sub ha)).symm
  have oldc : ∀ p s, s < 40 * ac → WfS A s → ClO R S I A p s → ClO R1 S1 I1 A1 p s := fun p s hs hw hc => clo_old hw (hf.nd h66) (hf.st h65 hs) (hc.ext E1)
  have hst : ∀ a j : Nat, a < ac + 1 → j < (A1 137 a).toNat → ∃ p, R1 51 (prS A1 a + j) = some p ∧ ClO R1 S1 I1 A1 p (40 * a + j) := by
    intro a j ha hj
    by_cases c : a = ac
    · subst c
      rw [hf.2.2.2.2.2.1, Int.toNat_natCast] at hj
      obtain ⟨o, ho⟩ : ∃ o, l[j]? = some o := ⟨_, List.getElem?_eq_getElem hj⟩
      obtain ⟨q, b1, b2, b3⟩ := E6 j o ho
      obtain ⟨d1, d2⟩ := hf.2.2.2.2.2.2.2.1 j o ho
      have hlen := hf.2.2.2.2.2.2.1
      refine ⟨q, by rw [epr a (Nat.le_refl _), ← hsz]; exact b1, clo_new d1 d2 hf.2.2.2.2.2.2.2.2.2 ?_ b3⟩
      rw [show (40 * a + j) / 40 = a by omega]; exact b2
    · have hal : a < ac := by omega
      have g := hW.2 a (by omega)
      rw [← (sa a hal).1] at hj
      obtain ⟨q, b1, b2⟩ := c6 a j (by omega) hj
      have hm : prS A (a + 1) ≤ prS A ac := prS_mono (by omega)
      rw [prS_succ] at hm
      have hlt40 : j < 40 := by have := g.1; omega
      refine ⟨q, ?_, oldc q _ (by omega) (g.2.2 j hj) b2⟩
      rw [epr a (by omega), E4 51 _ (by decide) (by unfold chR; omega)]
      exact b1
  have bt : ∀ Y : Nat, y ≤ Y → bsY A1 Y = 60 * Y := fun Y hY => bsY_tl h165 (by rw [hf.2.2.2.2.1]; omega)
  have bo : ∀ Y : Nat, Y < y → bsY A1 Y = bsY A Y := fun Y hY => bsY_nt h165 eA (by rw [hf.2.2.2.2.1]; omega) (fun a ha => hf.1 138 a (by omega) (by omega) (by omega) (by omega))
  have wf140 : ∀ {Y n : Nat}, ¬ cdS A1 Y n = -1 → ∃ a j : Nat, cdS A1 Y n = ((40 * a + j : Nat) : Int) ∧ a < ac + 1 ∧ j < (A1 137 a).toNat ∧ j < 40 := by
    intro Y n hc
    obtain ⟨s, z1, -, -, -, -, a, j, z6, z7, z8⟩ := cdS_wf hW1 hc
    have g := (hW1.2 a z7).1
    exact ⟨a, j, by rw [z1, z6], by omega, z8, by omega⟩
  refine ⟨fun Y n hY hn => ?_, fun Y k hY hk => ?_, fun Y k n hY hk hn hb => ?_, fun Y hY => ?_, ?_, fun a j ha hj => hst a j (by omega) hj⟩
  · by_cases cy : y ≤ Y
    · have hr := (E7 Y cy hY).1 n hn
      rw [← (cdx Y n).1] at hr
      refine ⟨fun c => by rw [hr, c]; rfl, fun c => ?_⟩
      obtain ⟨a, j, z1, z2, z3, z4⟩ := wf140 c
      obtain ⟨q, b1, b2⟩ := hst a j z2 z3
      refine ⟨q, ?_, by rw [z1, Int.toNat_natCast]; exact b2⟩
      rw [hr, z1, ptr_at z4, eprx a (by omega)]; exact b1
    · have cm := CdAg.more hW h65 hf (Y := Y) (by omega)
      have e55 : R1 55 (61 * Y + n) = R 55 (61 * Y + n) := E4 55 _ (by decide) (by unfold chR; omega)
      obtain ⟨o1, o2⟩ := c1 Y n hY hn
      rw [e55, ← (cm n).1]
      refine ⟨o1, fun c => ?_⟩
      obtain ⟨q, b1, b2⟩ := o2 c
      obtain ⟨s, z1, -, z3, -, -, a, j, z6, z7, z8⟩ := cdS_wf hW c
      have g := (hW.2 a z7).1
      refine ⟨q, b1, oldc q _ ?_ ?_ b2⟩
      · rw [z1, Int.toNat_natCast]; omega
      · rw [z1, Int.toNat_natCast]; exact z3
  · by_cases cy : y ≤ Y
    · rw [bt Y cy, (E7 Y cy hY).2.1 k hk, (cdx Y).t1 k]
    · have cm := CdAg.more hW h65 hf (Y := Y) (by omega)
      rw [bo Y (by omega), ← cm.t1 k, ← c2 Y k hY hk]
      unfold ld
      rw [E3 57 _ (by decide) (by unfold chI; omega)]
  · by_cases cy : y ≤ Y
    · have hb2 := hb
      rw [(cdx Y).k1] at hb2
      have h9 := (E7 Y cy hY).2.2.1 k n hk hn hb2
      rw [← (cdx Y).t1 k, ← (show isK A1 Y k = isK Ax Y k from funext fun n => (cdx Y).k1)] at h9
      rw [bt Y cy]
      exact h9
    · have cm := CdAg.more hW h65 hf (Y := Y) (by omega)
      have hb2 := hb
      rw [← cm.k1] at hb2
      obtain ⟨z1, z2⟩ := stK_at hk hn hb2
      have h9 := c3 Y k n hY hk hn hb2
      have hbs := bsY_le (A := A) (y := Y)
      rw [bo Y (by omega), ← cm.t1 k, ← (show isK A Y k = isK A1 Y k from funext fun n => cm.k1), E4 56 _ (by decide) (by unfold chR; omega), E4 55 _ (by decide) (by unfold chR; omega)]
      exact h9
  · by_cases cy : y ≤ Y
    · rw [(E7 Y cy hY).2.2.2, (cdx Y).c1]
    · have cm := CdAg.more hW h65 hf (Y := Y) (by omega)
      rw [← cm.c1, ← c4 Y hY]
      unfold ld
      rw [E3 44 _ (by decide) (by unfold chI; omega)]
  · rw [e4, h165, prS_succ, epr ac (Nat.le_refl _), hf.2.2.2.2.2.1, Int.toNat_natCast, hsz]
theorem rc_act (hC : RC R S I A) (hW : WfC A) (hW1 : WfC A1) (hWx : WfC Ax) (h65 : A 91 65 = (ac : Int)) (h66 : 0 ≤ A 91 66) (hsz : sz = prS A ac) (hE : EndA I R S I1 R1 S1 Ax l y ac sz N) (hf : AcF A A1 l y ac) (hx : AcF A Ax l y ac) (hy : y < 8) : RC R1 S1 I1 A1 := by
  have hcoc := coc_act hC.2.1 hW hW1 hWx h65 h66 hsz hE hf hx hy
  obtain ⟨E1, -, E3, E4, ⟨e1, e2, e3, e4, e5⟩, E6, E7, hS1, hP1, -⟩ := hE
  have kp : ∀ a k, a < 155 → ¬ (a = 46 ∨ a = 48 ∨ a = 49 ∨ a = 50 ∨ a = 54 ∨ a = 53 ∨ a = 57 ∨ a = 44 ∨ a = 43 ∨ a = 52) → I1 a k = I a k := fun a k ha hn => E3 a k ha (by unfold chI; omega)
  refine ⟨hC.1.act kp hf.1 (e1.trans hf.2.1.symm) (e2.trans hf.2.2.2.1.symm) (e3.trans hf.2.2.1.symm) (fun k => ?_), hcoc, (hC.2.2.1.kp (fun a k h => ?_)).ko (hf.1.ko (by decide) (by decide)), (hC.2.2.2.1.kp (fun a k h => ?_)).ko (hf.1.ko (by decide) (by decide)), (hC.2.2.2.2.1.kp (fun a k h => ?_)).ko (hf.1.ko (by decide) (by decide)), hS1, hP1⟩
  · by_cases c : k = ac
    · rw [c, e5]; exact hf.2.2.2.2.1.symm
    · rw [hf.1 138 k (by omega) (by omega) (by omega) (by omega), ← hC.at (a := 52) (k := k) rfl]
      unfold ld
      rw [E3 52 k (by decide) (by unfold chI; omega)]
  · unfold kbB at h
    have := List.contains_iff_mem.mp h
    simp only [List.mem_cons, List.not_mem_nil, or_false] at this
    exact kp a k (by omega) (by omega)
  · unfold kpB at h
    have := eq_of_beq h
    exact kp a k (by omega) (by omega)
  · unfold kvB at h
    simp only [Bool.or_eq_true, beq_iff_eq] at h
    exact kp a k (by omega) (by omega)
end
