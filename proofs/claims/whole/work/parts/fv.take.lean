section
variable {d L F N y ac sz : Nat} {I I0 I1 Ib : mI} {R R0 R1 Rb : mR} {S S0 S1 Sb : mSh} {A : aS} {K : Int32 → mM → Prop}
theorem k101 (hC : RC R S I A) (hF : 800 < F) (hN : N ≤ 800) (hy : y < 8) (hac : A 91 65 = (ac : Int)) (hac8 : ac < 8) (hsz : ld I 43 7 = (sz : Int)) (hsz2 : sz ≤ 40 * ac)
    (hst : ∀ i, i < sz → ∃ p, R 51 i = some p ∧ obJ S p 15 8)
    (k0 : ∀ (r : Nat) I1 R1 S1, acP (A 152) N F 40 0 = (none, r) → EndN I R S I1 R1 S1 (r : Int) N → K (oI (-1)) (bd L I1 R1 S1))
    (k1 : ∀ (r : Nat) (l : List Stm), acP (A 152) N F 40 0 = (some l, r) → ∃ A1 : aS, WfC A1 ∧ A1 91 65 = (ac : Int) + 1 ∧ (∀ a, A1 138 a = u2 A 138 ac (y : Int) 138 a) ∧ prS A1 ac = sz ∧ A1 137 ac = (l.length : Int) ∧ (∀ o ∈ l, StmOk o) ∧ (∀ (j : Nat) (o : Stm), l[j]? = some o → A1 139 (40 * ac + j) = o.1 ∧ A1 140 (40 * ac + j) = o.2.1.1) ∧ (∀ a j : Nat, a < ac → j < (A1 137 a).toNat → ∃ p, R 51 (prS A1 a + j) = some p ∧ obJ S p 15 8 ∧ ld I p 0 = A1 139 (40 * a + j) ∧ ld I p 1 = ckd (A1 140 (40 * a + j)) ∧ ld I p 5 = (a : Int)) ∧ ∀ I1 R1 S1, EndA I R S I1 R1 S1 A1 l y ac sz N → K (oI (ac : Int)) (bd L I1 R1 S1)) : CallI (d + 55) 101 [.ref 43, .int (oI (N : Int)), .int (oI (y : Int))] (bd L I R S) K := by
  have hS := hC.2.2.2.2.2.1
  have hP := hC.2.2.2.2.2.2
  have hW : WrC I := ⟨hS.2.2.2.1, fun j hj => hS.2.1 j hj⟩
  have e2 : ld I 43 2 = (ac : Int) := (hC.at rfl).trans hac
  have eT : (fun j => ld I 45 j) = A 152 := funext fun j => hC.at rfl
  refine e101 (d := d + 54) ?_
  rw [e2]
  refine k108 (d := d + 17) (F := F) (by omega) hW hN ⟨by omega, by omega⟩ eT (fun r Ib I1 R1 S1 hs hf gw hfa hl => ⟨I1, R1, S1, rfl, ?_⟩) (fun l r Ib I1 R1 S1 hs hf gw hfa hz hrd hl => ⟨I1, R1, S1, rfl, ?_⟩)
  · rw [hfa]
    refine ⟨fun c => absurd c (by omega), fun _ => k0 r _ R1 S1 hs ⟨?_, gw.1, fun a k ha hn => ?_, fun a k ha hn => ?_, ?_, ?_, hl, fun a k h1 h2 => ?_⟩⟩
    · refine ((gw.ext rfl rfl).base (fun a k ha => ?_)).lo (fun a k ha => ?_) (fun _ _ _ => rfl)
      · exact hf a k (by simp; omega)
      · rw [v2_ne (by omega), v2_ne (by omega)]
    · have hno : osM.contains (a, k) = false := by
        apply Bool.eq_false_iff.mpr
        intro c
        have := List.contains_iff_mem.mp c
        simp only [List.mem_cons, Prod.mk.injEq, List.not_mem_nil, or_false] at this
        omega
      rw [show u2 (u2 I1 43 1 (oI 0)) 43 3 (oI (r : Int)) a k = u2 I1 43 1 (oI 0) a k from if_neg (by rintro ⟨rfl, rfl⟩; exact hn (by decide)), show u2 I1 43 1 (oI 0) a k = I1 a k from if_neg (by rintro ⟨rfl, rfl⟩; exact hn (by decide)), gw.2.1 a k (by omega) hno]
      refine hf a k ?_
      simp; omega
    · exact gw.2.2 a k (by omega) (by simp; omega)
    · have hri := ld_inR I1 46 2
      rw [hfa] at hri
      rw [ld_w hri, if_neg (by decide), ld_w (inRd rfl), if_pos rfl]
    · have hri := ld_inR I1 46 2
      rw [hfa] at hri
      rw [ld_w hri, if_pos rfl]
    · have hno : osM.contains (a, k) = false := by
        apply Bool.eq_false_iff.mpr
        intro c
        have := List.contains_iff_mem.mp c
        simp only [List.mem_cons, Prod.mk.injEq, List.not_mem_nil, or_false] at this
        omega
      rw [v2_ne (by omega), v2_ne (by omega), gw.2.1 a k h2 hno]
      refine hf a k ?_
      simp; omega
  · rw [hfa, hz]
    obtain ⟨A1, a1, a2, a3, a4, a5, a6, a7, a8, a9⟩ := k1 r l hs
    have hl40 := (acP_mem (T := A 152) (N := N) (F := F) 40 0 r l (Nat.zero_le _) hs).1
    have hmem := (acP_mem (T := A 152) (N := N) (F := F) 40 0 r l (Nat.zero_le _) hs).2
    have lo1 : ∀ a k, a < 155 → ¬ (a = 46 ∨ a = 48 ∨ a = 49 ∨ a = 50) → I1 a k = I a k := fun a k ha hn => by
      have hno : osM.contains (a, k) = false := by
        apply Bool.eq_false_iff.mpr
        intro c
        have := List.contains_iff_mem.mp c
        simp only [List.mem_cons, Prod.mk.injEq, List.not_mem_nil, or_false] at this
        omega
      rw [gw.2.1 a k (by omega) hno]
      refine hf a k ?_
      simp; omega
    have e7 : ld I1 43 7 = (sz : Int) := by unfold ld at hsz ⊢; rw [lo1 43 7 (by decide) (by decide)]; exact hsz
    have e22 : ld I1 43 2 = (ac : Int) := by unfold ld at e2 ⊢; rw [lo1 43 2 (by decide) (by decide)]; exact e2
    rw [e7]
    refine ⟨fun _ => ⟨⟨by omega, by omega⟩, fun c => absurd c (by omega), fun _ => ?_⟩, fun c => absurd rfl c⟩
    have hx : ∀ a k, 155 ≤ a ∨ a = 53 ∨ a = 54 ∨ a = 1 ∨ a = 2 ∨ a = 3 ∨ a = 4 ∨ a = 6 ∨ a = 7 ∨ a = 58 → u2 (u2 I1 43 1 (oI 0)) 43 3 (oI (-1)) a k = I1 a k := fun a k ha => by rw [v2_ne (by omega), v2_ne (by omega)]
    have hex : Ext R S I R1 S1 I1 := (gw.ext rfl rfl).base (fun a k ha => hf a k (by simp; omega))
    have hpn1 : PnC R1 S1 (u2 (u2 I1 43 1 (oI 0)) 43 3 (oI (-1))) := by
      obtain ⟨h1, b, n, hb, hb2, h16, hn4, hr2, h3⟩ := hP
      have hbl : b < 155 + S.length := by
        rcases hb2 with ⟨e, -⟩ | e
        · omega
        · exact e.l155
      have hb3 : 155 ≤ b ∨ b = 54 := by
        rcases hb2 with ⟨e, -⟩ | e
        · exact Or.inr e
        · exact Or.inl e.1
      have eb : ∀ j, I1 b j = I b j := fun j => by
        rcases hb3 with e | e
        · rw [gw.2.1 b j hbl (by apply Bool.eq_false_iff.mpr; intro c; have := List.contains_iff_mem.mp c; simp only [List.mem_cons, Prod.mk.injEq, List.not_mem_nil, or_false] at this; omega)]
          exact hf b j (by simp; omega)
        · exact lo1 b j (by omega) (by omega)
      refine ⟨?_, b, n, (gw.2.2 53 0 (by omega) rfl).trans hb, hb2.imp id gw.ob, h16, hn4, fun j => ?_, ?_⟩
      · unfold ld at h1 ⊢; rw [hx 53 1 (by omega), lo1 53 1 (by decide) (by decide)]; exact h1
      · have := hr2 j
        unfold ld at this ⊢; rw [hx b j (by omega), eb j]; exact this
      · unfold ld at h3 ⊢; rw [hx 53 3 (by omega), lo1 53 3 (by decide) (by decide)]; exact h3
    obtain ⟨n0, hk0, hk0b⟩ : ∃ n0, PnK R1 S1 n0 ∧ PnK R S n0 := by
      obtain ⟨h1, b, n, hb, hb2, h16, hn4, -⟩ := hP
      exact ⟨n, ⟨b, (gw.2.2 53 0 (by omega) rfl).trans hb, hb2.imp id gw.ob, hn4⟩, ⟨b, hb, hb2, hn4⟩⟩
    obtain ⟨X, hX, hX8⟩ := gw.1
    have tk0 : Tkn I R S (u2 (u2 I1 43 1 (oI 0)) 43 3 (oI (-1))) R1 S1 n0 (ac : Int) l sz 0 (u2 (u2 I1 43 1 (oI 0)) 43 3 (oI (-1))) R1 S1 := by
      refine ⟨hex.lo (fun a k ha => hx a k (Or.inl ha)) (fun _ _ _ => rfl), ⟨X, hX⟩, fun _ _ _ _ _ _ => rfl, ?_, fun _ _ _ _ _ => rfl, fun j hj => absurd hj (Nat.not_lt_zero _), fun j o hj => ?_, hS.lo (fun a k ha => (hx a k (by omega)).trans (lo1 a k (by omega) (by omega))), hpn1, n0, hk0, Nat.le_refl _, by omega, by omega⟩
      · rw [ld_w (inRd rfl), if_neg (by decide), ld_w (inRd rfl), if_neg (by decide)]; exact e7
      · obtain ⟨q, b1, b2, b3⟩ := hrd.1 j o hj
        exact ⟨q, b1, b2, b3.clf.lo (fun a k ha => hx a k (Or.inl ha)) (fun _ _ _ => rfl), fun h => absurd h (Nat.not_lt_zero _)⟩
    have z1 : ld (u2 (u2 I1 43 1 (oI 0)) 43 3 (oI (-1))) 46 1 = (l.length : Int) := by rw [ld_o (by decide), ld_o (by decide)]; exact hz
    have z2 : ld (u2 (u2 I1 43 1 (oI 0)) 43 3 (oI (-1))) 43 2 = (ac : Int) := by rw [ld_w (inRd rfl), if_neg (by decide), ld_w (inRd rfl), if_neg (by decide)]; exact e22
    refine l101_3 (d := d + 1) (x2 := (y : Int)) hl40 z1 (by omega) (fun o ho => ⟨a6 o ho, fun h0 => ?_⟩) hrd.2 (by rw [z2]; omega) (fun I2 R2 S2 w w4 tk => ?_) l.length 0 _ R1 S1 _ _ (Nat.zero_add _) tk0
    · obtain ⟨p', r', hp', hs'⟩ := hmem o ho
      exact sm_1900 hN hp' hs' h0
    · rw [z2, Int.toNat_natCast]
      obtain ⟨t1, ⟨X2, t2⟩, t3, t4, t5, t6, t7, t8, t9, n2, t10, t11, t12, t13⟩ := tk
      have i6 : ∀ a k, ¬ a = 52 → ¬ a = 43 → u2 (u2 I2 52 ac (oI (y : Int))) 43 2 (oI ((ac : Int) + 1)) a k = I2 a k := fun a k h1 h2 => by rw [v2_ne h2, v2_ne h1]
      have f43 : ld (u2 (u2 I2 52 ac (oI (y : Int))) 43 2 (oI ((ac : Int) + 1))) 43 2 = (ac : Int) + 1 := by rw [ld_w ⟨by omega, by omega⟩, if_pos rfl]
      have f437 : ld (u2 (u2 I2 52 ac (oI (y : Int))) 43 2 (oI ((ac : Int) + 1))) 43 7 = ((sz + l.length : Nat) : Int) := by rw [ld_w ⟨by omega, by omega⟩, if_neg (by decide), ld_o (by decide)]; exact t4
      have hacs : (A1 91 65).toNat = ac + 1 := by omega
      have hpr : prS A1 (A1 91 65).toNat = sz + l.length := by rw [hacs, prS_succ, a4, a5, Int.toNat_natCast]
      have f52 : ∀ a : Nat, ld (u2 (u2 I2 52 ac (oI (y : Int))) 43 2 (oI ((ac : Int) + 1))) 52 a = A1 138 a := fun a => by
        rw [a3 a, ld_o (by decide), ld_w ⟨by omega, by omega⟩, v2_w]
        by_cases c : a = ac
        · rw [if_pos c, if_pos c]
        · rw [if_neg c, if_neg c]
          have e9 : ld I2 52 a = ld I 52 a := by
            unfold ld
            rw [t3 52 a (by decide) (by decide) (by omega) (by omega), v2_ne (by decide), v2_ne (by decide), lo1 52 a (by decide) (by decide)]
          exact e9.trans (hC.at rfl)
      have fs : StF (u2 (u2 I2 52 ac (oI (y : Int))) 43 2 (oI ((ac : Int) + 1))) R2 S2 A1 := by
        intro a j ha hj
        by_cases ca : a = ac
        · subst ca
          rw [a5, Int.toNat_natCast] at hj
          obtain ⟨o, ho⟩ : ∃ o, l[j]? = some o := ⟨_, List.getElem?_eq_getElem hj⟩
          obtain ⟨q, b1, b2, b3, -⟩ := t7 j o ho
          obtain ⟨c1, c2⟩ := a7 j o ho
          have hq := b3.1.1
          have l9 : ∀ k, ld (u2 (u2 I2 52 a (oI (y : Int))) 43 2 (oI ((a : Int) + 1))) q k = ld I2 q k := fun k => by unfold ld; rw [i6 q k (by omega) (by omega)]
          refine ⟨q, ?_, b3.1, ?_, ?_, ?_⟩
          · rw [a4]; exact (t6 j hj).trans b1
          · rw [l9, c1]; exact b3.2.1
          · rw [l9, c2]; exact b3.2.2.1
          · rw [l9]; exact b3.2.2.2.1
        · have hal : a < ac := by omega
          obtain ⟨q, b1, b2, b3, b4, b5⟩ := a8 a j hal hj
          have hq := b2.1
          have x9 := t1.1 q 15 8 b2 (Or.inl (by decide))
          have l9 : ∀ k, ld (u2 (u2 I2 52 ac (oI (y : Int))) 43 2 (oI ((ac : Int) + 1))) q k = ld I q k := fun k => by unfold ld; rw [i6 q k (by omega) (by omega), x9.2.1 k]
          have hm : prS A1 (a + 1) ≤ prS A1 ac := prS_mono (by omega)
          rw [prS_succ, a4] at hm
          refine ⟨q, ?_, x9.1, (l9 0).trans b3, (l9 1).trans b4, (l9 5).trans b5⟩
          rw [t5 51 _ (by decide) (by omega) (by omega), gw.2.2 51 _ (by omega) rfl]
          exact b1
      have := l101_6 (d := d + 53) (L := L) (y := y) (Q := rqI K) (S := S2) a1 f52 (by rw [f437, hpr]) fs (by rw [f43]; exact ⟨by omega, by omega⟩) (fun I3 R3 y1 y2 y3 => by
        rw [f43, show (ac : Int) + 1 - 1 = (ac : Int) by omega]
        refine rqI_of (a9 I3 R3 S2 ⟨?_, ⟨X2, t2⟩, fun a k ha hn => ?_, fun a k ha hn => ?_, ⟨?_, ?_, ?_, ?_, ?_⟩, fun j o hj => ?_, fun Y c1 c2 => ?_, ?_, ?_, fun n hn => ?_⟩)
        · refine t1.lo (fun a k ha => ?_) (fun a k ha => y2 a k (by omega) (by omega))
          rw [y1 a k (by omega) (by omega)]; exact i6 a k (by omega) (by omega)
        · unfold chI at hn
          rw [y1 a k (by omega) (by omega)]
          rw [show u2 (u2 I2 52 ac (oI (y : Int))) 43 2 (oI ((ac : Int) + 1)) a k = u2 I2 52 ac (oI (y : Int)) a k from if_neg (by omega), show u2 I2 52 ac (oI (y : Int)) a k = I2 a k from if_neg (by omega)]
          rw [t3 a k ha (by omega) (by omega) (by omega)]
          rw [show u2 (u2 I1 43 1 (oI 0)) 43 3 (oI (-1)) a k = u2 I1 43 1 (oI 0) a k from if_neg (by omega), show u2 I1 43 1 (oI 0) a k = I1 a k from if_neg (by omega)]
          exact lo1 a k ha (by omega)
        · unfold chR at hn
          rw [y2 a k (by omega) (by omega), t5 a k ha (by omega) (by omega)]
          refine gw.2.2 a k (by omega) ?_
          simp; omega
        · have e9 : I3 43 1 = u2 (u2 I2 52 ac (oI (y : Int))) 43 2 (oI ((ac : Int) + 1)) 43 1 := y1 43 1 (by omega) (by omega)
          unfold ld
          rw [e9, v2_nk (by decide), v2_ne (by decide), t3 43 1 (by decide) (by decide) (by decide) (by decide), v2_nk (by decide), v2_eq]; rfl
        · have e9 : I3 43 2 = u2 (u2 I2 52 ac (oI (y : Int))) 43 2 (oI ((ac : Int) + 1)) 43 2 := y1 43 2 (by omega) (by omega)
          unfold ld
          rw [e9]; exact f43
        · have e9 : I3 43 3 = u2 (u2 I2 52 ac (oI (y : Int))) 43 2 (oI ((ac : Int) + 1)) 43 3 := y1 43 3 (by omega) (by omega)
          unfold ld
          rw [e9, v2_nk (by decide), v2_ne (by decide), t3 43 3 (by decide) (by decide) (by decide) (by decide), v2_eq]; rfl
        · have e9 : I3 43 7 = u2 (u2 I2 52 ac (oI (y : Int))) 43 2 (oI ((ac : Int) + 1)) 43 7 := y1 43 7 (by omega) (by omega)
          unfold ld
          rw [e9]; exact f437
        · have e9 : I3 52 ac = u2 (u2 I2 52 ac (oI (y : Int))) 43 2 (oI ((ac : Int) + 1)) 52 ac := y1 52 ac (by omega) (by omega)
          unfold ld
          rw [e9, v2_ne (by decide), v2_eq]
          exact toInt_oI ⟨by omega, by omega⟩
        · have hjl : j < l.length := by
            apply Classical.byContradiction
            intro h9
            rw [List.getElem?_eq_none (by omega)] at hj
            cases hj
          obtain ⟨q, b1, b2, b3, b4⟩ := t7 j o hj
          have hq := b3.1.1
          have hi3 : ∀ a k, 155 ≤ a → I3 a k = I2 a k := fun a k ha => (y1 a k (by omega) (by omega)).trans (i6 a k (by omega) (by omega))
          have hr3 : ∀ a k, 155 ≤ a ∨ a = 53 → R3 a k = R2 a k := fun a k ha => y2 a k (by omega) (by omega)
          refine ⟨q, (y2 51 _ (by omega) (by omega)).trans ((t6 j hjl).trans b1), b3.lo hi3 (fun a k ha => hr3 a k (Or.inl ha)), fun h0 => ?_⟩
          obtain ⟨qs, c1, c2⟩ := b4 hjl h0
          exact ⟨qs, (hr3 q 7 (Or.inl hq)).trans c1, c2.lo hi3 hr3⟩
        · obtain ⟨d1, d2, d3, d4⟩ := y3 Y c1 c2
          refine ⟨fun n hn => (d1 n hn).trans ?_, d2, d3, d4⟩
          unfold ptr
          rw [y2 51 _ (by omega) (by omega)]
        · refine t8.lo (fun a k ha => ?_)
          rw [y1 a k (by omega) (by omega)]; exact i6 a k (by omega) (by omega)
        · refine t9.lo (fun a k ha => ?_) (y2 53 0 (by omega) (by omega))
          rw [y1 a k (by omega) (by omega)]; exact i6 a k (by omega) (by omega)
        · obtain rfl := hn.uniq hk0b
          obtain ⟨b, c1, c2⟩ := t10
          have hs8 := slS_8 X hX8
          have hlX : S1.length = S.length + X.length := by rw [hX, List.length_append]
          have hsX : slS S1 = slS S + slS X := by rw [hX, slS_app]
          exact ⟨n2, ⟨b, (y2 53 0 (by omega) (by omega)).trans c1, c2⟩, t11, by omega, by omega⟩) (8 - y) y _ R2 w (.int (oI (y : Int))) w4 (by omega) (Nat.le_refl _) (fun _ _ _ _ => rfl) (fun _ _ _ _ => rfl) (fun Y' h1 h2 => absurd h1 (by omega))
      exact this
end
