section
variable {T : Nat → Int} {N F p r q : Nat} {v : Int}
theorem tk_gap {w : Int64} (hp : p ≤ N) (hc : chg T N true p = 0) (c : tkOk T N (bl T N p) w) (hw : WlOk w) (hw0 : ¬ w = Int64.ofInt 0) (hl : 1 ≤ (wB w).length) : p + 1 + (wB w).length ≤ lt T N (bl T N p) := by
  have hq := bl_in (T := T) hp
  have h1 := tk_len c hw hq.2 hw0
  have h2 := lt_in (T := T) hq.2
  have h3 := lt_let (T := T) (N := N) (q := bl T N p) (j := bl T N p) (Nat.le_refl _) (by omega)
  have h4 := gb_chg (T := T) (N := N) (b := true) hp ⟨by omega, h3⟩
  rw [hc] at h4
  have : gpN true = 1 := rfl
  omega
theorem rW_gap {w : Int64} {u : Unit} (hp : p ≤ N) (hc : chg T N true p = 0) (h : rWord T N w p = (some u, r)) (hw : WlOk w) (hw0 : ¬ w = Int64.ofInt 0) (hl : 1 ≤ (wB w).length) : p + 1 + (wB w).length ≤ r ∧ r ≤ N := by
  have hq := bl_in (T := T) hp
  unfold rWord at h
  split at h
  · rename_i c
    cases h
    exact ⟨tk_gap hp hc c hw hw0 hl, (lt_in (T := T) hq.2).2⟩
  · cases h
theorem mw_long (hp : p ≤ N) (hc : chg T N true p = 0) (h : mwP T N p = (some v, r)) : p + 1 ≤ r ∧ r ≤ N ∧ chg T N true r = 0 ∧ ∃ m : Nat, (∀ z, bdR 1 v z = tW (if v = 1 then wPresent else if v = 2 then wLate else wWork) :: [tW wAs, tN z]) ∧ (wB (if v = 1 then wPresent else if v = 2 then wLate else wWork)).length = m ∧ p + 1 + m ≤ r := by
  have hq := bl_in (T := T) hp
  have hl := lt_in (T := T) hq.2
  unfold mwP at h
  split at h
  · rename_i c
    cases h
    have g := tk_gap hp hc c (by decide) (by decide) (by decide)
    exact ⟨by omega, hl.2, chg_lt hq.2, _, fun z => rfl, rfl, g⟩
  · split at h
    · rename_i c
      cases h
      have g := tk_gap hp hc c (by decide) (by decide) (by decide)
      exact ⟨by omega, hl.2, chg_lt hq.2, _, fun z => rfl, rfl, g⟩
    · split at h
      · rename_i c
        cases h
        have g := tk_gap hp hc c (by decide) (by decide) (by decide)
        exact ⟨by omega, hl.2, chg_lt hq.2, _, fun z => rfl, rfl, g⟩
      · cases h
theorem gp_long (hp : p ≤ N) (hc : chg T N true p = 0) (h : gpP T N p = (some v, r)) : ∃ m : Nat, 4 * m ≤ 5 * (r - p) ∧ p + 4 ≤ r ∧ r ≤ N ∧ rl true (if v = -2 then [tW wHead] else if v = -3 then [tW wChild] else [tW wPass, tN v]) = m := by
  have hq := bl_in (T := T) hp
  have hl := lt_in (T := T) hq.2
  unfold gpP at h
  split at h
  · rename_i c
    cases h
    have g := tk_gap hp hc c (by decide) (by decide) (by decide)
    rw [wlHead] at g
    refine ⟨_, ?_, by omega, hl.2, rfl⟩
    rw [if_pos rfl, rl_W, rl_nil, wlHead]
    show 4 * (1 + 4 + 0) ≤ _
    omega
  · split at h
    · rename_i c
      cases h
      have g := tk_gap hp hc c (by decide) (by decide) (by decide)
      rw [wlChild] at g
      refine ⟨_, ?_, by omega, hl.2, rfl⟩
      rw [if_neg (by decide), if_pos rfl, rl_W, rl_nil, wlChild]
      show 4 * (1 + 5 + 0) ≤ _
      omega
    · obtain ⟨u, r1, e1, e2⟩ := bnd_some h
      have g := rW_gap hp hc e1 (by decide) (by decide) (by decide)
      rw [wlPass] at g
      have l2 := rN_long g.2 e2
      have p2 := dB_pos (v := v)
      have hv := rNum_some e2
      refine ⟨_, ?_, by omega, l2.2.1, rfl⟩
      rw [if_neg (by omega), if_neg (by omega), rl_W, rl_N, rl_nil, wlPass]
      show 4 * (1 + 4 + (1 + (dB v).length + 0)) ≤ _
      omega
theorem bd_long {b : Bdy} (hv15 : 1 ≤ v ∧ v ≤ 15) (hp : p ≤ N) (hc : chg T N true p = 0) (hb : bdP T N v p = (some b, r)) : 4 * rl true (bdR b.1 b.2.1 b.2.2) ≤ 5 * (r - p) + 5 + (wB (bdW v)).length ∧ b.1 = v ∧ r ≤ N ∧ p ≤ r := by
  have h15 : v = 1 ∨ v = 2 ∨ v = 3 ∨ v = 4 ∨ v = 5 ∨ v = 6 ∨ v = 7 ∨ v = 8 ∨ v = 9 ∨ v = 10 ∨ v = 11 ∨ v = 12 ∨ v = 13 ∨ v = 14 ∨ v = 15 := by omega
  rcases h15 with hv | hv | hv | hv | hv | hv | hv | hv | hv | hv | hv | hv | hv | hv | hv
  · subst hv
    rw [show bdW 1 = wCount from rfl, wlCount]
    rw [bdP_1] at hb
    have hb2 := hb
    unfold cnP at hb2
    obtain ⟨a, r1, e1, hb3⟩ := bnd_some hb2
    obtain ⟨u2', r2, e2, hb4⟩ := bnd_some hb3
    obtain ⟨z, r3, e3, hb5⟩ := bnd_some hb4
    cases hb5
    obtain ⟨l1, l1b, l1c, m, em, hm⟩ := mw_long hp hc e1
    have l2 := rW_gap l1b l1c e2 (by decide) (by decide) (by decide)
    have l3 := rN_long l2.2 e3
    rw [wlAs] at l2
    have p3 := dB_pos (v := z)
    have eB : rl true (bdR 1 a z) = 1 + m + (1 + 2 + (1 + (dB z).length + 0)) := by
      rw [em z, rl_W, rl_W, rl_N, rl_nil, wlAs, hm.1]; rfl
    refine ⟨?_, rfl, l3.2.1, by omega⟩
    show 4 * rl true (bdR 1 a z) ≤ _
    rw [eB]; omega
  · subst hv
    rw [show bdW 2 = wExcuse from rfl, wlExcuse]
    rw [bdP_2] at hb
    have hb2 := hb
    unfold prP at hb2
    obtain ⟨a, r1, e1, hb3⟩ := bnd_some hb2
    obtain ⟨u2', r2, e2, hb4⟩ := bnd_some hb3
    obtain ⟨z, r3, e3, hb5⟩ := bnd_some hb4
    cases hb5
    have l1 := rN_long hp e1
    have l2 := rW_long l1.2.1 e2 (by decide) (by decide)
    have l3 := rN_long l2.2.1 e3
    rw [wlAs] at l2
    have p1 := dB_pos (v := a)
    have p3 := dB_pos (v := z)
    have eB : rl true (bdR 2 a z) = 1 + (dB a).length + (1 + 2 + (1 + (dB z).length + 0)) := by
      show rl true (tN a :: [tW wAs, tN z]) = _
      rw [rl_N, rl_W, rl_N, rl_nil, wlAs]; rfl
    refine ⟨?_, rfl, l3.2.1, by omega⟩
    show 4 * rl true (bdR 2 a z) ≤ _
    rw [eB]; omega
  · subst hv
    rw [show bdW 3 = wAttend from rfl, wlAttend]
    rw [bdP_pl (v := 3) (by decide)] at hb
    unfold plP at hb
    obtain ⟨a, r1, e1, hb5⟩ := bnd_some hb
    cases hb5
    have l1 := rN_long hp e1
    have p1 := dB_pos (v := a)
    have eB : rl true (bdR 3 a 0) = 1 + (dB a).length + 0 := by
      show rl true [tN a] = _
      rw [rl_N, rl_nil]; rfl
    refine ⟨?_, rfl, l1.2.1, by omega⟩
    show 4 * rl true (bdR 3 a 0) ≤ _
    rw [eB]; omega
  · subst hv
    rw [show bdW 4 = wPass from rfl, wlPass]
    rw [bdP_4] at hb
    have hb2 := hb
    unfold prP at hb2
    obtain ⟨a, r1, e1, hb3⟩ := bnd_some hb2
    obtain ⟨u2', r2, e2, hb4⟩ := bnd_some hb3
    obtain ⟨z, r3, e3, hb5⟩ := bnd_some hb4
    cases hb5
    have l1 := rN_long hp e1
    have l2 := rW_long l1.2.1 e2 (by decide) (by decide)
    have l3 := rN_long l2.2.1 e3
    rw [wlNeeds] at l2
    have p1 := dB_pos (v := a)
    have p3 := dB_pos (v := z)
    have eB : rl true (bdR 4 a z) = 1 + (dB a).length + (1 + 5 + (1 + (dB z).length + 0)) := by
      show rl true (tN a :: [tW wNeeds, tN z]) = _
      rw [rl_N, rl_W, rl_N, rl_nil, wlNeeds]; rfl
    refine ⟨?_, rfl, l3.2.1, by omega⟩
    show 4 * rl true (bdR 4 a z) ≤ _
    rw [eB]; omega
  · subst hv
    rw [show bdW 5 = wRise from rfl, wlRise]
    rw [bdP_pl (v := 5) (by decide)] at hb
    unfold plP at hb
    obtain ⟨a, r1, e1, hb5⟩ := bnd_some hb
    cases hb5
    have l1 := rN_long hp e1
    have p1 := dB_pos (v := a)
    have eB : rl true (bdR 5 a 0) = 1 + (dB a).length + 0 := by
      show rl true [tN a] = _
      rw [rl_N, rl_nil]; rfl
    refine ⟨?_, rfl, l1.2.1, by omega⟩
    show 4 * rl true (bdR 5 a 0) ≤ _
    rw [eB]; omega
  · subst hv
    rw [show bdW 6 = wGrant from rfl, wlGrant]
    rw [bdP_6] at hb
    have hb2 := hb
    unfold grP at hb2
    obtain ⟨a, r1, e1, hb3⟩ := bnd_some hb2
    obtain ⟨u2', r2, e2, hb4⟩ := bnd_some hb3
    obtain ⟨z, r3, e3, hb5⟩ := bnd_some hb4
    cases hb5
    have l1 := rN_long hp e1
    have l2 := rW_long l1.2.1 e2 (by decide) (by decide)
    rw [wlPer] at l2
    obtain ⟨m, l3, l3a, l3b, em⟩ := gp_long l2.2.1 (l2.2.2 true) e3
    have p1 := dB_pos (v := a)
    have eB : rl true (bdR 6 a z) = 1 + (dB a).length + (1 + 3 + m) := by
      show rl true (tN a :: tW wPer :: (if z = -2 then [tW wHead] else if z = -3 then [tW wChild] else [tW wPass, tN z])) = _
      rw [rl_N, rl_W, wlPer, em]; rfl
    refine ⟨?_, rfl, l3b, by omega⟩
    show 4 * rl true (bdR 6 a z) ≤ _
    rw [eB]; omega
  · subst hv
    rw [show bdW 7 = wCap from rfl, wlCap]
    rw [bdP_pl (v := 7) (by decide)] at hb
    unfold plP at hb
    obtain ⟨a, r1, e1, hb5⟩ := bnd_some hb
    cases hb5
    have l1 := rN_long hp e1
    have p1 := dB_pos (v := a)
    have eB : rl true (bdR 7 a 0) = 1 + (dB a).length + 0 := by
      show rl true [tN a] = _
      rw [rl_N, rl_nil]; rfl
    refine ⟨?_, rfl, l1.2.1, by omega⟩
    show 4 * rl true (bdR 7 a 0) ≤ _
    rw [eB]; omega
  · subst hv
    rw [show bdW 8 = wFee from rfl, wlFee]
    rw [bdP_pl (v := 8) (by decide)] at hb
    unfold plP at hb
    obtain ⟨a, r1, e1, hb5⟩ := bnd_some hb
    cases hb5
    have l1 := rN_long hp e1
    have p1 := dB_pos (v := a)
    have eB : rl true (bdR 8 a 0) = 1 + (dB a).length + 0 := by
      show rl true [tN a] = _
      rw [rl_N, rl_nil]; rfl
    refine ⟨?_, rfl, l1.2.1, by omega⟩
    show 4 * rl true (bdR 8 a 0) ≤ _
    rw [eB]; omega
  · subst hv
    rw [show bdW 9 = wHalf from rfl, wlHalf]
    rw [bdP_9] at hb
    cases hb
    exact ⟨by show 4 * 0 ≤ _; omega, rfl, hp, Nat.le_refl _⟩
  · subst hv
    rw [show bdW 10 = wRoom from rfl, wlRoom]
    rw [bdP_pl (v := 10) (by decide)] at hb
    unfold plP at hb
    obtain ⟨a, r1, e1, hb5⟩ := bnd_some hb
    cases hb5
    have l1 := rN_long hp e1
    have p1 := dB_pos (v := a)
    have eB : rl true (bdR 10 a 0) = 1 + (dB a).length + 0 := by
      show rl true [tN a] = _
      rw [rl_N, rl_nil]; rfl
    refine ⟨?_, rfl, l1.2.1, by omega⟩
    show 4 * rl true (bdR 10 a 0) ≤ _
    rw [eB]; omega
  · subst hv
    rw [show bdW 11 = wStaff from rfl, wlStaff]
    rw [bdP_pl (v := 11) (by decide)] at hb
    unfold plP at hb
    obtain ⟨a, r1, e1, hb5⟩ := bnd_some hb
    cases hb5
    have l1 := rN_long hp e1
    have p1 := dB_pos (v := a)
    have eB : rl true (bdR 11 a 0) = 1 + (dB a).length + 0 := by
      show rl true [tN a] = _
      rw [rl_N, rl_nil]; rfl
    refine ⟨?_, rfl, l1.2.1, by omega⟩
    show 4 * rl true (bdR 11 a 0) ≤ _
    rw [eB]; omega
  · subst hv
    rw [show bdW 12 = wStep from rfl, wlStep]
    rw [bdP_pl (v := 12) (by decide)] at hb
    unfold plP at hb
    obtain ⟨a, r1, e1, hb5⟩ := bnd_some hb
    cases hb5
    have l1 := rN_long hp e1
    have p1 := dB_pos (v := a)
    have eB : rl true (bdR 12 a 0) = 1 + (dB a).length + 0 := by
      show rl true [tN a] = _
      rw [rl_N, rl_nil]; rfl
    refine ⟨?_, rfl, l1.2.1, by omega⟩
    show 4 * rl true (bdR 12 a 0) ≤ _
    rw [eB]; omega
  · subst hv
    rw [show bdW 13 = wPay from rfl, wlPay]
    rw [bdP_13] at hb
    have hb2 := hb
    unfold prP at hb2
    obtain ⟨a, r1, e1, hb3⟩ := bnd_some hb2
    obtain ⟨u2', r2, e2, hb4⟩ := bnd_some hb3
    obtain ⟨z, r3, e3, hb5⟩ := bnd_some hb4
    cases hb5
    have l1 := rN_long hp e1
    have l2 := rW_long l1.2.1 e2 (by decide) (by decide)
    have l3 := rN_long l2.2.1 e3
    rw [wlIs] at l2
    have p1 := dB_pos (v := a)
    have p3 := dB_pos (v := z)
    have eB : rl true (bdR 13 a z) = 1 + (dB a).length + (1 + 2 + (1 + (dB z).length + 0)) := by
      show rl true (tN a :: [tW wIs, tN z]) = _
      rw [rl_N, rl_W, rl_N, rl_nil, wlIs]; rfl
    refine ⟨?_, rfl, l3.2.1, by omega⟩
    show 4 * rl true (bdR 13 a z) ≤ _
    rw [eB]; omega
  · subst hv
    rw [show bdW 14 = wTeach from rfl, wlTeach]
    rw [bdP_14] at hb
    have hb2 := hb
    unfold prP at hb2
    obtain ⟨a, r1, e1, hb3⟩ := bnd_some hb2
    obtain ⟨u2', r2, e2, hb4⟩ := bnd_some hb3
    obtain ⟨z, r3, e3, hb5⟩ := bnd_some hb4
    cases hb5
    have l1 := rN_long hp e1
    have l2 := rW_long l1.2.1 e2 (by decide) (by decide)
    have l3 := rN_long l2.2.1 e3
    rw [wlIs] at l2
    have p1 := dB_pos (v := a)
    have p3 := dB_pos (v := z)
    have eB : rl true (bdR 14 a z) = 1 + (dB a).length + (1 + 2 + (1 + (dB z).length + 0)) := by
      show rl true (tN a :: [tW wIs, tN z]) = _
      rw [rl_N, rl_W, rl_N, rl_nil, wlIs]; rfl
    refine ⟨?_, rfl, l3.2.1, by omega⟩
    show 4 * rl true (bdR 14 a z) ≤ _
    rw [eB]; omega
  · subst hv
    rw [show bdW 15 = wSmall from rfl, wlSmall]
    rw [bdP_pl (v := 15) (by decide)] at hb
    unfold plP at hb
    obtain ⟨a, r1, e1, hb5⟩ := bnd_some hb
    cases hb5
    have l1 := rN_long hp e1
    have p1 := dB_pos (v := a)
    have eB : rl true (bdR 15 a 0) = 1 + (dB a).length + 0 := by
      show rl true [tN a] = _
      rw [rl_N, rl_nil]; rfl
    refine ⟨?_, rfl, l1.2.1, by omega⟩
    show 4 * rl true (bdR 15 a 0) ≤ _
    rw [eB]; omega
theorem ru_bd {b s z : Int} : ru true (bdR b s z) = true := by
  unfold bdR
  split
  · split
    · rfl
    · split <;> rfl
  · split
    · rfl
    · split
      · rfl
      · split
        · rfl
        · split
          · rfl
          · split
            · rfl
            · split
              · split
                · rfl
                · split <;> rfl
              · rfl
theorem cT_st {o : Stm} : cT o = stT o.1 o.2.1 o.2.2 := by
  obtain ⟨n, b, t⟩ := o
  cases t <;> rfl
theorem sm_long {o : Stm} (hp : p ≤ N) (h : smP T N F p = (some o, r)) (h0 : ¬ o.2.1.1 = 0) : 4 * (rnd ([], false) (cT o)).1.length ≤ 5 * (r - p) ∧ r ≤ N := by
  unfold smP at h
  obtain ⟨om, q1, e1, h2⟩ := bnd_some h
  obtain ⟨n, q2, e2, h3⟩ := bnd_some h2
  obtain ⟨bt, q3, e3, h4⟩ := bnd_some h3
  obtain ⟨u, q4, e4, h5⟩ := bnd_some h4
  cases h5
  have hq := bl_in (T := T) hp
  have hl := lt_in (T := T) hq.2
  unfold inP at e3
  by_cases com : om = true
  · rw [if_pos com] at e3
    cases e3
    exact absurd rfl h0
  · rw [if_neg com] at e3
    have l1 : p + 6 ≤ q1 ∧ q1 ≤ N := by
      unfold omP at e1
      split at e1
      · cases e1; exact absurd rfl com
      · split at e1
        · rename_i c
          cases e1
          have g := tk_len c (by decide) hq.2 (by decide)
          rw [wlClause] at g
          exact ⟨by omega, hl.2⟩
        · cases e1
    have l2 := rN_long l1.2 e2
    have p2 := dB_pos (v := n)
    obtain ⟨u2, q5, e5, e6⟩ := bnd_some e3
    have l5 := rS_long l2.2.1 e5
    unfold rdP at e6
    have hq5 := bl_in (T := T) l5.2
    rcases kw_tk (T := T) (N := N) (q := bl T N q5) hq5.2 _ rfl with ⟨k1, -⟩ | ⟨k1, k2, k3⟩
    · rw [if_pos k1] at e6; cases e6
    · rw [if_neg (by omega)] at e6
      generalize hkw : kwS T N (bl T N q5) = kw at e6 k2 k3
      obtain ⟨b, q6, e7, e8⟩ := bnd_some e6
      obtain ⟨z1, z2, z3⟩ := bd_wc ⟨kw.toNat, by omega⟩ (by show 1 ≤ kw.toNat; omega)
      dsimp only at z1 z2 z3
      rw [show ((kw.toNat : Nat) : Int) = kw by omega] at z1 z2 z3
      have htk : tkOk T N (bl T N q5) (bdW kw) := (tk_w hq5.2 (i := (ckd kw).toNat - 128) (by omega) z1).mpr (by rw [k2]; omega)
      have hbw : WlOk (bdW kw) ∧ ¬ bdW kw = Int64.ofInt 0 := by
        have : ∀ k : Fin 16, WlOk (bdW (k.val : Int)) ∧ ¬ bdW (k.val : Int) = Int64.ofInt 0 := by decide +kernel
        have := this ⟨kw.toNat, by omega⟩
        dsimp only at this
        rw [show ((kw.toNat : Nat) : Int) = kw by omega] at this
        exact this
      have lw := tk_len htk hbw.1 hq5.2 hbw.2
      have hl5 := lt_in (T := T) hq5.2
      obtain ⟨b1, b2, b3, b4⟩ := bd_long k3 hl5.2 (chg_lt hq5.2) e7
      have fin : ∀ t, (bt = (b, t)) → (4 * rl true (ifT t) ≤ 5 * (q3 - q6) ∧ q6 ≤ q3 ∧ q3 ≤ N) → 4 * (rnd ([], false) (cT (n, bt))).1.length ≤ 5 * (r - p) ∧ r ≤ N := by
        intro t ht hi
        rw [ht]
        have l4 := rS_long hi.2.2 e4
        have ew : (rnd ([], false) (cT (n, b, t))).1.length = rl false (stT n b t) := by rw [cT_st]; rfl
        have e9 : rl false (stT n b t) = 0 + 6 + (1 + (dB n).length + (1 + (0 + (wB (bdW kw)).length + (rl true (bdR b.1 b.2.1 b.2.2) + (rl true (ifT t) + (1 + 0)))))) := by
          unfold stT btT
          rw [rl_W, rl_N, rl_S, b2, wlClause]
          show gpN false + 6 + (gpN true + (dB n).length + (1 + rl false (tW (bdW kw) :: (bdR kw b.2.1 b.2.2 ++ ifT t) ++ [tS 59]))) = _
          rw [List.cons_append, rl_W, List.append_assoc, rl_app, ru_bd, rl_app]
          have es : ∀ x, rl x [tS 59] = 1 + 0 := fun x => by rw [rl_S, rl_nil]
          rw [es]
          rfl
        rw [ew, e9]
        refine ⟨?_, l4.2⟩
        omega
      by_cases c7 : kw = 7 ∨ 10 ≤ kw
      · rw [if_pos c7] at e8
        cases e8
        exact fin none rfl ⟨by show 4 * 0 ≤ _; omega, Nat.le_refl _, b3⟩
      · rw [if_neg c7] at e8
        obtain ⟨t, q7, e9, e10⟩ := bnd_some e8
        cases e10
        have li := if_long b3 e9
        exact fin t rfl li
theorem sm_1900 {o : Stm} (hN : N ≤ 800) (hp : p ≤ N) (h : smP T N F p = (some o, r)) (h0 : ¬ o.2.1.1 = 0) : (rnd ([], false) (cT o)).1.length ≤ 1900 := by
  have := sm_long hp h h0
  omega
end
