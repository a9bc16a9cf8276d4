section
variable {d L F N y : Nat} {I I0 I1 Ib : mI} {R R0 R1 Rb : mR} {S S0 S1 Sb : mSh} {A A1 : aS} {T : Nat → Int} {K : Int32 → mM → Prop}
theorem acP_mem : ∀ (c p r : Nat) (l : List Stm), p ≤ N → acP T N F c p = (some l, r) → l.length ≤ c ∧ ∀ o ∈ l, ∃ p' r', p' ≤ N ∧ smP T N F p' = (some o, r')
  | 0, p, r, l, hp, h => by
    have h9 : (if bl T N p < N then (none, bl T N p) else (some [], bl T N p)) = ((some l, r) : Option (List Stm) × Nat) := h
    split at h9
    · cases h9
    · cases h9
      exact ⟨Nat.le_refl _, fun o ho => absurd ho List.not_mem_nil⟩
  | c + 1, p, r, l, hp, h => by
    rw [acP_succ] at h
    split at h
    · obtain ⟨o, r1, e1, h2⟩ := bnd_some h
      obtain ⟨l2, r2, e2, h3⟩ := bnd_some h2
      cases h3
      have hq := bl_in (T := T) hp
      have hr1 : r1 ≤ N := by
        by_cases h0 : o.2.1.1 = 0
        · have e9 := e1
          unfold smP at e9
          obtain ⟨om, q1, z1, h2⟩ := bnd_some e9
          obtain ⟨n, q2, z2, h3⟩ := bnd_some h2
          obtain ⟨bt, q3, z3, h4⟩ := bnd_some h3
          obtain ⟨u, q4, z4, h5⟩ := bnd_some h4
          cases h5
          have hq2 := bl_in (T := T) hq.2
          have hl := lt_in (T := T) hq2.2
          have g1 : q1 ≤ N := by
            unfold omP at z1
            split at z1
            · cases z1; exact hl.2
            · split at z1
              · cases z1; exact hl.2
              · cases z1
          have l2 := rN_long g1 z2
          unfold inP at z3
          by_cases com : om = true
          · rw [if_pos com] at z3
            cases z3
            exact (rS_long l2.2.1 z4).2
          · rw [if_neg com] at z3
            obtain ⟨u2, q5, z5, z6⟩ := bnd_some z3
            have hok := smP_ok e1
            have l5 := rS_long l2.2.1 z5
            unfold rdP at z6
            have hq5 := bl_in (T := T) l5.2
            rcases kw_tk (T := T) (N := N) (q := bl T N q5) hq5.2 _ rfl with ⟨k1, -⟩ | ⟨k1, k2, k3⟩
            · rw [if_pos k1] at z6; cases z6
            · rw [if_neg (by omega)] at z6
              obtain ⟨b, q6, e7, e8⟩ := bnd_some z6
              have hl5 := lt_in (T := T) hq5.2
              have hb1 := (bd_long k3 hl5.2 (chg_lt hq5.2) e7).2.1
              exfalso
              split at e8
              · cases e8
                have : b.1 = 0 := h0
                omega
              · obtain ⟨t, q7, e9, e10⟩ := bnd_some e8
                cases e10
                have : b.1 = 0 := h0
                omega
        · exact (sm_long hq.2 e1 h0).2
      have ih := acP_mem c r1 _ l2 hr1 e2
      refine ⟨by have : (o :: l2).length = l2.length + 1 := rfl; omega, fun o' ho' => ?_⟩
      rcases List.mem_cons.mp ho' with e | e
      · rw [e]; exact ⟨bl T N p, r1, hq.2, e1⟩
      · exact ih.2 o' e
    · cases h
      exact ⟨Nat.zero_le _, fun o ho => absurd ho List.not_mem_nil⟩
theorem Ext.base (he : Ext R S Ib R1 S1 I1) (h : ∀ a k, 155 ≤ a → Ib a k = I a k) : Ext R S I R1 S1 I1 := ⟨fun p kd n ho hc => ⟨(he.1 p kd n ho hc).1, fun k => ((he.1 p kd n ho hc).2.1 k).trans (h p k ho.1), (he.1 p kd n ho hc).2.2⟩, he.2⟩
/-- cells that an act may change -/
def chI (y ac a k : Nat) : Prop := a = 46 ∨ a = 48 ∨ a = 49 ∨ a = 50 ∨ a = 54 ∨ (a = 53 ∧ (k = 2 ∨ k = 3)) ∨ (a = 43 ∧ (k = 1 ∨ k = 2 ∨ k = 3 ∨ k = 7)) ∨ (a = 52 ∧ k = ac) ∨ (a = 57 ∧ 16 * y ≤ k ∧ k < 128) ∨ (a = 44 ∧ y ≤ k ∧ k < 8)
def chR (y sz n a k : Nat) : Prop := a = 47 ∨ (a = 53 ∧ k = 0) ∨ (a = 51 ∧ sz ≤ k ∧ k < sz + n) ∨ (a = 55 ∧ 61 * y ≤ k ∧ k < 488) ∨ (a = 56 ∧ 60 * y ≤ k ∧ k < 480)
/-- an act refused -/
def EndN (I : mI) (R : mR) (S : mSh) (I1 : mI) (R1 : mR) (S1 : mSh) (r : Int) (N : Nat) : Prop := Ext R S I R1 S1 I1 ∧ (∃ X, S1 = S ++ X ∧ ∀ q ∈ X, q.2 ≤ 8) ∧ (∀ a k, a < 155 → ¬ (a = 46 ∨ a = 48 ∨ a = 49 ∨ a = 50 ∨ (a = 43 ∧ (k = 1 ∨ k = 3))) → I1 a k = I a k) ∧ (∀ a k, a < 155 → ¬ a = 47 → R1 a k = R a k) ∧ ld I1 43 1 = 0 ∧ ld I1 43 3 = r ∧ S1.length ≤ S.length + N ∧ ∀ a k, 155 ≤ a → a < 155 + S.length → I1 a k = I a k
/-- an act taken -/
def EndA (I : mI) (R : mR) (S : mSh) (I1 : mI) (R1 : mR) (S1 : mSh) (A1 : aS) (l : List Stm) (y ac sz N : Nat) : Prop := Ext R S I R1 S1 I1 ∧ (∃ X, S1 = S ++ X) ∧ (∀ a k, a < 155 → ¬ chI y ac a k → I1 a k = I a k) ∧ (∀ a k, a < 155 → ¬ chR y sz l.length a k → R1 a k = R a k) ∧ (ld I1 43 1 = 0 ∧ ld I1 43 2 = (ac : Int) + 1 ∧ ld I1 43 3 = -1 ∧ ld I1 43 7 = ((sz + l.length : Nat) : Int) ∧ ld I1 52 ac = (y : Int)) ∧
  (∀ (j : Nat) (o : Stm), l[j]? = some o → ∃ q, R1 51 (sz + j) = some q ∧ ClF R1 S1 I1 ac q o ∧ (¬ o.2.1.1 = 0 → ∃ qs, R1 q 7 = some qs ∧ StrO R1 S1 I1 qs (rnd ([], false) (cT o)).1)) ∧ (∀ Y, y ≤ Y → Y < 8 → YrC I1 R1 A1 R1 Y) ∧ StC I1 ∧ PnC R1 S1 I1 ∧
  ∀ n, PnK R S n → ∃ n1, PnK R1 S1 n1 ∧ n ≤ n1 ∧ S1.length + n ≤ S.length + N + n1 + 2 * l.length ∧ slS S1 + 2 * n ≤ slS S + 8 * N + 2 * n1 + 2000 * l.length
theorem slS_8 : ∀ X : mSh, (∀ q ∈ X, q.2 ≤ 8) → slS X ≤ 8 * X.length
  | [], _ => Nat.le_refl _
  | x :: X, h => by
    have h1 := slS_8 X (fun q hq => h q (List.mem_cons_of_mem _ hq))
    have h2 := h x List.mem_cons_self
    have e : slS (x :: X) = x.2 + slS X := by unfold slS; rw [List.map_cons, List.sum_cons]
    rw [e, List.length_cons]; omega
end
