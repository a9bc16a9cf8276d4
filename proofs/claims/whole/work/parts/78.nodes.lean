/-! the reference: all and any, by what their parts do -/
def NEx (A A1 : aS) (m : Nat) : Prop := ∀ a k, ¬ ((144 ≤ a ∧ a ≤ 149) ∧ m ≤ k) → ¬ (a = 91 ∧ k = 66) → A1 a k = A a k
section
variable {A A1 A2 : aS} {m m' : Nat}
theorem NEx.refl (A : aS) (m : Nat) : NEx A A m := fun _ _ _ _ => rfl
theorem NEx.trans (h : NEx A A1 m) (h2 : NEx A1 A2 m') (hm : m ≤ m') : NEx A A2 m := fun a k h3 h4 => (h2 a k (fun q => h3 ⟨q.1, by omega⟩) h4).trans (h a k h3 h4)
theorem NEx.low (h : NEx A A1 m') (hm : m ≤ m') : NEx A A1 m := fun a k h3 h4 => h a k (fun q => h3 ⟨q.1, by omega⟩) h4
theorem NEx.set (h : NEx A A1 m) (a k : Nat) (v : Int) (hak : (144 ≤ a ∧ a ≤ 149) ∧ m ≤ k ∨ a = 91 ∧ k = 66) : NEx A (u2 A1 a k v) m := by
  intro b j h3 h4
  rw [show u2 A1 a k v b j = A1 b j from if_neg ?_]
  · exact h b j h3 h4
  · rintro ⟨rfl, rfl⟩
    rcases hak with q | q
    · exact h3 q
    · exact h4 q
end
theorem Tx.wr {I : mI} {T : Nat → Int} {N p a k : Nat} {x : Int32} (h : Tx I T N p) (h1 : ¬ (a = 91 ∧ (k = 68 ∨ k = 69))) (h2 : a ≠ 153) : Tx (u2 I a k x) T N p := by
  refine ⟨?_, h.2.1, ?_, h.2.2.2.1, fun j hj => ?_⟩
  · rw [← h.1]; unfold ld; rw [show u2 I a k x 91 68 = I 91 68 from if_neg (fun q => h1 ⟨q.1.symm, Or.inl q.2.symm⟩)]
  · rw [← h.2.2.1]; unfold ld; rw [show u2 I a k x 91 69 = I 91 69 from if_neg (fun q => h1 ⟨q.1.symm, Or.inr q.2.symm⟩)]
  · rw [← h.2.2.2.2 j hj]; exact ld_o (fun q => h2 q.symm)
theorem ld_fr {ws : List Nat} {os : List (Nat × Nat)} {I I1 : mI} {a k : Nat} (h : Fr ws os I I1) (hp : (ws.contains a || os.contains (a, k)) = false) : ld I1 a k = ld I a k := by unfold ld; rw [h a k hp]
/-- a reader of nodes: what it makes -/
def NdOk {α : Type} (T : Nat → Int) (N n d L : Nat) (R : Nat → Nat → Option Nat) (S : List (Nat × Nat)) (m : Nat) (sp : Nat → Option α × Nat) (P : aS → Nat → Nat → α → Prop) (b c : Nat) : Prop :=
  ∀ (I : mI) (A : aS) (p : Nat) (K : Int32 → mM → Prop), RM I A → Tx I T N p → ld I 91 70 = 10 - n → 0 ≤ A 91 66 → (A 91 66).toNat + (N - p) + 2 * n + b ≤ 7170 →
  (∀ (I1 : mI) (A1 : aS) (r : Nat), FM I I1 → RM I1 A1 → Tx I1 T N r → ld I1 91 70 = 10 - n → NEx A A1 (A 91 66).toNat → sp p = (none, r) → K (oI (-1)) (bd L I1 R S)) →
  (∀ (I1 : mI) (A1 : aS) (r : Nat) (o : α) (e : Nat), FM I I1 → RM I1 A1 → Tx I1 T N r → ld I1 91 70 = 10 - n → NEx A A1 (A 91 66).toNat → sp p = (some o, r) → A1 91 66 = (e : Int) → P A1 (A 91 66).toNat e o → A1 146 (A 91 66).toNat = -1 → e + c ≤ (A 91 66).toNat + (r - p) → K (oI (A 91 66)) (bd L I1 R S)) →
  CallI d m [.ref 91] (bd L I R S) K
/-- one turn of the loop of all and any -/
def chE (d L : Nat) (R : Nat → Nat → Option Nat) (S : List (Nat × Nat)) (Q : Option Value → mM → Prop) (w : Int64) (m : Nat) (Hd : mI → Int → Int → Value → Prop) (I : mI) (x1 x2 : Int) : Prop :=
  CallI (d + 1) m [.ref 91] (bd L I R S) (fun y s => ∃ (y1 : Int) (I2 : mI) (A3 : aS), y = oI y1 ∧ s = bd L I2 R S ∧ inR y1 ∧ RM I2 A3 ∧ (((y1 = (-1)) → Q (some (.int (oI (-1)))) (bd L I2 R S)) ∧ (¬ (y1 = (-1)) → inR x2 ∧ (((x2 = (-1)) → (0 ≤ x1 ∧ x1 < 7200) ∧ (∀ (I9 : mI) (A10 : aS), (I9 = (u2 I2 145 x1.toNat (oI y1))) → (A10 = (u2 A3 145 x1.toNat y1)) → (RM I9 A10) → ∃ (T14 : Nat → Int) (N15 p16 : Nat), Tx I9 T14 N15 p16 ∧ (((tkOk T14 N15 (bl T14 N15 p16) w) → ∀ (I19 : mI), (Fr [] [(91, 69)] I9 I19) → (RM I19 A10) → (Tx I19 T14 N15 (lt T14 N15 (bl T14 N15 p16))) → Hd I19 x1 y1 (.int (oI y1))) ∧ (¬ (tkOk T14 N15 (bl T14 N15 p16) w) → ∀ (I19 : mI), (Fr [] [(91, 69)] I9 I19) → (RM I19 A10) → (Tx I19 T14 N15 (bl T14 N15 p16)) → Q (some (.int (oI x1))) (bd L I19 R S))))) ∧ (¬ (x2 = (-1)) → (0 ≤ x2 ∧ x2 < 7200) ∧ (∀ (I27 : mI) (A28 : aS), (I27 = (u2 I2 146 x2.toNat (oI y1))) → (A28 = (u2 A3 146 x2.toNat y1)) → (RM I27 A28) → ∃ (T32 : Nat → Int) (N33 p34 : Nat), Tx I27 T32 N33 p34 ∧ (((tkOk T32 N33 (bl T32 N33 p34) w) → ∀ (I37 : mI), (Fr [] [(91, 69)] I27 I37) → (RM I37 A28) → (Tx I37 T32 N33 (lt T32 N33 (bl T32 N33 p34))) → Hd I37 x1 y1 (.int (oI y1))) ∧ (¬ (tkOk T32 N33 (bl T32 N33 p34) w) → ∀ (I37 : mI), (Fr [] [(91, 69)] I27 I37) → (RM I37 A28) → (Tx I37 T32 N33 (bl T32 N33 p34)) → Q (some (.int (oI x1))) (bd L I37 R S)))))))))
/-- where the next node is hung up -/
def LEx (A A1 : aS) (la lk m : Nat) : Prop := ∀ a k, ¬ ((144 ≤ a ∧ a ≤ 149) ∧ m ≤ k) → ¬ (a = 91 ∧ k = 66) → ¬ (a = la ∧ k = lk) → A1 a k = A a k
theorem ch_loop {α : Type} {T : Nat → Int} {N n d L : Nat} {R : Nat → Nat → Option Nat} {S : List (Nat × Nat)} {Q : Option Value → mM → Prop} {w : Int64} {m b c : Nat} {sp : Nat → Option α × Nat} {P : aS → Nat → Nat → α → Prop} {Hd : mI → Int → Int → Value → Prop} {x1 : Int} {I0 : mI}
    (hw : ¬ w = Int64.ofInt 0)
    (hst : ∀ I A x2 w3, RM I A → chE d L R S Q w m Hd I x1 x2 → Hd I x1 x2 w3)
    (hcal : NdOk T N n (d + 1) L R S m sp P b c)
    (hin : ∀ p, p ≤ N → rdOk N 3 p (sp p))
    (hlt : ∀ A k e x, P A k e x → k < e)
    (hPst : ∀ A A' k e x, Ag A A' k e → Ag6 A A' (k + 1) e → P A k e x → P A' k e x) :
    ∀ (f p : Nat) (I : mI) (A : aS) (x2 : Int) (w3 : Value), N < f + p → FM I0 I → RM I A → Tx I T N p → ld I 91 70 = 10 - n → 0 ≤ A 91 66 → (A 91 66).toNat + (N - p) + 2 * n + b ≤ 7170 → 0 ≤ x1 → x1 < A 91 66 → (x2 = -1 ∨ (x1 < x2 ∧ x2 < A 91 66)) →
    (∀ (I1 : mI) (A1 : aS) (r : Nat), FM I0 I1 → RM I1 A1 → Tx I1 T N r → ld I1 91 70 = 10 - n → NEx A A1 x1.toNat → chP T N w sp f p = (none, r) → Q (some (.int (oI (-1)))) (bd L I1 R S)) →
    (∀ (I1 : mI) (A1 : aS) (r : Nat) (l : List α) (e : Nat), FM I0 I1 → RM I1 A1 → Tx I1 T N r → ld I1 91 70 = 10 - n → (if x2 = -1 then LEx A A1 145 x1.toNat (A 91 66).toNat ∧ A1 145 x1.toNat = A 91 66 else LEx A A1 146 x2.toNat (A 91 66).toNat ∧ A1 146 x2.toNat = A 91 66) → chP T N w sp f p = (some l, r) → A1 91 66 = (e : Int) → PCh (P A1) (A1 146) l (A 91 66).toNat e → e + c ≤ (A 91 66).toNat + (r - p) → Q (some (.int (oI x1))) (bd L I1 R S)) →
    Hd I x1 x2 w3 := by
  intro f
  induction f with
  | zero => intro p I A x2 w3 hf _ _ ht; have := ht.2.2.2.1; omega
  | succ f ih =>
    intro p I A x2 w3 hf h0 hR ht hd hA hb hx1 hx1' hx2 k0 k1
    have hp := ht.2.2.2.1
    have hi := hin p hp
    refine hst I A x2 w3 hR ?_
    unfold chE
    refine hcal I A p _ hR ht hd hA hb ?_ ?_
    · intro I1 A1 r f1 r1 t1 d1 n1 e1
      refine ⟨-1, I1, A1, rfl, rfl, inRd rfl, r1, fun _ => ?_, fun q => absurd rfl q⟩
      refine k0 I1 A1 r (h0.trans f1) r1 t1 d1 (n1.low (by omega)) ?_
      unfold chP; rw [e1]
    · intro I1 A1 r o e f1 r1 t1 d1 n1 e1 e2 P1 z1 c1
      rw [e1] at hi
      have hr1 : p ≤ r := hi.1
      have hr2 : r ≤ N := hi.2.1
      have hr3 : p + 3 ≤ r := hi.2.2 o rfl
      have hq := bl_in (T := T) hr2
      have hm : A 91 66 = ((A 91 66).toNat : Int) := by omega
      have hke := hlt _ _ _ _ P1
      refine ⟨A 91 66, I1, A1, rfl, rfl, by unfold inR; omega, r1, fun q => absurd q (by omega), fun _ => ⟨by unfold inR; omega, fun x2n => ⟨by omega, ?_⟩, fun x2n => ⟨by omega, ?_⟩⟩⟩
      · intro I9 A10 q9 q10 r9
        have t9 : Tx I9 T N r := by rw [q9]; exact t1.wr (by omega) (by decide)
        have d9 : ld I9 91 70 = 10 - n := by rw [q9, ld_o (by decide)]; exact d1
        have f9 : FM I0 I9 := by rw [q9]; exact (h0.trans f1).wr (by decide)
        have e9 : A10 91 66 = (e : Int) := by rw [q10]; exact (v2_ne (by decide)).trans e2
        have P9 : P A10 (A 91 66).toNat e o := by
          refine hPst A1 A10 _ _ _ ?_ ?_ P1
          · intro j h1 h2
            rw [q10]
            exact ⟨v2_ne (by decide), v2_nk (by omega), v2_ne (by decide), v2_ne (by decide), v2_ne (by decide)⟩
          · intro j h1 h2; rw [q10]; exact v2_ne (by decide)
        have z9 : A10 146 (A 91 66).toNat = -1 := by rw [q10]; exact (v2_ne (by decide)).trans z1
        have l9 : LEx A A10 145 x1.toNat (A 91 66).toNat := by
          intro a k g1 g2 g3
          rw [q10, show u2 A1 145 x1.toNat (A 91 66) a k = A1 a k from if_neg g3]
          exact n1 a k g1 g2
        have v9 : A10 145 x1.toNat = A 91 66 := by rw [q10]; exact v2_eq
        refine ⟨T, N, r, t9, fun ct I19 f19 r19 t19 => ?_, fun ct I19 f19 r19 t19 => ?_⟩
        · have hl := lt_in (T := T) hq.2
          have hl2 := tk_pos hq.2 hw ct
          refine ih (lt T N (bl T N r)) I19 A10 (A 91 66) _ (by omega) (f9.trans (f19.FM rfl)) r19 t19 (by rw [ld_fr f19 rfl]; exact d9) (by omega) (by omega) hx1 (by omega) (Or.inr (by omega)) ?_ ?_
          · intro I2 A2 r' g1 g2 g3 g4 g5 g6
            refine k0 I2 A2 r' g1 g2 g3 g4 (NEx.trans (m' := x1.toNat) (fun a k h1 h2 => ?_) g5 (Nat.le_refl _)) ?_
            · by_cases h3 : a = 145 ∧ k = x1.toNat
              · exact absurd ⟨by omega, by omega⟩ h1
              · exact l9 a k (fun h4 => h1 ⟨h4.1, by omega⟩) h2 h3
            · unfold chP; rw [e1]; dsimp only; rw [if_pos ct, g6]
          · intro I2 A2 r' l e' g1 g2 g3 g4 g5 g6 g7 g8 g9
            rw [if_neg (by omega)] at g5
            rw [e9] at g5 g8 g9
            obtain ⟨g5, g5'⟩ := g5
            have g10 : rdOk N 3 (lt T N (bl T N r)) (chP T N w sp f (lt T N (bl T N r))) := ch_in hin f _ hl.2
            rw [g6] at g10
            have g11 : lt T N (bl T N r) ≤ r' := g10.1
            have P2 : P A2 (A 91 66).toNat e o := by
              refine hPst A10 A2 _ _ _ ?_ ?_ P9
              · intro j h1 h2
                exact ⟨g5 144 j (by omega) (by omega) (by omega), g5 145 j (by omega) (by omega) (by omega), g5 147 j (by omega) (by omega) (by omega), g5 148 j (by omega) (by omega) (by omega), g5 149 j (by omega) (by omega) (by omega)⟩
              · intro j h1 h2; exact g5 146 j (by omega) (by omega) (by omega)
            refine k1 I2 A2 r' (o :: l) e' g1 g2 g3 g4 ?_ ?_ g7 ?_ (by omega)
            · rw [if_pos x2n]
              refine ⟨fun a k h1 h2 h3 => ?_, ?_⟩
              · rw [g5 a k (fun q => h1 ⟨q.1, by omega⟩) h2 (fun q => h1 ⟨by omega, by omega⟩)]
                exact l9 a k h1 h2 h3
              · rw [g5 145 x1.toNat (by omega) (by omega) (by omega)]; exact v9
            · unfold chP; rw [e1]; dsimp only; rw [if_pos ct, g6]
            · exact Or.inr ⟨e, P2, g5', by simpa using g8⟩
        · refine k1 I19 A10 (bl T N r) [o] e (f9.trans (f19.FM rfl)) r19 t19 (by rw [ld_fr f19 rfl]; exact d9) ?_ ?_ e9 ?_ (by omega)
          · rw [if_pos x2n]; exact ⟨l9, v9⟩
          · unfold chP; rw [e1]; dsimp only; rw [if_neg ct]
          · exact Or.inl ⟨rfl, P9, z9⟩
      · intro I9 A10 q9 q10 r9
        have t9 : Tx I9 T N r := by rw [q9]; exact t1.wr (by omega) (by decide)
        have d9 : ld I9 91 70 = 10 - n := by rw [q9, ld_o (by decide)]; exact d1
        have f9 : FM I0 I9 := by rw [q9]; exact (h0.trans f1).wr (by decide)
        have e9 : A10 91 66 = (e : Int) := by rw [q10]; exact (v2_ne (by decide)).trans e2
        have P9 : P A10 (A 91 66).toNat e o := by
          refine hPst A1 A10 _ _ _ ?_ ?_ P1
          · intro j h1 h2
            rw [q10]
            exact ⟨v2_ne (by decide), v2_ne (by decide), v2_ne (by decide), v2_ne (by decide), v2_ne (by decide)⟩
          · intro j h1 h2; rw [q10]; exact v2_nk (by omega)
        have z9 : A10 146 (A 91 66).toNat = -1 := by rw [q10]; exact (v2_nk (by omega)).trans z1
        have l9 : LEx A A10 146 x2.toNat (A 91 66).toNat := by
          intro a k g1 g2 g3
          rw [q10, show u2 A1 146 x2.toNat (A 91 66) a k = A1 a k from if_neg g3]
          exact n1 a k g1 g2
        have v9 : A10 146 x2.toNat = A 91 66 := by rw [q10]; exact v2_eq
        refine ⟨T, N, r, t9, fun ct I19 f19 r19 t19 => ?_, fun ct I19 f19 r19 t19 => ?_⟩
        · have hl := lt_in (T := T) hq.2
          have hl2 := tk_pos hq.2 hw ct
          refine ih (lt T N (bl T N r)) I19 A10 (A 91 66) _ (by omega) (f9.trans (f19.FM rfl)) r19 t19 (by rw [ld_fr f19 rfl]; exact d9) (by omega) (by omega) hx1 (by omega) (Or.inr (by omega)) ?_ ?_
          · intro I2 A2 r' g1 g2 g3 g4 g5 g6
            refine k0 I2 A2 r' g1 g2 g3 g4 (NEx.trans (m' := x1.toNat) (fun a k h1 h2 => ?_) g5 (Nat.le_refl _)) ?_
            · by_cases h3 : a = 146 ∧ k = x2.toNat
              · exact absurd ⟨by omega, by omega⟩ h1
              · exact l9 a k (fun h4 => h1 ⟨h4.1, by omega⟩) h2 h3
            · unfold chP; rw [e1]; dsimp only; rw [if_pos ct, g6]
          · intro I2 A2 r' l e' g1 g2 g3 g4 g5 g6 g7 g8 g9
            rw [if_neg (by omega)] at g5
            rw [e9] at g5 g8 g9
            obtain ⟨g5, g5'⟩ := g5
            have g10 : rdOk N 3 (lt T N (bl T N r)) (chP T N w sp f (lt T N (bl T N r))) := ch_in hin f _ hl.2
            rw [g6] at g10
            have g11 : lt T N (bl T N r) ≤ r' := g10.1
            have P2 : P A2 (A 91 66).toNat e o := by
              refine hPst A10 A2 _ _ _ ?_ ?_ P9
              · intro j h1 h2
                exact ⟨g5 144 j (by omega) (by omega) (by omega), g5 145 j (by omega) (by omega) (by omega), g5 147 j (by omega) (by omega) (by omega), g5 148 j (by omega) (by omega) (by omega), g5 149 j (by omega) (by omega) (by omega)⟩
              · intro j h1 h2; exact g5 146 j (by omega) (by omega) (by omega)
            refine k1 I2 A2 r' (o :: l) e' g1 g2 g3 g4 ?_ ?_ g7 ?_ (by omega)
            · rw [if_neg x2n]
              refine ⟨fun a k h1 h2 h3 => ?_, ?_⟩
              · rw [g5 a k (fun q => h1 ⟨q.1, by omega⟩) h2 (fun q => h1 ⟨by omega, by omega⟩)]
                exact l9 a k h1 h2 h3
              · rw [g5 146 x2.toNat (by omega) (by omega) (by omega)]; exact v9
            · unfold chP; rw [e1]; dsimp only; rw [if_pos ct, g6]
            · exact Or.inr ⟨e, P2, g5', by simpa using g8⟩
        · refine k1 I19 A10 (bl T N r) [o] e (f9.trans (f19.FM rfl)) r19 t19 (by rw [ld_fr f19 rfl]; exact d9) ?_ ?_ e9 ?_ (by omega)
          · rw [if_neg x2n]; exact ⟨l9, v9⟩
          · unfold chP; rw [e1]; dsimp only; rw [if_neg ct]
          · exact Or.inl ⟨rfl, P9, z9⟩
