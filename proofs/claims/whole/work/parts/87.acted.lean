/-! the reference: act, whole -/
def ActX (A A1 : aS) : Prop := ∀ a k, ¬ (a = 91 ∧ (k = 65 ∨ k = 66 ∨ k = 67 ∨ k = 71)) → ¬ ((a = 137 ∨ a = 138) ∧ k = (A 91 65).toNat) → ¬ ((139 ≤ a ∧ a ≤ 143) ∧ 40 * (A 91 65).toNat ≤ k) → ¬ ((144 ≤ a ∧ a ≤ 149) ∧ (A 91 66).toNat ≤ k) → A1 a k = A a k
def ActR (F : Nat) (A : aS) (n y ans : Int) (A1 : aS) : Prop :=
  (¬ ((0 ≤ n ∧ n ≤ A 91 67) ∧ (Int.tdiv (A 91 0) 100 ≤ y ∧ y ≤ 7)) ∧ ans = -2 ∧ A1 = A) ∨
  (((0 ≤ n ∧ n ≤ A 91 67) ∧ (Int.tdiv (A 91 0) 100 ≤ y ∧ y ≤ 7)) ∧ ((A 91 65 = 8 ∧ ans = -3 ∧ A1 = A) ∨ (¬ A 91 65 = 8 ∧ ActX A A1 ∧ A1 91 67 = 0 ∧
    ((∃ r : Nat, acP (A 152) n.toNat F 40 0 = (none, r) ∧ ans = -1 ∧ A1 91 71 = (r : Int) ∧ A1 91 66 = A 91 66 ∧ A1 91 65 = A 91 65) ∨
     (∃ (r : Nat) (l : List Stm), acP (A 152) n.toNat F 40 0 = (some l, r) ∧ ans = A 91 65 ∧ A1 91 71 = -1 ∧ A1 91 65 = A 91 65 + 1 ∧ A1 138 (A 91 65).toNat = y ∧ A1 137 (A 91 65).toNat = (l.length : Int) ∧ l.length ≤ 40 ∧ (∀ i o, l[i]? = some o → StmB (40 * (A 91 65).toNat + i) A1 o ∧ StmOk o) ∧ A 91 66 ≤ A1 91 66 ∧ A1 91 66 ≤ A 91 66 + n)))))
theorem StmB.ext0 {A A1 : aS} {s : Nat} {o : Stm} (h : StmB s A o) (g : ∀ a, 139 ≤ a → a ≤ 143 → A1 a s = A a s) (hx : ∀ a j : Nat, 144 ≤ a → a ≤ 149 → (j : Int) < A 91 66 → A1 a j = A a j) (h6 : A 91 66 ≤ A1 91 66) : StmB s A1 o := by
  refine ⟨(g 139 (by decide) (by decide)).trans h.1, ?_⟩
  have h2 := h.2
  split
  · rename_i q
    rw [if_pos q] at h2
    exact (g 140 (by decide) (by decide)).trans h2
  · rename_i q
    rw [if_neg q] at h2
    refine ⟨h2.1.ext ⟨g 140 (by decide) (by decide), g 141 (by decide) (by decide), g 142 (by decide) (by decide)⟩, ?_⟩
    obtain ⟨-, h3⟩ := h2
    obtain ⟨n, b, t⟩ := o
    cases t with
    | none => exact (g 143 (by decide) (by decide)).trans h3
    | some t =>
      obtain ⟨k, e, q1, q2, q3⟩ := h3
      have ag : Ag A A1 k e := fun j h1 h2 => ⟨hx 144 j (by decide) (by decide) (by omega), hx 145 j (by decide) (by decide) (by omega), hx 147 j (by decide) (by decide) (by omega), hx 148 j (by decide) (by decide) (by omega), hx 149 j (by decide) (by decide) (by omega)⟩
      have ag6 : Ag6 A A1 (k + 1) e := fun j h1 h2 => hx 146 j (by decide) (by decide) (by omega)
      exact ⟨k, e, (g 143 (by decide) (by decide)).trans q1, PAny_st (P := POne A 10) (P' := POne A1 10) (POne_lt 10) ag ag6 (fun k' e' x a b h3 => POne_st 10 k' e' x (fun j a' b' => ag j (by omega) (by omega)) (fun j a' b' => ag6 j (by omega) (by omega)) h3) q2, by omega⟩
section
variable {d L : Nat} {I I0 : mI} {R : Nat → Nat → Option Nat} {S : List (Nat × Nat)} {A : aS} {Q : Option Value → mM → Prop} {x2 : Int}
theorem c301 {N : Nat} (hN : N ≤ 800) (hY : ∀ j : Nat, j < 800 → iB (A 152 j) = A 152 j) (hin : ∀ j : Nat, inR (A 152 j)) (hac : 0 ≤ A 91 65 ∧ A 91 65 < 8) (hC : WfC A) (h6 : 0 ≤ A 91 66 ∧ A 91 66 ≤ 5600)
    (hgo : ∀ (I8 : mI) (w1 : Value), FM I0 I8 → RM I8 (u2 (u2 A 91 67 0) 137 (A 91 65).toNat 0) → Tx I8 (A 152) N (bl (A 152) N 0) → h301_6 (d + 1) L I8 R S Q w1 x2 (A 91 66) 1) :
    ∀ (f k : Nat) (I : mI) (w4 : Value), k + f = N → FM I0 I → RM I A → (∀ j : Nat, j < k → ld I 153 j = A 152 j) → h301_4 (d + 1) L I R S Q (N : Int) x2 (k : Int) w4 := by
  intro f
  induction f with
  | zero =>
    intro k I w4 hk hf hR hj
    refine e301_4 hR ⟨by unfold inR; omega, by unfold inR; omega, fun c => absurd c (by omega), fun _ => ⟨by omega, ?_, Or.inl ⟨Or.inl rfl, by rw [v2_nk (by decide)]; exact Nat.le_refl _⟩, fun I8 A9 q8 q9 r9 => ?_⟩⟩
    · refine ⟨by rw [v2_nk (by decide)]; exact hC.1, fun a ha => ?_⟩
      rw [v2_nk (by decide)] at ha
      have g := hC.2 a ha
      refine ⟨g.1, g.2.1, fun j hj => (g.2.2 j hj).ext ⟨by rw [v2_nk (by decide)]; exact Int.le_refl _, ?_, fun j _ => ⟨v2_ne (by decide), v2_ne (by decide), v2_ne (by decide), v2_ne (by decide), v2_ne (by decide), v2_ne (by decide)⟩⟩ ⟨v2_ne (by decide), v2_ne (by decide), v2_ne (by decide), v2_ne (by decide), v2_ne (by decide)⟩⟩
      rw [v2_nk (by decide)]; omega
    · have t8 : Tx I8 (A 152) N 0 := by
        rw [q8]
        refine ⟨?_, hN, ?_, Nat.zero_le _, fun j hj' => ?_⟩
        · rw [ld_o (by decide), ld_w (inRd rfl), if_neg (by decide), ld_w (inRd rfl), if_neg (by decide), ld_w (by unfold inR; omega), if_pos rfl]
        · rw [ld_o (by decide), ld_w (inRd rfl), if_pos rfl]; rfl
        · rw [ld_o (by decide), ld_o (by decide), ld_o (by decide), ld_o (by decide)]; exact hj j (by omega)
      refine ⟨A 152, N, 0, t8, fun I17 f17 r17 t17 => hgo I17 _ ?_ (by rw [q9] at r17; exact r17) t17⟩
      refine FM.trans ?_ (f17.FM rfl)
      rw [q8]
      exact (((hf.wr (by decide)).wr (by decide)).wr (by decide)).wr (by decide)
  | succ f ih =>
    intro k I w4 hk hf hR hj
    refine e301_4 hR ⟨by unfold inR; omega, by unfold inR; omega, fun _ => ⟨by omega, ?_⟩, fun c => absurd (by omega) c⟩
    rw [Int.toNat_natCast, hY k (by omega), show (k : Int) + 1 = ((k + 1 : Nat) : Int) by omega]
    refine ih (k + 1) _ w4 (by omega) (hf.wr (by decide)) (hR.scr rfl) (fun j hj' => ?_)
    rw [ld_w (hin k)]
    split
    · rename_i q; rw [q]
    · exact hj j (by omega)
theorem iB_id {x : Int} (h : -128 ≤ x ∧ x ≤ 127) : iB x = x := by
  unfold iB
  rw [Int8.toInt_toInt32, Int32.toInt_toInt8, toInt_oI ⟨by omega, by omega⟩]
  exact Int.bmod_eq_of_le (by omega) (by omega)
def WfD (A : aS) : Prop := (0 ≤ A 91 66 ∧ A 91 66 ≤ 800 * A 91 65) ∧ ∀ j : Nat, j < 800 → -128 ≤ A 152 j ∧ A 152 j ≤ 127
theorem k301 {F : Nat} {x1 : Int} {K : Int32 → mM → Prop} (hF : 800 < F) (hR : RM I A) (hA : WfA A) (hC : WfC A) (hW : WfF A) (hD : WfD A) (i1 : inR x1) (i2 : inR x2) (hK : ∀ ans I1 A1, FM I I1 → RM I1 A1 → ActR F A x1 x2 ans A1 → K (oI ans) (bd L I1 R S)) : CallI (d + 50) 301 [.ref 91, .int (oI x1), .int (oI x2)] (bd L I R S) K := by
  have ht0 := hA.1
  have hc0 := hC.1
  have hw0 := hW.1
  have hw1 := hW.2
  have hd0 := hD.1
  refine e301 (d := d + 49) hR ⟨i1, fun c1 => ⟨i2, by rw [Int.tdiv_eq_ediv_of_nonneg ht0.1]; unfold inR; omega, fun c2 => ⟨fun c3 => ?_, fun c3 => ?_⟩, fun c2 => ?_⟩, fun c1 => ?_⟩
  · exact hK (-3) I A (FM.refl I) hR (Or.inr ⟨⟨c1, c2⟩, Or.inl ⟨c3, rfl, rfl⟩⟩)
  · obtain ⟨N, rfl⟩ : ∃ N : Nat, x1 = (N : Int) := ⟨x1.toNat, by omega⟩
    obtain ⟨ac, hac⟩ : ∃ ac : Nat, A 91 65 = (ac : Int) := ⟨(A 91 65).toNat, by omega⟩
    have hact : (A 91 65).toNat = ac := by omega
    refine c301 (I0 := I) (N := N) (d := d + 49) (by omega) (fun j hj => iB_id (hD.2 j hj)) (fun j => inA hR.1 rfl) (by omega) hC (by omega) ?_ N 0 I mUn (by omega) (FM.refl I) hR (fun j hj => absurd hj (by omega))
    intro I8 w1 f8 r8 t8
    have e65 : u2 (u2 A 91 67 0) 137 (A 91 65).toNat 0 91 65 = (ac : Int) := by rw [v2_ne (by decide), v2_nk (by decide)]; exact hac
    have e66 : u2 (u2 A 91 67 0) 137 (A 91 65).toNat 0 91 66 = A 91 66 := by rw [v2_ne (by decide), v2_nk (by decide)]
    have e67 : u2 (u2 A 91 67 0) 137 (A 91 65).toNat 0 91 67 = 0 := by rw [v2_ne (by decide), v2_eq]
    have e137 : u2 (u2 A 91 67 0) 137 (A 91 65).toNat 0 137 ac = ((0 : Nat) : Int) := by rw [hact]; exact v2_eq
    have x9 : ∀ a k, ¬ (a = 91 ∧ k = 67) → ¬ (a = 137 ∧ k = ac) → u2 (u2 A 91 67 0) 137 (A 91 65).toNat 0 a k = A a k := by
      intro a k h1 h2
      rw [hact, show u2 (u2 A 91 67 0) 137 ac 0 a k = u2 A 91 67 0 a k from if_neg h2]
      exact if_neg h1
    have w9 : WfC (u2 (u2 A 91 67 0) 137 (A 91 65).toNat 0) := by
      refine ⟨by rw [e65]; omega, fun a ha => ?_⟩
      rw [e65] at ha
      have g := hC.2 a (by omega)
      rw [x9 137 a (by omega) (by omega), x9 138 a (by omega) (by omega)]
      refine ⟨g.1, g.2.1, fun j hj => (g.2.2 j hj).ext ⟨by rw [e66]; exact Int.le_refl _, by rw [e66]; omega, fun j _ => ⟨x9 _ _ (by omega) (by omega), x9 _ _ (by omega) (by omega), x9 _ _ (by omega) (by omega), x9 _ _ (by omega) (by omega), x9 _ _ (by omega) (by omega), x9 _ _ (by omega) (by omega)⟩⟩ ⟨x9 _ _ (by omega) (by omega), x9 _ _ (by omega) (by omega), x9 _ _ (by omega) (by omega), x9 _ _ (by omega) (by omega), x9 _ _ (by omega) (by omega)⟩⟩
    generalize u2 (u2 A 91 67 0) 137 (A 91 65).toNat 0 = A9 at r8 e65 e66 e67 e137 x9 w9
    refine l301 (T := A 152) (N := N) (F := F) (ac := ac) (I0 := I) (by omega) (by omega) 40 0 0 I8 A9 rfl f8 r8 (Nat.zero_le _) t8 w9 e65 e137 (by omega) (by omega) ?_ ?_
    · intro I1 A1 r f1 r1 t1 x1 p1
      rw [e66] at x1
      have hr := t1.2.2.2.1
      refine rqI_of (hK (-1) _ (u2 (u2 A1 91 71 (r : Int)) 91 66 (A 91 66)) ((f1.wr (by decide)).wr (by decide)) ((r1.set 91 71 (by unfold inR; omega) rfl).set 91 66 (by unfold inR; omega) rfl) (Or.inr ⟨⟨c1, c2⟩, Or.inr ⟨c3, ?_, ?_, Or.inl ⟨r, ?_, rfl, ?_, ?_, ?_⟩⟩⟩))
      · intro a k h1 h2 h3 h4
        rw [show u2 (u2 A1 91 71 (r : Int)) 91 66 (A 91 66) a k = u2 A1 91 71 (r : Int) a k from if_neg (by omega), show u2 A1 91 71 (r : Int) a k = A1 a k from if_neg (by omega), x1 a k (by omega) (by omega) (by omega) (by omega)]
        exact x9 a k (by omega) (by omega)
      · rw [v2_nk (by decide), v2_nk (by decide), x1 91 67 (by omega) (by omega) (by omega) (by omega)]; exact e67
      · rw [Int.toNat_natCast]; exact p1
      · rw [v2_nk (by decide)]; exact v2_eq
      · exact v2_eq
      · rw [v2_nk (by decide), v2_nk (by decide), x1 91 65 (by omega) (by omega) (by omega) (by omega), e65, hac]
    · intro I1 A1 r l f1 r1 t1 x1 h6 hb1 h137 hl hs p1
      rw [e66] at x1 h6 hb1
      rw [show (ac : Int) = A 91 65 from hac.symm]
      have hr := t1.2.2.2.1
      have e71 : A1 91 65 = A 91 65 := by rw [x1 91 65 (by omega) (by omega) (by omega) (by omega), e65, hac]
      have q6 : u2 (u2 (u2 A1 91 71 (-1)) 138 ac x2) 91 65 (A 91 65 + 1) 91 66 = A1 91 66 := by rw [v2_nk (by decide), v2_ne (by decide), v2_nk (by decide)]
      refine rqI_of (hK (A 91 65) _ (u2 (u2 (u2 A1 91 71 (-1)) 138 ac x2) 91 65 (A 91 65 + 1)) ((((f1.wr (by decide)).wr (by decide)).wr (by decide)).wr (by decide)) ⟨(((r1.1.set 91 71 (inRd rfl)).set 138 ac i2).set 91 65 (by unfold inR; omega)).scr rfl, Or.inl ?_⟩ (Or.inr ⟨⟨c1, c2⟩, Or.inr ⟨c3, ?_, ?_, Or.inr ⟨r, l, ?_, rfl, ?_, v2_eq, ?_, ?_, ?_, ?_, ?_, ?_⟩⟩⟩))
      · rw [ld_w (inRd rfl), if_pos rfl]
      · intro a k h1 h2 h3 h4
        rw [show u2 (u2 (u2 A1 91 71 (-1)) 138 ac x2) 91 65 (A 91 65 + 1) a k = u2 (u2 A1 91 71 (-1)) 138 ac x2 a k from if_neg (by omega), show u2 (u2 A1 91 71 (-1)) 138 ac x2 a k = u2 A1 91 71 (-1) a k from if_neg (by omega), show u2 A1 91 71 (-1) a k = A1 a k from if_neg (by omega), x1 a k (by omega) (by omega) (by omega) (by omega)]
        exact x9 a k (by omega) (by omega)
      · rw [v2_nk (by decide), v2_ne (by decide), v2_nk (by decide), x1 91 67 (by omega) (by omega) (by omega) (by omega)]; exact e67
      · rw [Int.toNat_natCast]; exact p1
      · rw [v2_nk (by decide), v2_ne (by decide)]; exact v2_eq
      · rw [hact, v2_ne (by decide)]; exact v2_eq
      · rw [hact, v2_ne (by decide), v2_ne (by decide), v2_ne (by decide), h137]; congr 1; omega
      · omega
      · intro i o hi
        have g := hs i o hi
        rw [hact]
        refine ⟨StmB.ext0 (by have g1 := g.1; rw [show 40 * ac + 0 + i = 40 * ac + i by omega] at g1; exact g1) (fun a h1 h2 => ?_) (fun a j h1 h2 _ => ?_) (by omega), g.2⟩
        · rw [v2_ne (by omega), v2_ne (by omega), v2_ne (by omega)]
        · rw [v2_ne (by omega), v2_ne (by omega), v2_ne (by omega)]
      · omega
      · omega
  · exact hK (-2) I A (FM.refl I) hR (Or.inl ⟨fun q => c2 q.2, rfl, rfl⟩)
  · exact hK (-2) I A (FM.refl I) hR (Or.inl ⟨fun q => c1 q.1, rfl, rfl⟩)
end
