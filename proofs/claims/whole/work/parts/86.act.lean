/-! the reference: act -/
def acP (T : Nat → Int) (N F : Nat) : Nat → Nat → Option (List Stm) × Nat
  | 0, p => if bl T N p < N then (none, bl T N p) else (some [], bl T N p)
  | c + 1, p => if bl T N p < N then bnd (smP T N F (bl T N p)) (fun o r => bnd (acP T N F c r) (fun l r => (some (o :: l), r))) else (some [], bl T N p)
theorem acP_succ {T : Nat → Int} {N F c p : Nat} : acP T N F (c + 1) p = if bl T N p < N then bnd (smP T N F (bl T N p)) (fun o r => bnd (acP T N F c r) (fun l r => (some (o :: l), r))) else (some [], bl T N p) := rfl
def AEx (A A1 : aS) (ac s m : Nat) : Prop := ∀ a k, ¬ ((139 ≤ a ∧ a ≤ 143) ∧ s ≤ k) → ¬ ((144 ≤ a ∧ a ≤ 149) ∧ m ≤ k) → ¬ (a = 91 ∧ k = 66) → ¬ (a = 137 ∧ k = ac) → A1 a k = A a k
section
variable {A A1 A2 : aS} {ac s s' m m' : Nat}
theorem PEx.AEx (h : PEx A A1 s m) : AEx A A1 ac s m := fun a k g1 g2 g3 _ => h a k g1 g2 g3
theorem AEx.trans (h : AEx A A1 ac s m) (h2 : AEx A1 A2 ac s' m') (hs : s ≤ s') (hm : m ≤ m') : AEx A A2 ac s m := fun a k g1 g2 g3 g4 => (h2 a k (fun q => g1 ⟨q.1, by omega⟩) (fun q => g2 ⟨q.1, by omega⟩) g3 g4).trans (h a k g1 g2 g3 g4)
theorem AEx.set (h : AEx A A1 ac s m) (v : Int) : AEx A (u2 A1 137 ac v) ac s m := by
  intro b j g1 g2 g3 g4
  rw [show u2 A1 137 ac v b j = A1 b j from if_neg g4]
  exact h b j g1 g2 g3 g4
theorem AEx.WfC (h : AEx A A1 ac s m) (hC : WfC A) (ha : (A 91 65).toNat ≤ ac) (hs : 40 * (A 91 65).toNat ≤ s) (hm : A 91 66 ≤ m) (h6 : A 91 66 ≤ A1 91 66) (h7 : A1 91 66 ≤ 7200) : WfC A1 := by
  have e65 : A1 91 65 = A 91 65 := h 91 65 (by omega) (by omega) (by omega) (by omega)
  have hn : NdAg A A1 := ⟨h6, h7, fun j hj => ⟨h 144 j (by omega) (by omega) (by omega) (by omega), h 145 j (by omega) (by omega) (by omega) (by omega), h 146 j (by omega) (by omega) (by omega) (by omega), h 147 j (by omega) (by omega) (by omega) (by omega), h 148 j (by omega) (by omega) (by omega) (by omega), h 149 j (by omega) (by omega) (by omega) (by omega)⟩⟩
  refine ⟨by rw [e65]; exact hC.1, fun a ha' => ?_⟩
  rw [e65] at ha'
  have g := hC.2 a ha'
  have e1 : A1 137 a = A 137 a := h 137 a (by omega) (by omega) (by omega) (by omega)
  have e2 : A1 138 a = A 138 a := h 138 a (by omega) (by omega) (by omega) (by omega)
  rw [e1, e2]
  refine ⟨g.1, g.2.1, fun j hj => (g.2.2 j hj).ext hn ?_⟩
  have hj4 : 40 * a + j < s := by have := g.1; omega
  exact ⟨h 139 _ (by omega) (by omega) (by omega) (by omega), h 140 _ (by omega) (by omega) (by omega) (by omega), h 141 _ (by omega) (by omega) (by omega) (by omega), h 142 _ (by omega) (by omega) (by omega) (by omega), h 143 _ (by omega) (by omega) (by omega) (by omega)⟩
theorem StmB.ext {o : Stm} (h : StmB s A o) (hx : AEx A A1 ac s' m) (hs : s < s') (hm : A 91 66 ≤ m) (h6 : A 91 66 ≤ A1 91 66) : StmB s A1 o := by
  have g : ∀ a, 139 ≤ a → a ≤ 143 → A1 a s = A a s := fun a h1 h2 => hx a s (by omega) (by omega) (by omega) (by omega)
  refine ⟨(g 139 (by decide) (by decide)).trans h.1, ?_⟩
  have h2 := h.2
  split
  · rename_i q
    rw [if_pos q] at h2
    exact (g 140 (by decide) (by decide)).trans h2
  · rename_i q
    rw [if_neg q] at h2
    refine ⟨h2.1.ext ⟨g 140 (by decide) (by decide), g 141 (by decide) (by decide), g 142 (by decide) (by decide)⟩, ?_⟩
    obtain ⟨-, h3⟩ := h2
    obtain ⟨n, b, t⟩ := o
    cases t with
    | none => exact (g 143 (by decide) (by decide)).trans h3
    | some t =>
      obtain ⟨k, e, q1, q2, q3⟩ := h3
      have ag : Ag A A1 k e := fun j h1 h2 => ⟨hx 144 j (by omega) (by omega) (by omega) (by omega), hx 145 j (by omega) (by omega) (by omega) (by omega), hx 147 j (by omega) (by omega) (by omega) (by omega), hx 148 j (by omega) (by omega) (by omega) (by omega), hx 149 j (by omega) (by omega) (by omega) (by omega)⟩
      have ag6 : Ag6 A A1 (k + 1) e := fun j h1 h2 => hx 146 j (by omega) (by omega) (by omega) (by omega)
      exact ⟨k, e, (g 143 (by decide) (by decide)).trans q1, PAny_st (P := POne A 10) (P' := POne A1 10) (POne_lt 10) ag ag6 (fun k' e' x a b h3 => POne_st 10 k' e' x (fun j a' b' => ag j (by omega) (by omega)) (fun j a' b' => ag6 j (by omega) (by omega)) h3) q2, by omega⟩
end
section
variable {T : Nat → Int} {N d L F ac : Nat} {R : Nat → Nat → Option Nat} {S : List (Nat × Nat)} {Q : Option Value → mM → Prop} {x2 x3 : Int} {w1 : Value} {I0 : mI}
theorem l301f {I : mI} {A : aS} {r : Nat} (hR : RM I A) (ht : Tx I T N r) (hQ : Q (some (.int (oI (-1)))) (bd L (u2 (u2 I 91 71 (oI (r : Int))) 91 66 (oI x3)) R S)) : h301_6 (d + 1) L I R S Q w1 x2 x3 0 := by
  refine e301_6 hR ⟨inRd rfl, fun _ => ?_, fun q => absurd rfl q⟩
  rw [ht.2.2.1]; exact hQ
theorem l301 (hF : N < F) (hac : ac < 8) : ∀ (f p j : Nat) (I : mI) (A : aS), j + f = 40 → FM I0 I → RM I A → p ≤ N → Tx I T N (bl T N p) → WfC A → A 91 65 = (ac : Int) → A 137 ac = (j : Int) → 0 ≤ A 91 66 → (A 91 66).toNat + (N - p) ≤ 7148 →
    (∀ (I1 : mI) (A1 : aS) (r : Nat), FM I0 I1 → RM I1 A1 → Tx I1 T N r → AEx A A1 ac (40 * ac + j) (A 91 66).toNat → acP T N F f p = (none, r) → Q (some (.int (oI (-1)))) (bd L (u2 (u2 I1 91 71 (oI (r : Int))) 91 66 (oI x3)) R S)) →
    (∀ (I1 : mI) (A1 : aS) (r : Nat) (l : List Stm), FM I0 I1 → RM I1 A1 → Tx I1 T N r → AEx A A1 ac (40 * ac + j) (A 91 66).toNat → A 91 66 ≤ A1 91 66 → (A1 91 66).toNat + (N - r) ≤ (A 91 66).toNat + (N - p) → A1 137 ac = ((j + l.length : Nat) : Int) → j + l.length ≤ 40 → (∀ i o, l[i]? = some o → StmB (40 * ac + j + i) A1 o ∧ StmOk o) → acP T N F f p = (some l, r) → Q (some (.int (oI (ac : Int)))) (bd L (u2 (u2 (u2 (u2 I1 91 71 (oI (-1))) 138 ac (oI x2)) 91 65 (oI ((ac : Int) + 1))) 91 87 (oI 0)) R S)) →
    h301_6 (d + 50) L I R S Q w1 x2 x3 1 := by
  intro f
  induction f with
  | zero =>
    intro p j I A hj hf hR hp ht hC h65 h137 h0 hb k0 k1
    have hq := bl_in (T := T) hp
    refine e301_6 (d := d + 49) hR ⟨inRd rfl, fun q => absurd q (by decide), fun _ => ⟨fun c => ⟨by omega, fun c2 => ?_, fun c2 => ?_⟩, fun c => ⟨by omega, ?_⟩⟩⟩
    · rw [h65, Int.toNat_natCast, h137] at c2; omega
    · rw [ht.2.2.1, ht.1] at c
      exact l301f hR ht (k0 I A _ hf hR ht (PEx.refl _ _ _).AEx (if_pos (by omega)))
    · rw [ht.2.2.1, ht.1] at c
      rw [h65, show (ac : Int) + 1 - 1 = ac by omega, Int.toNat_natCast]
      exact k1 I A _ [] hf hR ht (PEx.refl _ _ _).AEx (Int.le_refl _) (by omega) (by rw [h137]; rfl) (by show j + 0 ≤ 40; omega) (fun i o q => by cases q) (if_neg (by omega))
  | succ f ih =>
    intro p j I A hj hf hR hp ht hC h65 h137 h0 hb k0 k1
    have hq := bl_in (T := T) hp
    refine e301_6 (d := d + 49) hR ⟨inRd rfl, fun q => absurd q (by decide), fun _ => ⟨fun c => ⟨by omega, fun c2 => ?_, fun c2 => ?_⟩, fun c => ⟨by omega, ?_⟩⟩⟩
    · rw [ht.2.2.1, ht.1] at c
      have hc : bl T N p < N := by omega
      rw [h65, Int.toNat_natCast, h137] at c2 ⊢
      rw [show (40 * (ac : Int)) + (j : Int) = ((40 * ac + j : Nat) : Int) by omega]
      refine k303 (d := d) hF (s := 40 * ac + j) (by omega) I A (bl T N p) _ hR ht hC (by omega) h0 (by omega) ?_ ?_
      · intro I1 A1 r g1 g2
        refine ⟨0, I1, A1, rfl, rfl, inRd rfl, g1.2.1, fun _ => ?_, fun q => absurd rfl q⟩
        refine l301f g1.2.1 g1.2.2.1 (k0 I1 A1 r (hf.trans g1.1) g1.2.1 g1.2.2.1 g1.2.2.2.AEx ?_)
        rw [acP_succ, if_pos hc, g2]; rfl
      · intro I1 A1 r o g1 g2 g3
        have e65 : A1 91 65 = (ac : Int) := (g1.1.2.2.2 91 65 (by omega) (by omega) (by omega)).trans h65
        have e137 : A1 137 ac = (j : Int) := (g1.1.2.2.2 137 ac (by omega) (by omega) (by omega)).trans h137
        have hw := g1.wfc hC (by omega) h0 (by omega)
        have gg := g1.2
        have hr := g1.n
        have hqr := bl_in (T := T) hr
        refine ⟨1, I1, A1, rfl, rfl, inRd rfl, g1.rm, fun q => absurd q (by decide), fun _ => ?_⟩
        rw [e65, Int.toNat_natCast, e137]
        refine ⟨by omega, by unfold inR; omega, hw.1, Or.inl ⟨Or.inl rfl, Nat.le_refl _⟩, fun I19 A20 q19 q20 r20 => ?_⟩
        have t19 : Tx I19 T N r := by rw [q19]; exact g1.t.wr (by omega) (by decide)
        refine ⟨T, N, r, t19, fun I28 f28 r28 t28 => ?_⟩
        have f19 : FM I0 I28 := by refine FM.trans ?_ (f28.FM rfl); rw [q19]; exact (hf.trans g1.1.1).wr (by decide)
        have x20 : AEx A A20 ac (40 * ac + j) (A 91 66).toNat := by rw [q20]; exact g1.1.2.2.2.AEx.set _
        have e6 : A20 91 66 = A1 91 66 := by rw [q20]; exact v2_ne (by decide)
        have s20 : StmB (40 * ac + j) A20 o := by
          refine StmB.ext (ac := ac) (s' := 40 * ac + j + 1) (m := (A1 91 66).toNat) g3 ?_ (by omega) (by omega) (by omega)
          rw [q20]; exact (PEx.refl _ _ _).AEx.set _
        refine ih r (j + 1) I28 A20 (by omega) f19 r28 hr t28 ?_ ?_ ?_ (by omega) (by omega) ?_ ?_
        · exact x20.WfC hC (by omega) (by omega) (by omega) (by omega) (by omega)
        · rw [q20, v2_ne (by decide)]; exact e65
        · rw [q20, v2_eq]; rfl
        · intro I2 A2 r2 m1 m2 m3 m4 m5
          refine k0 I2 A2 r2 m1 m2 m3 (x20.trans m4 (by omega) (by omega)) ?_
          rw [acP_succ, if_pos hc, g2]; dsimp only [bnd]; rw [m5]
        · intro I2 A2 r2 l m1 m2 m3 m4 m5 m6 m7 m8 m9 m10
          refine k1 I2 A2 r2 (o :: l) m1 m2 m3 (x20.trans m4 (by omega) (by omega)) (by omega) (by omega) ?_ ?_ ?_ ?_
          · rw [m7, List.length_cons]; congr 1; omega
          · rw [List.length_cons]; omega
          · intro i o' hi
            cases i with
            | zero =>
              rw [List.getElem?_cons_zero] at hi
              cases hi
              exact ⟨s20.ext m4 (by omega) (by omega) (by omega), smP_ok g2⟩
            | succ i =>
              rw [List.getElem?_cons_succ] at hi
              have m11 := m9 i o' hi
              rw [show 40 * ac + (j + 1) + i = 40 * ac + j + (i + 1) by omega] at m11
              exact m11
          · rw [acP_succ, if_pos hc, g2]; dsimp only [bnd]; rw [m10]
    · rw [h65, Int.toNat_natCast, h137] at c2; omega
    · rw [ht.2.2.1, ht.1] at c
      rw [h65, show (ac : Int) + 1 - 1 = ac by omega, Int.toNat_natCast]
      refine k1 I A _ [] hf hR ht (PEx.refl _ _ _).AEx (Int.le_refl _) (by omega) (by rw [h137]; rfl) (by show j + 0 ≤ 40; omega) (fun i o q => by cases q) ?_
      rw [acP_succ, if_neg (by omega)]
end
