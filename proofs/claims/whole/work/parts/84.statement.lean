/-! the reference: a statement -/
abbrev Stm : Type := Int × Bdy × Option (Any 10)
def omP (T : Nat → Int) (N p : Nat) : Option Bool × Nat := if tkOk T N (bl T N p) wOmit then (some true, lt T N (bl T N p)) else if tkOk T N (bl T N p) wClause then (some false, lt T N (bl T N p)) else (none, bl T N p)
def inP (T : Nat → Int) (N F : Nat) (om : Bool) (r : Nat) : Option (Bdy × Option (Any 10)) × Nat := if om = true then (some ((0, 0, 0), none), r) else bnd (rSign T N 58 r) (fun _ r => rdP T N F r)
def smP (T : Nat → Int) (N F p : Nat) : Option Stm × Nat := bnd (omP T N p) (fun om r => bnd (rNum T N 1 60 r) (fun n r => bnd (inP T N F om r) (fun b r => bnd (rSign T N 59 r) (fun _ r => (some (n, b), r)))))
def BdOk (b : Bdy) : Prop := (1 ≤ b.1 ∧ b.1 ≤ 15) ∧ (¬ b.1 = 9 → 0 ≤ b.2.1 ∧ b.2.1 ≤ 9999) ∧ (b.1 = 1 ∨ b.1 = 2 ∨ b.1 = 4 ∨ b.1 = 13 ∨ b.1 = 14 → 0 ≤ b.2.2 ∧ b.2.2 ≤ 9999) ∧ (b.1 = 6 → b.2.2 = -2 ∨ b.2.2 = -3 ∨ (0 ≤ b.2.2 ∧ b.2.2 ≤ 5)) ∧ (b.1 = 1 → (1 ≤ b.2.1 ∧ b.2.1 ≤ 3) ∧ b.2.2 ≤ 2) ∧ (b.1 = 2 → b.2.1 ≤ 5 ∧ b.2.2 ≤ 2) ∧ (b.1 = 4 ∨ b.1 = 14 → b.2.1 ≤ 5)
theorem bnd_some {α β : Type} {x : Option α × Nat} {f : α → Nat → Option β × Nat} {b : β} {r : Nat} (h : bnd x f = (some b, r)) : ∃ a q, x = (some a, q) ∧ f a q = (some b, r) := by
  obtain ⟨_ | a, q⟩ := x
  · exact absurd h (by unfold bnd; intro h; cases h)
  · exact ⟨a, q, rfl, h⟩
section
variable {T : Nat → Int} {N p r F : Nat} {lo hi v : Int}
theorem rNum_some (h : rNum T N lo hi p = (some v, r)) : lo ≤ v ∧ v ≤ hi := by
  unfold rNum at h
  split at h
  · rename_i c
    cases h
    exact c.2.2
  · cases h
theorem prP_ok {kd most ms : Int} {w : Int64} {b : Bdy} (h : prP T N kd most w ms p = (some b, r)) : b.1 = kd ∧ (0 ≤ b.2.1 ∧ b.2.1 ≤ most) ∧ (0 ≤ b.2.2 ∧ b.2.2 ≤ ms) := by
  unfold prP at h
  obtain ⟨a, q, h1, h⟩ := bnd_some h
  obtain ⟨a2, q2, h2, h⟩ := bnd_some h
  obtain ⟨a3, q3, h3, h⟩ := bnd_some h
  cases h
  exact ⟨rfl, rNum_some h1, rNum_some h3⟩
theorem plP_ok {kd : Int} {b : Bdy} (h : plP T N kd p = (some b, r)) : b.1 = kd ∧ (0 ≤ b.2.1 ∧ b.2.1 ≤ 9999) := by
  unfold plP at h
  obtain ⟨a, q, h1, h⟩ := bnd_some h
  cases h
  exact ⟨rfl, rNum_some h1⟩
theorem cnP_ok {b : Bdy} (h : cnP T N p = (some b, r)) : b.1 = 1 ∧ (1 ≤ b.2.1 ∧ b.2.1 ≤ 3) ∧ (0 ≤ b.2.2 ∧ b.2.2 ≤ 2) := by
  unfold cnP at h
  obtain ⟨a, q, h1, h⟩ := bnd_some h
  obtain ⟨a2, q2, h2, h⟩ := bnd_some h
  obtain ⟨a3, q3, h3, h⟩ := bnd_some h
  cases h
  refine ⟨rfl, ?_, rNum_some h3⟩
  unfold mwP at h1
  split at h1
  · cases h1; dsimp only; omega
  · split at h1
    · cases h1; dsimp only; omega
    · split at h1
      · cases h1; dsimp only; omega
      · cases h1
theorem grP_ok {b : Bdy} (h : grP T N p = (some b, r)) : b.1 = 6 ∧ (0 ≤ b.2.1 ∧ b.2.1 ≤ 9999) ∧ (b.2.2 = -2 ∨ b.2.2 = -3 ∨ (0 ≤ b.2.2 ∧ b.2.2 ≤ 5)) := by
  unfold grP at h
  obtain ⟨a, q, h1, h⟩ := bnd_some h
  obtain ⟨a2, q2, h2, h⟩ := bnd_some h
  obtain ⟨a3, q3, h3, h⟩ := bnd_some h
  cases h
  refine ⟨rfl, rNum_some h1, ?_⟩
  unfold gpP at h3
  split at h3
  · cases h3; exact Or.inl rfl
  · split at h3
    · cases h3; exact Or.inr (Or.inl rfl)
    · obtain ⟨a4, q4, h4, h5⟩ := bnd_some h3
      exact Or.inr (Or.inr (rNum_some h5))
theorem iteP {P : Int → Prop} {c : Prop} {hc : Decidable c} {a b : Int} (h1 : P a) (h2 : P b) : P (if c then a else b) := by split <;> assumption
theorem kwS_in {q : Nat} : kwS T N q = -1 ∨ (1 ≤ kwS T N q ∧ kwS T N q ≤ 15) := (iteP (P := fun z => z = -1 ∨ (1 ≤ z ∧ z ≤ 15)) (by decide) (iteP (P := fun z => z = -1 ∨ (1 ≤ z ∧ z ≤ 15)) (by decide) (iteP (P := fun z => z = -1 ∨ (1 ≤ z ∧ z ≤ 15)) (by decide) (iteP (P := fun z => z = -1 ∨ (1 ≤ z ∧ z ≤ 15)) (by decide) (iteP (P := fun z => z = -1 ∨ (1 ≤ z ∧ z ≤ 15)) (by decide) (iteP (P := fun z => z = -1 ∨ (1 ≤ z ∧ z ≤ 15)) (by decide) (iteP (P := fun z => z = -1 ∨ (1 ≤ z ∧ z ≤ 15)) (by decide) (iteP (P := fun z => z = -1 ∨ (1 ≤ z ∧ z ≤ 15)) (by decide) (iteP (P := fun z => z = -1 ∨ (1 ≤ z ∧ z ≤ 15)) (by decide) (iteP (P := fun z => z = -1 ∨ (1 ≤ z ∧ z ≤ 15)) (by decide) (iteP (P := fun z => z = -1 ∨ (1 ≤ z ∧ z ≤ 15)) (by decide) (iteP (P := fun z => z = -1 ∨ (1 ≤ z ∧ z ≤ 15)) (by decide) (iteP (P := fun z => z = -1 ∨ (1 ≤ z ∧ z ≤ 15)) (by decide) (iteP (P := fun z => z = -1 ∨ (1 ≤ z ∧ z ≤ 15)) (by decide) (iteP (P := fun z => z = -1 ∨ (1 ≤ z ∧ z ≤ 15)) (by decide) (by decide))))))))))))))))
theorem bdP_ok {kd : Int} {b : Bdy} (hk : 1 ≤ kd ∧ kd ≤ 15) (h : bdP T N kd p = (some b, r)) : b.1 = kd ∧ BdOk b := by
  unfold bdP at h
  unfold BdOk
  split at h
  · have := prP_ok h; omega
  split at h
  · have := prP_ok h; omega
  split at h
  · have := cnP_ok h; omega
  split at h
  · have := prP_ok h; omega
  split at h
  · have := prP_ok h; omega
  split at h
  · have := grP_ok h; omega
  split at h
  · cases h; dsimp only; omega
  · have := plP_ok h; omega
theorem rdP_ok {o : Bdy × Option (Any 10)} (h : rdP T N F p = (some o, r)) : BdOk o.1 ∧ (o.1.1 = 7 ∨ 10 ≤ o.1.1 → o.2 = none) := by
  unfold rdP at h
  split at h
  · cases h
  · rename_i h0
    have hk := kwS_in (T := T) (N := N) (q := bl T N p)
    obtain ⟨b, q, h1, h⟩ := bnd_some h
    have h2 := bdP_ok (by omega) h1
    split at h
    · cases h
      exact ⟨h2.2, fun _ => rfl⟩
    · obtain ⟨t, q2, h3, h⟩ := bnd_some h
      cases h
      exact ⟨h2.2, fun q => by have := h2.1; dsimp only at q ⊢; omega⟩
def StmOk (o : Stm) : Prop := (1 ≤ o.1 ∧ o.1 ≤ 60) ∧ (o.2.1.1 = 0 ∨ (BdOk o.2.1 ∧ (o.2.1.1 = 7 ∨ 10 ≤ o.2.1.1 → o.2.2 = none)))
theorem smP_ok {o : Stm} (h : smP T N F p = (some o, r)) : StmOk o := by
  unfold smP at h
  obtain ⟨om, q, h1, h⟩ := bnd_some h
  obtain ⟨n, q2, h2, h⟩ := bnd_some h
  obtain ⟨b, q3, h3, h⟩ := bnd_some h
  obtain ⟨u, q4, h4, h⟩ := bnd_some h
  cases h
  refine ⟨rNum_some h2, ?_⟩
  unfold inP at h3
  split at h3
  · cases h3; exact Or.inl rfl
  · obtain ⟨u2, q5, h5, h6⟩ := bnd_some h3
    exact Or.inr (rdP_ok h6)
end
def StmB (s : Nat) (A1 : aS) (o : Stm) : Prop := A1 139 s = o.1 ∧ (if o.2.1.1 = 0 then A1 140 s = 0 else StB s A1 o.2.1 ∧ WhB s A1 o.2.2)
theorem WfC.set2 {A : aS} {s : Nat} {v : Int} (a : Nat) (h : WfC A) (hs : 40 * (A 91 65).toNat ≤ s) (ha : 139 ≤ a ∧ a ≤ 143) (h7 : A 91 66 ≤ 7200) (h0 : 0 ≤ A 91 66) : WfC (u2 A a s v) :=
  ((PEx.refl A s (A 91 66).toNat).set a s v ha (Nat.le_refl s)).WfC h hs (by omega) (by rw [v2_ne (by omega)]; omega) (by rw [v2_ne (by omega)]; omega)
theorem Cur.st2 {T : Nat → Int} {N s p r : Nat} {I I1 I2 : mI} {A A1 A2 : aS} {v w : Int} (h : Cur T N s I A p I1 A1 r) (q : I2 = u2 (u2 I1 139 s (oI v)) 140 s (oI w)) (q' : A2 = u2 (u2 A1 139 s v) 140 s w) (hr : RM I2 A2) : Cur T N s I A p I2 A2 r := by
  have e6 : A2 91 66 = A1 91 66 := by rw [q', v2_ne (by decide)]; exact v2_ne (by decide)
  refine ⟨⟨?_, hr, ?_, ?_⟩, ?_⟩
  · rw [q]; exact (h.1.1.wr (by omega)).wr (by omega)
  · rw [q]; exact (h.t.wr (by omega) (by omega)).wr (by omega) (by omega)
  · rw [q']; exact (h.1.2.2.2.set 139 s v (by decide) (Nat.le_refl s)).set 140 s w (by decide) (Nat.le_refl s)
  · rw [e6]; exact h.2
theorem k303 {T : Nat → Int} {N d L s F : Nat} {R : Nat → Nat → Option Nat} {S : List (Nat × Nat)} (hF : N < F) (hs : s < 360) : RdOk T N (d + 49) L R S 303 [.ref 91, .int (oI s)] s (smP T N F) (fun _ A1 o => StmB s A1 o) := by
  intro I A p K hR ht hC hs0 hA hb k0 k1
  have hp := ht.2.2.2.1
  have hq := bl_in (T := T) hp
  have hbb := bl_bl (T := T) hp
  have hl := lt_in (T := T) hq.2
  have hq1 := bl_in (T := T) hl.2
  have hg1 := dg_in (T := T) hq1.2
  have hq2 := bl_in (T := T) hg1.2
  refine e303 (d := d + 47) (x1 := (s : Int)) hR ?_
  rw [Int.toNat_natCast]
  have cu := Cur.start (s := s) hR ht
  refine ⟨T, N, p, ht, fun c1 I6 f6 r6 t6 => ⟨T, N, _, t6, fun c2 I17 f17 r17 t17 w17 => ?_, fun c2 I17 f17 r17 t17 => ?_⟩, fun c1 I6 f6 r6 t6 => ⟨T, N, _, t6, ?_⟩⟩
  · rw [w17]
    have cu := (cu.fr f6 r6 t6 rfl (by omega)).fr f17 r17 t17 rfl (by omega)
    have ho : omP T N p = (some true, lt T N (bl T N p)) := if_pos c1
    refine ⟨by omega, hC, Or.inr ⟨Or.inl rfl, hs0⟩, hC.set2 139 hs0 (by decide) (by omega) hA, Or.inr ⟨Or.inr rfl, by rw [v2_ne (by decide)]; exact hs0⟩, fun I29 A30 q29 q30 r30 => ?_⟩
    have cu := cu.st2 q29 q30 r30
    refine ⟨T, N, _, cu.t, fun c3 I39 f39 r39 t39 => ?_, fun c3 I39 f39 r39 t39 => ?_⟩
    · refine k1 _ _ _ (nv T N (bl T N (lt T N (bl T N p))), (0, 0, 0), none) (cu.fr f39 r39 t39 rfl (by omega)) ?_ ⟨?_, ?_⟩
      · unfold smP; rw [ho]; dsimp only [bnd]; rw [rNum_p c2]; dsimp only [inP]; rw [if_pos rfl]; dsimp only; rw [rSign_p c3]
      · rw [q30, v2_ne (by decide)]; exact v2_eq
      · rw [if_pos rfl, q30]; exact v2_eq
    · refine k0 _ _ _ (cu.fr f39 r39 t39 rfl (by omega)).1 ?_
      unfold smP; rw [ho]; dsimp only [bnd]; rw [rNum_p c2]; dsimp only [inP]; rw [if_pos rfl]; dsimp only; rw [rSign_n c3]
  · refine k0 _ _ _ ((cu.fr f6 r6 t6 rfl (by omega)).fr f17 r17 t17 rfl (by omega)).1 ?_
    unfold smP; rw [show omP T N p = (some true, lt T N (bl T N p)) from if_pos c1]; dsimp only [bnd]; rw [rNum_n c2]
  rw [hbb]
  replace cu := cu.fr f6 r6 t6 rfl (by omega)
  refine ⟨fun c2 I51 f51 r51 t51 => ⟨T, N, _, t51, fun c3 I62 f62 r62 t62 w62 => ?_, fun c3 I62 f62 r62 t62 => ?_⟩, fun c2 I51 f51 r51 t51 => ?_⟩
  · rw [w62]
    have cu := (cu.fr f51 r51 t51 rfl (by omega)).fr f62 r62 t62 rfl (by omega)
    have ho : omP T N p = (some false, lt T N (bl T N p)) := (if_neg c1).trans (if_pos c2)
    refine ⟨by omega, hC, Or.inr ⟨Or.inl rfl, hs0⟩, hC.set2 139 hs0 (by decide) (by omega) hA, Or.inr ⟨Or.inr rfl, by rw [v2_ne (by decide)]; exact hs0⟩, fun I74 A75 q74 q75 r75 => ?_⟩
    have cu := cu.st2 q74 q75 r75
    refine ⟨T, N, _, cu.t, fun c4 I84 f84 r84 t84 => ?_, fun c4 I84 f84 r84 t84 => ?_⟩
    · have cu := cu.fr f84 r84 t84 rfl (by omega)
      have hw := cu.wfc hC hs0 hA hb
      refine k307 (d := d) hF hs I84 A75 _ _ r84 t84 hw.1 (by rw [hw.2.1]; exact hs0) hw.2.2.1 hw.2.2.2 ?_ ?_
      · intro I2 A2 r2 g1 g2
        refine ⟨0, I2, A2, rfl, rfl, inRd rfl, g1.2.1, fun _ => ?_, fun q => absurd rfl q⟩
        refine k0 I2 A2 r2 (cu.transF g1) ?_
        unfold smP; rw [ho]; dsimp only [bnd]; rw [rNum_p c3]; dsimp only [inP]; rw [if_neg (by decide), rSign_p c4]; dsimp only [bnd]; rw [g2]
      · intro I2 A2 r2 o g1 g2 g3
        have cu := cu.trans g1
        have hq5 := bl_in (T := T) cu.n
        have hbo := rdP_ok g2
        refine ⟨1, I2, A2, rfl, rfl, inRd rfl, g1.rm, fun q => absurd q (by decide), fun _ => ⟨T, N, _, cu.t, fun c5 I100 f100 r100 t100 => ?_, fun c5 I100 f100 r100 t100 => ?_⟩⟩
        · refine k1 _ _ _ (nv T N (bl T N (lt T N (bl T N p))), o) (cu.fr f100 r100 t100 rfl (by omega)) ?_ ⟨?_, ?_⟩
          · unfold smP; rw [ho]; dsimp only [bnd]; rw [rNum_p c3]; dsimp only [inP]; rw [if_neg (by decide), rSign_p c4]; dsimp only [bnd]; rw [g2]; dsimp only; rw [rSign_p c5]
          · rw [g3.1, q75, v2_ne (by decide)]; exact v2_eq
          · rw [if_neg (by have := hbo.1.1; dsimp only; omega)]; exact g3.2
        · refine k0 _ _ _ (cu.fr f100 r100 t100 rfl (by omega)).1 ?_
          unfold smP; rw [ho]; dsimp only [bnd]; rw [rNum_p c3]; dsimp only [inP]; rw [if_neg (by decide), rSign_p c4]; dsimp only [bnd]; rw [g2]; dsimp only; rw [rSign_n c5]
    · refine k0 _ _ _ (cu.fr f84 r84 t84 rfl (by omega)).1 ?_
      unfold smP; rw [ho]; dsimp only [bnd]; rw [rNum_p c3]; dsimp only [inP]; rw [if_neg (by decide), rSign_n c4]; rfl
  · refine k0 _ _ _ ((cu.fr f51 r51 t51 rfl (by omega)).fr f62 r62 t62 rfl (by omega)).1 ?_
    unfold smP; rw [show omP T N p = (some false, lt T N (bl T N p)) from (if_neg c1).trans (if_pos c2)]; dsimp only [bnd]; rw [rNum_n c3]
  · refine k0 _ _ _ (cu.fr f51 r51 t51 rfl (by omega)).1 ?_
    unfold smP; rw [show omP T N p = (none, bl T N p) from (if_neg c1).trans (if_neg c2)]; rfl
