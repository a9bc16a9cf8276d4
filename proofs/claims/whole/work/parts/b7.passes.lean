set_option maxRecDepth 4000 in
theorem e342 {d L : Nat} {I : Nat → Nat → Int32} {R : Nat → Nat → Option Nat} {S : List (Nat × Nat)} {K : Int32 → mM → Prop}  {x0 : Int} (hE : K (oI (iAnd (iAnd (iAnd (x0 - (iAnd (iUsr x0 1) 1431655765)) 858993459 + (iAnd (iUsr (x0 - (iAnd (iUsr x0 1) 1431655765)) 2) 858993459) + (iUsr (iAnd (x0 - (iAnd (iUsr x0 1) 1431655765)) 858993459 + (iAnd (iUsr (x0 - (iAnd (iUsr x0 1) 1431655765)) 2) 858993459)) 4)) 252645135 + (iUsr (iAnd (iAnd (x0 - (iAnd (iUsr x0 1) 1431655765)) 858993459 + (iAnd (iUsr (x0 - (iAnd (iUsr x0 1) 1431655765)) 2) 858993459) + (iUsr (iAnd (x0 - (iAnd (iUsr x0 1) 1431655765)) 858993459 + (iAnd (iUsr (x0 - (iAnd (iUsr x0 1) 1431655765)) 2) 858993459)) 4)) 252645135) 8) + (iUsr (iAnd (iAnd (x0 - (iAnd (iUsr x0 1) 1431655765)) 858993459 + (iAnd (iUsr (x0 - (iAnd (iUsr x0 1) 1431655765)) 2) 858993459) + (iUsr (iAnd (x0 - (iAnd (iUsr x0 1) 1431655765)) 858993459 + (iAnd (iUsr (x0 - (iAnd (iUsr x0 1) 1431655765)) 2) 858993459)) 4)) 252645135 + (iUsr (iAnd (iAnd (x0 - (iAnd (iUsr x0 1) 1431655765)) 858993459 + (iAnd (iUsr (x0 - (iAnd (iUsr x0 1) 1431655765)) 2) 858993459) + (iUsr (iAnd (x0 - (iAnd (iUsr x0 1) 1431655765)) 858993459 + (iAnd (iUsr (x0 - (iAnd (iUsr x0 1) 1431655765)) 2) 858993459)) 4)) 252645135) 8)) 16)) 63)) (bd L I R S)) : CallI d 342 [.int (oI x0)] (bd L I R S) K := by
  refine cI_of (ls := [.int (oI x0)]) rfl ?_
  refine xG gb342 ?_
  refine s4 (x := x0) rfl ?_
  refine s4 (x := x0) rfl ?_
  refine s0 ?_
  refine s24 ?_
  refine s0 ?_
  refine s25 ?_
  refine s17 ?_
  refine s7 (ls' := [.int (oI (x0 - (iAnd (iUsr x0 1) 1431655765)))]) (Nat.le_of_ble_eq_true rfl) rfl ?_
  refine s4 (x := x0 - (iAnd (iUsr x0 1) 1431655765)) rfl ?_
  refine s0 ?_
  refine s25 ?_
  refine s4 (x := x0 - (iAnd (iUsr x0 1) 1431655765)) rfl ?_
  refine s0 ?_
  refine s24 ?_
  refine s0 ?_
  refine s25 ?_
  refine s16 ?_
  refine s7 (ls' := [.int (oI (iAnd (x0 - (iAnd (iUsr x0 1) 1431655765)) 858993459 + (iAnd (iUsr (x0 - (iAnd (iUsr x0 1) 1431655765)) 2) 858993459)))]) (Nat.le_of_ble_eq_true rfl) rfl ?_
  refine s4 (x := iAnd (x0 - (iAnd (iUsr x0 1) 1431655765)) 858993459 + (iAnd (iUsr (x0 - (iAnd (iUsr x0 1) 1431655765)) 2) 858993459)) rfl ?_
  refine s4 (x := iAnd (x0 - (iAnd (iUsr x0 1) 1431655765)) 858993459 + (iAnd (iUsr (x0 - (iAnd (iUsr x0 1) 1431655765)) 2) 858993459)) rfl ?_
  refine s0 ?_
  refine s24 ?_
  refine s16 ?_
  refine s0 ?_
  refine s25 ?_
  refine s7 (ls' := [.int (oI (iAnd (iAnd (x0 - (iAnd (iUsr x0 1) 1431655765)) 858993459 + (iAnd (iUsr (x0 - (iAnd (iUsr x0 1) 1431655765)) 2) 858993459) + (iUsr (iAnd (x0 - (iAnd (iUsr x0 1) 1431655765)) 858993459 + (iAnd (iUsr (x0 - (iAnd (iUsr x0 1) 1431655765)) 2) 858993459)) 4)) 252645135))]) (Nat.le_of_ble_eq_true rfl) rfl ?_
  refine s4 (x := iAnd (iAnd (x0 - (iAnd (iUsr x0 1) 1431655765)) 858993459 + (iAnd (iUsr (x0 - (iAnd (iUsr x0 1) 1431655765)) 2) 858993459) + (iUsr (iAnd (x0 - (iAnd (iUsr x0 1) 1431655765)) 858993459 + (iAnd (iUsr (x0 - (iAnd (iUsr x0 1) 1431655765)) 2) 858993459)) 4)) 252645135) rfl ?_
  refine s4 (x := iAnd (iAnd (x0 - (iAnd (iUsr x0 1) 1431655765)) 858993459 + (iAnd (iUsr (x0 - (iAnd (iUsr x0 1) 1431655765)) 2) 858993459) + (iUsr (iAnd (x0 - (iAnd (iUsr x0 1) 1431655765)) 858993459 + (iAnd (iUsr (x0 - (iAnd (iUsr x0 1) 1431655765)) 2) 858993459)) 4)) 252645135) rfl ?_
  refine s0 ?_
  refine s24 ?_
  refine s16 ?_
  refine s7 (ls' := [.int (oI (iAnd (iAnd (x0 - (iAnd (iUsr x0 1) 1431655765)) 858993459 + (iAnd (iUsr (x0 - (iAnd (iUsr x0 1) 1431655765)) 2) 858993459) + (iUsr (iAnd (x0 - (iAnd (iUsr x0 1) 1431655765)) 858993459 + (iAnd (iUsr (x0 - (iAnd (iUsr x0 1) 1431655765)) 2) 858993459)) 4)) 252645135 + (iUsr (iAnd (iAnd (x0 - (iAnd (iUsr x0 1) 1431655765)) 858993459 + (iAnd (iUsr (x0 - (iAnd (iUsr x0 1) 1431655765)) 2) 858993459) + (iUsr (iAnd (x0 - (iAnd (iUsr x0 1) 1431655765)) 858993459 + (iAnd (iUsr (x0 - (iAnd (iUsr x0 1) 1431655765)) 2) 858993459)) 4)) 252645135) 8)))]) (Nat.le_of_ble_eq_true rfl) rfl ?_
  refine s4 (x := iAnd (iAnd (x0 - (iAnd (iUsr x0 1) 1431655765)) 858993459 + (iAnd (iUsr (x0 - (iAnd (iUsr x0 1) 1431655765)) 2) 858993459) + (iUsr (iAnd (x0 - (iAnd (iUsr x0 1) 1431655765)) 858993459 + (iAnd (iUsr (x0 - (iAnd (iUsr x0 1) 1431655765)) 2) 858993459)) 4)) 252645135 + (iUsr (iAnd (iAnd (x0 - (iAnd (iUsr x0 1) 1431655765)) 858993459 + (iAnd (iUsr (x0 - (iAnd (iUsr x0 1) 1431655765)) 2) 858993459) + (iUsr (iAnd (x0 - (iAnd (iUsr x0 1) 1431655765)) 858993459 + (iAnd (iUsr (x0 - (iAnd (iUsr x0 1) 1431655765)) 2) 858993459)) 4)) 252645135) 8)) rfl ?_
  refine s4 (x := iAnd (iAnd (x0 - (iAnd (iUsr x0 1) 1431655765)) 858993459 + (iAnd (iUsr (x0 - (iAnd (iUsr x0 1) 1431655765)) 2) 858993459) + (iUsr (iAnd (x0 - (iAnd (iUsr x0 1) 1431655765)) 858993459 + (iAnd (iUsr (x0 - (iAnd (iUsr x0 1) 1431655765)) 2) 858993459)) 4)) 252645135 + (iUsr (iAnd (iAnd (x0 - (iAnd (iUsr x0 1) 1431655765)) 858993459 + (iAnd (iUsr (x0 - (iAnd (iUsr x0 1) 1431655765)) 2) 858993459) + (iUsr (iAnd (x0 - (iAnd (iUsr x0 1) 1431655765)) 858993459 + (iAnd (iUsr (x0 - (iAnd (iUsr x0 1) 1431655765)) 2) 858993459)) 4)) 252645135) 8)) rfl ?_
  refine s0 ?_
  refine s24 ?_
  refine s16 ?_
  refine s7 (ls' := [.int (oI (iAnd (iAnd (x0 - (iAnd (iUsr x0 1) 1431655765)) 858993459 + (iAnd (iUsr (x0 - (iAnd (iUsr x0 1) 1431655765)) 2) 858993459) + (iUsr (iAnd (x0 - (iAnd (iUsr x0 1) 1431655765)) 858993459 + (iAnd (iUsr (x0 - (iAnd (iUsr x0 1) 1431655765)) 2) 858993459)) 4)) 252645135 + (iUsr (iAnd (iAnd (x0 - (iAnd (iUsr x0 1) 1431655765)) 858993459 + (iAnd (iUsr (x0 - (iAnd (iUsr x0 1) 1431655765)) 2) 858993459) + (iUsr (iAnd (x0 - (iAnd (iUsr x0 1) 1431655765)) 858993459 + (iAnd (iUsr (x0 - (iAnd (iUsr x0 1) 1431655765)) 2) 858993459)) 4)) 252645135) 8) + (iUsr (iAnd (iAnd (x0 - (iAnd (iUsr x0 1) 1431655765)) 858993459 + (iAnd (iUsr (x0 - (iAnd (iUsr x0 1) 1431655765)) 2) 858993459) + (iUsr (iAnd (x0 - (iAnd (iUsr x0 1) 1431655765)) 858993459 + (iAnd (iUsr (x0 - (iAnd (iUsr x0 1) 1431655765)) 2) 858993459)) 4)) 252645135 + (iUsr (iAnd (iAnd (x0 - (iAnd (iUsr x0 1) 1431655765)) 858993459 + (iAnd (iUsr (x0 - (iAnd (iUsr x0 1) 1431655765)) 2) 858993459) + (iUsr (iAnd (x0 - (iAnd (iUsr x0 1) 1431655765)) 858993459 + (iAnd (iUsr (x0 - (iAnd (iUsr x0 1) 1431655765)) 2) 858993459)) 4)) 252645135) 8)) 16)))]) (Nat.le_of_ble_eq_true rfl) rfl ?_
  refine s4 (x := iAnd (iAnd (x0 - (iAnd (iUsr x0 1) 1431655765)) 858993459 + (iAnd (iUsr (x0 - (iAnd (iUsr x0 1) 1431655765)) 2) 858993459) + (iUsr (iAnd (x0 - (iAnd (iUsr x0 1) 1431655765)) 858993459 + (iAnd (iUsr (x0 - (iAnd (iUsr x0 1) 1431655765)) 2) 858993459)) 4)) 252645135 + (iUsr (iAnd (iAnd (x0 - (iAnd (iUsr x0 1) 1431655765)) 858993459 + (iAnd (iUsr (x0 - (iAnd (iUsr x0 1) 1431655765)) 2) 858993459) + (iUsr (iAnd (x0 - (iAnd (iUsr x0 1) 1431655765)) 858993459 + (iAnd (iUsr (x0 - (iAnd (iUsr x0 1) 1431655765)) 2) 858993459)) 4)) 252645135) 8) + (iUsr (iAnd (iAnd (x0 - (iAnd (iUsr x0 1) 1431655765)) 858993459 + (iAnd (iUsr (x0 - (iAnd (iUsr x0 1) 1431655765)) 2) 858993459) + (iUsr (iAnd (x0 - (iAnd (iUsr x0 1) 1431655765)) 858993459 + (iAnd (iUsr (x0 - (iAnd (iUsr x0 1) 1431655765)) 2) 858993459)) 4)) 252645135 + (iUsr (iAnd (iAnd (x0 - (iAnd (iUsr x0 1) 1431655765)) 858993459 + (iAnd (iUsr (x0 - (iAnd (iUsr x0 1) 1431655765)) 2) 858993459) + (iUsr (iAnd (x0 - (iAnd (iUsr x0 1) 1431655765)) 858993459 + (iAnd (iUsr (x0 - (iAnd (iUsr x0 1) 1431655765)) 2) 858993459)) 4)) 252645135) 8)) 16)) rfl ?_
  refine s0 ?_
  refine s25 ?_
  refine s80 ?_
  exact rqI_of hE
def bcE (x0 : Int) : Int := (iAnd (iAnd (iAnd (x0 - (iAnd (iUsr x0 1) 1431655765)) 858993459 + (iAnd (iUsr (x0 - (iAnd (iUsr x0 1) 1431655765)) 2) 858993459) + (iUsr (iAnd (x0 - (iAnd (iUsr x0 1) 1431655765)) 858993459 + (iAnd (iUsr (x0 - (iAnd (iUsr x0 1) 1431655765)) 2) 858993459)) 4)) 252645135 + (iUsr (iAnd (iAnd (x0 - (iAnd (iUsr x0 1) 1431655765)) 858993459 + (iAnd (iUsr (x0 - (iAnd (iUsr x0 1) 1431655765)) 2) 858993459) + (iUsr (iAnd (x0 - (iAnd (iUsr x0 1) 1431655765)) 858993459 + (iAnd (iUsr (x0 - (iAnd (iUsr x0 1) 1431655765)) 2) 858993459)) 4)) 252645135) 8) + (iUsr (iAnd (iAnd (x0 - (iAnd (iUsr x0 1) 1431655765)) 858993459 + (iAnd (iUsr (x0 - (iAnd (iUsr x0 1) 1431655765)) 2) 858993459) + (iUsr (iAnd (x0 - (iAnd (iUsr x0 1) 1431655765)) 858993459 + (iAnd (iUsr (x0 - (iAnd (iUsr x0 1) 1431655765)) 2) 858993459)) 4)) 252645135 + (iUsr (iAnd (iAnd (x0 - (iAnd (iUsr x0 1) 1431655765)) 858993459 + (iAnd (iUsr (x0 - (iAnd (iUsr x0 1) 1431655765)) 2) 858993459) + (iUsr (iAnd (x0 - (iAnd (iUsr x0 1) 1431655765)) 858993459 + (iAnd (iUsr (x0 - (iAnd (iUsr x0 1) 1431655765)) 2) 858993459)) 4)) 252645135) 8)) 16)) 63)
theorem bc0 : ∀ x : Fin 1024, bcE (x.val : Int) = btS (x.val : Int) := by decide +kernel
section
variable {d L : Nat} {I I0 : mI} {R : mR} {S : mSh} {Q : Option Value → mM → Prop} {A : aS} {c day known kind half year subj code : Int}
theorem k342 {x : Int} {K : Int32 → mM → Prop} (hx : 0 ≤ x ∧ x < 1024) (hK : K (oI (btS x)) (bd L I R S)) : CallI d 342 [.int (oI x)] (bd L I R S) K := by
  have h := bc0 ⟨x.toNat, by omega⟩
  dsimp only at h
  rw [show ((x.toNat : Nat) : Int) = x by omega] at h
  rw [← h] at hK
  exact e342 hK
theorem spB_up {kind : Int} : ∀ {m n : Nat}, n ≤ m → spB A kind c day known n = true → spB A kind c day known m = true
  | 0, n, h, hb => by rw [show n = 0 by omega] at hb; exact hb
  | m + 1, n, h, hb => by
    by_cases e : n = m + 1
    · rw [← e]; exact hb
    · rw [spB_succ, spB_up (show n ≤ m by omega) hb, Bool.true_or]
theorem l145 {kd kn : Int} (hC : RC R S I A) (hW : WfA A) (hc : 0 ≤ c ∧ c < 40) (hkd : kd = 4 ∨ kd = 5) (hd : inR day) (h15 : ld I 59 15 = kn) (hkn : 0 ≤ kn ∧ kn ≤ 799) (hQ : Q (some (.int (oI (bI (spS A kd c day kn))))) (bd L I R S)) : ∀ (n k : Nat) (x5 : Int) (w1 : Value), k + n = nN A → (n : Int) ≤ x5 ∧ x5 ≤ 850 → spB A kd c day kn k = false → h145_1 (d + 1) L I R S Q w1 kd day (fstO A c k) x5 := by
  have hN := hW.2.2.2.1
  unfold WfN at hN
  have hN2 : (nN A : Int) = A 91 3 := by unfold nN; omega
  intro n
  induction n with
  | zero =>
    intro k x5 w1 hk h6 hs
    rw [show k = nN A by omega] at hs
    have e : spS A kd c day kn = false := hs
    rw [e] at hQ
    rw [show k = nN A by omega, fstO_end]
    exact e145_1 hC ⟨by unfold inR; omega, fun _ => ⟨inRd rfl, fun _ => hQ, fun q => absurd rfl q⟩, fun _ => hQ⟩
  | succ n ih =>
    intro k x5 w1 hk h6 hs
    rw [fstO_step (by omega)]
    by_cases ho : ownN A k = c
    · rw [if_pos ho]
      obtain ⟨k1, k2⟩ := (own_chd hW (by omega) hc).mp ho
      obtain ⟨b1, b2, -, -, hnx⟩ := hC.2.2.1.1 k (by omega)
      rw [ho] at hnx
      have go : ¬ (A 103 k = kd ∧ A 104 k = c ∧ (A 105 k ≤ day ∧ day ≤ A 106 k) ∧ A 108 k ≤ kn ∧ kn < A 109 k) → h145_1 (d + 1) L I R S Q w1 kd day (fstO A c (k + 1)) (x5 + -1) := fun q => ih (k + 1) (x5 + -1) w1 (by omega) (by omega) (by rw [spB_succ, hs, decide_eq_false q]; rfl)
      refine e145_1 hC ?_
      rw [h15, Int.toNat_natCast, hnx, b1, b2]
      refine ⟨by unfold inR; omega, fun _ => ⟨by unfold inR; omega, fun q => by exfalso; omega, fun _ => ⟨by omega, by unfold inR; omega, fun q1 => ⟨hd, fun q2 => ⟨hW, by omega, hkn, fun q3 => ?_, fun q3 => go (fun h => q3 h.2.2.2)⟩, fun q2 => go (fun h => q2 ?_)⟩, fun q1 => go (fun h => q1 h.1)⟩⟩, fun q => by exfalso; omega⟩
      · have e1 : frN A k = A 105 k := by unfold frN; rw [if_neg (by omega)]
        rw [e1] at q2
        have e : spS A kd c day kn = true := spB_up (show k + 1 ≤ nN A by omega) (by rw [spB_succ, decide_eq_true ⟨q1, k2, q2, q3⟩, Bool.or_true])
        rw [e] at hQ
        exact hQ
      · have e1 : frN A k = A 105 k := by unfold frN; rw [if_neg (by omega)]
        rw [e1]; exact h.2.2.1
    · rw [if_neg ho]
      exact ih (k + 1) x5 w1 (by omega) (by omega) (by rw [spB_succ, hs, decide_eq_false (fun h => ho ((own_chd hW (by omega) hc).mpr ⟨by omega, h.2.1⟩))]; rfl)
theorem k145 {kd : Int} {K : Int32 → mM → Prop} (hC : RC R S I A) (hW : WfA A) (hc : 0 ≤ c ∧ c < A 91 1) (hkd : kd = 4 ∨ kd = 5) (hd : inR day) (hkn : 0 ≤ ld I 59 15 ∧ ld I 59 15 ≤ 799) (h1 : spS A kd c day (ld I 59 15) = true → K (oI 1) (bd L I R S)) (h0 : ¬ spS A kd c day (ld I 59 15) = true → K (oI 0) (bd L I R S)) : CallI (d + 1) 145 [.ref 59, .int (oI c), .int (oI kd), .int (oI day)] (bd L I R S) K := by
  have hN := hW.2.2.2.1
  unfold WfN at hN
  have h40 := hW.2.1
  have hhd := (hC.2.2.1.2 c.toNat (by omega)).1
  refine e145 hC ⟨by omega, ?_⟩
  rw [hhd, show ((c.toNat : Nat) : Int) = c by omega]
  refine l145 hC hW (by omega) hkd hd rfl hkn (rqI_of ?_) (nN A) 0 (A 91 3) _ (by omega) (by unfold nN; omega) rfl
  cases hb : spS A kd c day (ld I 59 15)
  · exact h0 (by rw [hb]; decide)
  · exact h1 hb
theorem EnvC.put {h : Nat → Int} {k j : Nat} {v : Int} (hh : EnvC 60 I h) (hk : k < 12) (hv : inR v) (hj : (pcN k).toNat = j) : EnvC 60 (u2 I 60 j (oI v)) (putE h k v) := by
  intro i hi
  subst hj
  rw [ld_w hv]
  unfold putE
  by_cases e : i = k
  · rw [if_pos e, if_pos (by rw [e])]
  · rw [if_neg e, if_neg]
    · exact hh i hi
    · have a1 := pcN_in (x := (i : Int)) (by omega)
      have a2 := pcN_in (x := (k : Int)) (by omega)
      intro q
      apply e
      have q2 : pcN i = pcN k := by omega
      unfold pcN at q2
      split at q2 <;> split at q2 <;> (try split at q2) <;> (try split at q2) <;> omega
theorem EnvC.zero (h : ∀ j : Nat, j < 12 → ld I 60 j = 0) : EnvC 60 I zE := fun i hi => by
  have := pcN_in (x := (i : Int)) (by omega)
  exact h _ (by omega)
theorem EnvC.fr {ws : List Nat} {os : List (Nat × Nat)} {I1 : mI} {h : Nat → Int} (hh : EnvC 60 I h) (hf : Fr ws os I I1) (hp : ∀ k, (ws.contains 60 || os.contains (60, k)) = false) : EnvC 60 I1 h := fun i hi => (hf.ld (hp _)).trans (hh i hi)
theorem EnvC.eq {h h' : Nat → Int} (hh : EnvC 60 I h) (he : ∀ i, i < 12 → h i = h' i) : EnvC 60 I h' := fun i hi => (hh i hi).trans (he i hi)
theorem ageC_in (hP : WfP A) (hc : 0 ≤ c ∧ c < A 91 1) (hd : 0 ≤ day ∧ day ≤ 799) : inR (day - A 92 c.toNat) ∧ (-799 ≤ Int.tdiv (day - A 92 c.toNat) 100 ∧ Int.tdiv (day - A 92 c.toNat) 100 ≤ 2299) := by
  have w := (hP c.toNat (by omega)).1
  exact ⟨by unfold inR; omega, tdiv_bd (a := 799) (b := 2299) (by omega) (by omega) (by omega) (by omega)⟩
end
set_option maxRecDepth 4000 in
theorem e144 {d L : Nat} {I : Nat → Nat → Int32} {R : Nat → Nat → Option Nat} {S : List (Nat × Nat)} {K : mM → Prop} {A : aS} (hC : RC R S I A) {x1 : Int} {x2 : Int} {x3 : Int} (hE : ∀ (I1 : mI), (Fr [60] [] I I1) → (∀ j : Nat, j < 12 → ld I1 60 j = 0) → (0 ≤ x1 ∧ x1 < 40) ∧ (inR ((((x2 * 100) + 100) - 1) - (A 92 x1.toNat)) ∧ (inR (Int.tdiv ((((x2 * 100) + 100) - 1) - (A 92 x1.toNat)) 100) ∧ (WfA A ∧ ((0 ≤ x1 ∧ x1 < A 91 1) ∧ (inR (((x2 * 100) + 100) - 1) ∧ ((0 ≤ ld I1 59 15 ∧ ld I1 59 15 ≤ 799) ∧ (((spS A 4 x1 (((x2 * 100) + 100) - 1) (ld I1 59 15) = true) → ((spS A 5 x1 (((x2 * 100) + 100) - 1) (ld I1 59 15) = true) → K (bd L (u2 (u2 (u2 (u2 (u2 I1 60 1 (oI (max 0 (Int.tdiv ((((x2 * 100) + 100) - 1) - (A 92 x1.toNat)) 100)))) 60 2 (oI x3)) 60 4 (oI x2)) 60 6 (oI 1)) 60 11 (oI 1)) R S)) ∧ (¬ (spS A 5 x1 (((x2 * 100) + 100) - 1) (ld I1 59 15) = true) → K (bd L (u2 (u2 (u2 (u2 (u2 I1 60 1 (oI (max 0 (Int.tdiv ((((x2 * 100) + 100) - 1) - (A 92 x1.toNat)) 100)))) 60 2 (oI x3)) 60 4 (oI x2)) 60 6 (oI 1)) 60 11 (oI 0)) R S))) ∧ (¬ (spS A 4 x1 (((x2 * 100) + 100) - 1) (ld I1 59 15) = true) → ((spS A 5 x1 (((x2 * 100) + 100) - 1) (ld I1 59 15) = true) → K (bd L (u2 (u2 (u2 (u2 (u2 I1 60 1 (oI (max 0 (Int.tdiv ((((x2 * 100) + 100) - 1) - (A 92 x1.toNat)) 100)))) 60 2 (oI x3)) 60 4 (oI x2)) 60 6 (oI 0)) 60 11 (oI 1)) R S)) ∧ (¬ (spS A 5 x1 (((x2 * 100) + 100) - 1) (ld I1 59 15) = true) → K (bd L (u2 (u2 (u2 (u2 (u2 I1 60 1 (oI (max 0 (Int.tdiv ((((x2 * 100) + 100) - 1) - (A 92 x1.toNat)) 100)))) 60 2 (oI x3)) 60 4 (oI x2)) 60 6 (oI 0)) 60 11 (oI 0)) R S))))))))))) : CallV (d + 2) 144 [.ref 59, .int (oI x1), .int (oI x2), .int (oI x3)] (bd L I R S) K := by
  refine cV_of (ls := [.ref 59, .int (oI x1), .int (oI x2), .int (oI x3), mUn]) rfl ?_
  refine xG gb144.1 ?_
  refine s4 (x := x2) rfl ?_
  refine s0 ?_
  refine s18 ?_
  refine s0 ?_
  refine s16 ?_
  refine s0 ?_
  refine s17 ?_
  refine s7 (ls' := [.ref 59, .int (oI x1), .int (oI x2), .int (oI x3), .int (oI (((x2 * 100) + 100) - 1))]) (Nat.le_of_ble_eq_true rfl) rfl ?_
  refine s6 (p := 59) rfl ?_
  refine s51 sh59 (by decide) (by decide) rf59_0 ?_
  refine s0 ?_
  refine sV rc350 rfl (Nat.le_of_ble_eq_true rfl) ?_
  refine k350a60 hC (inRd rfl) (fun I1 q2 q3 => ?_)
  replace hE := hE I1 q2 q3
  refine s6 (p := 59) rfl ?_
  refine s51 sh59 (by decide) (by decide) rf59_0 ?_
  refine s0 ?_
  refine s6 (p := 59) rfl ?_
  refine s51 sh59 (by decide) (by decide) rf59_3 ?_
  refine s4 (x := x1) rfl ?_
  refine s4 (x := ((x2 * 100) + 100) - 1) rfl ?_
  refine sI rc81 rfl (Nat.le_of_ble_eq_true rfl) ?_
  refine cI_of (ls := [.ref 21, .int (oI x1), .int (oI (((x2 * 100) + 100) - 1))]) rfl ?_
  refine xG gb81 ?_
  refine s0 ?_
  refine s4 (x := ((x2 * 100) + 100) - 1) rfl ?_
  refine s6 (p := 21) rfl ?_
  refine s51 sh21 (by decide) (by decide) rf21_0 ?_
  refine s4 (x := x1) rfl ?_
  obtain ⟨g4, hE⟩ := hE
  refine s40 (v := A 92 x1.toNat) sh22 g4 rfl (rdC (RC.fr hC q2 rfl).1 rfl) ?_
  refine s17 ?_
  refine s0 ?_
  obtain ⟨g5, hE⟩ := hE
  refine s19 g5 ⟨(inRd rfl), by decide⟩ ?_
  obtain ⟨g6, hE⟩ := hE
  refine sI rc346 rfl (Nat.le_of_ble_eq_true rfl) ?_
  refine k346 (inRd rfl) g6 ?_
  refine s80 ?_
  refine rqI_of ?_
  refine s44 sh60 (by decide) (⟨by decide, by decide⟩ : (0 : Int) ≤ 1 ∧ (1 : Int) < 12) rfl ?_
  refine s6 (p := 59) rfl ?_
  refine s51 sh59 (by decide) (by decide) rf59_0 ?_
  refine s0 ?_
  refine s4 (x := x3) rfl ?_
  refine s44 sh60 (by decide) (⟨by decide, by decide⟩ : (0 : Int) ≤ 2 ∧ (2 : Int) < 12) rfl ?_
  refine s6 (p := 59) rfl ?_
  refine s51 sh59 (by decide) (by decide) rf59_0 ?_
  refine s0 ?_
  refine s4 (x := x2) rfl ?_
  refine s44 sh60 (by decide) (⟨by decide, by decide⟩ : (0 : Int) ≤ 4 ∧ (4 : Int) < 12) rfl ?_
  refine s6 (p := 59) rfl ?_
  refine s51 sh59 (by decide) (by decide) rf59_0 ?_
  refine s0 ?_
  refine s6 (p := 59) rfl ?_
  refine s4 (x := x1) rfl ?_
  refine s0 ?_
  refine s4 (x := ((x2 * 100) + 100) - 1) rfl ?_
  obtain ⟨g7, hE⟩ := hE
  obtain ⟨g8, hE⟩ := hE
  obtain ⟨g9, hE⟩ := hE
  obtain ⟨g10, hE⟩ := hE
  refine sI rc145 rfl (Nat.le_of_ble_eq_true rfl) ?_
  refine k145 (RC.scr (RC.scr (RC.scr (RC.fr hC q2 rfl) rfl) rfl) rfl) g7 g8 (by decide) g9 g10 (fun c11 => ?_) (fun c11 => ?_)
  · replace hE := hE.1 c11
    refine s67 (inRd rfl) (fun c12 => absurd c12 (by decide)) (fun _ => ?_)
    refine s0 ?_
    refine s60 ?_
    refine xG gb144.2.2.1 ?_
    refine s44 sh60 (by decide) (⟨by decide, by decide⟩ : (0 : Int) ≤ 6 ∧ (6 : Int) < 12) rfl ?_
    refine s6 (p := 59) rfl ?_
    refine s51 sh59 (by decide) (by decide) rf59_0 ?_
    refine s0 ?_
    refine s6 (p := 59) rfl ?_
    refine s4 (x := x1) rfl ?_
    refine s0 ?_
    refine s4 (x := ((x2 * 100) + 100) - 1) rfl ?_
    refine sI rc145 rfl (Nat.le_of_ble_eq_true rfl) ?_
    refine k145 (RC.scr (RC.scr (RC.scr (RC.scr (RC.fr hC q2 rfl) rfl) rfl) rfl) rfl) g7 g8 (by decide) g9 g10 (fun c13 => ?_) (fun c13 => ?_)
    · replace hE := hE.1 c13
      refine s67 (inRd rfl) (fun c14 => absurd c14 (by decide)) (fun _ => ?_)
      refine s0 ?_
      refine s60 ?_
      refine xG gb144.2.2.2.2 ?_
      refine s44 sh60 (by decide) (⟨by decide, by decide⟩ : (0 : Int) ≤ 11 ∧ (11 : Int) < 12) rfl ?_
      refine s83 ?_
      exact rqV_of hE
    · replace hE := hE.2 c13
      refine s67 (inRd rfl) (fun _ => ?_) (fun c15 => absurd (by decide) c15)
      refine xG gb144.2.2.2.1 ?_
      refine s0 ?_
      refine s79 ?_
      refine xG gb144.2.2.2.2 ?_
      refine s44 sh60 (by decide) (⟨by decide, by decide⟩ : (0 : Int) ≤ 11 ∧ (11 : Int) < 12) rfl ?_
      refine s83 ?_
      exact rqV_of hE
  · replace hE := hE.2 c11
    refine s67 (inRd rfl) (fun _ => ?_) (fun c16 => absurd (by decide) c16)
    refine xG gb144.2.1 ?_
    refine s0 ?_
    refine s79 ?_
    refine xG gb144.2.2.1 ?_
    refine s44 sh60 (by decide) (⟨by decide, by decide⟩ : (0 : Int) ≤ 6 ∧ (6 : Int) < 12) rfl ?_
    refine s6 (p := 59) rfl ?_
    refine s51 sh59 (by decide) (by decide) rf59_0 ?_
    refine s0 ?_
    refine s6 (p := 59) rfl ?_
    refine s4 (x := x1) rfl ?_
    refine s0 ?_
    refine s4 (x := ((x2 * 100) + 100) - 1) rfl ?_
    refine sI rc145 rfl (Nat.le_of_ble_eq_true rfl) ?_
    refine k145 (RC.scr (RC.scr (RC.scr (RC.scr (RC.fr hC q2 rfl) rfl) rfl) rfl) rfl) g7 g8 (by decide) g9 g10 (fun c17 => ?_) (fun c17 => ?_)
    · replace hE := hE.1 c17
      refine s67 (inRd rfl) (fun c18 => absurd c18 (by decide)) (fun _ => ?_)
      refine s0 ?_
      refine s60 ?_
      refine xG gb144.2.2.2.2 ?_
      refine s44 sh60 (by decide) (⟨by decide, by decide⟩ : (0 : Int) ≤ 11 ∧ (11 : Int) < 12) rfl ?_
      refine s83 ?_
      exact rqV_of hE
    · replace hE := hE.2 c17
      refine s67 (inRd rfl) (fun _ => ?_) (fun c19 => absurd (by decide) c19)
      refine xG gb144.2.2.2.1 ?_
      refine s0 ?_
      refine s79 ?_
      refine xG gb144.2.2.2.2 ?_
      refine s44 sh60 (by decide) (⟨by decide, by decide⟩ : (0 : Int) ≤ 11 ∧ (11 : Int) < 12) rfl ?_
      refine s83 ?_
      exact rqV_of hE
set_option maxRecDepth 4000 in
theorem e146 {d L : Nat} {I : Nat → Nat → Int32} {R : Nat → Nat → Option Nat} {S : List (Nat × Nat)} {K : Int32 → mM → Prop} {A : aS} (hC : RC R S I A) {x1 : Int} {x2 : Int} {x3 : Int} (hE : WfC A ∧ ((0 ≤ x3 ∧ x3 ≤ 7) ∧ (∃ e3 : Nat → Int, EnvC 60 (u2 (u2 I 60 9 (oI x1)) 60 10 (oI x2)) e3 ∧ (inR x2 ∧ (inR (tlS A e3 x3 133 (iShl 1 x1) 10000) ∧ (((x2 < tlS A e3 x3 133 (iShl 1 x1) 10000) → K (oI 0) (bd L (u2 (u2 (u2 (u2 I 60 9 (oI x1)) 60 10 (oI x2)) 60 9 (oI 0)) 60 10 (oI 0)) R S)) ∧ (¬ (x2 < tlS A e3 x3 133 (iShl 1 x1) 10000) → K (oI 1) (bd L (u2 (u2 (u2 (u2 I 60 9 (oI x1)) 60 10 (oI x2)) 60 9 (oI 0)) 60 10 (oI 0)) R S)))))))) : CallI (d + 25) 146 [.ref 59, .int (oI x1), .int (oI x2), .int (oI x3)] (bd L I R S) K := by
  refine cI_of (ls := [.ref 59, .int (oI x1), .int (oI x2), .int (oI x3), mUn]) rfl ?_
  refine xG gb146.1 ?_
  refine s6 (p := 59) rfl ?_
  refine s4 (x := x1) rfl ?_
  refine s4 (x := x2) rfl ?_
  refine sV rc147 rfl (Nat.le_of_ble_eq_true rfl) ?_
  refine cV_of (ls := [.ref 59, .int (oI x1), .int (oI x2)]) rfl ?_
  refine xG gb147 ?_
  refine s6 (p := 59) rfl ?_
  refine s51 sh59 (by decide) (by decide) rf59_0 ?_
  refine s0 ?_
  refine s4 (x := x1) rfl ?_
  refine s44 sh60 (by decide) (⟨by decide, by decide⟩ : (0 : Int) ≤ 9 ∧ (9 : Int) < 12) rfl ?_
  refine s6 (p := 59) rfl ?_
  refine s51 sh59 (by decide) (by decide) rf59_0 ?_
  refine s0 ?_
  refine s4 (x := x2) rfl ?_
  refine s44 sh60 (by decide) (⟨by decide, by decide⟩ : (0 : Int) ≤ 10 ∧ (10 : Int) < 12) rfl ?_
  refine s83 ?_
  refine rqV_of ?_
  refine s4 (x := x2) rfl ?_
  refine s6 (p := 59) rfl ?_
  refine s51 sh59 (by decide) (by decide) rf59_4 ?_
  refine s4 (x := x3) rfl ?_
  refine s0 ?_
  refine s0 ?_
  refine s4 (x := x1) rfl ?_
  refine s22 ?_
  refine s6 (p := 59) rfl ?_
  refine s51 sh59 (by decide) (by decide) rf59_0 ?_
  refine s0 ?_
  obtain ⟨g1, hE⟩ := hE
  obtain ⟨g2, hE⟩ := hE
  obtain ⟨e3, k4, hE⟩ := hE
  refine sI rc97 rfl (Nat.le_of_ble_eq_true rfl) ?_
  refine k97a60 (RC.scr (RC.scr hC rfl) rfl) g1 k4 g2 (⟨by decide, by decide⟩ : (130 : Int) ≤ 133 ∧ (133 : Int) ≤ 144) (inRd rfl) ?_
  obtain ⟨g5, hE⟩ := hE
  obtain ⟨g6, hE⟩ := hE
  refine s63 g5 g6 (fun c7 => ?_) (fun c7 => ?_)
  · replace hE := hE.1 c7
    refine xG gb146.2.1 ?_
    refine s0 ?_
    refine s79 ?_
    refine xG gb146.2.2 ?_
    refine s7 (ls' := [.ref 59, .int (oI x1), .int (oI x2), .int (oI x3), .int (oI 0)]) (Nat.le_of_ble_eq_true rfl) rfl ?_
    refine s6 (p := 59) rfl ?_
    refine s0 ?_
    refine s0 ?_
    refine sV rc147 rfl (Nat.le_of_ble_eq_true rfl) ?_
    refine cV_of (ls := [.ref 59, .int (oI 0), .int (oI 0)]) rfl ?_
    refine xG gb147 ?_
    refine s6 (p := 59) rfl ?_
    refine s51 sh59 (by decide) (by decide) rf59_0 ?_
    refine s0 ?_
    refine s4 (x := 0) rfl ?_
    refine s44 sh60 (by decide) (⟨by decide, by decide⟩ : (0 : Int) ≤ 9 ∧ (9 : Int) < 12) rfl ?_
    refine s6 (p := 59) rfl ?_
    refine s51 sh59 (by decide) (by decide) rf59_0 ?_
    refine s0 ?_
    refine s4 (x := 0) rfl ?_
    refine s44 sh60 (by decide) (⟨by decide, by decide⟩ : (0 : Int) ≤ 10 ∧ (10 : Int) < 12) rfl ?_
    refine s83 ?_
    refine rqV_of ?_
    refine s4 (x := 0) rfl ?_
    refine s84 (by decide) ?_
    exact rqI_of hE
  · replace hE := hE.2 c7
    refine s0 ?_
    refine s60 ?_
    refine xG gb146.2.2 ?_
    refine s7 (ls' := [.ref 59, .int (oI x1), .int (oI x2), .int (oI x3), .int (oI 1)]) (Nat.le_of_ble_eq_true rfl) rfl ?_
    refine s6 (p := 59) rfl ?_
    refine s0 ?_
    refine s0 ?_
    refine sV rc147 rfl (Nat.le_of_ble_eq_true rfl) ?_
    refine cV_of (ls := [.ref 59, .int (oI 0), .int (oI 0)]) rfl ?_
    refine xG gb147 ?_
    refine s6 (p := 59) rfl ?_
    refine s51 sh59 (by decide) (by decide) rf59_0 ?_
    refine s0 ?_
    refine s4 (x := 0) rfl ?_
    refine s44 sh60 (by decide) (⟨by decide, by decide⟩ : (0 : Int) ≤ 9 ∧ (9 : Int) < 12) rfl ?_
    refine s6 (p := 59) rfl ?_
    refine s51 sh59 (by decide) (by decide) rf59_0 ?_
    refine s0 ?_
    refine s4 (x := 0) rfl ?_
    refine s44 sh60 (by decide) (⟨by decide, by decide⟩ : (0 : Int) ≤ 10 ∧ (10 : Int) < 12) rfl ?_
    refine s83 ?_
    refine rqV_of ?_
    refine s4 (x := 1) rfl ?_
    refine s84 (by decide) ?_
    exact rqI_of hE
