section
variable {d L : Nat} {I I0 : mI} {R : mR} {S : mSh} {Q : Option Value → mM → Prop} {A : aS} {c day known kind half year subj code : Int}
theorem l142 {kn : Int} (hW : WfA A) (hP : WfP A) (hWC : WfC A) (hc : 0 ≤ c ∧ c < A 91 1) (hy : 0 ≤ year ∧ year ≤ 7) (hkn : 0 ≤ kn ∧ kn ≤ 799) (hK : ∀ I1, Fr [60, 61, 69] [] I0 I1 → (∀ j : Nat, (j : Int) ≤ year → ld I1 69 j = stS A c j kn) → Q (some (.int (oI (stS A c year kn)))) (bd L I1 R S)) : ∀ (n x : Nat) (I : mI) (w5 : Value), (x : Int) + n = year + 1 → Fr [60, 61, 69] [] I0 I → RC R S I A → ld I 59 15 = kn → (∀ j : Nat, j < x → ld I 69 j = stS A c j kn) → h142_1 (d + 27) L I R S Q c year (stS A c (min x year) kn) x w5 := by
  have h40 := hW.2.1
  have w := hP c.toNat (by omega)
  intro n
  induction n with
  | zero =>
    intro x I w5 hx hf hC h15 hj
    rw [show min (x : Int) year = year by omega]
    exact e142_1 (d := d) hC ⟨by unfold inR; omega, by unfold inR; omega, fun _ => hK I hf (fun j h => hj j (by omega)), fun q => by exfalso; omega⟩
  | succ n ih =>
    intro x I w5 hx hf hC h15 hj
    rw [show min (x : Int) year = x by omega]
    have si := stS_in hP hc (year := (x : Int)) (known := kn)
    have rs : inR (stS A c x kn) := by unfold inR; omega
    have hj2 : ∀ (I2 : mI), Fr [60, 61] [] (u2 I 69 x (oI (stS A c x kn))) I2 → ∀ j : Nat, j < x + 1 → ld I2 69 j = stS A c j kn := fun I2 f2 j h => by
      rw [f2.ld rfl, ld_w rs]
      split
      · rename_i e; rw [e]
      · exact hj j (by omega)
    have f0 : Fr [60, 61, 69] [] I0 (u2 I 69 x (oI (stS A c x kn))) := hf.wr rfl
    have go : ∀ (v : Int) (I2 : mI) (w : Value), v = stS A c (min (x + 1 : Nat) year) kn → Fr [60, 61] [] (u2 I 69 x (oI (stS A c x kn))) I2 → h142_1 (d + 27) L I2 R S Q c year v ((x : Int) + 1) w := fun v I2 w hv f2 => by
      rw [hv, show (x : Int) + 1 = ((x + 1 : Nat) : Int) by omega]
      refine ih (x + 1) I2 w (by omega) (f0.trans (f2.sub rfl rfl)) ((hC.scr rfl).fr f2 rfl) ?_ (hj2 I2 f2)
      rw [f2.ld rfl, ld_o (by decide)]; exact h15
    refine e142_1 (d := d) hC ?_
    rw [h15, Int.toNat_natCast]
    refine ⟨by unfold inR; omega, by unfold inR; omega, fun q => by exfalso; omega, fun _ => ⟨by omega, by omega, fun q1 => go _ _ _ ?_ (Fr.refl _ _ _), fun q1 => ⟨fun q2 => go _ _ _ ?_ (Fr.refl _ _ _), fun q2 => ⟨rs, fun q3 => go _ _ _ ?_ (Fr.refl _ _ _), fun q3 => ⟨hW, hP, hWC, hc, by omega, hkn, fun I2 f2 e2 h2 => ?_⟩⟩⟩⟩⟩
    · unfold stS
      rw [show ((x : Int) - A 94 c.toNat).toNat = 0 by omega, show (min ((x + 1 : Nat) : Int) year - A 94 c.toNat).toNat = 0 by omega]
    · rw [show min ((x + 1 : Nat) : Int) year = x by omega]
    · have hk : (min ((x + 1 : Nat) : Int) year - A 94 c.toNat).toNat = ((x : Int) - A 94 c.toNat).toNat + 1 := by omega
      have q4 : stL A c kn ((x : Int) - A 94 c.toNat).toNat = 6 := q3
      unfold stS
      rw [hk, stL_succ, q4]
      split <;> omega
    · have hk : (min ((x + 1 : Nat) : Int) year - A 94 c.toNat).toNat = ((x : Int) - A 94 c.toNat).toNat + 1 := by omega
      have hx9 : A 94 c.toNat + (((x : Int) - A 94 c.toNat).toNat : Nat) = (x : Int) := by omega
      have pi := psS_in (A := A) (c := c) (year := (x : Int)) (code := (x : Int)) (std := stS A c x kn) (known := kn)
      have bi := btS_in (psS A c x x (stS A c x kn) kn)
      have rb : inR (btS (psS A c x x (stS A c x kn) kn)) := by unfold inR; omega
      have et := tlS_one (A := A) (h := putE (psE A c x (stS A c x kn) kn) 7 (btS (psS A c x x (stS A c x kn) kn))) (y := (x : Int)) (b := 5) (ow := 10000) hWC (by omega)
      have f3 : Fr [60, 61] [] (u2 I 69 x (oI (stS A c x kn))) (u2 I2 60 7 (oI (btS (psS A c x x (stS A c x kn) kn)))) := f2.wr rfl
      have es : stS A c (min ((x + 1 : Nat) : Int) year) kn = if ¬ fsS A (putE (psE A c x (stS A c x kn) kn) 7 (btS (psS A c x x (stS A c x kn) kn))) x 5 (-1) = -1 ∧ nuS A x (fsS A (putE (psE A c x (stS A c x kn) kn) 7 (btS (psS A c x x (stS A c x kn) kn))) x 5 (-1)) ≤ btS (psS A c x x (stS A c x kn) kn) then min 6 (stS A c x kn + 1) else stS A c x kn := by
        have e9 : stS A c (min ((x + 1 : Nat) : Int) year) kn = stL A c kn (((x : Int) - A 94 c.toNat).toNat + 1) := by unfold stS; rw [hk]
        rw [e9, stL_succ, hx9]
        rfl
      refine ⟨by omega, _, e2.put (k := 7) (j := 7) (by decide) rb (by decide), rb, tlS_R hWC (inRd rfl), ?_⟩
      rw [show (134 : Int) = ckd 5 from rfl, et]
      refine ⟨fun q4 => go _ _ _ ?_ f3, fun q4 => go _ _ _ ?_ f3⟩
      · rw [es, if_neg]
        rintro ⟨q5, q6⟩
        rw [if_neg q5] at q4
        omega
      · rw [es, if_pos]
        · omega
        · refine ⟨fun q5 => ?_, ?_⟩
          · rw [if_pos q5] at q4; omega
          · by_cases q5 : fsS A (putE (psE A c x (stS A c x kn) kn) 7 (btS (psS A c x x (stS A c x kn) kn))) x 5 (-1) = -1
            · rw [if_pos q5] at q4; omega
            · rw [if_neg q5] at q4; omega
theorem k142 {K : Int32 → mM → Prop} (hC : RC R S I A) (hW : WfA A) (hP : WfP A) (hWC : WfC A) (hc : 0 ≤ c ∧ c < A 91 1) (hy : 0 ≤ year ∧ year ≤ 7) (hkn : 0 ≤ ld I 59 15 ∧ ld I 59 15 ≤ 799) (hK : ∀ I1, Fr [60, 61, 69] [] I I1 → (∀ j : Nat, (j : Int) ≤ year → ld I1 69 j = stS A c j (ld I 59 15)) → K (oI (stS A c year (ld I 59 15))) (bd L I1 R S)) : CallI (d + 27) 142 [.ref 59, .int (oI c), .int (oI year)] (bd L I R S) K := by
  have h40 := hW.2.1
  have w := hP c.toNat (by omega)
  have := l142 (d := d) (L := L) (R := R) (S := S) (Q := rqI K) (I0 := I) hW hP hWC hc hy hkn (fun I1 f1 h1 => rqI_of (hK I1 f1 h1)) (year + 1).toNat 0 I mUn (by omega) (Fr.refl _ _ _) hC rfl (fun j hj => by omega)
  refine e142 (d := d + 27) hC ⟨by omega, ?_⟩
  have e : stS A c (min ((0 : Nat) : Int) year) (ld I 59 15) = A 95 c.toNat := by
    unfold stS
    rw [show (min ((0 : Nat) : Int) year - A 94 c.toNat).toNat = 0 by omega]; rfl
  rw [e] at this
  exact this
end
