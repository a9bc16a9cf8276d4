section
variable {d L : Nat} {I I0 : mI} {R : mR} {S : mSh} {Q : Option Value → mM → Prop} {A : aS} {c day known kind half year subj code : Int}
theorem bt_bit : ∀ t : Fin 64, ∀ s : Fin 6, ¬ iAnd (iShr (t.val : Int) (s.val : Int)) 1 = 0 → 1 ≤ btS (t.val : Int) ∧ btS (t.val : Int) ≤ 6 := by decide +kernel
def GnC (A : aS) (W : Nat → Int) (c year : Int) (I : mI) (n : Nat) : Prop := ∀ s q : Nat, s < n → 1 ≤ q → q ≤ 6 → ld I 84 (7 * s + q) = gnL A (putE (putE (putE W 7 q) 9 s) 10 (A 97 (6 * c + s).toNat)) year s 60
theorem l174 {W : Nat → Int} {t : Nat} (hC : RC R S I A) (hWC : WfC A) (ht : t < 64) (hg : GnC A W c year I 6) (hQ : Q (some (.int (oI (brS A W c year t)))) (bd L I R S)) : ∀ (n s : Nat), s + n = 6 → h174_1 d L I R S Q t (btS t) (gsL A (putE W 7 (btS t)) c year t 60 s) s := by
  intro n
  induction n with
  | zero =>
    intro s hs
    obtain rfl : s = 6 := by omega
    refine e174_1 hC ⟨by unfold inR; omega, fun q => by exfalso; omega, fun _ => ?_⟩
    rw [← br_gs]; exact hQ
  | succ n ih =>
    intro s hs
    have ih := ih (s + 1) (by omega)
    have e1 : gsL A (putE W 7 (btS t)) c year t 60 (s + 1) = if iAnd (iShr (t : Int) s) 1 = 0 then gsL A (putE W 7 (btS t)) c year t 60 s else gsL A (putE W 7 (btS t)) c year t 60 s + gnL A (putE (putE (putE W 7 (btS t)) 9 s) 10 (A 97 (6 * c + s).toNat)) year s 60 := rfl
    rw [e1, show ((s + 1 : Nat) : Int) = (s : Int) + 1 by omega] at ih
    refine e174_1 hC ⟨by unfold inR; omega, fun _ => ⟨fun q => ?_, fun q => ?_⟩, fun q => by exfalso; omega⟩
    · rw [if_pos q] at ih; exact ih
    · rw [if_neg q] at ih
      have b := bt_bit ⟨t, ht⟩ ⟨s, by omega⟩ q
      dsimp only at b
      have hv := hg s (btS t).toNat (by omega) (by omega) (by omega)
      rw [show (((btS t).toNat : Nat) : Int) = btS t by omega] at hv
      refine ⟨by omega, ?_⟩
      rw [show ((s : Int) * 7 + btS t).toNat = 7 * s + (btS t).toNat by omega, hv]
      exact ih
theorem k174 {W : Nat → Int} {t : Nat} {K : Int32 → mM → Prop} (hC : RC R S I A) (hWC : WfC A) (ht : t < 64) (hg : GnC A W c year I 6) (hK : K (oI (brS A W c year t)) (bd L I R S)) : CallI (d + 1) 174 [.ref 77, .int (oI (t : Int))] (bd L I R S) K :=
  e174 (d := d) hC ⟨by omega, l174 hC hWC ht hg (rqI_of hK) 6 0 rfl⟩
theorem l172_6 {W : Nat → Int} {r : Nat} (hWC : WfC A) (hr : r < 40) (hK : ∀ I1, Fr [80] [] I0 I1 → RC R S I1 A → (∀ t : Nat, t < 64 → ld I1 80 (64 * r + t) = brS A W c year t) → (∀ j : Nat, j < 64 * r → ld I1 80 j = ld I0 80 j) → Q none (bd L I1 R S)) : ∀ (n t : Nat) (I : mI) (w1 w2 w3 w4 w5 w7 : Value), t + n = 64 → Fr [80] [] I0 I → RC R S I A → ld I 77 10 = r → GnC A W c year I 6 → (∀ u : Nat, u < t → ld I 80 (64 * r + u) = brS A W c year u) → (∀ j : Nat, j < 64 * r → ld I 80 j = ld I0 80 j) → h172_6 (d + 2) L I R S Q w1 w2 w3 w4 w5 t w7 := by
  intro n
  induction n with
  | zero =>
    intro t I w1 w2 w3 w4 w5 w7 ht hf hC h10 hg hu hj
    exact e172_6 (d := d + 1) hC ⟨by unfold inR; omega, fun q => by exfalso; omega, fun _ => hK I hf hC (fun u h => hu u (by omega)) hj⟩
  | succ n ih =>
    intro t I w1 w2 w3 w4 w5 w7 ht hf hC h10 hg hu hj
    have bi := brS_in hWC (e := W) (c := c) (year := year) (set := (t : Int))
    have rb : inR (brS A W c year t) := by unfold inR; omega
    refine e172_6 (d := d + 1) hC ⟨by unfold inR; omega, fun _ => ?_, fun q => by exfalso; omega⟩
    refine k174 (d := d) hC hWC (by omega) hg ⟨_, I, rfl, rfl, rb, hC, ?_⟩
    rw [h10]
    refine ⟨by omega, ?_⟩
    rw [show ((r : Int) * 64 + t).toNat = 64 * r + t by omega]
    have := ih (t + 1) (u2 I 80 (64 * r + t) (oI (brS A W c year t))) w1 w2 w3 w4 (mNl w5) w7 (by omega) (hf.wr rfl) (hC.scr rfl) (by rw [ld_o (by decide)]; exact h10) (fun s q a b e => by rw [ld_o (by decide)]; exact hg s q a b e) (fun u h => ?_) (fun j h => ?_)
    · rw [show ((t + 1 : Nat) : Int) = (t : Int) + 1 by omega] at this; exact this
    · rw [ld_w rb]
      split
      · rename_i e; rw [show u = t by omega]
      · exact hu u (by omega)
    · rw [ld_w rb, if_neg (by omega)]; exact hj j h
theorem l172_4 {W : Nat → Int} {r : Nat} (hWC : WfC A) (hW : WfA A) (hWE : WfE A) (hc : 0 ≤ c ∧ c < A 91 1) (hy : 0 ≤ year ∧ year ≤ 7) (hr : r < 40) (hK : ∀ I1, Fr [60, 80, 84] [] I0 I1 → RC R S I1 A → (∀ t : Nat, t < 64 → ld I1 80 (64 * r + t) = brS A W c year t) → (∀ j : Nat, j < 64 * r → ld I1 80 j = ld I0 80 j) → Q none (bd L I1 R S)) : ∀ (n s : Nat) (I : mI) (w3 w4 w5 w7 : Value), s + n = 6 → Fr [60, 84] [] I0 I → RC R S I A → ld I 77 10 = r → (∃ v a b, EnvC 60 I (putE (putE (putE W 9 a) 10 b) 7 v)) → GnC A W c year I s → h172_4 (d + 26) L I R S Q year c w3 w4 w5 s w7 := by
  have h40 := hW.2.1
  intro n
  induction n with
  | zero =>
    intro s I w3 w4 w5 w7 hs hf hC h10 hE hg
    obtain rfl : s = 6 := by omega
    refine e172_4 (d := d + 25) hC ⟨by unfold inR; omega, fun q => by exfalso; omega, fun _ => ?_⟩
    exact l172_6 (d := d + 24) (I0 := I) (W := W) (c := c) (year := year) hWC hr (fun I1 f1 hC1 h1 h2 => hK I1 ((hf.sub rfl rfl).trans (f1.sub rfl rfl)) hC1 h1 (fun j h => by rw [h2 j h, hf.ld rfl])) 64 0 I _ _ _ _ _ _ rfl (Fr.refl _ _ _) hC h10 hg (fun u h => by omega) (fun _ _ => rfl)
  | succ n ih =>
    intro s I w3 w4 w5 w7 hs hf hC h10 hE hg
    obtain ⟨v, a, b, hE⟩ := hE
    have we := hWE.1 (6 * c + s).toNat (by omega)
    have e97 : (c * 6 + (s : Int)).toNat = (6 * c + s).toNat := by omega
    have rs : inR (s : Int) := by unfold inR; omega
    have rm : inR (A 97 (6 * c + s).toNat) := by unfold inR; omega
    have hE2 : EnvC 60 (u2 (u2 I 60 9 (oI (s : Int))) 60 10 (oI (A 97 (6 * c + s).toNat))) (putE (putE (putE W 9 s) 10 (A 97 (6 * c + s).toNat)) 7 v) := ((hE.put (k := 9) (j := 9) (by decide) rs (by decide)).put (k := 10) (j := 10) (by decide) rm (by decide)).eq (fun i hi => by
      unfold putE
      repeat' split
      all_goals first | rfl | (exfalso; omega))
    refine e172_4 (d := d + 25) hC ⟨by unfold inR; omega, fun _ => ⟨by omega, ?_⟩, fun q => by exfalso; omega⟩
    rw [e97]
    refine k173 (d := d) (e := putE (putE W 9 s) 10 (A 97 (6 * c + s).toNat)) ((hC.scr rfl).scr rfl) hWC hy (by omega) ⟨v, hE2⟩ (fun I1 f1 hC1 hE1 hq1 hj1 => ⟨I1, rfl, hC1, ?_⟩)
    obtain ⟨v1, hE1⟩ := hE1
    rw [Int.toNat_natCast] at hq1 hj1
    have := ih (s + 1) I1 w3 w4 (mNl w5) w7 (by omega) (hf.trans ((((Fr.refl _ _ _).wr rfl).wr rfl).trans f1)) hC1 (by rw [f1.ld rfl, ld_o (by decide), ld_o (by decide)]; exact h10) ⟨v1, s, _, hE1⟩ (fun s' q a1 a2 a3 => ?_)
    · rw [show ((s + 1 : Nat) : Int) = (s : Int) + 1 by omega] at this; exact this
    · by_cases e : s' = s
      · subst e
        rw [hq1 q a2 a3, show putE (putE (putE W 7 (q : Int)) 9 (s' : Int)) 10 (A 97 (6 * c + (s' : Int)).toNat) = putE (putE (putE W 9 (s' : Int)) 10 (A 97 (6 * c + (s' : Int)).toNat)) 7 (q : Int) by rw [putE_comm (a := 7) (b := 9) (by decide), putE_comm (a := 7) (b := 10) (by decide)]]
      · rw [hj1 _ (by omega), ld_o (by decide), ld_o (by decide)]; exact hg s' q (by omega) a2 a3
theorem l172_1 {h : Nat → Int} {qs : Int} {r : Nat} (hWC : WfC A) (hW : WfA A) (hWE : WfE A) (hc : 0 ≤ c ∧ c < A 91 1) (hy : 0 ≤ year ∧ year ≤ 7) (hr : r < 40) (h7 : h 7 = 0) (h9 : h 9 = 0) (h10' : h 10 = 0) (rq : inR qs) (hK : ∀ I1, Fr [60, 79, 80, 84] [] I0 I1 → RC R S I1 A → ld I1 79 r = myL A h c year 6 → (∀ j : Nat, ¬ j = r → ld I1 79 j = ld I0 79 j) → (∀ t : Nat, t < 64 → ld I1 80 (64 * r + t) = brS A (putE h 8 qs) c year t) → (∀ j : Nat, j < 64 * r → ld I1 80 j = ld I0 80 j) → Q none (bd L I1 R S)) : ∀ (n s : Nat) (I : mI) (w3 w7 : Value), s + n = 6 → Fr [60] [] I0 I → RC R S I A → ld I 77 10 = r → EnvC 60 I h → h172_1 (d + 26) L I R S Q year c w3 qs (myL A h c year s) s w7 := by
  have h40 := hW.2.1
  have my : ∀ s : Nat, s ≤ 6 → 0 ≤ myL A h c year s ∧ myL A h c year s < 2 ^ s := by
    intro s
    induction s with
    | zero => intro _; show (0 : Int) ≤ 0 ∧ (0 : Int) < 1; omega
    | succ s ihs =>
      intro hs
      have ih := ihs (by omega)
      have hp : (2 : Int) ^ (s + 1) = 2 * 2 ^ s := by rw [Int.pow_succ]; omega
      have h9 : ((2 ^ s : Nat) : Int) = (2 : Int) ^ s := by simp
      have em : myL A h c year (s + 1) = if ¬ A 97 (6 * c + s).toNat = -1 ∧ wpS A h year s (A 97 (6 * c + s).toNat) = true then iOr (myL A h c year s) (iShl 1 s) else myL A h c year s := rfl
      rw [em]
      split
      · have h1 := or_pow (m := (myL A h c year s).toNat) (s := s) (by omega) (by omega)
        rw [show (((myL A h c year s).toNat : Nat) : Int) = myL A h c year s by omega] at h1
        rw [h1]
        have h2 : (myL A h c year s).toNat ||| 2 ^ s < 2 ^ (s + 1) := Nat.or_lt_two_pow (by rw [Nat.pow_succ]; omega) (by rw [Nat.pow_succ]; have : 1 ≤ 2 ^ s := Nat.one_le_two_pow; omega)
        have h3 : ((2 ^ (s + 1) : Nat) : Int) = (2 : Int) ^ (s + 1) := by simp
        omega
      · omega
  intro n
  induction n with
  | zero =>
    intro s I w3 w7 hs hf hC h10 hE
    obtain rfl : s = 6 := by omega
    have m6 := my 6 (Nat.le_refl _)
    have rm : inR (myL A h c year 6) := by have : (2 : Int) ^ 6 = 64 := rfl; unfold inR; omega
    refine e172_1 (d := d) hC ⟨by unfold inR; omega, fun q => by exfalso; omega, fun _ => ?_⟩
    rw [h10, Int.toNat_natCast]
    refine ⟨by omega, ?_⟩
    have fA : Fr [60, 79] [] I0 (u2 (u2 I 79 r (oI (myL A h c year 6))) 60 8 (oI qs)) := ((hf.sub rfl rfl).wr rfl).wr rfl
    have hE1 : EnvC 60 (u2 (u2 I 79 r (oI (myL A h c year 6))) 60 8 (oI qs)) (putE (putE (putE (putE h 8 qs) 9 0) 10 0) 7 0) := ((hE.fr (frA I 79 r _) (fun _ => rfl)).put (k := 8) (j := 8) (by decide) rq (by decide)).eq (fun i hi => by
      unfold putE
      repeat' split
      all_goals first | rfl | (exfalso; omega) | (subst_vars; first | exact h7 | exact h9 | exact h10'))
    refine l172_4 (d := d) (I0 := u2 (u2 I 79 r (oI (myL A h c year 6))) 60 8 (oI qs)) (W := putE h 8 qs) hWC hW hWE hc hy hr (fun I1 f1 hC1 h1 h2 => hK I1 ((fA.sub rfl rfl).trans (f1.sub rfl rfl)) hC1 ?_ (fun j hj => ?_) h1 (fun j hj => ?_)) 6 0 _ _ _ _ _ rfl (Fr.refl _ _ _) ((hC.scr rfl).scr rfl) (by rw [ld_o (by decide), ld_o (by decide)]; exact h10) ⟨0, 0, 0, hE1⟩ (fun s q a b e => by omega)
    · rw [f1.ld rfl, ld_o (by decide), ld_w rm, if_pos rfl]
    · rw [f1.ld rfl, ld_o (by decide), ld_w rm, if_neg hj, hf.ld rfl]
    · rw [h2 j hj, ld_o (by decide), ld_o (by decide), hf.ld rfl]
  | succ n ih =>
    intro s I w3 w7 hs hf hC h10 hE
    have we := hWE.1 (6 * c + s).toNat (by omega)
    have e97 : (c * 6 + (s : Int)).toNat = (6 * c + s).toNat := by omega
    have em : myL A h c year (s + 1) = if ¬ A 97 (6 * c + s).toNat = -1 ∧ wpS A h year s (A 97 (6 * c + s).toNat) = true then iOr (myL A h c year s) (iShl 1 s) else myL A h c year s := rfl
    have ih := fun I => ih (s + 1) I
    rw [em, show ((s + 1 : Nat) : Int) = (s : Int) + 1 by omega] at ih
    refine e172_1 (d := d) hC ?_
    rw [e97]
    refine ⟨by unfold inR; omega, fun _ => ⟨by omega, fun q => ?_, fun q => ⟨hWC, by omega, by omega, hy, h, hE, h9, h10', fun q2 I1 f1 e1 => ?_, fun q2 I1 f1 e1 => ?_⟩⟩, fun q => by exfalso; omega⟩
    · rw [if_neg (fun x => x.1 q)] at ih
      exact ih I _ _ (by omega) hf hC h10 hE
    · rw [if_pos ⟨q, q2⟩] at ih
      exact ih I1 _ _ (by omega) (hf.trans f1) (hC.fr f1 rfl) (by rw [f1.ld rfl]; exact h10) e1
    · rw [if_neg (fun x => q2 x.2)] at ih
      exact ih I1 _ _ (by omega) (hf.trans f1) (hC.fr f1 rfl) (by rw [f1.ld rfl]; exact h10) e1
theorem k172 {r : Nat} {K : mM → Prop} (hC : RC R S I A) (hW : WfA A) (hP : WfP A) (hWC : WfC A) (hWE : WfE A) (hr : r < 40) (h10 : ld I 77 10 = r) (h78 : ld I 78 r = c) (hc : 0 ≤ c ∧ c < A 91 1) (hy : 0 ≤ year ∧ year ≤ 7) (hg : RgP A I c (100 * year) (100 * year + 99) (A 91 0)) (hK : ∀ I1, Fr [60, 61, 69, 79, 80, 84] [] I I1 → RC R S I1 A → ld I1 79 r = mayS A c year → (∀ j : Nat, ¬ j = r → ld I1 79 j = ld I 79 j) → (∀ t : Nat, t < 64 → ld I1 80 (64 * r + t) = brS A (woE A c year) c year t) → (∀ j : Nat, j < 64 * r → ld I1 80 j = ld I 80 j) → K (bd L I1 R S)) : CallV (d + 28) 172 [.ref 77, .int (oI year)] (bd L I R S) K := by
  have h00 := hW.1
  have si := stS_in hP hc (year := year) (known := A 91 0)
  refine e172 (d := d) hC ?_
  rw [h10, Int.toNat_natCast, h78, hg.2.1.2.2]
  refine ⟨by omega, hW, hP, hWC, hc, hy, by omega, fun I8 f8 st8 => ⟨c, year, A 91 0, stS A c year (A 91 0), hg.fr f8 rfl rfl rfl rfl (fun _ => rfl) (fun _ => ⟨rfl, rfl, rfl, rfl, rfl⟩), hc, hy, by rw [st8 year.toNat (by omega), show ((year.toNat : Nat) : Int) = year by omega], fun I19 f19 => ?_⟩⟩
  have k15 : ld I19 59 15 = A 91 0 := by rw [f19.ld rfl, f8.ld rfl]; exact hg.2.1.2.2
  rw [k15]
  refine ⟨by unfold inR; omega, by omega, fun I23 f23 e23 => ?_⟩
  have fA : Fr [60, 61, 69, 79, 80, 84] [] I I23 := (f8.sub rfl rfl).trans ((f19.sub rfl rfl).trans (f23.sub rfl rfl))
  have yi := yhS_in hWC (c := c) (year := year) (code := year) (known := A 91 0) (std := stS A c year (A 91 0)) 200 (Nat.le_refl _)
  have e9 : yhS A c year year (stS A c year (A 91 0)) (A 91 0) 200 = yrS A c year year (stS A c year (A 91 0)) (A 91 0) := by unfold yhS; rw [if_neg (by decide), Int.add_zero]; rfl
  rw [e9] at yi
  refine l172_1 (d := d + 2) (I0 := I23) (h := tdE A c year) (r := r) hWC hW hWE hc hy hr rfl rfl rfl (by unfold inR; omega) (fun I1 f1 hC1 q1 q2 q3 q4 => rqV_of (hK I1 (fA.trans (f1.sub rfl rfl)) hC1 q1 (fun j hj => ?_) q3 (fun j hj => ?_))) 6 0 I23 _ _ rfl (Fr.refl _ _ _) (((hC.fr f8 rfl).fr f19 rfl).fr f23 rfl) (by rw [f23.ld rfl, f19.ld rfl, f8.ld rfl]; exact h10) e23
  · rw [q2 j hj, f23.ld rfl, f19.ld rfl, f8.ld rfl]
  · rw [q4 j hj, f23.ld rfl, f19.ld rfl, f8.ld rfl]
end
def h176_1 (d L : Nat) (I : Nat → Nat → Int32) (R : Nat → Nat → Option Nat) (S : List (Nat × Nat)) (Q : Option Value → mM → Prop) (x1 : Int) (w2 : Value) (x3 : Int) (x4 : Int) (x5 : Int) (w6 : Value) : Prop := Wp d (gb 176 1) [.ref 77, .int (oI x1), w2, .int (oI x3), .int (oI x4), .int (oI x5), w6] [] (bd L I R S) Q
set_option maxRecDepth 4000 in
theorem e176_1 {d L : Nat} {I : Nat → Nat → Int32} {R : Nat → Nat → Option Nat} {S : List (Nat × Nat)} {Q : Option Value → mM → Prop} {A : aS} (hC : RC R S I A) {x1 : Int} {w2 : Value} {x3 : Int} {x4 : Int} {x5 : Int} {w6 : Value} (hE : inR x5 ∧ (((ld I 77 14 < x5) → Q none (bd L I R S)) ∧ (¬ (ld I 77 14 < x5) → (0 ≤ (((x1 + 1) * 201) + x5) - x4 ∧ (((x1 + 1) * 201) + x5) - x4 < 8241) ∧ ((0 ≤ (x1 * 201) + x5 ∧ (x1 * 201) + x5 < 8241) ∧ (inR (x3 + (ld I 82 ((((x1 + 1) * 201) + x5) - x4).toNat)) ∧ (((ld I 82 ((x1 * 201) + x5).toNat < x3 + (ld I 82 ((((x1 + 1) * 201) + x5) - x4).toNat)) → h176_1 d L (u2 I 82 ((x1 * 201) + x5).toNat (oI (x3 + (ld I 82 ((((x1 + 1) * 201) + x5) - x4).toNat)))) R S Q x1 w2 x3 x4 (x5 + 1) (.int (oI (x3 + (ld I 82 ((((x1 + 1) * 201) + x5) - x4).toNat))))) ∧ (¬ (ld I 82 ((x1 * 201) + x5).toNat < x3 + (ld I 82 ((((x1 + 1) * 201) + x5) - x4).toNat)) → h176_1 d L I R S Q x1 w2 x3 x4 (x5 + 1) (.int (oI (x3 + (ld I 82 ((((x1 + 1) * 201) + x5) - x4).toNat))))))))))) : h176_1 d L I R S Q x1 w2 x3 x4 x5 w6 := by
  unfold h176_1
  refine xG gb176.2.1 ?_
  refine s4 (x := x5) rfl ?_
  refine s6 (p := 77) rfl ?_
  refine s50 (v := ld I 77 14) sh77 (by decide) (by decide) (oI_ld _ _ _) ?_
  obtain ⟨g1, hE⟩ := hE
  refine s65 g1 (ld_inR _ _ _) (fun c2 => ?_) (fun c2 => ?_)
  · replace hE := hE.1 c2
    refine xG gb176.2.2.2 ?_
    refine s83 ?_
    exact hE
  · replace hE := hE.2 c2
    refine s4 (x := x3) rfl ?_
    refine s6 (p := 77) rfl ?_
    refine s51 sh77 (by decide) (by decide) rf77_7 ?_
    refine s4 (x := x1) rfl ?_
    refine s0 ?_
    refine s16 ?_
    refine s0 ?_
    refine s18 ?_
    refine s4 (x := x5) rfl ?_
    refine s16 ?_
    refine s4 (x := x4) rfl ?_
    refine s17 ?_
    obtain ⟨g3, hE⟩ := hE
    refine s40 (v := ld I 82 ((((x1 + 1) * 201) + x5) - x4).toNat) sh82 g3 rfl (oI_ld _ _ _) ?_
    refine s16 ?_
    refine s7 (ls' := [.ref 77, .int (oI x1), w2, .int (oI x3), .int (oI x4), .int (oI x5), .int (oI (x3 + (ld I 82 ((((x1 + 1) * 201) + x5) - x4).toNat)))]) (Nat.le_of_ble_eq_true rfl) rfl ?_
    refine s4 (x := x3 + (ld I 82 ((((x1 + 1) * 201) + x5) - x4).toNat)) rfl ?_
    refine s6 (p := 77) rfl ?_
    refine s51 sh77 (by decide) (by decide) rf77_7 ?_
    refine s4 (x := x1) rfl ?_
    refine s0 ?_
    refine s18 ?_
    refine s4 (x := x5) rfl ?_
    refine s16 ?_
    obtain ⟨g4, hE⟩ := hE
    refine s40 (v := ld I 82 ((x1 * 201) + x5).toNat) sh82 g4 rfl (oI_ld _ _ _) ?_
    obtain ⟨g5, hE⟩ := hE
    refine s66 g5 (ld_inR _ _ _) (fun c6 => ?_) (fun c6 => ?_)
    · replace hE := hE.1 c6
      refine s6 (p := 77) rfl ?_
      refine s51 sh77 (by decide) (by decide) rf77_7 ?_
      refine s4 (x := x1) rfl ?_
      refine s0 ?_
      refine s18 ?_
      refine s4 (x := x5) rfl ?_
      refine s16 ?_
      refine s4 (x := x3 + (ld I 82 ((((x1 + 1) * 201) + x5) - x4).toNat)) rfl ?_
      refine s44 sh82 (by decide) g4 rfl ?_
      refine s79 ?_
      refine xG gb176.2.2.1 ?_
      refine s10 (x := x5) (ls' := [.ref 77, .int (oI x1), w2, .int (oI x3), .int (oI x4), .int (oI (x5 + 1)), .int (oI (x3 + (ld I 82 ((((x1 + 1) * 201) + x5) - x4).toNat)))]) rfl rfl ?_
      refine s60 ?_
      exact hE
    · replace hE := hE.2 c6
      refine xG gb176.2.2.1 ?_
      refine s10 (x := x5) (ls' := [.ref 77, .int (oI x1), w2, .int (oI x3), .int (oI x4), .int (oI (x5 + 1)), .int (oI (x3 + (ld I 82 ((((x1 + 1) * 201) + x5) - x4).toNat)))]) rfl rfl ?_
      refine s60 ?_
      exact hE
set_option maxRecDepth 4000 in
theorem e176 {d L : Nat} {I : Nat → Nat → Int32} {R : Nat → Nat → Option Nat} {S : List (Nat × Nat)} {K : mM → Prop} {A : aS} (hC : RC R S I A) {x1 : Int} {x2 : Int} (hE : (0 ≤ (x1 * 64) + x2 ∧ (x1 * 64) + x2 < 2560) ∧ ((0 ≤ x2 ∧ x2 < 64) ∧ (h176_1 d L I R S (rqV K) x1 (.int (oI x2)) (ld I 80 ((x1 * 64) + x2).toNat) (ld I 81 x2.toNat) (ld I 81 x2.toNat) mUn))) : CallV d 176 [.ref 77, .int (oI x1), .int (oI x2)] (bd L I R S) K := by
  refine cV_of (ls := [.ref 77, .int (oI x1), .int (oI x2), mUn, mUn, mUn, mUn]) rfl ?_
  refine xG gb176.1 ?_
  refine s6 (p := 77) rfl ?_
  refine s51 sh77 (by decide) (by decide) rf77_5 ?_
  refine s4 (x := x1) rfl ?_
  refine s0 ?_
  refine s18 ?_
  refine s4 (x := x2) rfl ?_
  refine s16 ?_
  obtain ⟨g1, hE⟩ := hE
  refine s40 (v := ld I 80 ((x1 * 64) + x2).toNat) sh80 g1 rfl (oI_ld _ _ _) ?_
  refine s7 (ls' := [.ref 77, .int (oI x1), .int (oI x2), .int (oI (ld I 80 ((x1 * 64) + x2).toNat)), mUn, mUn, mUn]) (Nat.le_of_ble_eq_true rfl) rfl ?_
  refine s6 (p := 77) rfl ?_
  refine s51 sh77 (by decide) (by decide) rf77_6 ?_
  refine s4 (x := x2) rfl ?_
  obtain ⟨g2, hE⟩ := hE
  refine s40 (v := ld I 81 x2.toNat) sh81 g2 rfl (oI_ld _ _ _) ?_
  refine s7 (ls' := [.ref 77, .int (oI x1), .int (oI x2), .int (oI (ld I 80 ((x1 * 64) + x2).toNat)), .int (oI (ld I 81 x2.toNat)), mUn, mUn]) (Nat.le_of_ble_eq_true rfl) rfl ?_
  refine s4 (x := ld I 81 x2.toNat) rfl ?_
  refine s7 (ls' := [.ref 77, .int (oI x1), .int (oI x2), .int (oI (ld I 80 ((x1 * 64) + x2).toNat)), .int (oI (ld I 81 x2.toNat)), .int (oI (ld I 81 x2.toNat)), mUn]) (Nat.le_of_ble_eq_true rfl) rfl ?_
  refine s79 ?_
  exact hE
def h175_1 (d L : Nat) (I : Nat → Nat → Int32) (R : Nat → Nat → Option Nat) (S : List (Nat × Nat)) (Q : Option Value → mM → Prop) (x1 : Int) (w2 : Value) : Prop := Wp d (gb 175 1) [.ref 77, .int (oI x1), w2] [] (bd L I R S) Q
def h175_3 (d L : Nat) (I : Nat → Nat → Int32) (R : Nat → Nat → Option Nat) (S : List (Nat × Nat)) (Q : Option Value → mM → Prop) (x1 : Int) (w2 : Value) : Prop := Wp d (gb 175 3) [.ref 77, .int (oI x1), w2] [] (bd L I R S) Q
def h175_4 (d L : Nat) (I : Nat → Nat → Int32) (R : Nat → Nat → Option Nat) (S : List (Nat × Nat)) (Q : Option Value → mM → Prop) (x1 : Int) (x2 : Int) : Prop := Wp d (gb 175 4) [.ref 77, .int (oI x1), .int (oI x2)] [] (bd L I R S) Q
def h175_6 (d L : Nat) (I : Nat → Nat → Int32) (R : Nat → Nat → Option Nat) (S : List (Nat × Nat)) (Q : Option Value → mM → Prop) (x1 : Int) (x2 : Int) : Prop := Wp d (gb 175 6) [.ref 77, .int (oI x1), .int (oI x2)] [] (bd L I R S) Q
set_option maxRecDepth 4000 in
theorem e175_1 {d L : Nat} {I : Nat → Nat → Int32} {R : Nat → Nat → Option Nat} {S : List (Nat × Nat)} {Q : Option Value → mM → Prop} {A : aS} (hC : RC R S I A) {x1 : Int} {w2 : Value} (hE : inR x1 ∧ (((ld I 77 14 < x1) → h175_3 d L I R S Q (ld I 77 10 - 1) w2) ∧ (¬ (ld I 77 14 < x1) → (0 ≤ ((ld I 77 10) * 201) + x1 ∧ ((ld I 77 10) * 201) + x1 < 8241) ∧ (h175_1 d L (u2 I 82 (((ld I 77 10) * 201) + x1).toNat (oI 0)) R S Q (x1 + 1) w2)))) : h175_1 d L I R S Q x1 w2 := by
  unfold h175_1
  refine xG gb175.2.1 ?_
  refine s4 (x := x1) rfl ?_
  refine s6 (p := 77) rfl ?_
  refine s50 (v := ld I 77 14) sh77 (by decide) (by decide) (oI_ld _ _ _) ?_
  obtain ⟨g1, hE⟩ := hE
  refine s65 g1 (ld_inR _ _ _) (fun c2 => ?_) (fun c2 => ?_)
  · replace hE := hE.1 c2
    refine xG gb175.2.2.1 ?_
    refine s6 (p := 77) rfl ?_
    refine s50 (v := ld I 77 10) sh77 (by decide) (by decide) (oI_ld _ _ _) ?_
    refine s0 ?_
    refine s17 ?_
    refine s7 (ls' := [.ref 77, .int (oI (ld I 77 10 - 1)), w2]) (Nat.le_of_ble_eq_true rfl) rfl ?_
    refine s79 ?_
    exact hE
  · replace hE := hE.2 c2
    refine s6 (p := 77) rfl ?_
    refine s51 sh77 (by decide) (by decide) rf77_7 ?_
    refine s6 (p := 77) rfl ?_
    refine s50 (v := ld I 77 10) sh77 (by decide) (by decide) (oI_ld _ _ _) ?_
    refine s0 ?_
    refine s18 ?_
    refine s4 (x := x1) rfl ?_
    refine s16 ?_
    refine s0 ?_
    obtain ⟨g3, hE⟩ := hE
    refine s44 sh82 (by decide) g3 rfl ?_
    refine s10 (x := x1) (ls' := [.ref 77, .int (oI (x1 + 1)), w2]) rfl rfl ?_
    refine s60 ?_
    exact hE
set_option maxRecDepth 4000 in
theorem e175_3 {d L : Nat} {I : Nat → Nat → Int32} {R : Nat → Nat → Option Nat} {S : List (Nat × Nat)} {Q : Option Value → mM → Prop} {A : aS} (hC : RC R S I A) {x1 : Int} {w2 : Value} (hE : inR x1 ∧ (((x1 < 0) → Q none (bd L I R S)) ∧ (¬ (x1 < 0) → h175_4 d L I R S Q x1 0))) : h175_3 d L I R S Q x1 w2 := by
  unfold h175_3
  refine xG gb175.2.2.2.1 ?_
  refine s4 (x := x1) rfl ?_
  obtain ⟨g1, hE⟩ := hE
  refine s69 g1 (fun c2 => ?_) (fun c2 => ?_)
  · replace hE := hE.1 c2
    refine xG gb175.2.2.2.2.2.2.2.2.2 ?_
    refine s83 ?_
    exact hE
  · replace hE := hE.2 c2
    refine s0 ?_
    refine s7 (ls' := [.ref 77, .int (oI x1), .int (oI 0)]) (Nat.le_of_ble_eq_true rfl) rfl ?_
    refine s79 ?_
    exact hE
set_option maxRecDepth 4000 in
theorem e175_4 {d L : Nat} {I : Nat → Nat → Int32} {R : Nat → Nat → Option Nat} {S : List (Nat × Nat)} {Q : Option Value → mM → Prop} {A : aS} (hC : RC R S I A) {x1 : Int} {x2 : Int} (hE : inR x2 ∧ (((ld I 77 14 < x2) → h175_6 d L I R S Q x1 1) ∧ (¬ (ld I 77 14 < x2) → (0 ≤ ((x1 + 1) * 201) + x2 ∧ ((x1 + 1) * 201) + x2 < 8241) ∧ ((0 ≤ (x1 * 201) + x2 ∧ (x1 * 201) + x2 < 8241) ∧ (h175_4 d L (u2 I 82 ((x1 * 201) + x2).toNat (oI (ld I 82 (((x1 + 1) * 201) + x2).toNat))) R S Q x1 (x2 + 1)))))) : h175_4 d L I R S Q x1 x2 := by
  unfold h175_4
  refine xG gb175.2.2.2.2.1 ?_
  refine s4 (x := x2) rfl ?_
  refine s6 (p := 77) rfl ?_
  refine s50 (v := ld I 77 14) sh77 (by decide) (by decide) (oI_ld _ _ _) ?_
  obtain ⟨g1, hE⟩ := hE
  refine s65 g1 (ld_inR _ _ _) (fun c2 => ?_) (fun c2 => ?_)
  · replace hE := hE.1 c2
    refine xG gb175.2.2.2.2.2.1 ?_
    refine s0 ?_
    refine s7 (ls' := [.ref 77, .int (oI x1), .int (oI 1)]) (Nat.le_of_ble_eq_true rfl) rfl ?_
    refine s79 ?_
    exact hE
  · replace hE := hE.2 c2
    refine s6 (p := 77) rfl ?_
    refine s51 sh77 (by decide) (by decide) rf77_7 ?_
    refine s4 (x := x1) rfl ?_
    refine s0 ?_
    refine s18 ?_
    refine s4 (x := x2) rfl ?_
    refine s16 ?_
    refine s6 (p := 77) rfl ?_
    refine s51 sh77 (by decide) (by decide) rf77_7 ?_
    refine s4 (x := x1) rfl ?_
    refine s0 ?_
    refine s16 ?_
    refine s0 ?_
    refine s18 ?_
    refine s4 (x := x2) rfl ?_
    refine s16 ?_
    obtain ⟨g3, hE⟩ := hE
    refine s40 (v := ld I 82 (((x1 + 1) * 201) + x2).toNat) sh82 g3 rfl (oI_ld _ _ _) ?_
    obtain ⟨g4, hE⟩ := hE
    refine s44 sh82 (by decide) g4 rfl ?_
    refine s10 (x := x2) (ls' := [.ref 77, .int (oI x1), .int (oI (x2 + 1))]) rfl rfl ?_
    refine s60 ?_
    exact hE
set_option maxRecDepth 4000 in
theorem e175_6 {d L : Nat} {I : Nat → Nat → Int32} {R : Nat → Nat → Option Nat} {S : List (Nat × Nat)} {Q : Option Value → mM → Prop} {A : aS} (hC : RC R S I A) {x1 : Int} {x2 : Int} (hE : inR x2 ∧ (((x2 < 64) → (0 ≤ x1 ∧ x1 < 40) ∧ (((iAnd x2 (iXor (ld I 79 x1.toNat) (-1)) = 0) → CallV d 176 [.ref 77, .int (oI x1), .int (oI x2)] (bd L I R S) (fun s => ∃ (I5 : mI), s = bd L I5 R S ∧ RC R S I5 A ∧ (h175_6 (d + 1) L I5 R S Q x1 (x2 + 1)))) ∧ (¬ (iAnd x2 (iXor (ld I 79 x1.toNat) (-1)) = 0) → h175_6 (d + 1) L I R S Q x1 (x2 + 1)))) ∧ (¬ (x2 < 64) → h175_3 (d + 1) L I R S Q (x1 + (-1)) (.int (oI x2))))) : h175_6 (d + 1) L I R S Q x1 x2 := by
  unfold h175_6
  refine xG gb175.2.2.2.2.2.2.1 ?_
  refine s4 (x := x2) rfl ?_
  refine s0 ?_
  obtain ⟨g1, hE⟩ := hE
  refine s64 g1 (inRd rfl) (fun c2 => ?_) (fun c2 => ?_)
  · replace hE := hE.1 c2
    refine s4 (x := x2) rfl ?_
    refine s6 (p := 77) rfl ?_
    refine s51 sh77 (by decide) (by decide) rf77_4 ?_
    refine s4 (x := x1) rfl ?_
    obtain ⟨g3, hE⟩ := hE
    refine s40 (v := ld I 79 x1.toNat) sh79 g3 rfl (oI_ld _ _ _) ?_
    refine s0 ?_
    refine s27 ?_
    refine s25 ?_
    refine s68 (inR_toInt _) (fun c4 => ?_) (fun c4 => ?_)
    · replace hE := hE.1 c4
      refine s6 (p := 77) rfl ?_
      refine s4 (x := x1) rfl ?_
      refine s4 (x := x2) rfl ?_
      refine sV rc176 rfl (Nat.le_of_ble_eq_true rfl) ?_
      refine CallV.mono hE ?_
      rintro _ ⟨I5, rfl, q6, hE⟩
      refine s79 ?_
      refine xG gb175.2.2.2.2.2.2.2.1 ?_
      refine s10 (x := x2) (ls' := [.ref 77, .int (oI x1), .int (oI (x2 + 1))]) rfl rfl ?_
      refine s60 ?_
      exact hE
    · replace hE := hE.2 c4
      refine xG gb175.2.2.2.2.2.2.2.1 ?_
      refine s10 (x := x2) (ls' := [.ref 77, .int (oI x1), .int (oI (x2 + 1))]) rfl rfl ?_
      refine s60 ?_
      exact hE
  · replace hE := hE.2 c2
    refine xG gb175.2.2.2.2.2.2.2.2.1 ?_
    refine s10 (x := x1) (ls' := [.ref 77, .int (oI (x1 + (-1))), .int (oI x2)]) rfl rfl ?_
    refine s60 ?_
    exact hE
set_option maxRecDepth 4000 in
theorem e175 {d L : Nat} {I : Nat → Nat → Int32} {R : Nat → Nat → Option Nat} {S : List (Nat × Nat)} {K : mM → Prop} {A : aS} (hC : RC R S I A)  (hE : h175_1 d L I R S (rqV K) 0 mUn) : CallV d 175 [.ref 77] (bd L I R S) K := by
  refine cV_of (ls := [.ref 77, mUn, mUn]) rfl ?_
  refine xG gb175.1 ?_
  refine s0 ?_
  refine s7 (ls' := [.ref 77, .int (oI 0), mUn]) (Nat.le_of_ble_eq_true rfl) rfl ?_
  refine s79 ?_
  exact hE
def h178_1 (d L : Nat) (I : Nat → Nat → Int32) (R : Nat → Nat → Option Nat) (S : List (Nat × Nat)) (Q : Option Value → mM → Prop) (x1 : Int) (x2 : Int) (x3 : Int) (w4 : Value) : Prop := Wp d (gb 178 1) [.ref 77, .int (oI x1), .int (oI x2), .int (oI x3), w4] [] (bd L I R S) Q
set_option maxRecDepth 4000 in
theorem e178_1 {d L : Nat} {I : Nat → Nat → Int32} {R : Nat → Nat → Option Nat} {S : List (Nat × Nat)} {Q : Option Value → mM → Prop} {A : aS} (hC : RC R S I A) {x1 : Int} {x2 : Int} {x3 : Int} {w4 : Value} (hE : inR x3 ∧ (((x3 < 64) → (0 ≤ x1 ∧ x1 < 40) ∧ (((iAnd x3 (iXor (ld I 79 x1.toNat) (-1)) = 0) → (0 ≤ x3 ∧ x3 < 64) ∧ (inR x2 ∧ (((x2 < ld I 81 x3.toNat) → h178_1 d L I R S Q x1 x2 (x3 + 1) (.int (oI 0))) ∧ (¬ (x2 < ld I 81 x3.toNat) → (0 ≤ (x1 * 64) + x3 ∧ (x1 * 64) + x3 < 2560) ∧ ((0 ≤ (((x1 + 1) * 201) + x2) - (ld I 81 x3.toNat) ∧ (((x1 + 1) * 201) + x2) - (ld I 81 x3.toNat) < 8241) ∧ ((0 ≤ (x1 * 201) + x2 ∧ (x1 * 201) + x2 < 8241) ∧ (inR ((ld I 80 ((x1 * 64) + x3).toNat) + (ld I 82 ((((x1 + 1) * 201) + x2) - (ld I 81 x3.toNat)).toNat)) ∧ ((((ld I 80 ((x1 * 64) + x3).toNat) + (ld I 82 ((((x1 + 1) * 201) + x2) - (ld I 81 x3.toNat)).toNat) = ld I 82 ((x1 * 201) + x2).toNat) → Q (some (.int (oI x3))) (bd L I R S)) ∧ (¬ ((ld I 80 ((x1 * 64) + x3).toNat) + (ld I 82 ((((x1 + 1) * 201) + x2) - (ld I 81 x3.toNat)).toNat) = ld I 82 ((x1 * 201) + x2).toNat) → h178_1 d L I R S Q x1 x2 (x3 + 1) (.int (oI 1))))))))))) ∧ (¬ (iAnd x3 (iXor (ld I 79 x1.toNat) (-1)) = 0) → h178_1 d L I R S Q x1 x2 (x3 + 1) (.int (oI 0))))) ∧ (¬ (x3 < 64) → Q (some (.int (oI 0))) (bd L I R S)))) : h178_1 d L I R S Q x1 x2 x3 w4 := by
  unfold h178_1
  refine xG gb178.2.1 ?_
  refine s4 (x := x3) rfl ?_
  refine s0 ?_
  obtain ⟨g1, hE⟩ := hE
  refine s64 g1 (inRd rfl) (fun c2 => ?_) (fun c2 => ?_)
  · replace hE := hE.1 c2
    refine s4 (x := x3) rfl ?_
    refine s6 (p := 77) rfl ?_
    refine s51 sh77 (by decide) (by decide) rf77_4 ?_
    refine s4 (x := x1) rfl ?_
    obtain ⟨g3, hE⟩ := hE
    refine s40 (v := ld I 79 x1.toNat) sh79 g3 rfl (oI_ld _ _ _) ?_
    refine s0 ?_
    refine s27 ?_
    refine s25 ?_
    refine s68 (inR_toInt _) (fun c4 => ?_) (fun c4 => ?_)
    · replace hE := hE.1 c4
      refine s6 (p := 77) rfl ?_
      refine s51 sh77 (by decide) (by decide) rf77_6 ?_
      refine s4 (x := x3) rfl ?_
      obtain ⟨g5, hE⟩ := hE
      refine s40 (v := ld I 81 x3.toNat) sh81 g5 rfl (oI_ld _ _ _) ?_
      refine s4 (x := x2) rfl ?_
      obtain ⟨g6, hE⟩ := hE
      refine s65 (ld_inR _ _ _) g6 (fun c7 => ?_) (fun c7 => ?_)
      · replace hE := hE.1 c7
        refine xG gb178.2.2.1 ?_
        refine s0 ?_
        refine s79 ?_
        refine xG gb178.2.2.2.1 ?_
        refine s7 (ls' := [.ref 77, .int (oI x1), .int (oI x2), .int (oI x3), .int (oI 0)]) (Nat.le_of_ble_eq_true rfl) rfl ?_
        refine s4 (x := 0) rfl ?_
        refine s67 (inRd rfl) (fun _ => ?_) (fun c8 => absurd (by decide) c8)
        refine xG gb178.2.2.2.2.1 ?_
        refine s10 (x := x3) (ls' := [.ref 77, .int (oI x1), .int (oI x2), .int (oI (x3 + 1)), .int (oI 0)]) rfl rfl ?_
        refine s60 ?_
        exact hE
      · replace hE := hE.2 c7
        refine s0 ?_
        refine s60 ?_
        refine xG gb178.2.2.2.1 ?_
        refine s7 (ls' := [.ref 77, .int (oI x1), .int (oI x2), .int (oI x3), .int (oI 1)]) (Nat.le_of_ble_eq_true rfl) rfl ?_
        refine s4 (x := 1) rfl ?_
        refine s67 (inRd rfl) (fun c9 => absurd c9 (by decide)) (fun _ => ?_)
        refine s6 (p := 77) rfl ?_
        refine s51 sh77 (by decide) (by decide) rf77_5 ?_
        refine s4 (x := x1) rfl ?_
        refine s0 ?_
        refine s18 ?_
        refine s4 (x := x3) rfl ?_
        refine s16 ?_
        obtain ⟨g10, hE⟩ := hE
        refine s40 (v := ld I 80 ((x1 * 64) + x3).toNat) sh80 g10 rfl (oI_ld _ _ _) ?_
        refine s6 (p := 77) rfl ?_
        refine s51 sh77 (by decide) (by decide) rf77_7 ?_
        refine s4 (x := x1) rfl ?_
        refine s0 ?_
        refine s16 ?_
        refine s0 ?_
        refine s18 ?_
        refine s4 (x := x2) rfl ?_
        refine s16 ?_
        refine s6 (p := 77) rfl ?_
        refine s51 sh77 (by decide) (by decide) rf77_6 ?_
        refine s4 (x := x3) rfl ?_
        refine s40 (v := ld I 81 x3.toNat) sh81 g5 rfl (oI_ld _ _ _) ?_
        refine s17 ?_
        obtain ⟨g11, hE⟩ := hE
        refine s40 (v := ld I 82 ((((x1 + 1) * 201) + x2) - (ld I 81 x3.toNat)).toNat) sh82 g11 rfl (oI_ld _ _ _) ?_
        refine s16 ?_
        refine s6 (p := 77) rfl ?_
        refine s51 sh77 (by decide) (by decide) rf77_7 ?_
        refine s4 (x := x1) rfl ?_
        refine s0 ?_
        refine s18 ?_
        refine s4 (x := x2) rfl ?_
        refine s16 ?_
        obtain ⟨g12, hE⟩ := hE
        refine s40 (v := ld I 82 ((x1 * 201) + x2).toNat) sh82 g12 rfl (oI_ld _ _ _) ?_
        obtain ⟨g13, hE⟩ := hE
        refine s62 g13 (ld_inR _ _ _) (fun c14 => ?_) (fun c14 => ?_)
        · replace hE := hE.1 c14
          refine s4 (x := x3) rfl ?_
          refine s80 ?_
          exact hE
        · replace hE := hE.2 c14
          refine xG gb178.2.2.2.2.1 ?_
          refine s10 (x := x3) (ls' := [.ref 77, .int (oI x1), .int (oI x2), .int (oI (x3 + 1)), .int (oI 1)]) rfl rfl ?_
          refine s60 ?_
          exact hE
    · replace hE := hE.2 c4
      refine xG gb178.2.2.1 ?_
      refine s0 ?_
      refine s79 ?_
      refine xG gb178.2.2.2.1 ?_
      refine s7 (ls' := [.ref 77, .int (oI x1), .int (oI x2), .int (oI x3), .int (oI 0)]) (Nat.le_of_ble_eq_true rfl) rfl ?_
      refine s4 (x := 0) rfl ?_
      refine s67 (inRd rfl) (fun _ => ?_) (fun c15 => absurd (by decide) c15)
      refine xG gb178.2.2.2.2.1 ?_
      refine s10 (x := x3) (ls' := [.ref 77, .int (oI x1), .int (oI x2), .int (oI (x3 + 1)), .int (oI 0)]) rfl rfl ?_
      refine s60 ?_
      exact hE
  · replace hE := hE.2 c2
    refine xG gb178.2.2.2.2.2 ?_
    refine s0 ?_
    refine s80 ?_
    exact hE
set_option maxRecDepth 4000 in
theorem e178 {d L : Nat} {I : Nat → Nat → Int32} {R : Nat → Nat → Option Nat} {S : List (Nat × Nat)} {K : Int32 → mM → Prop} {A : aS} (hC : RC R S I A) {x1 : Int} {x2 : Int} (hE : h178_1 d L I R S (rqI K) x1 x2 0 mUn) : CallI d 178 [.ref 77, .int (oI x1), .int (oI x2)] (bd L I R S) K := by
  refine cI_of (ls := [.ref 77, .int (oI x1), .int (oI x2), mUn, mUn]) rfl ?_
  refine xG gb178.1 ?_
  refine s0 ?_
  refine s7 (ls' := [.ref 77, .int (oI x1), .int (oI x2), .int (oI 0), mUn]) (Nat.le_of_ble_eq_true rfl) rfl ?_
  refine s79 ?_
  exact hE
def h177_1 (d L : Nat) (I : Nat → Nat → Int32) (R : Nat → Nat → Option Nat) (S : List (Nat × Nat)) (Q : Option Value → mM → Prop) (x1 : Int) (x2 : Int) (w3 : Value) : Prop := Wp d (gb 177 1) [.ref 77, .int (oI x1), .int (oI x2), w3] [] (bd L I R S) Q
set_option maxRecDepth 4000 in
theorem e177_1 {d L : Nat} {I : Nat → Nat → Int32} {R : Nat → Nat → Option Nat} {S : List (Nat × Nat)} {Q : Option Value → mM → Prop} {A : aS} (hC : RC R S I A) {x1 : Int} {x2 : Int} {w3 : Value} (hE : inR x2 ∧ (((x2 < ld I 77 10) → CallI d 178 [.ref 77, .int (oI x2), .int (oI x1)] (bd L I R S) (fun y s => ∃ (y5 : Int) (I3 : mI), y = oI y5 ∧ s = bd L I3 R S ∧ inR y5 ∧ RC R S I3 A ∧ ((0 ≤ x2 ∧ x2 < 40) ∧ ((0 ≤ ld I3 78 x2.toNat ∧ ld I3 78 x2.toNat < 40) ∧ ((0 ≤ y5 ∧ y5 < 64) ∧ (h177_1 (d + 1) L (u2 (u2 I3 83 (ld I3 78 x2.toNat).toNat (oI y5)) 77 12 (oI (ld I3 77 12 + (if y5 = 0 then (1 : Int) else 0)))) R S Q (x1 - (ld I3 81 y5.toNat)) (x2 + 1) (.int (oI y5)))))))) ∧ (¬ (x2 < ld I 77 10) → Q none (bd L (u2 I 77 11 (oI (ld I 77 14 - x1))) R S)))) : h177_1 (d + 1) L I R S Q x1 x2 w3 := by
  unfold h177_1
  refine xG gb177.2.1 ?_
  refine s4 (x := x2) rfl ?_
  refine s6 (p := 77) rfl ?_
  refine s50 (v := ld I 77 10) sh77 (by decide) (by decide) (oI_ld _ _ _) ?_
  obtain ⟨g1, hE⟩ := hE
  refine s64 g1 (ld_inR _ _ _) (fun c2 => ?_) (fun c2 => ?_)
  · replace hE := hE.1 c2
    refine s6 (p := 77) rfl ?_
    refine s4 (x := x2) rfl ?_
    refine s4 (x := x1) rfl ?_
    refine sI rc178 rfl (Nat.le_of_ble_eq_true rfl) ?_
    refine CallI.mono hE ?_
    rintro _ _ ⟨y5, I3, rfl, rfl, gy5, q4, hE⟩
    refine s7 (ls' := [.ref 77, .int (oI x1), .int (oI x2), .int (oI y5)]) (Nat.le_of_ble_eq_true rfl) rfl ?_
    refine s6 (p := 77) rfl ?_
    refine s51 sh77 (by decide) (by decide) rf77_8 ?_
    refine s6 (p := 77) rfl ?_
    refine s51 sh77 (by decide) (by decide) rf77_3 ?_
    refine s4 (x := x2) rfl ?_
    obtain ⟨g6, hE⟩ := hE
    refine s40 (v := ld I3 78 x2.toNat) sh78 g6 rfl (oI_ld _ _ _) ?_
    refine s4 (x := y5) rfl ?_
    obtain ⟨g7, hE⟩ := hE
    refine s44 sh83 (by decide) g7 rfl ?_
    refine s4 (x := x1) rfl ?_
    refine s6 (p := 77) rfl ?_
    refine s51 sh77 (by decide) (by decide) rf77_6 ?_
    refine s4 (x := y5) rfl ?_
    obtain ⟨g8, hE⟩ := hE
    refine s40 (v := ld I3 81 y5.toNat) sh81 g8 rfl ((v2_ne (by decide)).trans (oI_ld _ _ _)) ?_
    refine s17 ?_
    refine s7 (ls' := [.ref 77, .int (oI (x1 - (ld I3 81 y5.toNat))), .int (oI x2), .int (oI y5)]) (Nat.le_of_ble_eq_true rfl) rfl ?_
    refine s6 (p := 77) rfl ?_
    refine s13r ?_
    refine s50 (v := ld I3 77 12) sh77 (by decide) (by decide) ((v2_ne (by decide)).trans (oI_ld _ _ _)) ?_
    refine s4 (x := y5) rfl ?_
    refine s68j (j := 3) (v1 := 1) (v0 := 0) gy5 (fun hJ => ?_) (fun hJ => ?_) ?_
    · exact s0 (s60 hJ)
    · refine xG gb177.2.2.1 ?_
      exact s0 (s79 hJ)
    refine xG gb177.2.2.2.1 ?_
    refine s16 ?_
    refine s52 sh77 (by decide) (by decide) ?_
    refine s10 (x := x2) (ls' := [.ref 77, .int (oI (x1 - (ld I3 81 y5.toNat))), .int (oI (x2 + 1)), .int (oI y5)]) rfl rfl ?_
    refine s60 ?_
    exact hE
  · replace hE := hE.2 c2
    refine xG gb177.2.2.2.2 ?_
    refine s6 (p := 77) rfl ?_
    refine s6 (p := 77) rfl ?_
    refine s50 (v := ld I 77 14) sh77 (by decide) (by decide) (oI_ld _ _ _) ?_
    refine s4 (x := x1) rfl ?_
    refine s17 ?_
    refine s52 sh77 (by decide) (by decide) ?_
    refine s83 ?_
    exact hE
set_option maxRecDepth 4000 in
theorem e177 {d L : Nat} {I : Nat → Nat → Int32} {R : Nat → Nat → Option Nat} {S : List (Nat × Nat)} {K : mM → Prop} {A : aS} (hC : RC R S I A)  (hE : ∀ (I1 : mI), (Fr [83] [] I I1) → (∀ j : Nat, j < 40 → ld I1 83 j = 0) → h177_1 (d + 1) L (u2 I1 77 12 (oI 0)) R S (rqV K) (ld I1 77 14) 0 mUn) : CallV (d + 1) 177 [.ref 77] (bd L I R S) K := by
  refine cV_of (ls := [.ref 77, mUn, mUn, mUn]) rfl ?_
  refine xG gb177.1 ?_
  refine s6 (p := 77) rfl ?_
  refine s51 sh77 (by decide) (by decide) rf77_8 ?_
  refine s0 ?_
  refine sV rc350 rfl (Nat.le_of_ble_eq_true rfl) ?_
  refine k350a83 hC (inRd rfl) (fun I1 q2 q3 => ?_)
  replace hE := hE I1 q2 q3
  refine s6 (p := 77) rfl ?_
  refine s0 ?_
  refine s52 sh77 (by decide) (by decide) ?_
  refine s6 (p := 77) rfl ?_
  refine s50 (v := ld I1 77 14) sh77 (by decide) (by decide) ((v2_nk (by decide)).trans (oI_ld _ _ _)) ?_
  refine s7 (ls' := [.ref 77, .int (oI (ld I1 77 14)), mUn, mUn]) (Nat.le_of_ble_eq_true rfl) rfl ?_
  refine s0 ?_
  refine s7 (ls' := [.ref 77, .int (oI (ld I1 77 14)), .int (oI 0), mUn]) (Nat.le_of_ble_eq_true rfl) rfl ?_
  refine s79 ?_
  exact hE
def h170_1 (d L : Nat) (I : Nat → Nat → Int32) (R : Nat → Nat → Option Nat) (S : List (Nat × Nat)) (Q : Option Value → mM → Prop) (x1 : Int) (x2 : Int) (x3 : Int) (x4 : Int) (w5 : Value) (w6 : Value) : Prop := Wp d (gb 170 1) [.ref 77, .int (oI x1), .int (oI x2), .int (oI x3), .int (oI x4), w5, w6] [] (bd L I R S) Q
def h170_2 (d L : Nat) (I : Nat → Nat → Int32) (R : Nat → Nat → Option Nat) (S : List (Nat × Nat)) (Q : Option Value → mM → Prop) (w1 : Value) (w2 : Value) (x3 : Int) (w4 : Value) (x5 : Int) (x6 : Int) : Prop := Wp d (gb 170 2) [.ref 77, w1, w2, .int (oI x3), w4, .int (oI x5), .int (oI x6)] [] (bd L I R S) Q
set_option maxRecDepth 4000 in
theorem e170_1 {d L : Nat} {I : Nat → Nat → Int32} {R : Nat → Nat → Option Nat} {S : List (Nat × Nat)} {Q : Option Value → mM → Prop} {A : aS} (hC : RC R S I A) {x1 : Int} {x2 : Int} {x3 : Int} {x4 : Int} {w5 : Value} {w6 : Value} (hE : inR x3 ∧ (CallV (d + 3) 171 [.ref 77, .int (oI (Int.tdiv x3 100))] (bd L (u2 (u2 (u2 I 77 13 (oI x1)) 77 14 (oI x2)) 77 15 (oI x4)) R S) (fun s => ∃ (I2 : mI), s = bd L I2 R S ∧ RC R S I2 A ∧ (WfA A ∧ (WnOk ((Int.tdiv x3 100) * 100) ((((Int.tdiv x3 100) * 100) + 100) - 1) x3 ∧ (∀ (I7 : mI), (Fr [68] [(59, 13), (59, 14), (59, 15)] (u2 I2 77 10 (oI 0)) I7) → (WnP I7 ((Int.tdiv x3 100) * 100) ((((Int.tdiv x3 100) * 100) + 100) - 1) x3) → (ShP A I7 ((Int.tdiv x3 100) * 100) ((((Int.tdiv x3 100) * 100) + 100) - 1) x3) → h170_2 (d + 4) L I7 R S Q (.int (oI x1)) (.int (oI x2)) x3 (.int (oI x4)) (Int.tdiv x3 100) 0)))))) : h170_1 (d + 4) L I R S Q x1 x2 x3 x4 w5 w6 := by
  unfold h170_1
  refine xG gb170.2.1 ?_
  refine s6 (p := 77) rfl ?_
  refine s4 (x := x1) rfl ?_
  refine s52 sh77 (by decide) (by decide) ?_
  refine s6 (p := 77) rfl ?_
  refine s4 (x := x2) rfl ?_
  refine s52 sh77 (by decide) (by decide) ?_
  refine s6 (p := 77) rfl ?_
  refine s4 (x := x4) rfl ?_
  refine s52 sh77 (by decide) (by decide) ?_
  refine s4 (x := x3) rfl ?_
  refine s0 ?_
  obtain ⟨g1, hE⟩ := hE
  refine s19 g1 ⟨(inRd rfl), by decide⟩ ?_
  refine s7 (ls' := [.ref 77, .int (oI x1), .int (oI x2), .int (oI x3), .int (oI x4), .int (oI (Int.tdiv x3 100)), w6]) (Nat.le_of_ble_eq_true rfl) rfl ?_
  refine s6 (p := 77) rfl ?_
  refine s4 (x := Int.tdiv x3 100) rfl ?_
  refine sV rc171 rfl (Nat.le_of_ble_eq_true rfl) ?_
  refine CallV.mono hE ?_
  rintro _ ⟨I2, rfl, q3, hE⟩
  refine s6 (p := 77) rfl ?_
  refine s0 ?_
  refine s52 sh77 (by decide) (by decide) ?_
  refine s6 (p := 77) rfl ?_
  refine s51 sh77 (by decide) (by decide) rf77_2 ?_
  refine s4 (x := Int.tdiv x3 100) rfl ?_
  refine s4 (x := x3) rfl ?_
  refine sV rc153 rfl (Nat.le_of_ble_eq_true rfl) ?_
  refine cV_of (ls := [.ref 59, .int (oI (Int.tdiv x3 100)), .int (oI x3)]) rfl ?_
  refine xG gb153 ?_
  refine s6 (p := 59) rfl ?_
  refine s4 (x := Int.tdiv x3 100) rfl ?_
  refine s0 ?_
  refine s18 ?_
  refine s4 (x := Int.tdiv x3 100) rfl ?_
  refine s0 ?_
  refine s18 ?_
  refine s0 ?_
  refine s16 ?_
  refine s0 ?_
  refine s17 ?_
  refine s4 (x := x3) rfl ?_
  obtain ⟨g5, hE⟩ := hE
  obtain ⟨g6, hE⟩ := hE
  refine sV rc134 rfl (Nat.le_of_ble_eq_true rfl) ?_
  refine k134 (RC.scr q3 rfl) g5 g6 (fun I7 q8 q9 q10 => ?_)
  replace hE := hE I7 q8 q9 q10
  refine s83 ?_
  refine rqV_of ?_
  refine s0 ?_
  refine s7 (ls' := [.ref 77, .int (oI x1), .int (oI x2), .int (oI x3), .int (oI x4), .int (oI (Int.tdiv x3 100)), .int (oI 0)]) (Nat.le_of_ble_eq_true rfl) rfl ?_
  refine s79 ?_
  exact hE
set_option maxRecDepth 4000 in
theorem e170_2 {d L : Nat} {I : Nat → Nat → Int32} {R : Nat → Nat → Option Nat} {S : List (Nat × Nat)} {Q : Option Value → mM → Prop} {A : aS} (hC : RC R S I A) {w1 : Value} {w2 : Value} {x3 : Int} {w4 : Value} {x5 : Int} {x6 : Int} (hE : inR x6 ∧ (((x6 < A 91 1) → WfA A ∧ ((0 ≤ x6 ∧ x6 < A 91 1) ∧ (∃ f5 t6 n7 : Int, WnOk f5 t6 n7 ∧ WnP I f5 t6 n7 ∧ (∀ (I10 : mI), (Fr [62, 63, 64, 65, 66, 67] [(59, 16)] I I10) → (ld I10 59 16 = x6) → (LyP A I10 x6 f5 t6 n7) → inR x3 ∧ (((ld I10 59 13 ≤ x3 ∧ x3 ≤ ld I10 59 14) → (0 ≤ x3 - (ld I10 59 13) ∧ x3 - (ld I10 59 13) < 100) ∧ (((ld I10 62 (x3 - (ld I10 59 13)).toNat = ld I10 77 13) → (0 ≤ ld I10 77 10 ∧ ld I10 77 10 < 40) ∧ (CallV (d + 3) 172 [.ref 77, .int (oI x5)] (bd L (u2 I10 78 (ld I10 77 10).toNat (oI x6)) R S) (fun s => ∃ (I20 : mI), s = bd L I20 R S ∧ RC R S I20 A ∧ (h170_2 (d + 4) L (u2 I20 77 10 (oI (ld I20 77 10 + 1))) R S Q w1 w2 x3 w4 x5 (x6 + 1))))) ∧ (¬ (ld I10 62 (x3 - (ld I10 59 13)).toNat = ld I10 77 13) → h170_2 (d + 4) L I10 R S Q w1 w2 x3 w4 x5 (x6 + 1)))) ∧ (¬ (ld I10 59 13 ≤ x3 ∧ x3 ≤ ld I10 59 14) → (((-1) = ld I10 77 13) → (0 ≤ ld I10 77 10 ∧ ld I10 77 10 < 40) ∧ (CallV (d + 3) 172 [.ref 77, .int (oI x5)] (bd L (u2 I10 78 (ld I10 77 10).toNat (oI x6)) R S) (fun s => ∃ (I26 : mI), s = bd L I26 R S ∧ RC R S I26 A ∧ (h170_2 (d + 4) L (u2 I26 77 10 (oI (ld I26 77 10 + 1))) R S Q w1 w2 x3 w4 x5 (x6 + 1))))) ∧ (¬ ((-1) = ld I10 77 13) → h170_2 (d + 4) L I10 R S Q w1 w2 x3 w4 x5 (x6 + 1)))))))) ∧ (¬ (x6 < A 91 1) → CallV (d + 3) 175 [.ref 77] (bd L I R S) (fun s => ∃ (I29 : mI), s = bd L I29 R S ∧ RC R S I29 A ∧ (CallV (d + 3) 177 [.ref 77] (bd L I29 R S) (fun s => ∃ (I32 : mI), s = bd L I32 R S ∧ RC R S I32 A ∧ (Q none (bd L I32 R S)))))))) : h170_2 (d + 4) L I R S Q w1 w2 x3 w4 x5 x6 := by
  unfold h170_2
  refine xG gb170.2.2.1 ?_
  refine s4 (x := x6) rfl ?_
  refine s6 (p := 77) rfl ?_
  refine s51 sh77 (by decide) (by decide) rf77_0 ?_
  refine s50 (v := A 91 1) sh21 (by decide) (by decide) (rdC hC.1 rfl) ?_
  obtain ⟨g1, hE⟩ := hE
  refine s64 g1 (inC hC.1 (a := 21) (k := 9) rfl) (fun c2 => ?_) (fun c2 => ?_)
  · replace hE := hE.1 c2
    refine s6 (p := 77) rfl ?_
    refine s51 sh77 (by decide) (by decide) rf77_2 ?_
    refine s4 (x := x6) rfl ?_
    obtain ⟨g3, hE⟩ := hE
    obtain ⟨g4, hE⟩ := hE
    obtain ⟨f5, t6, n7, k8, k9, hE⟩ := hE
    refine sV rc136 rfl (Nat.le_of_ble_eq_true rfl) ?_
    refine k136 hC k8 k9 g3 g4 (fun I10 q11 q12 q13 => ?_)
    replace hE := hE I10 q11 q12 q13
    refine s6 (p := 77) rfl ?_
    refine s51 sh77 (by decide) (by decide) rf77_2 ?_
    refine s4 (x := x3) rfl ?_
    refine sI rc140 rfl (Nat.le_of_ble_eq_true rfl) ?_
    refine cI_of (ls := [.ref 59, .int (oI x3)]) rfl ?_
    refine xG gb140.1 ?_
    refine s4 (x := x3) rfl ?_
    refine s6 (p := 59) rfl ?_
    refine s50 (v := ld I10 59 13) sh59 (by decide) (by decide) (oI_ld _ _ _) ?_
    refine s6 (p := 59) rfl ?_
    refine s50 (v := ld I10 59 14) sh59 (by decide) (by decide) (oI_ld _ _ _) ?_
    obtain ⟨g14, hE⟩ := hE
    refine sI rc3 rfl (Nat.le_of_ble_eq_true rfl) ?_
    refine k3 g14 (ld_inR _ _ _) (ld_inR _ _ _) (fun c15 => ?_) (fun c15 => ?_)
    · replace hE := hE.1 c15
      refine s67 (inRd rfl) (fun c16 => absurd c16 (by decide)) (fun _ => ?_)
      refine s6 (p := 59) rfl ?_
      refine s51 sh59 (by decide) (by decide) rf59_5 ?_
      refine s4 (x := x3) rfl ?_
      refine s6 (p := 59) rfl ?_
      refine s50 (v := ld I10 59 13) sh59 (by decide) (by decide) (oI_ld _ _ _) ?_
      refine s17 ?_
      obtain ⟨g17, hE⟩ := hE
      refine s40 (v := ld I10 62 (x3 - (ld I10 59 13)).toNat) sh62 g17 rfl (oI_ld _ _ _) ?_
      refine s60 ?_
      refine xG gb140.2.2 ?_
      refine s80 ?_
      refine rqI_of ?_
      refine s6 (p := 77) rfl ?_
      refine s50 (v := ld I10 77 13) sh77 (by decide) (by decide) (oI_ld _ _ _) ?_
      refine s62 (ld_inR _ _ _) (ld_inR _ _ _) (fun c18 => ?_) (fun c18 => ?_)
      · replace hE := hE.1 c18
        refine s6 (p := 77) rfl ?_
        refine s51 sh77 (by decide) (by decide) rf77_3 ?_
        refine s6 (p := 77) rfl ?_
        refine s50 (v := ld I10 77 10) sh77 (by decide) (by decide) (oI_ld _ _ _) ?_
        refine s4 (x := x6) rfl ?_
        obtain ⟨g19, hE⟩ := hE
        refine s44 sh78 (by decide) g19 rfl ?_
        refine s6 (p := 77) rfl ?_
        refine s4 (x := x5) rfl ?_
        refine sV rc172 rfl (Nat.le_of_ble_eq_true rfl) ?_
        refine CallV.mono hE ?_
        rintro _ ⟨I20, rfl, q21, hE⟩
        refine s6 (p := 77) rfl ?_
        refine s13r ?_
        refine s50 (v := ld I20 77 10) sh77 (by decide) (by decide) (oI_ld _ _ _) ?_
        refine s0 ?_
        refine s16 ?_
        refine s52 sh77 (by decide) (by decide) ?_
        refine s79 ?_
        refine xG gb170.2.2.2.1 ?_
        refine s10 (x := x6) (ls' := [.ref 77, w1, w2, .int (oI x3), w4, .int (oI x5), .int (oI (x6 + 1))]) rfl rfl ?_
        refine s60 ?_
        exact hE
      · replace hE := hE.2 c18
        refine xG gb170.2.2.2.1 ?_
        refine s10 (x := x6) (ls' := [.ref 77, w1, w2, .int (oI x3), w4, .int (oI x5), .int (oI (x6 + 1))]) rfl rfl ?_
        refine s60 ?_
        exact hE
    · replace hE := hE.2 c15
      refine s67 (inRd rfl) (fun _ => ?_) (fun c23 => absurd (by decide) c23)
      refine xG gb140.2.1 ?_
      refine s0 ?_
      refine s79 ?_
      refine xG gb140.2.2 ?_
      refine s80 ?_
      refine rqI_of ?_
      refine s6 (p := 77) rfl ?_
      refine s50 (v := ld I10 77 13) sh77 (by decide) (by decide) (oI_ld _ _ _) ?_
      refine s62 (inRd rfl) (ld_inR _ _ _) (fun c24 => ?_) (fun c24 => ?_)
      · replace hE := hE.1 c24
        refine s6 (p := 77) rfl ?_
        refine s51 sh77 (by decide) (by decide) rf77_3 ?_
        refine s6 (p := 77) rfl ?_
        refine s50 (v := ld I10 77 10) sh77 (by decide) (by decide) (oI_ld _ _ _) ?_
        refine s4 (x := x6) rfl ?_
        obtain ⟨g25, hE⟩ := hE
        refine s44 sh78 (by decide) g25 rfl ?_
        refine s6 (p := 77) rfl ?_
        refine s4 (x := x5) rfl ?_
        refine sV rc172 rfl (Nat.le_of_ble_eq_true rfl) ?_
        refine CallV.mono hE ?_
        rintro _ ⟨I26, rfl, q27, hE⟩
        refine s6 (p := 77) rfl ?_
        refine s13r ?_
        refine s50 (v := ld I26 77 10) sh77 (by decide) (by decide) (oI_ld _ _ _) ?_
        refine s0 ?_
        refine s16 ?_
        refine s52 sh77 (by decide) (by decide) ?_
        refine s79 ?_
        refine xG gb170.2.2.2.1 ?_
        refine s10 (x := x6) (ls' := [.ref 77, w1, w2, .int (oI x3), w4, .int (oI x5), .int (oI (x6 + 1))]) rfl rfl ?_
        refine s60 ?_
        exact hE
      · replace hE := hE.2 c24
        refine xG gb170.2.2.2.1 ?_
        refine s10 (x := x6) (ls' := [.ref 77, w1, w2, .int (oI x3), w4, .int (oI x5), .int (oI (x6 + 1))]) rfl rfl ?_
        refine s60 ?_
        exact hE
  · replace hE := hE.2 c2
    refine xG gb170.2.2.2.2 ?_
    refine s6 (p := 77) rfl ?_
    refine sV rc175 rfl (Nat.le_of_ble_eq_true rfl) ?_
    refine CallV.mono hE ?_
    rintro _ ⟨I29, rfl, q30, hE⟩
    refine s6 (p := 77) rfl ?_
    refine sV rc177 rfl (Nat.le_of_ble_eq_true rfl) ?_
    refine CallV.mono hE ?_
    rintro _ ⟨I32, rfl, q33, hE⟩
    refine s83 ?_
    exact hE
set_option maxRecDepth 4000 in
theorem e170 {d L : Nat} {I : Nat → Nat → Int32} {R : Nat → Nat → Option Nat} {S : List (Nat × Nat)} {K : mM → Prop} {A : aS} (hC : RC R S I A) {x1 : Int} {x2 : Int} {x3 : Int} {x4 : Int} (hE : inR x1 ∧ (((ld I 77 13 = x1) → inR x2 ∧ (((ld I 77 14 = x2) → inR x4 ∧ (((ld I 77 15 = x4) → K (bd L I R S)) ∧ (¬ (ld I 77 15 = x4) → h170_1 d L I R S (rqV K) x1 x2 x3 x4 mUn mUn))) ∧ (¬ (ld I 77 14 = x2) → h170_1 d L I R S (rqV K) x1 x2 x3 x4 mUn mUn))) ∧ (¬ (ld I 77 13 = x1) → h170_1 d L I R S (rqV K) x1 x2 x3 x4 mUn mUn))) : CallV d 170 [.ref 77, .int (oI x1), .int (oI x2), .int (oI x3), .int (oI x4)] (bd L I R S) K := by
  refine cV_of (ls := [.ref 77, .int (oI x1), .int (oI x2), .int (oI x3), .int (oI x4), mUn, mUn]) rfl ?_
  refine xG gb170.1 ?_
  refine s6 (p := 77) rfl ?_
  refine s50 (v := ld I 77 13) sh77 (by decide) (by decide) (oI_ld _ _ _) ?_
  refine s4 (x := x1) rfl ?_
  obtain ⟨g1, hE⟩ := hE
  refine s62 (ld_inR _ _ _) g1 (fun c2 => ?_) (fun c2 => ?_)
  · replace hE := hE.1 c2
    refine s6 (p := 77) rfl ?_
    refine s50 (v := ld I 77 14) sh77 (by decide) (by decide) (oI_ld _ _ _) ?_
    refine s4 (x := x2) rfl ?_
    obtain ⟨g3, hE⟩ := hE
    refine s62 (ld_inR _ _ _) g3 (fun c4 => ?_) (fun c4 => ?_)
    · replace hE := hE.1 c4
      refine s6 (p := 77) rfl ?_
      refine s50 (v := ld I 77 15) sh77 (by decide) (by decide) (oI_ld _ _ _) ?_
      refine s4 (x := x4) rfl ?_
      obtain ⟨g5, hE⟩ := hE
      refine s62 (ld_inR _ _ _) g5 (fun c6 => ?_) (fun c6 => ?_)
      · replace hE := hE.1 c6
        refine s83 ?_
        exact rqV_of hE
      · replace hE := hE.2 c6
        exact hE
    · replace hE := hE.2 c4
      exact hE
  · replace hE := hE.2 c2
    exact hE
