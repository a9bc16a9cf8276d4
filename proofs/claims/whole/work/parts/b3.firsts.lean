/-! the class's first clause against the reference's -/
theorem RC.zE {R : mR} {S : mSh} {I : mI} {A : aS} (h : RC R S I A) : EnvC 58 I zE := by
  intro i hi
  have hp := pcN_in (x := (i : Int)) (by omega)
  exact h.2.2.2.2.2.1.2.2.2.2.2 _ (by omega)
theorem fmB1 : fmB 1 0 = true := by decide
theorem fmS : ∀ k : Fin 31, ∀ o : Fin 31, fmB (iShl 1 (k.val : Int)) (o.val : Int) = decide (o.val = k.val) := by decide +kernel
section
variable {A : aS} {h : Nat → Int} {y kd mask ow b key : Int}
theorem tlF_gen {c : Nat → Bool} {F : Nat → Nat → Int} (h0 : ∀ n, F 0 n = -1) (h1 : ∀ f n, F (f + 1) n = cond (c n) (n : Int) (F f (n + 1))) (hc : ∀ n, tlC A h y kd mask n = c n) : ∀ f n, tlF A h y kd mask ow f n = if F f n = -1 then ow else tlV A y (F f n)
  | 0, n => by rw [h0, if_pos rfl]; rfl
  | f + 1, n => by
    have e : tlF A h y kd mask ow (f + 1) n = if tlC A h y kd mask n = true then tlV A y n else tlF A h y kd mask ow f (n + 1) := rfl
    rw [e, h1, hc]
    cases hb : c n with
    | true => rw [if_pos rfl, cond_true, if_neg (by omega)]
    | false => rw [if_neg (by decide), cond_false]; exact tlF_gen h0 h1 hc f (n + 1)
theorem ckd_inj {a b : Int} (ha : 0 ≤ a ∧ a ≤ 15) (hb : 0 ≤ b ∧ b ≤ 15) (h : ckd a = ckd b) : a = b := by
  unfold ckd at h
  split at h <;> split at h <;> (try split at h) <;> (try split at h) <;> omega
theorem tlC_one (hC : WfC A) (hb : b = 3 ∨ b = 5 ∨ b = 7 ∨ b = 8 ∨ b = 9 ∨ (10 ≤ b ∧ b ≤ 12) ∨ b = 15) (n : Nat) : tlC A h y (ckd b) 1 n = fsC A h y b (-1) n := by
  unfold tlC fsC
  by_cases hq : cdS A y n = -1
  · simp [hq]
  · obtain ⟨s, s1, s2, s3, s4, s5, -⟩ := cdS_wf hC hq
    have es : (cdS A y n).toNat = s := by omega
    rw [es]
    by_cases e : A 140 s = b
    · have e1 : cOf (A 140 s) (A 141 s) (A 142 s) = 0 := by unfold cOf; rw [if_neg (by omega), if_neg (by omega)]
      rw [e1, fmB1, e, beq_self_eq_true, beq_self_eq_true]; rfl
    · have e1 : ¬ ckd (A 140 s) = ckd b := fun q => e (ckd_inj s3.2.1 (by omega) q)
      rw [show (ckd (A 140 s) == ckd b) = false from beq_eq_false_iff_ne.mpr e1, show (A 140 s == b) = false from beq_eq_false_iff_ne.mpr e, Bool.false_and, Bool.false_and]
theorem fm_key {o : Int} (hk : 0 ≤ key ∧ key ≤ 30) (ho : 0 ≤ o) : fmB (iShl 1 key) o = (o == key) := by
  by_cases h31 : o < 31
  · have := fmS ⟨key.toNat, by omega⟩ ⟨o.toNat, by omega⟩
    dsimp only at this
    rw [show ((key.toNat : Nat) : Int) = key by omega, show ((o.toNat : Nat) : Int) = o by omega] at this
    rw [this]
    by_cases e : o = key
    · rw [decide_eq_true (by omega)]; exact (beq_iff_eq.mpr e).symm
    · rw [decide_eq_false (by omega)]; exact (beq_eq_false_iff_ne.mpr e).symm
  · unfold fmB
    rw [decide_eq_false h31]
    have : ¬ o = key := by omega
    rw [show (o == key) = false from beq_eq_false_iff_ne.mpr this, Bool.false_and, Bool.and_false]
theorem tlC_key (hC : WfC A) (hb : b = 1 ∨ b = 4 ∨ b = 13 ∨ b = 14) (hk : 0 ≤ key ∧ key ≤ 30) (n : Nat) : tlC A h y (ckd b) (iShl 1 key) n = fsC A h y b key n := by
  unfold tlC fsC
  by_cases hq : cdS A y n = -1
  · simp [hq]
  · obtain ⟨s, s1, s2, s3, s4, s5, -⟩ := cdS_wf hC hq
    have es : (cdS A y n).toNat = s := by omega
    rw [es]
    by_cases e : A 140 s = b
    · have e1 : cOf (A 140 s) (A 141 s) (A 142 s) = A 141 s := by unfold cOf; rw [if_pos (by omega)]
      have w := (s3.2.2 s5).1 (by omega)
      have : ¬ key = -1 := by omega
      rw [e1, fm_key hk (by omega), e, show (key == -1) = false from beq_eq_false_iff_ne.mpr this, beq_self_eq_true, beq_self_eq_true, Bool.false_or]
    · have e1 : ¬ ckd (A 140 s) = ckd b := fun q => e (ckd_inj s3.2.1 (by omega) q)
      rw [show (ckd (A 140 s) == ckd b) = false from beq_eq_false_iff_ne.mpr e1, show (A 140 s == b) = false from beq_eq_false_iff_ne.mpr e, Bool.false_and, Bool.false_and]
theorem iAnd01 {m : Nat} (hm : m < 2147483648) : (!(iAnd m 1 == 0)) = (iAnd m 1 == 1) := by
  rw [iAnd_1 hm]
  rcases Nat.mod_two_eq_zero_or_one m with e | e <;> rw [e] <;> rfl
theorem tlC_exc {kinds : Int} (hC : WfC A) (hk : 0 ≤ kinds ∧ kinds < 64) (n : Nat) : tlC A h y 131 kinds n = feC A h y kinds n := by
  unfold tlC feC
  by_cases hq : cdS A y n = -1
  · simp [hq]
  · obtain ⟨s, s1, s2, s3, s4, s5, -⟩ := cdS_wf hC hq
    have es : (cdS A y n).toNat = s := by omega
    rw [es]
    by_cases e : A 140 s = 2
    · have e1 : cOf (A 140 s) (A 141 s) (A 142 s) = A 141 s := by unfold cOf; rw [if_pos (by omega)]
      have w := (s3.2.2 s5).1 (by omega)
      have w2 := ((s3.2.2 s5).2.2.2.2.1 e).1
      have e2 : fmB kinds (A 141 s) = (iAnd (iShr kinds (A 141 s)) 1 == 1) := by
        unfold fmB
        rw [decide_eq_true w.1, decide_eq_true (show A 141 s < 31 by omega), Bool.true_and, Bool.true_and]
        have e3 := iShr_nat (m := kinds.toNat) (k := (A 141 s).toNat) (by omega) (by omega)
        rw [show ((kinds.toNat : Nat) : Int) = kinds by omega, show (((A 141 s).toNat : Nat) : Int) = A 141 s by omega] at e3
        rw [e3]
        exact iAnd01 (Nat.lt_of_le_of_lt (Nat.div_le_self _ _) (by omega))
      rw [e1, e2, e]; rfl
    · have e1 : ¬ ckd (A 140 s) = 131 := fun q => e (ckd_inj (b := 2) s3.2.1 (by omega) q)
      rw [show (ckd (A 140 s) == 131) = false from beq_eq_false_iff_ne.mpr e1, show (A 140 s == 2) = false from beq_eq_false_iff_ne.mpr e, Bool.false_and, Bool.false_and]
theorem tlS_one (hC : WfC A) (hb : b = 3 ∨ b = 5 ∨ b = 7 ∨ b = 8 ∨ (10 ≤ b ∧ b ≤ 12) ∨ b = 15) : tlS A h y (ckd b) 1 ow = if fsS A h y b (-1) = -1 then ow else nuS A y (fsS A h y b (-1)) := by
  have e := tlF_gen (A := A) (h := h) (y := y) (kd := ckd b) (mask := 1) (ow := ow) (F := fsF A h y b (-1)) (c := fsC A h y b (-1)) (fun _ => rfl) (fun _ _ => rfl) (tlC_one hC (by omega)) 60 1
  unfold tlS
  rw [e]
  show (if fsS A h y b (-1) = -1 then ow else tlV A y (fsS A h y b (-1))) = _
  rcases fsS_prop hC (h := h) (y := y) (kind := b) (key := -1) with h1 | ⟨m, s, h1, h2, h3, h4, h5, h6, h7, h8, -⟩
  · rw [if_pos h1, if_pos h1]
  · have hn : ¬ fsS A h y b (-1) = -1 := by omega
    rw [if_neg hn, if_neg hn]
    unfold tlV nuS
    rw [h1, h4, Int.toNat_natCast, h8]
    unfold cVal
    rw [if_neg (by omega), if_neg (by omega)]
theorem tlS_half (hC : WfC A) : tlS A h y 144 1 ow = if fsS A h y 9 (-1) = -1 then ow else 0 := by
  have e := tlF_gen (A := A) (h := h) (y := y) (kd := ckd 9) (mask := 1) (ow := ow) (F := fsF A h y 9 (-1)) (c := fsC A h y 9 (-1)) (fun _ => rfl) (fun _ _ => rfl) (tlC_one hC (by omega)) 60 1
  unfold tlS
  rw [show (144 : Int) = ckd 9 from rfl, e]
  show (if fsS A h y 9 (-1) = -1 then ow else tlV A y (fsS A h y 9 (-1))) = _
  rcases fsS_prop hC (h := h) (y := y) (kind := 9) (key := -1) with h1 | ⟨m, s, h1, h2, h3, h4, h5, h6, h7, h8, -⟩
  · rw [if_pos h1, if_pos h1]
  · have hn : ¬ fsS A h y 9 (-1) = -1 := by omega
    rw [if_neg hn, if_neg hn]
    unfold tlV
    rw [h1, h4, Int.toNat_natCast, h8]
    rfl
theorem tlS_key (hC : WfC A) (hb : b = 1 ∨ b = 4 ∨ b = 13 ∨ b = 14) (hk : 0 ≤ key ∧ key ≤ 30) : tlS A h y (ckd b) (iShl 1 key) ow = if fsS A h y b key = -1 then ow else A 142 (cdS A y (fsS A h y b key)).toNat := by
  have e := tlF_gen (A := A) (h := h) (y := y) (kd := ckd b) (mask := iShl 1 key) (ow := ow) (F := fsF A h y b key) (c := fsC A h y b key) (fun _ => rfl) (fun _ _ => rfl) (tlC_key hC hb hk) 60 1
  unfold tlS
  rw [e]
  show (if fsS A h y b key = -1 then ow else tlV A y (fsS A h y b key)) = _
  rcases fsS_prop hC (h := h) (y := y) (kind := b) (key := key) with h1 | ⟨m, s, h1, h2, h3, h4, h5, h6, h7, h8, -⟩
  · rw [if_pos h1, if_pos h1]
  · have hn : ¬ fsS A h y b key = -1 := by omega
    rw [if_neg hn, if_neg hn]
    unfold tlV
    rw [h1, h4, Int.toNat_natCast, h8]
    unfold cVal
    rw [if_pos (by omega)]
theorem tlS_exc {kinds : Int} (hC : WfC A) (hk : 0 ≤ kinds ∧ kinds < 64) : tlS A h y 131 kinds 0 = seS A y (feS A h y kinds) := by
  have e := tlF_gen (A := A) (h := h) (y := y) (kd := 131) (mask := kinds) (ow := 0) (F := feF A h y kinds) (c := feC A h y kinds) (fun _ => rfl) (fun _ _ => rfl) (tlC_exc hC hk) 60 1
  unfold tlS
  rw [e]
  show (if feS A h y kinds = -1 then 0 else tlV A y (feS A h y kinds)) = seS A y (feS A h y kinds)
  unfold seS
  rcases feS_prop hC (h := h) (y := y) (kinds := kinds) with h1 | ⟨m, s, h1, h2, h3, h4, h5, h6, h7, h8⟩
  · rw [if_pos h1, if_pos h1]
  · have hn : ¬ feS A h y kinds = -1 := by omega
    rw [if_neg hn, if_neg hn]
    unfold tlV
    rw [h1, h4, Int.toNat_natCast, h8]
    rfl
theorem tlF_in (hC : WfC A) : ∀ f n, tlF A h y kd mask ow f n = ow ∨ (0 ≤ tlF A h y kd mask ow f n ∧ tlF A h y kd mask ow f n ≤ 9999)
  | 0, n => Or.inl rfl
  | f + 1, n => by
    have e : tlF A h y kd mask ow (f + 1) n = if tlC A h y kd mask n = true then tlV A y n else tlF A h y kd mask ow f (n + 1) := rfl
    rw [e]
    split
    · rename_i hc
      right
      unfold tlC at hc
      simp only [Bool.and_eq_true, Bool.not_eq_true', beq_eq_false_iff_ne] at hc
      obtain ⟨s, s1, s2, s3, s4, s5, -⟩ := cdS_wf hC hc.1
      unfold tlV
      rw [s1, Int.toNat_natCast]
      have w := s3.2.2 s5
      unfold cVal
      split
      · rename_i hp; exact w.2.1 hp
      · split
        · omega
        · rename_i h9; exact w.1 h9
    · exact tlF_in hC f (n + 1)
theorem tlS_in (hC : WfC A) : tlS A h y kd mask ow = ow ∨ (0 ≤ tlS A h y kd mask ow ∧ tlS A h y kd mask ow ≤ 9999) := tlF_in hC 60 1
theorem tlS_R (hC : WfC A) (ho : inR ow) : inR (tlS A h y kd mask ow) := by
  rcases tlS_in (A := A) (h := h) (y := y) (kd := kd) (mask := mask) (ow := ow) hC with e | e
  · rw [e]; exact ho
  · unfold inR; omega
theorem kdL_lt (hW : WfA A) {c day known : Int} : ∀ k, k ≤ nN A → 0 ≤ kdL A c day known k ∧ kdL A c day known k < 64
  | 0, _ => by show (0 : Int) ≤ 0 ∧ (0 : Int) < 64; omega
  | k + 1, hk => by
    have ih := kdL_lt hW (c := c) (day := day) (known := known) k (by omega)
    rw [kdL_succ]
    split
    · rename_i hq
      have hv := (hW.2.2.2.2 k (by omega)).2.2.2.2.2.2.1 hq.1
      have e1 := iShl_nat (m := 1) (k := (A 107 k).toNat) (by omega) (by
        have : 2 ^ (A 107 k).toNat ≤ 2 ^ 5 := Nat.pow_le_pow_right (by decide) (by omega)
        omega)
      rw [show (((A 107 k).toNat : Nat) : Int) = A 107 k by omega] at e1
      have e2 := iOr_nat (m := (kdL A c day known k).toNat) (n := 1 * 2 ^ (A 107 k).toNat) (by omega) (by
        have : 2 ^ (A 107 k).toNat ≤ 2 ^ 5 := Nat.pow_le_pow_right (by decide) (by omega)
        omega)
      rw [show (((kdL A c day known k).toNat : Nat) : Int) = kdL A c day known k by omega] at e2
      have e3 : ((1 : Nat) : Int) = 1 := rfl
      rw [e3] at e1
      rw [e1, e2]
      have hlt : (kdL A c day known k).toNat ||| 1 * 2 ^ (A 107 k).toNat < 2 ^ 6 := Nat.or_lt_two_pow (by omega) (by
        have : 2 ^ (A 107 k).toNat ≤ 2 ^ 5 := Nat.pow_le_pow_right (by decide) (by omega)
        omega)
      omega
    · exact ih
theorem kdS_lt (hW : WfA A) {c day known : Int} : 0 ≤ kdS A c day known ∧ kdS A c day known < 64 := kdL_lt hW _ (Nat.le_refl _)
end
def h350_1a10 (d L : Nat) (I : Nat → Nat → Int32) (R : Nat → Nat → Option Nat) (S : List (Nat × Nat)) (Q : Option Value → mM → Prop) (x1 : Int) (x2 : Int) (x3 : Int) : Prop := Wp d (gb 350 1) [.ref 10, .int (oI x1), .int (oI x2), .int (oI x3)] [] (bd L I R S) Q
set_option maxRecDepth 4000 in
theorem e350_1a10 {d L : Nat} {I : Nat → Nat → Int32} {R : Nat → Nat → Option Nat} {S : List (Nat × Nat)} {Q : Option Value → mM → Prop} {A : aS} (hC : RC R S I A) {x1 : Int} {x2 : Int} {x3 : Int} (hE : inR x2 ∧ (inR x3 ∧ (((x2 < x3) → (0 ≤ x2 ∧ x2 < 10) ∧ (h350_1a10 d L (u2 I 10 x2.toNat (oI x1)) R S Q x1 (x2 + 1) x3)) ∧ (¬ (x2 < x3) → Q none (bd L I R S))))) : h350_1a10 d L I R S Q x1 x2 x3 := by
  unfold h350_1a10
  refine xG gb350.2.1 ?_
  refine s4 (x := x2) rfl ?_
  refine s4 (x := x3) rfl ?_
  obtain ⟨g1, hE⟩ := hE
  obtain ⟨g2, hE⟩ := hE
  refine s64 g1 g2 (fun c3 => ?_) (fun c3 => ?_)
  · replace hE := hE.1 c3
    refine s6 (p := 10) rfl ?_
    refine s4 (x := x2) rfl ?_
    refine s4 (x := x1) rfl ?_
    obtain ⟨g4, hE⟩ := hE
    refine s44 sh10 (by decide) g4 rfl ?_
    refine s10 (x := x2) (ls' := [.ref 10, .int (oI x1), .int (oI (x2 + 1)), .int (oI x3)]) rfl rfl ?_
    refine s60 ?_
    exact hE
  · replace hE := hE.2 c3
    refine xG gb350.2.2 ?_
    refine s83 ?_
    exact hE
set_option maxRecDepth 4000 in
theorem e350a10 {d L : Nat} {I : Nat → Nat → Int32} {R : Nat → Nat → Option Nat} {S : List (Nat × Nat)} {K : mM → Prop} {A : aS} (hC : RC R S I A) {x1 : Int} (hE : h350_1a10 d L I R S (rqV K) x1 0 10) : CallV d 350 [.ref 10, .int (oI x1)] (bd L I R S) K := by
  refine cV_of (ls := [.ref 10, .int (oI x1), mUn, mUn]) rfl ?_
  refine xG gb350.1 ?_
  refine s0 ?_
  refine s7 (ls' := [.ref 10, .int (oI x1), .int (oI 0), mUn]) (Nat.le_of_ble_eq_true rfl) rfl ?_
  refine s6 (p := 10) rfl ?_
  refine s48 sh10 (by decide) ?_
  refine s7 (ls' := [.ref 10, .int (oI x1), .int (oI 0), .int (oI 10)]) (Nat.le_of_ble_eq_true rfl) rfl ?_
  refine s79 ?_
  exact hE
section
variable {d L : Nat} {I I0 : mI} {R : mR} {S : mSh} {Q : Option Value → mM → Prop} {A : aS} {c day known kind half year subj code : Int}
theorem l350a10 {v : Int} (hv : inR v) (hK : ∀ I1, Fr [10] [] I0 I1 → (∀ j : Nat, j < 10 → ld I1 10 j = v) → Q none (bd L I1 R S)) : ∀ (f k : Nat) (I : mI), k + f = 10 → RC R S I A → Fr [10] [] I0 I → (∀ j : Nat, j < k → ld I 10 j = v) → h350_1a10 d L I R S Q v k 10 := by
  intro f
  induction f with
  | zero =>
    intro k I hk hC hf hj
    exact e350_1a10 hC ⟨by unfold inR; omega, inRd rfl, fun c => absurd c (by omega), fun _ => hK I hf (fun j h => hj j (by omega))⟩
  | succ f ih =>
    intro k I hk hC hf hj
    refine e350_1a10 hC ⟨by unfold inR; omega, inRd rfl, fun _ => ⟨by omega, ?_⟩, fun c => absurd (by omega) c⟩
    rw [Int.toNat_natCast]
    refine ih (k + 1) _ (by omega) (hC.scr rfl) (hf.wr rfl) (fun j hj2 => ?_)
    rw [ld_w hv]
    split
    · rfl
    · exact hj j (by omega)
theorem k350a10 {v : Int} {K : mM → Prop} (hC : RC R S I A) (hv : inR v) (hK : ∀ I1, Fr [10] [] I I1 → (∀ j : Nat, j < 10 → ld I1 10 j = v) → K (bd L I1 R S)) : CallV d 350 [.ref 10, .int (oI v)] (bd L I R S) K :=
  e350a10 hC (l350a10 hv (fun I1 h1 h2 => rqV_of (hK I1 h1 h2)) 10 0 I (by omega) hC (Fr.refl _ _ _) (fun j hj => by omega))
end
def h350_1a11 (d L : Nat) (I : Nat → Nat → Int32) (R : Nat → Nat → Option Nat) (S : List (Nat × Nat)) (Q : Option Value → mM → Prop) (x1 : Int) (x2 : Int) (x3 : Int) : Prop := Wp d (gb 350 1) [.ref 11, .int (oI x1), .int (oI x2), .int (oI x3)] [] (bd L I R S) Q
set_option maxRecDepth 4000 in
theorem e350_1a11 {d L : Nat} {I : Nat → Nat → Int32} {R : Nat → Nat → Option Nat} {S : List (Nat × Nat)} {Q : Option Value → mM → Prop} {A : aS} (hC : RC R S I A) {x1 : Int} {x2 : Int} {x3 : Int} (hE : inR x2 ∧ (inR x3 ∧ (((x2 < x3) → (0 ≤ x2 ∧ x2 < 10) ∧ (h350_1a11 d L (u2 I 11 x2.toNat (oI x1)) R S Q x1 (x2 + 1) x3)) ∧ (¬ (x2 < x3) → Q none (bd L I R S))))) : h350_1a11 d L I R S Q x1 x2 x3 := by
  unfold h350_1a11
  refine xG gb350.2.1 ?_
  refine s4 (x := x2) rfl ?_
  refine s4 (x := x3) rfl ?_
  obtain ⟨g1, hE⟩ := hE
  obtain ⟨g2, hE⟩ := hE
  refine s64 g1 g2 (fun c3 => ?_) (fun c3 => ?_)
  · replace hE := hE.1 c3
    refine s6 (p := 11) rfl ?_
    refine s4 (x := x2) rfl ?_
    refine s4 (x := x1) rfl ?_
    obtain ⟨g4, hE⟩ := hE
    refine s44 sh11 (by decide) g4 rfl ?_
    refine s10 (x := x2) (ls' := [.ref 11, .int (oI x1), .int (oI (x2 + 1)), .int (oI x3)]) rfl rfl ?_
    refine s60 ?_
    exact hE
  · replace hE := hE.2 c3
    refine xG gb350.2.2 ?_
    refine s83 ?_
    exact hE
set_option maxRecDepth 4000 in
theorem e350a11 {d L : Nat} {I : Nat → Nat → Int32} {R : Nat → Nat → Option Nat} {S : List (Nat × Nat)} {K : mM → Prop} {A : aS} (hC : RC R S I A) {x1 : Int} (hE : h350_1a11 d L I R S (rqV K) x1 0 10) : CallV d 350 [.ref 11, .int (oI x1)] (bd L I R S) K := by
  refine cV_of (ls := [.ref 11, .int (oI x1), mUn, mUn]) rfl ?_
  refine xG gb350.1 ?_
  refine s0 ?_
  refine s7 (ls' := [.ref 11, .int (oI x1), .int (oI 0), mUn]) (Nat.le_of_ble_eq_true rfl) rfl ?_
  refine s6 (p := 11) rfl ?_
  refine s48 sh11 (by decide) ?_
  refine s7 (ls' := [.ref 11, .int (oI x1), .int (oI 0), .int (oI 10)]) (Nat.le_of_ble_eq_true rfl) rfl ?_
  refine s79 ?_
  exact hE
section
variable {d L : Nat} {I I0 : mI} {R : mR} {S : mSh} {Q : Option Value → mM → Prop} {A : aS} {c day known kind half year subj code : Int}
theorem l350a11 {v : Int} (hv : inR v) (hK : ∀ I1, Fr [11] [] I0 I1 → (∀ j : Nat, j < 10 → ld I1 11 j = v) → Q none (bd L I1 R S)) : ∀ (f k : Nat) (I : mI), k + f = 10 → RC R S I A → Fr [11] [] I0 I → (∀ j : Nat, j < k → ld I 11 j = v) → h350_1a11 d L I R S Q v k 10 := by
  intro f
  induction f with
  | zero =>
    intro k I hk hC hf hj
    exact e350_1a11 hC ⟨by unfold inR; omega, inRd rfl, fun c => absurd c (by omega), fun _ => hK I hf (fun j h => hj j (by omega))⟩
  | succ f ih =>
    intro k I hk hC hf hj
    refine e350_1a11 hC ⟨by unfold inR; omega, inRd rfl, fun _ => ⟨by omega, ?_⟩, fun c => absurd (by omega) c⟩
    rw [Int.toNat_natCast]
    refine ih (k + 1) _ (by omega) (hC.scr rfl) (hf.wr rfl) (fun j hj2 => ?_)
    rw [ld_w hv]
    split
    · rfl
    · exact hj j (by omega)
theorem k350a11 {v : Int} {K : mM → Prop} (hC : RC R S I A) (hv : inR v) (hK : ∀ I1, Fr [11] [] I I1 → (∀ j : Nat, j < 10 → ld I1 11 j = v) → K (bd L I1 R S)) : CallV d 350 [.ref 11, .int (oI v)] (bd L I R S) K :=
  e350a11 hC (l350a11 hv (fun I1 h1 h2 => rqV_of (hK I1 h1 h2)) 10 0 I (by omega) hC (Fr.refl _ _ _) (fun j hj => by omega))
end
def h350_1a60 (d L : Nat) (I : Nat → Nat → Int32) (R : Nat → Nat → Option Nat) (S : List (Nat × Nat)) (Q : Option Value → mM → Prop) (x1 : Int) (x2 : Int) (x3 : Int) : Prop := Wp d (gb 350 1) [.ref 60, .int (oI x1), .int (oI x2), .int (oI x3)] [] (bd L I R S) Q
set_option maxRecDepth 4000 in
theorem e350_1a60 {d L : Nat} {I : Nat → Nat → Int32} {R : Nat → Nat → Option Nat} {S : List (Nat × Nat)} {Q : Option Value → mM → Prop} {A : aS} (hC : RC R S I A) {x1 : Int} {x2 : Int} {x3 : Int} (hE : inR x2 ∧ (inR x3 ∧ (((x2 < x3) → (0 ≤ x2 ∧ x2 < 12) ∧ (h350_1a60 d L (u2 I 60 x2.toNat (oI x1)) R S Q x1 (x2 + 1) x3)) ∧ (¬ (x2 < x3) → Q none (bd L I R S))))) : h350_1a60 d L I R S Q x1 x2 x3 := by
  unfold h350_1a60
  refine xG gb350.2.1 ?_
  refine s4 (x := x2) rfl ?_
  refine s4 (x := x3) rfl ?_
  obtain ⟨g1, hE⟩ := hE
  obtain ⟨g2, hE⟩ := hE
  refine s64 g1 g2 (fun c3 => ?_) (fun c3 => ?_)
  · replace hE := hE.1 c3
    refine s6 (p := 60) rfl ?_
    refine s4 (x := x2) rfl ?_
    refine s4 (x := x1) rfl ?_
    obtain ⟨g4, hE⟩ := hE
    refine s44 sh60 (by decide) g4 rfl ?_
    refine s10 (x := x2) (ls' := [.ref 60, .int (oI x1), .int (oI (x2 + 1)), .int (oI x3)]) rfl rfl ?_
    refine s60 ?_
    exact hE
  · replace hE := hE.2 c3
    refine xG gb350.2.2 ?_
    refine s83 ?_
    exact hE
set_option maxRecDepth 4000 in
theorem e350a60 {d L : Nat} {I : Nat → Nat → Int32} {R : Nat → Nat → Option Nat} {S : List (Nat × Nat)} {K : mM → Prop} {A : aS} (hC : RC R S I A) {x1 : Int} (hE : h350_1a60 d L I R S (rqV K) x1 0 12) : CallV d 350 [.ref 60, .int (oI x1)] (bd L I R S) K := by
  refine cV_of (ls := [.ref 60, .int (oI x1), mUn, mUn]) rfl ?_
  refine xG gb350.1 ?_
  refine s0 ?_
  refine s7 (ls' := [.ref 60, .int (oI x1), .int (oI 0), mUn]) (Nat.le_of_ble_eq_true rfl) rfl ?_
  refine s6 (p := 60) rfl ?_
  refine s48 sh60 (by decide) ?_
  refine s7 (ls' := [.ref 60, .int (oI x1), .int (oI 0), .int (oI 12)]) (Nat.le_of_ble_eq_true rfl) rfl ?_
  refine s79 ?_
  exact hE
section
variable {d L : Nat} {I I0 : mI} {R : mR} {S : mSh} {Q : Option Value → mM → Prop} {A : aS} {c day known kind half year subj code : Int}
theorem l350a60 {v : Int} (hv : inR v) (hK : ∀ I1, Fr [60] [] I0 I1 → (∀ j : Nat, j < 12 → ld I1 60 j = v) → Q none (bd L I1 R S)) : ∀ (f k : Nat) (I : mI), k + f = 12 → RC R S I A → Fr [60] [] I0 I → (∀ j : Nat, j < k → ld I 60 j = v) → h350_1a60 d L I R S Q v k 12 := by
  intro f
  induction f with
  | zero =>
    intro k I hk hC hf hj
    exact e350_1a60 hC ⟨by unfold inR; omega, inRd rfl, fun c => absurd c (by omega), fun _ => hK I hf (fun j h => hj j (by omega))⟩
  | succ f ih =>
    intro k I hk hC hf hj
    refine e350_1a60 hC ⟨by unfold inR; omega, inRd rfl, fun _ => ⟨by omega, ?_⟩, fun c => absurd (by omega) c⟩
    rw [Int.toNat_natCast]
    refine ih (k + 1) _ (by omega) (hC.scr rfl) (hf.wr rfl) (fun j hj2 => ?_)
    rw [ld_w hv]
    split
    · rfl
    · exact hj j (by omega)
theorem k350a60 {v : Int} {K : mM → Prop} (hC : RC R S I A) (hv : inR v) (hK : ∀ I1, Fr [60] [] I I1 → (∀ j : Nat, j < 12 → ld I1 60 j = v) → K (bd L I1 R S)) : CallV d 350 [.ref 60, .int (oI v)] (bd L I R S) K :=
  e350a60 hC (l350a60 hv (fun I1 h1 h2 => rqV_of (hK I1 h1 h2)) 12 0 I (by omega) hC (Fr.refl _ _ _) (fun j hj => by omega))
end
def h350_1a61 (d L : Nat) (I : Nat → Nat → Int32) (R : Nat → Nat → Option Nat) (S : List (Nat × Nat)) (Q : Option Value → mM → Prop) (x1 : Int) (x2 : Int) (x3 : Int) : Prop := Wp d (gb 350 1) [.ref 61, .int (oI x1), .int (oI x2), .int (oI x3)] [] (bd L I R S) Q
set_option maxRecDepth 4000 in
theorem e350_1a61 {d L : Nat} {I : Nat → Nat → Int32} {R : Nat → Nat → Option Nat} {S : List (Nat × Nat)} {Q : Option Value → mM → Prop} {A : aS} (hC : RC R S I A) {x1 : Int} {x2 : Int} {x3 : Int} (hE : inR x2 ∧ (inR x3 ∧ (((x2 < x3) → (0 ≤ x2 ∧ x2 < 6) ∧ (h350_1a61 d L (u2 I 61 x2.toNat (oI x1)) R S Q x1 (x2 + 1) x3)) ∧ (¬ (x2 < x3) → Q none (bd L I R S))))) : h350_1a61 d L I R S Q x1 x2 x3 := by
  unfold h350_1a61
  refine xG gb350.2.1 ?_
  refine s4 (x := x2) rfl ?_
  refine s4 (x := x3) rfl ?_
  obtain ⟨g1, hE⟩ := hE
  obtain ⟨g2, hE⟩ := hE
  refine s64 g1 g2 (fun c3 => ?_) (fun c3 => ?_)
  · replace hE := hE.1 c3
    refine s6 (p := 61) rfl ?_
    refine s4 (x := x2) rfl ?_
    refine s4 (x := x1) rfl ?_
    obtain ⟨g4, hE⟩ := hE
    refine s44 sh61 (by decide) g4 rfl ?_
    refine s10 (x := x2) (ls' := [.ref 61, .int (oI x1), .int (oI (x2 + 1)), .int (oI x3)]) rfl rfl ?_
    refine s60 ?_
    exact hE
  · replace hE := hE.2 c3
    refine xG gb350.2.2 ?_
    refine s83 ?_
    exact hE
set_option maxRecDepth 4000 in
theorem e350a61 {d L : Nat} {I : Nat → Nat → Int32} {R : Nat → Nat → Option Nat} {S : List (Nat × Nat)} {K : mM → Prop} {A : aS} (hC : RC R S I A) {x1 : Int} (hE : h350_1a61 d L I R S (rqV K) x1 0 6) : CallV d 350 [.ref 61, .int (oI x1)] (bd L I R S) K := by
  refine cV_of (ls := [.ref 61, .int (oI x1), mUn, mUn]) rfl ?_
  refine xG gb350.1 ?_
  refine s0 ?_
  refine s7 (ls' := [.ref 61, .int (oI x1), .int (oI 0), mUn]) (Nat.le_of_ble_eq_true rfl) rfl ?_
  refine s6 (p := 61) rfl ?_
  refine s48 sh61 (by decide) ?_
  refine s7 (ls' := [.ref 61, .int (oI x1), .int (oI 0), .int (oI 6)]) (Nat.le_of_ble_eq_true rfl) rfl ?_
  refine s79 ?_
  exact hE
section
variable {d L : Nat} {I I0 : mI} {R : mR} {S : mSh} {Q : Option Value → mM → Prop} {A : aS} {c day known kind half year subj code : Int}
theorem l350a61 {v : Int} (hv : inR v) (hK : ∀ I1, Fr [61] [] I0 I1 → (∀ j : Nat, j < 6 → ld I1 61 j = v) → Q none (bd L I1 R S)) : ∀ (f k : Nat) (I : mI), k + f = 6 → RC R S I A → Fr [61] [] I0 I → (∀ j : Nat, j < k → ld I 61 j = v) → h350_1a61 d L I R S Q v k 6 := by
  intro f
  induction f with
  | zero =>
    intro k I hk hC hf hj
    exact e350_1a61 hC ⟨by unfold inR; omega, inRd rfl, fun c => absurd c (by omega), fun _ => hK I hf (fun j h => hj j (by omega))⟩
  | succ f ih =>
    intro k I hk hC hf hj
    refine e350_1a61 hC ⟨by unfold inR; omega, inRd rfl, fun _ => ⟨by omega, ?_⟩, fun c => absurd (by omega) c⟩
    rw [Int.toNat_natCast]
    refine ih (k + 1) _ (by omega) (hC.scr rfl) (hf.wr rfl) (fun j hj2 => ?_)
    rw [ld_w hv]
    split
    · rfl
    · exact hj j (by omega)
theorem k350a61 {v : Int} {K : mM → Prop} (hC : RC R S I A) (hv : inR v) (hK : ∀ I1, Fr [61] [] I I1 → (∀ j : Nat, j < 6 → ld I1 61 j = v) → K (bd L I1 R S)) : CallV d 350 [.ref 61, .int (oI v)] (bd L I R S) K :=
  e350a61 hC (l350a61 hv (fun I1 h1 h2 => rqV_of (hK I1 h1 h2)) 6 0 I (by omega) hC (Fr.refl _ _ _) (fun j hj => by omega))
end
def h350_1a83 (d L : Nat) (I : Nat → Nat → Int32) (R : Nat → Nat → Option Nat) (S : List (Nat × Nat)) (Q : Option Value → mM → Prop) (x1 : Int) (x2 : Int) (x3 : Int) : Prop := Wp d (gb 350 1) [.ref 83, .int (oI x1), .int (oI x2), .int (oI x3)] [] (bd L I R S) Q
set_option maxRecDepth 4000 in
theorem e350_1a83 {d L : Nat} {I : Nat → Nat → Int32} {R : Nat → Nat → Option Nat} {S : List (Nat × Nat)} {Q : Option Value → mM → Prop} {A : aS} (hC : RC R S I A) {x1 : Int} {x2 : Int} {x3 : Int} (hE : inR x2 ∧ (inR x3 ∧ (((x2 < x3) → (0 ≤ x2 ∧ x2 < 40) ∧ (h350_1a83 d L (u2 I 83 x2.toNat (oI x1)) R S Q x1 (x2 + 1) x3)) ∧ (¬ (x2 < x3) → Q none (bd L I R S))))) : h350_1a83 d L I R S Q x1 x2 x3 := by
  unfold h350_1a83
  refine xG gb350.2.1 ?_
  refine s4 (x := x2) rfl ?_
  refine s4 (x := x3) rfl ?_
  obtain ⟨g1, hE⟩ := hE
  obtain ⟨g2, hE⟩ := hE
  refine s64 g1 g2 (fun c3 => ?_) (fun c3 => ?_)
  · replace hE := hE.1 c3
    refine s6 (p := 83) rfl ?_
    refine s4 (x := x2) rfl ?_
    refine s4 (x := x1) rfl ?_
    obtain ⟨g4, hE⟩ := hE
    refine s44 sh83 (by decide) g4 rfl ?_
    refine s10 (x := x2) (ls' := [.ref 83, .int (oI x1), .int (oI (x2 + 1)), .int (oI x3)]) rfl rfl ?_
    refine s60 ?_
    exact hE
  · replace hE := hE.2 c3
    refine xG gb350.2.2 ?_
    refine s83 ?_
    exact hE
set_option maxRecDepth 4000 in
theorem e350a83 {d L : Nat} {I : Nat → Nat → Int32} {R : Nat → Nat → Option Nat} {S : List (Nat × Nat)} {K : mM → Prop} {A : aS} (hC : RC R S I A) {x1 : Int} (hE : h350_1a83 d L I R S (rqV K) x1 0 40) : CallV d 350 [.ref 83, .int (oI x1)] (bd L I R S) K := by
  refine cV_of (ls := [.ref 83, .int (oI x1), mUn, mUn]) rfl ?_
  refine xG gb350.1 ?_
  refine s0 ?_
  refine s7 (ls' := [.ref 83, .int (oI x1), .int (oI 0), mUn]) (Nat.le_of_ble_eq_true rfl) rfl ?_
  refine s6 (p := 83) rfl ?_
  refine s48 sh83 (by decide) ?_
  refine s7 (ls' := [.ref 83, .int (oI x1), .int (oI 0), .int (oI 40)]) (Nat.le_of_ble_eq_true rfl) rfl ?_
  refine s79 ?_
  exact hE
section
variable {d L : Nat} {I I0 : mI} {R : mR} {S : mSh} {Q : Option Value → mM → Prop} {A : aS} {c day known kind half year subj code : Int}
theorem l350a83 {v : Int} (hv : inR v) (hK : ∀ I1, Fr [83] [] I0 I1 → (∀ j : Nat, j < 40 → ld I1 83 j = v) → Q none (bd L I1 R S)) : ∀ (f k : Nat) (I : mI), k + f = 40 → RC R S I A → Fr [83] [] I0 I → (∀ j : Nat, j < k → ld I 83 j = v) → h350_1a83 d L I R S Q v k 40 := by
  intro f
  induction f with
  | zero =>
    intro k I hk hC hf hj
    exact e350_1a83 hC ⟨by unfold inR; omega, inRd rfl, fun c => absurd c (by omega), fun _ => hK I hf (fun j h => hj j (by omega))⟩
  | succ f ih =>
    intro k I hk hC hf hj
    refine e350_1a83 hC ⟨by unfold inR; omega, inRd rfl, fun _ => ⟨by omega, ?_⟩, fun c => absurd (by omega) c⟩
    rw [Int.toNat_natCast]
    refine ih (k + 1) _ (by omega) (hC.scr rfl) (hf.wr rfl) (fun j hj2 => ?_)
    rw [ld_w hv]
    split
    · rfl
    · exact hj j (by omega)
theorem k350a83 {v : Int} {K : mM → Prop} (hC : RC R S I A) (hv : inR v) (hK : ∀ I1, Fr [83] [] I I1 → (∀ j : Nat, j < 40 → ld I1 83 j = v) → K (bd L I1 R S)) : CallV d 350 [.ref 83, .int (oI v)] (bd L I R S) K :=
  e350a83 hC (l350a83 hv (fun I1 h1 h2 => rqV_of (hK I1 h1 h2)) 40 0 I (by omega) hC (Fr.refl _ _ _) (fun j hj => by omega))
end



def h350_1a87 (d L : Nat) (I : Nat → Nat → Int32) (R : Nat → Nat → Option Nat) (S : List (Nat × Nat)) (Q : Option Value → mM → Prop) (x1 : Int) (x2 : Int) (x3 : Int) : Prop := Wp d (gb 350 1) [.ref 87, .int (oI x1), .int (oI x2), .int (oI x3)] [] (bd L I R S) Q
set_option maxRecDepth 4000 in
theorem e350_1a87 {d L : Nat} {I : Nat → Nat → Int32} {R : Nat → Nat → Option Nat} {S : List (Nat × Nat)} {Q : Option Value → mM → Prop}  {x1 : Int} {x2 : Int} {x3 : Int} (hE : inR x2 ∧ (inR x3 ∧ (((x2 < x3) → (0 ≤ x2 ∧ x2 < 10) ∧ (h350_1a87 d L (u2 I 87 x2.toNat (oI x1)) R S Q x1 (x2 + 1) x3)) ∧ (¬ (x2 < x3) → Q none (bd L I R S))))) : h350_1a87 d L I R S Q x1 x2 x3 := by
  unfold h350_1a87
  refine xG gb350.2.1 ?_
  refine s4 (x := x2) rfl ?_
  refine s4 (x := x3) rfl ?_
  obtain ⟨g1, hE⟩ := hE
  obtain ⟨g2, hE⟩ := hE
  refine s64 g1 g2 (fun c3 => ?_) (fun c3 => ?_)
  · replace hE := hE.1 c3
    refine s6 (p := 87) rfl ?_
    refine s4 (x := x2) rfl ?_
    refine s4 (x := x1) rfl ?_
    obtain ⟨g4, hE⟩ := hE
    refine s44 sh87 (by decide) g4 rfl ?_
    refine s10 (x := x2) (ls' := [.ref 87, .int (oI x1), .int (oI (x2 + 1)), .int (oI x3)]) rfl rfl ?_
    refine s60 ?_
    exact hE
  · replace hE := hE.2 c3
    refine xG gb350.2.2 ?_
    refine s83 ?_
    exact hE
set_option maxRecDepth 4000 in
theorem e350a87 {d L : Nat} {I : Nat → Nat → Int32} {R : Nat → Nat → Option Nat} {S : List (Nat × Nat)} {K : mM → Prop}  {x1 : Int} (hE : h350_1a87 d L I R S (rqV K) x1 0 10) : CallV d 350 [.ref 87, .int (oI x1)] (bd L I R S) K := by
  refine cV_of (ls := [.ref 87, .int (oI x1), mUn, mUn]) rfl ?_
  refine xG gb350.1 ?_
  refine s0 ?_
  refine s7 (ls' := [.ref 87, .int (oI x1), .int (oI 0), mUn]) (Nat.le_of_ble_eq_true rfl) rfl ?_
  refine s6 (p := 87) rfl ?_
  refine s48 sh87 (by decide) ?_
  refine s7 (ls' := [.ref 87, .int (oI x1), .int (oI 0), .int (oI 10)]) (Nat.le_of_ble_eq_true rfl) rfl ?_
  refine s79 ?_
  exact hE
section
variable {d L : Nat} {I I0 : mI} {R : mR} {S : mSh} {Q : Option Value → mM → Prop} {A : aS} {c day known kind half year subj code : Int}
theorem l350a87 {v : Int} (hv : inR v) (hK : ∀ I1, Fr [87] [] I0 I1 → (∀ j : Nat, j < 10 → ld I1 87 j = v) → Q none (bd L I1 R S)) : ∀ (f k : Nat) (I : mI), k + f = 10 → Fr [87] [] I0 I → (∀ j : Nat, j < k → ld I 87 j = v) → h350_1a87 d L I R S Q v k 10 := by
  intro f
  induction f with
  | zero =>
    intro k I hk hf hj
    exact e350_1a87 ⟨by unfold inR; omega, inRd rfl, fun c => absurd c (by omega), fun _ => hK I hf (fun j h => hj j (by omega))⟩
  | succ f ih =>
    intro k I hk hf hj
    refine e350_1a87 ⟨by unfold inR; omega, inRd rfl, fun _ => ⟨by omega, ?_⟩, fun c => absurd (by omega) c⟩
    rw [Int.toNat_natCast]
    refine ih (k + 1) _ (by omega) (hf.wr rfl) (fun j hj2 => ?_)
    rw [ld_w hv]
    split
    · rfl
    · exact hj j (by omega)
theorem k350a87 {v : Int} {K : mM → Prop} (hv : inR v) (hK : ∀ I1, Fr [87] [] I I1 → (∀ j : Nat, j < 10 → ld I1 87 j = v) → K (bd L I1 R S)) : CallV d 350 [.ref 87, .int (oI v)] (bd L I R S) K :=
  e350a87 (l350a87 hv (fun I1 h1 h2 => rqV_of (hK I1 h1 h2)) 10 0 I (by omega) (Fr.refl _ _ _) (fun j hj => by omega))
end
def h350_1a89 (d L : Nat) (I : Nat → Nat → Int32) (R : Nat → Nat → Option Nat) (S : List (Nat × Nat)) (Q : Option Value → mM → Prop) (x1 : Int) (x2 : Int) (x3 : Int) : Prop := Wp d (gb 350 1) [.ref 89, .int (oI x1), .int (oI x2), .int (oI x3)] [] (bd L I R S) Q
set_option maxRecDepth 4000 in
theorem e350_1a89 {d L : Nat} {I : Nat → Nat → Int32} {R : Nat → Nat → Option Nat} {S : List (Nat × Nat)} {Q : Option Value → mM → Prop}  {x1 : Int} {x2 : Int} {x3 : Int} (hE : inR x2 ∧ (inR x3 ∧ (((x2 < x3) → (0 ≤ x2 ∧ x2 < 600) ∧ (h350_1a89 d L (u2 I 89 x2.toNat (oI x1)) R S Q x1 (x2 + 1) x3)) ∧ (¬ (x2 < x3) → Q none (bd L I R S))))) : h350_1a89 d L I R S Q x1 x2 x3 := by
  unfold h350_1a89
  refine xG gb350.2.1 ?_
  refine s4 (x := x2) rfl ?_
  refine s4 (x := x3) rfl ?_
  obtain ⟨g1, hE⟩ := hE
  obtain ⟨g2, hE⟩ := hE
  refine s64 g1 g2 (fun c3 => ?_) (fun c3 => ?_)
  · replace hE := hE.1 c3
    refine s6 (p := 89) rfl ?_
    refine s4 (x := x2) rfl ?_
    refine s4 (x := x1) rfl ?_
    obtain ⟨g4, hE⟩ := hE
    refine s44 sh89 (by decide) g4 rfl ?_
    refine s10 (x := x2) (ls' := [.ref 89, .int (oI x1), .int (oI (x2 + 1)), .int (oI x3)]) rfl rfl ?_
    refine s60 ?_
    exact hE
  · replace hE := hE.2 c3
    refine xG gb350.2.2 ?_
    refine s83 ?_
    exact hE
set_option maxRecDepth 4000 in
theorem e350a89 {d L : Nat} {I : Nat → Nat → Int32} {R : Nat → Nat → Option Nat} {S : List (Nat × Nat)} {K : mM → Prop}  {x1 : Int} (hE : h350_1a89 d L I R S (rqV K) x1 0 600) : CallV d 350 [.ref 89, .int (oI x1)] (bd L I R S) K := by
  refine cV_of (ls := [.ref 89, .int (oI x1), mUn, mUn]) rfl ?_
  refine xG gb350.1 ?_
  refine s0 ?_
  refine s7 (ls' := [.ref 89, .int (oI x1), .int (oI 0), mUn]) (Nat.le_of_ble_eq_true rfl) rfl ?_
  refine s6 (p := 89) rfl ?_
  refine s48 sh89 (by decide) ?_
  refine s7 (ls' := [.ref 89, .int (oI x1), .int (oI 0), .int (oI 600)]) (Nat.le_of_ble_eq_true rfl) rfl ?_
  refine s79 ?_
  exact hE
section
variable {d L : Nat} {I I0 : mI} {R : mR} {S : mSh} {Q : Option Value → mM → Prop} {A : aS} {c day known kind half year subj code : Int}
theorem l350a89 {v : Int} (hv : inR v) (hK : ∀ I1, Fr [89] [] I0 I1 → (∀ j : Nat, j < 600 → ld I1 89 j = v) → Q none (bd L I1 R S)) : ∀ (f k : Nat) (I : mI), k + f = 600 → Fr [89] [] I0 I → (∀ j : Nat, j < k → ld I 89 j = v) → h350_1a89 d L I R S Q v k 600 := by
  intro f
  induction f with
  | zero =>
    intro k I hk hf hj
    exact e350_1a89 ⟨by unfold inR; omega, inRd rfl, fun c => absurd c (by omega), fun _ => hK I hf (fun j h => hj j (by omega))⟩
  | succ f ih =>
    intro k I hk hf hj
    refine e350_1a89 ⟨by unfold inR; omega, inRd rfl, fun _ => ⟨by omega, ?_⟩, fun c => absurd (by omega) c⟩
    rw [Int.toNat_natCast]
    refine ih (k + 1) _ (by omega) (hf.wr rfl) (fun j hj2 => ?_)
    rw [ld_w hv]
    split
    · rfl
    · exact hj j (by omega)
theorem k350a89 {v : Int} {K : mM → Prop} (hv : inR v) (hK : ∀ I1, Fr [89] [] I I1 → (∀ j : Nat, j < 600 → ld I1 89 j = v) → K (bd L I1 R S)) : CallV d 350 [.ref 89, .int (oI v)] (bd L I R S) K :=
  e350a89 (l350a89 hv (fun I1 h1 h2 => rqV_of (hK I1 h1 h2)) 600 0 I (by omega) (Fr.refl _ _ _) (fun j hj => by omega))
end
def h350_1a90 (d L : Nat) (I : Nat → Nat → Int32) (R : Nat → Nat → Option Nat) (S : List (Nat × Nat)) (Q : Option Value → mM → Prop) (x1 : Int) (x2 : Int) (x3 : Int) : Prop := Wp d (gb 350 1) [.ref 90, .int (oI x1), .int (oI x2), .int (oI x3)] [] (bd L I R S) Q
set_option maxRecDepth 4000 in
theorem e350_1a90 {d L : Nat} {I : Nat → Nat → Int32} {R : Nat → Nat → Option Nat} {S : List (Nat × Nat)} {Q : Option Value → mM → Prop}  {x1 : Int} {x2 : Int} {x3 : Int} (hE : inR x2 ∧ (inR x3 ∧ (((x2 < x3) → (0 ≤ x2 ∧ x2 < 60) ∧ (h350_1a90 d L (u2 I 90 x2.toNat (oI x1)) R S Q x1 (x2 + 1) x3)) ∧ (¬ (x2 < x3) → Q none (bd L I R S))))) : h350_1a90 d L I R S Q x1 x2 x3 := by
  unfold h350_1a90
  refine xG gb350.2.1 ?_
  refine s4 (x := x2) rfl ?_
  refine s4 (x := x3) rfl ?_
  obtain ⟨g1, hE⟩ := hE
  obtain ⟨g2, hE⟩ := hE
  refine s64 g1 g2 (fun c3 => ?_) (fun c3 => ?_)
  · replace hE := hE.1 c3
    refine s6 (p := 90) rfl ?_
    refine s4 (x := x2) rfl ?_
    refine s4 (x := x1) rfl ?_
    obtain ⟨g4, hE⟩ := hE
    refine s44 sh90 (by decide) g4 rfl ?_
    refine s10 (x := x2) (ls' := [.ref 90, .int (oI x1), .int (oI (x2 + 1)), .int (oI x3)]) rfl rfl ?_
    refine s60 ?_
    exact hE
  · replace hE := hE.2 c3
    refine xG gb350.2.2 ?_
    refine s83 ?_
    exact hE
set_option maxRecDepth 4000 in
theorem e350a90 {d L : Nat} {I : Nat → Nat → Int32} {R : Nat → Nat → Option Nat} {S : List (Nat × Nat)} {K : mM → Prop}  {x1 : Int} (hE : h350_1a90 d L I R S (rqV K) x1 0 60) : CallV d 350 [.ref 90, .int (oI x1)] (bd L I R S) K := by
  refine cV_of (ls := [.ref 90, .int (oI x1), mUn, mUn]) rfl ?_
  refine xG gb350.1 ?_
  refine s0 ?_
  refine s7 (ls' := [.ref 90, .int (oI x1), .int (oI 0), mUn]) (Nat.le_of_ble_eq_true rfl) rfl ?_
  refine s6 (p := 90) rfl ?_
  refine s48 sh90 (by decide) ?_
  refine s7 (ls' := [.ref 90, .int (oI x1), .int (oI 0), .int (oI 60)]) (Nat.le_of_ble_eq_true rfl) rfl ?_
  refine s79 ?_
  exact hE
section
variable {d L : Nat} {I I0 : mI} {R : mR} {S : mSh} {Q : Option Value → mM → Prop} {A : aS} {c day known kind half year subj code : Int}
theorem l350a90 {v : Int} (hv : inR v) (hK : ∀ I1, Fr [90] [] I0 I1 → (∀ j : Nat, j < 60 → ld I1 90 j = v) → Q none (bd L I1 R S)) : ∀ (f k : Nat) (I : mI), k + f = 60 → Fr [90] [] I0 I → (∀ j : Nat, j < k → ld I 90 j = v) → h350_1a90 d L I R S Q v k 60 := by
  intro f
  induction f with
  | zero =>
    intro k I hk hf hj
    exact e350_1a90 ⟨by unfold inR; omega, inRd rfl, fun c => absurd c (by omega), fun _ => hK I hf (fun j h => hj j (by omega))⟩
  | succ f ih =>
    intro k I hk hf hj
    refine e350_1a90 ⟨by unfold inR; omega, inRd rfl, fun _ => ⟨by omega, ?_⟩, fun c => absurd (by omega) c⟩
    rw [Int.toNat_natCast]
    refine ih (k + 1) _ (by omega) (hf.wr rfl) (fun j hj2 => ?_)
    rw [ld_w hv]
    split
    · rfl
    · exact hj j (by omega)
theorem k350a90 {v : Int} {K : mM → Prop} (hv : inR v) (hK : ∀ I1, Fr [90] [] I I1 → (∀ j : Nat, j < 60 → ld I1 90 j = v) → K (bd L I1 R S)) : CallV d 350 [.ref 90, .int (oI v)] (bd L I R S) K :=
  e350a90 (l350a90 hv (fun I1 h1 h2 => rqV_of (hK I1 h1 h2)) 60 0 I (by omega) (Fr.refl _ _ _) (fun j hj => by omega))
end
