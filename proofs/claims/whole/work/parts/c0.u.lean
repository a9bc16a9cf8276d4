section
variable {d L : Nat} {I I0 : mI} {R : mR} {S : mSh} {Q : Option Value → mM → Prop} {A : aS} {c day known kind half year subj code : Int}
theorem paS_mono (hT : WfT A) {h : Nat} (hh : h < (A 91 63).toNat) {r : Int} (hr : 0 ≤ r) : paS A h r ≤ paS A h (r + 1) := by
  have v := hT.2.2.2.1 h hh
  have hm : A 136 h * r ≤ A 136 h * (r + 1) := Int.mul_le_mul_of_nonneg_left (by omega) (by omega)
  have h0 : 0 ≤ A 136 h * r := Int.mul_nonneg (by omega) hr
  unfold paS
  rw [Int.toNat_natCast]
  split
  · rw [Int.tdiv_eq_ediv_of_nonneg h0, Int.tdiv_eq_ediv_of_nonneg (by omega)]; omega
  · exact hm
theorem coL_mono (hT : WfT A) {r : Int} (hr : 0 ≤ r) : ∀ h : Nat, h ≤ (A 91 63).toNat → coL A r h ≤ coL A (r + 1) h
  | 0, _ => Int.le_refl _
  | h + 1, hh => by
    have ih := coL_mono hT hr h (by omega)
    have := paS_mono hT (h := h) (by omega) hr
    show coL A r h + paS A h r ≤ coL A (r + 1) h + paS A h (r + 1)
    omega
theorem coS_mono (hT : WfT A) {r : Int} (hr : 0 ≤ r) : ∀ k : Nat, coS A r ≤ coS A (r + k)
  | 0 => by rw [show r + ((0 : Nat) : Int) = r by omega]; exact Int.le_refl _
  | k + 1 => by
    have ih := coS_mono hT hr k
    have := coL_mono hT (r := r + k) (by omega) (A 91 63).toNat (Nat.le_refl _)
    rw [show r + ((k + 1 : Nat) : Int) = r + k + 1 by omega]
    unfold coS at ih ⊢
    omega
theorem rtF_spec (hT : WfT A) {w : Int} : ∀ (f r : Nat), (r : Int) ≤ rtF A w f r ∧ rtF A w f r ≤ r + f ∧ (∀ j : Nat, r ≤ j → (j : Int) < rtF A w f r → coS A j < w) ∧ (rtF A w f r < r + f → ¬ coS A (rtF A w f r) < w)
  | 0, r => ⟨Int.le_refl _, by show (r : Int) ≤ r + (0 : Nat); omega, fun j h1 h2 => by have h3 : (j : Int) < r := h2; omega, fun h => by have h3 : (r : Int) < r + (0 : Nat) := h; omega⟩
  | f + 1, r => by
    have e : rtF A w (f + 1) r = if coS A r < w then rtF A w f (r + 1) else r := rfl
    rw [e]
    by_cases q : coS A r < w
    · rw [if_pos q]
      obtain ⟨i1, i2, i3, i4⟩ := rtF_spec hT (w := w) f (r + 1)
      refine ⟨by omega, by omega, fun j h1 h2 => ?_, fun h => i4 (by omega)⟩
      by_cases e2 : j = r
      · rw [e2]; exact q
      · exact i3 j (by omega) h2
    · rw [if_neg q]
      exact ⟨Int.le_refl _, by omega, fun j h1 h2 => by omega, fun _ => q⟩
theorem rt_iff (hT : WfT A) {w r : Int} (hr : 0 ≤ r ∧ r ≤ 480) : coS A r < w ↔ r < rtS A w := by
  obtain ⟨i1, i2, i3, i4⟩ := rtF_spec hT (w := w) 481 0
  have e : rtF A w 481 0 = rtS A w := rfl
  rw [e] at i1 i2 i3 i4
  constructor
  · intro q
    apply Classical.byContradiction
    intro hn
    have h1 := i4 (by omega)
    have h2 := coS_mono hT (r := rtS A w) (by omega) (r - rtS A w).toNat
    rw [show rtS A w + (((r - rtS A w).toNat : Nat) : Int) = r by omega] at h2
    omega
  · intro q
    have := i3 r.toNat (by omega) (by omega)
    rwa [show ((r.toNat : Nat) : Int) = r by omega] at this
theorem l76 {w : Int} (hC : RC R S I A) (hT : WfT A) (hWC : WfC A) (hw : inR w) (hQ : Q (some (.int (oI (if 480 < rtS A w then -1 else rtS A w)))) (bd L I R S)) : ∀ (e : Nat) (lo : Int) (w5 : Value), e ≤ 9 → -1 ≤ lo → lo ≤ rtS A w - 1 → rtS A w - 1 < lo + 2 ^ e → h76_1 (d + 2) L I R S Q w (smS A) lo (if e = 0 then 0 else 2 ^ (e - 1)) w5 := by
  obtain ⟨i1, i2, -, -⟩ := rtF_spec hT (w := w) 481 0
  have er : rtF A w 481 0 = rtS A w := rfl
  rw [er] at i1 i2
  intro e
  induction e with
  | zero =>
    intro lo w5 he h1 h2 h3
    rw [if_pos rfl]
    have h3 : rtS A w - 1 < lo + 1 := h3
    refine e76_1 (d := d) hC ⟨inRd rfl, fun q => by exfalso; omega, fun _ => ⟨by unfold inR; omega, fun q => ?_, fun q => ?_⟩⟩
    · rw [if_pos (by omega)] at hQ; exact hQ
    · rw [if_neg (by omega), show rtS A w = lo + 1 by omega] at hQ; exact hQ
  | succ e ih =>
    intro lo w5 he h1 h2 h3
    rw [if_neg (by omega), Nat.add_sub_cancel]
    have hp : (2 : Int) ^ (e + 1) = 2 * 2 ^ e := by rw [Int.pow_succ]; omega
    have h9 : ((2 ^ e : Nat) : Int) = (2 : Int) ^ e := by simp
    have h8 : 1 ≤ (2 : Nat) ^ e := Nat.one_le_two_pow
    have hp1 : (1 : Int) ≤ 2 ^ e := by omega
    have hp2 : (2 : Int) ^ e ≤ 256 := by
      have : (2 : Nat) ^ e ≤ 2 ^ 8 := Nat.pow_le_pow_right (by decide) (by omega)
      omega
    have hd : Int.tdiv ((2 : Int) ^ e) 2 = if e = 0 then 0 else 2 ^ (e - 1) := by
      rw [Int.tdiv_eq_ediv_of_nonneg (by omega)]
      by_cases e0 : e = 0
      · rw [e0]; rfl
      · rw [if_neg e0]
        obtain ⟨k, rfl⟩ : ∃ k, e = k + 1 := ⟨e - 1, by omega⟩
        rw [Int.pow_succ, Nat.add_sub_cancel]; omega
    have ih := fun lo w5 => ih lo w5 (by omega)
    refine e76_1 (d := d) hC ⟨by unfold inR; omega, fun _ => ⟨by unfold inR; omega, fun q => ?_, fun q => ⟨hT, hWC, by omega, rfl, ?_⟩⟩, fun q => by exfalso; omega⟩
    · rw [hd]; exact ih lo _ h1 h2 (by omega)
    · have ci := coS_in hT (r := lo + 2 ^ e) (by omega)
      have ri := rt_iff hT (w := w) (r := lo + 2 ^ e) (by omega)
      rw [hd]
      refine ⟨by unfold inR; omega, hw, fun q2 => ih _ _ (by omega) (by have := ri.mp q2; omega) (by omega), fun q2 => ih _ _ h1 h2 ?_⟩
      have : ¬ lo + 2 ^ e < rtS A w := fun h => q2 (ri.mpr h)
      omega
theorem k76 {w sm : Int} {K : Int32 → mM → Prop} (hC : RC R S I A) (hT : WfT A) (hWC : WfC A) (hw : inR w) (hs : sm = smS A) (hK : K (oI (if 480 < rtS A w then -1 else rtS A w)) (bd L I R S)) : CallI (d + 2) 76 [.ref 9, .int (oI w), .int (oI sm)] (bd L I R S) K := by
  obtain ⟨i1, i2, -, -⟩ := rtF_spec hT (w := w) 481 0
  have er : rtF A w 481 0 = rtS A w := rfl
  rw [er] at i1 i2
  rw [hs]
  exact e76 (d := d + 2) hC (l76 (d := d) hC hT hWC hw (rqI_of hK) 9 (-1) mUn (Nat.le_refl _) (by omega) (by omega) (by have : (2 : Int) ^ 9 = 512 := rfl; omega))
/-! the officer's round -/
def HdC (A : aS) (I : mI) : Prop := ∀ s : Nat, s < 10 → ld I 10 s = lk9 A s ∧ ld I 11 s = lv9 A s
theorem oiL_down {V : Nat → Int} {set : Int} : ∀ {m n : Nat}, n ≤ m → oiL V set n = false → oiL V set m = false
  | 0, n, h, hb => by rw [show n = 0 by omega] at hb; exact hb
  | m + 1, n, h, hb => by
    by_cases e : n = m + 1
    · rw [← e]; exact hb
    · have ih := oiL_down (show n ≤ m by omega) hb
      show (if iAnd (iShr set m) 1 = 0 then oiL V set m else oiL V set m && decide (0 < V m)) = false
      rw [ih]
      split <;> rfl
theorem l69 {set : Int} {m : Int} (hC : RC R S I A) (hW : WfA A) (hWC : WfC A) (hX : WfX A) (hm : inR m) (hd : HdC A I) (hK : ∀ I1, I1 = (if oiL (lv9 A) set 10 = true ∧ otS A set ≤ m ∧ ld I 9 15 < osL (lk9 A) set 10 then u2 (u2 (u2 I 9 14 (oI set)) 9 15 (oI (osL (lk9 A) set 10))) 9 16 (oI (otS A set)) else I) → Q none (bd L I1 R S)) : ∀ (n s : Nat), s + n = 10 → oiL (lv9 A) set s = true → h69_1 (d + 1) L I R S Q set m (osL (lk9 A) set s) (2 * osL (lv9 A) set s) (ofL A set s) s := by
  have b1 := fun s h => osL_in (V := lk9 A) (set := set) (M := 1600) (fun s _ => lk9_in hW hWC s) s h
  have b2 := fun s h => osL_in (V := lv9 A) (set := set) (M := 40) (fun s _ => lv9_in hW s) s h
  have b3 := fun s h => ofL_in hX (set := set) s h
  intro n
  induction n with
  | zero =>
    intro s hs ho
    obtain rfl : s = 10 := by omega
    have c1 := b1 10 (by omega)
    have c2 := b2 10 (by omega)
    have c3 := b3 10 (by omega)
    have eo : 2 * osL (lv9 A) set 10 + ofL A set 10 * 2 = otS A set := by unfold otS; omega
    refine e69_1 hC ?_
    rw [eo]
    refine ⟨by unfold inR; omega, fun q => by exfalso; omega, fun _ => ⟨by unfold inR otS; omega, hm, fun q => ?_, fun q => ⟨by unfold inR; omega, fun q2 => ?_, fun q2 => ?_⟩⟩⟩
    · exact hK I (by rw [if_neg (by omega)])
    · exact hK _ (by rw [if_pos ⟨ho, by omega, q2⟩])
    · exact hK I (by rw [if_neg (by omega)])
  | succ n ih =>
    intro s hs ho
    have ih := ih (s + 1) (by omega)
    have x1 : osL (lk9 A) set (s + 1) = if iAnd (iShr set s) 1 = 0 then osL (lk9 A) set s else osL (lk9 A) set s + lk9 A s := rfl
    have x2 : osL (lv9 A) set (s + 1) = if iAnd (iShr set s) 1 = 0 then osL (lv9 A) set s else osL (lv9 A) set s + lv9 A s := rfl
    have x3 : ofL A set (s + 1) = if iAnd (iShr set s) 1 = 0 then ofL A set s else max (ofL A set s) (A 101 s + A 102 s) := rfl
    have x4 : oiL (lv9 A) set (s + 1) = if iAnd (iShr set s) 1 = 0 then oiL (lv9 A) set s else oiL (lv9 A) set s && decide (0 < lv9 A s) := rfl
    have c3 := b3 s (by omega)
    have w := hX.2.1 s (by omega)
    have lv := lv9_in hW s
    rw [x1, x2, x3, x4] at ih
    refine e69_1 hC ?_
    rw [Int.toNat_natCast, (hd s (by omega)).1, (hd s (by omega)).2]
    refine ⟨by unfold inR; omega, fun _ => ⟨fun q => ?_, fun q => ⟨by omega, fun q2 => ?_, fun q2 => ⟨by unfold inR; omega, by unfold inR; omega, ?_⟩⟩⟩, fun q => by exfalso; omega⟩
    · rw [if_pos q, if_pos q, if_pos q, if_pos q] at ih
      exact ih ho
    · have hf : oiL (lv9 A) set 10 = false := oiL_down (show s + 1 ≤ 10 by omega) (by rw [x4, if_neg q, q2, ho]; rfl)
      exact hK I (by rw [if_neg]; rintro ⟨h, -⟩; rw [hf] at h; cases h)
    · rw [if_neg q, if_neg q, if_neg q, if_neg q] at ih
      have := ih (by rw [ho, decide_eq_true (by omega)]; rfl)
      rw [show 2 * (osL (lv9 A) set s + lv9 A s) = 2 * osL (lv9 A) set s + lv9 A s * 2 by omega] at this
      exact this
theorem k69 {set m : Int} {K : mM → Prop} (hC : RC R S I A) (hW : WfA A) (hWC : WfC A) (hX : WfX A) (hm : inR m) (hd : HdC A I) (hK : ∀ I1, I1 = (if oiL (lv9 A) set 10 = true ∧ otS A set ≤ m ∧ ld I 9 15 < osL (lk9 A) set 10 then u2 (u2 (u2 I 9 14 (oI set)) 9 15 (oI (osL (lk9 A) set 10))) 9 16 (oI (otS A set)) else I) → K (bd L I1 R S)) : CallV (d + 1) 69 [.ref 9, .int (oI set), .int (oI m)] (bd L I R S) K :=
  e69 (d := d + 1) hC (l69 hC hW hWC hX hm hd (fun I1 h => rqV_of (hK I1 h)) 10 0 rfl rfl)
def RdP (A : aS) (I : mI) (m : Int) (k : Nat) : Prop := ld I 9 14 = (obS A m k).1 ∧ ld I 9 15 = (obS A m k).2.1 ∧ ld I 9 16 = (obS A m k).2.2
theorem k69' {set m : Int} {k : Nat} {K : mM → Prop} (hC : RC R S I A) (hW : WfA A) (hWC : WfC A) (hX : WfX A) (hm : inR m) (hs : set = ((k + 1 : Nat) : Int)) (hkB : k < 1023) (hp : RdP A I m k) (hd : HdC A I) (hK : ∀ I1, Fr [] [(9, 14), (9, 15), (9, 16)] I I1 → RdP A I1 m (k + 1) → K (bd L I1 R S)) : CallV (d + 1) 69 [.ref 9, .int (oI set), .int (oI m)] (bd L I R S) K := by
  subst hs
  by_cases hk : k < 1023
  · refine k69 hC hW hWC hX hm hd (fun I1 h1 => ?_)
    have e : obS A m (k + 1) = if oiL (lv9 A) ((k + 1 : Nat) : Int) 10 = true ∧ otS A ((k + 1 : Nat) : Int) ≤ m ∧ (obS A m k).2.1 < osL (lk9 A) ((k + 1 : Nat) : Int) 10 then (((k + 1 : Nat) : Int), osL (lk9 A) ((k + 1 : Nat) : Int) 10, otS A ((k + 1 : Nat) : Int)) else obS A m k := rfl
    have b1 := osL_in (V := lk9 A) (set := ((k + 1 : Nat) : Int)) (M := 1600) (fun s _ => lk9_in hW hWC s) 10 (by omega)
    have b2 := osL_in (V := lv9 A) (set := ((k + 1 : Nat) : Int)) (M := 40) (fun s _ => lv9_in hW s) 10 (by omega)
    have b3 := ofL_in hX (set := ((k + 1 : Nat) : Int)) 10 (by omega)
    have r1 : inR ((k + 1 : Nat) : Int) := by unfold inR; omega
    have r2 : inR (osL (lk9 A) ((k + 1 : Nat) : Int) 10) := by unfold inR; omega
    have r3 : inR (otS A ((k + 1 : Nat) : Int)) := by unfold inR otS; omega
    rw [hp.2.1] at h1
    subst h1
    by_cases q : oiL (lv9 A) ((k + 1 : Nat) : Int) 10 = true ∧ otS A ((k + 1 : Nat) : Int) ≤ m ∧ (obS A m k).2.1 < osL (lk9 A) ((k + 1 : Nat) : Int) 10
    · rw [if_pos q]
      refine hK _ ((((Fr.refl _ _ _).wr rfl).wr rfl).wr rfl) ?_
      unfold RdP
      rw [e, if_pos q]
      refine ⟨?_, ?_, ?_⟩
      · rw [ld_w r3, if_neg (by decide), ld_w r2, if_neg (by decide), ld_w r1, if_pos rfl]
      · rw [ld_w r3, if_neg (by decide), ld_w r2, if_pos rfl]
      · rw [ld_w r3, if_pos rfl]
    · rw [if_neg q]
      refine hK _ (Fr.refl _ _ _) ?_
      unfold RdP
      rw [e, if_neg q]
      exact hp
  · exact absurd hkB hk
end
def h68_1 (d L : Nat) (I : Nat → Nat → Int32) (R : Nat → Nat → Option Nat) (S : List (Nat × Nat)) (Q : Option Value → mM → Prop) (x1 : Int) (x2 : Int) : Prop := Wp d (gb 68 1) [.ref 9, .int (oI x1), .int (oI x2)] [] (bd L I R S) Q
set_option maxRecDepth 4000 in
theorem e68_1 {d L : Nat} {I : Nat → Nat → Int32} {R : Nat → Nat → Option Nat} {S : List (Nat × Nat)} {Q : Option Value → mM → Prop} {A : aS} (hC : RC R S I A) {x1 : Int} {x2 : Int} (hE : inR x2 ∧ (((x2 < 1024) → WfA A ∧ (WfC A ∧ (WfX A ∧ (inR x1 ∧ (∃ z7 : Nat, (x2 = ((z7 + 1 : Nat) : Int)) ∧ z7 < 1023 ∧ RdP A I x1 z7 ∧ HdC A I ∧ (∀ (I12 : mI), (Fr [] [(9, 14), (9, 15), (9, 16)] I I12) → (RdP A I12 x1 (z7 + 1)) → h68_1 (d + 2) L I12 R S Q x1 (x2 + 1))))))) ∧ (¬ (x2 < 1024) → Q none (bd L I R S)))) : h68_1 (d + 2) L I R S Q x1 x2 := by
  unfold h68_1
  refine xG gb68.2.1 ?_
  refine s4 (x := x2) rfl ?_
  refine s0 ?_
  obtain ⟨g1, hE⟩ := hE
  refine s64 g1 (inRd rfl) (fun c2 => ?_) (fun c2 => ?_)
  · replace hE := hE.1 c2
    refine s6 (p := 9) rfl ?_
    refine s4 (x := x2) rfl ?_
    refine s4 (x := x1) rfl ?_
    obtain ⟨g3, hE⟩ := hE
    obtain ⟨g4, hE⟩ := hE
    obtain ⟨g5, hE⟩ := hE
    obtain ⟨g6, hE⟩ := hE
    obtain ⟨z7, k8, k9, k10, k11, hE⟩ := hE
    refine sV rc69 rfl (Nat.le_of_ble_eq_true rfl) ?_
    refine k69' hC g3 g4 g5 g6 k8 k9 k10 k11 (fun I12 q13 q14 => ?_)
    replace hE := hE I12 q13 q14
    refine s10 (x := x2) (ls' := [.ref 9, .int (oI x1), .int (oI (x2 + 1))]) rfl rfl ?_
    refine s60 ?_
    exact hE
  · replace hE := hE.2 c2
    refine xG gb68.2.2 ?_
    refine s83 ?_
    exact hE
set_option maxRecDepth 4000 in
theorem e68 {d L : Nat} {I : Nat → Nat → Int32} {R : Nat → Nat → Option Nat} {S : List (Nat × Nat)} {K : mM → Prop} {A : aS} (hC : RC R S I A) {x1 : Int} (hE : h68_1 d L (u2 (u2 (u2 I 9 14 (oI 0)) 9 15 (oI 0)) 9 16 (oI 0)) R S (rqV K) x1 1) : CallV d 68 [.ref 9, .int (oI x1)] (bd L I R S) K := by
  refine cV_of (ls := [.ref 9, .int (oI x1), mUn]) rfl ?_
  refine xG gb68.1 ?_
  refine s6 (p := 9) rfl ?_
  refine s0 ?_
  refine s52 sh9 (by decide) (by decide) ?_
  refine s6 (p := 9) rfl ?_
  refine s0 ?_
  refine s52 sh9 (by decide) (by decide) ?_
  refine s6 (p := 9) rfl ?_
  refine s0 ?_
  refine s52 sh9 (by decide) (by decide) ?_
  refine s0 ?_
  refine s7 (ls' := [.ref 9, .int (oI x1), .int (oI 1)]) (Nat.le_of_ble_eq_true rfl) rfl ?_
  refine s79 ?_
  exact hE
def h73_1 (d L : Nat) (I : Nat → Nat → Int32) (R : Nat → Nat → Option Nat) (S : List (Nat × Nat)) (Q : Option Value → mM → Prop) (x1 : Int) (x2 : Int) (x3 : Int) (x4 : Int) (x5 : Int) : Prop := Wp d (gb 73 1) [.ref 9, .int (oI x1), .int (oI x2), .int (oI x3), .int (oI x4), .int (oI x5)] [] (bd L I R S) Q
set_option maxRecDepth 4000 in
theorem e73_1 {d L : Nat} {I : Nat → Nat → Int32} {R : Nat → Nat → Option Nat} {S : List (Nat × Nat)} {Q : Option Value → mM → Prop} {A : aS} (hC : RC R S I A) {x1 : Int} {x2 : Int} {x3 : Int} {x4 : Int} {x5 : Int} (hE : inR x5 ∧ (((x5 < 10) → (0 ≤ x5 ∧ x5 < 10) ∧ (inR (A 101 x5.toNat - x1) ∧ (inR (A 102 x5.toNat - x2) ∧ (inR (ab (A 101 x5.toNat - x1) + (ab (A 102 x5.toNat - x2))) ∧ (inR x3 ∧ (((x3 < ab (A 101 x5.toNat - x1) + (ab (A 102 x5.toNat - x2))) → h73_1 (d + 1) L I R S Q x1 x2 x3 x4 (x5 + 1)) ∧ (¬ (x3 < ab (A 101 x5.toNat - x1) + (ab (A 102 x5.toNat - x2))) → h73_1 (d + 1) L I R S Q x1 x2 x3 (iOr x4 (iShl 1 x5)) (x5 + 1)))))))) ∧ (¬ (x5 < 10) → Q (some (.int (oI x4))) (bd L I R S)))) : h73_1 (d + 1) L I R S Q x1 x2 x3 x4 x5 := by
  unfold h73_1
  refine xG gb73.2.1 ?_
  refine s4 (x := x5) rfl ?_
  refine s0 ?_
  obtain ⟨g1, hE⟩ := hE
  refine s64 g1 (inRd rfl) (fun c2 => ?_) (fun c2 => ?_)
  · replace hE := hE.1 c2
    refine s6 (p := 9) rfl ?_
    refine s51 sh9 (by decide) (by decide) rf9_2 ?_
    refine s4 (x := x5) rfl ?_
    obtain ⟨g3, hE⟩ := hE
    refine s40 (v := A 101 x5.toNat) sh12 g3 rfl (rdC hC.1 rfl) ?_
    refine s4 (x := x1) rfl ?_
    refine s17 ?_
    obtain ⟨g4, hE⟩ := hE
    refine sI rc347 rfl (Nat.le_of_ble_eq_true rfl) ?_
    refine k347 g4 ?_
    refine s6 (p := 9) rfl ?_
    refine s51 sh9 (by decide) (by decide) rf9_3 ?_
    refine s4 (x := x5) rfl ?_
    refine s40 (v := A 102 x5.toNat) sh13 g3 rfl (rdC hC.1 rfl) ?_
    refine s4 (x := x2) rfl ?_
    refine s17 ?_
    obtain ⟨g5, hE⟩ := hE
    refine sI rc347 rfl (Nat.le_of_ble_eq_true rfl) ?_
    refine k347 g5 ?_
    refine s16 ?_
    refine s4 (x := x3) rfl ?_
    obtain ⟨g6, hE⟩ := hE
    obtain ⟨g7, hE⟩ := hE
    refine s65 g6 g7 (fun c8 => ?_) (fun c8 => ?_)
    · replace hE := hE.1 c8
      refine xG gb73.2.2.1 ?_
      refine s10 (x := x5) (ls' := [.ref 9, .int (oI x1), .int (oI x2), .int (oI x3), .int (oI x4), .int (oI (x5 + 1))]) rfl rfl ?_
      refine s60 ?_
      exact hE
    · replace hE := hE.2 c8
      refine s4 (x := x4) rfl ?_
      refine s0 ?_
      refine s4 (x := x5) rfl ?_
      refine s22 ?_
      refine s26 ?_
      refine s7 (ls' := [.ref 9, .int (oI x1), .int (oI x2), .int (oI x3), .int (oI (iOr x4 (iShl 1 x5))), .int (oI x5)]) (Nat.le_of_ble_eq_true rfl) rfl ?_
      refine s79 ?_
      refine xG gb73.2.2.1 ?_
      refine s10 (x := x5) (ls' := [.ref 9, .int (oI x1), .int (oI x2), .int (oI x3), .int (oI (iOr x4 (iShl 1 x5))), .int (oI (x5 + 1))]) rfl rfl ?_
      refine s60 ?_
      exact hE
  · replace hE := hE.2 c2
    refine xG gb73.2.2.2 ?_
    refine s4 (x := x4) rfl ?_
    refine s80 ?_
    exact hE
set_option maxRecDepth 4000 in
theorem e73 {d L : Nat} {I : Nat → Nat → Int32} {R : Nat → Nat → Option Nat} {S : List (Nat × Nat)} {K : Int32 → mM → Prop} {A : aS} (hC : RC R S I A) {x1 : Int} {x2 : Int} {x3 : Int} (hE : h73_1 d L I R S (rqI K) x1 x2 x3 0 0) : CallI d 73 [.ref 9, .int (oI x1), .int (oI x2), .int (oI x3)] (bd L I R S) K := by
  refine cI_of (ls := [.ref 9, .int (oI x1), .int (oI x2), .int (oI x3), mUn, mUn]) rfl ?_
  refine xG gb73.1 ?_
  refine s0 ?_
  refine s7 (ls' := [.ref 9, .int (oI x1), .int (oI x2), .int (oI x3), .int (oI 0), mUn]) (Nat.le_of_ble_eq_true rfl) rfl ?_
  refine s0 ?_
  refine s7 (ls' := [.ref 9, .int (oI x1), .int (oI x2), .int (oI x3), .int (oI 0), .int (oI 0)]) (Nat.le_of_ble_eq_true rfl) rfl ?_
  refine s79 ?_
  exact hE
def h74_1 (d L : Nat) (I : Nat → Nat → Int32) (R : Nat → Nat → Option Nat) (S : List (Nat × Nat)) (Q : Option Value → mM → Prop) (x1 : Int) (x2 : Int) (x3 : Int) : Prop := Wp d (gb 74 1) [.ref 9, .int (oI x1), .int (oI x2), .int (oI x3)] [] (bd L I R S) Q
set_option maxRecDepth 4000 in
theorem e74_1 {d L : Nat} {I : Nat → Nat → Int32} {R : Nat → Nat → Option Nat} {S : List (Nat × Nat)} {Q : Option Value → mM → Prop} {A : aS} (hC : RC R S I A) {x1 : Int} {x2 : Int} {x3 : Int} (hE : inR x3 ∧ (((x3 < A 91 54) → ((iAnd (iShr x1 x3) 1 = 0) → h74_1 d L I R S Q x1 x2 (x3 + 1)) ∧ (¬ (iAnd (iShr x1 x3) 1 = 0) → (0 ≤ x3 ∧ x3 < 10) ∧ (h74_1 d L I R S Q x1 (iOr x2 (ld I 19 x3.toNat)) (x3 + 1)))) ∧ (¬ (x3 < A 91 54) → Q (some (.int (oI x2))) (bd L I R S)))) : h74_1 d L I R S Q x1 x2 x3 := by
  unfold h74_1
  refine xG gb74.2.1 ?_
  refine s4 (x := x3) rfl ?_
  refine s6 (p := 9) rfl ?_
  refine s50 (v := A 91 54) sh9 (by decide) (by decide) (rdC hC.1 rfl) ?_
  obtain ⟨g1, hE⟩ := hE
  refine s64 g1 (inC hC.1 (a := 9) (k := 12) rfl) (fun c2 => ?_) (fun c2 => ?_)
  · replace hE := hE.1 c2
    refine s4 (x := x1) rfl ?_
    refine s4 (x := x3) rfl ?_
    refine s23 ?_
    refine s0 ?_
    refine s25 ?_
    refine s67 (inR_toInt _) (fun c3 => ?_) (fun c3 => ?_)
    · replace hE := hE.1 c3
      refine xG gb74.2.2.1 ?_
      refine s10 (x := x3) (ls' := [.ref 9, .int (oI x1), .int (oI x2), .int (oI (x3 + 1))]) rfl rfl ?_
      refine s60 ?_
      exact hE
    · replace hE := hE.2 c3
      refine s4 (x := x2) rfl ?_
      refine s6 (p := 9) rfl ?_
      refine s51 sh9 (by decide) (by decide) rf9_9 ?_
      refine s4 (x := x3) rfl ?_
      obtain ⟨g4, hE⟩ := hE
      refine s40 (v := ld I 19 x3.toNat) sh19 g4 rfl (oI_ld _ _ _) ?_
      refine s26 ?_
      refine s7 (ls' := [.ref 9, .int (oI x1), .int (oI (iOr x2 (ld I 19 x3.toNat))), .int (oI x3)]) (Nat.le_of_ble_eq_true rfl) rfl ?_
      refine s79 ?_
      refine xG gb74.2.2.1 ?_
      refine s10 (x := x3) (ls' := [.ref 9, .int (oI x1), .int (oI (iOr x2 (ld I 19 x3.toNat))), .int (oI (x3 + 1))]) rfl rfl ?_
      refine s60 ?_
      exact hE
  · replace hE := hE.2 c2
    refine xG gb74.2.2.2 ?_
    refine s4 (x := x2) rfl ?_
    refine s80 ?_
    exact hE
set_option maxRecDepth 4000 in
theorem e74 {d L : Nat} {I : Nat → Nat → Int32} {R : Nat → Nat → Option Nat} {S : List (Nat × Nat)} {K : Int32 → mM → Prop} {A : aS} (hC : RC R S I A) {x1 : Int} (hE : h74_1 d L I R S (rqI K) x1 0 0) : CallI d 74 [.ref 9, .int (oI x1)] (bd L I R S) K := by
  refine cI_of (ls := [.ref 9, .int (oI x1), mUn, mUn]) rfl ?_
  refine xG gb74.1 ?_
  refine s0 ?_
  refine s7 (ls' := [.ref 9, .int (oI x1), .int (oI 0), mUn]) (Nat.le_of_ble_eq_true rfl) rfl ?_
  refine s0 ?_
  refine s7 (ls' := [.ref 9, .int (oI x1), .int (oI 0), .int (oI 0)]) (Nat.le_of_ble_eq_true rfl) rfl ?_
  refine s79 ?_
  exact hE
