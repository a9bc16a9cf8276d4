/-! single tokens against the reference's pieces -/
theorem tk_w {T : Nat → Int} {N q i : Nat} {w : Int64} (hq : q ≤ N) (hi : i < 41) (hw : wc i = w) : tkOk T N q w ↔ tkK T N q = 128 + (i : Int) := by rw [← hw]; exact tk_word hi hq
theorem kw_tk {T : Nat → Int} {N q : Nat} (hq : q ≤ N) : ∀ b, kwS T N q = b → (b = -1 ∧ ¬ (130 ≤ tkK T N q ∧ tkK T N q ≤ 144)) ∨ ((130 ≤ tkK T N q ∧ tkK T N q ≤ 144) ∧ tkK T N q = ckd b ∧ 1 ≤ b ∧ b ≤ 15) := by
  intro b hb
  have e8 : tkOk T N q wCap ↔ tkK T N q = 136 := tk_w (i := 8) hq (by decide) rfl
  have e10 : tkOk T N q wRoom ↔ tkK T N q = 138 := tk_w (i := 10) hq (by decide) rfl
  have e11 : tkOk T N q wStaff ↔ tkK T N q = 139 := tk_w (i := 11) hq (by decide) rfl
  have e12 : tkOk T N q wStep ↔ tkK T N q = 140 := tk_w (i := 12) hq (by decide) rfl
  have e15 : tkOk T N q wSmall ↔ tkK T N q = 143 := tk_w (i := 15) hq (by decide) rfl
  have e13 : tkOk T N q wPay ↔ tkK T N q = 141 := tk_w (i := 13) hq (by decide) rfl
  have e14 : tkOk T N q wTeach ↔ tkK T N q = 142 := tk_w (i := 14) hq (by decide) rfl
  have e2 : tkOk T N q wCount ↔ tkK T N q = 130 := tk_w (i := 2) hq (by decide) rfl
  have e3 : tkOk T N q wExcuse ↔ tkK T N q = 131 := tk_w (i := 3) hq (by decide) rfl
  have e5 : tkOk T N q wPass ↔ tkK T N q = 133 := tk_w (i := 5) hq (by decide) rfl
  have e7 : tkOk T N q wGrant ↔ tkK T N q = 135 := tk_w (i := 7) hq (by decide) rfl
  have e16 : tkOk T N q wHalf ↔ tkK T N q = 144 := tk_w (i := 16) hq (by decide) rfl
  have e4 : tkOk T N q wAttend ↔ tkK T N q = 132 := tk_w (i := 4) hq (by decide) rfl
  have e6 : tkOk T N q wRise ↔ tkK T N q = 134 := tk_w (i := 6) hq (by decide) rfl
  have e9 : tkOk T N q wFee ↔ tkK T N q = 137 := tk_w (i := 9) hq (by decide) rfl
  unfold kwS at hb
  simp only [e8, e10, e11, e12, e15, e13, e14, e2, e3, e5, e7, e16, e4, e6, e9] at hb
  have hin := tkK_in (T := T) (N := N) (q := q)
  generalize tkK T N q = x at hb hin
  by_cases c8 : x = 136
  · rw [if_pos c8] at hb; subst hb; exact Or.inr ⟨by omega, by (simp [ckd] <;> omega), by decide, by decide⟩
  rw [if_neg c8] at hb
  by_cases c10 : x = 138
  · rw [if_pos c10] at hb; subst hb; exact Or.inr ⟨by omega, by (simp [ckd] <;> omega), by decide, by decide⟩
  rw [if_neg c10] at hb
  by_cases c11 : x = 139
  · rw [if_pos c11] at hb; subst hb; exact Or.inr ⟨by omega, by (simp [ckd] <;> omega), by decide, by decide⟩
  rw [if_neg c11] at hb
  by_cases c12 : x = 140
  · rw [if_pos c12] at hb; subst hb; exact Or.inr ⟨by omega, by (simp [ckd] <;> omega), by decide, by decide⟩
  rw [if_neg c12] at hb
  by_cases c15 : x = 143
  · rw [if_pos c15] at hb; subst hb; exact Or.inr ⟨by omega, by (simp [ckd] <;> omega), by decide, by decide⟩
  rw [if_neg c15] at hb
  by_cases c13 : x = 141
  · rw [if_pos c13] at hb; subst hb; exact Or.inr ⟨by omega, by (simp [ckd] <;> omega), by decide, by decide⟩
  rw [if_neg c13] at hb
  by_cases c14 : x = 142
  · rw [if_pos c14] at hb; subst hb; exact Or.inr ⟨by omega, by (simp [ckd] <;> omega), by decide, by decide⟩
  rw [if_neg c14] at hb
  by_cases c2 : x = 130
  · rw [if_pos c2] at hb; subst hb; exact Or.inr ⟨by omega, by (simp [ckd] <;> omega), by decide, by decide⟩
  rw [if_neg c2] at hb
  by_cases c3 : x = 131
  · rw [if_pos c3] at hb; subst hb; exact Or.inr ⟨by omega, by (simp [ckd] <;> omega), by decide, by decide⟩
  rw [if_neg c3] at hb
  by_cases c5 : x = 133
  · rw [if_pos c5] at hb; subst hb; exact Or.inr ⟨by omega, by (simp [ckd] <;> omega), by decide, by decide⟩
  rw [if_neg c5] at hb
  by_cases c7 : x = 135
  · rw [if_pos c7] at hb; subst hb; exact Or.inr ⟨by omega, by (simp [ckd] <;> omega), by decide, by decide⟩
  rw [if_neg c7] at hb
  by_cases c16 : x = 144
  · rw [if_pos c16] at hb; subst hb; exact Or.inr ⟨by omega, by (simp [ckd] <;> omega), by decide, by decide⟩
  rw [if_neg c16] at hb
  by_cases c4 : x = 132
  · rw [if_pos c4] at hb; subst hb; exact Or.inr ⟨by omega, by (simp [ckd] <;> omega), by decide, by decide⟩
  rw [if_neg c4] at hb
  by_cases c6 : x = 134
  · rw [if_pos c6] at hb; subst hb; exact Or.inr ⟨by omega, by (simp [ckd] <;> omega), by decide, by decide⟩
  rw [if_neg c6] at hb
  by_cases c9 : x = 137
  · rw [if_pos c9] at hb; subst hb; exact Or.inr ⟨by omega, by (simp [ckd] <;> omega), by decide, by decide⟩
  rw [if_neg c9] at hb
  exact Or.inl ⟨hb.symm, by omega⟩
theorem nm_tkx {T : Nat → Int} {N q : Nat} (hq : q ≤ N) : ∀ b, nmS T N q = b → (b = -1 ∧ ¬ (144 ≤ tkK T N q ∧ tkK T N q ≤ 155)) ∨ ((144 ≤ tkK T N q ∧ tkK T N q ≤ 155) ∧ tkK T N q = 144 + pcN b ∧ 0 ≤ b ∧ b < 12) := by
  intro b hb
  have e17 : tkOk T N q (Int64.ofInt 6383461) ↔ tkK T N q = 145 := tk_w (i := 17) hq (by decide) rfl
  have e18 : tkOk T N q (Int64.ofInt 8319381538418553444) ↔ tkK T N q = 146 := tk_w (i := 18) hq (by decide) rfl
  have e19 : tkOk T N q (Int64.ofInt 6578553) ↔ tkK T N q = 147 := tk_w (i := 19) hq (by decide) rfl
  have e20 : tkOk T N q (Int64.ofInt 2036687218) ↔ tkK T N q = 148 := tk_w (i := 20) hq (by decide) rfl
  have e16 : tkOk T N q (Int64.ofInt 1751215206) ↔ tkK T N q = 144 := tk_w (i := 16) hq (by decide) rfl
  have e21 : tkOk T N q (Int64.ofInt 28561341215368548) ↔ tkK T N q = 149 := tk_w (i := 21) hq (by decide) rfl
  have e22 : tkOk T N q (Int64.ofInt 499984983410) ↔ tkK T N q = 150 := tk_w (i := 22) hq (by decide) rfl
  have e23 : tkOk T N q (Int64.ofInt 123563851081075) ↔ tkK T N q = 151 := tk_w (i := 23) hq (by decide) rfl
  have e24 : tkOk T N q (Int64.ofInt 8175547842767975027) ↔ tkK T N q = 152 := tk_w (i := 24) hq (by decide) rfl
  have e25 : tkOk T N q (Int64.ofInt 32498687873999732) ↔ tkK T N q = 153 := tk_w (i := 25) hq (by decide) rfl
  have e26 : tkOk T N q (Int64.ofInt 1835102827) ↔ tkK T N q = 154 := tk_w (i := 26) hq (by decide) rfl
  have e27 : tkOk T N q (Int64.ofInt 1886351218) ↔ tkK T N q = 155 := tk_w (i := 27) hq (by decide) rfl
  unfold nmS at hb
  simp only [e17, e18, e19, e20, e16, e21, e22, e23, e24, e25, e26, e27] at hb
  generalize tkK T N q = x at hb
  repeat' split at hb
  all_goals subst hb
  all_goals first | exact Or.inr ⟨by omega, by (simp [pcN] <;> omega), by decide, by decide⟩ | exact Or.inl ⟨rfl, by omega⟩
section
variable {d L : Nat} {I I1 I2 : mI} {R : mR} {S : mSh} {T : Nat → Int} {N nt t t1 t2 p r : Nat} {f lo hi c : Int} {K : Int32 → mM → Prop}
/-- behind a reading: token t1, the reference at r -/
def CuS (T : Nat → Int) (N nt t : Nat) (I I1 : mI) (t1 r : Nat) : Prop := Fr [] [(46, 7), (46, 2)] I I1 ∧ PsC I1 T N nt t1 (-1) ∧ bl T N r = plc T N t1 ∧ r ≤ N ∧ t ≤ t1
def FaS (T : Nat → Int) (N nt t : Nat) (I I1 : mI) (r : Nat) : Prop := Fr [] [(46, 7), (46, 2)] I I1 ∧ ∃ t1, t ≤ t1 ∧ PsC I1 T N nt t1 (r : Int)
theorem CuS.trans (h : CuS T N nt t I I1 t1 r) {r2 : Nat} (h2 : CuS T N nt t1 I1 I2 t2 r2) : CuS T N nt t I I2 t2 r2 := ⟨h.1.trans h2.1, h2.2.1, h2.2.2.1, h2.2.2.2.1, Nat.le_trans h.2.2.2.2 h2.2.2.2.2⟩
theorem CuS.fa (h : CuS T N nt t I I1 t1 r) {r2 : Nat} (h2 : FaS T N nt t1 I1 I2 r2) : FaS T N nt t I I2 r2 := by
  obtain ⟨g1, t3, g2, g3⟩ := h2
  exact ⟨h.1.trans g1, t3, Nat.le_trans h.2.2.2.2 g2, g3⟩
theorem PsC.cu (h : PsC I T N nt t (-1)) (hb : bl T N p = plc T N t) (hp : p ≤ N) : CuS T N nt t I I t p := ⟨Fr.refl _ _ _, h, hb, hp, Nat.le_refl _⟩
theorem nx_cu (h : PsC I T N nt t (-1)) (hn : plc T N t < N) (hr : r = tkE T N (plc T N t)) : CuS T N nt t I (u2 I 46 7 (oI (ld I 46 7 + 1))) (t + 1) r := by
  have q := h.next hn
  rw [← h.2.2.1] at q
  refine ⟨q.1, q.2, ?_, ?_, Nat.le_succ _⟩
  · rw [hr]; rfl
  · rw [hr]; exact (tkE_in (plc_in t)).2.1
theorem fa_of {x : Nat} (h : PsC I1 T N nt t (x : Int)) (hf : Fr [] [(46, 7), (46, 2)] I I1) : FaS T N nt t I I1 x := ⟨hf, t, Nat.le_refl _, h⟩
theorem k116s (h : PsC I T N nt t (-1)) (hb : bl T N p = plc T N t) (hlo : inR lo) (hhi : inR hi) (h1 : ∀ v r I1, rNum T N lo hi p = (some v, r) → CuS T N nt t I I1 (t + 1) r → K (oI v) (bd L I1 R S)) (h0 : ∀ r I1, rNum T N lo hi p = (none, r) → FaS T N nt t I I1 r → K (oI 0) (bd L I1 R S)) : CallI (d + 1) 116 [.ref 46, .int (oI lo), .int (oI hi)] (bd L I R S) K := by
  have g := h.at
  have hf := h.2.2.2.1
  have hin := plc_in (T := T) (N := N) t
  have hm := tk_num (T := T) (N := N) (q := plc T N t) (lo := lo) (hi := hi) hin
  have neg : ¬ nmOk T N (plc T N t) lo hi → CallV d 114 [.ref 46] (bd L I R S) (fun s => ∃ (I6 : mI), s = bd L I6 R S ∧ (K (oI 0) (bd L I6 R S))) := fun hn => k114 h (fun I1 q1 q2 => ⟨_, rfl, h0 _ _ (by unfold rNum; rw [hb, if_neg hn]) (fa_of q2 q1)⟩)
  refine e116 (d := d) ⟨g.2.2.2, fun _ => ?_, fun c => absurd hf c⟩
  rw [g.1, g.2.1]
  refine ⟨fun c1 => ⟨hlo, fun c2 => neg (fun q => by have := (hm.mp q).2; omega), fun c2 => ⟨hhi, fun c3 => neg (fun q => by have := (hm.mp q).2; omega), fun c3 => ?_⟩⟩, fun c1 => neg (fun q => c1 (hm.mp q).1)⟩
  have e := tk_numE c1
  rw [e.2.1]
  exact h1 _ _ _ (by unfold rNum; rw [hb, if_pos (hm.mpr ⟨c1, by omega⟩)]) (nx_cu h (tk_lt (by omega)) e.1.symm)
theorem k116f (h : PsC I T N nt t f) (hf : ¬ f = -1) (hK : K (oI 0) (bd L I R S)) : CallI (d + 1) 116 [.ref 46, .int (oI lo), .int (oI hi)] (bd L I R S) K :=
  e116 (d := d) ⟨h.at.2.2.2, fun c => absurd (h.2.2.2.1.symm.trans c) hf, fun _ => k114f h hf ⟨_, rfl, hK⟩⟩
theorem k118w {i : Nat} {w : Int64} (h : PsC I T N nt t (-1)) (hb : bl T N p = plc T N t) (hi : i < 41) (hw : wc i = w) (hc : c = 128 + (i : Int)) (h1 : ∀ r I1, rWord T N w p = (some (), r) → CuS T N nt t I I1 (t + 1) r → K (oI 1) (bd L I1 R S)) (h0 : ∀ r I1, rWord T N w p = (none, r) → FaS T N nt t I I1 r → K (oI 0) (bd L I1 R S)) : CallI (d + 1) 118 [.ref 46, .int (oI c)] (bd L I R S) K := by
  have g := h.at
  have hf := h.2.2.2.1
  have hm := tk_w (T := T) (plc_in (T := T) (N := N) t) hi hw
  refine e118 (d := d) ⟨fun _ => ⟨g.2.2.2, ⟨by omega, by omega⟩, ?_⟩, fun c => absurd hf c⟩
  rw [g.1, hc]
  refine ⟨fun c1 => ?_, fun c1 => ?_⟩
  · exact h1 _ _ (by unfold rWord; rw [hb, if_pos (hm.mpr c1)]) (nx_cu h (tk_lt (by omega)) (tk_wordE c1).symm)
  · exact k114 h (fun I1 q1 q2 => ⟨_, rfl, h0 _ _ (by unfold rWord; rw [hb, if_neg (fun q => c1 (hm.mp q))]) (fa_of q2 q1)⟩)
theorem k118s (h : PsC I T N nt t (-1)) (hb : bl T N p = plc T N t) (hc : isg c) (h1 : ∀ r I1, rSign T N c p = (some (), r) → CuS T N nt t I I1 (t + 1) r → K (oI 1) (bd L I1 R S)) (h0 : ∀ r I1, rSign T N c p = (none, r) → FaS T N nt t I I1 r → K (oI 0) (bd L I1 R S)) : CallI (d + 1) 118 [.ref 46, .int (oI c)] (bd L I R S) K := by
  have g := h.at
  have hf := h.2.2.2.1
  have hm := tk_sign (T := T) (N := N) (q := plc T N t) hc
  have hc2 := hc
  unfold isg at hc2
  refine e118 (d := d) ⟨fun _ => ⟨g.2.2.2, ⟨by omega, by omega⟩, ?_⟩, fun c => absurd hf c⟩
  rw [g.1]
  refine ⟨fun c1 => ?_, fun c1 => ?_⟩
  · exact h1 _ _ (by unfold rSign; rw [hb, if_pos (hm.mpr c1)]) (nx_cu h (tk_lt (by omega)) (tk_signE hc c1).symm)
  · exact k114 h (fun I1 q1 q2 => ⟨_, rfl, h0 _ _ (by unfold rSign; rw [hb, if_neg (fun q => c1 (hm.mp q))]) (fa_of q2 q1)⟩)
theorem k120s (h : PsC I T N nt t (-1)) (hb : bl T N p = plc T N t) (h1 : ∀ v r I1, mwP T N p = (some v, r) → CuS T N nt t I I1 (t + 1) r → K (oI v) (bd L I1 R S)) (h0 : ∀ r I1, mwP T N p = (none, r) → FaS T N nt t I I1 r → K (oI 0) (bd L I1 R S)) : CallI (d + 1) 120 [.ref 46] (bd L I R S) K := by
  have g := h.at
  have hf := h.2.2.2.1
  have hin := plc_in (T := T) (N := N) t
  have m1 : tkOk T N (plc T N t) wPresent ↔ tkK T N (plc T N t) = 166 := tk_w (i := 38) hin (by decide) rfl
  have m2 : tkOk T N (plc T N t) wLate ↔ tkK T N (plc T N t) = 167 := tk_w (i := 39) hin (by decide) rfl
  have m3 : tkOk T N (plc T N t) wWork ↔ tkK T N (plc T N t) = 168 := tk_w (i := 40) hin (by decide) rfl
  have neg : ¬ (166 ≤ tkK T N (plc T N t) ∧ tkK T N (plc T N t) ≤ 168) → CallV d 114 [.ref 46] (bd L I R S) (fun s => ∃ (I6 : mI), s = bd L I6 R S ∧ (K (oI 0) (bd L I6 R S))) := fun hn => k114 h (fun I1 q1 q2 => ⟨_, rfl, h0 _ _ (by
    unfold mwP
    rw [hb, if_neg (fun q => hn (by have := m1.mp q; omega)), if_neg (fun q => hn (by have := m2.mp q; omega)), if_neg (fun q => hn (by have := m3.mp q; omega))]) (fa_of q2 q1)⟩)
  refine e120 (d := d) ⟨g.2.2.2, fun _ => ?_, fun c => absurd hf c⟩
  rw [g.1]
  refine ⟨fun c1 => neg (by omega), fun c1 => ⟨fun c2 => neg (by omega), fun c2 => ?_⟩⟩
  have hc : tkK T N (plc T N t) = 166 ∨ tkK T N (plc T N t) = 167 ∨ tkK T N (plc T N t) = 168 := by omega
  have hl : plc T N t < N := tk_lt (by omega)
  rcases hc with e | e | e
  · rw [e]
    exact h1 1 _ _ (by unfold mwP; rw [hb, if_pos (m1.mpr e)]) (nx_cu h hl (tk_wordE (i := 38) e).symm)
  · rw [e]
    exact h1 2 _ _ (by unfold mwP; rw [hb, if_neg (fun q => by have := m1.mp q; omega), if_pos (m2.mpr e)]) (nx_cu h hl (tk_wordE (i := 39) e).symm)
  · rw [e]
    exact h1 3 _ _ (by unfold mwP; rw [hb, if_neg (fun q => by have := m1.mp q; omega), if_neg (fun q => by have := m2.mp q; omega), if_pos (m3.mpr e)]) (nx_cu h hl (tk_wordE (i := 40) e).symm)
theorem k120f (h : PsC I T N nt t f) (hf : ¬ f = -1) (hK : K (oI 0) (bd L I R S)) : CallI (d + 1) 120 [.ref 46] (bd L I R S) K :=
  e120 (d := d) ⟨h.at.2.2.2, fun c => absurd (h.2.2.2.1.symm.trans c) hf, fun _ => k114f h hf ⟨_, rfl, hK⟩⟩
/-- ':' and the kind of a body -/
def kbP (T : Nat → Int) (N p : Nat) : Option Int × Nat := bnd (rSign T N 58 p) (fun _ r => if kwS T N (bl T N r) = -1 then (none, bl T N r) else (some (kwS T N (bl T N r)), lt T N (bl T N r)))
theorem k117s (h : PsC I T N nt t (-1)) (hb : bl T N p = plc T N t) (h1 : ∀ v r I1, kbP T N p = (some v, r) → CuS T N nt t I I1 (t + 2) r → (1 ≤ v ∧ v ≤ 15) → K (oI (ckd v)) (bd L I1 R S)) (h0 : ∀ r I1, kbP T N p = (none, r) → FaS T N nt t I I1 r → K (oI 0) (bd L I1 R S)) : CallI (d + 2) 117 [.ref 46] (bd L I R S) K := by
  refine e117 (d := d + 1) (k118s (d := d) h hb (by decide) (fun r I1 e c => ⟨1, I1, rfl, rfl, inRd rfl, fun q => absurd q (by decide), fun _ => ?_⟩) (fun r I1 e c => ⟨0, I1, rfl, rfl, inRd rfl, fun _ => ?_, fun q => absurd rfl q⟩))
  · have g := c.2.1.at
    have hin := plc_in (T := T) (N := N) (t + 1)
    have hb1 := c.2.2.1
    have kb : kbP T N p = if kwS T N (bl T N r) = -1 then (none, bl T N r) else (some (kwS T N (bl T N r)), lt T N (bl T N r)) := by unfold kbP; rw [e]; rfl
    rw [hb1] at kb
    have neg : ¬ (130 ≤ tkK T N (plc T N (t + 1)) ∧ tkK T N (plc T N (t + 1)) ≤ 144) → CallV (d + 1) 114 [.ref 46] (bd L I1 R S) (fun s => ∃ (I6 : mI), s = bd L I6 R S ∧ (K (oI 0) (bd L I6 R S))) := fun hn => by
      rcases kw_tk hin _ rfl with q | q
      · rw [if_pos q.1] at kb
        exact k114 c.2.1 (fun I2 q1 q2 => ⟨_, rfl, h0 _ _ kb (c.fa (fa_of q2 q1))⟩)
      · exact absurd q.1 hn
    refine ⟨g.2.2.2, ?_⟩
    rw [g.1]
    refine ⟨fun c1 => neg (by omega), fun c1 => ⟨fun c2 => neg (by omega), fun c2 => ?_⟩⟩
    rcases kw_tk hin _ rfl with q | q
    · exact absurd (show 130 ≤ tkK T N (plc T N (t + 1)) ∧ tkK T N (plc T N (t + 1)) ≤ 144 by omega) q.2
    · rw [if_neg (by omega)] at kb
      rw [q.2.1]
      exact h1 _ _ _ kb (c.trans (nx_cu c.2.1 (tk_lt (by omega)) (tk_wordE (i := (tkK T N (plc T N (t + 1)) - 128).toNat) (by omega)).symm)) q.2.2
  · obtain ⟨f1, t1, f2, f3⟩ := c
    exact k114f f3 (by omega) ⟨_, rfl, h0 _ _ (by unfold kbP; rw [e]; rfl) ⟨f1, t1, f2, f3⟩⟩
theorem k117f (h : PsC I T N nt t f) (hf : ¬ f = -1) (hK : K (oI 0) (bd L I R S)) : CallI (d + 2) 117 [.ref 46] (bd L I R S) K :=
  e117 (d := d + 1) (k118f (d := d) h hf ⟨0, I, rfl, rfl, inRd rfl, fun _ => k114f h hf ⟨_, rfl, hK⟩, fun q => absurd rfl q⟩)
end
