def h108_1 (d L : Nat) (I : Nat → Nat → Int32) (R : Nat → Nat → Option Nat) (S : List (Nat × Nat)) (Q : Option Value → mM → Prop) (w1 : Value) (w2 : Value) (x3 : Int) (x4 : Int) : Prop := Wp d (gb 108 1) [.ref 46, w1, w2, .int (oI x3), .int (oI x4)] [] (bd L I R S) Q
set_option maxRecDepth 4000 in
theorem e108_1 {d L : Nat} {I : Nat → Nat → Int32} {R : Nat → Nat → Option Nat} {S : List (Nat × Nat)} {Q : Option Value → mM → Prop}  {w1 : Value} {w2 : Value} {x3 : Int} {x4 : Int} (hE : inR x4 ∧ (((40 < x4) → Q none (bd L I R S)) ∧ (¬ (40 < x4) → ((ld I 46 2 = (-1)) → (0 ≤ ld I 46 7 ∧ ld I 46 7 < 801) ∧ (((ld I 48 (ld I 46 7).toNat = 0) → Q none (bd L I R S)) ∧ (¬ (ld I 48 (ld I 46 7).toNat = 0) → ((x4 = 40) → CallV d 114 [.ref 46] (bd L I R S) (fun s => ∃ (I7 : mI), s = bd L I7 R S ∧ (h108_1 (d + 1) L I7 R S Q w1 w2 x3 (x4 + 1)))) ∧ (¬ (x4 = 40) → CallV d 115 [.ref 46, .int (oI x3)] (bd L I R S) (fun s => ∃ (I8 : mI) (R9 : mR) (S10 : mSh), s = bd L I8 R9 S10 ∧ (h108_1 (d + 1) L I8 R9 S10 Q w1 w2 x3 (x4 + 1))))))) ∧ (¬ (ld I 46 2 = (-1)) → Q none (bd L I R S))))) : h108_1 (d + 1) L I R S Q w1 w2 x3 x4 := by
  unfold h108_1
  refine xG gb108.2.1 ?_
  refine s4 (x := x4) rfl ?_
  refine s0 ?_
  obtain ⟨g1, hE⟩ := hE
  refine s65 g1 (inRd rfl) (fun c2 => ?_) (fun c2 => ?_)
  · replace hE := hE.1 c2
    refine xG gb108.2.2.2.2 ?_
    refine s83 ?_
    exact hE
  · replace hE := hE.2 c2
    refine s6 (p := 46) rfl ?_
    refine s50 (v := ld I 46 2) sh46 (by decide) (by decide) (oI_ld _ _ _) ?_
    refine s0 ?_
    refine s62 (ld_inR _ _ _) (inRd rfl) (fun c3 => ?_) (fun c3 => ?_)
    · replace hE := hE.1 c3
      refine s6 (p := 46) rfl ?_
      refine s51 sh46 (by decide) (by decide) rf46_3 ?_
      refine s6 (p := 46) rfl ?_
      refine s50 (v := ld I 46 7) sh46 (by decide) (by decide) (oI_ld _ _ _) ?_
      obtain ⟨g4, hE⟩ := hE
      refine s40 (v := ld I 48 (ld I 46 7).toNat) sh48 g4 rfl (oI_ld _ _ _) ?_
      refine s67 (ld_inR _ _ _) (fun c5 => ?_) (fun c5 => ?_)
      · replace hE := hE.1 c5
        refine xG gb108.2.2.2.2 ?_
        refine s83 ?_
        exact hE
      · replace hE := hE.2 c5
        refine s4 (x := x4) rfl ?_
        refine s0 ?_
        refine s62 g1 (inRd rfl) (fun c6 => ?_) (fun c6 => ?_)
        · replace hE := hE.1 c6
          refine s6 (p := 46) rfl ?_
          refine sV rc114 rfl (Nat.le_of_ble_eq_true rfl) ?_
          refine CallV.mono hE ?_
          rintro _ ⟨I7, rfl, hE⟩
          refine s60 ?_
          refine xG gb108.2.2.2.1 ?_
          refine s10 (x := x4) (ls' := [.ref 46, w1, w2, .int (oI x3), .int (oI (x4 + 1))]) rfl rfl ?_
          refine s60 ?_
          exact hE
        · replace hE := hE.2 c6
          refine xG gb108.2.2.1 ?_
          refine s6 (p := 46) rfl ?_
          refine s4 (x := x3) rfl ?_
          refine sV rc115 rfl (Nat.le_of_ble_eq_true rfl) ?_
          refine CallV.mono hE ?_
          rintro _ ⟨I8, R9, S10, rfl, hE⟩
          refine s79 ?_
          refine xG gb108.2.2.2.1 ?_
          refine s10 (x := x4) (ls' := [.ref 46, w1, w2, .int (oI x3), .int (oI (x4 + 1))]) rfl rfl ?_
          refine s60 ?_
          exact hE
    · replace hE := hE.2 c3
      refine xG gb108.2.2.2.2 ?_
      refine s83 ?_
      exact hE
set_option maxRecDepth 4000 in
theorem e108 {d L : Nat} {I : Nat → Nat → Int32} {R : Nat → Nat → Option Nat} {S : List (Nat × Nat)} {K : mM → Prop}  {x2 : Int} {x3 : Int} (hE : inR x2 ∧ (CallV d 109 [.ref 46, .ref 45, .int (oI (min x2 800))] (bd L I R S) (fun s => ∃ (I2 : mI), s = bd L I2 R S ∧ (h108_1 (d + 1) L (u2 (u2 (u2 I2 46 1 (oI 0)) 46 2 (oI (-1))) 46 7 (oI 0)) R S (rqV K) (.ref 45) (.int (oI x2)) x3 0)))) : CallV (d + 1) 108 [.ref 46, .ref 45, .int (oI x2), .int (oI x3)] (bd L I R S) K := by
  refine cV_of (ls := [.ref 46, .ref 45, .int (oI x2), .int (oI x3), mUn]) rfl ?_
  refine xG gb108.1 ?_
  refine s6 (p := 46) rfl ?_
  refine s6 (p := 45) rfl ?_
  refine s4 (x := x2) rfl ?_
  refine s6 (p := 45) rfl ?_
  refine s48 sh45 (by decide) ?_
  obtain ⟨g1, hE⟩ := hE
  refine sI rc345 rfl (Nat.le_of_ble_eq_true rfl) ?_
  refine k345 g1 (inRd rfl) ?_
  refine sV rc109 rfl (Nat.le_of_ble_eq_true rfl) ?_
  refine CallV.mono hE ?_
  rintro _ ⟨I2, rfl, hE⟩
  refine s6 (p := 46) rfl ?_
  refine s0 ?_
  refine s52 sh46 (by decide) (by decide) ?_
  refine s6 (p := 46) rfl ?_
  refine s0 ?_
  refine s52 sh46 (by decide) (by decide) ?_
  refine s6 (p := 46) rfl ?_
  refine s0 ?_
  refine s52 sh46 (by decide) (by decide) ?_
  refine s0 ?_
  refine s7 (ls' := [.ref 46, .ref 45, .int (oI x2), .int (oI x3), .int (oI 0)]) (Nat.le_of_ble_eq_true rfl) rfl ?_
  refine s79 ?_
  exact hE
/-- the statements that were read -/
def RdL (b : Nat) (R : mR) (S : mSh) (I : mI) (act : Int) (l : List Stm) : Prop := (∀ (j : Nat) (o : Stm), l[j]? = some o → ∃ q, R 47 j = some q ∧ b ≤ q ∧ ClS R S I act q o) ∧ ∀ i j : Nat, i < j → j < l.length → ¬ R 47 i = R 47 j
section
variable {d L : Nat} {I Ib : mI} {R Rb : mR} {S Sb : mSh} {T : Nat → Int} {N nt t p F : Nat} {f x3 x4 : Int} {Q : Option Value → mM → Prop} {w1 w2 : Value}
theorem l108f (h : PsC I T N nt t f) (hf : ¬ f = -1) (hx : 0 ≤ x4 ∧ x4 ≤ 41) (hQ : Q none (bd L I R S)) : h108_1 (d + 1) L I R S Q w1 w2 x3 x4 :=
  e108_1 (d := d) ⟨⟨by omega, by omega⟩, fun _ => hQ, fun _ => ⟨fun c => absurd (h.2.2.2.1.symm.trans c) hf, fun _ => hQ⟩⟩
theorem acP_0 {c : Nat} (h : ¬ bl T N p < N) : acP T N F c p = (some [], bl T N p) := by
  cases c with
  | zero => exact if_neg h
  | succ c => exact if_neg h
theorem l108 (hF : N < F) (hx3 : inR x3) : ∀ (c : Nat) (i : Nat) (I : mI) (R : mR) (S : mSh) (t p : Nat) (l : List Stm), i + c = 40 → l.length = i → Gw osM [47] Ib Rb Sb I R S → PsC I T N nt t (-1) → bl T N p = plc T N t → p ≤ N → ld I 46 1 = (i : Int) → S.length ≤ Sb.length + t → RdL (155 + Sb.length) R S I x3 l →
    (∀ (r : Nat) (I1 : mI) (R1 : mR) (S1 : mSh), acP T N F c p = (none, r) → Gw osM [47] Ib Rb Sb I1 R1 S1 → ld I1 46 2 = (r : Int) → S1.length ≤ Sb.length + N → Q none (bd L I1 R1 S1)) →
    (∀ (l2 : List Stm) (r : Nat) (I1 : mI) (R1 : mR) (S1 : mSh), acP T N F c p = (some l2, r) → Gw osM [47] Ib Rb Sb I1 R1 S1 → ld I1 46 2 = -1 → ld I1 46 1 = ((l ++ l2).length : Int) → RdL (155 + Sb.length) R1 S1 I1 x3 (l ++ l2) → S1.length ≤ Sb.length + N → Q none (bd L I1 R1 S1)) →
    h108_1 (d + 37) L I R S Q w1 w2 x3 (i : Int) := by
  intro c
  induction c with
  | zero =>
    intro i I R S t p l hi hl gw h hb hp h1 hcnt hrd k0 k1
    have g := h.at
    have htn := h.2.1
    have hnt := h.1.1
    refine e108_1 (d := d + 36) ⟨⟨by omega, by omega⟩, fun c => absurd c (by omega), fun _ => ⟨fun _ => ⟨g.2.2.2, ?_⟩, fun c => absurd h.2.2.2.1 c⟩⟩
    rw [g.1]
    refine ⟨fun c => ?_, fun c => ⟨fun _ => ?_, fun c2 => absurd (show (i : Int) = 40 by omega) c2⟩⟩
    · refine k1 [] (bl T N p) I R S (acP_0 (by rw [hb]; exact tk_end.mp c)) gw h.2.2.2.1 ?_ ?_ (by omega)
      · rw [List.append_nil, hl]; exact h1
      · rw [List.append_nil]; exact hrd
    · refine k114 h (fun I1 q1 q2 => ⟨_, rfl, l108f (d := d + 36) q2 (by omega) (by omega) (k0 (plc T N t) I1 R S ?_ (gw.trans ((Gw.fr (rs := []) q1).mono (fun _ _ h => osM_N h) (fun _ _ => rfl))) q2.2.2.2.1 (by omega))⟩)
      have hl := tk_lt c
      show (if bl T N p < N then (none, bl T N p) else (some [], bl T N p)) = _
      rw [hb, if_pos hl]
  | succ c ih =>
    intro i I R S t p l hi hl gw h hb hp h1 hcnt hrd k0 k1
    have g := h.at
    have htn := h.2.1
    have hnt := h.1.1
    refine e108_1 (d := d + 36) ⟨⟨by omega, by omega⟩, fun c => absurd c (by omega), fun _ => ⟨fun _ => ⟨g.2.2.2, ?_⟩, fun c => absurd h.2.2.2.1 c⟩⟩
    rw [g.1]
    refine ⟨fun c => ?_, fun c => ⟨fun c2 => absurd c2 (by omega), fun _ => ?_⟩⟩
    · refine k1 [] (bl T N p) I R S (acP_0 (by rw [hb]; exact tk_end.mp c)) gw h.2.2.2.1 ?_ ?_ (by omega)
      · rw [List.append_nil, hl]; exact h1
      · rw [List.append_nil]; exact hrd
    · have hlt := tk_lt c
      refine k115 hF h (by rw [bl_bl hp]; exact hb) (by omega) hx3 (fun r1 I1 R1 S1 t1 hs gw1 ht1 hc1 hp1 => ?_) (fun o r1 I1 R1 S1 t1 q1 hs gw1 hp1 hb1 hr1 ht1 hc1 hz hq hj hqb hcl => ?_)
      · refine ⟨_, _, _, rfl, l108f (d := d + 36) hp1 (by omega) (by omega) (k0 r1 I1 R1 S1 ?_ (gw.trans (gw1.mono (fun _ _ h => osM_N h) (fun _ _ => rfl))) hp1.2.2.2.1 ?_)⟩
        · rw [acP_succ, if_pos (by rw [hb]; exact hlt), hs]; rfl
        · have := hp1.2.1; omega
      · have e47 : (ld I 46 1).toNat = l.length := by omega
        rw [e47] at hq hj
        rw [show (i : Int) + 1 = ((i + 1 : Nat) : Int) by omega]
        refine ⟨_, _, _, rfl, ih (i + 1) I1 R1 S1 t1 r1 (l ++ [o]) (by omega) (by rw [List.length_append]; show l.length + 1 = i + 1; omega) (gw.trans gw1) hp1 hb1 hr1 (by omega) (by omega) ⟨fun j o' ho' => ?_, fun i' j' hij hjl => ?_⟩ (fun r2 I2 R2 S2 hs2 gw2 hf2 hl2 => ?_) (fun l2 r2 I2 R2 S2 hs2 gw2 hf2 hz2 hrd2 hl2 => ?_)⟩
        · by_cases hjl : j < l.length
          · rw [List.getElem?_append_left hjl] at ho'
            obtain ⟨q, a1, a0, a2⟩ := hrd.1 j o' ho'
            exact ⟨q, (hj j (by omega)).trans a1, a0, a2.ext (gw1.ext rfl rfl)⟩
          · rw [List.getElem?_append_right (by omega)] at ho'
            have hj0 : j - l.length = 0 := by
              apply Classical.byContradiction
              intro h9
              rw [List.getElem?_eq_none (by show 1 ≤ j - l.length; omega)] at ho'
              cases ho'
            rw [hj0] at ho'
            have e : o = o' := Option.some.inj ho'
            subst e
            rw [show j = l.length by omega]
            have hgl := gw.len
            exact ⟨q1, hq, by omega, hcl⟩
        · rw [List.length_append] at hjl
          have hjl2 : j' < l.length + 1 := hjl
          by_cases c9 : j' < l.length
          · rw [hj i' (by omega), hj j' (by omega)]
            exact hrd.2 i' j' hij c9
          · rw [show j' = l.length by omega, hq, hj i' (by omega)]
            obtain ⟨o9, ho9⟩ : ∃ o9, l[i']? = some o9 := ⟨_, List.getElem?_eq_getElem (by omega)⟩
            obtain ⟨q9, a1, -, a2⟩ := hrd.1 i' o9 ho9
            rw [a1]
            intro h9
            have e9 := Option.some.inj h9
            have := a2.1.lt
            have := a2.1.1
            omega
        · exact k0 r2 I2 R2 S2 (by rw [acP_succ, if_pos (by rw [hb]; exact hlt), hs]; dsimp only [bnd]; rw [hs2]) gw2 hf2 hl2
        · refine k1 (o :: l2) r2 I2 R2 S2 (by rw [acP_succ, if_pos (by rw [hb]; exact hlt), hs]; dsimp only [bnd]; rw [hs2]) gw2 hf2 ?_ ?_ hl2
          · rw [hz2, List.append_assoc]; rfl
          · rw [List.append_assoc] at hrd2; exact hrd2
theorem k108 {K : mM → Prop} {act : Int} (hF : N < F) (hW : WrC I) (hN : N ≤ 800) (ha : inR act) (hT : (fun j => ld I 45 j) = T)
    (k0 : ∀ (r : Nat) (Ib I1 : mI) (R1 : mR) (S1 : mSh), acP T N F 40 0 = (none, r) → Fr [48, 49, 50] [(46, 6), (46, 1), (46, 2), (46, 7)] I Ib → Gw osM [47] Ib R S I1 R1 S1 → ld I1 46 2 = (r : Int) → S1.length ≤ S.length + N → K (bd L I1 R1 S1))
    (k1 : ∀ (l : List Stm) (r : Nat) (Ib I1 : mI) (R1 : mR) (S1 : mSh), acP T N F 40 0 = (some l, r) → Fr [48, 49, 50] [(46, 6), (46, 1), (46, 2), (46, 7)] I Ib → Gw osM [47] Ib R S I1 R1 S1 → ld I1 46 2 = -1 → ld I1 46 1 = (l.length : Int) → RdL (155 + S.length) R1 S1 I1 act l → S1.length ≤ S.length + N → K (bd L I1 R1 S1)) :
    CallV (d + 37) 108 [.ref 46, .ref 45, .int (oI (N : Int)), .int (oI act)] (bd L I R S) K := by
  refine e108 (d := d + 36) ⟨⟨by omega, by omega⟩, ?_⟩
  rw [Int.min_eq_left (show (N : Int) ≤ 800 by omega)]
  refine k109 (d := d + 31) hW hN (fun I3 nt hf htk => ⟨I3, rfl, ?_⟩)
  rw [hT] at htk
  have hf2 : Fr [48, 49, 50] [(46, 6), (46, 1), (46, 2), (46, 7)] I (u2 (u2 (u2 I3 46 1 (oI 0)) 46 2 (oI (-1))) 46 7 (oI 0)) := (((hf.sub rfl rfl).wr rfl).wr rfl).wr rfl
  have hps : PsC (u2 (u2 (u2 I3 46 1 (oI 0)) 46 2 (oI (-1))) 46 7 (oI 0)) T N nt 0 (-1) := by
    obtain ⟨h0, h1, h2, h3⟩ := htk
    refine ⟨⟨h0, h1, h2, fun t' ht' => ?_⟩, Nat.zero_le _, ?_, ?_, hN⟩
    · rw [ld_o (by decide), ld_o (by decide), ld_o (by decide), ld_o (by decide), ld_o (by decide), ld_o (by decide), ld_o (by decide), ld_o (by decide), ld_o (by decide)]; exact h3 t' ht'
    · rw [ld_w (inRd rfl), if_pos rfl]; rfl
    · rw [ld_w (inRd rfl), if_neg (by decide), ld_w (inRd rfl), if_pos rfl]
  have h1 : ld (u2 (u2 (u2 I3 46 1 (oI 0)) 46 2 (oI (-1))) 46 7 (oI 0)) 46 1 = ((0 : Nat) : Int) := by
    rw [ld_w (inRd rfl), if_neg (by decide), ld_w (inRd rfl), if_neg (by decide), ld_w (inRd rfl), if_pos rfl]; rfl
  refine l108 (nt := nt) hF ha 40 0 _ R S 0 0 [] rfl rfl (Gw.refl _ _ _ _ _) hps rfl (Nat.zero_le _) h1 (Nat.le_refl _) ⟨fun j o h => (by cases h), fun i j _ h => absurd h (Nat.not_lt_zero _)⟩ (fun r I1 R1 S1 hs gw hfa hl => rqV_of (k0 r _ I1 R1 S1 hs hf2 gw hfa hl)) (fun l2 r I1 R1 S1 hs gw hfa hz hrd hl => rqV_of (k1 l2 r _ I1 R1 S1 hs hf2 gw hfa hz hrd hl))
end
