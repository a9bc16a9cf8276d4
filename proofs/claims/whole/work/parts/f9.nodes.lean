set_option maxRecDepth 4000 in
theorem e124 {d L : Nat} {I : Nat → Nat → Int32} {R : Nat → Nat → Option Nat} {S : List (Nat × Nat)} {K : Option Nat → mM → Prop}  {x1 : Int} (hE : (0 ≤ ld I 46 7 ∧ ld I 46 7 < 801) ∧ (((ld I 48 (ld I 46 7).toNat = 165) → inR x1 ∧ (((x1 < 10) → CallR (d + 1) 124 [.ref 46, .int (oI (x1 + 1))] (bd L (u2 I 46 7 (oI (ld I 46 7 + 1))) R S) (fun o9 s => ∃ (I6 : mI) (R7 : mR) (S8 : mSh), s = bd L I6 R7 S8 ∧ (((o9 = none) → K none (bd L I6 R7 S8)) ∧ (∀ p10 : Nat, (o9 = some p10) → ∀ (p12 : Nat) (I13 : mI) (R14 : mR) (S15 : mSh), (AlC 16 5 I6 R7 S8 p12 I13 R14 S15) → (K (some p12) (bd L (u2 (u2 (u2 I13 p12 0 (oI 165)) p12 1 (oI 0)) p12 2 (oI 0)) (u2 R14 p12 3 (some p10)) S15)))))) ∧ (¬ (x1 < 10) → CallV (d + 1) 114 [.ref 46] (bd L I R S) (fun s => ∃ (I17 : mI), s = bd L I17 R S ∧ (K none (bd L I17 R S)))))) ∧ (¬ (ld I 48 (ld I 46 7).toNat = 165) → ((ld I 48 (ld I 46 7).toNat = 40) → inR x1 ∧ (((x1 < 10) → CallR (d + 1) 123 [.ref 46, .int (oI 163), .int (oI (x1 + 1))] (bd L (u2 I 46 7 (oI (ld I 46 7 + 1))) R S) (fun o25 s => ∃ (I22 : mI) (R23 : mR) (S24 : mSh), s = bd L I22 R23 S24 ∧ (((o25 = none) → K none (bd L I22 R23 S24)) ∧ (∀ p26 : Nat, (o25 = some p26) → CallI (d + 1) 118 [.ref 46, .int (oI 41)] (bd L I22 R23 S24) (fun y s => ∃ (y29 : Int) (I28 : mI), y = oI y29 ∧ s = bd L I28 R23 S24 ∧ inR y29 ∧ (((y29 = 0) → K none (bd L I28 R23 S24)) ∧ (¬ (y29 = 0) → K (some p26) (bd L I28 R23 S24)))))))) ∧ (¬ (x1 < 10) → CallV (d + 1) 114 [.ref 46] (bd L I R S) (fun s => ∃ (I31 : mI), s = bd L I31 R S ∧ (K none (bd L I31 R S)))))) ∧ (¬ (ld I 48 (ld I 46 7).toNat = 40) → CallR (d + 1) 125 [.ref 46] (bd L I R S) (fun o35 s => ∃ (I32 : mI) (R33 : mR) (S34 : mSh), s = bd L I32 R33 S34 ∧ (K o35 (bd L I32 R33 S34))))))) : CallR (d + 2) 124 [.ref 46, .int (oI x1)] (bd L I R S) K := by
  refine cR_of (ls := [.ref 46, .int (oI x1), mUn, mUn, mUn]) rfl ?_
  refine xG gb124.1 ?_
  refine s6 (p := 46) rfl ?_
  refine s51 sh46 (by decide) (by decide) rf46_3 ?_
  refine s6 (p := 46) rfl ?_
  refine s50 (v := ld I 46 7) sh46 (by decide) (by decide) (oI_ld _ _ _) ?_
  obtain ⟨g1, hE⟩ := hE
  refine s40 (v := ld I 48 (ld I 46 7).toNat) sh48 g1 rfl (oI_ld _ _ _) ?_
  refine s7 (ls' := [.ref 46, .int (oI x1), .int (oI (ld I 48 (ld I 46 7).toNat)), mUn, mUn]) (Nat.le_of_ble_eq_true rfl) rfl ?_
  refine s4 (x := ld I 48 (ld I 46 7).toNat) rfl ?_
  refine s0 ?_
  refine s61 (ld_inR _ _ _) (inRd rfl) (fun c2 => ?_) (fun c2 => ?_)
  · replace hE := hE.1 c2
    refine xG gb124.2.1 ?_
    refine s4 (x := x1) rfl ?_
    refine s0 ?_
    obtain ⟨g3, hE⟩ := hE
    refine s63 g3 (inRd rfl) (fun c4 => ?_) (fun c4 => ?_)
    · replace hE := hE.1 c4
      refine xG gb124.2.2.1 ?_
      refine s6 (p := 46) rfl ?_
      refine s13r ?_
      refine s50 (v := ld I 46 7) sh46 (by decide) (by decide) (oI_ld _ _ _) ?_
      refine s0 ?_
      refine s16 ?_
      refine s52 sh46 (by decide) (by decide) ?_
      refine s4 (x := ld I 48 (ld I 46 7).toNat) rfl ?_
      refine s0 ?_
      refine s62 (ld_inR _ _ _) (inRd rfl) (fun c5 => absurd c5 (fun h => absurd (h.symm.trans c2) (by decide))) (fun _ => ?_)
      refine xG gb124.2.2.2.2.2.1 ?_
      refine s6 (p := 46) rfl ?_
      refine s4 (x := x1) rfl ?_
      refine s0 ?_
      refine s16 ?_
      refine sR rc124 rfl (Nat.le_of_ble_eq_true rfl) ?_
      refine CallR.mono hE ?_
      rintro o9 _ ⟨I6, R7, S8, rfl, hE⟩
      refine s9o (ls' := [.ref 46, .int (oI x1), .int (oI (ld I 48 (ld I 46 7).toNat)), vR o9, mUn]) (Nat.le_of_ble_eq_true rfl) rfl ?_
      refine s6o (o := o9) rfl ?_
      refine s74o (fun n11 => ?_) (fun p10 n11 => ?_)
      · replace hE := hE.1 n11
        (try rw [n11])
        show Wp _ _ [.ref 46, .int (oI x1), .int (oI (ld I 48 (ld I 46 7).toNat)), .null, mUn] [] _ _
        refine s3 ?_
        refine s82o (o := none) ?_
        exact rqR_of (x := none) hE
      · replace hE := hE.2 p10 n11
        (try rw [n11])
        show Wp _ _ [.ref 46, .int (oI x1), .int (oI (ld I 48 (ld I 46 7).toNat)), .ref p10, mUn] [] _ _
        refine xG gb124.2.2.2.2.2.2 ?_
        refine s58 rfl (fun p12 I13 R14 S15 a16 => ?_)
        replace hE := hE p12 I13 R14 S15 a16
        refine s13r ?_
        refine s0 ?_
        refine s0 ?_
        refine s0 ?_
        refine sV (rcvO a16.ob rfl rfl) rfl (Nat.le_of_ble_eq_true rfl) ?_
        refine cV_of (ls := [.ref p12, .int (oI 165), .int (oI 0), .int (oI 0)]) rfl ?_
        refine xG gb196 ?_
        refine s6 (p := p12) rfl ?_
        refine s107 (Nat.le_of_ble_eq_true rfl) ?_
        refine s6 (p := p12) rfl ?_
        refine s4 (x := 165) rfl ?_
        refine s52 a16.ob.sh a16.ob.sp (by decide) ?_
        refine s6 (p := p12) rfl ?_
        refine s4 (x := 0) rfl ?_
        refine s52 a16.ob.sh a16.ob.sp (by decide) ?_
        refine s6 (p := p12) rfl ?_
        refine s4 (x := 0) rfl ?_
        refine s52 a16.ob.sh a16.ob.sp (by decide) ?_
        refine s83 ?_
        refine rqV_of ?_
        refine s9 (ls' := [.ref 46, .int (oI x1), .int (oI (ld I 48 (ld I 46 7).toNat)), .ref p10, .ref p12]) (Nat.le_of_ble_eq_true rfl) rfl ?_
        refine s6 (p := p12) rfl ?_
        refine s3 ?_
        refine s6 (p := p10) rfl ?_
        refine sV (rcvO a16.ob rfl rfl) rfl (Nat.le_of_ble_eq_true rfl) ?_
        refine cV_of (ls := [.ref p12, .null, .ref p10]) rfl ?_
        refine xG gb197.1 ?_
        refine s6n rfl ?_
        refine s74o (o := none) (fun _ => ?_) (fun _ h => absurd h (by simp))
        refine s6 (p := p12) rfl ?_
        refine s6 (p := p10) rfl ?_
        refine s53 (o := (some p10)) a16.ob.sh a16.ob.sp (by decide) a16.ob.zr ?_
        refine s60 ?_
        refine xG gb197.2.2 ?_
        refine s83 ?_
        refine rqV_of ?_
        refine s6 (p := p12) rfl ?_
        refine s82o (o := some p12) ?_
        exact rqR_of (x := (some p12)) hE
    · replace hE := hE.2 c4
      refine s6 (p := 46) rfl ?_
      refine sV rc114 rfl (Nat.le_of_ble_eq_true rfl) ?_
      refine CallV.mono hE ?_
      rintro _ ⟨I17, rfl, hE⟩
      refine s3 ?_
      refine s82o (o := none) ?_
      exact rqR_of (x := none) hE
  · replace hE := hE.2 c2
    refine s4 (x := ld I 48 (ld I 46 7).toNat) rfl ?_
    refine s0 ?_
    refine s61 (ld_inR _ _ _) (inRd rfl) (fun c18 => ?_) (fun c18 => ?_)
    · replace hE := hE.1 c18
      refine xG gb124.2.1 ?_
      refine s4 (x := x1) rfl ?_
      refine s0 ?_
      obtain ⟨g19, hE⟩ := hE
      refine s63 g19 (inRd rfl) (fun c20 => ?_) (fun c20 => ?_)
      · replace hE := hE.1 c20
        refine xG gb124.2.2.1 ?_
        refine s6 (p := 46) rfl ?_
        refine s13r ?_
        refine s50 (v := ld I 46 7) sh46 (by decide) (by decide) (oI_ld _ _ _) ?_
        refine s0 ?_
        refine s16 ?_
        refine s52 sh46 (by decide) (by decide) ?_
        refine s4 (x := ld I 48 (ld I 46 7).toNat) rfl ?_
        refine s0 ?_
        refine s62 (ld_inR _ _ _) (inRd rfl) (fun _ => ?_) (fun c21 => absurd c18 c21)
        refine s6 (p := 46) rfl ?_
        refine s0 ?_
        refine s4 (x := x1) rfl ?_
        refine s0 ?_
        refine s16 ?_
        refine sR rc123 rfl (Nat.le_of_ble_eq_true rfl) ?_
        refine CallR.mono hE ?_
        rintro o25 _ ⟨I22, R23, S24, rfl, hE⟩
        refine s9o (ls' := [.ref 46, .int (oI x1), .int (oI (ld I 48 (ld I 46 7).toNat)), vR o25, mUn]) (Nat.le_of_ble_eq_true rfl) rfl ?_
        refine s6o (o := o25) rfl ?_
        refine s73o (fun n27 => ?_) (fun p26 n27 => ?_)
        · replace hE := hE.1 n27
          (try rw [n27])
          show Wp _ _ [.ref 46, .int (oI x1), .int (oI (ld I 48 (ld I 46 7).toNat)), .null, mUn] [] _ _
          refine xG gb124.2.2.2.1 ?_
          refine s3 ?_
          refine s79 ?_
          refine xG gb124.2.2.2.2.1 ?_
          refine s82o (o := none) ?_
          exact rqR_of (x := none) hE
        · replace hE := hE.2 p26 n27
          (try rw [n27])
          show Wp _ _ [.ref 46, .int (oI x1), .int (oI (ld I 48 (ld I 46 7).toNat)), .ref p26, mUn] [] _ _
          refine s6 (p := 46) rfl ?_
          refine s0 ?_
          refine sI rc118 rfl (Nat.le_of_ble_eq_true rfl) ?_
          refine CallI.mono hE ?_
          rintro _ _ ⟨y29, I28, rfl, rfl, gy29, hE⟩
          refine s67 gy29 (fun c30 => ?_) (fun c30 => ?_)
          · replace hE := hE.1 c30
            refine xG gb124.2.2.2.1 ?_
            refine s3 ?_
            refine s79 ?_
            refine xG gb124.2.2.2.2.1 ?_
            refine s82o (o := none) ?_
            exact rqR_of (x := none) hE
          · replace hE := hE.2 c30
            refine s6 (p := p26) rfl ?_
            refine s60 ?_
            refine xG gb124.2.2.2.2.1 ?_
            refine s82o (o := some p26) ?_
            exact rqR_of (x := (some p26)) hE
      · replace hE := hE.2 c20
        refine s6 (p := 46) rfl ?_
        refine sV rc114 rfl (Nat.le_of_ble_eq_true rfl) ?_
        refine CallV.mono hE ?_
        rintro _ ⟨I31, rfl, hE⟩
        refine s3 ?_
        refine s82o (o := none) ?_
        exact rqR_of (x := none) hE
    · replace hE := hE.2 c18
      refine s6 (p := 46) rfl ?_
      refine sR rc125 rfl (Nat.le_of_ble_eq_true rfl) ?_
      refine CallR.mono hE ?_
      rintro o35 _ ⟨I32, R33, S34, rfl, hE⟩
      refine s82o ?_
      exact rqR_of (x := o35) hE
section
variable {L : Nat} {T : Nat → Int} {N nt F : Nat}
theorem kAnd {n D : Nat} {x2 : Int} (hF : N < F) (he : NdC T N nt (D + 1) L 124 [.ref 46, .int (oI x2)] (sgP T N F n) (fun R S I q o => NOne R S I n q o)) : NdC T N nt (D + 2) L 123 [.ref 46, .int (oI 164), .int (oI x2)] (chP T N wAnd (sgP T N F n) F) (fun R S I q l => NJn 164 (NOne R S I n) R S I q l) :=
  k123 (i := 36) (by decide) rfl rfl (Or.inr ⟨by decide, rfl, rfl⟩) he (fun p hp => sg_in n p hp) hF
theorem kOr {n D : Nat} {x2 : Int} (hF : N < F) (he : NdC T N nt (D + 1) L 124 [.ref 46, .int (oI x2)] (sgP T N F n) (fun R S I q o => NOne R S I n q o)) : NdC T N nt (D + 3) L 123 [.ref 46, .int (oI 163), .int (oI x2)] (chP T N wOr (chP T N wAnd (sgP T N F n) F) F) (fun R S I q t => NAny R S I n q t) :=
  k123 (d := D + 1) (i := 35) (by decide) rfl rfl (Or.inl ⟨rfl, rfl, rfl⟩) (kAnd hF he) (fun p hp => ch_in (sg_in n) F p hp) hF
theorem sgP_zero {p : Nat} : sgP T N F 0 p = if tkOk T N (bl T N p) wNot then (none, bl T N p) else if bl T N p < N ∧ T (bl T N p) = 40 then (none, bl T N p) else yLf T N (bl T N p) := rfl
theorem k124 (hF : N < F) : ∀ (n D d : Nat) (x1 : Int), n ≤ 10 → x1 = 10 - (n : Int) → D = d + (3 + 3 * n) → NdC T N nt D L 124 [.ref 46, .int (oI x1)] (sgP T N F n) (fun R S I q o => NOne R S I n q o) := by
  intro n
  induction n with
  | zero =>
    intro D d x1 hn10 hx1 hD I R S t p K h hb hp k0 k1
    obtain rfl : D = (d + 1) + 2 := by omega
    have g := h.at
    have hpl := plc_in (T := T) (N := N) t
    have hm1 := tk_w (T := T) (N := N) (i := 37) (w := wNot) hpl (by decide) rfl
    have hm2 := tk_sign (T := T) (N := N) (q := plc T N t) (b := 40) (by decide)
    have neg : (tkK T N (plc T N t) = 165 ∨ tkK T N (plc T N t) = 40) → CallV (d + 2) 114 [.ref 46] (bd L I R S) (fun s => ∃ (I6 : mI), s = bd L I6 R S ∧ (K none (bd L I6 R S))) := fun hc => k114 h (fun I1 q1 q2 => ⟨_, rfl, k0 _ _ _ _ (by
      rw [sgP_zero, hb]
      by_cases c : tkOk T N (plc T N t) wNot
      · exact if_pos c
      · exact (if_neg c).trans (if_pos (hm2.mpr (by
          rcases hc with e | e
          · exact absurd (hm1.mpr e) c
          · exact e)))) ⟨Gw.fr q1, t, Nat.le_refl _, Nat.le_refl _, q2⟩⟩)
    refine e124 (d := d + 1) ⟨g.2.2.2, ?_⟩
    rw [g.1]
    refine ⟨fun c => ⟨⟨by omega, by omega⟩, fun c2 => absurd c2 (by omega), fun _ => neg (Or.inl c)⟩, fun c => ⟨fun c3 => ⟨⟨by omega, by omega⟩, fun c2 => absurd c2 (by omega), fun _ => neg (Or.inr c3)⟩, fun c3 => ?_⟩⟩
    have es : sgP T N F 0 p = yLf T N (bl T N p) := by
      rw [sgP_zero, hb, if_neg (fun h9 => c (hm1.mp h9)), if_neg (fun h9 => c3 (hm2.mp h9))]
    exact k125 I R S t p _ h hb hp (fun r I1 R1 S1 hs fa => ⟨_, _, _, rfl, k0 r I1 R1 S1 (es.trans hs) fa⟩) (fun x r I1 R1 S1 t1 q hs cu ht res => ⟨_, _, _, rfl, k1 x r I1 R1 S1 t1 q (es.trans hs) cu ht res⟩)
  | succ n ih =>
    intro D d x1 hn10 hx1 hD I R S t p K h hb hp k0 k1
    obtain rfl : D = (d + 4 + 3 * n) + 2 := by omega
    have hc := ih (d + 4 + 3 * n + 1) (d + 2) (10 - (n : Int)) (by omega) rfl (by omega)
    have ho := kOr (D := d + 2 + 3 * n) hF (ih (d + 2 + 3 * n + 1) d (10 - (n : Int)) (by omega) rfl (by omega))
    rw [show d + 2 + 3 * n + 3 = d + 4 + 3 * n + 1 by omega] at ho
    have hk5 := k125 (d := d + 3 + 3 * n) (L := L) (T := T) (N := N) (nt := nt)
    rw [show d + 3 + 3 * n + 2 = d + 4 + 3 * n + 1 by omega] at hk5
    have g := h.at
    have h7 := h.2.2.1
    have hN := h.2.2.2.2
    have hpl := plc_in (T := T) (N := N) t
    have hm1 := tk_w (T := T) (N := N) (i := 37) (w := wNot) hpl (by decide) rfl
    have hm2 := tk_sign (T := T) (N := N) (q := plc T N t) (b := 40) (by decide)
    refine e124 (d := d + 4 + 3 * n) ⟨g.2.2.2, ?_⟩
    have ex : x1 + 1 = 10 - (n : Int) := by omega
    rw [g.1, ex]
    refine ⟨fun c => ⟨⟨by omega, by omega⟩, fun _ => ?_, fun c2 => absurd (show x1 < 10 by omega) c2⟩, fun c => ⟨fun c3 => ⟨⟨by omega, by omega⟩, fun _ => ?_, fun c2 => absurd (show x1 < 10 by omega) c2⟩, fun c3 => ?_⟩⟩
    · have hok := hm1.mpr c
      have l1 := h.lt (by omega)
      have h1 := h.nx l1.1 (v := ld I 46 7 + 1) (by omega)
      have e1 : bl T N (lt T N (plc T N t)) = plc T N (t + 1) := by
        show _ = bl T N (tkE T N (plc T N t))
        rw [tk_wordE (i := 37) c]
      have hlt := lt_in (T := T) hpl
      have es : sgP T N F (n + 1) p = ((sgP T N F n (lt T N (plc T N t))).1.map (fun o => Sum.inr (Sum.inl o)), (sgP T N F n (lt T N (plc T N t))).2) := by rw [sgP_succ, hb, if_pos hok]
      refine hc _ R S (t + 1) (lt T N (plc T N t)) _ h1.2 e1 hlt.2 (fun r I1 R1 S1 hs fa => ?_) (fun x r I1 R1 S1 t1 q hs cu ht res => ?_)
      · obtain ⟨fa1, t3, fa2, fa3, fa4⟩ := fa
        exact ⟨_, _, _, rfl, fun _ => k0 r I1 R1 S1 (by rw [es, hs]; rfl) ⟨(Gw.fr h1.1).trans fa1, t3, by omega, by omega, fa4⟩, fun p7 h7 => (by cases h7)⟩
      · refine ⟨_, _, _, rfl, fun h9 => (by cases h9), fun p7 h7 p12 I13 R14 S15 ha => ?_⟩
        obtain rfl := Option.some.inj h7
        obtain ⟨cu1, cu2, cu3, cu4, cu5, cu6⟩ := cu
        have hl1 := cu1.len
        have hp11 := ha.1
        have hl : S15.length = S1.length + 1 := by rw [ha.2.1, List.length_append]; rfl
        have hq1 := res.1
        refine k1 (Sum.inr (Sum.inl x)) r _ _ _ t1 p12 (by rw [es, hs]; rfl) ⟨(((((Gw.fr h1.1).trans cu1).trans (Gw.al ha (by decide))).wI (by omega)).wI (by omega)).wI (by omega) |>.wR (by omega), cu2.ag (fun a k h9 => ?_), cu3, cu4, by omega, by omega⟩ (by omega) ⟨⟨by omega, by omega⟩, ?_, ha.ob, fun I' R' S' ga => ?_⟩
        · rw [v2_ne (by omega), v2_ne (by omega), v2_ne (by omega)]
          exact (ha.2.2.2.2 a k (by omega)).1
        · rw [v2_nk (by decide)]; exact ha.2.2.2.1 4
        · have g12 := ga p12 (by omega) (by omega)
          have gq := ga q (by omega) (by omega)
          refine ⟨⟨by omega, g12.2.2.2.trans ha.ob.2⟩, ?_, q, g12.2.1.trans v2_eq, ?_, res.2.2.2 I' R' S' (fun p h8 h9 => ?_)⟩
          · show (I' p12 0).toInt = 165
            rw [g12.1 0]
            show ld (u2 (u2 (u2 I13 p12 0 (oI 165)) p12 1 (oI 0)) p12 2 (oI 0)) p12 0 = 165
            rw [ld_w (inRd rfl), if_neg (by decide), ld_w (inRd rfl), if_neg (by decide), ld_w (inRd rfl), if_pos rfl]
          · rw [gq.2.2.1 (by omega), v2_ne (by omega), (ha.2.2.2.2 q 4 (by omega)).2]; exact res.2.1
          · have gp := ga p (by omega) (by omega)
            have ag := ha.2.2.2.2 p
            refine ⟨fun k => ?_, ?_, fun c1 => ?_, ?_⟩
            · rw [gp.1 k, v2_ne (by omega), v2_ne (by omega), v2_ne (by omega)]; exact (ag k (by omega)).1
            · rw [gp.2.1, v2_ne (by omega)]; exact (ag 3 (by omega)).2
            · rw [gp.2.2.1 (by omega), v2_ne (by omega)]; exact (ag 4 (by omega)).2
            · rw [gp.2.2.2, ha.2.1, List.getElem?_append_left (by omega)]
    · have hok := hm2.mpr c3
      have l1 := h.lt (by omega)
      have h1 := h.nx l1.1 (v := ld I 46 7 + 1) (by omega)
      have e1 : bl T N (plc T N t + 1) = plc T N (t + 1) := by
        show _ = bl T N (tkE T N (plc T N t))
        rw [tk_signE (b := 40) (by decide) c3]
      have es : sgP T N F (n + 1) p = (match chP T N wOr (chP T N wAnd (sgP T N F n) F) F (plc T N t + 1) with
        | (none, r) => (none, r)
        | (some t, r) => if bl T N r < N ∧ T (bl T N r) = 41 then (some (Sum.inr (Sum.inr t)), bl T N r + 1) else (none, bl T N r)) := by rw [sgP_succ, hb, if_neg (fun h9 => c (hm1.mp h9)), if_pos hok]; rfl
      refine ho _ R S (t + 1) (plc T N t + 1) _ h1.2 e1 (by omega) (fun r I1 R1 S1 hs fa => ?_) (fun x r I1 R1 S1 t1 q hs cu ht res => ?_)
      · obtain ⟨fa1, t3, fa2, fa3, fa4⟩ := fa
        exact ⟨_, _, _, rfl, fun _ => k0 r I1 R1 S1 (by rw [es, hs]) ⟨(Gw.fr h1.1).trans fa1, t3, by omega, by omega, fa4⟩, fun p7 h7 => (by cases h7)⟩
      · refine ⟨_, _, _, rfl, fun h9 => (by cases h9), fun p7 h7 => ?_⟩
        obtain rfl := Option.some.inj h7
        obtain ⟨cu1, cu2, cu3, cu4, cu5, cu6⟩ := cu
        have gw1 := (Gw.fr (rs := []) (R := R) (S := S) h1.1).trans cu1
        refine k118s (d := d + 4 + 3 * n) cu2 cu3 (by decide) (fun r3 I3 hs3 cs => ⟨1, I3, rfl, rfl, inRd rfl, fun h9 => absurd h9 (by decide), fun _ => ?_⟩) (fun r3 I3 hs3 fs => ⟨0, I3, rfl, rfl, inRd rfl, fun _ => ?_, fun h9 => absurd rfl h9⟩)
        · have hsg : bl T N r < N ∧ T (bl T N r) = 41 := by
            apply Classical.byContradiction
            intro h9
            rw [rSign_n h9] at hs3
            cases hs3
          rw [rSign_p hsg] at hs3
          have e3 : bl T N r + 1 = r3 := congrArg Prod.snd hs3
          obtain ⟨cs1, cs2, cs3, cs4, cs5⟩ := cs
          refine k1 (Sum.inr (Sum.inr x)) r3 I3 R1 S1 (t1 + 1) q (by rw [es, hs]; dsimp only; rw [if_pos hsg, e3]) ⟨gw1.trans (Gw.fr cs1), cs2, cs3, cs4, by omega, by omega⟩ (by omega) ?_
          exact (Res.ag (P := fun R S I q t => NAny R S I n q t) res (fun a k h9 => cs1 a k (by show (false || osN.contains (a, k)) = false; rw [osN_hi h9]; rfl)))
        · have hsg : ¬ (bl T N r < N ∧ T (bl T N r) = 41) := by
            intro h9
            rw [rSign_p h9] at hs3
            cases hs3
          rw [rSign_n hsg] at hs3
          have e3 : bl T N r = r3 := congrArg Prod.snd hs3
          obtain ⟨fs1, t3, fs2, fs3⟩ := fs
          refine k0 r3 I3 R1 S1 (by rw [es, hs]; dsimp only; rw [if_neg hsg, e3]) ⟨gw1.trans (Gw.fr fs1), t3, by omega, by omega, fs3⟩
    · have es : sgP T N F (n + 1) p = ((yLf T N (bl T N p)).1.map Sum.inl, (yLf T N (bl T N p)).2) := by rw [sgP_succ, hb, if_neg (fun h9 => c (hm1.mp h9)), if_neg (fun h9 => c3 (hm2.mp h9))]
      exact hk5 I R S t p _ h hb hp (fun r I1 R1 S1 hs fa => ⟨_, _, _, rfl, k0 r I1 R1 S1 (by rw [es]; dsimp only at hs; rw [hs]; rfl) fa⟩) (fun x r I1 R1 S1 t1 q hs cu ht res => ⟨_, _, _, rfl, k1 (Sum.inl x) r I1 R1 S1 t1 q (by rw [es]; dsimp only at hs; rw [hs]; rfl) cu ht res⟩)
theorem kTree {d : Nat} (hF : N < F) : NdC T N nt (d + 35) L 123 [.ref 46, .int (oI 163), .int (oI 0)] (anP T N F 10) (fun R S I q t => NAny R S I 10 q t) :=
  kOr (n := 10) (D := d + 32) hF (k124 hF 10 (d + 33) d 0 (Nat.le_refl _) (by decide) rfl)
end
