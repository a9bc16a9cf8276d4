section
variable {d L : Nat} {I I0 : mI} {R R0 : mR} {S S0 : mSh} {T : Nat → Int} {N nt t t0 p0 r q F : Nat} {f x1 n : Int} {K : mM → Prop} {w w1 w2 w3 : Value}
theorem k115 (hF : N < F) (h : PsC I0 T N nt t0 (-1)) (hb : bl T N p0 = plc T N t0) (hsz : 0 ≤ ld I0 46 1 ∧ ld I0 46 1 < 40) (hx1 : inR x1)
    (k0 : ∀ (r1 : Nat) (I1 : mI) (R1 : mR) (S1 : mSh) (t1 : Nat), smP T N F p0 = (none, r1) → Gw osN [] I0 R0 S0 I1 R1 S1 → t0 ≤ t1 → S1.length + t0 ≤ S0.length + t1 → PsC I1 T N nt t1 (r1 : Int) → K (bd L I1 R1 S1))
    (k1 : ∀ (o : Stm) (r1 : Nat) (I1 : mI) (R1 : mR) (S1 : mSh) (t1 q1 : Nat), smP T N F p0 = (some o, r1) → Gw osM [47] I0 R0 S0 I1 R1 S1 → PsC I1 T N nt t1 (-1) → bl T N r1 = plc T N t1 → r1 ≤ N → t0 < t1 → S1.length + t0 ≤ S0.length + t1 → ld I1 46 1 = ld I0 46 1 + 1 → R1 47 (ld I0 46 1).toNat = some q1 → (∀ j, ¬ j = (ld I0 46 1).toNat → R1 47 j = R0 47 j) → 155 + S0.length ≤ q1 → ClS R1 S1 I1 x1 q1 o → K (bd L I1 R1 S1)) : CallV (d + 36) 115 [.ref 46, .int (oI x1)] (bd L I0 R0 S0) K := by
  have g := h.at
  have h7 := h.2.2.1
  have hN := h.2.2.2.2
  have hpl := plc_in (T := T) (N := N) t0
  have m0 := tk_w (T := T) (N := N) (i := 0) (w := wClause) hpl (by decide) rfl
  have m1 := tk_w (T := T) (N := N) (i := 1) (w := wOmit) hpl (by decide) rfl
  have om1 : tkK T N (plc T N t0) = 129 → omP T N p0 = (some true, lt T N (plc T N t0)) := fun c => by unfold omP; rw [hb, if_pos (m1.mpr c)]
  have om0 : tkK T N (plc T N t0) = 128 → omP T N p0 = (some false, lt T N (plc T N t0)) := fun c => by unfold omP; rw [hb, if_neg (fun e => by have := m1.mp e; omega), if_pos (m0.mpr c)]
  have omn : ¬ tkK T N (plc T N t0) = 128 → ¬ tkK T N (plc T N t0) = 129 → omP T N p0 = (none, plc T N t0) := fun c c2 => by unfold omP; rw [hb, if_neg (fun e => c2 (m1.mp e)), if_neg (fun e => c (m0.mp e))]
  refine e115 (d := d + 34) ⟨g.2.2.2, ?_⟩
  rw [g.1]
  have hn := fun c => (h.nx (h.lt c).1 (v := ld I0 46 7 + 1) (by omega))
  have e1 : ∀ i : Nat, tkK T N (plc T N t0) = 128 + (i : Int) → bl T N (lt T N (plc T N t0)) = plc T N (t0 + 1) := fun i hi => by
    show _ = bl T N (tkE T N (plc T N t0))
    rw [tk_wordE (i := i) hi]
  refine ⟨fun c => ?_, fun c => ⟨fun c2 => ?_, fun c2 => ?_⟩⟩
  · have h1 := hn (by omega)
    have b1 := e1 0 c
    refine k116s h1.2 b1 (inRd rfl) (inRd rfl) (fun n r1 I3 e cs => ?_) (fun r1 I3 e fs => ?_)
    · have hn1 := rNum_some e
      have hni : inR n := ⟨by omega, by omega⟩
      refine ⟨n, I3, rfl, rfl, hni, fun p5 I6 R7 S8 ha => ?_⟩
      have hp5 := ha.1
      have hl : S8.length = S0.length + 1 := by rw [ha.2.1, List.length_append]; rfl
      have gw0 : Gw osN [] I0 R0 S0 I6 R7 S8 := (Gw.fr (h1.1.trans cs.1)).trans (Gw.al ha (by decide))
      have p6 : PsC I6 T N nt (t0 + 1 + 1) (-1) := cs.2.1.ag (fun a k hlt => (ha.2.2.2.2 a k (by omega)).1)
      have fin : ∀ (I11 : mI) (kd : Int), Fr [] osN I6 I11 → Gw osN [] I0 R0 S0 (u2 (u2 (u2 I11 p5 0 (oI n)) p5 1 (oI kd)) p5 5 (oI x1)) (u2 R7 p5 7 (some 4)) S8 := fun I11 kd hf => ((((gw0.trans (Gw.fr hf)).wI (by omega)).wI (by omega)).wI (by omega)).wR (by omega)
      have fall : ∀ (I11 : mI) (kd : Int) (t1 r2 : Nat), Fr [] osN I6 I11 → t0 + 1 ≤ t1 → PsC I11 T N nt t1 (r2 : Int) → smP T N F p0 = (none, r2) → CallV (d + 34 + 1) 119 [.ref 46, .ref p5] (bd L (u2 (u2 (u2 I11 p5 0 (oI n)) p5 1 (oI kd)) p5 5 (oI x1)) (u2 R7 p5 7 (some 4)) S8) (fun s => ∃ (I13 : mI), s = bd L I13 (u2 R7 p5 7 (some 4)) S8 ∧ in115 (d + 34) L I13 (u2 R7 p5 7 (some 4)) S8 K x1 (.int (oI (tkK T N (plc T N t0)))) n p5) := by
        intro I11 kd t1 r2 hf ht1 hp hs
        refine k119f (d := d + 32) (((hp.wq (by omega)).wq (by omega)).wq (by omega)) (by omega) ha.ob (fun I13 hw hp13 => ⟨I13, rfl, in115f hp13 (by omega) (k0 r2 I13 _ S8 t1 hs ?_ (by omega) (by omega) hp13)⟩)
        have g1 := fin I11 kd hf
        refine ⟨g1.1, fun a k hlt ho => ?_, g1.2.2⟩
        exact (hw.1 a k (by omega) ho).trans (g1.2.1 a k hlt ho)
      refine k117s (d := d + 33) p6 cs.2.2.1 (fun v r2 I11 e2 cs2 hv => ?_) (fun r2 I11 e2 fs2 => ?_)
      · have hck : inR (ckd v) := by
          unfold ckd
          split
          · exact ⟨by omega, by omega⟩
          · split <;> exact ⟨by omega, by omega⟩
        refine ⟨ckd v, I11, rfl, rfl, hck, ?_⟩
        have gM := fin I11 (ckd v) cs2.1
        have l11 : ∀ k, ld I11 p5 k = 0 := fun k => by
          rw [fr_q (by omega) cs2.1]
          show (I6 p5 k).toInt = 0
          rw [ha.2.2.1 k]; rfl
        refine k119s (d := d + 32) (v := v) (((cs2.2.1.wq (by omega)).wq (by omega)).wq (by omega)) cs2.2.2.1 cs2.2.2.2.1 ha.ob hv ?_ ?_ ?_ ?_ (fun b r3 I13 t3 e3 hw ht3 hp13 hb13 hr13 hbv hfl => ?_) (fun r3 I13 t3 e3 hw ht3 hp13 => ?_)
        · rw [ld_w hx1, if_neg (by decide), ld_w hck, if_pos rfl]
        · rw [ld_w hx1, if_neg (by decide), ld_w hck, if_neg (by decide), ld_w hni, if_neg (by decide)]; exact l11 2
        · rw [ld_w hx1, if_neg (by decide), ld_w hck, if_neg (by decide), ld_w hni, if_neg (by decide)]; exact l11 3
        · rw [ld_w hx1, if_neg (by decide), ld_w hck, if_neg (by decide), ld_w hni, if_neg (by decide)]; exact l11 4
        · have kp : ∀ k, ¬ (k = 2 ∨ k = 3 ∨ k = 4) → ld I13 p5 k = ld (u2 (u2 (u2 I11 p5 0 (oI n)) p5 1 (oI (ckd v))) p5 5 (oI x1)) p5 k := fun k hk => by
            show (I13 p5 k).toInt = (u2 (u2 (u2 I11 p5 0 (oI n)) p5 1 (oI (ckd v))) p5 5 (oI x1) p5 k).toInt
            rw [hw.2 k hk]
          refine ⟨I13, rfl, in115s (r := r3) (b := b) hF ?_ hp13 hb13 hr13 (by omega) (by omega) (by omega) ha.ob ?_ (by omega) ?_ ?_ hfl ?_ v2_eq hsz ?_ k0 k1⟩
          · exact ⟨gM.1, fun a k hlt ho => (hw.1 a k (by omega) ho).trans (gM.2.1 a k hlt ho), gM.2.2⟩
          · rw [kp 0 (by decide), ld_w hx1, if_neg (by decide), ld_w hck, if_neg (by decide), ld_w hni, if_pos rfl]
          · rw [kp 1 (by decide), ld_w hx1, if_neg (by decide), ld_w hck, if_pos rfl, hbv]
          · rw [kp 5 (by decide), ld_w hx1, if_pos rfl]
          · rw [v2_nk (by decide)]; exact ha.2.2.2.1 6
          · unfold smP
            rw [om0 c]
            dsimp only [bnd]
            rw [e]
            dsimp only
            rw [inP_s e2, e3]
            dsimp only [bnd]
            rw [← hbv]
            by_cases c7 : b.1 = 7 ∨ 10 ≤ b.1
            · rw [if_pos c7, if_pos (Or.inr c7)]
            · rw [if_neg c7, if_neg (by omega)]
        · refine ⟨I13, rfl, in115f hp13 (by omega) (k0 r3 I13 _ S8 t3 ?_ ?_ (by omega) (by omega) hp13)⟩
          · unfold smP
            rw [om0 c]
            dsimp only [bnd]
            rw [e]
            dsimp only
            rw [inP_s e2, e3]
            rfl
          · exact ⟨gM.1, fun a k hlt ho => (hw.1 a k (by omega) ho).trans (gM.2.1 a k hlt ho), gM.2.2⟩
      · obtain ⟨f1, t1, f2, f3⟩ := fs2
        refine ⟨0, I11, rfl, rfl, inRd rfl, fall I11 0 t1 r2 f1 (by omega) f3 ?_⟩
        unfold smP
        rw [om0 c]
        dsimp only [bnd]
        rw [e]
        dsimp only
        rw [inP_n e2]
    · obtain ⟨f1, t1, f2, f3⟩ := fs
      refine ⟨0, I3, rfl, rfl, inRd rfl, fun p5 I6 R7 S8 ha => ?_⟩
      have hp5 := ha.1
      have hl : S8.length = S0.length + 1 := by rw [ha.2.1, List.length_append]; rfl
      have gw0 : Gw osN [] I0 R0 S0 I6 R7 S8 := (Gw.fr (h1.1.trans f1)).trans (Gw.al ha (by decide))
      have p6 : PsC I6 T N nt t1 (r1 : Int) := f3.ag (fun a k hlt => (ha.2.2.2.2 a k (by omega)).1)
      refine k117f (d := d + 33) p6 (by omega) ⟨0, I6, rfl, rfl, inRd rfl, ?_⟩
      refine k119f (d := d + 32) (((p6.wq (by omega)).wq (by omega)).wq (by omega)) (by omega) ha.ob (fun I13 hw hp13 => ⟨I13, rfl, in115f hp13 (by omega) (k0 r1 I13 _ S8 t1 ?_ ?_ (by omega) (by omega) hp13)⟩)
      · unfold smP
        rw [om0 c]
        dsimp only [bnd]
        rw [e]
      · have g1 : Gw osN [] I0 R0 S0 (u2 (u2 (u2 I6 p5 0 (oI 0)) p5 1 (oI 0)) p5 5 (oI x1)) (u2 R7 p5 7 (some 4)) S8 := (((gw0.wI (by omega)).wI (by omega)).wI (by omega)).wR (by omega)
        exact ⟨g1.1, fun a k hlt ho => (hw.1 a k (by omega) ho).trans (g1.2.1 a k hlt ho), g1.2.2⟩
  · have h1 := hn (by omega)
    have b1 := e1 1 c2
    refine k116s h1.2 b1 (inRd rfl) (inRd rfl) (fun n r1 I3 e cs => ?_) (fun r1 I3 e fs => ?_)
    · have hn1 := rNum_some e
      have hni : inR n := ⟨by omega, by omega⟩
      refine ⟨n, I3, rfl, rfl, hni, fun p5 I6 R7 S8 ha => ?_⟩
      have hp5 := ha.1
      have hl : S8.length = S0.length + 1 := by rw [ha.2.1, List.length_append]; rfl
      have gw0 : Gw osN [] I0 R0 S0 I6 R7 S8 := (Gw.fr (h1.1.trans cs.1)).trans (Gw.al ha (by decide))
      have p6 : PsC I6 T N nt (t0 + 1 + 1) (-1) := cs.2.1.ag (fun a k hlt => (ha.2.2.2.2 a k (by omega)).1)
      have l11 : ∀ k, ld I6 p5 k = 0 := fun k => by
        show (I6 p5 k).toInt = 0
        rw [ha.2.2.1 k]; rfl
      have l1 : ld (u2 (u2 (u2 I6 p5 0 (oI n)) p5 1 (oI 129)) p5 5 (oI x1)) p5 1 = 129 := by rw [ld_w hx1, if_neg (by decide), ld_w (inRd rfl), if_pos rfl]
      refine e119 (d := d + 34) ⟨ha.ob, ?_⟩
      rw [l1]
      refine ⟨fun _ => ⟨_, rfl, in115s (r := r1) (b := (0, 0, 0)) hF ((((gw0.wI (by omega)).wI (by omega)).wI (by omega)).wR (by omega)) (((p6.wq (by omega)).wq (by omega)).wq (by omega)) cs.2.2.1 cs.2.2.2.1 (by omega) (by omega) (by omega) ha.ob ?_ (by decide) l1 ?_ ⟨?_, ?_, ?_⟩ ?_ v2_eq hsz ?_ k0 k1⟩, fun c => absurd c (by decide), fun c => absurd c (by decide), fun c => absurd c (by decide), fun c => absurd c (by decide), fun c => absurd c (by decide), fun c => absurd c (by decide), fun c => absurd c (by decide), fun c => absurd rfl c.1⟩
      · rw [ld_w hx1, if_neg (by decide), ld_w (inRd rfl), if_neg (by decide), ld_w hni, if_pos rfl]
      · rw [ld_w hx1, if_pos rfl]
      · rw [ld_w hx1, if_neg (by decide), ld_w (inRd rfl), if_neg (by decide), ld_w hni, if_neg (by decide)]; exact l11 2
      · rw [ld_w hx1, if_neg (by decide), ld_w (inRd rfl), if_neg (by decide), ld_w hni, if_neg (by decide)]; exact l11 3
      · rw [ld_w hx1, if_neg (by decide), ld_w (inRd rfl), if_neg (by decide), ld_w hni, if_neg (by decide)]; exact l11 4
      · rw [v2_nk (by decide)]; exact ha.2.2.2.1 6
      · unfold smP
        rw [om1 c2]
        dsimp only [bnd]
        rw [e]
        rfl
    · obtain ⟨f1, t1, f2, f3⟩ := fs
      refine ⟨0, I3, rfl, rfl, inRd rfl, fun p5 I6 R7 S8 ha => ?_⟩
      have hp5 := ha.1
      have hl : S8.length = S0.length + 1 := by rw [ha.2.1, List.length_append]; rfl
      have gw0 : Gw osN [] I0 R0 S0 I6 R7 S8 := (Gw.fr (h1.1.trans f1)).trans (Gw.al ha (by decide))
      have p6 : PsC I6 T N nt t1 (r1 : Int) := f3.ag (fun a k hlt => (ha.2.2.2.2 a k (by omega)).1)
      refine k119f (d := d + 32) (((p6.wq (by omega)).wq (by omega)).wq (by omega)) (by omega) ha.ob (fun I13 hw hp13 => ⟨I13, rfl, in115f hp13 (by omega) (k0 r1 I13 _ S8 t1 ?_ ?_ (by omega) (by omega) hp13)⟩)
      · unfold smP
        rw [om1 c2]
        dsimp only [bnd]
        rw [e]
      · have g1 : Gw osN [] I0 R0 S0 (u2 (u2 (u2 I6 p5 0 (oI 0)) p5 1 (oI 129)) p5 5 (oI x1)) (u2 R7 p5 7 (some 4)) S8 := (((gw0.wI (by omega)).wI (by omega)).wI (by omega)).wR (by omega)
        exact ⟨g1.1, fun a k hlt ho => (hw.1 a k (by omega) ho).trans (g1.2.1 a k hlt ho), g1.2.2⟩
  · refine k114 h (fun I1 q1 q2 => ⟨_, rfl, k0 _ I1 R0 S0 t0 ?_ (Gw.fr q1) (Nat.le_refl _) (Nat.le_refl _) q2⟩)
    unfold smP
    rw [omn c c2]
    rfl
end
