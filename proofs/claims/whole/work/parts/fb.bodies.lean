theorem bdP_13 {T : Nat → Int} {N p : Nat} : bdP T N 13 p = prP T N 13 9999 wIs 9999 p := by
  unfold bdP
  rw [if_pos rfl]
theorem bdP_14 {T : Nat → Int} {N p : Nat} : bdP T N 14 p = prP T N 14 5 wIs 9999 p := by
  unfold bdP
  rw [if_neg (by decide), if_pos rfl]
theorem bdP_1 {T : Nat → Int} {N p : Nat} : bdP T N 1 p = cnP T N p := by
  unfold bdP
  rw [if_neg (by decide), if_neg (by decide), if_pos rfl]
theorem bdP_2 {T : Nat → Int} {N p : Nat} : bdP T N 2 p = prP T N 2 5 wAs 2 p := by
  unfold bdP
  rw [if_neg (by decide), if_neg (by decide), if_neg (by decide), if_pos rfl]
theorem bdP_4 {T : Nat → Int} {N p : Nat} : bdP T N 4 p = prP T N 4 5 wNeeds 9999 p := by
  unfold bdP
  rw [if_neg (by decide), if_neg (by decide), if_neg (by decide), if_neg (by decide), if_pos rfl]
theorem bdP_6 {T : Nat → Int} {N p : Nat} : bdP T N 6 p = grP T N p := by
  unfold bdP
  rw [if_neg (by decide), if_neg (by decide), if_neg (by decide), if_neg (by decide), if_neg (by decide), if_pos rfl]
theorem bdP_9 {T : Nat → Int} {N p : Nat} : bdP T N 9 p = ((some (9, 0, 0), p) : Option Bdy × Nat) := by
  unfold bdP
  rw [if_neg (by decide), if_neg (by decide), if_neg (by decide), if_neg (by decide), if_neg (by decide), if_neg (by decide), if_pos rfl]
theorem bdP_pl {T : Nat → Int} {N p : Nat} {v : Int} (h : ¬ (v = 13 ∨ v = 14 ∨ v = 1 ∨ v = 2 ∨ v = 4 ∨ v = 6 ∨ v = 9)) : bdP T N v p = plP T N v p := by
  unfold bdP
  rw [if_neg (by omega), if_neg (by omega), if_neg (by omega), if_neg (by omega), if_neg (by omega), if_neg (by omega), if_neg (by omega)]
section
variable {d L : Nat} {I I1 I2 : mI} {R : mR} {S : mSh} {T : Nat → Int} {N nt t t1 p r q k : Nat} {f c ms v : Int} {K : mM → Prop}
set_option maxHeartbeats 1000000 in
theorem k119s (h : PsC I T N nt t (-1)) (hb : bl T N p = plc T N t) (hp : p ≤ N) (hob : obJ S q 15 8) (hv : 1 ≤ v ∧ v ≤ 15) (hk : ld I q 1 = ckd v) (h2 : ld I q 2 = 0) (h3 : ld I q 3 = 0) (h4 : ld I q 4 = 0)
    (k1 : ∀ (b : Bdy) (r : Nat) (I1 : mI) (t1 : Nat), bdP T N v p = (some b, r) → Pw q I I1 → t ≤ t1 → PsC I1 T N nt t1 (-1) → bl T N r = plc T N t1 → r ≤ N → b.1 = v → ld I1 q 2 = cOf b.1 b.2.1 b.2.2 ∧ ld I1 q 3 = cPer b.1 b.2.2 ∧ ld I1 q 4 = cVal b.1 b.2.1 b.2.2 → K (bd L I1 R S))
    (k0 : ∀ (r : Nat) (I1 : mI) (t1 : Nat), bdP T N v p = (none, r) → Pw q I I1 → t ≤ t1 → PsC I1 T N nt t1 (r : Int) → K (bd L I1 R S)) : CallV (d + 3) 119 [.ref 46, .ref q] (bd L I R S) K := by
  have hq := hob.1
  refine e119 (d := d + 2) ⟨hob, ?_⟩
  have hv15 : v = 1 ∨ v = 2 ∨ v = 3 ∨ v = 4 ∨ v = 5 ∨ v = 6 ∨ v = 7 ∨ v = 8 ∨ v = 9 ∨ v = 10 ∨ v = 11 ∨ v = 12 ∨ v = 13 ∨ v = 14 ∨ v = 15 := by omega
  rcases hv15 with rfl | rfl | rfl | rfl | rfl | rfl | rfl | rfl | rfl | rfl | rfl | rfl | rfl | rfl | rfl
  · rw [show ckd 1 = 130 from rfl] at hk
    rw [hk]
    refine ⟨fun c => absurd c (by decide), fun _ => ?_, fun c => absurd c (by decide), fun c => absurd c (by decide), fun c => absurd c (by decide), fun c => absurd c (by decide), fun c => absurd c (by decide), fun c => absurd c (by decide), fun c => absurd c (by decide)⟩
    refine pr119 (i := 28) h hq (by decide) rfl rfl (inRd rfl) (fun K' a b => k120i h hb a b) (fun v z r1 r2 r I1 e1 e2 e3 hp hps hbl hr hl => ?_) (fun r I1 t1 e hp ht1 hps => ?_)
    · refine k1 (1, v, z) r I1 (t + 3) ?_ hp (by omega) hps hbl hr rfl ⟨?_, ?_, ?_⟩
      · rw [bdP_1]; unfold cnP; rw [e1]; dsimp only [bnd]; rw [e2]; dsimp only; rw [e3]
      · exact hl.1.trans (if_pos (by decide)).symm
      · exact (hl.2.2.trans h3).trans (if_neg (by decide)).symm
      · exact hl.2.1.trans (if_pos (by decide)).symm
    · refine k0 r I1 t1 ?_ hp ht1 hps
      rw [bdP_1]; unfold cnP
      rcases e with e | ⟨v, r1, e, e2 | ⟨r2, e2, e3⟩⟩
      · rw [e]; rfl
      · rw [e]; dsimp only [bnd]; rw [e2]
      · rw [e]; dsimp only [bnd]; rw [e2]; dsimp only; rw [e3]
  · rw [show ckd 2 = 131 from rfl] at hk
    rw [hk]
    refine ⟨fun c => absurd c (by decide), fun c => absurd c (by decide), fun _ => ?_, fun c => absurd c (by decide), fun c => absurd c (by decide), fun c => absurd c (by decide), fun c => absurd c (by decide), fun c => absurd c (by decide), fun c => absurd c (by decide)⟩
    refine pr119 (i := 28) h hq (by decide) rfl rfl (inRd rfl) (fun K' a b => k116i h hb (inRd rfl) (inRd rfl) a b) (fun v z r1 r2 r I1 e1 e2 e3 hp hps hbl hr hl => ?_) (fun r I1 t1 e hp ht1 hps => ?_)
    · refine k1 (2, v, z) r I1 (t + 3) ?_ hp (by omega) hps hbl hr rfl ⟨?_, ?_, ?_⟩
      · rw [bdP_2]; unfold prP; rw [e1]; dsimp only [bnd]; rw [e2]; dsimp only; rw [e3]
      · exact hl.1.trans (if_pos (by decide)).symm
      · exact (hl.2.2.trans h3).trans (if_neg (by decide)).symm
      · exact hl.2.1.trans (if_pos (by decide)).symm
    · refine k0 r I1 t1 ?_ hp ht1 hps
      rw [bdP_2]; unfold prP
      rcases e with e | ⟨v, r1, e, e2 | ⟨r2, e2, e3⟩⟩
      · rw [e]; rfl
      · rw [e]; dsimp only [bnd]; rw [e2]
      · rw [e]; dsimp only [bnd]; rw [e2]; dsimp only; rw [e3]
  · rw [show ckd 3 = 132 from rfl] at hk
    rw [hk]
    refine ⟨fun c => absurd c (by decide), fun c => absurd c (by decide), fun c => absurd c (by decide), fun c => absurd c (by decide), fun c => absurd c (by decide), fun c => absurd c (by decide), fun c => absurd c (by decide), fun c => absurd c (by decide), fun _ => ?_⟩
    refine k116i h hb (inRd rfl) (inRd rfl) (fun v r I1 e cs hv => ⟨v, I1, rfl, rfl, hv, ?_⟩) (fun r I1 e fs => ⟨0, I1, rfl, rfl, inRd rfl, ?_⟩)
    · refine k1 (3, v, 0) r _ (t + 1) ?_ ((Pw.fr hq cs.1).set (Or.inr (Or.inr rfl))) (by omega) (cs.2.1.wq hq) cs.2.2.1 cs.2.2.2.1 rfl ⟨?_, ?_, ?_⟩
      · rw [bdP_pl (by decide)]; unfold plP; rw [e]; rfl
      · rw [ld_w hv, if_neg (by decide), fr_q hq cs.1, h2]
        exact ((if_neg (by decide)).trans (if_neg (by decide))).symm
      · rw [ld_w hv, if_neg (by decide), fr_q hq cs.1, h3]
        exact (if_neg (by decide)).symm
      · rw [ld_w hv, if_pos rfl]
        exact ((if_neg (by decide)).trans (if_neg (by decide))).symm
    · obtain ⟨f1, t1, f2, f3⟩ := fs
      refine k0 r _ t1 ?_ ((Pw.fr hq f1).set (Or.inr (Or.inr rfl))) f2 (f3.wq hq)
      rw [bdP_pl (by decide)]; unfold plP; rw [e]; rfl
  · rw [show ckd 4 = 133 from rfl] at hk
    rw [hk]
    refine ⟨fun c => absurd c (by decide), fun c => absurd c (by decide), fun c => absurd c (by decide), fun _ => ?_, fun c => absurd c (by decide), fun c => absurd c (by decide), fun c => absurd c (by decide), fun c => absurd c (by decide), fun c => absurd c (by decide)⟩
    refine pr119 (i := 29) h hq (by decide) rfl rfl (inRd rfl) (fun K' a b => k116i h hb (inRd rfl) (inRd rfl) a b) (fun v z r1 r2 r I1 e1 e2 e3 hp hps hbl hr hl => ?_) (fun r I1 t1 e hp ht1 hps => ?_)
    · refine k1 (4, v, z) r I1 (t + 3) ?_ hp (by omega) hps hbl hr rfl ⟨?_, ?_, ?_⟩
      · rw [bdP_4]; unfold prP; rw [e1]; dsimp only [bnd]; rw [e2]; dsimp only; rw [e3]
      · exact hl.1.trans (if_pos (by decide)).symm
      · exact (hl.2.2.trans h3).trans (if_neg (by decide)).symm
      · exact hl.2.1.trans (if_pos (by decide)).symm
    · refine k0 r I1 t1 ?_ hp ht1 hps
      rw [bdP_4]; unfold prP
      rcases e with e | ⟨v, r1, e, e2 | ⟨r2, e2, e3⟩⟩
      · rw [e]; rfl
      · rw [e]; dsimp only [bnd]; rw [e2]
      · rw [e]; dsimp only [bnd]; rw [e2]; dsimp only; rw [e3]
  · rw [show ckd 5 = 134 from rfl] at hk
    rw [hk]
    refine ⟨fun c => absurd c (by decide), fun c => absurd c (by decide), fun c => absurd c (by decide), fun c => absurd c (by decide), fun c => absurd c (by decide), fun c => absurd c (by decide), fun c => absurd c (by decide), fun c => absurd c (by decide), fun _ => ?_⟩
    refine k116i h hb (inRd rfl) (inRd rfl) (fun v r I1 e cs hv => ⟨v, I1, rfl, rfl, hv, ?_⟩) (fun r I1 e fs => ⟨0, I1, rfl, rfl, inRd rfl, ?_⟩)
    · refine k1 (5, v, 0) r _ (t + 1) ?_ ((Pw.fr hq cs.1).set (Or.inr (Or.inr rfl))) (by omega) (cs.2.1.wq hq) cs.2.2.1 cs.2.2.2.1 rfl ⟨?_, ?_, ?_⟩
      · rw [bdP_pl (by decide)]; unfold plP; rw [e]; rfl
      · rw [ld_w hv, if_neg (by decide), fr_q hq cs.1, h2]
        exact ((if_neg (by decide)).trans (if_neg (by decide))).symm
      · rw [ld_w hv, if_neg (by decide), fr_q hq cs.1, h3]
        exact (if_neg (by decide)).symm
      · rw [ld_w hv, if_pos rfl]
        exact ((if_neg (by decide)).trans (if_neg (by decide))).symm
    · obtain ⟨f1, t1, f2, f3⟩ := fs
      refine k0 r _ t1 ?_ ((Pw.fr hq f1).set (Or.inr (Or.inr rfl))) f2 (f3.wq hq)
      rw [bdP_pl (by decide)]; unfold plP; rw [e]; rfl
  · rw [show ckd 6 = 135 from rfl] at hk
    rw [hk]
    refine ⟨fun c => absurd c (by decide), fun c => absurd c (by decide), fun c => absurd c (by decide), fun c => absurd c (by decide), fun _ => ?_, fun c => absurd c (by decide), fun c => absurd c (by decide), fun c => absurd c (by decide), fun c => absurd c (by decide)⟩
    refine k116i h hb (inRd rfl) (inRd rfl) (fun v r I1 e cs hv => ⟨v, I1, rfl, rfl, hv, ?_⟩) (fun r I1 e fs => ⟨0, I1, rfl, rfl, inRd rfl, ?_⟩)
    · have p1 := (Pw.fr hq cs.1).set (x := oI v) (k := 4) (Or.inr (Or.inr rfl))
      refine k118w (i := 30) (w := wPer) (cs.2.1.wq hq) cs.2.2.1 (by decide) rfl rfl (fun r2 I2 e2 cs2 => ⟨1, I2, rfl, rfl, inRd rfl, ?_⟩) (fun r2 I2 e2 fs => ⟨0, I2, rfl, rfl, inRd rfl, ?_⟩)
      · refine k121s cs2.2.1 cs2.2.2.1 hob (fun z r3 I3 t3 e3 p3 ht3 hps hbl hr hl => ⟨_, rfl, ?_⟩) (fun r3 I3 t3 e3 p3 ht3 hps => ⟨_, rfl, ?_⟩)
        · have f2 : ld I2 q 2 = 0 := by rw [fr_q hq cs2.1, ld_w hv, if_neg (by decide), fr_q hq cs.1]; exact h2
          refine k1 (6, v, z) r3 I3 t3 ?_ ((p1.trans (Pw.fr hq cs2.1)).trans p3) (by omega) hps hbl hr rfl ⟨?_, hl.1, ?_⟩
          · rw [bdP_6]; unfold grP; rw [e]; dsimp only [bnd]; rw [e2]; dsimp only; rw [e3]
          · rw [hl.2.1, f2]
            show _ = cOf 6 v z
            unfold cOf
            rw [if_neg (by decide)]
            by_cases c : 0 ≤ z
            · rw [if_pos c, if_pos ⟨rfl, c⟩]
            · rw [if_neg c, if_neg (fun e => c e.2)]
          · rw [hl.2.2, fr_q hq cs2.1, ld_w hv, if_pos rfl]
            show _ = cVal 6 v z
            unfold cVal
            rw [if_neg (by decide), if_neg (by decide)]
        · refine k0 r3 I3 t3 ?_ ((p1.trans (Pw.fr hq cs2.1)).trans p3) (by omega) hps
          rw [bdP_6]; unfold grP; rw [e]; dsimp only [bnd]; rw [e2]; dsimp only; rw [e3]
      · obtain ⟨f1, t1, f2, f3⟩ := fs
        refine k121f f3 (by omega) ⟨_, rfl, k0 r2 I2 t1 ?_ (p1.trans (Pw.fr hq f1)) (by omega) f3⟩
        rw [bdP_6]; unfold grP; rw [e]; dsimp only [bnd]; rw [e2]
    · obtain ⟨f1, t1, f2, f3⟩ := fs
      refine k118f (f3.wq hq) (by omega) ⟨0, _, rfl, rfl, inRd rfl, k121f (f3.wq hq) (by omega) ⟨_, rfl, k0 r _ t1 ?_ ((Pw.fr hq f1).set (Or.inr (Or.inr rfl))) f2 (f3.wq hq)⟩⟩
      rw [bdP_6]; unfold grP; rw [e]; rfl
  · rw [show ckd 7 = 136 from rfl] at hk
    rw [hk]
    refine ⟨fun c => absurd c (by decide), fun c => absurd c (by decide), fun c => absurd c (by decide), fun c => absurd c (by decide), fun c => absurd c (by decide), fun c => absurd c (by decide), fun c => absurd c (by decide), fun c => absurd c (by decide), fun _ => ?_⟩
    refine k116i h hb (inRd rfl) (inRd rfl) (fun v r I1 e cs hv => ⟨v, I1, rfl, rfl, hv, ?_⟩) (fun r I1 e fs => ⟨0, I1, rfl, rfl, inRd rfl, ?_⟩)
    · refine k1 (7, v, 0) r _ (t + 1) ?_ ((Pw.fr hq cs.1).set (Or.inr (Or.inr rfl))) (by omega) (cs.2.1.wq hq) cs.2.2.1 cs.2.2.2.1 rfl ⟨?_, ?_, ?_⟩
      · rw [bdP_pl (by decide)]; unfold plP; rw [e]; rfl
      · rw [ld_w hv, if_neg (by decide), fr_q hq cs.1, h2]
        exact ((if_neg (by decide)).trans (if_neg (by decide))).symm
      · rw [ld_w hv, if_neg (by decide), fr_q hq cs.1, h3]
        exact (if_neg (by decide)).symm
      · rw [ld_w hv, if_pos rfl]
        exact ((if_neg (by decide)).trans (if_neg (by decide))).symm
    · obtain ⟨f1, t1, f2, f3⟩ := fs
      refine k0 r _ t1 ?_ ((Pw.fr hq f1).set (Or.inr (Or.inr rfl))) f2 (f3.wq hq)
      rw [bdP_pl (by decide)]; unfold plP; rw [e]; rfl
  · rw [show ckd 8 = 137 from rfl] at hk
    rw [hk]
    refine ⟨fun c => absurd c (by decide), fun c => absurd c (by decide), fun c => absurd c (by decide), fun c => absurd c (by decide), fun c => absurd c (by decide), fun c => absurd c (by decide), fun c => absurd c (by decide), fun c => absurd c (by decide), fun _ => ?_⟩
    refine k116i h hb (inRd rfl) (inRd rfl) (fun v r I1 e cs hv => ⟨v, I1, rfl, rfl, hv, ?_⟩) (fun r I1 e fs => ⟨0, I1, rfl, rfl, inRd rfl, ?_⟩)
    · refine k1 (8, v, 0) r _ (t + 1) ?_ ((Pw.fr hq cs.1).set (Or.inr (Or.inr rfl))) (by omega) (cs.2.1.wq hq) cs.2.2.1 cs.2.2.2.1 rfl ⟨?_, ?_, ?_⟩
      · rw [bdP_pl (by decide)]; unfold plP; rw [e]; rfl
      · rw [ld_w hv, if_neg (by decide), fr_q hq cs.1, h2]
        exact ((if_neg (by decide)).trans (if_neg (by decide))).symm
      · rw [ld_w hv, if_neg (by decide), fr_q hq cs.1, h3]
        exact (if_neg (by decide)).symm
      · rw [ld_w hv, if_pos rfl]
        exact ((if_neg (by decide)).trans (if_neg (by decide))).symm
    · obtain ⟨f1, t1, f2, f3⟩ := fs
      refine k0 r _ t1 ?_ ((Pw.fr hq f1).set (Or.inr (Or.inr rfl))) f2 (f3.wq hq)
      rw [bdP_pl (by decide)]; unfold plP; rw [e]; rfl
  · rw [show ckd 9 = 144 from rfl] at hk
    rw [hk]
    refine ⟨fun c => absurd c (by decide), fun c => absurd c (by decide), fun c => absurd c (by decide), fun c => absurd c (by decide), fun c => absurd c (by decide), fun c => absurd c (by decide), fun c => absurd c (by decide), fun _ => ?_, fun c => absurd c (by decide)⟩
    exact k1 (9, 0, 0) p I t bdP_9 (Pw.refl q I) (Nat.le_refl _) h hb hp rfl ⟨h2.trans (by decide), h3.trans (by decide), h4.trans (by decide)⟩
  · rw [show ckd 10 = 138 from rfl] at hk
    rw [hk]
    refine ⟨fun c => absurd c (by decide), fun c => absurd c (by decide), fun c => absurd c (by decide), fun c => absurd c (by decide), fun c => absurd c (by decide), fun c => absurd c (by decide), fun c => absurd c (by decide), fun c => absurd c (by decide), fun _ => ?_⟩
    refine k116i h hb (inRd rfl) (inRd rfl) (fun v r I1 e cs hv => ⟨v, I1, rfl, rfl, hv, ?_⟩) (fun r I1 e fs => ⟨0, I1, rfl, rfl, inRd rfl, ?_⟩)
    · refine k1 (10, v, 0) r _ (t + 1) ?_ ((Pw.fr hq cs.1).set (Or.inr (Or.inr rfl))) (by omega) (cs.2.1.wq hq) cs.2.2.1 cs.2.2.2.1 rfl ⟨?_, ?_, ?_⟩
      · rw [bdP_pl (by decide)]; unfold plP; rw [e]; rfl
      · rw [ld_w hv, if_neg (by decide), fr_q hq cs.1, h2]
        exact ((if_neg (by decide)).trans (if_neg (by decide))).symm
      · rw [ld_w hv, if_neg (by decide), fr_q hq cs.1, h3]
        exact (if_neg (by decide)).symm
      · rw [ld_w hv, if_pos rfl]
        exact ((if_neg (by decide)).trans (if_neg (by decide))).symm
    · obtain ⟨f1, t1, f2, f3⟩ := fs
      refine k0 r _ t1 ?_ ((Pw.fr hq f1).set (Or.inr (Or.inr rfl))) f2 (f3.wq hq)
      rw [bdP_pl (by decide)]; unfold plP; rw [e]; rfl
  · rw [show ckd 11 = 139 from rfl] at hk
    rw [hk]
    refine ⟨fun c => absurd c (by decide), fun c => absurd c (by decide), fun c => absurd c (by decide), fun c => absurd c (by decide), fun c => absurd c (by decide), fun c => absurd c (by decide), fun c => absurd c (by decide), fun c => absurd c (by decide), fun _ => ?_⟩
    refine k116i h hb (inRd rfl) (inRd rfl) (fun v r I1 e cs hv => ⟨v, I1, rfl, rfl, hv, ?_⟩) (fun r I1 e fs => ⟨0, I1, rfl, rfl, inRd rfl, ?_⟩)
    · refine k1 (11, v, 0) r _ (t + 1) ?_ ((Pw.fr hq cs.1).set (Or.inr (Or.inr rfl))) (by omega) (cs.2.1.wq hq) cs.2.2.1 cs.2.2.2.1 rfl ⟨?_, ?_, ?_⟩
      · rw [bdP_pl (by decide)]; unfold plP; rw [e]; rfl
      · rw [ld_w hv, if_neg (by decide), fr_q hq cs.1, h2]
        exact ((if_neg (by decide)).trans (if_neg (by decide))).symm
      · rw [ld_w hv, if_neg (by decide), fr_q hq cs.1, h3]
        exact (if_neg (by decide)).symm
      · rw [ld_w hv, if_pos rfl]
        exact ((if_neg (by decide)).trans (if_neg (by decide))).symm
    · obtain ⟨f1, t1, f2, f3⟩ := fs
      refine k0 r _ t1 ?_ ((Pw.fr hq f1).set (Or.inr (Or.inr rfl))) f2 (f3.wq hq)
      rw [bdP_pl (by decide)]; unfold plP; rw [e]; rfl
  · rw [show ckd 12 = 140 from rfl] at hk
    rw [hk]
    refine ⟨fun c => absurd c (by decide), fun c => absurd c (by decide), fun c => absurd c (by decide), fun c => absurd c (by decide), fun c => absurd c (by decide), fun c => absurd c (by decide), fun c => absurd c (by decide), fun c => absurd c (by decide), fun _ => ?_⟩
    refine k116i h hb (inRd rfl) (inRd rfl) (fun v r I1 e cs hv => ⟨v, I1, rfl, rfl, hv, ?_⟩) (fun r I1 e fs => ⟨0, I1, rfl, rfl, inRd rfl, ?_⟩)
    · refine k1 (12, v, 0) r _ (t + 1) ?_ ((Pw.fr hq cs.1).set (Or.inr (Or.inr rfl))) (by omega) (cs.2.1.wq hq) cs.2.2.1 cs.2.2.2.1 rfl ⟨?_, ?_, ?_⟩
      · rw [bdP_pl (by decide)]; unfold plP; rw [e]; rfl
      · rw [ld_w hv, if_neg (by decide), fr_q hq cs.1, h2]
        exact ((if_neg (by decide)).trans (if_neg (by decide))).symm
      · rw [ld_w hv, if_neg (by decide), fr_q hq cs.1, h3]
        exact (if_neg (by decide)).symm
      · rw [ld_w hv, if_pos rfl]
        exact ((if_neg (by decide)).trans (if_neg (by decide))).symm
    · obtain ⟨f1, t1, f2, f3⟩ := fs
      refine k0 r _ t1 ?_ ((Pw.fr hq f1).set (Or.inr (Or.inr rfl))) f2 (f3.wq hq)
      rw [bdP_pl (by decide)]; unfold plP; rw [e]; rfl
  · rw [show ckd 13 = 141 from rfl] at hk
    rw [hk]
    refine ⟨fun c => absurd c (by decide), fun c => absurd c (by decide), fun c => absurd c (by decide), fun c => absurd c (by decide), fun c => absurd c (by decide), fun _ => ?_, fun c => absurd c (by decide), fun c => absurd c (by decide), fun c => absurd c (by decide)⟩
    refine pr119 (i := 33) h hq (by decide) rfl rfl (inRd rfl) (fun K' a b => k116i h hb (inRd rfl) (inRd rfl) a b) (fun v z r1 r2 r I1 e1 e2 e3 hp hps hbl hr hl => ?_) (fun r I1 t1 e hp ht1 hps => ?_)
    · refine k1 (13, v, z) r I1 (t + 3) ?_ hp (by omega) hps hbl hr rfl ⟨?_, ?_, ?_⟩
      · rw [bdP_13]; unfold prP; rw [e1]; dsimp only [bnd]; rw [e2]; dsimp only; rw [e3]
      · exact hl.1.trans (if_pos (by decide)).symm
      · exact (hl.2.2.trans h3).trans (if_neg (by decide)).symm
      · exact hl.2.1.trans (if_pos (by decide)).symm
    · refine k0 r I1 t1 ?_ hp ht1 hps
      rw [bdP_13]; unfold prP
      rcases e with e | ⟨v, r1, e, e2 | ⟨r2, e2, e3⟩⟩
      · rw [e]; rfl
      · rw [e]; dsimp only [bnd]; rw [e2]
      · rw [e]; dsimp only [bnd]; rw [e2]; dsimp only; rw [e3]
  · rw [show ckd 14 = 142 from rfl] at hk
    rw [hk]
    refine ⟨fun c => absurd c (by decide), fun c => absurd c (by decide), fun c => absurd c (by decide), fun c => absurd c (by decide), fun c => absurd c (by decide), fun c => absurd c (by decide), fun _ => ?_, fun c => absurd c (by decide), fun c => absurd c (by decide)⟩
    refine pr119 (i := 33) h hq (by decide) rfl rfl (inRd rfl) (fun K' a b => k116i h hb (inRd rfl) (inRd rfl) a b) (fun v z r1 r2 r I1 e1 e2 e3 hp hps hbl hr hl => ?_) (fun r I1 t1 e hp ht1 hps => ?_)
    · refine k1 (14, v, z) r I1 (t + 3) ?_ hp (by omega) hps hbl hr rfl ⟨?_, ?_, ?_⟩
      · rw [bdP_14]; unfold prP; rw [e1]; dsimp only [bnd]; rw [e2]; dsimp only; rw [e3]
      · exact hl.1.trans (if_pos (by decide)).symm
      · exact (hl.2.2.trans h3).trans (if_neg (by decide)).symm
      · exact hl.2.1.trans (if_pos (by decide)).symm
    · refine k0 r I1 t1 ?_ hp ht1 hps
      rw [bdP_14]; unfold prP
      rcases e with e | ⟨v, r1, e, e2 | ⟨r2, e2, e3⟩⟩
      · rw [e]; rfl
      · rw [e]; dsimp only [bnd]; rw [e2]
      · rw [e]; dsimp only [bnd]; rw [e2]; dsimp only; rw [e3]
  · rw [show ckd 15 = 143 from rfl] at hk
    rw [hk]
    refine ⟨fun c => absurd c (by decide), fun c => absurd c (by decide), fun c => absurd c (by decide), fun c => absurd c (by decide), fun c => absurd c (by decide), fun c => absurd c (by decide), fun c => absurd c (by decide), fun c => absurd c (by decide), fun _ => ?_⟩
    refine k116i h hb (inRd rfl) (inRd rfl) (fun v r I1 e cs hv => ⟨v, I1, rfl, rfl, hv, ?_⟩) (fun r I1 e fs => ⟨0, I1, rfl, rfl, inRd rfl, ?_⟩)
    · refine k1 (15, v, 0) r _ (t + 1) ?_ ((Pw.fr hq cs.1).set (Or.inr (Or.inr rfl))) (by omega) (cs.2.1.wq hq) cs.2.2.1 cs.2.2.2.1 rfl ⟨?_, ?_, ?_⟩
      · rw [bdP_pl (by decide)]; unfold plP; rw [e]; rfl
      · rw [ld_w hv, if_neg (by decide), fr_q hq cs.1, h2]
        exact ((if_neg (by decide)).trans (if_neg (by decide))).symm
      · rw [ld_w hv, if_neg (by decide), fr_q hq cs.1, h3]
        exact (if_neg (by decide)).symm
      · rw [ld_w hv, if_pos rfl]
        exact ((if_neg (by decide)).trans (if_neg (by decide))).symm
    · obtain ⟨f1, t1, f2, f3⟩ := fs
      refine k0 r _ t1 ?_ ((Pw.fr hq f1).set (Or.inr (Or.inr rfl))) f2 (f3.wq hq)
      rw [bdP_pl (by decide)]; unfold plP; rw [e]; rfl
theorem k119f (h : PsC I T N nt t f) (hf : ¬ f = -1) (hob : obJ S q 15 8) (hK : ∀ I1, Pw q I I1 → PsC I1 T N nt t f → K (bd L I1 R S)) : CallV (d + 3) 119 [.ref 46, .ref q] (bd L I R S) K := by
  have hq := hob.1
  have z : ∀ {I1 : mI} {k : Nat} {x : Int32}, Pw q I I1 → (k = 2 ∨ k = 3 ∨ k = 4) → Pw q I (u2 I1 q k x) := fun h1 h2 => h1.set h2
  have r := Pw.refl q I
  have two : K (bd L (u2 (u2 I q 2 (oI 0)) q 4 (oI 0)) R S) := hK _ (z (z r (Or.inl rfl)) (Or.inr (Or.inr rfl))) ((h.wq hq).wq hq)
  refine e119 (d := d + 2) ⟨hob, fun _ => hK I r h, fun _ => k120f h hf ⟨0, _, rfl, rfl, inRd rfl, tf119 (h.wq hq) hf two⟩, fun _ => k116f h hf ⟨0, _, rfl, rfl, inRd rfl, tf119 (h.wq hq) hf two⟩, fun _ => k116f h hf ⟨0, _, rfl, rfl, inRd rfl, tf119 (h.wq hq) hf two⟩, fun _ => k116f h hf ⟨0, _, rfl, rfl, inRd rfl, ?_⟩, fun _ => k116f h hf ⟨0, _, rfl, rfl, inRd rfl, tf119 (h.wq hq) hf two⟩, fun _ => k116f h hf ⟨0, _, rfl, rfl, inRd rfl, tf119 (h.wq hq) hf two⟩, fun _ => hK I r h, fun _ => k116f h hf ⟨0, _, rfl, rfl, inRd rfl, hK _ (z r (Or.inr (Or.inr rfl))) (h.wq hq)⟩⟩
  exact k118f (h.wq hq) hf ⟨0, _, rfl, rfl, inRd rfl, k121f (h.wq hq) hf ⟨_, rfl, hK _ (z r (Or.inr (Or.inr rfl))) (h.wq hq)⟩⟩
end
