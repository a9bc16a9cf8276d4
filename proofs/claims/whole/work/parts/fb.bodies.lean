theorem bdP_13 {T : Nat → Int} {N p : Nat} : bdP T N 13 p = prP T N 13 9999 wIs 9999 p := by
  unfold bdP
  rw [if_pos rfl]
theorem bdP_14 {T : Nat → Int} {N p : Nat} : bdP T N 14 p = prP T N 14 5 wIs 9999 p := by
  unfold bdP
  rw [if_neg (by decide), if_pos rfl]
theorem bdP_1 {T : Nat → Int} {N p : Nat} : bdP T N 1 p = cnP T N p := by
  unfold bdP
  rw [if_neg (by decide), if_neg (by decide), if_pos rfl]
theorem bdP_2 {T : Nat → Int} {N p : Nat} : bdP T N 2 p = prP T N 2 5 wAs 2 p := by
  unfold bdP
  rw [if_neg (by decide), if_neg (by decide), if_neg (by decide), if_pos rfl]
theorem bdP_4 {T : Nat → Int} {N p : Nat} : bdP T N 4 p = prP T N 4 5 wNeeds 9999 p := by
  unfold bdP
  rw [if_neg (by decide), if_neg (by decide), if_neg (by decide), if_neg (by decide), if_pos rfl]
theorem bdP_6 {T : Nat → Int} {N p : Nat} : bdP T N 6 p = grP T N p := by
  unfold bdP
  rw [if_neg (by decide), if_neg (by decide), if_neg (by decide), if_neg (by decide), if_neg (by decide), if_pos rfl]
theorem bdP_9 {T : Nat → Int} {N p : Nat} : bdP T N 9 p = ((some (9, 0, 0), p) : Option Bdy × Nat) := by
  unfold bdP
  rw [if_neg (by decide), if_neg (by decide), if_neg (by decide), if_neg (by decide), if_neg (by decide), if_neg (by decide), if_pos rfl]
theorem bdP_pl {T : Nat → Int} {N p : Nat} {v : Int} (h : ¬ (v = 13 ∨ v = 14 ∨ v = 1 ∨ v = 2 ∨ v = 4 ∨ v = 6 ∨ v = 9)) : bdP T N v p = plP T N v p := by
  unfold bdP
  rw [if_neg (by omega), if_neg (by omega), if_neg (by omega), if_neg (by omega), if_neg (by omega), if_neg (by omega), if_neg (by omega)]
theorem cOf_1 {n s : Int} : cOf 1 n s = n := if_pos (by decide)
theorem cPer_1 {s : Int} : cPer 1 s = 0 := if_neg (by decide)
theorem cVal_1 {n s : Int} : cVal 1 n s = s := if_pos (by decide)
theorem cOf_2 {n s : Int} : cOf 2 n s = n := if_pos (by decide)
theorem cPer_2 {s : Int} : cPer 2 s = 0 := if_neg (by decide)
theorem cVal_2 {n s : Int} : cVal 2 n s = s := if_pos (by decide)
theorem cOf_3 {n s : Int} : cOf 3 n s = 0 := (if_neg (by decide)).trans (if_neg (fun h => absurd h.1 (by decide)))
theorem cPer_3 {s : Int} : cPer 3 s = 0 := if_neg (by decide)
theorem cVal_3 {n s : Int} : cVal 3 n s = n := (if_neg (by decide)).trans (if_neg (by decide))
theorem cOf_4 {n s : Int} : cOf 4 n s = n := if_pos (by decide)
theorem cPer_4 {s : Int} : cPer 4 s = 0 := if_neg (by decide)
theorem cVal_4 {n s : Int} : cVal 4 n s = s := if_pos (by decide)
theorem cOf_5 {n s : Int} : cOf 5 n s = 0 := (if_neg (by decide)).trans (if_neg (fun h => absurd h.1 (by decide)))
theorem cPer_5 {s : Int} : cPer 5 s = 0 := if_neg (by decide)
theorem cVal_5 {n s : Int} : cVal 5 n s = n := (if_neg (by decide)).trans (if_neg (by decide))
theorem cOf_7 {n s : Int} : cOf 7 n s = 0 := (if_neg (by decide)).trans (if_neg (fun h => absurd h.1 (by decide)))
theorem cPer_7 {s : Int} : cPer 7 s = 0 := if_neg (by decide)
theorem cVal_7 {n s : Int} : cVal 7 n s = n := (if_neg (by decide)).trans (if_neg (by decide))
theorem cOf_8 {n s : Int} : cOf 8 n s = 0 := (if_neg (by decide)).trans (if_neg (fun h => absurd h.1 (by decide)))
theorem cPer_8 {s : Int} : cPer 8 s = 0 := if_neg (by decide)
theorem cVal_8 {n s : Int} : cVal 8 n s = n := (if_neg (by decide)).trans (if_neg (by decide))
theorem cOf_9 {n s : Int} : cOf 9 n s = 0 := (if_neg (by decide)).trans (if_neg (fun h => absurd h.1 (by decide)))
theorem cPer_9 {s : Int} : cPer 9 s = 0 := if_neg (by decide)
theorem cVal_9 {n s : Int} : cVal 9 n s = 0 := (if_neg (by decide)).trans (if_pos rfl)
theorem cOf_10 {n s : Int} : cOf 10 n s = 0 := (if_neg (by decide)).trans (if_neg (fun h => absurd h.1 (by decide)))
theorem cPer_10 {s : Int} : cPer 10 s = 0 := if_neg (by decide)
theorem cVal_10 {n s : Int} : cVal 10 n s = n := (if_neg (by decide)).trans (if_neg (by decide))
theorem cOf_11 {n s : Int} : cOf 11 n s = 0 := (if_neg (by decide)).trans (if_neg (fun h => absurd h.1 (by decide)))
theorem cPer_11 {s : Int} : cPer 11 s = 0 := if_neg (by decide)
theorem cVal_11 {n s : Int} : cVal 11 n s = n := (if_neg (by decide)).trans (if_neg (by decide))
theorem cOf_12 {n s : Int} : cOf 12 n s = 0 := (if_neg (by decide)).trans (if_neg (fun h => absurd h.1 (by decide)))
theorem cPer_12 {s : Int} : cPer 12 s = 0 := if_neg (by decide)
theorem cVal_12 {n s : Int} : cVal 12 n s = n := (if_neg (by decide)).trans (if_neg (by decide))
theorem cOf_13 {n s : Int} : cOf 13 n s = n := if_pos (by decide)
theorem cPer_13 {s : Int} : cPer 13 s = 0 := if_neg (by decide)
theorem cVal_13 {n s : Int} : cVal 13 n s = s := if_pos (by decide)
theorem cOf_14 {n s : Int} : cOf 14 n s = n := if_pos (by decide)
theorem cPer_14 {s : Int} : cPer 14 s = 0 := if_neg (by decide)
theorem cVal_14 {n s : Int} : cVal 14 n s = s := if_pos (by decide)
theorem cOf_15 {n s : Int} : cOf 15 n s = 0 := (if_neg (by decide)).trans (if_neg (fun h => absurd h.1 (by decide)))
theorem cPer_15 {s : Int} : cPer 15 s = 0 := if_neg (by decide)
theorem cVal_15 {n s : Int} : cVal 15 n s = n := (if_neg (by decide)).trans (if_neg (by decide))
theorem cOf_6 {n s : Int} : cOf 6 n s = if 0 ≤ s then s else 0 := by
  have h : cOf 6 n s = if (6 : Int) = 6 ∧ 0 ≤ s then s else 0 := if_neg (by decide)
  rw [h]
  by_cases c : 0 ≤ s
  · rw [if_pos c, if_pos ⟨rfl, c⟩]
  · rw [if_neg c, if_neg (fun e => c e.2)]
theorem cVal_6 {n s : Int} : cVal 6 n s = n := (if_neg (by decide)).trans (if_neg (by decide))
section
variable {d L : Nat} {I I1 I2 : mI} {R : mR} {S : mSh} {T : Nat → Int} {N nt t t1 p r q k : Nat} {f c ms v : Int} {K : mM → Prop}
set_option maxHeartbeats 1000000 in
theorem k119s (h : PsC I T N nt t (-1)) (hb : bl T N p = plc T N t) (hp : p ≤ N) (hob : obJ S q 15 8) (hv : 1 ≤ v ∧ v ≤ 15) (hk : ld I q 1 = ckd v) (h2 : ld I q 2 = 0) (h3 : ld I q 3 = 0) (h4 : ld I q 4 = 0)
    (k1 : ∀ (b : Bdy) (r : Nat) (I1 : mI) (t1 : Nat), bdP T N v p = (some b, r) → Pw q I I1 → t ≤ t1 → PsC I1 T N nt t1 (-1) → bl T N r = plc T N t1 → r ≤ N → b.1 = v → ld I1 q 2 = cOf b.1 b.2.1 b.2.2 ∧ ld I1 q 3 = cPer b.1 b.2.2 ∧ ld I1 q 4 = cVal b.1 b.2.1 b.2.2 → K (bd L I1 R S))
    (k0 : ∀ (r : Nat) (I1 : mI) (t1 : Nat), bdP T N v p = (none, r) → Pw q I I1 → t ≤ t1 → PsC I1 T N nt t1 (r : Int) → K (bd L I1 R S)) : CallV (d + 3) 119 [.ref 46, .ref q] (bd L I R S) K := by
  have hq := hob.1
  refine e119 (d := d + 2) ⟨hob, ?_⟩
  have hv15 : v = 1 ∨ v = 2 ∨ v = 3 ∨ v = 4 ∨ v = 5 ∨ v = 6 ∨ v = 7 ∨ v = 8 ∨ v = 9 ∨ v = 10 ∨ v = 11 ∨ v = 12 ∨ v = 13 ∨ v = 14 ∨ v = 15 := by omega
  rcases hv15 with rfl | rfl | rfl | rfl | rfl | rfl | rfl | rfl | rfl | rfl | rfl | rfl | rfl | rfl | rfl
  · rw [show ckd 1 = 130 from rfl] at hk
    rw [hk]
    refine ⟨fun c => absurd c (by decide), fun _ => ?_, fun c => absurd c (by decide), fun c => absurd c (by decide), fun c => absurd c (by decide), fun c => absurd c (by decide), fun c => absurd c (by decide), fun c => absurd c (by decide), fun c => absurd c (by decide)⟩
    refine pr119 (i := 28) (w := wAs) h hq (by decide) rfl rfl (inRd rfl) (fun K' a b => k120i h hb a b) (fun v z r1 r2 r I1 e1 e2 e3 hp hps hbl hr hl => ?_) (fun r I1 t1 e hp ht1 hps => ?_)
    · refine k1 (1, v, z) r I1 (t + 3) ?_ hp (by omega) hps hbl hr rfl ⟨?_, ?_, ?_⟩
      · rw [bdP_1]; unfold cnP; rw [e1]; dsimp only [bnd]; rw [e2]; dsimp only; rw [e3]
      · exact hl.1.trans cOf_1.symm
      · exact (hl.2.2.trans h3).trans cPer_1.symm
      · exact hl.2.1.trans cVal_1.symm
    · refine k0 r I1 t1 ?_ hp ht1 hps
      rw [bdP_1]; unfold cnP
      rcases e with e | ⟨v, r1, e, e2 | ⟨r2, e2, e3⟩⟩
      · rw [e]; rfl
      · rw [e]; dsimp only [bnd]; rw [e2]
      · rw [e]; dsimp only [bnd]; rw [e2]; dsimp only; rw [e3]
  · rw [show ckd 2 = 131 from rfl] at hk
    rw [hk]
    refine ⟨fun c => absurd c (by decide), fun c => absurd c (by decide), fun _ => ?_, fun c => absurd c (by decide), fun c => absurd c (by decide), fun c => absurd c (by decide), fun c => absurd c (by decide), fun c => absurd c (by decide), fun c => absurd c (by decide)⟩
    refine pr119 (i := 28) (w := wAs) h hq (by decide) rfl rfl (inRd rfl) (fun K' a b => k116i h hb (inRd rfl) (inRd rfl) a b) (fun v z r1 r2 r I1 e1 e2 e3 hp hps hbl hr hl => ?_) (fun r I1 t1 e hp ht1 hps => ?_)
    · refine k1 (2, v, z) r I1 (t + 3) ?_ hp (by omega) hps hbl hr rfl ⟨?_, ?_, ?_⟩
      · rw [bdP_2]; unfold prP; rw [e1]; dsimp only [bnd]; rw [e2]; dsimp only; rw [e3]
      · exact hl.1.trans cOf_2.symm
      · exact (hl.2.2.trans h3).trans cPer_2.symm
      · exact hl.2.1.trans cVal_2.symm
    · refine k0 r I1 t1 ?_ hp ht1 hps
      rw [bdP_2]; unfold prP
      rcases e with e | ⟨v, r1, e, e2 | ⟨r2, e2, e3⟩⟩
      · rw [e]; rfl
      · rw [e]; dsimp only [bnd]; rw [e2]
      · rw [e]; dsimp only [bnd]; rw [e2]; dsimp only; rw [e3]
  · rw [show ckd 3 = 132 from rfl] at hk
    rw [hk]
    refine ⟨fun c => absurd c (by decide), fun c => absurd c (by decide), fun c => absurd c (by decide), fun c => absurd c (by decide), fun c => absurd c (by decide), fun c => absurd c (by decide), fun c => absurd c (by decide), fun c => absurd c (by decide), fun _ => ?_⟩
    refine k116i h hb (inRd rfl) (inRd rfl) (fun v r I1 e cs hv => ⟨v, I1, rfl, rfl, hv, ?_⟩) (fun r I1 e fs => ⟨0, I1, rfl, rfl, inRd rfl, ?_⟩)
    · refine k1 (3, v, 0) r _ (t + 1) ?_ ((Pw.fr hq cs.1).set (Or.inr (Or.inr rfl))) (by omega) (cs.2.1.wq hq) cs.2.2.1 cs.2.2.2.1 rfl ⟨?_, ?_, ?_⟩
      · rw [bdP_pl (v := 3) (by decide)]; unfold plP; rw [e]; rfl
      · rw [ld_w hv, if_neg (by decide), fr_q hq cs.1, h2]
        exact cOf_3.symm
      · rw [ld_w hv, if_neg (by decide), fr_q hq cs.1, h3]
        exact cPer_3.symm
      · rw [ld_w hv, if_pos rfl]
        exact cVal_3.symm
    · obtain ⟨f1, t1, f2, f3⟩ := fs
      refine k0 r _ t1 ?_ ((Pw.fr hq f1).set (Or.inr (Or.inr rfl))) f2 (f3.wq hq)
      rw [bdP_pl (v := 3) (by decide)]; unfold plP; rw [e]; rfl
  · rw [show ckd 4 = 133 from rfl] at hk
    rw [hk]
    refine ⟨fun c => absurd c (by decide), fun c => absurd c (by decide), fun c => absurd c (by decide), fun _ => ?_, fun c => absurd c (by decide), fun c => absurd c (by decide), fun c => absurd c (by decide), fun c => absurd c (by decide), fun c => absurd c (by decide)⟩
    refine pr119 (i := 29) (w := wNeeds) h hq (by decide) rfl rfl (inRd rfl) (fun K' a b => k116i h hb (inRd rfl) (inRd rfl) a b) (fun v z r1 r2 r I1 e1 e2 e3 hp hps hbl hr hl => ?_) (fun r I1 t1 e hp ht1 hps => ?_)
    · refine k1 (4, v, z) r I1 (t + 3) ?_ hp (by omega) hps hbl hr rfl ⟨?_, ?_, ?_⟩
      · rw [bdP_4]; unfold prP; rw [e1]; dsimp only [bnd]; rw [e2]; dsimp only; rw [e3]
      · exact hl.1.trans cOf_4.symm
      · exact (hl.2.2.trans h3).trans cPer_4.symm
      · exact hl.2.1.trans cVal_4.symm
    · refine k0 r I1 t1 ?_ hp ht1 hps
      rw [bdP_4]; unfold prP
      rcases e with e | ⟨v, r1, e, e2 | ⟨r2, e2, e3⟩⟩
      · rw [e]; rfl
      · rw [e]; dsimp only [bnd]; rw [e2]
      · rw [e]; dsimp only [bnd]; rw [e2]; dsimp only; rw [e3]
  · rw [show ckd 5 = 134 from rfl] at hk
    rw [hk]
    refine ⟨fun c => absurd c (by decide), fun c => absurd c (by decide), fun c => absurd c (by decide), fun c => absurd c (by decide), fun c => absurd c (by decide), fun c => absurd c (by decide), fun c => absurd c (by decide), fun c => absurd c (by decide), fun _ => ?_⟩
    refine k116i h hb (inRd rfl) (inRd rfl) (fun v r I1 e cs hv => ⟨v, I1, rfl, rfl, hv, ?_⟩) (fun r I1 e fs => ⟨0, I1, rfl, rfl, inRd rfl, ?_⟩)
    · refine k1 (5, v, 0) r _ (t + 1) ?_ ((Pw.fr hq cs.1).set (Or.inr (Or.inr rfl))) (by omega) (cs.2.1.wq hq) cs.2.2.1 cs.2.2.2.1 rfl ⟨?_, ?_, ?_⟩
      · rw [bdP_pl (v := 5) (by decide)]; unfold plP; rw [e]; rfl
      · rw [ld_w hv, if_neg (by decide), fr_q hq cs.1, h2]
        exact cOf_5.symm
      · rw [ld_w hv, if_neg (by decide), fr_q hq cs.1, h3]
        exact cPer_5.symm
      · rw [ld_w hv, if_pos rfl]
        exact cVal_5.symm
    · obtain ⟨f1, t1, f2, f3⟩ := fs
      refine k0 r _ t1 ?_ ((Pw.fr hq f1).set (Or.inr (Or.inr rfl))) f2 (f3.wq hq)
      rw [bdP_pl (v := 5) (by decide)]; unfold plP; rw [e]; rfl
  · rw [show ckd 6 = 135 from rfl] at hk
    rw [hk]
    refine ⟨fun c => absurd c (by decide), fun c => absurd c (by decide), fun c => absurd c (by decide), fun c => absurd c (by decide), fun _ => ?_, fun c => absurd c (by decide), fun c => absurd c (by decide), fun c => absurd c (by decide), fun c => absurd c (by decide)⟩
    refine k116i h hb (inRd rfl) (inRd rfl) (fun v r I1 e cs hv => ⟨v, I1, rfl, rfl, hv, ?_⟩) (fun r I1 e fs => ⟨0, I1, rfl, rfl, inRd rfl, ?_⟩)
    · have p1 := (Pw.fr hq cs.1).set (x := oI v) (k := 4) (Or.inr (Or.inr rfl))
      refine k118w (i := 30) (w := wPer) (cs.2.1.wq hq) cs.2.2.1 (by decide) rfl rfl (fun r2 I2 e2 cs2 => ⟨1, I2, rfl, rfl, inRd rfl, ?_⟩) (fun r2 I2 e2 fs => ⟨0, I2, rfl, rfl, inRd rfl, ?_⟩)
      · refine k121s cs2.2.1 cs2.2.2.1 hob (fun z r3 I3 t3 e3 p3 ht3 hps hbl hr hl => ⟨_, rfl, ?_⟩) (fun r3 I3 t3 e3 p3 ht3 hps => ⟨_, rfl, ?_⟩)
        · have f2 : ld I2 q 2 = 0 := by rw [fr_q hq cs2.1, ld_w hv, if_neg (by decide), fr_q hq cs.1]; exact h2
          refine k1 (6, v, z) r3 I3 t3 ?_ ((p1.trans (Pw.fr hq cs2.1)).trans p3) (by omega) hps hbl hr rfl ⟨?_, hl.1, ?_⟩
          · rw [bdP_6]; unfold grP; rw [e]; dsimp only [bnd]; rw [e2]; dsimp only; rw [e3]
          · rw [hl.2.1, f2]
            exact cOf_6.symm
          · rw [hl.2.2, fr_q hq cs2.1, ld_w hv, if_pos rfl]
            exact cVal_6.symm
        · refine k0 r3 I3 t3 ?_ ((p1.trans (Pw.fr hq cs2.1)).trans p3) (by omega) hps
          rw [bdP_6]; unfold grP; rw [e]; dsimp only [bnd]; rw [e2]; dsimp only; rw [e3]
      · obtain ⟨f1, t1, f2, f3⟩ := fs
        refine k121f f3 (by omega) ⟨_, rfl, k0 r2 I2 t1 ?_ (p1.trans (Pw.fr hq f1)) (by omega) f3⟩
        rw [bdP_6]; unfold grP; rw [e]; dsimp only [bnd]; rw [e2]
    · obtain ⟨f1, t1, f2, f3⟩ := fs
      refine k118f (f3.wq hq) (by omega) ⟨0, _, rfl, rfl, inRd rfl, k121f (f3.wq hq) (by omega) ⟨_, rfl, k0 r _ t1 ?_ ((Pw.fr hq f1).set (Or.inr (Or.inr rfl))) f2 (f3.wq hq)⟩⟩
      rw [bdP_6]; unfold grP; rw [e]; rfl
  · rw [show ckd 7 = 136 from rfl] at hk
    rw [hk]
    refine ⟨fun c => absurd c (by decide), fun c => absurd c (by decide), fun c => absurd c (by decide), fun c => absurd c (by decide), fun c => absurd c (by decide), fun c => absurd c (by decide), fun c => absurd c (by decide), fun c => absurd c (by decide), fun _ => ?_⟩
    refine k116i h hb (inRd rfl) (inRd rfl) (fun v r I1 e cs hv => ⟨v, I1, rfl, rfl, hv, ?_⟩) (fun r I1 e fs => ⟨0, I1, rfl, rfl, inRd rfl, ?_⟩)
    · refine k1 (7, v, 0) r _ (t + 1) ?_ ((Pw.fr hq cs.1).set (Or.inr (Or.inr rfl))) (by omega) (cs.2.1.wq hq) cs.2.2.1 cs.2.2.2.1 rfl ⟨?_, ?_, ?_⟩
      · rw [bdP_pl (v := 7) (by decide)]; unfold plP; rw [e]; rfl
      · rw [ld_w hv, if_neg (by decide), fr_q hq cs.1, h2]
        exact cOf_7.symm
      · rw [ld_w hv, if_neg (by decide), fr_q hq cs.1, h3]
        exact cPer_7.symm
      · rw [ld_w hv, if_pos rfl]
        exact cVal_7.symm
    · obtain ⟨f1, t1, f2, f3⟩ := fs
      refine k0 r _ t1 ?_ ((Pw.fr hq f1).set (Or.inr (Or.inr rfl))) f2 (f3.wq hq)
      rw [bdP_pl (v := 7) (by decide)]; unfold plP; rw [e]; rfl
  · rw [show ckd 8 = 137 from rfl] at hk
    rw [hk]
    refine ⟨fun c => absurd c (by decide), fun c => absurd c (by decide), fun c => absurd c (by decide), fun c => absurd c (by decide), fun c => absurd c (by decide), fun c => absurd c (by decide), fun c => absurd c (by decide), fun c => absurd c (by decide), fun _ => ?_⟩
    refine k116i h hb (inRd rfl) (inRd rfl) (fun v r I1 e cs hv => ⟨v, I1, rfl, rfl, hv, ?_⟩) (fun r I1 e fs => ⟨0, I1, rfl, rfl, inRd rfl, ?_⟩)
    · refine k1 (8, v, 0) r _ (t + 1) ?_ ((Pw.fr hq cs.1).set (Or.inr (Or.inr rfl))) (by omega) (cs.2.1.wq hq) cs.2.2.1 cs.2.2.2.1 rfl ⟨?_, ?_, ?_⟩
      · rw [bdP_pl (v := 8) (by decide)]; unfold plP; rw [e]; rfl
      · rw [ld_w hv, if_neg (by decide), fr_q hq cs.1, h2]
        exact cOf_8.symm
      · rw [ld_w hv, if_neg (by decide), fr_q hq cs.1, h3]
        exact cPer_8.symm
      · rw [ld_w hv, if_pos rfl]
        exact cVal_8.symm
    · obtain ⟨f1, t1, f2, f3⟩ := fs
      refine k0 r _ t1 ?_ ((Pw.fr hq f1).set (Or.inr (Or.inr rfl))) f2 (f3.wq hq)
      rw [bdP_pl (v := 8) (by decide)]; unfold plP; rw [e]; rfl
  · rw [show ckd 9 = 144 from rfl] at hk
    rw [hk]
    refine ⟨fun c => absurd c (by decide), fun c => absurd c (by decide), fun c => absurd c (by decide), fun c => absurd c (by decide), fun c => absurd c (by decide), fun c => absurd c (by decide), fun c => absurd c (by decide), fun _ => ?_, fun c => absurd c (by decide)⟩
    exact k1 (9, 0, 0) p I t bdP_9 (Pw.refl q I) (Nat.le_refl _) h hb hp rfl ⟨h2.trans cOf_9.symm, h3.trans cPer_9.symm, h4.trans cVal_9.symm⟩
  · rw [show ckd 10 = 138 from rfl] at hk
    rw [hk]
    refine ⟨fun c => absurd c (by decide), fun c => absurd c (by decide), fun c => absurd c (by decide), fun c => absurd c (by decide), fun c => absurd c (by decide), fun c => absurd c (by decide), fun c => absurd c (by decide), fun c => absurd c (by decide), fun _ => ?_⟩
    refine k116i h hb (inRd rfl) (inRd rfl) (fun v r I1 e cs hv => ⟨v, I1, rfl, rfl, hv, ?_⟩) (fun r I1 e fs => ⟨0, I1, rfl, rfl, inRd rfl, ?_⟩)
    · refine k1 (10, v, 0) r _ (t + 1) ?_ ((Pw.fr hq cs.1).set (Or.inr (Or.inr rfl))) (by omega) (cs.2.1.wq hq) cs.2.2.1 cs.2.2.2.1 rfl ⟨?_, ?_, ?_⟩
      · rw [bdP_pl (v := 10) (by decide)]; unfold plP; rw [e]; rfl
      · rw [ld_w hv, if_neg (by decide), fr_q hq cs.1, h2]
        exact cOf_10.symm
      · rw [ld_w hv, if_neg (by decide), fr_q hq cs.1, h3]
        exact cPer_10.symm
      · rw [ld_w hv, if_pos rfl]
        exact cVal_10.symm
    · obtain ⟨f1, t1, f2, f3⟩ := fs
      refine k0 r _ t1 ?_ ((Pw.fr hq f1).set (Or.inr (Or.inr rfl))) f2 (f3.wq hq)
      rw [bdP_pl (v := 10) (by decide)]; unfold plP; rw [e]; rfl
  · rw [show ckd 11 = 139 from rfl] at hk
    rw [hk]
    refine ⟨fun c => absurd c (by decide), fun c => absurd c (by decide), fun c => absurd c (by decide), fun c => absurd c (by decide), fun c => absurd c (by decide), fun c => absurd c (by decide), fun c => absurd c (by decide), fun c => absurd c (by decide), fun _ => ?_⟩
    refine k116i h hb (inRd rfl) (inRd rfl) (fun v r I1 e cs hv => ⟨v, I1, rfl, rfl, hv, ?_⟩) (fun r I1 e fs => ⟨0, I1, rfl, rfl, inRd rfl, ?_⟩)
    · refine k1 (11, v, 0) r _ (t + 1) ?_ ((Pw.fr hq cs.1).set (Or.inr (Or.inr rfl))) (by omega) (cs.2.1.wq hq) cs.2.2.1 cs.2.2.2.1 rfl ⟨?_, ?_, ?_⟩
      · rw [bdP_pl (v := 11) (by decide)]; unfold plP; rw [e]; rfl
      · rw [ld_w hv, if_neg (by decide), fr_q hq cs.1, h2]
        exact cOf_11.symm
      · rw [ld_w hv, if_neg (by decide), fr_q hq cs.1, h3]
        exact cPer_11.symm
      · rw [ld_w hv, if_pos rfl]
        exact cVal_11.symm
    · obtain ⟨f1, t1, f2, f3⟩ := fs
      refine k0 r _ t1 ?_ ((Pw.fr hq f1).set (Or.inr (Or.inr rfl))) f2 (f3.wq hq)
      rw [bdP_pl (v := 11) (by decide)]; unfold plP; rw [e]; rfl
  · rw [show ckd 12 = 140 from rfl] at hk
    rw [hk]
    refine ⟨fun c => absurd c (by decide), fun c => absurd c (by decide), fun c => absurd c (by decide), fun c => absurd c (by decide), fun c => absurd c (by decide), fun c => absurd c (by decide), fun c => absurd c (by decide), fun c => absurd c (by decide), fun _ => ?_⟩
    refine k116i h hb (inRd rfl) (inRd rfl) (fun v r I1 e cs hv => ⟨v, I1, rfl, rfl, hv, ?_⟩) (fun r I1 e fs => ⟨0, I1, rfl, rfl, inRd rfl, ?_⟩)
    · refine k1 (12, v, 0) r _ (t + 1) ?_ ((Pw.fr hq cs.1).set (Or.inr (Or.inr rfl))) (by omega) (cs.2.1.wq hq) cs.2.2.1 cs.2.2.2.1 rfl ⟨?_, ?_, ?_⟩
      · rw [bdP_pl (v := 12) (by decide)]; unfold plP; rw [e]; rfl
      · rw [ld_w hv, if_neg (by decide), fr_q hq cs.1, h2]
        exact cOf_12.symm
      · rw [ld_w hv, if_neg (by decide), fr_q hq cs.1, h3]
        exact cPer_12.symm
      · rw [ld_w hv, if_pos rfl]
        exact cVal_12.symm
    · obtain ⟨f1, t1, f2, f3⟩ := fs
      refine k0 r _ t1 ?_ ((Pw.fr hq f1).set (Or.inr (Or.inr rfl))) f2 (f3.wq hq)
      rw [bdP_pl (v := 12) (by decide)]; unfold plP; rw [e]; rfl
  · rw [show ckd 13 = 141 from rfl] at hk
    rw [hk]
    refine ⟨fun c => absurd c (by decide), fun c => absurd c (by decide), fun c => absurd c (by decide), fun c => absurd c (by decide), fun c => absurd c (by decide), fun _ => ?_, fun c => absurd c (by decide), fun c => absurd c (by decide), fun c => absurd c (by decide)⟩
    refine pr119 (i := 33) (w := wIs) h hq (by decide) rfl rfl (inRd rfl) (fun K' a b => k116i h hb (inRd rfl) (inRd rfl) a b) (fun v z r1 r2 r I1 e1 e2 e3 hp hps hbl hr hl => ?_) (fun r I1 t1 e hp ht1 hps => ?_)
    · refine k1 (13, v, z) r I1 (t + 3) ?_ hp (by omega) hps hbl hr rfl ⟨?_, ?_, ?_⟩
      · rw [bdP_13]; unfold prP; rw [e1]; dsimp only [bnd]; rw [e2]; dsimp only; rw [e3]
      · exact hl.1.trans cOf_13.symm
      · exact (hl.2.2.trans h3).trans cPer_13.symm
      · exact hl.2.1.trans cVal_13.symm
    · refine k0 r I1 t1 ?_ hp ht1 hps
      rw [bdP_13]; unfold prP
      rcases e with e | ⟨v, r1, e, e2 | ⟨r2, e2, e3⟩⟩
      · rw [e]; rfl
      · rw [e]; dsimp only [bnd]; rw [e2]
      · rw [e]; dsimp only [bnd]; rw [e2]; dsimp only; rw [e3]
  · rw [show ckd 14 = 142 from rfl] at hk
    rw [hk]
    refine ⟨fun c => absurd c (by decide), fun c => absurd c (by decide), fun c => absurd c (by decide), fun c => absurd c (by decide), fun c => absurd c (by decide), fun c => absurd c (by decide), fun _ => ?_, fun c => absurd c (by decide), fun c => absurd c (by decide)⟩
    refine pr119 (i := 33) (w := wIs) h hq (by decide) rfl rfl (inRd rfl) (fun K' a b => k116i h hb (inRd rfl) (inRd rfl) a b) (fun v z r1 r2 r I1 e1 e2 e3 hp hps hbl hr hl => ?_) (fun r I1 t1 e hp ht1 hps => ?_)
    · refine k1 (14, v, z) r I1 (t + 3) ?_ hp (by omega) hps hbl hr rfl ⟨?_, ?_, ?_⟩
      · rw [bdP_14]; unfold prP; rw [e1]; dsimp only [bnd]; rw [e2]; dsimp only; rw [e3]
      · exact hl.1.trans cOf_14.symm
      · exact (hl.2.2.trans h3).trans cPer_14.symm
      · exact hl.2.1.trans cVal_14.symm
    · refine k0 r I1 t1 ?_ hp ht1 hps
      rw [bdP_14]; unfold prP
      rcases e with e | ⟨v, r1, e, e2 | ⟨r2, e2, e3⟩⟩
      · rw [e]; rfl
      · rw [e]; dsimp only [bnd]; rw [e2]
      · rw [e]; dsimp only [bnd]; rw [e2]; dsimp only; rw [e3]
  · rw [show ckd 15 = 143 from rfl] at hk
    rw [hk]
    refine ⟨fun c => absurd c (by decide), fun c => absurd c (by decide), fun c => absurd c (by decide), fun c => absurd c (by decide), fun c => absurd c (by decide), fun c => absurd c (by decide), fun c => absurd c (by decide), fun c => absurd c (by decide), fun _ => ?_⟩
    refine k116i h hb (inRd rfl) (inRd rfl) (fun v r I1 e cs hv => ⟨v, I1, rfl, rfl, hv, ?_⟩) (fun r I1 e fs => ⟨0, I1, rfl, rfl, inRd rfl, ?_⟩)
    · refine k1 (15, v, 0) r _ (t + 1) ?_ ((Pw.fr hq cs.1).set (Or.inr (Or.inr rfl))) (by omega) (cs.2.1.wq hq) cs.2.2.1 cs.2.2.2.1 rfl ⟨?_, ?_, ?_⟩
      · rw [bdP_pl (v := 15) (by decide)]; unfold plP; rw [e]; rfl
      · rw [ld_w hv, if_neg (by decide), fr_q hq cs.1, h2]
        exact cOf_15.symm
      · rw [ld_w hv, if_neg (by decide), fr_q hq cs.1, h3]
        exact cPer_15.symm
      · rw [ld_w hv, if_pos rfl]
        exact cVal_15.symm
    · obtain ⟨f1, t1, f2, f3⟩ := fs
      refine k0 r _ t1 ?_ ((Pw.fr hq f1).set (Or.inr (Or.inr rfl))) f2 (f3.wq hq)
      rw [bdP_pl (v := 15) (by decide)]; unfold plP; rw [e]; rfl
theorem k119f (h : PsC I T N nt t f) (hf : ¬ f = -1) (hob : obJ S q 15 8) (hK : ∀ I1, Pw q I I1 → PsC I1 T N nt t f → K (bd L I1 R S)) : CallV (d + 3) 119 [.ref 46, .ref q] (bd L I R S) K := by
  have hq := hob.1
  have z : ∀ {I1 : mI} {k : Nat} {x : Int32}, Pw q I I1 → (k = 2 ∨ k = 3 ∨ k = 4) → Pw q I (u2 I1 q k x) := fun h1 h2 => h1.set h2
  have r := Pw.refl q I
  have two : K (bd L (u2 (u2 I q 2 (oI 0)) q 4 (oI 0)) R S) := hK _ (z (z r (Or.inl rfl)) (Or.inr (Or.inr rfl))) ((h.wq hq).wq hq)
  refine e119 (d := d + 2) ⟨hob, fun _ => hK I r h, fun _ => k120f h hf ⟨0, _, rfl, rfl, inRd rfl, tf119 (h.wq hq) hf two⟩, fun _ => k116f h hf ⟨0, _, rfl, rfl, inRd rfl, tf119 (h.wq hq) hf two⟩, fun _ => k116f h hf ⟨0, _, rfl, rfl, inRd rfl, tf119 (h.wq hq) hf two⟩, fun _ => k116f h hf ⟨0, _, rfl, rfl, inRd rfl, ?_⟩, fun _ => k116f h hf ⟨0, _, rfl, rfl, inRd rfl, tf119 (h.wq hq) hf two⟩, fun _ => k116f h hf ⟨0, _, rfl, rfl, inRd rfl, tf119 (h.wq hq) hf two⟩, fun _ => hK I r h, fun _ => k116f h hf ⟨0, _, rfl, rfl, inRd rfl, hK _ (z r (Or.inr (Or.inr rfl))) (h.wq hq)⟩⟩
  exact k118f (h.wq hq) hf ⟨0, _, rfl, rfl, inRd rfl, k121f (h.wq hq) hf ⟨_, rfl, hK _ (z r (Or.inr (Or.inr rfl))) (h.wq hq)⟩⟩
end
