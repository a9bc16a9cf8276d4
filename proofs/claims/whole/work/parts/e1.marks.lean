section
variable {R : mR} {S : mSh} {I I1 : mI} {A A1 : aS} {n : Nat}
def kuB (a _k : Nat) : Bool := [33, 34, 35, 39, 40, 41].contains a
theorem BkC.und (h : BkC I A) (hk : Ko [3] [103, 104, 105, 106, 107] A A1) (hm : KpB kuB I I1) (h38 : ∀ k, k < nN A → ld I1 38 k = unN (A1 109 k)) : BkC I1 A1 := by
  have r := fun a h => hk.r (a := a) h
  have eo : ownN A1 = ownN A := by funext k; unfold ownN; rw [r 103 (fun _ => rfl), r 104 (fun _ => rfl)]
  have eN : nN A1 = nN A := by unfold nN; rw [hk.s (k := 3) rfl]
  have ef : fsO A1 = fsO A := by funext o f k; exact fsO_eq eo f k
  have el : lsO A1 = lsO A := by funext o k; exact lsO_eq eo k
  unfold BkC fstO frN vlN
  rw [eo, eN, ef, el, r 103 (fun _ => rfl), r 105 (fun _ => rfl), r 106 (fun _ => rfl), r 107 (fun _ => rfl)]
  refine ⟨fun k hk2 => ?_, fun o ho => ?_⟩
  · have := h.1 k hk2
    rw [hm.ld (a := 33) rfl, hm.ld (a := 34) rfl, hm.ld (a := 35) rfl, hm.ld (a := 39) rfl]
    exact ⟨this.1, this.2.1, this.2.2.1, h38 k hk2, this.2.2.2.2⟩
  · rw [hm.ld rfl, hm.ld rfl]; exact h.2 o ho
theorem RelC0.fl {a b : Nat} {v : Int} (h : RelC0 I A) (ha : mrT.contains a = false) : ∀ n, RelC0 I (fl A a b v n)
  | 0 => h
  | n + 1 => RelC0.off (RelC0.fl h ha n) ha
theorem RC.all (h : RC R S I A) (h0 : RelC0 I1 A1) (hc : KpB kcB I I1) (hcA : KoC A A1) (hb : BkC I1 A1) (hp : PrC I1 A1) (hv : PoC I1 A1) (hs : KpB ksB I I1) : RC R S I1 A1 :=
  ⟨h0, (h.2.1.kp hc).ko hcA, hb, hp, hv, h.2.2.2.2.2.1.kp hs, h.2.2.2.2.2.2.kp hs⟩
end
set_option maxRecDepth 4000 in
theorem e17 {d L : Nat} {I : Nat → Nat → Int32} {R : Nat → Nat → Option Nat} {S : List (Nat × Nat)} {K : Int32 → mM → Prop} {A : aS} (hC : RC R S I A) {x1 : Int} (hE : inR x1 ∧ (inR (A 91 3 - 1) ∧ (((0 ≤ x1 ∧ x1 ≤ A 91 3 - 1) → (0 ≤ x1 ∧ x1 < 850) ∧ (((ld I 38 x1.toNat = (-1)) → K (oI 1) (bd L (u2 (u2 (u2 I 8 9 (oI (ld I 8 9 + 1))) 38 x1.toNat (oI (A 91 0))) 31 12 (oI (A 91 4 + 1))) R S)) ∧ (¬ (ld I 38 x1.toNat = (-1)) → K (oI 0) (bd L (u2 I 8 9 (oI (ld I 8 9 + 1))) R S)))) ∧ (¬ (0 ≤ x1 ∧ x1 ≤ A 91 3 - 1) → K (oI 0) (bd L (u2 I 8 9 (oI (ld I 8 9 + 1))) R S))))) : CallI (d + 2) 17 [.ref 8, .int (oI x1)] (bd L I R S) K := by
  refine cI_of (ls := [.ref 8, .int (oI x1)]) rfl ?_
  refine xG gb17 ?_
  refine s6 (p := 8) rfl ?_
  refine s13r ?_
  refine s50 (v := ld I 8 9) sh8 (by decide) (by decide) (oI_ld _ _ _) ?_
  refine s0 ?_
  refine s16 ?_
  refine s52 sh8 (by decide) (by decide) ?_
  refine s6 (p := 8) rfl ?_
  refine s51 sh8 (by decide) (by decide) rf8_2 ?_
  refine s4 (x := x1) rfl ?_
  refine s6 (p := 8) rfl ?_
  refine s50 (v := A 91 0) sh8 (by decide) (by decide) ((v2_nk (by decide)).trans (rdC hC.1 rfl)) ?_
  refine sI rc93 rfl (Nat.le_of_ble_eq_true rfl) ?_
  refine cI_of (ls := [.ref 31, .int (oI x1), .int (oI (A 91 0))]) rfl ?_
  refine xG gb93.1 ?_
  refine s4 (x := x1) rfl ?_
  refine s0 ?_
  refine s6 (p := 31) rfl ?_
  refine s50 (v := A 91 3) sh31 (by decide) (by decide) ((v2_ne (by decide)).trans (rdC hC.1 rfl)) ?_
  refine s0 ?_
  refine s17 ?_
  obtain ⟨g1, hE⟩ := hE
  obtain ⟨g2, hE⟩ := hE
  refine sI rc3 rfl (Nat.le_of_ble_eq_true rfl) ?_
  refine k3 g1 (inRd rfl) g2 (fun c3 => ?_) (fun c3 => ?_)
  · replace hE := hE.1 c3
    refine s67 (inRd rfl) (fun c4 => absurd c4 (by decide)) (fun _ => ?_)
    refine s6 (p := 31) rfl ?_
    refine s51 sh31 (by decide) (by decide) rf31_6 ?_
    refine s4 (x := x1) rfl ?_
    obtain ⟨g5, hE⟩ := hE
    refine s40 (v := ld I 38 x1.toNat) sh38 g5 rfl ((v2_ne (by decide)).trans (oI_ld _ _ _)) ?_
    refine s0 ?_
    refine s61 (ld_inR _ _ _) (inRd rfl) (fun c6 => ?_) (fun c6 => ?_)
    · replace hE := hE.1 c6
      refine xG gb93.2.2 ?_
      refine s6 (p := 31) rfl ?_
      refine s51 sh31 (by decide) (by decide) rf31_6 ?_
      refine s4 (x := x1) rfl ?_
      refine s4 (x := A 91 0) rfl ?_
      refine s44 sh38 (by decide) g5 rfl ?_
      refine s6 (p := 31) rfl ?_
      refine s13r ?_
      refine s50 (v := A 91 4) sh31 (by decide) (by decide) ((v2_ne (by decide)).trans ((v2_ne (by decide)).trans (rdC hC.1 rfl))) ?_
      refine s0 ?_
      refine s16 ?_
      refine s52 sh31 (by decide) (by decide) ?_
      refine s0 ?_
      refine s84 (by decide) ?_
      refine rqI_of ?_
      refine s84 (by decide) ?_
      exact rqI_of hE
    · replace hE := hE.2 c6
      refine s79 ?_
      refine xG gb93.2.1 ?_
      refine s0 ?_
      refine s84 (by decide) ?_
      refine rqI_of ?_
      refine s84 (by decide) ?_
      exact rqI_of hE
  · replace hE := hE.2 c3
    refine s67 (inRd rfl) (fun _ => ?_) (fun c7 => absurd (by decide) c7)
    refine xG gb93.2.1 ?_
    refine s0 ?_
    refine s84 (by decide) ?_
    refine rqI_of ?_
    refine s84 (by decide) ?_
    exact rqI_of hE
set_option maxRecDepth 4000 in
theorem q17 {d L n : Nat} {I : mI} {R : mR} {S : mSh} {A : aS} {K : Int32 → mM → Prop} {x1 : Int} (hX : CX R S I A n) (hW : WF A) (hn : n ≤ 100000) (rx1 : inR x1) (hK : ∀ I1, FK I I1 → CX R S I1 (o243 A x1).2 (n + 1) → K (oI (o243 A x1).1) (bd L I1 R S)) : CallI (d + 2) 17 [.ref 8, .int (oI x1)] (bd L I R S) K := by
  have hC := hX.1
  have hA := hW.1
  have w0 := hA.1
  have w1 := hA.2.1
  have w2 := hA.2.2.1
  have w3 : 0 ≤ A 91 3 ∧ A 91 3 ≤ 850 := hA.2.2.2.1
  have ty := today_year hA
  have c9 := hX.2.2.2.1
  have b38 : 0 ≤ x1 ∧ x1 ≤ A 91 3 - 1 → ld I 38 x1.toNat = unN (A 109 x1.toNat) := fun h => (hC.2.2.1.1 x1.toNat (by unfold nN; omega)).2.2.2.1
  have u9 : 0 ≤ x1 ∧ x1 ≤ A 91 3 - 1 → (A 109 x1.toNat = 5000 ∨ (0 ≤ A 109 x1.toNat ∧ A 109 x1.toNat ≤ A 91 0)) := fun h => (hA.2.2.2.2 x1.toNat (by unfold nN; omega)).2.2.2.2.2.2.2.2.2
  have b1 : A 109 x1.toNat = 5000 → unN (A 109 x1.toNat) = -1 := fun h => if_pos h
  have b2 : ¬ A 109 x1.toNat = 5000 → unN (A 109 x1.toNat) = A 109 x1.toNat := fun h => if_neg h
  have l4 : A 91 4 = (unL A (A 91 3).toNat : Int) := hW.2.2.2.2.2.2.1
  have l5 := unL_le (A := A) (A 91 3).toNat
  refine e17 (d := d) hC ?_
  refine ⟨by first | assumption | exact inRd rfl | omega | exact ⟨by omega, by omega⟩ | (unfold WnOk; omega) | exact hW.1 | exact hW.2.1 | exact hW.2.2.1 | exact hW.2.2.2.1 | exact hW.2.2.2.2.1 | exact hW.2.2.2.2.2.2.2.2.2.1 | exact hW.2.2.2.2.2.2.2.2.2.2.1 | (constructor <;> omega), ?_⟩
  refine ⟨by first | assumption | exact inRd rfl | omega | exact ⟨by omega, by omega⟩ | (unfold WnOk; omega) | exact hW.1 | exact hW.2.1 | exact hW.2.2.1 | exact hW.2.2.2.1 | exact hW.2.2.2.2.1 | exact hW.2.2.2.2.2.2.2.2.2.1 | exact hW.2.2.2.2.2.2.2.2.2.2.1 | (constructor <;> omega), ?_⟩
  refine ⟨fun c1 => ?_, fun c1 => ?_⟩
  · refine ⟨by first | assumption | exact inRd rfl | omega | exact ⟨by omega, by omega⟩ | (unfold WnOk; omega) | exact hW.1 | exact hW.2.1 | exact hW.2.2.1 | exact hW.2.2.2.1 | exact hW.2.2.2.2.1 | exact hW.2.2.2.2.2.2.2.2.2.1 | exact hW.2.2.2.2.2.2.2.2.2.2.1 | (constructor <;> omega), ?_⟩
    refine ⟨fun c2 => ?_, fun c2 => ?_⟩
    · have ho : o243 A x1 = (1, (u2 (u2 A 109 x1.toNat (A 91 0)) 91 4 (A 91 4 + 1))) := by
        unfold o243
        rw [if_pos (by omega), if_pos (by omega)]
      rw [ho] at hK
      have h0 : RelC0 (u2 (u2 (u2 I 8 9 (oI (ld I 8 9 + 1))) 38 x1.toNat (oI (A 91 0))) 31 12 (oI (A 91 4 + 1))) (u2 (u2 A 91 4 (A 91 4 + 1)) 109 x1.toNat (A 91 0)) := RelC0.off (RelC0.set (RelC0.scr (RelC0.scr hC.1 (a := 8) (k := 9) rfl) (a := 38) (k := x1.toNat) rfl) (a := 31) (k := 12) (v := A 91 4 + 1) rfl ⟨by omega, by omega⟩) rfl
      have eA : (u2 (u2 A 91 4 (A 91 4 + 1)) 109 x1.toNat (A 91 0)) = (u2 (u2 A 109 x1.toNat (A 91 0)) 91 4 (A 91 4 + 1)) := by
        funext a k
        simp only [u2]
        repeat' split
        all_goals first | rfl | (exfalso; omega)
      rw [eA] at h0
      have r0 : inR (A 91 0) := ⟨by omega, by omega⟩
      have hb : BkC (u2 (u2 (u2 I 8 9 (oI (ld I 8 9 + 1))) 38 x1.toNat (oI (A 91 0))) 31 12 (oI (A 91 4 + 1))) (u2 (u2 A 109 x1.toNat (A 91 0)) 91 4 (A 91 4 + 1)) := hC.2.2.1.und (Ko.set (Ko.set (Ko.refl _ _ _) rfl) rfl) (KpB.wr (KpB.wr (KpB.wr (KpB.refl I) rfl) rfl) rfl) (fun k hk => by
        rw [ld_o (by decide), ld_w r0, ld_o (by decide), v2_ne (by decide), v2_w]
        by_cases q : k = x1.toNat
        · rw [if_pos q, if_pos q]
          exact (if_neg (by omega)).symm
        · rw [if_neg q, if_neg q]
          exact (hC.2.2.1.1 k hk).2.2.2.1)
      have ko : ∀ ks rs, dp ks rs 91 4 = false → (∀ k, dp ks rs 109 k = false) → Ko ks rs A (u2 (u2 A 109 x1.toNat (A 91 0)) 91 4 (A 91 4 + 1)) := fun ks rs h1 h2 => Ko.set (Ko.set (Ko.refl _ _ _) (h2 _)) h1
      have hr : RC R S (u2 (u2 (u2 I 8 9 (oI (ld I 8 9 + 1))) 38 x1.toNat (oI (A 91 0))) 31 12 (oI (A 91 4 + 1))) (u2 (u2 A 109 x1.toNat (A 91 0)) 91 4 (A 91 4 + 1)) := hC.all h0 (KpB.wr (KpB.wr (KpB.wr (KpB.refl I) rfl) rfl) rfl) (ko _ _ rfl (fun _ => rfl)) hb ((hC.2.2.2.1.kp (KpB.wr (KpB.wr (KpB.wr (KpB.refl I) rfl) rfl) rfl)).ko (ko _ _ rfl (fun _ => rfl))) ((hC.2.2.2.2.1.kp (KpB.wr (KpB.wr (KpB.wr (KpB.refl I) rfl) rfl) rfl)).ko (ko _ _ rfl (fun _ => rfl))) (KpB.wr (KpB.wr (KpB.wr (KpB.refl I) rfl) rfl) rfl)
      have h9 : ld (u2 (u2 (u2 I 8 9 (oI (ld I 8 9 + 1))) 38 x1.toNat (oI (A 91 0))) 31 12 (oI (A 91 4 + 1))) 8 9 = ld I 8 9 + 1 := by
        rw [ld_u2x, if_neg (by decide), ld_u2x, if_neg (fun q => absurd q.1 (by decide)), ld_u2x, if_pos ⟨rfl, rfl⟩, toInt_oI (by first | assumption | exact inRd rfl | omega | exact ⟨by omega, by omega⟩ | (unfold WnOk; omega) | exact hW.1 | exact hW.2.1 | exact hW.2.2.1 | exact hW.2.2.2.1 | exact hW.2.2.2.2.1 | exact hW.2.2.2.2.2.2.2.2.2.1 | exact hW.2.2.2.2.2.2.2.2.2.2.1 | (constructor <;> omega))]
      exact hK _ (FK.wr (FK.wr (FK.wr (FK.refl I) (by decide)) (by decide)) (by decide)) (hX.bump hr (MmK.wr (MmK.wr (MmK.wr (MmK.refl I) rfl) rfl) rfl) h9)
    · have ho : o243 A x1 = (0, A) := by
        unfold o243
        repeat' split
        all_goals first | (exfalso; omega) | with_reducible rfl
      rw [ho] at hK
      have h0 : RelC0 (u2 I 8 9 (oI (ld I 8 9 + 1))) A := (RelC0.scr hC.1 (a := 8) (k := 9) rfl)
      have hr : RC R S (u2 I 8 9 (oI (ld I 8 9 + 1))) A := RC.st hC h0 (PKx.wr (PKx.refl I) rfl) (Ko.refl _ _ _) (Ko.refl _ _ _) (Ko.refl _ _ _) (Ko.refl _ _ _)
      have h9 : ld (u2 I 8 9 (oI (ld I 8 9 + 1))) 8 9 = ld I 8 9 + 1 := by
        rw [ld_u2x, if_pos ⟨rfl, rfl⟩, toInt_oI (by first | assumption | exact inRd rfl | omega | exact ⟨by omega, by omega⟩ | (unfold WnOk; omega) | exact hW.1 | exact hW.2.1 | exact hW.2.2.1 | exact hW.2.2.2.1 | exact hW.2.2.2.2.1 | exact hW.2.2.2.2.2.2.2.2.2.1 | exact hW.2.2.2.2.2.2.2.2.2.2.1 | (constructor <;> omega))]
      exact hK _ (FK.wr (FK.refl I) (by decide)) (hX.bump hr (MmK.wr (MmK.refl I) rfl) h9)
  · have ho : o243 A x1 = (0, A) := by
      unfold o243
      repeat' split
      all_goals first | (exfalso; omega) | with_reducible rfl
    rw [ho] at hK
    have h0 : RelC0 (u2 I 8 9 (oI (ld I 8 9 + 1))) A := (RelC0.scr hC.1 (a := 8) (k := 9) rfl)
    have hr : RC R S (u2 I 8 9 (oI (ld I 8 9 + 1))) A := RC.st hC h0 (PKx.wr (PKx.refl I) rfl) (Ko.refl _ _ _) (Ko.refl _ _ _) (Ko.refl _ _ _) (Ko.refl _ _ _)
    have h9 : ld (u2 I 8 9 (oI (ld I 8 9 + 1))) 8 9 = ld I 8 9 + 1 := by
      rw [ld_u2x, if_pos ⟨rfl, rfl⟩, toInt_oI (by first | assumption | exact inRd rfl | omega | exact ⟨by omega, by omega⟩ | (unfold WnOk; omega) | exact hW.1 | exact hW.2.1 | exact hW.2.2.1 | exact hW.2.2.2.1 | exact hW.2.2.2.2.1 | exact hW.2.2.2.2.2.2.2.2.2.1 | exact hW.2.2.2.2.2.2.2.2.2.2.1 | (constructor <;> omega))]
    exact hK _ (FK.wr (FK.refl I) (by decide)) (hX.bump hr (MmK.wr (MmK.refl I) rfl) h9)
set_option maxRecDepth 4000 in
theorem e32 {d L : Nat} {I : Nat → Nat → Int32} {R : Nat → Nat → Option Nat} {S : List (Nat × Nat)} {K : Int32 → mM → Prop} {A : aS} (hC : RC R S I A) {x1 : Int} (hE : inR x1 ∧ (inR (A 91 2 - 1) ∧ (((0 ≤ x1 ∧ x1 ≤ A 91 2 - 1) → ((A 91 40 < 20) → (0 ≤ A 91 40 ∧ A 91 40 < 20) ∧ (K (oI (A 91 40)) (bd L (u2 (u2 (u2 (u2 I 8 9 (oI (ld I 8 9 + 1))) 30 (A 91 40).toNat (oI x1)) 28 (A 91 40).toNat (oI (Int.tdiv (A 91 0) 100))) 21 10 (oI (A 91 40 + 1))) R S))) ∧ (¬ (A 91 40 < 20) → K (oI (-1)) (bd L I R S))) ∧ (¬ (0 ≤ x1 ∧ x1 ≤ A 91 2 - 1) → K (oI (-1)) (bd L I R S))))) : CallI (d + 2) 32 [.ref 8, .int (oI x1)] (bd L I R S) K := by
  refine cI_of (ls := [.ref 8, .int (oI x1)]) rfl ?_
  refine xG gb32.1 ?_
  refine s6 (p := 8) rfl ?_
  refine s4 (x := x1) rfl ?_
  refine sI rc9 rfl (Nat.le_of_ble_eq_true rfl) ?_
  refine cI_of (ls := [.ref 8, .int (oI x1)]) rfl ?_
  refine xG gb9 ?_
  refine s4 (x := x1) rfl ?_
  refine s0 ?_
  refine s6 (p := 8) rfl ?_
  refine s51 sh8 (by decide) (by decide) rf8_0 ?_
  refine s50 (v := A 91 2) sh9 (by decide) (by decide) (rdC hC.1 rfl) ?_
  refine s0 ?_
  refine s17 ?_
  obtain ⟨g1, hE⟩ := hE
  obtain ⟨g2, hE⟩ := hE
  refine sI rc3 rfl (Nat.le_of_ble_eq_true rfl) ?_
  refine k3 g1 (inRd rfl) g2 (fun c3 => ?_) (fun c3 => ?_)
  · replace hE := hE.1 c3
    refine s84 (by decide) ?_
    refine rqI_of ?_
    refine s67 (inRd rfl) (fun c4 => absurd c4 (by decide)) (fun _ => ?_)
    refine s6 (p := 8) rfl ?_
    refine s51 sh8 (by decide) (by decide) rf8_1 ?_
    refine s50 (v := A 91 40) sh21 (by decide) (by decide) (rdC hC.1 rfl) ?_
    refine s0 ?_
    refine s63 (inC hC.1 (a := 21) (k := 10) rfl) (inRd rfl) (fun c5 => ?_) (fun c5 => ?_)
    · replace hE := hE.1 c5
      refine xG gb32.2.2 ?_
      refine s6 (p := 8) rfl ?_
      refine s13r ?_
      refine s50 (v := ld I 8 9) sh8 (by decide) (by decide) (oI_ld _ _ _) ?_
      refine s0 ?_
      refine s16 ?_
      refine s52 sh8 (by decide) (by decide) ?_
      refine s6 (p := 8) rfl ?_
      refine s51 sh8 (by decide) (by decide) rf8_1 ?_
      refine s4 (x := x1) rfl ?_
      refine s6 (p := 8) rfl ?_
      refine s50 (v := A 91 0) sh8 (by decide) (by decide) ((v2_nk (by decide)).trans (rdC hC.1 rfl)) ?_
      refine s0 ?_
      refine s19 (inC hC.1 (a := 8) (k := 8) rfl) ⟨(inRd rfl), by decide⟩ ?_
      refine sI rc83 rfl (Nat.le_of_ble_eq_true rfl) ?_
      refine cI_of (ls := [.ref 21, .int (oI x1), .int (oI (Int.tdiv (A 91 0) 100))]) rfl ?_
      refine xG gb83 ?_
      refine s6 (p := 21) rfl ?_
      refine s51 sh21 (by decide) (by decide) rf21_8 ?_
      refine s6 (p := 21) rfl ?_
      refine s50 (v := A 91 40) sh21 (by decide) (by decide) ((v2_ne (by decide)).trans (rdC hC.1 rfl)) ?_
      refine s4 (x := x1) rfl ?_
      obtain ⟨g6, hE⟩ := hE
      refine s44 sh30 (by decide) g6 rfl ?_
      refine s6 (p := 21) rfl ?_
      refine s51 sh21 (by decide) (by decide) rf21_6 ?_
      refine s6 (p := 21) rfl ?_
      refine s50 (v := A 91 40) sh21 (by decide) (by decide) ((v2_ne (by decide)).trans ((v2_ne (by decide)).trans (rdC hC.1 rfl))) ?_
      refine s4 (x := Int.tdiv (A 91 0) 100) rfl ?_
      refine s44 sh28 (by decide) g6 rfl ?_
      refine s6 (p := 21) rfl ?_
      refine s13r ?_
      refine s50 (v := A 91 40) sh21 (by decide) (by decide) ((v2_ne (by decide)).trans ((v2_ne (by decide)).trans ((v2_ne (by decide)).trans (rdC hC.1 rfl)))) ?_
      refine s15 ?_
      refine s0 ?_
      refine s16 ?_
      refine s52 sh21 (by decide) (by decide) ?_
      refine s80 ?_
      refine rqI_of ?_
      refine s80 ?_
      exact rqI_of hE
    · replace hE := hE.2 c5
      refine s79 ?_
      refine xG gb32.2.1 ?_
      refine s0 ?_
      refine s80 ?_
      exact rqI_of hE
  · replace hE := hE.2 c3
    refine s84 (by decide) ?_
    refine rqI_of ?_
    refine s67 (inRd rfl) (fun _ => ?_) (fun c7 => absurd (by decide) c7)
    refine xG gb32.2.1 ?_
    refine s0 ?_
    refine s80 ?_
    exact rqI_of hE
set_option maxRecDepth 4000 in
theorem q32 {d L n : Nat} {I : mI} {R : mR} {S : mSh} {A : aS} {K : Int32 → mM → Prop} {x1 : Int} (hX : CX R S I A n) (hW : WF A) (hn : n ≤ 100000) (rx1 : inR x1) (hK : ∀ I1, FK I I1 → CX R S I1 (o271 A x1).2 (n + 1) → K (oI (o271 A x1).1) (bd L I1 R S)) : CallI (d + 2) 32 [.ref 8, .int (oI x1)] (bd L I R S) K := by
  have hC := hX.1
  have hA := hW.1
  have w0 := hA.1
  have w1 := hA.2.1
  have w2 := hA.2.2.1
  have w3 : 0 ≤ A 91 3 ∧ A 91 3 ≤ 850 := hA.2.2.2.1
  have ty := today_year hA
  have c9 := hX.2.2.2.1
  have hT := hW.2.2.1
  have t0 := hT.1
  have t1 := hT.2.2.1
  refine e32 (d := d) hC ?_
  refine ⟨by first | assumption | exact inRd rfl | omega | exact ⟨by omega, by omega⟩ | (unfold WnOk; omega) | exact hW.1 | exact hW.2.1 | exact hW.2.2.1 | exact hW.2.2.2.1 | exact hW.2.2.2.2.1 | exact hW.2.2.2.2.2.2.2.2.2.1 | exact hW.2.2.2.2.2.2.2.2.2.2.1 | (constructor <;> omega), ?_⟩
  refine ⟨by first | assumption | exact inRd rfl | omega | exact ⟨by omega, by omega⟩ | (unfold WnOk; omega) | exact hW.1 | exact hW.2.1 | exact hW.2.2.1 | exact hW.2.2.2.1 | exact hW.2.2.2.2.1 | exact hW.2.2.2.2.2.2.2.2.2.1 | exact hW.2.2.2.2.2.2.2.2.2.2.1 | (constructor <;> omega), ?_⟩
  refine ⟨fun c1 => ?_, fun c1 => ?_⟩
  · refine ⟨fun c2 => ?_, fun c2 => ?_⟩
    · refine ⟨by first | assumption | exact inRd rfl | omega | exact ⟨by omega, by omega⟩ | (unfold WnOk; omega) | exact hW.1 | exact hW.2.1 | exact hW.2.2.1 | exact hW.2.2.2.1 | exact hW.2.2.2.2.1 | exact hW.2.2.2.2.2.2.2.2.2.1 | exact hW.2.2.2.2.2.2.2.2.2.2.1 | (constructor <;> omega), ?_⟩
      have ho : o271 A x1 = (A 91 40, (u2 (fl (u2 (u2 A 121 (A 91 40).toNat x1) 122 (A 91 40).toNat (Int.tdiv (A 91 0) 100)) 123 (8 * A 91 40).toNat (-1) 8) 91 40 (A 91 40 + 1))) := by
        unfold o271
        rw [if_pos (by omega), if_neg (by omega)]
        exact Prod.ext (by dsimp only; omega) rfl
      rw [ho] at hK
      have h0 : RelC0 (u2 (u2 (u2 (u2 I 8 9 (oI (ld I 8 9 + 1))) 30 (A 91 40).toNat (oI x1)) 28 (A 91 40).toNat (oI (Int.tdiv (A 91 0) 100))) 21 10 (oI (A 91 40 + 1))) (u2 (fl (u2 (u2 A 121 (A 91 40).toNat x1) 122 (A 91 40).toNat (Int.tdiv (A 91 0) 100)) 123 (8 * A 91 40).toNat (-1) 8) 91 40 (A 91 40 + 1)) := RelC0.set (RelC0.fl (RelC0.set (RelC0.set (RelC0.scr hC.1 (a := 8) (k := 9) rfl) (a := 30) (k := (A 91 40).toNat) (v := x1) rfl (by first | assumption | exact inRd rfl | omega | exact ⟨by omega, by omega⟩ | (unfold WnOk; omega) | exact hW.1 | exact hW.2.1 | exact hW.2.2.1 | exact hW.2.2.2.1 | exact hW.2.2.2.2.1 | exact hW.2.2.2.2.2.2.2.2.2.1 | exact hW.2.2.2.2.2.2.2.2.2.2.1 | (constructor <;> omega))) (a := 28) (k := (A 91 40).toNat) (v := Int.tdiv (A 91 0) 100) rfl (by first | assumption | exact inRd rfl | omega | exact ⟨by omega, by omega⟩ | (unfold WnOk; omega) | exact hW.1 | exact hW.2.1 | exact hW.2.2.1 | exact hW.2.2.2.1 | exact hW.2.2.2.2.1 | exact hW.2.2.2.2.2.2.2.2.2.1 | exact hW.2.2.2.2.2.2.2.2.2.2.1 | (constructor <;> omega))) rfl 8) (a := 21) (k := 10) (v := A 91 40 + 1) rfl (by first | assumption | exact inRd rfl | omega | exact ⟨by omega, by omega⟩ | (unfold WnOk; omega) | exact hW.1 | exact hW.2.1 | exact hW.2.2.1 | exact hW.2.2.2.1 | exact hW.2.2.2.2.1 | exact hW.2.2.2.2.2.2.2.2.2.1 | exact hW.2.2.2.2.2.2.2.2.2.2.1 | (constructor <;> omega))
      have ko : ∀ ks rs, dp ks rs 91 40 = false → (∀ k, dp ks rs 121 k = false ∧ dp ks rs 122 k = false ∧ dp ks rs 123 k = false) → Ko ks rs A (u2 (fl (u2 (u2 A 121 (A 91 40).toNat x1) 122 (A 91 40).toNat (Int.tdiv (A 91 0) 100)) 123 (8 * A 91 40).toNat (-1) 8) 91 40 (A 91 40 + 1)) := fun ks rs h1 h2 => Ko.set (Ko.fl (Ko.set (Ko.set (Ko.refl _ _ _) (h2 _).1) (h2 _).2.1) (fun k => (h2 k).2.2) 8) h1
      have hp : PrC (u2 (u2 (u2 (u2 I 8 9 (oI (ld I 8 9 + 1))) 30 (A 91 40).toNat (oI x1)) 28 (A 91 40).toNat (oI (Int.tdiv (A 91 0) 100))) 21 10 (oI (A 91 40 + 1))) (u2 (fl (u2 (u2 A 121 (A 91 40).toNat x1) 122 (A 91 40).toNat (Int.tdiv (A 91 0) 100)) 123 (8 * A 91 40).toNat (-1) 8) 91 40 (A 91 40 + 1)) := by
        intro t y ht hy
        have km : KpB kpB I (u2 (u2 (u2 (u2 I 8 9 (oI (ld I 8 9 + 1))) 30 (A 91 40).toNat (oI x1)) 28 (A 91 40).toNat (oI (Int.tdiv (A 91 0) 100))) 21 10 (oI (A 91 40 + 1))) := (KpB.wr (KpB.wr (KpB.wr (KpB.wr (KpB.refl I) rfl) rfl) rfl) rfl)
        rw [km.ld rfl, hC.2.2.2.1 t y ht hy, v2_w, if_pos rfl, v2_ne (by decide), fl_in, v2_ne (by decide), v2_ne (by decide)]
        by_cases q : (t : Int) < A 91 40
        · rw [if_pos q, if_pos (by omega), if_neg (by omega)]
        · rw [if_neg q]
          by_cases q2 : (t : Int) < A 91 40 + 1
          · rw [if_pos q2, if_pos (by omega)]
          · rw [if_neg q2]
      have hr : RC R S (u2 (u2 (u2 (u2 I 8 9 (oI (ld I 8 9 + 1))) 30 (A 91 40).toNat (oI x1)) 28 (A 91 40).toNat (oI (Int.tdiv (A 91 0) 100))) 21 10 (oI (A 91 40 + 1))) (u2 (fl (u2 (u2 A 121 (A 91 40).toNat x1) 122 (A 91 40).toNat (Int.tdiv (A 91 0) 100)) 123 (8 * A 91 40).toNat (-1) 8) 91 40 (A 91 40 + 1)) := hC.all h0 (KpB.wr (KpB.wr (KpB.wr (KpB.wr (KpB.refl I) rfl) rfl) rfl) rfl) (ko _ _ rfl (fun _ => ⟨rfl, rfl, rfl⟩)) ((hC.2.2.1.kp (KpB.wr (KpB.wr (KpB.wr (KpB.wr (KpB.refl I) rfl) rfl) rfl) rfl)).ko (ko _ _ rfl (fun _ => ⟨rfl, rfl, rfl⟩))) hp ((hC.2.2.2.2.1.kp (KpB.wr (KpB.wr (KpB.wr (KpB.wr (KpB.refl I) rfl) rfl) rfl) rfl)).ko (ko _ _ rfl (fun _ => ⟨rfl, rfl, rfl⟩))) (KpB.wr (KpB.wr (KpB.wr (KpB.wr (KpB.refl I) rfl) rfl) rfl) rfl)
      have h9 : ld (u2 (u2 (u2 (u2 I 8 9 (oI (ld I 8 9 + 1))) 30 (A 91 40).toNat (oI x1)) 28 (A 91 40).toNat (oI (Int.tdiv (A 91 0) 100))) 21 10 (oI (A 91 40 + 1))) 8 9 = ld I 8 9 + 1 := by
        rw [ld_u2x, if_neg (by decide), ld_u2x, if_neg (fun q => absurd q.1 (by decide)), ld_u2x, if_neg (fun q => absurd q.1 (by decide)), ld_u2x, if_pos ⟨rfl, rfl⟩, toInt_oI (by first | assumption | exact inRd rfl | omega | exact ⟨by omega, by omega⟩ | (unfold WnOk; omega) | exact hW.1 | exact hW.2.1 | exact hW.2.2.1 | exact hW.2.2.2.1 | exact hW.2.2.2.2.1 | exact hW.2.2.2.2.2.2.2.2.2.1 | exact hW.2.2.2.2.2.2.2.2.2.2.1 | (constructor <;> omega))]
      exact hK _ (FK.wr (FK.wr (FK.wr (FK.wr (FK.refl I) (by decide)) (by decide)) (by decide)) (by decide)) (hX.bump hr (MmK.wr (MmK.wr (MmK.wr (MmK.wr (MmK.refl I) rfl) rfl) rfl) rfl) h9)
    · have ho : o271 A x1 = ((-1), A) := by
        unfold o271
        repeat' split
        all_goals first | (exfalso; omega) | with_reducible rfl
      rw [ho] at hK
      exact hK I (FK.refl I) (hX.up (Nat.le_succ n))
  · have ho : o271 A x1 = ((-1), A) := by
      unfold o271
      repeat' split
      all_goals first | (exfalso; omega) | with_reducible rfl
    rw [ho] at hK
    exact hK I (FK.refl I) (hX.up (Nat.le_succ n))
set_option maxRecDepth 4000 in
theorem e33 {d L : Nat} {I : Nat → Nat → Int32} {R : Nat → Nat → Option Nat} {S : List (Nat × Nat)} {K : Int32 → mM → Prop} {A : aS} (hC : RC R S I A) {x1 : Int} {x2 : Int} {x3 : Int} (hE : inR x1 ∧ (inR (A 91 40 - 1) ∧ (((0 ≤ x1 ∧ x1 ≤ A 91 40 - 1) → (0 ≤ x1 ∧ x1 < 20) ∧ (inR x2 ∧ (((x2 < A 122 x1.toNat) → K (oI 0) (bd L I R S)) ∧ (¬ (x2 < A 122 x1.toNat) → inR (Int.tdiv (A 91 0) 100) ∧ (((Int.tdiv (A 91 0) 100 < x2) → K (oI 0) (bd L I R S)) ∧ (¬ (Int.tdiv (A 91 0) 100 < x2) → inR x3 ∧ (((0 ≤ x3 ∧ x3 ≤ 100) → (0 ≤ (x1 * 8) + x2 ∧ (x1 * 8) + x2 < 160) ∧ (K (oI 1) (bd L (u2 I 29 ((x1 * 8) + x2).toNat (oI (max (ld I 29 ((x1 * 8) + x2).toNat) x3))) R S))) ∧ (¬ (0 ≤ x3 ∧ x3 ≤ 100) → K (oI 0) (bd L I R S))))))))) ∧ (¬ (0 ≤ x1 ∧ x1 ≤ A 91 40 - 1) → K (oI 0) (bd L I R S))))) : CallI (d + 2) 33 [.ref 8, .int (oI x1), .int (oI x2), .int (oI x3)] (bd L I R S) K := by
  refine cI_of (ls := [.ref 8, .int (oI x1), .int (oI x2), .int (oI x3), mUn]) rfl ?_
  refine xG gb33.1 ?_
  refine s6 (p := 8) rfl ?_
  refine s4 (x := x1) rfl ?_
  refine sI rc34 rfl (Nat.le_of_ble_eq_true rfl) ?_
  refine cI_of (ls := [.ref 8, .int (oI x1)]) rfl ?_
  refine xG gb34 ?_
  refine s4 (x := x1) rfl ?_
  refine s0 ?_
  refine s6 (p := 8) rfl ?_
  refine s51 sh8 (by decide) (by decide) rf8_1 ?_
  refine s50 (v := A 91 40) sh21 (by decide) (by decide) (rdC hC.1 rfl) ?_
  refine s0 ?_
  refine s17 ?_
  obtain ⟨g1, hE⟩ := hE
  obtain ⟨g2, hE⟩ := hE
  refine sI rc3 rfl (Nat.le_of_ble_eq_true rfl) ?_
  refine k3 g1 (inRd rfl) g2 (fun c3 => ?_) (fun c3 => ?_)
  · replace hE := hE.1 c3
    refine s84 (by decide) ?_
    refine rqI_of ?_
    refine s67 (inRd rfl) (fun c4 => absurd c4 (by decide)) (fun _ => ?_)
    refine s4 (x := x2) rfl ?_
    refine s6 (p := 8) rfl ?_
    refine s51 sh8 (by decide) (by decide) rf8_1 ?_
    refine s51 sh21 (by decide) (by decide) rf21_6 ?_
    refine s4 (x := x1) rfl ?_
    obtain ⟨g5, hE⟩ := hE
    refine s40 (v := A 122 x1.toNat) sh28 g5 rfl (rdC hC.1 rfl) ?_
    obtain ⟨g6, hE⟩ := hE
    refine s63 g6 (inC hC.1 (a := 28) (k := x1.toNat) rfl) (fun c7 => ?_) (fun c7 => ?_)
    · replace hE := hE.1 c7
      refine xG gb33.2.1 ?_
      refine s0 ?_
      refine s79 ?_
      refine xG gb33.2.2.1 ?_
      refine s7 (ls' := [.ref 8, .int (oI x1), .int (oI x2), .int (oI x3), .int (oI 0)]) (Nat.le_of_ble_eq_true rfl) rfl ?_
      refine s4 (x := 0) rfl ?_
      refine s67 (inRd rfl) (fun _ => ?_) (fun c8 => absurd (by decide) c8)
      refine xG gb33.2.2.2 ?_
      refine s4 (x := 0) rfl ?_
      refine s84 (by decide) ?_
      exact rqI_of hE
    · replace hE := hE.2 c7
      refine s4 (x := x2) rfl ?_
      refine s6 (p := 8) rfl ?_
      refine s50 (v := A 91 0) sh8 (by decide) (by decide) (rdC hC.1 rfl) ?_
      refine s0 ?_
      refine s19 (inC hC.1 (a := 8) (k := 8) rfl) ⟨(inRd rfl), by decide⟩ ?_
      obtain ⟨g9, hE⟩ := hE
      refine s65 g6 g9 (fun c10 => ?_) (fun c10 => ?_)
      · replace hE := hE.1 c10
        refine xG gb33.2.1 ?_
        refine s0 ?_
        refine s79 ?_
        refine xG gb33.2.2.1 ?_
        refine s7 (ls' := [.ref 8, .int (oI x1), .int (oI x2), .int (oI x3), .int (oI 0)]) (Nat.le_of_ble_eq_true rfl) rfl ?_
        refine s4 (x := 0) rfl ?_
        refine s67 (inRd rfl) (fun _ => ?_) (fun c11 => absurd (by decide) c11)
        refine xG gb33.2.2.2 ?_
        refine s4 (x := 0) rfl ?_
        refine s84 (by decide) ?_
        exact rqI_of hE
      · replace hE := hE.2 c10
        refine s4 (x := x3) rfl ?_
        refine s0 ?_
        refine s0 ?_
        obtain ⟨g12, hE⟩ := hE
        refine sI rc3 rfl (Nat.le_of_ble_eq_true rfl) ?_
        refine k3 g12 (inRd rfl) (inRd rfl) (fun c13 => ?_) (fun c13 => ?_)
        · replace hE := hE.1 c13
          refine s67 (inRd rfl) (fun c14 => absurd c14 (by decide)) (fun _ => ?_)
          refine s0 ?_
          refine s60 ?_
          refine xG gb33.2.2.1 ?_
          refine s7 (ls' := [.ref 8, .int (oI x1), .int (oI x2), .int (oI x3), .int (oI 1)]) (Nat.le_of_ble_eq_true rfl) rfl ?_
          refine s4 (x := 1) rfl ?_
          refine s67 (inRd rfl) (fun c15 => absurd c15 (by decide)) (fun _ => ?_)
          refine s6 (p := 8) rfl ?_
          refine s51 sh8 (by decide) (by decide) rf8_1 ?_
          refine s4 (x := x1) rfl ?_
          refine s4 (x := x2) rfl ?_
          refine s4 (x := x3) rfl ?_
          refine sV rc84 rfl (Nat.le_of_ble_eq_true rfl) ?_
          refine cV_of (ls := [.ref 21, .int (oI x1), .int (oI x2), .int (oI x3), mUn]) rfl ?_
          refine xG gb84 ?_
          refine s4 (x := x1) rfl ?_
          refine s0 ?_
          refine s18 ?_
          refine s4 (x := x2) rfl ?_
          refine s16 ?_
          refine s7 (ls' := [.ref 21, .int (oI x1), .int (oI x2), .int (oI x3), .int (oI ((x1 * 8) + x2))]) (Nat.le_of_ble_eq_true rfl) rfl ?_
          refine s6 (p := 21) rfl ?_
          refine s51 sh21 (by decide) (by decide) rf21_7 ?_
          refine s4 (x := (x1 * 8) + x2) rfl ?_
          refine s6 (p := 21) rfl ?_
          refine s51 sh21 (by decide) (by decide) rf21_7 ?_
          refine s4 (x := (x1 * 8) + x2) rfl ?_
          obtain ⟨g16, hE⟩ := hE
          refine s40 (v := ld I 29 ((x1 * 8) + x2).toNat) sh29 g16 rfl (oI_ld _ _ _) ?_
          refine s4 (x := x3) rfl ?_
          refine sI rc346 rfl (Nat.le_of_ble_eq_true rfl) ?_
          refine k346 (ld_inR _ _ _) g12 ?_
          refine s44 sh29 (by decide) g16 rfl ?_
          refine s83 ?_
          refine rqV_of ?_
          refine s79 ?_
          refine xG gb33.2.2.2 ?_
          refine s4 (x := 1) rfl ?_
          refine s84 (by decide) ?_
          exact rqI_of hE
        · replace hE := hE.2 c13
          refine s67 (inRd rfl) (fun _ => ?_) (fun c17 => absurd (by decide) c17)
          refine xG gb33.2.1 ?_
          refine s0 ?_
          refine s79 ?_
          refine xG gb33.2.2.1 ?_
          refine s7 (ls' := [.ref 8, .int (oI x1), .int (oI x2), .int (oI x3), .int (oI 0)]) (Nat.le_of_ble_eq_true rfl) rfl ?_
          refine s4 (x := 0) rfl ?_
          refine s67 (inRd rfl) (fun _ => ?_) (fun c18 => absurd (by decide) c18)
          refine xG gb33.2.2.2 ?_
          refine s4 (x := 0) rfl ?_
          refine s84 (by decide) ?_
          exact rqI_of hE
  · replace hE := hE.2 c3
    refine s84 (by decide) ?_
    refine rqI_of ?_
    refine s67 (inRd rfl) (fun _ => ?_) (fun c19 => absurd (by decide) c19)
    refine xG gb33.2.1 ?_
    refine s0 ?_
    refine s79 ?_
    refine xG gb33.2.2.1 ?_
    refine s7 (ls' := [.ref 8, .int (oI x1), .int (oI x2), .int (oI x3), .int (oI 0)]) (Nat.le_of_ble_eq_true rfl) rfl ?_
    refine s4 (x := 0) rfl ?_
    refine s67 (inRd rfl) (fun _ => ?_) (fun c20 => absurd (by decide) c20)
    refine xG gb33.2.2.2 ?_
    refine s4 (x := 0) rfl ?_
    refine s84 (by decide) ?_
    exact rqI_of hE
set_option maxRecDepth 4000 in
theorem q33 {d L n : Nat} {I : mI} {R : mR} {S : mSh} {A : aS} {K : Int32 → mM → Prop} {x1 : Int} {x2 : Int} {x3 : Int} (hX : CX R S I A n) (hW : WF A) (hn : n ≤ 100000) (rx1 : inR x1) (rx2 : inR x2) (rx3 : inR x3) (hK : ∀ I1, FK I I1 → CX R S I1 (o272 A x1 x2 x3).2 (n + 1) → K (oI (o272 A x1 x2 x3).1) (bd L I1 R S)) : CallI (d + 2) 33 [.ref 8, .int (oI x1), .int (oI x2), .int (oI x3)] (bd L I R S) K := by
  have hC := hX.1
  have hA := hW.1
  have w0 := hA.1
  have w1 := hA.2.1
  have w2 := hA.2.2.1
  have w3 : 0 ≤ A 91 3 ∧ A 91 3 ≤ 850 := hA.2.2.2.1
  have ty := today_year hA
  have c9 := hX.2.2.2.1
  have hT := hW.2.2.1
  have t0 := hT.1
  have t1 := hT.2.2.1
  have tt : 0 ≤ x1 ∧ x1 ≤ A 91 40 - 1 → (0 ≤ A 121 x1.toNat ∧ A 121 x1.toNat < A 91 2) ∧ (0 ≤ A 122 x1.toNat ∧ A 122 x1.toNat ≤ 7) ∧ ∀ y : Nat, y < 8 → -1 ≤ A 123 (8 * x1.toNat + y) ∧ A 123 (8 * x1.toNat + y) ≤ 100 := fun h => hT.2.1 x1.toNat (by omega)
  have tu : 0 ≤ x1 ∧ x1 ≤ A 91 40 - 1 → 0 ≤ A 122 x1.toNat ∧ A 122 x1.toNat ≤ 7 := fun h => (tt h).2.1
  refine e33 (d := d) hC ?_
  refine ⟨by first | assumption | exact inRd rfl | omega | exact ⟨by omega, by omega⟩ | (unfold WnOk; omega) | exact hW.1 | exact hW.2.1 | exact hW.2.2.1 | exact hW.2.2.2.1 | exact hW.2.2.2.2.1 | exact hW.2.2.2.2.2.2.2.2.2.1 | exact hW.2.2.2.2.2.2.2.2.2.2.1 | (constructor <;> omega), ?_⟩
  refine ⟨by first | assumption | exact inRd rfl | omega | exact ⟨by omega, by omega⟩ | (unfold WnOk; omega) | exact hW.1 | exact hW.2.1 | exact hW.2.2.1 | exact hW.2.2.2.1 | exact hW.2.2.2.2.1 | exact hW.2.2.2.2.2.2.2.2.2.1 | exact hW.2.2.2.2.2.2.2.2.2.2.1 | (constructor <;> omega), ?_⟩
  refine ⟨fun c1 => ?_, fun c1 => ?_⟩
  · refine ⟨by first | assumption | exact inRd rfl | omega | exact ⟨by omega, by omega⟩ | (unfold WnOk; omega) | exact hW.1 | exact hW.2.1 | exact hW.2.2.1 | exact hW.2.2.2.1 | exact hW.2.2.2.2.1 | exact hW.2.2.2.2.2.2.2.2.2.1 | exact hW.2.2.2.2.2.2.2.2.2.2.1 | (constructor <;> omega), ?_⟩
    refine ⟨by first | assumption | exact inRd rfl | omega | exact ⟨by omega, by omega⟩ | (unfold WnOk; omega) | exact hW.1 | exact hW.2.1 | exact hW.2.2.1 | exact hW.2.2.2.1 | exact hW.2.2.2.2.1 | exact hW.2.2.2.2.2.2.2.2.2.1 | exact hW.2.2.2.2.2.2.2.2.2.2.1 | (constructor <;> omega), ?_⟩
    refine ⟨fun c2 => ?_, fun c2 => ?_⟩
    · have ho : o272 A x1 x2 x3 = (0, A) := by
        unfold o272
        repeat' split
        all_goals first | (exfalso; omega) | with_reducible rfl
      rw [ho] at hK
      exact hK I (FK.refl I) (hX.up (Nat.le_succ n))
    · refine ⟨by first | assumption | exact inRd rfl | omega | exact ⟨by omega, by omega⟩ | (unfold WnOk; omega) | exact hW.1 | exact hW.2.1 | exact hW.2.2.1 | exact hW.2.2.2.1 | exact hW.2.2.2.2.1 | exact hW.2.2.2.2.2.2.2.2.2.1 | exact hW.2.2.2.2.2.2.2.2.2.2.1 | (constructor <;> omega), ?_⟩
      refine ⟨fun c3 => ?_, fun c3 => ?_⟩
      · have ho : o272 A x1 x2 x3 = (0, A) := by
          unfold o272
          repeat' split
          all_goals first | (exfalso; omega) | with_reducible rfl
        rw [ho] at hK
        exact hK I (FK.refl I) (hX.up (Nat.le_succ n))
      · refine ⟨by first | assumption | exact inRd rfl | omega | exact ⟨by omega, by omega⟩ | (unfold WnOk; omega) | exact hW.1 | exact hW.2.1 | exact hW.2.2.1 | exact hW.2.2.2.1 | exact hW.2.2.2.2.1 | exact hW.2.2.2.2.2.2.2.2.2.1 | exact hW.2.2.2.2.2.2.2.2.2.2.1 | (constructor <;> omega), ?_⟩
        refine ⟨fun c4 => ?_, fun c4 => ?_⟩
        · refine ⟨by first | assumption | exact inRd rfl | omega | exact ⟨by omega, by omega⟩ | (unfold WnOk; omega) | exact hW.1 | exact hW.2.1 | exact hW.2.2.1 | exact hW.2.2.2.1 | exact hW.2.2.2.2.1 | exact hW.2.2.2.2.2.2.2.2.2.1 | exact hW.2.2.2.2.2.2.2.2.2.2.1 | (constructor <;> omega), ?_⟩
          have ho : o272 A x1 x2 x3 = (1, (u2 A 123 ((8 * x1) + x2).toNat (max x3 (A 123 ((8 * x1) + x2).toNat)))) := by
            unfold o272
            rw [if_pos (by omega), if_pos (by omega), if_pos (by omega)]
          have ta := tt (by omega)
          have ix : (x1 * 8 + x2).toNat = 8 * x1.toNat + x2.toNat := by omega
          have ix2 : ((8 * x1) + x2).toNat = 8 * x1.toNat + x2.toNat := by omega
          have l0 := hC.2.2.2.1 x1.toNat x2.toNat (by omega) (by omega)
          rw [if_pos (by omega)] at l0
          have mk := ta.2.2 x2.toNat (by omega)
          rw [ix2] at ho
          rw [ho] at hK
          rw [ix]
          have h0 : RelC0 (u2 I 29 (8 * x1.toNat + x2.toNat) (oI (max (ld I 29 (8 * x1.toNat + x2.toNat)) x3))) (u2 A 123 (8 * x1.toNat + x2.toNat) (max x3 (A 123 (8 * x1.toNat + x2.toNat)))) := RelC0.off (RelC0.scr hC.1 rfl) rfl
          have ko : ∀ ks rs, (∀ k, dp ks rs 123 k = false) → Ko ks rs A (u2 A 123 (8 * x1.toNat + x2.toNat) (max x3 (A 123 (8 * x1.toNat + x2.toNat)))) := fun ks rs h1 => Ko.set (Ko.refl _ _ _) (h1 _)
          have hp : PrC (u2 I 29 (8 * x1.toNat + x2.toNat) (oI (max (ld I 29 (8 * x1.toNat + x2.toNat)) x3))) (u2 A 123 (8 * x1.toNat + x2.toNat) (max x3 (A 123 (8 * x1.toNat + x2.toNat)))) := by
            intro t y ht hy
            rw [ld_w ⟨by omega, by omega⟩, v2_w, v2_ne (by decide), hC.2.2.2.1 t y ht hy]
            by_cases q : 8 * t + y = 8 * x1.toNat + x2.toNat
            · rw [if_pos q, if_pos q, if_pos (by omega)]; omega
            · rw [if_neg q, if_neg q]
          have hr := hC.all h0 (KpB.wr (KpB.refl I) rfl) (ko _ _ (fun _ => rfl)) ((hC.2.2.1.kp (KpB.wr (KpB.refl I) rfl)).ko (ko _ _ (fun _ => rfl))) hp ((hC.2.2.2.2.1.kp (KpB.wr (KpB.refl I) rfl)).ko (ko _ _ (fun _ => rfl))) (KpB.wr (KpB.refl I) rfl)
          exact hK _ (FK.wr (FK.refl I) (by decide)) (CX.up (hX.ko (ko _ _ (fun _ => rfl)) hr (MmK.wr (MmK.refl I) rfl) rfl) (Nat.le_succ n))
        · have ho : o272 A x1 x2 x3 = (0, A) := by
            unfold o272
            repeat' split
            all_goals first | (exfalso; omega) | with_reducible rfl
          rw [ho] at hK
          exact hK I (FK.refl I) (hX.up (Nat.le_succ n))
  · have ho : o272 A x1 x2 x3 = (0, A) := by
      unfold o272
      repeat' split
      all_goals first | (exfalso; omega) | with_reducible rfl
    rw [ho] at hK
    exact hK I (FK.refl I) (hX.up (Nat.le_succ n))
