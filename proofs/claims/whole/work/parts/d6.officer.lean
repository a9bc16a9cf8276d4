def h49_6 (d L : Nat) (I : Nat → Nat → Int32) (R : Nat → Nat → Option Nat) (S : List (Nat × Nat)) (Q : Option Value → mM → Prop) (x1 : Int) (x2 : Int) (w3 : Value) (x4 : Int) : Prop := Wp d (gb 49 6) [.ref 8, .int (oI x1), .int (oI x2), w3, .int (oI x4)] [] (bd L I R S) Q
set_option maxRecDepth 4000 in
theorem e49_6 {d L : Nat} {I : Nat → Nat → Int32} {R : Nat → Nat → Option Nat} {S : List (Nat × Nat)} {Q : Option Value → mM → Prop} {A : aS} (hC : RC R S I A) {x1 : Int} {x2 : Int} {w3 : Value} {x4 : Int} (hE : inR x4 ∧ (((x4 < A 91 1) → WfA A ∧ (WfP A ∧ (WfC A ∧ ((0 ≤ x4 ∧ x4 < A 91 1) ∧ ((0 ≤ Int.tdiv (A 91 0) 100 ∧ Int.tdiv (A 91 0) 100 ≤ 7) ∧ ((0 ≤ ld I 59 15 ∧ ld I 59 15 ≤ 799) ∧ (∀ (I9 : mI), (Fr [60, 61, 69] [] I I9) → (∀ j : Nat, (j : Int) ≤ Int.tdiv (A 91 0) 100 → ld I9 69 j = stS A x4 j (ld I 59 15)) → ∃ f12 t13 n14 : Int, WnOk f12 t13 n14 ∧ WnP I9 f12 t13 n14 ∧ (∀ (I17 : mI), (Fr [62, 63, 64, 65, 66, 67] [(59, 16)] I9 I17) → (ld I17 59 16 = x4) → (LyP A I17 x4 f12 t13 n14) → (0 ≤ x4 ∧ x4 < 40) ∧ (CallI (d + 27) 159 [.ref 59] (bd L I17 R S) (fun y s => ∃ (y24 : Int) (I22 : mI), y = oI y24 ∧ s = bd L I22 R S ∧ inR y24 ∧ RC R S I22 A ∧ ((0 ≤ A 93 x4.toNat ∧ A 93 x4.toNat < 10) ∧ (h49_6 (d + 28) L (u2 (u2 I22 11 (A 93 x4.toNat).toNat (oI (ld I22 11 (A 93 x4.toNat).toNat + 1))) 10 (A 93 x4.toNat).toNat (oI (ld I22 10 (A 93 x4.toNat).toNat + y24))) R S Q x1 x2 (mNl w3) (x4 + 1))))))))))))) ∧ (¬ (x4 < A 91 1) → inR x2 ∧ (((x2 < 10) → WfA A ∧ (WfC A ∧ (WfX A ∧ (inR x1 ∧ (HdC A I ∧ (∀ (I33 : mI), (Fr [] [(9, 14), (9, 15), (9, 16)] I I33) → (RdP A I33 x1 1023) → (x2 = 0 → Q (some (.int (oI (ld I33 9 15)))) (bd L I33 R S)) ∧ (x2 = 1 → Q (some (.int (oI (ld I33 9 14)))) (bd L I33 R S)) ∧ (x2 = 2 → Q (some (.int (oI (ld I33 9 16)))) (bd L I33 R S)) ∧ (¬ x2 = 0 ∧ ¬ x2 = 1 ∧ ¬ x2 = 2 → Q (some (.int (oI (-1)))) (bd L I33 R S)))))))) ∧ (¬ (x2 < 10) → (0 ≤ x2 - 10 ∧ x2 - 10 < 10) ∧ (Q (some (.int (oI (ld I 10 (x2 - 10).toNat)))) (bd L I R S))))))) : h49_6 (d + 28) L I R S Q x1 x2 w3 x4 := by
  unfold h49_6
  refine xG gb49.2.2.2.2.2.2.1 ?_
  refine s4 (x := x4) rfl ?_
  refine s6 (p := 8) rfl ?_
  refine s51 sh8 (by decide) (by decide) rf8_1 ?_
  refine s50 (v := A 91 1) sh21 (by decide) (by decide) (rdC hC.1 rfl) ?_
  obtain ⟨g1, hE⟩ := hE
  refine s64 g1 (inC hC.1 (a := 21) (k := 9) rfl) (fun c2 => ?_) (fun c2 => ?_)
  · replace hE := hE.1 c2
    refine s6 (p := 8) rfl ?_
    refine s51 sh8 (by decide) (by decide) rf8_4 ?_
    refine s4 (x := x4) rfl ?_
    refine s6 (p := 8) rfl ?_
    refine s50 (v := A 91 0) sh8 (by decide) (by decide) (rdC hC.1 rfl) ?_
    refine s0 ?_
    refine s19 (inC hC.1 (a := 8) (k := 8) rfl) ⟨(inRd rfl), by decide⟩ ?_
    obtain ⟨g3, hE⟩ := hE
    obtain ⟨g4, hE⟩ := hE
    obtain ⟨g5, hE⟩ := hE
    obtain ⟨g6, hE⟩ := hE
    obtain ⟨g7, hE⟩ := hE
    obtain ⟨g8, hE⟩ := hE
    refine sI rc142 rfl (Nat.le_of_ble_eq_true rfl) ?_
    refine k142 hC g3 g4 g5 g6 g7 g8 (fun I9 q10 q11 => ?_)
    replace hE := hE I9 q10 q11
    refine s12i ?_
    refine s6 (p := 8) rfl ?_
    refine s51 sh8 (by decide) (by decide) rf8_4 ?_
    refine s4 (x := x4) rfl ?_
    obtain ⟨f12, t13, n14, k15, k16, hE⟩ := hE
    refine sV rc136 rfl (Nat.le_of_ble_eq_true rfl) ?_
    refine k136 (RC.fr hC q10 rfl) k15 k16 g3 g6 (fun I17 q18 q19 q20 => ?_)
    replace hE := hE I17 q18 q19 q20
    refine s6 (p := 8) rfl ?_
    refine s51 sh8 (by decide) (by decide) rf8_0 ?_
    refine s6 (p := 8) rfl ?_
    refine s51 sh8 (by decide) (by decide) rf8_1 ?_
    refine s51 sh21 (by decide) (by decide) rf21_1 ?_
    refine s4 (x := x4) rfl ?_
    obtain ⟨g21, hE⟩ := hE
    refine s40 (v := A 93 x4.toNat) sh23 g21 rfl (rdC (RC.fr (RC.fr hC q10 rfl) q18 rfl).1 rfl) ?_
    refine s6 (p := 8) rfl ?_
    refine s51 sh8 (by decide) (by decide) rf8_4 ?_
    refine sI rc159 rfl (Nat.le_of_ble_eq_true rfl) ?_
    refine CallI.mono hE ?_
    rintro _ _ ⟨y24, I22, rfl, rfl, gy24, q23, hE⟩
    refine sV rc67 rfl (Nat.le_of_ble_eq_true rfl) ?_
    refine cV_of (ls := [.ref 9, .int (oI (A 93 x4.toNat)), .int (oI y24)]) rfl ?_
    refine xG gb67 ?_
    refine s6 (p := 9) rfl ?_
    refine s51 sh9 (by decide) (by decide) rf9_1 ?_
    refine s4 (x := A 93 x4.toNat) rfl ?_
    refine s14 ?_
    obtain ⟨g25, hE⟩ := hE
    refine s40 (v := ld I22 11 (A 93 x4.toNat).toNat) sh11 g25 rfl (oI_ld _ _ _) ?_
    refine s0 ?_
    refine s16 ?_
    refine s44 sh11 (by decide) g25 rfl ?_
    refine s6 (p := 9) rfl ?_
    refine s51 sh9 (by decide) (by decide) rf9_0 ?_
    refine s4 (x := A 93 x4.toNat) rfl ?_
    refine s14 ?_
    refine s40 (v := ld I22 10 (A 93 x4.toNat).toNat) sh10 g25 rfl ((v2_ne (by decide)).trans (oI_ld _ _ _)) ?_
    refine s4 (x := y24) rfl ?_
    refine s16 ?_
    refine s44 sh10 (by decide) g25 rfl ?_
    refine s83 ?_
    refine rqV_of ?_
    refine s10 (x := x4) (ls' := [.ref 8, .int (oI x1), .int (oI x2), mNl w3, .int (oI (x4 + 1))]) rfl rfl ?_
    refine s60 ?_
    exact hE
  · replace hE := hE.2 c2
    refine xG gb49.2.2.2.2.2.2.2.1 ?_
    refine s4 (x := x2) rfl ?_
    refine s0 ?_
    obtain ⟨g26, hE⟩ := hE
    refine s63 g26 (inRd rfl) (fun c27 => ?_) (fun c27 => ?_)
    · replace hE := hE.1 c27
      refine xG gb49.2.2.2.2.2.2.2.2 ?_
      refine s6 (p := 8) rfl ?_
      refine s51 sh8 (by decide) (by decide) rf8_0 ?_
      refine s4 (x := x1) rfl ?_
      obtain ⟨g28, hE⟩ := hE
      obtain ⟨g29, hE⟩ := hE
      obtain ⟨g30, hE⟩ := hE
      obtain ⟨g31, hE⟩ := hE
      obtain ⟨g32, hE⟩ := hE
      refine sV rc68 rfl (Nat.le_of_ble_eq_true rfl) ?_
      refine k68 hC g28 g29 g30 g31 g32 (fun I33 q34 q35 => ?_)
      replace hE := hE I33 q34 q35
      refine s6 (p := 8) rfl ?_
      refine s51 sh8 (by decide) (by decide) rf8_0 ?_
      refine s4 (x := x2) rfl ?_
      refine sI rc70 rfl (Nat.le_of_ble_eq_true rfl) ?_
      refine cI_of (ls := [.ref 9, .int (oI x2)]) rfl ?_
      refine xG gb70.1 ?_
      refine s4 (x := x2) rfl ?_
      refine s76 g26 ?_
      by_cases c36 : x2 = 0
      · replace hE := hE.1 c36
        rw [show mSel ((jSW.getD 70 []).getD 0 []) (x2 - 0) = 1 by rw [c36]; rfl]
        refine xG gb70.2.1 ?_
        refine s6 (p := 9) rfl ?_
        refine s50 (v := ld I33 9 15) sh9 (by decide) (by decide) (oI_ld _ _ _) ?_
        refine s80 ?_
        refine rqI_of ?_
        refine s80 ?_
        exact hE
      replace hE := hE.2
      by_cases c37 : x2 = 1
      · replace hE := hE.1 c37
        rw [show mSel ((jSW.getD 70 []).getD 0 []) (x2 - 0) = 2 by rw [c37]; rfl]
        refine xG gb70.2.2.1 ?_
        refine s6 (p := 9) rfl ?_
        refine s50 (v := ld I33 9 14) sh9 (by decide) (by decide) (oI_ld _ _ _) ?_
        refine s80 ?_
        refine rqI_of ?_
        refine s80 ?_
        exact hE
      replace hE := hE.2
      by_cases c38 : x2 = 2
      · replace hE := hE.1 c38
        rw [show mSel ((jSW.getD 70 []).getD 0 []) (x2 - 0) = 3 by rw [c38]; rfl]
        refine xG gb70.2.2.2.1 ?_
        refine s6 (p := 9) rfl ?_
        refine s50 (v := ld I33 9 16) sh9 (by decide) (by decide) (oI_ld _ _ _) ?_
        refine s80 ?_
        refine rqI_of ?_
        refine s80 ?_
        exact hE
      replace hE := hE.2
      replace hE := hE ⟨c36, c37, c38⟩
      rw [show mSel ((jSW.getD 70 []).getD 0 []) (x2 - 0) = 4 by exact mSel_def (lo := 0) (vs := [0, 1, 2]) rfl (by intro v hv; simp only [List.mem_cons, List.not_mem_nil, or_false] at hv; omega)]
      refine xG gb70.2.2.2.2 ?_
      refine s0 ?_
      refine s80 ?_
      refine rqI_of ?_
      refine s80 ?_
      exact hE
    · replace hE := hE.2 c27
      refine s6 (p := 8) rfl ?_
      refine s51 sh8 (by decide) (by decide) rf8_0 ?_
      refine s51 sh9 (by decide) (by decide) rf9_0 ?_
      refine s4 (x := x2) rfl ?_
      refine s0 ?_
      refine s17 ?_
      obtain ⟨g39, hE⟩ := hE
      refine s40 (v := ld I 10 (x2 - 10).toNat) sh10 g39 rfl (oI_ld _ _ _) ?_
      refine s80 ?_
      exact hE
section
variable {d L : Nat} {I I0 : mI} {R : mR} {S : mSh} {Q : Option Value → mM → Prop} {A : aS} {c day known kind half year subj code : Int}
theorem l49 {x1 x2 : Int} (hA : WfA A) (hP : WfP A) (hWC : WfC A) (hXX : WfX A) (h1 : 0 ≤ x1 ∧ x1 ≤ 2000) (h2 : (0 ≤ x2 ∧ x2 ≤ 2) ∨ (10 ≤ x2 ∧ x2 ≤ 19)) (hQ : ∀ I1, Fr [10, 11, 60, 61, 62, 63, 64, 65, 66, 67, 68, 69] [(9, 14), (9, 15), (9, 16), (59, 13), (59, 14), (59, 15), (59, 16)] I0 I1 → RC R S I1 A → Q (some (.int (oI (officerA A x1 x2)))) (bd L I1 R S)) : ∀ (n k : Nat) (I : mI) (w3 : Value), k + n = (A 91 1).toNat → Fr [10, 11, 60, 61, 62, 63, 64, 65, 66, 67, 68, 69] [(9, 14), (9, 15), (9, 16), (59, 13), (59, 14), (59, 15), (59, 16)] I0 I → RC R S I A → WnP I (max 0 (A 91 0 - 9)) (A 91 0) (A 91 0) → ShP A I (max 0 (A 91 0 - 9)) (A 91 0) (A 91 0) → (∀ s : Nat, s < 10 → ld I 10 s = lackV A k s ∧ ld I 11 s = liveV A k s) → h49_6 (d + 28) L I R S Q x1 x2 w3 k := by
  have w0 := hA.1
  have w1 := hA.2.1
  have ty := today_year hA
  have td : (max 0 (A 91 0 - 9)) ≤ A 91 0 ∧ 0 ≤ (max 0 (A 91 0 - 9)) ∧ A 91 0 ≤ (max 0 (A 91 0 - 9)) + 9 := by omega
  intro n
  induction n with
  | zero =>
    intro k I w3 hk hf hC hwn hsh hv
    obtain rfl : k = (A 91 1).toNat := by omega
    refine e49_6 (d := d) hC ⟨⟨by omega, by omega⟩, fun c => by exfalso; omega, fun _ => ⟨⟨by omega, by omega⟩, fun c => ?_, fun c => ⟨by omega, ?_⟩⟩⟩
    · refine ⟨hA, hWC, hXX, ⟨by omega, by omega⟩, hv, ?_⟩
      intro I1 q1 rd
      have q := hQ I1 (hf.trans (q1.sub rfl rfl)) (hC.fr q1 rfl)
      have ea : officerA A x1 x2 = if x2 = 0 then (obS A x1 1023).2.1 else if x2 = 1 then (obS A x1 1023).1 else (obS A x1 1023).2.2 := by
        unfold officerA
        rw [if_neg (by omega), if_neg (by omega)]
      rw [ea] at q
      refine ⟨fun c => ?_, fun c => ?_, fun c => ?_, fun c => by exfalso; omega⟩
      · rw [if_pos c] at q; rw [rd.2.1]; exact q
      · rw [if_neg (by omega), if_pos c] at q; rw [rd.1]; exact q
      · rw [if_neg (by omega), if_neg (by omega)] at q; rw [rd.2.2]; exact q
    · have q := hQ I hf hC
      have ea : officerA A x1 x2 = lk9 A (x2 - 10).toNat := by
        unfold officerA
        rw [if_neg (by omega), if_pos (by omega)]
      rw [ea] at q
      rw [(hv _ (by omega)).1]
      exact q
  | succ n ih =>
    intro k I w3 hk hf hC hwn hsh hv
    have wp := (hP k (by omega)).2.1
    refine e49_6 (d := d) hC ⟨⟨by omega, by omega⟩, fun c => ?_, fun c => by exfalso; omega⟩
    rw [hwn.2.2]
    refine ⟨hA, hP, hWC, by omega, ty, by omega, ?_⟩
    intro I2 q2 t2
    refine ⟨(max 0 (A 91 0 - 9)), A 91 0, A 91 0, by unfold WnOk; omega, hwn.fr q2 rfl rfl rfl, ?_⟩
    intro I3 q3 p3 l3
    have hC3 := (hC.fr q2 rfl).fr q3 rfl
    have wn3 := (hwn.fr q2 rfl rfl rfl).fr q3 rfl rfl rfl
    have sh3 := (hsh.fr q2 (fun _ => rfl)).fr q3 (fun _ => rfl)
    refine ⟨by omega, ?_⟩
    refine k159 (d := d + 1) (f := (max 0 (A 91 0 - 9))) (t := A 91 0) (c := (k : Int)) hC3 hA hWC hP ⟨by unfold WnOk; omega, wn3, sh3, l3, p3⟩ (by omega) (fun j hj => (q3.ld rfl).trans (t2 j hj)) (fun I4 q4 => ?_)
    have hC4 := hC3.fr q4 rfl
    have e10 : ∀ s, ld I4 10 s = ld I 10 s := fun s => (q4.ld rfl).trans ((q3.ld rfl).trans (q2.ld rfl))
    have e11 : ∀ s, ld I4 11 s = ld I 11 s := fun s => (q4.ld rfl).trans ((q3.ld rfl).trans (q2.ld rfl))
    have ek : lkK A k (max 0 (A 91 0 - 9)) (A 91 0 - (max 0 (A 91 0 - 9)) + 1).toNat = lkC A k := rfl
    have ki := lkK_in hWC (c := (k : Int)) (d0 := (max 0 (A 91 0 - 9))) (A 91 0 - (max 0 (A 91 0 - 9)) + 1).toNat
    rw [ek] at ki ⊢
    refine ⟨lkC A k, I4, rfl, rfl, ⟨by omega, by omega⟩, hC4, by show 0 ≤ A 93 k ∧ A 93 k < 10; omega, ?_⟩
    have a1 := lackV_in hA hWC (s := (A 93 k).toNat) k
    have a2 := liveV_in (A := A) (s := (A 93 k).toNat) k
    have v1 := hv (A 93 k).toNat (by omega)
    show h49_6 (d + 28) L (u2 (u2 I4 11 (A 93 k).toNat (oI (ld I4 11 (A 93 k).toNat + 1))) 10 (A 93 k).toNat (oI (ld I4 10 (A 93 k).toNat + lkC A k))) R S Q x1 x2 (mNl w3) ((k : Int) + 1)
    rw [e10, e11, v1.1, v1.2]
    have r1 : inR (liveV A k (A 93 k).toNat + 1) := ⟨by omega, by omega⟩
    have r2 : inR (lackV A k (A 93 k).toNat + lkC A k) := ⟨by omega, by omega⟩
    have q9 := ih (k + 1) (u2 (u2 I4 11 (A 93 k).toNat (oI (liveV A k (A 93 k).toNat + 1))) 10 (A 93 k).toNat (oI (lackV A k (A 93 k).toNat + lkC A k))) (mNl w3) (by omega) ((((hf.trans (q2.sub rfl rfl)).trans (q3.sub rfl rfl)).trans (q4.sub rfl rfl)).wr rfl |>.wr rfl) ((hC4.scr rfl).scr rfl) ?_ ?_ ?_
    · rw [show ((k + 1 : Nat) : Int) = (k : Int) + 1 by omega] at q9
      exact q9
    · have := wn3.fr q4 rfl rfl rfl
      exact ⟨by rw [ld_o (by decide), ld_o (by decide)]; exact this.1, by rw [ld_o (by decide), ld_o (by decide)]; exact this.2.1, by rw [ld_o (by decide), ld_o (by decide)]; exact this.2.2⟩
    · intro i hi s hs
      rw [ld_o (by decide), ld_o (by decide)]
      exact (sh3.fr q4 (fun _ => rfl)) i hi s hs
    · intro s hs
      rw [ld_w r2, ld_o (b := 11) (by decide), ld_w r1, ld_o (b := 10) (by decide), e10, e11]
      show _ = lackV A k s + _ ∧ _ = liveV A k s + _
      by_cases e : s = (A 93 k).toNat
      · rw [if_pos e, if_pos e, if_pos e.symm, if_pos e.symm, e]; exact ⟨rfl, rfl⟩
      · rw [if_neg e, if_neg e, if_neg (fun h => e h.symm), if_neg (fun h => e h.symm)]
        have := hv s hs
        omega
end
set_option maxRecDepth 4000 in
theorem e49 {d L : Nat} {I : Nat → Nat → Int32} {R : Nat → Nat → Option Nat} {S : List (Nat × Nat)} {K : Int32 → mM → Prop} {A : aS} (hC : RC R S I A) {x1 : Int} {x2 : Int} (hE : inR x2 ∧ (((0 ≤ x2 ∧ x2 ≤ 2) → inR x1 ∧ (((0 ≤ x1 ∧ x1 ≤ 2000) → ∀ (I8 : mI), (Fr [10] [] I I8) → (∀ j : Nat, j < 10 → ld I8 10 j = 0) → ∀ (I11 : mI), (Fr [11] [] I8 I11) → (∀ j : Nat, j < 10 → ld I11 11 j = 0) → inR (A 91 0 - 9) ∧ (WfA A ∧ (WnOk (max 0 (A 91 0 - 9)) (A 91 0) (A 91 0) ∧ (∀ (I17 : mI), (Fr [68] [(59, 13), (59, 14), (59, 15)] I11 I17) → (WnP I17 (max 0 (A 91 0 - 9)) (A 91 0) (A 91 0)) → (ShP A I17 (max 0 (A 91 0 - 9)) (A 91 0) (A 91 0)) → h49_6 (d + 3) L I17 R S (rqI K) x1 x2 (.int (oI 1)) 0)))) ∧ (¬ (0 ≤ x1 ∧ x1 ≤ 2000) → K (oI (-1)) (bd L I R S)))) ∧ (¬ (0 ≤ x2 ∧ x2 ≤ 2) → ((10 ≤ x2 ∧ x2 ≤ 19) → inR x1 ∧ (((0 ≤ x1 ∧ x1 ≤ 2000) → ∀ (I29 : mI), (Fr [10] [] I I29) → (∀ j : Nat, j < 10 → ld I29 10 j = 0) → ∀ (I32 : mI), (Fr [11] [] I29 I32) → (∀ j : Nat, j < 10 → ld I32 11 j = 0) → inR (A 91 0 - 9) ∧ (WfA A ∧ (WnOk (max 0 (A 91 0 - 9)) (A 91 0) (A 91 0) ∧ (∀ (I38 : mI), (Fr [68] [(59, 13), (59, 14), (59, 15)] I32 I38) → (WnP I38 (max 0 (A 91 0 - 9)) (A 91 0) (A 91 0)) → (ShP A I38 (max 0 (A 91 0 - 9)) (A 91 0) (A 91 0)) → h49_6 (d + 3) L I38 R S (rqI K) x1 x2 (.int (oI 1)) 0)))) ∧ (¬ (0 ≤ x1 ∧ x1 ≤ 2000) → K (oI (-1)) (bd L I R S)))) ∧ (¬ (10 ≤ x2 ∧ x2 ≤ 19) → inR x1 ∧ (((0 ≤ x1 ∧ x1 ≤ 2000) → K (oI (-1)) (bd L I R S)) ∧ (¬ (0 ≤ x1 ∧ x1 ≤ 2000) → K (oI (-1)) (bd L I R S))))))) : CallI (d + 3) 49 [.ref 8, .int (oI x1), .int (oI x2)] (bd L I R S) K := by
  refine cI_of (ls := [.ref 8, .int (oI x1), .int (oI x2), mUn, mUn]) rfl ?_
  refine xG gb49.1 ?_
  refine s4 (x := x2) rfl ?_
  refine s0 ?_
  refine s0 ?_
  obtain ⟨g1, hE⟩ := hE
  refine sI rc3 rfl (Nat.le_of_ble_eq_true rfl) ?_
  refine k3 g1 (inRd rfl) (inRd rfl) (fun c2 => ?_) (fun c2 => ?_)
  · replace hE := hE.1 c2
    refine s68 (inRd rfl) (fun c3 => absurd c3 (by decide)) (fun _ => ?_)
    refine xG gb49.2.1 ?_
    refine s0 ?_
    refine s60 ?_
    refine xG gb49.2.2.2.1 ?_
    refine s7 (ls' := [.ref 8, .int (oI x1), .int (oI x2), .int (oI 1), mUn]) (Nat.le_of_ble_eq_true rfl) rfl ?_
    refine s4 (x := x1) rfl ?_
    refine s0 ?_
    refine s0 ?_
    obtain ⟨g4, hE⟩ := hE
    refine sI rc3 rfl (Nat.le_of_ble_eq_true rfl) ?_
    refine k3 g4 (inRd rfl) (inRd rfl) (fun c5 => ?_) (fun c5 => ?_)
    · replace hE := hE.1 c5
      refine s67 (inRd rfl) (fun c6 => absurd c6 (by decide)) (fun _ => ?_)
      refine s4 (x := 1) rfl ?_
      refine s68 (inRd rfl) (fun c7 => absurd c7 (by decide)) (fun _ => ?_)
      refine xG gb49.2.2.2.2.2.1 ?_
      refine s6 (p := 8) rfl ?_
      refine s51 sh8 (by decide) (by decide) rf8_0 ?_
      refine sV rc66 rfl (Nat.le_of_ble_eq_true rfl) ?_
      refine cV_of (ls := [.ref 9]) rfl ?_
      refine xG gb66 ?_
      refine s6 (p := 9) rfl ?_
      refine s51 sh9 (by decide) (by decide) rf9_0 ?_
      refine s0 ?_
      refine sV rc350 rfl (Nat.le_of_ble_eq_true rfl) ?_
      refine k350a10 hC (inRd rfl) (fun I8 q9 q10 => ?_)
      replace hE := hE I8 q9 q10
      refine s6 (p := 9) rfl ?_
      refine s51 sh9 (by decide) (by decide) rf9_1 ?_
      refine s0 ?_
      refine sV rc350 rfl (Nat.le_of_ble_eq_true rfl) ?_
      refine k350a11 (RC.fr hC q9 rfl) (inRd rfl) (fun I11 q12 q13 => ?_)
      replace hE := hE I11 q12 q13
      refine s83 ?_
      refine rqV_of ?_
      refine s6 (p := 8) rfl ?_
      refine s51 sh8 (by decide) (by decide) rf8_4 ?_
      refine s0 ?_
      refine s6 (p := 8) rfl ?_
      refine s50 (v := A 91 0) sh8 (by decide) (by decide) (rdC (RC.fr (RC.fr hC q9 rfl) q12 rfl).1 rfl) ?_
      refine s0 ?_
      refine s17 ?_
      obtain ⟨g14, hE⟩ := hE
      refine sI rc346 rfl (Nat.le_of_ble_eq_true rfl) ?_
      refine k346 (inRd rfl) g14 ?_
      refine s6 (p := 8) rfl ?_
      refine s50 (v := A 91 0) sh8 (by decide) (by decide) (rdC (RC.fr (RC.fr hC q9 rfl) q12 rfl).1 rfl) ?_
      refine s6 (p := 8) rfl ?_
      refine s50 (v := A 91 0) sh8 (by decide) (by decide) (rdC (RC.fr (RC.fr hC q9 rfl) q12 rfl).1 rfl) ?_
      obtain ⟨g15, hE⟩ := hE
      obtain ⟨g16, hE⟩ := hE
      refine sV rc134 rfl (Nat.le_of_ble_eq_true rfl) ?_
      refine k134 (RC.fr (RC.fr hC q9 rfl) q12 rfl) g15 g16 (fun I17 q18 q19 q20 => ?_)
      replace hE := hE I17 q18 q19 q20
      refine s0 ?_
      refine s7 (ls' := [.ref 8, .int (oI x1), .int (oI x2), .int (oI 1), .int (oI 0)]) (Nat.le_of_ble_eq_true rfl) rfl ?_
      refine s79 ?_
      exact hE
    · replace hE := hE.2 c5
      refine s67 (inRd rfl) (fun _ => ?_) (fun c21 => absurd (by decide) c21)
      refine xG gb49.2.2.2.2.1 ?_
      refine s0 ?_
      refine s80 ?_
      exact rqI_of hE
  · replace hE := hE.2 c2
    refine s68 (inRd rfl) (fun _ => ?_) (fun c22 => absurd (by decide) c22)
    refine s4 (x := x2) rfl ?_
    refine s0 ?_
    refine s0 ?_
    refine sI rc3 rfl (Nat.le_of_ble_eq_true rfl) ?_
    refine k3 g1 (inRd rfl) (inRd rfl) (fun c23 => ?_) (fun c23 => ?_)
    · replace hE := hE.1 c23
      refine s67 (inRd rfl) (fun c24 => absurd c24 (by decide)) (fun _ => ?_)
      refine s79 ?_
      refine xG gb49.2.1 ?_
      refine s0 ?_
      refine s60 ?_
      refine xG gb49.2.2.2.1 ?_
      refine s7 (ls' := [.ref 8, .int (oI x1), .int (oI x2), .int (oI 1), mUn]) (Nat.le_of_ble_eq_true rfl) rfl ?_
      refine s4 (x := x1) rfl ?_
      refine s0 ?_
      refine s0 ?_
      obtain ⟨g25, hE⟩ := hE
      refine sI rc3 rfl (Nat.le_of_ble_eq_true rfl) ?_
      refine k3 g25 (inRd rfl) (inRd rfl) (fun c26 => ?_) (fun c26 => ?_)
      · replace hE := hE.1 c26
        refine s67 (inRd rfl) (fun c27 => absurd c27 (by decide)) (fun _ => ?_)
        refine s4 (x := 1) rfl ?_
        refine s68 (inRd rfl) (fun c28 => absurd c28 (by decide)) (fun _ => ?_)
        refine xG gb49.2.2.2.2.2.1 ?_
        refine s6 (p := 8) rfl ?_
        refine s51 sh8 (by decide) (by decide) rf8_0 ?_
        refine sV rc66 rfl (Nat.le_of_ble_eq_true rfl) ?_
        refine cV_of (ls := [.ref 9]) rfl ?_
        refine xG gb66 ?_
        refine s6 (p := 9) rfl ?_
        refine s51 sh9 (by decide) (by decide) rf9_0 ?_
        refine s0 ?_
        refine sV rc350 rfl (Nat.le_of_ble_eq_true rfl) ?_
        refine k350a10 hC (inRd rfl) (fun I29 q30 q31 => ?_)
        replace hE := hE I29 q30 q31
        refine s6 (p := 9) rfl ?_
        refine s51 sh9 (by decide) (by decide) rf9_1 ?_
        refine s0 ?_
        refine sV rc350 rfl (Nat.le_of_ble_eq_true rfl) ?_
        refine k350a11 (RC.fr hC q30 rfl) (inRd rfl) (fun I32 q33 q34 => ?_)
        replace hE := hE I32 q33 q34
        refine s83 ?_
        refine rqV_of ?_
        refine s6 (p := 8) rfl ?_
        refine s51 sh8 (by decide) (by decide) rf8_4 ?_
        refine s0 ?_
        refine s6 (p := 8) rfl ?_
        refine s50 (v := A 91 0) sh8 (by decide) (by decide) (rdC (RC.fr (RC.fr hC q30 rfl) q33 rfl).1 rfl) ?_
        refine s0 ?_
        refine s17 ?_
        obtain ⟨g35, hE⟩ := hE
        refine sI rc346 rfl (Nat.le_of_ble_eq_true rfl) ?_
        refine k346 (inRd rfl) g35 ?_
        refine s6 (p := 8) rfl ?_
        refine s50 (v := A 91 0) sh8 (by decide) (by decide) (rdC (RC.fr (RC.fr hC q30 rfl) q33 rfl).1 rfl) ?_
        refine s6 (p := 8) rfl ?_
        refine s50 (v := A 91 0) sh8 (by decide) (by decide) (rdC (RC.fr (RC.fr hC q30 rfl) q33 rfl).1 rfl) ?_
        obtain ⟨g36, hE⟩ := hE
        obtain ⟨g37, hE⟩ := hE
        refine sV rc134 rfl (Nat.le_of_ble_eq_true rfl) ?_
        refine k134 (RC.fr (RC.fr hC q30 rfl) q33 rfl) g36 g37 (fun I38 q39 q40 q41 => ?_)
        replace hE := hE I38 q39 q40 q41
        refine s0 ?_
        refine s7 (ls' := [.ref 8, .int (oI x1), .int (oI x2), .int (oI 1), .int (oI 0)]) (Nat.le_of_ble_eq_true rfl) rfl ?_
        refine s79 ?_
        exact hE
      · replace hE := hE.2 c26
        refine s67 (inRd rfl) (fun _ => ?_) (fun c42 => absurd (by decide) c42)
        refine xG gb49.2.2.2.2.1 ?_
        refine s0 ?_
        refine s80 ?_
        exact rqI_of hE
    · replace hE := hE.2 c23
      refine s67 (inRd rfl) (fun _ => ?_) (fun c43 => absurd (by decide) c43)
      refine xG gb49.2.2.1 ?_
      refine s0 ?_
      refine s79 ?_
      refine xG gb49.2.2.2.1 ?_
      refine s7 (ls' := [.ref 8, .int (oI x1), .int (oI x2), .int (oI 0), mUn]) (Nat.le_of_ble_eq_true rfl) rfl ?_
      refine s4 (x := x1) rfl ?_
      refine s0 ?_
      refine s0 ?_
      obtain ⟨g44, hE⟩ := hE
      refine sI rc3 rfl (Nat.le_of_ble_eq_true rfl) ?_
      refine k3 g44 (inRd rfl) (inRd rfl) (fun c45 => ?_) (fun c45 => ?_)
      · replace hE := hE.1 c45
        refine s67 (inRd rfl) (fun c46 => absurd c46 (by decide)) (fun _ => ?_)
        refine s4 (x := 0) rfl ?_
        refine s68 (inRd rfl) (fun _ => ?_) (fun c47 => absurd (by decide) c47)
        refine s79 ?_
        refine xG gb49.2.2.2.2.1 ?_
        refine s0 ?_
        refine s80 ?_
        exact rqI_of hE
      · replace hE := hE.2 c45
        refine s67 (inRd rfl) (fun _ => ?_) (fun c48 => absurd (by decide) c48)
        refine xG gb49.2.2.2.2.1 ?_
        refine s0 ?_
        refine s80 ?_
        exact rqI_of hE
set_option maxRecDepth 4000 in
theorem q49 {d L n : Nat} {I : mI} {R : mR} {S : mSh} {A : aS} {K : Int32 → mM → Prop} {x1 : Int} {x2 : Int} (hX : CX R S I A n) (hW : WF A) (hn : n ≤ 100000) (rx1 : inR x1) (rx2 : inR x2) (hK : ∀ I1, FK I I1 → CX R S I1 A (n + 1) → K (oI (officerA A x1 x2)) (bd L I1 R S)) : CallI (d + 28) 49 [.ref 8, .int (oI x1), .int (oI x2)] (bd L I R S) K := by
  have hC := hX.1
  have hA := hW.1
  have w0 := hA.1
  have w1 := hA.2.1
  have w2 := hA.2.2.1
  have w3 : 0 ≤ A 91 3 ∧ A 91 3 ≤ 850 := hA.2.2.2.1
  have ty := today_year hA
  have c9 := hX.2.2.2.1
  refine e49 (d := d + 25) hC ?_
  refine ⟨by first | assumption | exact inRd rfl | omega | exact ⟨by omega, by omega⟩ | (unfold WnOk; omega) | exact hW.1 | exact hW.2.1 | exact hW.2.2.1 | exact hW.2.2.2.1 | exact hW.2.2.2.2.1 | exact hW.2.2.2.2.2.2.2.2.2.1 | exact hW.2.2.2.2.2.2.2.2.2.2.1 | (constructor <;> omega), ?_⟩
  refine ⟨fun c1 => ?_, fun c1 => ?_⟩
  · refine ⟨by first | assumption | exact inRd rfl | omega | exact ⟨by omega, by omega⟩ | (unfold WnOk; omega) | exact hW.1 | exact hW.2.1 | exact hW.2.2.1 | exact hW.2.2.2.1 | exact hW.2.2.2.2.1 | exact hW.2.2.2.2.2.2.2.2.2.1 | exact hW.2.2.2.2.2.2.2.2.2.2.1 | (constructor <;> omega), ?_⟩
    refine ⟨fun c2 => ?_, fun c2 => ?_⟩
    · intro I1 q1 z1
      intro I2 q2 z2
      refine ⟨⟨by omega, by omega⟩, hA, by unfold WnOk; omega, ?_⟩
      intro I3 q3 wn3 sh3
      refine l49 (d := d) (I0 := I) hA hW.2.1 hW.2.2.2.2.2.2.2.2.2.2.1 hW.2.2.2.2.1 (by omega) (by omega) (fun I4 q4 r4 => rqI_of (hK I4 (Fr.FK q4 rfl) (CX.up (hX.fr q4 rfl rfl) (Nat.le_succ n)))) (A 91 1).toNat 0 I3 _ (by omega) (((q1.sub rfl rfl).trans (q2.sub rfl rfl)).trans (q3.sub rfl rfl)) (((hC.fr q1 rfl).fr q2 rfl).fr q3 rfl) wn3 sh3 (fun s hs => ?_)
      exact ⟨(q3.ld rfl).trans ((q2.ld rfl).trans (z1 s hs)), (q3.ld rfl).trans (z2 s hs)⟩
    · have ho : officerA A x1 x2 = (-1) := by
        unfold officerA
        repeat' split
        all_goals first | (exfalso; omega) | with_reducible rfl | omega
      rw [ho] at hK
      exact hK I (FK.refl I) (hX.up (Nat.le_succ n))
  · refine ⟨fun c3 => ?_, fun c3 => ?_⟩
    · refine ⟨by first | assumption | exact inRd rfl | omega | exact ⟨by omega, by omega⟩ | (unfold WnOk; omega) | exact hW.1 | exact hW.2.1 | exact hW.2.2.1 | exact hW.2.2.2.1 | exact hW.2.2.2.2.1 | exact hW.2.2.2.2.2.2.2.2.2.1 | exact hW.2.2.2.2.2.2.2.2.2.2.1 | (constructor <;> omega), ?_⟩
      refine ⟨fun c4 => ?_, fun c4 => ?_⟩
      · intro I1 q1 z1
        intro I2 q2 z2
        refine ⟨⟨by omega, by omega⟩, hA, by unfold WnOk; omega, ?_⟩
        intro I3 q3 wn3 sh3
        refine l49 (d := d) (I0 := I) hA hW.2.1 hW.2.2.2.2.2.2.2.2.2.2.1 hW.2.2.2.2.1 (by omega) (by omega) (fun I4 q4 r4 => rqI_of (hK I4 (Fr.FK q4 rfl) (CX.up (hX.fr q4 rfl rfl) (Nat.le_succ n)))) (A 91 1).toNat 0 I3 _ (by omega) (((q1.sub rfl rfl).trans (q2.sub rfl rfl)).trans (q3.sub rfl rfl)) (((hC.fr q1 rfl).fr q2 rfl).fr q3 rfl) wn3 sh3 (fun s hs => ?_)
        exact ⟨(q3.ld rfl).trans ((q2.ld rfl).trans (z1 s hs)), (q3.ld rfl).trans (z2 s hs)⟩
      · have ho : officerA A x1 x2 = (-1) := by
          unfold officerA
          repeat' split
          all_goals first | (exfalso; omega) | with_reducible rfl | omega
        rw [ho] at hK
        exact hK I (FK.refl I) (hX.up (Nat.le_succ n))
    · refine ⟨by first | assumption | exact inRd rfl | omega | exact ⟨by omega, by omega⟩ | (unfold WnOk; omega) | exact hW.1 | exact hW.2.1 | exact hW.2.2.1 | exact hW.2.2.2.1 | exact hW.2.2.2.2.1 | exact hW.2.2.2.2.2.2.2.2.2.1 | exact hW.2.2.2.2.2.2.2.2.2.2.1 | (constructor <;> omega), ?_⟩
      refine ⟨fun c5 => ?_, fun c5 => ?_⟩
      · have ho : officerA A x1 x2 = (-1) := by
          unfold officerA
          repeat' split
          all_goals first | (exfalso; omega) | with_reducible rfl | omega
        rw [ho] at hK
        exact hK I (FK.refl I) (hX.up (Nat.le_succ n))
      · have ho : officerA A x1 x2 = (-1) := by
          unfold officerA
          repeat' split
          all_goals first | (exfalso; omega) | with_reducible rfl | omega
        rw [ho] at hK
        exact hK I (FK.refl I) (hX.up (Nat.le_succ n))
