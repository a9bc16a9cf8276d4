set_option maxRecDepth 4000 in
theorem e38 {d L : Nat} {I : Nat → Nat → Int32} {R : Nat → Nat → Option Nat} {S : List (Nat × Nat)} {K : Int32 → mM → Prop}  {x1 : Int} {x2 : Int} (hE : inR x1 ∧ (((x1 < 0) → K (oI (-2)) (bd L I R S)) ∧ (¬ (x1 < 0) → ((ld I 43 1 < x1) → K (oI (-2)) (bd L I R S)) ∧ (¬ (ld I 43 1 < x1) → inR x2 ∧ (inR (Int.tdiv (ld I 8 8) 100) ∧ (((x2 < Int.tdiv (ld I 8 8) 100) → K (oI (-2)) (bd L I R S)) ∧ (¬ (x2 < Int.tdiv (ld I 8 8) 100) → ((7 < x2) → K (oI (-2)) (bd L I R S)) ∧ (¬ (7 < x2) → ((ld I 43 2 < 8) → CallI d 101 [.ref 43, .int (oI x1), .int (oI x2)] (bd L (u2 I 8 9 (oI (ld I 8 9 + 1))) R S) (fun y s => ∃ (y18 : Int) (I15 : mI) (R16 : mR) (S17 : mSh), y = oI y18 ∧ s = bd L I15 R16 S17 ∧ inR y18 ∧ (K (oI y18) (bd L I15 R16 S17)))) ∧ (¬ (ld I 43 2 < 8) → K (oI (-3)) (bd L I R S)))))))))) : CallI (d + 1) 38 [.ref 8, .int (oI x1), .int (oI x2)] (bd L I R S) K := by
  refine cI_of (ls := [.ref 8, .int (oI x1), .int (oI x2)]) rfl ?_
  refine xG gb38.1 ?_
  refine s4 (x := x1) rfl ?_
  refine s0 ?_
  refine s6 (p := 8) rfl ?_
  refine s51 sh8 (by decide) (by decide) rf8_3 ?_
  refine s50 (v := ld I 43 1) sh43 (by decide) (by decide) (oI_ld _ _ _) ?_
  refine sI rc3 rfl (Nat.le_of_ble_eq_true rfl) ?_
  refine cI_of (ls := [.int (oI x1), .int (oI 0), .int (oI (ld I 43 1))]) rfl ?_
  refine xG gb3.1 ?_
  refine s4 (x := x1) rfl ?_
  refine s4 (x := 0) rfl ?_
  obtain ⟨g1, hE⟩ := hE
  refine s63 g1 (inRd rfl) (fun c2 => ?_) (fun c2 => ?_)
  · replace hE := hE.1 c2
    refine xG gb3.2.1 ?_
    refine s0 ?_
    refine s79 ?_
    refine xG gb3.2.2 ?_
    refine s84 (by decide) ?_
    refine rqI_of ?_
    refine s67 (inRd rfl) (fun _ => ?_) (fun c3 => absurd (by decide) c3)
    refine xG gb38.2.1 ?_
    refine s0 ?_
    refine s80 ?_
    exact rqI_of hE
  · replace hE := hE.2 c2
    refine s4 (x := x1) rfl ?_
    refine s4 (x := ld I 43 1) rfl ?_
    refine s65 g1 (ld_inR _ _ _) (fun c4 => ?_) (fun c4 => ?_)
    · replace hE := hE.1 c4
      refine xG gb3.2.1 ?_
      refine s0 ?_
      refine s79 ?_
      refine xG gb3.2.2 ?_
      refine s84 (by decide) ?_
      refine rqI_of ?_
      refine s67 (inRd rfl) (fun _ => ?_) (fun c5 => absurd (by decide) c5)
      refine xG gb38.2.1 ?_
      refine s0 ?_
      refine s80 ?_
      exact rqI_of hE
    · replace hE := hE.2 c4
      refine s0 ?_
      refine s60 ?_
      refine xG gb3.2.2 ?_
      refine s84 (by decide) ?_
      refine rqI_of ?_
      refine s67 (inRd rfl) (fun c6 => absurd c6 (by decide)) (fun _ => ?_)
      refine s4 (x := x2) rfl ?_
      refine s6 (p := 8) rfl ?_
      refine s50 (v := ld I 8 8) sh8 (by decide) (by decide) (oI_ld _ _ _) ?_
      refine s0 ?_
      refine s19 (ld_inR _ _ _) ⟨(inRd rfl), by decide⟩ ?_
      refine s0 ?_
      refine sI rc3 rfl (Nat.le_of_ble_eq_true rfl) ?_
      refine cI_of (ls := [.int (oI x2), .int (oI (Int.tdiv (ld I 8 8) 100)), .int (oI 7)]) rfl ?_
      refine xG gb3.1 ?_
      refine s4 (x := x2) rfl ?_
      refine s4 (x := Int.tdiv (ld I 8 8) 100) rfl ?_
      obtain ⟨g7, hE⟩ := hE
      obtain ⟨g8, hE⟩ := hE
      refine s63 g7 g8 (fun c9 => ?_) (fun c9 => ?_)
      · replace hE := hE.1 c9
        refine xG gb3.2.1 ?_
        refine s0 ?_
        refine s79 ?_
        refine xG gb3.2.2 ?_
        refine s84 (by decide) ?_
        refine rqI_of ?_
        refine s68 (inRd rfl) (fun _ => ?_) (fun c10 => absurd (by decide) c10)
        refine s79 ?_
        refine xG gb38.2.1 ?_
        refine s0 ?_
        refine s80 ?_
        exact rqI_of hE
      · replace hE := hE.2 c9
        refine s4 (x := x2) rfl ?_
        refine s4 (x := 7) rfl ?_
        refine s65 g7 (inRd rfl) (fun c11 => ?_) (fun c11 => ?_)
        · replace hE := hE.1 c11
          refine xG gb3.2.1 ?_
          refine s0 ?_
          refine s79 ?_
          refine xG gb3.2.2 ?_
          refine s84 (by decide) ?_
          refine rqI_of ?_
          refine s68 (inRd rfl) (fun _ => ?_) (fun c12 => absurd (by decide) c12)
          refine s79 ?_
          refine xG gb38.2.1 ?_
          refine s0 ?_
          refine s80 ?_
          exact rqI_of hE
        · replace hE := hE.2 c11
          refine s0 ?_
          refine s60 ?_
          refine xG gb3.2.2 ?_
          refine s84 (by decide) ?_
          refine rqI_of ?_
          refine s68 (inRd rfl) (fun c13 => absurd c13 (by decide)) (fun _ => ?_)
          refine xG gb38.2.2.1 ?_
          refine s6 (p := 8) rfl ?_
          refine s51 sh8 (by decide) (by decide) rf8_3 ?_
          refine s50 (v := ld I 43 2) sh43 (by decide) (by decide) (oI_ld _ _ _) ?_
          refine s0 ?_
          refine s63 (ld_inR _ _ _) (inRd rfl) (fun c14 => ?_) (fun c14 => ?_)
          · replace hE := hE.1 c14
            refine xG gb38.2.2.2 ?_
            refine s6 (p := 8) rfl ?_
            refine s13r ?_
            refine s50 (v := ld I 8 9) sh8 (by decide) (by decide) (oI_ld _ _ _) ?_
            refine s0 ?_
            refine s16 ?_
            refine s52 sh8 (by decide) (by decide) ?_
            refine s6 (p := 8) rfl ?_
            refine s51 sh8 (by decide) (by decide) rf8_3 ?_
            refine s4 (x := x1) rfl ?_
            refine s4 (x := x2) rfl ?_
            refine sI rc101 rfl (Nat.le_of_ble_eq_true rfl) ?_
            refine CallI.mono hE ?_
            rintro _ _ ⟨y18, I15, R16, S17, rfl, rfl, gy18, hE⟩
            refine s80 ?_
            exact rqI_of hE
          · replace hE := hE.2 c14
            refine s0 ?_
            refine s80 ?_
            exact rqI_of hE
section
theorem wcAct {F : Nat} {A A1 : aS} {n y ans : Int} (h : WF A) (hr : ActR F A n y ans A1) : WfC A1 := by
  rcases hr with ⟨-, -, rfl⟩ | ⟨c, ⟨-, -, rfl⟩ | ⟨c8, hx, h67, hr⟩⟩
  · exact h.2.2.2.2.2.2.2.2.2.2.1
  · exact h.2.2.2.2.2.2.2.2.2.2.1
  have hC := h.2.2.2.2.2.2.2.2.2.2.1
  have hD := h.2.2.2.2.2.2.2.2.1
  have hF := h.2.2.2.2.2.2.2.1
  have hc1 := hC.1
  have hd1 := hD.1
  have hf1 := hF.1
  have hf2 := hF.2
  have ht : Int.tdiv (A 91 0) 100 = A 91 0 / 100 := Int.tdiv_eq_ediv_of_nonneg h.1.1.1
  have h00 := h.1.1.1
  have n66 : A 91 66 ≤ A1 91 66 ∧ A1 91 66 ≤ 7200 ∧ (0 ≤ A1 91 66 ∧ A1 91 66 ≤ 800 * A1 91 65) := by
    rcases hr with ⟨r, -, -, -, e66, e65⟩ | ⟨r, l, -, -, -, e65, -, -, -, -, g1, g2⟩ <;> omega
  have old : ∀ a : Nat, a < (A 91 65).toNat → (0 ≤ A1 137 a ∧ A1 137 a ≤ 40) ∧ (0 ≤ A1 138 a ∧ A1 138 a ≤ 7) ∧ ∀ j : Nat, j < (A1 137 a).toNat → WfS A1 (40 * a + j) := by
    intro a ha
    have g := hC.2 a ha
    rw [hx 137 a (by omega) (by omega) (by omega) (by omega), hx 138 a (by omega) (by omega) (by omega) (by omega)]
    refine ⟨g.1, g.2.1, fun j hj => (g.2.2 j hj).ext ⟨n66.1, n66.2.1, fun j hj => ⟨hx 144 j (by omega) (by omega) (by omega) (by omega), hx 145 j (by omega) (by omega) (by omega) (by omega), hx 146 j (by omega) (by omega) (by omega) (by omega), hx 147 j (by omega) (by omega) (by omega) (by omega), hx 148 j (by omega) (by omega) (by omega) (by omega), hx 149 j (by omega) (by omega) (by omega) (by omega)⟩⟩ ?_⟩
    have hj4 : 40 * a + j < 40 * (A 91 65).toNat := by have := g.1; omega
    exact ⟨hx 139 _ (by omega) (by omega) (by omega) (by omega), hx 140 _ (by omega) (by omega) (by omega) (by omega), hx 141 _ (by omega) (by omega) (by omega) (by omega), hx 142 _ (by omega) (by omega) (by omega) (by omega), hx 143 _ (by omega) (by omega) (by omega) (by omega)⟩
  rcases hr with ⟨r, -, -, -, e66, e65⟩ | ⟨r, l, -, -, -, e65, e138, e137, hl, hs, g1, g2⟩
  · exact ⟨by rw [e65]; exact hc1, fun a ha => old a (by omega)⟩
  · refine ⟨by omega, fun a ha => ?_⟩
    by_cases q : a = (A 91 65).toNat
    · rw [q, e137, e138]
      refine ⟨by omega, by omega, fun j hj => ?_⟩
      obtain ⟨o, ho⟩ : ∃ o, l[j]? = some o := ⟨l[j]'(by omega), List.getElem?_eq_getElem (by omega)⟩
      have g := hs j o ho
      exact g.1.wf g.2 n66.2.1
    · exact old a (by omega)
end
section
variable {d L F N y n ac i m : Nat} {I I0 I1 : mI} {R R1 : mR} {S S1 : mSh} {A A1 : aS} {K : Int32 → mM → Prop} {l : List Stm} {x1 x2 ans r : Int}
theorem prS_find : ∀ m : Nat, i < prS A m → ∃ a j : Nat, a < m ∧ j < (A 137 a).toNat ∧ i = prS A a + j
  | 0, h => absurd h (Nat.not_lt_zero _)
  | m + 1, h => by
    rw [prS_succ] at h
    by_cases c : i < prS A m
    · obtain ⟨a, j, h1, h2, h3⟩ := prS_find m c
      exact ⟨a, j, by omega, h2, h3⟩
    · exact ⟨m, i - prS A m, by omega, by omega, by omega⟩
theorem ActB.fl (h : ActB F A (N : Int) (y : Int) ans A1) (hW : WF A) (h65 : A 91 65 = (ac : Int)) (hac : ac < 8) (hN : (N : Int) ≤ A 91 67) (hs : acP (A 152) N F 40 0 = (some l, m)) (hy : Int.tdiv (A 91 0) 100 ≤ (y : Int) ∧ (y : Int) ≤ 7) : ans = ac ∧ AcF A A1 l y ac := by
  have hD := hW.2.2.2.2.2.2.2.2.1.1
  have hF2 := hW.2.2.2.2.2.2.2.1.2
  have e : (A 91 65).toNat = ac := by omega
  rcases h.1 with ⟨c, -, -⟩ | ⟨-, ⟨c, -, -⟩ | ⟨-, hx, h67, ⟨r, z, -⟩ | ⟨r, l', z, e1, e2, e3, e4, e5, e6, e7, e8, e9⟩⟩⟩
  · exact absurd ⟨⟨by omega, hN⟩, hy⟩ c
  · omega
  · rw [Int.toNat_natCast, hs] at z
    cases z
  · rw [Int.toNat_natCast, hs] at z
    obtain ⟨rfl, rfl⟩ : l' = l ∧ r = m := by cases z; exact ⟨rfl, rfl⟩
    rw [e] at e4 e5 e7
    exact ⟨e1.trans h65, hx, h67, e2, by rw [e3, h65], e4, e5, e6, e7, e8, by omega⟩
theorem ActB.no (h : ActB F A (N : Int) (y : Int) ans A1) (h65 : A 91 65 = (ac : Int)) (hac : ac < 8) (hN : (N : Int) ≤ A 91 67) (hs : acP (A 152) N F 40 0 = (none, m)) (hy : Int.tdiv (A 91 0) 100 ≤ (y : Int) ∧ (y : Int) ≤ 7) : ans = -1 ∧ AcN A A1 (m : Int) := by
  rcases h.1 with ⟨c, -, -⟩ | ⟨-, ⟨c, -, -⟩ | ⟨-, hx, h67, ⟨r, z, e1, e2, e3, e4⟩ | ⟨r, l', z, -⟩⟩⟩
  · exact absurd ⟨⟨by omega, hN⟩, hy⟩ c
  · omega
  · rw [Int.toNat_natCast, hs] at z
    obtain rfl : r = m := by cases z; rfl
    exact ⟨e1, hx, h67, e2, e3, e4, h.2 (by omega)⟩
  · rw [Int.toNat_natCast, hs] at z
    cases z
/-- what a call takes of the room: N bytes fed are used, c acts more -/
def Bud (R : mR) (S : mSh) (R1 : mR) (S1 : mSh) (N c : Nat) : Prop := (∃ X, S1 = S ++ X) ∧ ∀ n, PnK R S n → ∃ n1, PnK R1 S1 n1 ∧ n ≤ n1 ∧ S1.length + n ≤ S.length + N + n1 + 80 * c ∧ slS S1 + 2 * n ≤ slS S + 8 * N + 2 * n1 + 80000 * c
theorem Bud.refl : Bud R S R S 0 0 := ⟨⟨[], (List.append_nil _).symm⟩, fun n h => ⟨n, h, Nat.le_refl _, by omega, by omega⟩⟩
theorem EndN.bud (h : EndN I R S I1 R1 S1 r N) : Bud R S R1 S1 N 0 := by
  obtain ⟨-, ⟨X, h1, h2⟩, -, h4, -, -, h5, -⟩ := h
  have h8 := slS_8 X h2
  have hl : S1.length = S.length + X.length := by rw [h1, List.length_append]
  have hs : slS S1 = slS S + slS X := by rw [h1, slS_app]
  refine ⟨⟨X, h1⟩, fun n ⟨b, b1, b2⟩ => ⟨n, ⟨b, (h4 53 0 (by decide) (by decide)).trans b1, by rw [h1]; exact b2.app⟩, Nat.le_refl _, by omega, by omega⟩⟩
theorem EndA.bud {sz : Nat} (h : EndA I R S I1 R1 S1 A1 l y ac sz N) (hl : l.length ≤ 40) : Bud R S R1 S1 N 1 := by
  obtain ⟨-, h1, -, -, -, -, -, -, -, h2⟩ := h
  refine ⟨h1, fun n hn => ?_⟩
  obtain ⟨n1, a1, a2, a3, a4⟩ := h2 n hn
  exact ⟨n1, a1, a2, by omega, by omega⟩
theorem CX.bumpR (h : CX R S I A n) (hr : RC R1 S1 I1 A1) (hk : MmK I I1) (h9 : ld I1 8 9 = ld I 8 9 + 1) : CX R1 S1 I1 A1 (n + 1) := by
  obtain ⟨-, -, ⟨h81, -⟩, ⟨c1, c2⟩, c3, c4⟩ := h
  refine ⟨hr, fun sc year code kn hs hg => ?_, ⟨(hk.ld rfl).trans h81, fun sc hours hs hg => ?_⟩, ⟨by omega, by omega⟩, by rw [hk.ld rfl]; omega, by rw [hk.ld rfl]; omega⟩
  · have := (hg.mm hk).2.2.2.2
    omega
  · have := (hg.mm hk).2.2
    omega
theorem mmL_in {a : Nat} (h : mmL.contains a = true) : 70 ≤ a ∧ a ≤ 83 := by
  have := List.contains_iff_mem.mp h
  unfold mmL at this
  simp only [List.mem_cons, List.not_mem_nil, or_false] at this
  omega
theorem q38 (hX : CX R S I A n) (hW : WF A) (hR : RM I A) (hn : n ≤ 100000) (hF : 800 < F) (i1 : inR x1) (i2 : inR x2)
    (hK : ∀ (ans : Int) I1 R1 S1 N c, FK I I1 → Bud R S R1 S1 N c → inR ans → (∀ ans' A1, ActB F A x1 x2 ans' A1 → ans' = ans ∧ A1 91 65 = A 91 65 + (c : Int) ∧ A1 91 67 + N ≤ A 91 67 ∧ CX R1 S1 I1 A1 (n + 1)) → K (oI ans) (bd L I1 R1 S1)) : CallI (d + 56) 38 [.ref 8, .int (oI x1), .int (oI x2)] (bd L I R S) K := by
  have hC := hX.1
  have hWC : WfC A := hW.2.2.2.2.2.2.2.2.2.2.1
  have hF1 := hW.2.2.2.2.2.2.2.1
  have hF3 : 0 ≤ A 91 67 ∧ A 91 67 ≤ 800 := hF1
  have hD1 := hW.2.2.2.2.2.2.2.2.1.1
  have ty := today_year hW.1
  have e1 : ld I 43 1 = A 91 67 := hC.at rfl
  have e2 : ld I 43 2 = A 91 65 := hC.at rfl
  have e8 : ld I 8 8 = A 91 0 := hC.at rfl
  have c9 := hX.2.2.2.1
  have neg : ∀ v : Int, inR v → (∀ ans' A1, ActB F A x1 x2 ans' A1 → ans' = v ∧ A1 = A) → K (oI v) (bd L I R S) := fun v hv h => hK v I R S 0 0 (FK.refl I) Bud.refl hv (fun ans' A1 ha => by
    obtain ⟨rfl, rfl⟩ := h ans' A1 ha
    exact ⟨rfl, by omega, by omega, hX.up (Nat.le_succ n)⟩)
  have neg2 : ¬ ((0 ≤ x1 ∧ x1 ≤ A 91 67) ∧ (Int.tdiv (A 91 0) 100 ≤ x2 ∧ x2 ≤ 7)) → K (oI (-2)) (bd L I R S) := fun hc => neg (-2) (inRd rfl) (fun ans' A1 ha => by
    rcases ha.1 with ⟨-, z1, z2⟩ | ⟨c, -⟩
    · exact ⟨z1, z2⟩
    · exact absurd c hc)
  refine e38 (d := d + 55) ?_
  rw [e1, e2, e8]
  refine ⟨i1, fun c1 => neg2 (fun h => by omega), fun c1 => ⟨fun c2 => neg2 (fun h => by omega), fun c2 => ⟨i2, ⟨by omega, by omega⟩, fun c3 => neg2 (fun h => by omega), fun c3 => ⟨fun c4 => neg2 (fun h => by omega), fun c4 => ⟨fun c5 => ?_, fun c5 => neg (-3) (inRd rfl) (fun ans' A1 ha => ?_)⟩⟩⟩⟩⟩
  · obtain ⟨N, rfl⟩ : ∃ N : Nat, x1 = (N : Int) := ⟨x1.toNat, by omega⟩
    obtain ⟨y, rfl⟩ : ∃ y : Nat, x2 = (y : Int) := ⟨x2.toNat, by omega⟩
    obtain ⟨ac, h65⟩ : ∃ ac : Nat, A 91 65 = (ac : Int) := ⟨(A 91 65).toNat, by omega⟩
    have eA : (A 91 65).toNat = ac := by omega
    have hN : (N : Int) ≤ A 91 67 := by omega
    have hy : Int.tdiv (A 91 0) 100 ≤ (y : Int) ∧ (y : Int) ≤ 7 := by omega
    obtain ⟨ansx, Ax, hx⟩ := act_ex hF hR hW i1 i2
    have hWx : WfC Ax := wcAct hW hx.1
    have h9 : ld (u2 I 8 9 (oI (ld I 8 9 + 1))) 8 9 = ld I 8 9 + 1 := by rw [ld_w (by unfold inR; omega), if_pos rfl]
    have hC' : RC R S (u2 I 8 9 (oI (ld I 8 9 + 1))) A := hC.scr rfl
    have h8 : ∀ a k, ¬ a = 8 → u2 I 8 9 (oI (ld I 8 9 + 1)) a k = I a k := fun a k ha => v2_ne ha
    generalize u2 I 8 9 (oI (ld I 8 9 + 1)) = I' at h9 hC' h8
    obtain ⟨-, -, -, -, o5, o6⟩ := hC.2.1
    rw [eA] at o5 o6
    have hk : ∀ I1, (∀ a k, a < 155 → ¬ (a = 46 ∨ a = 48 ∨ a = 49 ∨ a = 50 ∨ a = 54 ∨ a = 53 ∨ a = 43 ∨ a = 52 ∨ a = 57 ∨ a = 44) → I1 a k = I' a k) → FK I I1 ∧ MmK I I1 ∧ ld I1 8 9 = ld I 8 9 + 1 := fun I1 h => ⟨fun a k ha => (h a k (by omega) (by omega)).trans (h8 a k (by omega)), fun a k ha => by
      have := mmL_in ha
      exact (h a k (by omega) (by omega)).trans (h8 a k (by omega)), by
      unfold ld
      rw [h 8 9 (by decide) (by decide)]
      exact h9⟩
    have h66 : 0 ≤ A 91 66 ∧ A 91 66 ≤ 7200 := by omega
    refine k101 (d := d) (F := F) (A := A) (ac := ac) (sz := prS A ac) (N := N) (y := y) hC' hF (by omega) (by omega) h65 (by omega) ?_ (prS_le hWC ac (by omega)) (fun i hi => ?_) (fun r I1 R1 S1 hs hE => ?_) (fun r l hs => ?_)
    · show (I' 43 7).toInt = _
      rw [h8 43 7 (by decide)]
      exact o5
    · obtain ⟨a, j, h1, h2, rfl⟩ := prS_find ac hi
      obtain ⟨q, b1, b2⟩ := o6 a j h1 h2
      exact ⟨q, b1, b2.1⟩
    · obtain ⟨f1, f2, f3⟩ := hk I1 (fun a k ha hn => hE.2.2.1 a k ha (by omega))
      refine ⟨-1, I1, R1, S1, rfl, rfl, inRd rfl, hK (-1) I1 R1 S1 N 0 f1 hE.bud (inRd rfl) (fun ans' A1 ha => ?_)⟩
      obtain ⟨g1, g2⟩ := ha.no h65 (by omega) hN hs hy
      refine ⟨g1, ?_, ?_, hX.bumpR (rc_no hC' hWC h66 hE g2) f2 f3⟩
      · rw [g2.2.2.2.2.1]; omega
      · rw [g2.2.1]; omega
    · obtain ⟨-, hf⟩ := hx.fl hW h65 (by omega) hN hs hy
      have sa := hf.sa hWC h65
      refine ⟨Ax, hWx, hf.2.2.2.1, fun a => ?_, (prS_ag ac sa).symm, hf.2.2.2.2.2.1, fun o ho => ?_, fun j o ho => (hf.2.2.2.2.2.2.2.1 j o ho).1.k40, fun a j ha hj => ?_, fun I1 R1 S1 hE => ?_⟩
      · by_cases c : a = ac
        · rw [c, v2_eq]; exact hf.2.2.2.2.1
        · rw [v2_nk c]
          exact hf.1 138 a (by omega) (by omega) (by omega) (by omega)
      · obtain ⟨j, hj⟩ := List.mem_iff_getElem?.mp ho
        exact (hf.2.2.2.2.2.2.2.1 j o hj).2
      · have g := hWC.2 a (by omega)
        rw [← (sa a ha).1] at hj
        obtain ⟨q, b1, b2, b3, b4, b5, -⟩ := o6 a j ha hj
        have e4 := hf.st h65 (s := 40 * a + j) (by omega)
        have hl : ∀ k, ld I' q k = ld I q k := fun k => by unfold ld; rw [h8 q k (by have := b2.1; omega)]
        refine ⟨q, by rw [← prS_ag a (sa.sub (by omega))]; exact b1, b2, by rw [hl, e4.1]; exact b3, by rw [hl, e4.2.1]; exact b4, by rw [hl, b5, show (40 * a + j) / 40 = a by omega]⟩
      · obtain ⟨f1, f2, f3⟩ := hk I1 (fun a k ha hn => hE.2.2.1 a k ha (by unfold chI; omega))
        refine ⟨(ac : Int), I1, R1, S1, rfl, rfl, by unfold inR; omega, hK (ac : Int) I1 R1 S1 N 1 f1 (hE.bud hf.2.2.2.2.2.2.1) (by unfold inR; omega) (fun ans' A1 ha => ?_)⟩
        obtain ⟨g1, g2⟩ := ha.fl hW h65 (by omega) hN hs hy
        refine ⟨g1, ?_, ?_, hX.bumpR (rc_act hC' hWC (wcAct hW ha.1) hWx h65 h66.1 rfl hE g2 hf (by omega)) f2 f3⟩
        · rw [g2.2.2.2.1]; omega
        · rw [g2.2.1]; omega
  · rcases ha.1 with ⟨c, -, -⟩ | ⟨-, ⟨-, z1, z2⟩ | ⟨c, -⟩⟩
    · exact absurd ⟨⟨by omega, by omega⟩, by omega, by omega⟩ c
    · exact ⟨z1, z2⟩
    · exact absurd (show A 91 65 = 8 by have := hWC.1; omega) c
end
