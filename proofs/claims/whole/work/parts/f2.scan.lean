/-! the class: the scanner -/
section
variable {d n p q a b L m : Nat} {c v z x : Int} {is : List mIns} {ls st : List Value} {σ : mM} {Q : Option Value → mM → Prop} {I : mI} {R : mR} {S : mSh} {o : Option Nat}
theorem mOb_w (hs : σ.2.2[p]? = some (b + 4, n)) (hp : a < 2) (ha : a < n) : mOb σ p b a = true := by
  unfold mOb
  rw [hs, decide_eq_true hp]
  simp [ha]
theorem s50w (hs : (bd L I R S).2.2[p]? = some (b + 4, n)) (hp : a < 2) (ha : a < n) (hv : I p a = oI v) (h : Wp d is ls (.int (oI v) :: st) (bd L I R S) Q) : Wp d ((50, a, b, c) :: is) ls (.ref p :: st) (bd L I R S) Q := by
  refine r_50.mpr ⟨mOb_w hs hp ha, ?_⟩
  rw [bd_I, hv]; exact h
theorem s51w (hs : σ.2.2[p]? = some (b + 4, n)) (hp : a < 2) (ha : a < n) (hv : σ.2.1 p a = some q) (h : Wp d is ls (.ref q :: st) σ Q) : Wp d ((51, a, b, c) :: is) ls (.ref p :: st) σ Q := by
  refine r_51.mpr ⟨mOb_w hs hp ha, ?_⟩
  rw [hv]; exact h
theorem rc356x {x0 x1 : Int32} : mRcv 356 [.int x0, .int x1, .retAddr 1] σ = true := rfl
end
set_option maxRecDepth 4000 in
theorem e204 {d L : Nat} {I : Nat → Nat → Int32} {R : Nat → Nat → Option Nat} {S : List (Nat × Nat)} {K : mM → Prop}  {x0 : Int} {x1 : Int} (hE : inR x0 ∧ (((x0 < 0) → False) ∧ (¬ (x0 < 0) → inR x1 ∧ (((x0 < x1) → K (bd L I R S)) ∧ (¬ (x0 < x1) → False))))) : CallV (d + 1) 204 [.int (oI x0), .int (oI x1)] (bd L I R S) K := by
  refine cV_of (ls := [.int (oI x0), .int (oI x1)]) rfl ?_
  refine xG gb204 ?_
  refine s4 (x := x0) rfl ?_
  refine s4 (x := x1) rfl ?_
  refine s57 ?_
  refine sI rc356x rfl (Nat.le_of_ble_eq_true rfl) ?_
  refine cI_of (ls := [.int (oI x0), .int (oI x1), .retAddr 1]) rfl ?_
  refine xG gb356.1 ?_
  refine s4 (x := x0) rfl ?_
  obtain ⟨g1, hE⟩ := hE
  refine s69 g1 (fun c2 => ?_) (fun c2 => ?_)
  · replace hE := hE.1 c2
    refine xG gb356.2.1 ?_
    exact hE.elim
  · replace hE := hE.2 c2
    refine s4 (x := x0) rfl ?_
    refine s4 (x := x1) rfl ?_
    obtain ⟨g3, hE⟩ := hE
    refine s63 g1 g3 (fun c4 => ?_) (fun c4 => ?_)
    · replace hE := hE.1 c4
      refine xG gb356.2.2 ?_
      refine s4 (x := x0) rfl ?_
      refine s80 ?_
      refine rqI_of ?_
      refine s12i ?_
      refine s83 ?_
      exact rqV_of hE
    · replace hE := hE.2 c4
      refine s79 ?_
      refine xG gb356.2.1 ?_
      exact hE.elim
section
variable {d L : Nat} {I : mI} {R : mR} {S : mSh} {Q : Option Value → mM → Prop}
theorem k204 {x n : Int} {K : mM → Prop} (h : 0 ≤ x ∧ x < n) (hn : n ≤ 1000000) (hK : K (bd L I R S)) : CallV (d + 1) 204 [.int (oI x), .int (oI n)] (bd L I R S) K :=
  e204 (d := d) ⟨⟨by omega, by omega⟩, fun c => absurd c (by omega), fun _ => ⟨⟨by omega, by omega⟩, fun _ => hK, fun c => absurd h.2 c⟩⟩
def WrC (I : mI) : Prop := ld I 2 1 = 0 ∧ ∀ j : Nat, j < 328 → ld I 3 j = wW j
theorem and255 {x : Int} (h : 0 ≤ x ∧ x ≤ 127) : iAnd x 255 = x := by
  have g : ∀ n : Fin 128, iAnd (n.val : Int) 255 = (n.val : Int) := by decide +kernel
  have := g ⟨x.toNat, by omega⟩
  dsimp only at this
  rw [show ((x.toNat : Nat) : Int) = x by omega] at this
  exact this
theorem chr_id {x : Int} (h : 0 ≤ x ∧ x ≤ 127) : iC (iAnd x 255) = x := by rw [and255 h]; exact iC_id ⟨by omega, by omega⟩
theorem wW_in : ∀ j, j < 328 → 32 ≤ wW j ∧ wW j ≤ 122 := by decide +kernel
theorem lt_step {T : Nat → Int} {N q : Nat} (h : q < N ∧ 97 ≤ T q ∧ T q ≤ 122) : lt T N q = lt T N (q + 1) := by
  obtain ⟨f, hf⟩ : ∃ f, N - q = f + 1 := ⟨N - q - 1, by omega⟩
  unfold lt
  rw [hf, show N - (q + 1) = f by omega]
  show (if q < N ∧ 97 ≤ T q ∧ T q ≤ 122 then ltk T N f (q + 1) else q) = _
  rw [if_pos h]
theorem dg_step {T : Nat → Int} {N q : Nat} (h : q < N ∧ 48 ≤ T q ∧ T q ≤ 57) : dg T N q = dg T N (q + 1) := by
  obtain ⟨f, hf⟩ : ∃ f, N - q = f + 1 := ⟨N - q - 1, by omega⟩
  unfold dg
  rw [hf, show N - (q + 1) = f by omega]
  show (if q < N ∧ 48 ≤ T q ∧ T q ≤ 57 then dgk T N f (q + 1) else q) = _
  rw [if_pos h]
end
set_option maxRecDepth 4000 in
theorem e200 {d L : Nat} {I : Nat → Nat → Int32} {R : Nat → Nat → Option Nat} {S : List (Nat × Nat)} {K : Int32 → mM → Prop}   (hE : ((-128) ≤ ld I 2 1 ∧ ld I 2 1 ≤ 127) ∧ (K (oI (iShr 328 (ld I 2 1))) (bd L I R S))) : CallI (d + 1) 200 [.ref 2] (bd L I R S) K := by
  refine cI_of (ls := [.ref 2]) rfl ?_
  refine xG gb200 ?_
  refine s6 (p := 2) rfl ?_
  refine s51w sh2 (by decide) (by decide) rfl ?_
  refine s48 sh3 (by decide) ?_
  refine s6 (p := 2) rfl ?_
  refine sI rc201_2 rfl (Nat.le_of_ble_eq_true rfl) ?_
  refine cI_of (ls := [.ref 2]) rfl ?_
  refine xG gb201.1 ?_
  refine s54 ?_
  refine s67 (inRd rfl) (fun c1 => absurd c1 (by decide)) (fun _ => ?_)
  refine s6 (p := 2) rfl ?_
  refine s50w (v := ld I 2 1) sh2 (by decide) (by decide) (oI_ld _ _ _) ?_
  refine s60 ?_
  refine xG gb201.2.2 ?_
  obtain ⟨g2, hE⟩ := hE
  refine s85 g2 ?_
  refine rqI_of ?_
  refine s23 ?_
  refine s80 ?_
  exact rqI_of hE
set_option maxRecDepth 4000 in
theorem e202 {d L : Nat} {I : Nat → Nat → Int32} {R : Nat → Nat → Option Nat} {S : List (Nat × Nat)} {K : Int32 → mM → Prop}  {x1 : Int} (hE : ((ld I 2 1 = 0) → (0 ≤ x1 ∧ x1 < 328) ∧ ((0 ≤ x1 ∧ x1 < 328) ∧ ((0 ≤ iC (iAnd (ld I 3 x1.toNat) 255) ∧ iC (iAnd (ld I 3 x1.toNat) 255) ≤ 65535) ∧ ((0 ≤ iC (iAnd (ld I 3 x1.toNat) 255) ∧ iC (iAnd (ld I 3 x1.toNat) 255) ≤ 65535) ∧ (K (oI (iC (iAnd (ld I 3 x1.toNat) 255))) (bd L I R S)))))) ∧ (¬ (ld I 2 1 = 0) → False)) : CallI (d + 3) 202 [.ref 2, .int (oI x1)] (bd L I R S) K := by
  refine cI_of (ls := [.ref 2, .int (oI x1)]) rfl ?_
  refine xG gb202.1 ?_
  refine s6 (p := 2) rfl ?_
  refine sI rc203_2 rfl (Nat.le_of_ble_eq_true rfl) ?_
  refine cI_of (ls := [.ref 2]) rfl ?_
  refine xG gb203.1 ?_
  refine s54 ?_
  refine s67 (inRd rfl) (fun c1 => absurd c1 (by decide)) (fun _ => ?_)
  refine s6 (p := 2) rfl ?_
  refine s50w (v := ld I 2 1) sh2 (by decide) (by decide) (oI_ld _ _ _) ?_
  refine s68 (ld_inR _ _ _) (fun c2 => ?_) (fun c2 => ?_)
  · replace hE := hE.1 c2
    refine s0 ?_
    refine s60 ?_
    refine xG gb203.2.2 ?_
    refine s84 (by decide) ?_
    refine rqI_of ?_
    refine s67 (inRd rfl) (fun c3 => absurd c3 (by decide)) (fun _ => ?_)
    refine s6 (p := 2) rfl ?_
    refine s51w sh2 (by decide) (by decide) rfl ?_
    refine s4 (x := x1) rfl ?_
    refine sI rc348 rfl (Nat.le_of_ble_eq_true rfl) ?_
    refine cI_of (ls := [.ref 3, .int (oI x1)]) rfl ?_
    refine xG gb348 ?_
    refine s4 (x := x1) rfl ?_
    refine s6 (p := 3) rfl ?_
    refine s48 sh3 (by decide) ?_
    obtain ⟨g4, hE⟩ := hE
    refine sV rc204 rfl (Nat.le_of_ble_eq_true rfl) ?_
    refine k204 g4 (by decide) ?_
    refine s6 (p := 3) rfl ?_
    refine s4 (x := x1) rfl ?_
    obtain ⟨g5, hE⟩ := hE
    refine s41 (v := ld I 3 x1.toNat) sh3 g5 rfl (oI_ld _ _ _) ?_
    refine s0 ?_
    refine s25 ?_
    refine s29 ?_
    obtain ⟨g6, hE⟩ := hE
    refine s86 g6 ?_
    refine rqI_of ?_
    obtain ⟨g7, hE⟩ := hE
    refine s86 g7 ?_
    exact rqI_of hE
  · replace hE := hE.2 c2
    refine xG gb203.2.1 ?_
    refine s0 ?_
    refine s79 ?_
    refine xG gb203.2.2 ?_
    refine s84 (by decide) ?_
    refine rqI_of ?_
    refine s67 (inRd rfl) (fun _ => ?_) (fun c8 => absurd (by decide) c8)
    refine xG gb202.2 ?_
    exact hE.elim
section
variable {d L : Nat} {I : mI} {R : mR} {S : mSh} {Q : Option Value → mM → Prop} {K : Int32 → mM → Prop}
theorem k200w (h : ld I 2 1 = 0) (hK : K (oI 328) (bd L I R S)) : CallI (d + 1) 200 [.ref 2] (bd L I R S) K := by
  refine e200 (d := d) ⟨⟨by omega, by omega⟩, ?_⟩
  rw [h]; exact hK
theorem k202w {x : Int} (hW : WrC I) (hx : 0 ≤ x ∧ x < 328) (hK : K (oI (wW x.toNat)) (bd L I R S)) : CallI (d + 3) 202 [.ref 2, .int (oI x)] (bd L I R S) K := by
  have h1 := hW.2 x.toNat (by omega)
  have h2 := wW_in x.toNat (by omega)
  refine e202 (d := d) ⟨fun _ => ⟨hx, hx, ?_⟩, fun c => c hW.1⟩
  rw [h1, chr_id ⟨by omega, by omega⟩]
  exact ⟨⟨by omega, by omega⟩, ⟨by omega, by omega⟩, hK⟩
end
def h110_2 (d L : Nat) (I : Nat → Nat → Int32) (R : Nat → Nat → Option Nat) (S : List (Nat × Nat)) (Q : Option Value → mM → Prop) (x1 : Int) (w2 : Value) (x3 : Int) (x4 : Int) (w5 : Value) : Prop := Wp d (gb 110 2) [.ref 45, .int (oI x1), w2, .int (oI x3), .int (oI x4), w5] [] (bd L I R S) Q
def h110_3 (d L : Nat) (I : Nat → Nat → Int32) (R : Nat → Nat → Option Nat) (S : List (Nat × Nat)) (Q : Option Value → mM → Prop) (x1 : Int) (w2 : Value) (x3 : Int) (x4 : Int) (x5 : Int) : Prop := Wp d (gb 110 3) [.ref 45, .int (oI x1), w2, .int (oI x3), .int (oI x4), .int (oI x5)] [] (bd L I R S) Q
set_option maxRecDepth 4000 in
theorem e110_2 {d L : Nat} {I : Nat → Nat → Int32} {R : Nat → Nat → Option Nat} {S : List (Nat × Nat)} {Q : Option Value → mM → Prop}  {x1 : Int} {w2 : Value} {x3 : Int} {x4 : Int} {w5 : Value} (hE : ld I 2 1 = 0 ∧ (inR (x4 + 8) ∧ (((328 < x4 + 8) → Q (some (.int (oI 1))) (bd L I R S)) ∧ (¬ (328 < x4 + 8) → h110_3 (d + 2) L I R S Q x1 w2 x3 x4 0)))) : h110_2 (d + 2) L I R S Q x1 w2 x3 x4 w5 := by
  unfold h110_2
  refine xG gb110.2.2.1 ?_
  refine s4 (x := x4) rfl ?_
  refine s0 ?_
  refine s16 ?_
  refine s56 ?_
  obtain ⟨g1, hE⟩ := hE
  refine sI rc200_2 rfl (Nat.le_of_ble_eq_true rfl) ?_
  refine k200w g1 ?_
  obtain ⟨g2, hE⟩ := hE
  refine s65 g2 (inRd rfl) (fun c3 => ?_) (fun c3 => ?_)
  · replace hE := hE.1 c3
    refine xG gb110.2.2.2.2.2.2.2 ?_
    refine s0 ?_
    refine s80 ?_
    exact hE
  · replace hE := hE.2 c3
    refine s0 ?_
    refine s7 (ls' := [.ref 45, .int (oI x1), w2, .int (oI x3), .int (oI x4), .int (oI 0)]) (Nat.le_of_ble_eq_true rfl) rfl ?_
    refine s79 ?_
    exact hE
set_option maxRecDepth 4000 in
theorem e110_3 {d L : Nat} {I : Nat → Nat → Int32} {R : Nat → Nat → Option Nat} {S : List (Nat × Nat)} {Q : Option Value → mM → Prop}  {x1 : Int} {w2 : Value} {x3 : Int} {x4 : Int} {x5 : Int} (hE : inR x5 ∧ (inR x3 ∧ (((x5 < x3) → WrC I ∧ ((0 ≤ x4 + x5 ∧ x4 + x5 < 328) ∧ ((0 ≤ x1 + x5 ∧ x1 + x5 < 800) ∧ (inR (wW (x4 + x5).toNat) ∧ (((wW (x4 + x5).toNat = ld I 45 (x1 + x5).toNat) → h110_3 (d + 4) L I R S Q x1 w2 x3 x4 (x5 + 1)) ∧ (¬ (wW (x4 + x5).toNat = ld I 45 (x1 + x5).toNat) → ((x5 = x3) → ((x3 = 8) → inR x4 ∧ (Q (some (.int (oI (128 + (Int.tdiv x4 8))))) (bd L I R S))) ∧ (¬ (x3 = 8) → (0 ≤ x4 + x3 ∧ x4 + x3 < 328) ∧ (inR (wW (x4 + x3).toNat) ∧ (((wW (x4 + x3).toNat = 32) → inR x4 ∧ (Q (some (.int (oI (128 + (Int.tdiv x4 8))))) (bd L I R S))) ∧ (¬ (wW (x4 + x3).toNat = 32) → h110_2 (d + 4) L I R S Q x1 w2 x3 (x4 + 8) (.int (oI x5))))))) ∧ (¬ (x5 = x3) → h110_2 (d + 4) L I R S Q x1 w2 x3 (x4 + 8) (.int (oI x5))))))))) ∧ (¬ (x5 < x3) → ((x5 = x3) → ((x3 = 8) → inR x4 ∧ (Q (some (.int (oI (128 + (Int.tdiv x4 8))))) (bd L I R S))) ∧ (¬ (x3 = 8) → WrC I ∧ ((0 ≤ x4 + x3 ∧ x4 + x3 < 328) ∧ (inR (wW (x4 + x3).toNat) ∧ (((wW (x4 + x3).toNat = 32) → inR x4 ∧ (Q (some (.int (oI (128 + (Int.tdiv x4 8))))) (bd L I R S))) ∧ (¬ (wW (x4 + x3).toNat = 32) → h110_2 (d + 4) L I R S Q x1 w2 x3 (x4 + 8) (.int (oI x5)))))))) ∧ (¬ (x5 = x3) → h110_2 (d + 4) L I R S Q x1 w2 x3 (x4 + 8) (.int (oI x5))))))) : h110_3 (d + 4) L I R S Q x1 w2 x3 x4 x5 := by
  unfold h110_3
  refine xG gb110.2.2.2.1 ?_
  refine s4 (x := x5) rfl ?_
  refine s4 (x := x3) rfl ?_
  obtain ⟨g1, hE⟩ := hE
  obtain ⟨g2, hE⟩ := hE
  refine s64 g1 g2 (fun c3 => ?_) (fun c3 => ?_)
  · replace hE := hE.1 c3
    refine s56 ?_
    refine s4 (x := x4) rfl ?_
    refine s4 (x := x5) rfl ?_
    refine s16 ?_
    obtain ⟨g4, hE⟩ := hE
    obtain ⟨g5, hE⟩ := hE
    refine sI rc202_2 rfl (Nat.le_of_ble_eq_true rfl) ?_
    refine k202w g4 g5 ?_
    refine s6 (p := 45) rfl ?_
    refine s4 (x := x1) rfl ?_
    refine s4 (x := x5) rfl ?_
    refine s16 ?_
    obtain ⟨g6, hE⟩ := hE
    refine s41 (v := ld I 45 (x1 + x5).toNat) sh45 g6 rfl (oI_ld _ _ _) ?_
    obtain ⟨g7, hE⟩ := hE
    refine s62 g7 (ld_inR _ _ _) (fun c8 => ?_) (fun c8 => ?_)
    · replace hE := hE.1 c8
      refine s10 (x := x5) (ls' := [.ref 45, .int (oI x1), w2, .int (oI x3), .int (oI x4), .int (oI (x5 + 1))]) rfl rfl ?_
      refine s60 ?_
      exact hE
    · replace hE := hE.2 c8
      refine xG gb110.2.2.2.2.1 ?_
      refine s4 (x := x5) rfl ?_
      refine s4 (x := x3) rfl ?_
      refine s62 g1 g2 (fun c9 => ?_) (fun c9 => ?_)
      · replace hE := hE.1 c9
        refine s4 (x := x3) rfl ?_
        refine s0 ?_
        refine s61 g2 (inRd rfl) (fun c10 => ?_) (fun c10 => ?_)
        · replace hE := hE.1 c10
          refine xG gb110.2.2.2.2.2.1 ?_
          refine s0 ?_
          refine s4 (x := x4) rfl ?_
          refine s0 ?_
          obtain ⟨g11, hE⟩ := hE
          refine s19 g11 ⟨(inRd rfl), by decide⟩ ?_
          refine s16 ?_
          refine s80 ?_
          exact hE
        · replace hE := hE.2 c10
          refine s56 ?_
          refine s4 (x := x4) rfl ?_
          refine s4 (x := x3) rfl ?_
          refine s16 ?_
          obtain ⟨g12, hE⟩ := hE
          refine sI rc202_2 rfl (Nat.le_of_ble_eq_true rfl) ?_
          refine k202w g4 g12 ?_
          refine s0 ?_
          obtain ⟨g13, hE⟩ := hE
          refine s62 g13 (inRd rfl) (fun c14 => ?_) (fun c14 => ?_)
          · replace hE := hE.1 c14
            refine s79 ?_
            refine xG gb110.2.2.2.2.2.1 ?_
            refine s0 ?_
            refine s4 (x := x4) rfl ?_
            refine s0 ?_
            obtain ⟨g15, hE⟩ := hE
            refine s19 g15 ⟨(inRd rfl), by decide⟩ ?_
            refine s16 ?_
            refine s80 ?_
            exact hE
          · replace hE := hE.2 c14
            refine xG gb110.2.2.2.2.2.2.1 ?_
            refine s10 (x := x4) (ls' := [.ref 45, .int (oI x1), w2, .int (oI x3), .int (oI (x4 + 8)), .int (oI x5)]) rfl rfl ?_
            refine s60 ?_
            exact hE
      · replace hE := hE.2 c9
        refine xG gb110.2.2.2.2.2.2.1 ?_
        refine s10 (x := x4) (ls' := [.ref 45, .int (oI x1), w2, .int (oI x3), .int (oI (x4 + 8)), .int (oI x5)]) rfl rfl ?_
        refine s60 ?_
        exact hE
  · replace hE := hE.2 c3
    refine xG gb110.2.2.2.2.1 ?_
    refine s4 (x := x5) rfl ?_
    refine s4 (x := x3) rfl ?_
    refine s62 g1 g2 (fun c16 => ?_) (fun c16 => ?_)
    · replace hE := hE.1 c16
      refine s4 (x := x3) rfl ?_
      refine s0 ?_
      refine s61 g2 (inRd rfl) (fun c17 => ?_) (fun c17 => ?_)
      · replace hE := hE.1 c17
        refine xG gb110.2.2.2.2.2.1 ?_
        refine s0 ?_
        refine s4 (x := x4) rfl ?_
        refine s0 ?_
        obtain ⟨g18, hE⟩ := hE
        refine s19 g18 ⟨(inRd rfl), by decide⟩ ?_
        refine s16 ?_
        refine s80 ?_
        exact hE
      · replace hE := hE.2 c17
        refine s56 ?_
        refine s4 (x := x4) rfl ?_
        refine s4 (x := x3) rfl ?_
        refine s16 ?_
        obtain ⟨g19, hE⟩ := hE
        obtain ⟨g20, hE⟩ := hE
        refine sI rc202_2 rfl (Nat.le_of_ble_eq_true rfl) ?_
        refine k202w g19 g20 ?_
        refine s0 ?_
        obtain ⟨g21, hE⟩ := hE
        refine s62 g21 (inRd rfl) (fun c22 => ?_) (fun c22 => ?_)
        · replace hE := hE.1 c22
          refine s79 ?_
          refine xG gb110.2.2.2.2.2.1 ?_
          refine s0 ?_
          refine s4 (x := x4) rfl ?_
          refine s0 ?_
          obtain ⟨g23, hE⟩ := hE
          refine s19 g23 ⟨(inRd rfl), by decide⟩ ?_
          refine s16 ?_
          refine s80 ?_
          exact hE
        · replace hE := hE.2 c22
          refine xG gb110.2.2.2.2.2.2.1 ?_
          refine s10 (x := x4) (ls' := [.ref 45, .int (oI x1), w2, .int (oI x3), .int (oI (x4 + 8)), .int (oI x5)]) rfl rfl ?_
          refine s60 ?_
          exact hE
    · replace hE := hE.2 c16
      refine xG gb110.2.2.2.2.2.2.1 ?_
      refine s10 (x := x4) (ls' := [.ref 45, .int (oI x1), w2, .int (oI x3), .int (oI (x4 + 8)), .int (oI x5)]) rfl rfl ?_
      refine s60 ?_
      exact hE
set_option maxRecDepth 4000 in
theorem e110 {d L : Nat} {I : Nat → Nat → Int32} {R : Nat → Nat → Option Nat} {S : List (Nat × Nat)} {K : Int32 → mM → Prop}  {x1 : Int} {x2 : Int} (hE : inR (x2 - x1) ∧ (((8 < x2 - x1) → K (oI 1) (bd L I R S)) ∧ (¬ (8 < x2 - x1) → h110_2 d L I R S (rqI K) x1 (.int (oI x2)) (x2 - x1) 0 mUn))) : CallI d 110 [.ref 45, .int (oI x1), .int (oI x2)] (bd L I R S) K := by
  refine cI_of (ls := [.ref 45, .int (oI x1), .int (oI x2), mUn, mUn, mUn]) rfl ?_
  refine xG gb110.1 ?_
  refine s4 (x := x2) rfl ?_
  refine s4 (x := x1) rfl ?_
  refine s17 ?_
  refine s7 (ls' := [.ref 45, .int (oI x1), .int (oI x2), .int (oI (x2 - x1)), mUn, mUn]) (Nat.le_of_ble_eq_true rfl) rfl ?_
  refine s4 (x := x2 - x1) rfl ?_
  refine s0 ?_
  obtain ⟨g1, hE⟩ := hE
  refine s66 g1 (inRd rfl) (fun c2 => ?_) (fun c2 => ?_)
  · replace hE := hE.1 c2
    refine s0 ?_
    refine s80 ?_
    exact rqI_of hE
  · replace hE := hE.2 c2
    refine xG gb110.2.1 ?_
    refine s0 ?_
    refine s7 (ls' := [.ref 45, .int (oI x1), .int (oI x2), .int (oI (x2 - x1)), .int (oI 0), mUn]) (Nat.le_of_ble_eq_true rfl) rfl ?_
    refine s79 ?_
    exact hE
section
variable {d L : Nat} {I : mI} {R : mR} {S : mSh} {Q : Option Value → mM → Prop} {K : Int32 → mM → Prop} {q k i : Nat} {w2 : Value}
theorem l110_3 (hW : WrC I) (hk : k ≤ 8) (hi : i < 41) (hq : q + k ≤ 800) (hy : wm (fun j => ld I 45 j) q k i → Q (some (.int (oI (128 + (i : Int))))) (bd L I R S)) (hn : ¬ wm (fun j => ld I 45 j) q k i → ∀ w5, h110_2 (d + 4) L I R S Q q w2 k (8 * (i : Int) + 8) w5) : ∀ (f j : Nat), j + f = k → (∀ j', j' < j → wW (8 * i + j') = ld I 45 (q + j')) → h110_3 (d + 4) L I R S Q q w2 k (8 * (i : Int)) j := by
  intro f
  induction f with
  | zero =>
    intro j hj hm
    obtain rfl : j = k := by omega
    have ix : (8 * (i : Int) + (j : Int)).toNat = 8 * i + j := by omega
    have it : (128 : Int) + Int.tdiv (8 * (i : Int)) 8 = 128 + (i : Int) := by rw [Int.tdiv_eq_ediv_of_nonneg (by omega)]; omega
    refine e110_3 (d := d) ?_
    rw [ix, it]
    refine ⟨⟨by omega, by omega⟩, ⟨by omega, by omega⟩, fun c => absurd c (by omega), fun _ => ⟨fun _ => ⟨fun c8 => ⟨⟨by omega, by omega⟩, hy ⟨hm, Or.inl (by omega)⟩⟩, fun c8 => ⟨hW, ⟨by omega, by omega⟩, ?_, fun c => ⟨⟨by omega, by omega⟩, hy ⟨hm, Or.inr c⟩⟩, fun c => hn (fun g => ?_) _⟩⟩, fun c => absurd rfl c⟩⟩
    · have := wW_in (8 * i + j) (by omega); exact ⟨by omega, by omega⟩
    · rcases g.2 with g | g
      · exact c8 (by omega)
      · exact c g
  | succ f ih =>
    intro j hj hm
    have ix : (8 * (i : Int) + (j : Int)).toNat = 8 * i + j := by omega
    have ix2 : ((q : Int) + (j : Int)).toNat = q + j := by omega
    refine e110_3 (d := d) ?_
    rw [ix, ix2]
    refine ⟨⟨by omega, by omega⟩, ⟨by omega, by omega⟩, fun _ => ⟨hW, ⟨by omega, by omega⟩, ⟨by omega, by omega⟩, ?_, fun c => ?_, fun c => ⟨fun g => absurd g (by omega), fun _ => hn (fun g => c (g.1 j (by omega))) _⟩⟩, fun c => absurd (show (j : Int) < k by omega) c⟩
    · have := wW_in (8 * i + j) (by omega); exact ⟨by omega, by omega⟩
    · exact ih (j + 1) (by omega) (fun j' h' => by
        by_cases e : j' = j
        · subst e; exact c
        · exact hm j' (by omega))
theorem l110_2 (hW : WrC I) (hk : k ≤ 8) (hq : q + k ≤ 800) {v : Int} (hQ : Q (some (.int (oI v))) (bd L I R S)) : ∀ (f i : Nat) (w5 : Value), i + f = 41 → wsF (fun j => ld I 45 j) q k f i = v → h110_2 (d + 4) L I R S Q q w2 k (8 * (i : Int)) w5 := by
  intro f
  induction f with
  | zero =>
    intro i w5 hi hv
    have e0 : wsF (fun j => ld I 45 j) q k 0 i = 1 := rfl
    exact e110_2 (d := d + 2) ⟨hW.1, ⟨by omega, by omega⟩, fun _ => by rw [← e0, hv]; exact hQ, fun c => absurd (show (328 : Int) < 8 * (i : Int) + 8 by omega) c⟩
  | succ f ih =>
    intro i w5 hi hv
    have e1 : wsF (fun j => ld I 45 j) q k (f + 1) i = if wm (fun j => ld I 45 j) q k i then 128 + (i : Int) else wsF (fun j => ld I 45 j) q k f (i + 1) := rfl
    rw [e1] at hv
    refine e110_2 (d := d + 2) ⟨hW.1, ⟨by omega, by omega⟩, fun c => absurd c (by omega), fun _ => ?_⟩
    refine l110_3 hW hk (by omega) hq (fun g => ?_) (fun g w5 => ?_) k 0 (by omega) (fun j' h' => absurd h' (by omega))
    · rw [if_pos g] at hv; rw [hv]; exact hQ
    · rw [if_neg g] at hv
      have := ih (i + 1) w5 (by omega) hv
      rw [show 8 * ((i + 1 : Nat) : Int) = 8 * (i : Int) + 8 by omega] at this
      exact this
theorem k110 {x2 : Int} (hW : WrC I) (hx : x2 = ((q + k : Nat) : Int)) (hq : q + k ≤ 800) (hK : K (oI (wS (fun j => ld I 45 j) q k)) (bd L I R S)) : CallI (d + 4) 110 [.ref 45, .int (oI (q : Int)), .int (oI x2)] (bd L I R S) K := by
  have e : x2 - (q : Int) = (k : Int) := by omega
  refine e110 (d := d + 4) ?_
  rw [e]
  unfold wS at hK
  refine ⟨⟨by omega, by omega⟩, fun c => ?_, fun c => ?_⟩
  · rw [if_pos (show 8 < k by omega)] at hK; exact hK
  · rw [if_neg (show ¬ 8 < k by omega)] at hK
    exact l110_2 hW (by omega) hq (rqI_of hK) 41 0 _ rfl rfl
end
def h112_2 (d L : Nat) (I : Nat → Nat → Int32) (R : Nat → Nat → Option Nat) (S : List (Nat × Nat)) (Q : Option Value → mM → Prop) (x2 : Int) (x3 : Int) (x4 : Int) (x5 : Int) : Prop := Wp d (gb 112 2) [.ref 46, .ref 45, .int (oI x2), .int (oI x3), .int (oI x4), .int (oI x5)] [] (bd L I R S) Q
set_option maxRecDepth 4000 in
theorem e112_2 {d L : Nat} {I : Nat → Nat → Int32} {R : Nat → Nat → Option Nat} {S : List (Nat × Nat)} {Q : Option Value → mM → Prop}  {x2 : Int} {x3 : Int} {x4 : Int} {x5 : Int} (hE : inR x5 ∧ (inR x3 ∧ (((x5 < x3) → (0 ≤ x5 ∧ x5 < 800) ∧ (h112_2 (d + 1) L I R S Q x2 x3 (((x4 * 10) + (ld I 45 x5.toNat)) - 48) (x5 + 1))) ∧ (¬ (x5 < x3) → ((ld I 46 6 < 801) → (0 ≤ ld I 46 6 ∧ ld I 46 6 < 801) ∧ (Q none (bd L (u2 (u2 (u2 (u2 I 48 (ld I 46 6).toNat (oI 2)) 49 (ld I 46 6).toNat (oI x4)) 50 (ld I 46 6).toNat (oI x2)) 46 6 (oI (ld I 46 6 + 1))) R S))) ∧ (¬ (ld I 46 6 < 801) → Q none (bd L I R S)))))) : h112_2 (d + 1) L I R S Q x2 x3 x4 x5 := by
  unfold h112_2
  refine xG gb112.2.2.1 ?_
  refine s4 (x := x5) rfl ?_
  refine s4 (x := x3) rfl ?_
  obtain ⟨g1, hE⟩ := hE
  obtain ⟨g2, hE⟩ := hE
  refine s64 g1 g2 (fun c3 => ?_) (fun c3 => ?_)
  · replace hE := hE.1 c3
    refine s4 (x := x4) rfl ?_
    refine s0 ?_
    refine s18 ?_
    refine s6 (p := 45) rfl ?_
    refine s4 (x := x5) rfl ?_
    obtain ⟨g4, hE⟩ := hE
    refine s41 (v := ld I 45 x5.toNat) sh45 g4 rfl (oI_ld _ _ _) ?_
    refine s16 ?_
    refine s0 ?_
    refine s17 ?_
    refine s7 (ls' := [.ref 46, .ref 45, .int (oI x2), .int (oI x3), .int (oI (((x4 * 10) + (ld I 45 x5.toNat)) - 48)), .int (oI x5)]) (Nat.le_of_ble_eq_true rfl) rfl ?_
    refine s10 (x := x5) (ls' := [.ref 46, .ref 45, .int (oI x2), .int (oI x3), .int (oI (((x4 * 10) + (ld I 45 x5.toNat)) - 48)), .int (oI (x5 + 1))]) rfl rfl ?_
    refine s60 ?_
    exact hE
  · replace hE := hE.2 c3
    refine xG gb112.2.2.2 ?_
    refine s6 (p := 46) rfl ?_
    refine s0 ?_
    refine s4 (x := x4) rfl ?_
    refine s4 (x := x2) rfl ?_
    refine sV rc111 rfl (Nat.le_of_ble_eq_true rfl) ?_
    refine cV_of (ls := [.ref 46, .int (oI 2), .int (oI x4), .int (oI x2)]) rfl ?_
    refine xG gb111.1 ?_
    refine s6 (p := 46) rfl ?_
    refine s50 (v := ld I 46 6) sh46 (by decide) (by decide) (oI_ld _ _ _) ?_
    refine s6 (p := 46) rfl ?_
    refine s51 sh46 (by decide) (by decide) rf46_3 ?_
    refine s48 sh48 (by decide) ?_
    refine s64 (ld_inR _ _ _) (inRd rfl) (fun c5 => ?_) (fun c5 => ?_)
    · replace hE := hE.1 c5
      refine s6 (p := 46) rfl ?_
      refine s51 sh46 (by decide) (by decide) rf46_3 ?_
      refine s6 (p := 46) rfl ?_
      refine s50 (v := ld I 46 6) sh46 (by decide) (by decide) (oI_ld _ _ _) ?_
      refine s4 (x := 2) rfl ?_
      obtain ⟨g6, hE⟩ := hE
      refine s44 sh48 (by decide) g6 rfl ?_
      refine s6 (p := 46) rfl ?_
      refine s51 sh46 (by decide) (by decide) rf46_4 ?_
      refine s6 (p := 46) rfl ?_
      refine s50 (v := ld I 46 6) sh46 (by decide) (by decide) ((v2_ne (by decide)).trans (oI_ld _ _ _)) ?_
      refine s4 (x := x4) rfl ?_
      refine s44 sh49 (by decide) g6 rfl ?_
      refine s6 (p := 46) rfl ?_
      refine s51 sh46 (by decide) (by decide) rf46_5 ?_
      refine s6 (p := 46) rfl ?_
      refine s50 (v := ld I 46 6) sh46 (by decide) (by decide) ((v2_ne (by decide)).trans ((v2_ne (by decide)).trans (oI_ld _ _ _))) ?_
      refine s4 (x := x2) rfl ?_
      refine s44 sh50 (by decide) g6 rfl ?_
      refine s6 (p := 46) rfl ?_
      refine s13r ?_
      refine s50 (v := ld I 46 6) sh46 (by decide) (by decide) ((v2_ne (by decide)).trans ((v2_ne (by decide)).trans ((v2_ne (by decide)).trans (oI_ld _ _ _)))) ?_
      refine s0 ?_
      refine s16 ?_
      refine s52 sh46 (by decide) (by decide) ?_
      refine s79 ?_
      refine xG gb111.2 ?_
      refine s83 ?_
      refine rqV_of ?_
      refine s83 ?_
      exact hE
    · replace hE := hE.2 c5
      refine xG gb111.2 ?_
      refine s83 ?_
      refine rqV_of ?_
      refine s83 ?_
      exact hE
set_option maxRecDepth 4000 in
theorem e112 {d L : Nat} {I : Nat → Nat → Int32} {R : Nat → Nat → Option Nat} {S : List (Nat × Nat)} {K : mM → Prop}  {x2 : Int} {x3 : Int} (hE : inR (x3 - x2) ∧ (((4 < x3 - x2) → ((ld I 46 6 < 801) → (0 ≤ ld I 46 6 ∧ ld I 46 6 < 801) ∧ (K (bd L (u2 (u2 (u2 (u2 I 48 (ld I 46 6).toNat (oI 1)) 49 (ld I 46 6).toNat (oI 0)) 50 (ld I 46 6).toNat (oI x2)) 46 6 (oI (ld I 46 6 + 1))) R S))) ∧ (¬ (ld I 46 6 < 801) → K (bd L I R S))) ∧ (¬ (4 < x3 - x2) → h112_2 (d + 1) L I R S (rqV K) x2 x3 0 x2))) : CallV (d + 1) 112 [.ref 46, .ref 45, .int (oI x2), .int (oI x3)] (bd L I R S) K := by
  refine cV_of (ls := [.ref 46, .ref 45, .int (oI x2), .int (oI x3), mUn, mUn]) rfl ?_
  refine xG gb112.1 ?_
  refine s4 (x := x3) rfl ?_
  refine s4 (x := x2) rfl ?_
  refine s17 ?_
  refine s0 ?_
  obtain ⟨g1, hE⟩ := hE
  refine s66 g1 (inRd rfl) (fun c2 => ?_) (fun c2 => ?_)
  · replace hE := hE.1 c2
    refine s6 (p := 46) rfl ?_
    refine s0 ?_
    refine s0 ?_
    refine s4 (x := x2) rfl ?_
    refine sV rc111 rfl (Nat.le_of_ble_eq_true rfl) ?_
    refine cV_of (ls := [.ref 46, .int (oI 1), .int (oI 0), .int (oI x2)]) rfl ?_
    refine xG gb111.1 ?_
    refine s6 (p := 46) rfl ?_
    refine s50 (v := ld I 46 6) sh46 (by decide) (by decide) (oI_ld _ _ _) ?_
    refine s6 (p := 46) rfl ?_
    refine s51 sh46 (by decide) (by decide) rf46_3 ?_
    refine s48 sh48 (by decide) ?_
    refine s64 (ld_inR _ _ _) (inRd rfl) (fun c3 => ?_) (fun c3 => ?_)
    · replace hE := hE.1 c3
      refine s6 (p := 46) rfl ?_
      refine s51 sh46 (by decide) (by decide) rf46_3 ?_
      refine s6 (p := 46) rfl ?_
      refine s50 (v := ld I 46 6) sh46 (by decide) (by decide) (oI_ld _ _ _) ?_
      refine s4 (x := 1) rfl ?_
      obtain ⟨g4, hE⟩ := hE
      refine s44 sh48 (by decide) g4 rfl ?_
      refine s6 (p := 46) rfl ?_
      refine s51 sh46 (by decide) (by decide) rf46_4 ?_
      refine s6 (p := 46) rfl ?_
      refine s50 (v := ld I 46 6) sh46 (by decide) (by decide) ((v2_ne (by decide)).trans (oI_ld _ _ _)) ?_
      refine s4 (x := 0) rfl ?_
      refine s44 sh49 (by decide) g4 rfl ?_
      refine s6 (p := 46) rfl ?_
      refine s51 sh46 (by decide) (by decide) rf46_5 ?_
      refine s6 (p := 46) rfl ?_
      refine s50 (v := ld I 46 6) sh46 (by decide) (by decide) ((v2_ne (by decide)).trans ((v2_ne (by decide)).trans (oI_ld _ _ _))) ?_
      refine s4 (x := x2) rfl ?_
      refine s44 sh50 (by decide) g4 rfl ?_
      refine s6 (p := 46) rfl ?_
      refine s13r ?_
      refine s50 (v := ld I 46 6) sh46 (by decide) (by decide) ((v2_ne (by decide)).trans ((v2_ne (by decide)).trans ((v2_ne (by decide)).trans (oI_ld _ _ _)))) ?_
      refine s0 ?_
      refine s16 ?_
      refine s52 sh46 (by decide) (by decide) ?_
      refine s79 ?_
      refine xG gb111.2 ?_
      refine s83 ?_
      refine rqV_of ?_
      refine s83 ?_
      exact rqV_of hE
    · replace hE := hE.2 c3
      refine xG gb111.2 ?_
      refine s83 ?_
      refine rqV_of ?_
      refine s83 ?_
      exact rqV_of hE
  · replace hE := hE.2 c2
    refine xG gb112.2.1 ?_
    refine s0 ?_
    refine s7 (ls' := [.ref 46, .ref 45, .int (oI x2), .int (oI x3), .int (oI 0), mUn]) (Nat.le_of_ble_eq_true rfl) rfl ?_
    refine s4 (x := x2) rfl ?_
    refine s7 (ls' := [.ref 46, .ref 45, .int (oI x2), .int (oI x3), .int (oI 0), .int (oI x2)]) (Nat.le_of_ble_eq_true rfl) rfl ?_
    refine s79 ?_
    exact hE
