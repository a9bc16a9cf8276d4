set_option maxRecDepth 4000 in
theorem e91 {d L : Nat} {I : Nat → Nat → Int32} {R : Nat → Nat → Option Nat} {S : List (Nat × Nat)} {K : Int32 → mM → Prop} {A : aS} (hC : RC R S I A) {x1 : Int} {x2 : Int} {x3 : Int} {x4 : Int} {x5 : Int} {x6 : Int} (hE : (0 ≤ x1 ∧ x1 < 7) ∧ ((0 ≤ A 91 3 ∧ A 91 3 < 850) ∧ (inR x1 ∧ (((x1 = 1) → (0 ≤ 40 + x2 ∧ 40 + x2 < 46) ∧ (((ld I 41 (40 + x2).toNat = (-1)) → K (oI (A 91 3)) (bd L (u2 (u2 (u2 (u2 (u2 (u2 (u2 (u2 (u2 (u2 (u2 (u2 I 31 11 (oI (A 91 3 + 1))) 42 x1.toNat (oI (A 110 x1.toNat + 1))) 32 (A 91 3).toNat (oI x1)) 36 (A 91 3).toNat (oI x2)) 37 (A 91 3).toNat (oI x3)) 38 (A 91 3).toNat (oI (-1))) 33 (A 91 3).toNat (oI x4)) 34 (A 91 3).toNat (oI x5)) 35 (A 91 3).toNat (oI x6)) 39 (A 91 3).toNat (oI (-1))) 40 (40 + x2).toNat (oI (A 91 3))) 41 (40 + x2).toNat (oI (A 91 3))) R S)) ∧ (¬ (ld I 41 (40 + x2).toNat = (-1)) → (0 ≤ ld I 41 (40 + x2).toNat ∧ ld I 41 (40 + x2).toNat < 850) ∧ (K (oI (A 91 3)) (bd L (u2 (u2 (u2 (u2 (u2 (u2 (u2 (u2 (u2 (u2 (u2 (u2 I 31 11 (oI (A 91 3 + 1))) 42 x1.toNat (oI (A 110 x1.toNat + 1))) 32 (A 91 3).toNat (oI x1)) 36 (A 91 3).toNat (oI x2)) 37 (A 91 3).toNat (oI x3)) 38 (A 91 3).toNat (oI (-1))) 33 (A 91 3).toNat (oI x4)) 34 (A 91 3).toNat (oI x5)) 35 (A 91 3).toNat (oI x6)) 39 (A 91 3).toNat (oI (-1))) 39 (ld I 41 (40 + x2).toNat).toNat (oI (A 91 3))) 41 (40 + x2).toNat (oI (A 91 3))) R S))))) ∧ (¬ (x1 = 1) → (0 ≤ x2 ∧ x2 < 46) ∧ (((ld I 41 x2.toNat = (-1)) → K (oI (A 91 3)) (bd L (u2 (u2 (u2 (u2 (u2 (u2 (u2 (u2 (u2 (u2 (u2 (u2 I 31 11 (oI (A 91 3 + 1))) 42 x1.toNat (oI (A 110 x1.toNat + 1))) 32 (A 91 3).toNat (oI x1)) 36 (A 91 3).toNat (oI x2)) 37 (A 91 3).toNat (oI x3)) 38 (A 91 3).toNat (oI (-1))) 33 (A 91 3).toNat (oI x4)) 34 (A 91 3).toNat (oI x5)) 35 (A 91 3).toNat (oI x6)) 39 (A 91 3).toNat (oI (-1))) 40 x2.toNat (oI (A 91 3))) 41 x2.toNat (oI (A 91 3))) R S)) ∧ (¬ (ld I 41 x2.toNat = (-1)) → (0 ≤ ld I 41 x2.toNat ∧ ld I 41 x2.toNat < 850) ∧ (K (oI (A 91 3)) (bd L (u2 (u2 (u2 (u2 (u2 (u2 (u2 (u2 (u2 (u2 (u2 (u2 I 31 11 (oI (A 91 3 + 1))) 42 x1.toNat (oI (A 110 x1.toNat + 1))) 32 (A 91 3).toNat (oI x1)) 36 (A 91 3).toNat (oI x2)) 37 (A 91 3).toNat (oI x3)) 38 (A 91 3).toNat (oI (-1))) 33 (A 91 3).toNat (oI x4)) 34 (A 91 3).toNat (oI x5)) 35 (A 91 3).toNat (oI x6)) 39 (A 91 3).toNat (oI (-1))) 39 (ld I 41 x2.toNat).toNat (oI (A 91 3))) 41 x2.toNat (oI (A 91 3))) R S))))))))) : CallI (d + 1) 91 [.ref 31, .int (oI x1), .int (oI x2), .int (oI x3), .int (oI x4), .int (oI x5), .int (oI x6)] (bd L I R S) K := by
  refine cI_of (ls := [.ref 31, .int (oI x1), .int (oI x2), .int (oI x3), .int (oI x4), .int (oI x5), .int (oI x6), mUn]) rfl ?_
  refine xG gb91.1 ?_
  refine s6 (p := 31) rfl ?_
  refine s13r ?_
  refine s50 (v := A 91 3) sh31 (by decide) (by decide) (rdC hC.1 rfl) ?_
  refine s15 ?_
  refine s0 ?_
  refine s16 ?_
  refine s52 sh31 (by decide) (by decide) ?_
  refine s7 (ls' := [.ref 31, .int (oI x1), .int (oI x2), .int (oI x3), .int (oI x4), .int (oI x5), .int (oI x6), .int (oI (A 91 3))]) (Nat.le_of_ble_eq_true rfl) rfl ?_
  refine s6 (p := 31) rfl ?_
  refine s51 sh31 (by decide) (by decide) rf31_10 ?_
  refine s4 (x := x1) rfl ?_
  refine s14 ?_
  obtain ⟨g1, hE⟩ := hE
  refine s40 (v := A 110 x1.toNat) sh42 g1 rfl ((v2_ne (by decide)).trans (rdC hC.1 rfl)) ?_
  refine s0 ?_
  refine s16 ?_
  refine s44 sh42 (by decide) g1 rfl ?_
  refine s6 (p := 31) rfl ?_
  refine s51 sh31 (by decide) (by decide) rf31_0 ?_
  refine s4 (x := A 91 3) rfl ?_
  refine s4 (x := x1) rfl ?_
  obtain ⟨g2, hE⟩ := hE
  refine s44 sh32 (by decide) g2 rfl ?_
  refine s6 (p := 31) rfl ?_
  refine s51 sh31 (by decide) (by decide) rf31_4 ?_
  refine s4 (x := A 91 3) rfl ?_
  refine s4 (x := x2) rfl ?_
  refine s44 sh36 (by decide) g2 rfl ?_
  refine s6 (p := 31) rfl ?_
  refine s51 sh31 (by decide) (by decide) rf31_5 ?_
  refine s4 (x := A 91 3) rfl ?_
  refine s4 (x := x3) rfl ?_
  refine s44 sh37 (by decide) g2 rfl ?_
  refine s6 (p := 31) rfl ?_
  refine s51 sh31 (by decide) (by decide) rf31_6 ?_
  refine s4 (x := A 91 3) rfl ?_
  refine s0 ?_
  refine s44 sh38 (by decide) g2 rfl ?_
  refine s6 (p := 31) rfl ?_
  refine s51 sh31 (by decide) (by decide) rf31_1 ?_
  refine s4 (x := A 91 3) rfl ?_
  refine s4 (x := x4) rfl ?_
  refine s44 sh33 (by decide) g2 rfl ?_
  refine s6 (p := 31) rfl ?_
  refine s51 sh31 (by decide) (by decide) rf31_2 ?_
  refine s4 (x := A 91 3) rfl ?_
  refine s4 (x := x5) rfl ?_
  refine s44 sh34 (by decide) g2 rfl ?_
  refine s6 (p := 31) rfl ?_
  refine s51 sh31 (by decide) (by decide) rf31_3 ?_
  refine s4 (x := A 91 3) rfl ?_
  refine s4 (x := x6) rfl ?_
  refine s44 sh35 (by decide) g2 rfl ?_
  refine s6 (p := 31) rfl ?_
  refine s4 (x := A 91 3) rfl ?_
  refine s4 (x := x1) rfl ?_
  refine s0 ?_
  obtain ⟨g3, hE⟩ := hE
  refine s62 g3 (inRd rfl) (fun c4 => ?_) (fun c4 => ?_)
  · replace hE := hE.1 c4
    refine s0 ?_
    refine s4 (x := x2) rfl ?_
    refine s16 ?_
    refine s60 ?_
    refine xG gb91.2.2 ?_
    refine sV rc92 rfl (Nat.le_of_ble_eq_true rfl) ?_
    refine cV_of (ls := [.ref 31, .int (oI (A 91 3)), .int (oI (40 + x2))]) rfl ?_
    refine xG gb92.1 ?_
    refine s6 (p := 31) rfl ?_
    refine s51 sh31 (by decide) (by decide) rf31_7 ?_
    refine s4 (x := A 91 3) rfl ?_
    refine s0 ?_
    refine s44 sh39 (by decide) g2 rfl ?_
    refine s6 (p := 31) rfl ?_
    refine s51 sh31 (by decide) (by decide) rf31_9 ?_
    refine s4 (x := 40 + x2) rfl ?_
    obtain ⟨g5, hE⟩ := hE
    refine s40 (v := ld I 41 (40 + x2).toNat) sh41 g5 rfl ((v2_ne (by decide)).trans ((v2_ne (by decide)).trans ((v2_ne (by decide)).trans ((v2_ne (by decide)).trans ((v2_ne (by decide)).trans ((v2_ne (by decide)).trans ((v2_ne (by decide)).trans ((v2_ne (by decide)).trans ((v2_ne (by decide)).trans ((v2_ne (by decide)).trans (oI_ld _ _ _))))))))))) ?_
    refine s0 ?_
    refine s62 (ld_inR _ _ _) (inRd rfl) (fun c6 => ?_) (fun c6 => ?_)
    · replace hE := hE.1 c6
      refine s6 (p := 31) rfl ?_
      refine s51 sh31 (by decide) (by decide) rf31_8 ?_
      refine s4 (x := 40 + x2) rfl ?_
      refine s4 (x := A 91 3) rfl ?_
      refine s44 sh40 (by decide) g5 rfl ?_
      refine s60 ?_
      refine xG gb92.2.2 ?_
      refine s6 (p := 31) rfl ?_
      refine s51 sh31 (by decide) (by decide) rf31_9 ?_
      refine s4 (x := 40 + x2) rfl ?_
      refine s4 (x := A 91 3) rfl ?_
      refine s44 sh41 (by decide) g5 rfl ?_
      refine s83 ?_
      refine rqV_of ?_
      refine s4 (x := A 91 3) rfl ?_
      refine s80 ?_
      exact rqI_of hE
    · replace hE := hE.2 c6
      refine xG gb92.2.1 ?_
      refine s6 (p := 31) rfl ?_
      refine s51 sh31 (by decide) (by decide) rf31_7 ?_
      refine s6 (p := 31) rfl ?_
      refine s51 sh31 (by decide) (by decide) rf31_9 ?_
      refine s4 (x := 40 + x2) rfl ?_
      refine s40 (v := ld I 41 (40 + x2).toNat) sh41 g5 rfl ((v2_ne (by decide)).trans ((v2_ne (by decide)).trans ((v2_ne (by decide)).trans ((v2_ne (by decide)).trans ((v2_ne (by decide)).trans ((v2_ne (by decide)).trans ((v2_ne (by decide)).trans ((v2_ne (by decide)).trans ((v2_ne (by decide)).trans ((v2_ne (by decide)).trans (oI_ld _ _ _))))))))))) ?_
      refine s4 (x := A 91 3) rfl ?_
      obtain ⟨g7, hE⟩ := hE
      refine s44 sh39 (by decide) g7 rfl ?_
      refine s79 ?_
      refine xG gb92.2.2 ?_
      refine s6 (p := 31) rfl ?_
      refine s51 sh31 (by decide) (by decide) rf31_9 ?_
      refine s4 (x := 40 + x2) rfl ?_
      refine s4 (x := A 91 3) rfl ?_
      refine s44 sh41 (by decide) g5 rfl ?_
      refine s83 ?_
      refine rqV_of ?_
      refine s4 (x := A 91 3) rfl ?_
      refine s80 ?_
      exact rqI_of hE
  · replace hE := hE.2 c4
    refine xG gb91.2.1 ?_
    refine s4 (x := x2) rfl ?_
    refine s79 ?_
    refine xG gb91.2.2 ?_
    refine sV rc92 rfl (Nat.le_of_ble_eq_true rfl) ?_
    refine cV_of (ls := [.ref 31, .int (oI (A 91 3)), .int (oI x2)]) rfl ?_
    refine xG gb92.1 ?_
    refine s6 (p := 31) rfl ?_
    refine s51 sh31 (by decide) (by decide) rf31_7 ?_
    refine s4 (x := A 91 3) rfl ?_
    refine s0 ?_
    refine s44 sh39 (by decide) g2 rfl ?_
    refine s6 (p := 31) rfl ?_
    refine s51 sh31 (by decide) (by decide) rf31_9 ?_
    refine s4 (x := x2) rfl ?_
    obtain ⟨g8, hE⟩ := hE
    refine s40 (v := ld I 41 x2.toNat) sh41 g8 rfl ((v2_ne (by decide)).trans ((v2_ne (by decide)).trans ((v2_ne (by decide)).trans ((v2_ne (by decide)).trans ((v2_ne (by decide)).trans ((v2_ne (by decide)).trans ((v2_ne (by decide)).trans ((v2_ne (by decide)).trans ((v2_ne (by decide)).trans ((v2_ne (by decide)).trans (oI_ld _ _ _))))))))))) ?_
    refine s0 ?_
    refine s62 (ld_inR _ _ _) (inRd rfl) (fun c9 => ?_) (fun c9 => ?_)
    · replace hE := hE.1 c9
      refine s6 (p := 31) rfl ?_
      refine s51 sh31 (by decide) (by decide) rf31_8 ?_
      refine s4 (x := x2) rfl ?_
      refine s4 (x := A 91 3) rfl ?_
      refine s44 sh40 (by decide) g8 rfl ?_
      refine s60 ?_
      refine xG gb92.2.2 ?_
      refine s6 (p := 31) rfl ?_
      refine s51 sh31 (by decide) (by decide) rf31_9 ?_
      refine s4 (x := x2) rfl ?_
      refine s4 (x := A 91 3) rfl ?_
      refine s44 sh41 (by decide) g8 rfl ?_
      refine s83 ?_
      refine rqV_of ?_
      refine s4 (x := A 91 3) rfl ?_
      refine s80 ?_
      exact rqI_of hE
    · replace hE := hE.2 c9
      refine xG gb92.2.1 ?_
      refine s6 (p := 31) rfl ?_
      refine s51 sh31 (by decide) (by decide) rf31_7 ?_
      refine s6 (p := 31) rfl ?_
      refine s51 sh31 (by decide) (by decide) rf31_9 ?_
      refine s4 (x := x2) rfl ?_
      refine s40 (v := ld I 41 x2.toNat) sh41 g8 rfl ((v2_ne (by decide)).trans ((v2_ne (by decide)).trans ((v2_ne (by decide)).trans ((v2_ne (by decide)).trans ((v2_ne (by decide)).trans ((v2_ne (by decide)).trans ((v2_ne (by decide)).trans ((v2_ne (by decide)).trans ((v2_ne (by decide)).trans ((v2_ne (by decide)).trans (oI_ld _ _ _))))))))))) ?_
      refine s4 (x := A 91 3) rfl ?_
      obtain ⟨g10, hE⟩ := hE
      refine s44 sh39 (by decide) g10 rfl ?_
      refine s79 ?_
      refine xG gb92.2.2 ?_
      refine s6 (p := 31) rfl ?_
      refine s51 sh31 (by decide) (by decide) rf31_9 ?_
      refine s4 (x := x2) rfl ?_
      refine s4 (x := A 91 3) rfl ?_
      refine s44 sh41 (by decide) g8 rfl ?_
      refine s83 ?_
      refine rqV_of ?_
      refine s4 (x := A 91 3) rfl ?_
      refine s80 ?_
      exact rqI_of hE
section
variable {d L : Nat} {I I0 : mI} {R : mR} {S : mSh} {Q : Option Value → mM → Prop} {A : aS} {day known kind half year subj code : Int}
theorem v2_w {f : aS} {a k k' : Nat} {v : Int} : u2 f a k v a k' = if k' = k then v else f a k' := by
  show (if a = a ∧ k' = k then v else f a k') = _
  by_cases q : k' = k
  · rw [if_pos ⟨rfl, q⟩, if_pos q]
  · rw [if_neg (fun h => q h.2), if_neg q]
theorem nt_103 {kd w a b c : Int} {j k : Nat} : ntS A kd w a b c j 103 k = if k = (A 91 3).toNat then kd else A 103 k := by
  unfold ntS
  rw [v2_ne (by decide), v2_ne (by decide), v2_ne (by decide), v2_ne (by decide), v2_ne (by decide), v2_ne (by decide), v2_ne (by decide), v2_ne (by decide), v2_w]
theorem nt_104 {kd w a b c : Int} {j k : Nat} : ntS A kd w a b c j 104 k = if k = (A 91 3).toNat then w else A 104 k := by
  unfold ntS
  rw [v2_ne (by decide), v2_ne (by decide), v2_ne (by decide), v2_ne (by decide), v2_ne (by decide), v2_ne (by decide), v2_ne (by decide), v2_w, v2_ne (by decide)]
theorem nt_105 {kd w a b c : Int} {j k : Nat} : ntS A kd w a b c j 105 k = if k = (A 91 3).toNat then a else A 105 k := by
  unfold ntS
  rw [v2_ne (by decide), v2_ne (by decide), v2_ne (by decide), v2_ne (by decide), v2_ne (by decide), v2_ne (by decide), v2_w, v2_ne (by decide), v2_ne (by decide)]
theorem nt_106 {kd w a b c : Int} {j k : Nat} : ntS A kd w a b c j 106 k = if k = (A 91 3).toNat then b else A 106 k := by
  unfold ntS
  rw [v2_ne (by decide), v2_ne (by decide), v2_ne (by decide), v2_ne (by decide), v2_ne (by decide), v2_w, v2_ne (by decide), v2_ne (by decide), v2_ne (by decide)]
theorem nt_107 {kd w a b c : Int} {j k : Nat} : ntS A kd w a b c j 107 k = if k = (A 91 3).toNat then c else A 107 k := by
  unfold ntS
  rw [v2_ne (by decide), v2_ne (by decide), v2_ne (by decide), v2_ne (by decide), v2_w, v2_ne (by decide), v2_ne (by decide), v2_ne (by decide), v2_ne (by decide)]
theorem nt_108 {kd w a b c : Int} {j k : Nat} : ntS A kd w a b c j 108 k = if k = (A 91 3).toNat then A 91 0 else A 108 k := by
  unfold ntS
  rw [v2_ne (by decide), v2_ne (by decide), v2_ne (by decide), v2_w, v2_ne (by decide), v2_ne (by decide), v2_ne (by decide), v2_ne (by decide), v2_ne (by decide)]
theorem nt_109 {kd w a b c : Int} {j k : Nat} : ntS A kd w a b c j 109 k = if k = (A 91 3).toNat then 5000 else A 109 k := by
  unfold ntS
  rw [v2_ne (by decide), v2_ne (by decide), v2_w, v2_ne (by decide), v2_ne (by decide), v2_ne (by decide), v2_ne (by decide), v2_ne (by decide), v2_ne (by decide)]
theorem nt_n {kd w a b c : Int} {j : Nat} (h0 : 0 ≤ A 91 3) : nN (ntS A kd w a b c j) = nN A + 1 := by
  show (ntS A kd w a b c j 91 3).toNat = (A 91 3).toNat + 1
  unfold ntS
  rw [v2_w, if_pos rfl]
  omega
theorem nt_ko {ks rs : List Nat} {kd w a b c : Int} {j : Nat} (h1 : ∀ k, dp ks rs 103 k = false ∧ dp ks rs 104 k = false ∧ dp ks rs 105 k = false ∧ dp ks rs 106 k = false ∧ dp ks rs 107 k = false ∧ dp ks rs 108 k = false ∧ dp ks rs 109 k = false ∧ dp ks rs 110 k = false) (h2 : dp ks rs 91 3 = false) : Ko ks rs A (ntS A kd w a b c j) := by
  unfold ntS
  exact ((((((((((Ko.refl ks rs A).set (h1 _).1).set (h1 _).2.1).set (h1 _).2.2.1).set (h1 _).2.2.2.1).set (h1 _).2.2.2.2.1).set (h1 _).2.2.2.2.2.1).set (h1 _).2.2.2.2.2.2.1).set (h1 _).2.2.2.2.2.2.2).set h2)
set_option maxRecDepth 4000 in
theorem tl_rc1 {kd w a b c fr vl : Int} {ow : Nat} (hC : RC R S I A) (hA : WfA A) (hB : WfB A) (hn : A 91 3 < 850) (hk : 0 ≤ kd ∧ kd ≤ 6) (hw : 0 ≤ w ∧ w < 40) (how : (ow : Int) = if kd = 1 then 40 + w else w) (how2 : ow < 46) (hfr : fr = if kd = 0 then b else a) (hvl : vl = if kd = 0 then a else if kd = 2 ∨ kd = 3 ∨ kd = 6 then c else 0) (rf : inR fr) (rb : inR b) (rv : inR vl) (c41 : ld I 41 ow = -1) : Fr [32, 33, 34, 35, 36, 37, 38, 39, 40, 41, 42] [(31, 11)] I (u2 (u2 (u2 (u2 (u2 (u2 (u2 (u2 (u2 (u2 (u2 (u2 I 31 11 (oI (A 91 3 + 1))) 42 kd.toNat (oI (A 110 kd.toNat + 1))) 32 (A 91 3).toNat (oI (kd))) 36 (A 91 3).toNat (oI (w))) 37 (A 91 3).toNat (oI (A 91 0))) 38 (A 91 3).toNat (oI (-1))) 33 (A 91 3).toNat (oI (fr))) 34 (A 91 3).toNat (oI (b))) 35 (A 91 3).toNat (oI (vl))) 39 (A 91 3).toNat (oI (-1))) 40 ow (oI (A 91 3))) 41 ow (oI (A 91 3))) ∧ RC R S (u2 (u2 (u2 (u2 (u2 (u2 (u2 (u2 (u2 (u2 (u2 (u2 I 31 11 (oI (A 91 3 + 1))) 42 kd.toNat (oI (A 110 kd.toNat + 1))) 32 (A 91 3).toNat (oI (kd))) 36 (A 91 3).toNat (oI (w))) 37 (A 91 3).toNat (oI (A 91 0))) 38 (A 91 3).toNat (oI (-1))) 33 (A 91 3).toNat (oI (fr))) 34 (A 91 3).toNat (oI (b))) 35 (A 91 3).toNat (oI (vl))) 39 (A 91 3).toNat (oI (-1))) 40 ow (oI (A 91 3))) 41 ow (oI (A 91 3))) (ntS A kd w a b c kd.toNat) := by
  have w0 := hA.1
  have w3 : 0 ≤ A 91 3 ∧ A 91 3 ≤ 850 := hA.2.2.2.1
  have rN : inR (A 91 3) := ⟨by omega, by omega⟩
  have r3 : inR (A 91 3 + 1) := ⟨by omega, by omega⟩
  have r0 : inR (A 91 0) := ⟨by omega, by omega⟩
  have rk : inR kd := ⟨by omega, by omega⟩
  have rw_ : inR w := ⟨by omega, by omega⟩
  have rm : inR (-1) := inRd rfl
  have r110 : inR (A 110 kd.toNat + 1) := by
    obtain ⟨-, b0, b1, b2, b3, b4, b5, b6⟩ := hB
    rcases (by omega : kd = 0 ∨ kd = 1 ∨ kd = 2 ∨ kd = 3 ∨ kd = 4 ∨ kd = 5 ∨ kd = 6) with rfl | rfl | rfl | rfl | rfl | rfl | rfl
    · show inR (A 110 0 + 1); exact ⟨by omega, by omega⟩
    · show inR (A 110 1 + 1); exact ⟨by omega, by omega⟩
    · show inR (A 110 2 + 1); exact ⟨by omega, by omega⟩
    · show inR (A 110 3 + 1); exact ⟨by omega, by omega⟩
    · show inR (A 110 4 + 1); exact ⟨by omega, by omega⟩
    · show inR (A 110 5 + 1); exact ⟨by omega, by omega⟩
    · show inR (A 110 6 + 1); exact ⟨by omega, by omega⟩
  have h0 : RelC0 (u2 (u2 (u2 (u2 (u2 (u2 (u2 (u2 (u2 (u2 (u2 (u2 I 31 11 (oI (A 91 3 + 1))) 42 kd.toNat (oI (A 110 kd.toNat + 1))) 32 (A 91 3).toNat (oI (kd))) 36 (A 91 3).toNat (oI (w))) 37 (A 91 3).toNat (oI (A 91 0))) 38 (A 91 3).toNat (oI (-1))) 33 (A 91 3).toNat (oI (fr))) 34 (A 91 3).toNat (oI (b))) 35 (A 91 3).toNat (oI (vl))) 39 (A 91 3).toNat (oI (-1))) 40 ow (oI (A 91 3))) 41 ow (oI (A 91 3))) (u2 (u2 (u2 (u2 (u2 A 91 3 (A 91 3 + 1)) 110 kd.toNat (A 110 kd.toNat + 1)) 103 (A 91 3).toNat (kd)) 104 (A 91 3).toNat (w)) 108 (A 91 3).toNat (A 91 0)) := (RelC0.scr (RelC0.scr (RelC0.scr (RelC0.scr (RelC0.scr (RelC0.scr (RelC0.scr (RelC0.set (RelC0.set (RelC0.set (RelC0.set (RelC0.set hC.1 (a := 31) (k := 11) (v := A 91 3 + 1) rfl r3) (a := 42) (k := kd.toNat) (v := A 110 kd.toNat + 1) rfl r110) (a := 32) (k := (A 91 3).toNat) (v := kd) rfl rk) (a := 36) (k := (A 91 3).toNat) (v := w) rfl rw_) (a := 37) (k := (A 91 3).toNat) (v := A 91 0) rfl r0) (a := 38) (k := (A 91 3).toNat) rfl) (a := 33) (k := (A 91 3).toNat) rfl) (a := 34) (k := (A 91 3).toNat) rfl) (a := 35) (k := (A 91 3).toNat) rfl) (a := 39) (k := (A 91 3).toNat) rfl) (a := 40) (k := ow) rfl) (a := 41) (k := ow) rfl)
  have h1 : RelC0 (u2 (u2 (u2 (u2 (u2 (u2 (u2 (u2 (u2 (u2 (u2 (u2 I 31 11 (oI (A 91 3 + 1))) 42 kd.toNat (oI (A 110 kd.toNat + 1))) 32 (A 91 3).toNat (oI (kd))) 36 (A 91 3).toNat (oI (w))) 37 (A 91 3).toNat (oI (A 91 0))) 38 (A 91 3).toNat (oI (-1))) 33 (A 91 3).toNat (oI (fr))) 34 (A 91 3).toNat (oI (b))) 35 (A 91 3).toNat (oI (vl))) 39 (A 91 3).toNat (oI (-1))) 40 ow (oI (A 91 3))) 41 ow (oI (A 91 3))) (u2 (u2 (u2 (u2 (u2 (u2 (u2 (u2 (u2 A 91 3 (A 91 3 + 1)) 110 kd.toNat (A 110 kd.toNat + 1)) 103 (A 91 3).toNat (kd)) 104 (A 91 3).toNat (w)) 108 (A 91 3).toNat (A 91 0)) 105 (A 91 3).toNat (a)) 106 (A 91 3).toNat (b)) 107 (A 91 3).toNat (c)) 109 (A 91 3).toNat (5000)) := (RelC0.off (RelC0.off (RelC0.off (RelC0.off h0 (a := 105) (k := (A 91 3).toNat) (v := a) rfl) (a := 106) (k := (A 91 3).toNat) (v := b) rfl) (a := 107) (k := (A 91 3).toNat) (v := c) rfl) (a := 109) (k := (A 91 3).toNat) (v := 5000) rfl)
  have eA : (u2 (u2 (u2 (u2 (u2 (u2 (u2 (u2 (u2 A 91 3 (A 91 3 + 1)) 110 kd.toNat (A 110 kd.toNat + 1)) 103 (A 91 3).toNat (kd)) 104 (A 91 3).toNat (w)) 108 (A 91 3).toNat (A 91 0)) 105 (A 91 3).toNat (a)) 106 (A 91 3).toNat (b)) 107 (A 91 3).toNat (c)) 109 (A 91 3).toNat (5000)) = ntS A kd w a b c kd.toNat := by
    unfold ntS
    funext p q
    simp only [u2]
    repeat' split
    all_goals first | rfl | (exfalso; omega)
  rw [eA] at h1
  refine ⟨(((((((((((((Fr.refl _ _ I).wr rfl).wr rfl).wr rfl).wr rfl).wr rfl).wr rfl).wr rfl).wr rfl).wr rfl).wr rfl).wr rfl).wr rfl), h1, (hC.2.1.kp (KpB.wr (KpB.wr (KpB.wr (KpB.wr (KpB.wr (KpB.wr (KpB.wr (KpB.wr (KpB.wr (KpB.wr (KpB.wr (KpB.wr (KpB.refl I) rfl) rfl) rfl) rfl) rfl) rfl) rfl) rfl) rfl) rfl) rfl) rfl)).ko (nt_ko (fun _ => ⟨rfl, rfl, rfl, rfl, rfl, rfl, rfl, rfl⟩) rfl), ?_, (hC.2.2.2.1.kp (KpB.wr (KpB.wr (KpB.wr (KpB.wr (KpB.wr (KpB.wr (KpB.wr (KpB.wr (KpB.wr (KpB.wr (KpB.wr (KpB.wr (KpB.refl I) rfl) rfl) rfl) rfl) rfl) rfl) rfl) rfl) rfl) rfl) rfl) rfl)).ko (nt_ko (fun _ => ⟨rfl, rfl, rfl, rfl, rfl, rfl, rfl, rfl⟩) rfl), (hC.2.2.2.2.1.kp (KpB.wr (KpB.wr (KpB.wr (KpB.wr (KpB.wr (KpB.wr (KpB.wr (KpB.wr (KpB.wr (KpB.wr (KpB.wr (KpB.wr (KpB.refl I) rfl) rfl) rfl) rfl) rfl) rfl) rfl) rfl) rfl) rfl) rfl) rfl)).ko (nt_ko (fun _ => ⟨rfl, rfl, rfl, rfl, rfl, rfl, rfl, rfl⟩) rfl), hC.2.2.2.2.2.1.kp (KpB.wr (KpB.wr (KpB.wr (KpB.wr (KpB.wr (KpB.wr (KpB.wr (KpB.wr (KpB.wr (KpB.wr (KpB.wr (KpB.wr (KpB.refl I) rfl) rfl) rfl) rfl) rfl) rfl) rfl) rfl) rfl) rfl) rfl) rfl), hC.2.2.2.2.2.2.kp (KpB.wr (KpB.wr (KpB.wr (KpB.wr (KpB.wr (KpB.wr (KpB.wr (KpB.wr (KpB.wr (KpB.wr (KpB.wr (KpB.wr (KpB.refl I) rfl) rfl) rfl) rfl) rfl) rfl) rfl) rfl) rfl) rfl) rfl) rfl)⟩
  have hb := hC.2.2.1
  have tl := (hb.2 ow how2).2
  have sp := lsO_spec (A := A) (o := (ow : Int)) (nN A)
  rw [← tl] at sp
  have eN : nN A = (A 91 3).toNat := rfl
  refine hb.new (n := (A 91 3).toNat) (ow := ow) rfl (nt_n w3.1) (fun k hk => ?_) ?_ how2 (fun k => ?_) (fun k => ?_) (fun k => ?_) (fun k => ?_) (fun k hk => ?_) (fun o => ?_) (fun o => ?_)
  · unfold frN vlN ownN
    have kn : ¬ k = (A 91 3).toNat := by omega
    simp only [nt_103, nt_104, nt_105, nt_106, nt_107, nt_109, if_neg kn, and_self]
  · unfold ownN
    rw [nt_103, nt_104, if_pos rfl, if_pos rfl]
    exact how.symm
  · unfold frN
    rw [nt_103, nt_105, nt_106, if_pos rfl, if_pos rfl, if_pos rfl, ld_o (by decide), ld_o (by decide), ld_o (by decide), ld_o (by decide), ld_o (by decide), ld_w rf, ld_o (by decide), ld_o (by decide), ld_o (by decide), ld_o (by decide), ld_o (by decide), ld_o (by decide), hfr]
  · rw [nt_106, if_pos rfl, ld_o (by decide), ld_o (by decide), ld_o (by decide), ld_o (by decide), ld_w rb, ld_o (by decide), ld_o (by decide), ld_o (by decide), ld_o (by decide), ld_o (by decide), ld_o (by decide), ld_o (by decide)]
  · unfold vlN
    rw [nt_103, nt_105, nt_107, if_pos rfl, if_pos rfl, if_pos rfl, ld_o (by decide), ld_o (by decide), ld_o (by decide), ld_w rv, ld_o (by decide), ld_o (by decide), ld_o (by decide), ld_o (by decide), ld_o (by decide), ld_o (by decide), ld_o (by decide), ld_o (by decide), hvl]
  · rw [nt_109, if_pos rfl, ld_o (by decide), ld_o (by decide), ld_o (by decide), ld_o (by decide), ld_o (by decide), ld_o (by decide), ld_w rm, ld_o (by decide), ld_o (by decide), ld_o (by decide), ld_o (by decide), ld_o (by decide)]
    rfl
  · rw [ld_o (by decide), ld_o (by decide), ld_w rm, ld_o (by decide), ld_o (by decide), ld_o (by decide), ld_o (by decide), ld_o (by decide), ld_o (by decide), ld_o (by decide), ld_o (by decide), ld_o (by decide)]
    by_cases q : k = (A 91 3).toNat
    · rw [if_pos q, if_pos q]
    · rw [if_neg q, if_neg q, if_neg (by omega)]
  · rw [ld_o (by decide), ld_w rN, ld_o (by decide), ld_o (by decide), ld_o (by decide), ld_o (by decide), ld_o (by decide), ld_o (by decide), ld_o (by decide), ld_o (by decide), ld_o (by decide), ld_o (by decide)]
    by_cases q : o = ow
    · rw [if_pos q, if_pos ⟨q, c41⟩]; omega
    · rw [if_neg q, if_neg (fun h => q h.1)]
  · rw [ld_w rN, ld_o (by decide), ld_o (by decide), ld_o (by decide), ld_o (by decide), ld_o (by decide), ld_o (by decide), ld_o (by decide), ld_o (by decide), ld_o (by decide), ld_o (by decide), ld_o (by decide)]
    by_cases q : o = ow
    · rw [if_pos q, if_pos q]; omega
    · rw [if_neg q, if_neg q]
set_option maxRecDepth 4000 in
theorem tl_rc2 {kd w a b c fr vl : Int} {ow : Nat} (hC : RC R S I A) (hA : WfA A) (hB : WfB A) (hn : A 91 3 < 850) (hk : 0 ≤ kd ∧ kd ≤ 6) (hw : 0 ≤ w ∧ w < 40) (how : (ow : Int) = if kd = 1 then 40 + w else w) (how2 : ow < 46) (hfr : fr = if kd = 0 then b else a) (hvl : vl = if kd = 0 then a else if kd = 2 ∨ kd = 3 ∨ kd = 6 then c else 0) (rf : inR fr) (rb : inR b) (rv : inR vl) (c41 : ¬ ld I 41 ow = -1) : Fr [32, 33, 34, 35, 36, 37, 38, 39, 40, 41, 42] [(31, 11)] I (u2 (u2 (u2 (u2 (u2 (u2 (u2 (u2 (u2 (u2 (u2 (u2 I 31 11 (oI (A 91 3 + 1))) 42 kd.toNat (oI (A 110 kd.toNat + 1))) 32 (A 91 3).toNat (oI (kd))) 36 (A 91 3).toNat (oI (w))) 37 (A 91 3).toNat (oI (A 91 0))) 38 (A 91 3).toNat (oI (-1))) 33 (A 91 3).toNat (oI (fr))) 34 (A 91 3).toNat (oI (b))) 35 (A 91 3).toNat (oI (vl))) 39 (A 91 3).toNat (oI (-1))) 39 (ld I 41 ow).toNat (oI (A 91 3))) 41 ow (oI (A 91 3))) ∧ RC R S (u2 (u2 (u2 (u2 (u2 (u2 (u2 (u2 (u2 (u2 (u2 (u2 I 31 11 (oI (A 91 3 + 1))) 42 kd.toNat (oI (A 110 kd.toNat + 1))) 32 (A 91 3).toNat (oI (kd))) 36 (A 91 3).toNat (oI (w))) 37 (A 91 3).toNat (oI (A 91 0))) 38 (A 91 3).toNat (oI (-1))) 33 (A 91 3).toNat (oI (fr))) 34 (A 91 3).toNat (oI (b))) 35 (A 91 3).toNat (oI (vl))) 39 (A 91 3).toNat (oI (-1))) 39 (ld I 41 ow).toNat (oI (A 91 3))) 41 ow (oI (A 91 3))) (ntS A kd w a b c kd.toNat) := by
  have w0 := hA.1
  have w3 : 0 ≤ A 91 3 ∧ A 91 3 ≤ 850 := hA.2.2.2.1
  have rN : inR (A 91 3) := ⟨by omega, by omega⟩
  have r3 : inR (A 91 3 + 1) := ⟨by omega, by omega⟩
  have r0 : inR (A 91 0) := ⟨by omega, by omega⟩
  have rk : inR kd := ⟨by omega, by omega⟩
  have rw_ : inR w := ⟨by omega, by omega⟩
  have rm : inR (-1) := inRd rfl
  have r110 : inR (A 110 kd.toNat + 1) := by
    obtain ⟨-, b0, b1, b2, b3, b4, b5, b6⟩ := hB
    rcases (by omega : kd = 0 ∨ kd = 1 ∨ kd = 2 ∨ kd = 3 ∨ kd = 4 ∨ kd = 5 ∨ kd = 6) with rfl | rfl | rfl | rfl | rfl | rfl | rfl
    · show inR (A 110 0 + 1); exact ⟨by omega, by omega⟩
    · show inR (A 110 1 + 1); exact ⟨by omega, by omega⟩
    · show inR (A 110 2 + 1); exact ⟨by omega, by omega⟩
    · show inR (A 110 3 + 1); exact ⟨by omega, by omega⟩
    · show inR (A 110 4 + 1); exact ⟨by omega, by omega⟩
    · show inR (A 110 5 + 1); exact ⟨by omega, by omega⟩
    · show inR (A 110 6 + 1); exact ⟨by omega, by omega⟩
  have h0 : RelC0 (u2 (u2 (u2 (u2 (u2 (u2 (u2 (u2 (u2 (u2 (u2 (u2 I 31 11 (oI (A 91 3 + 1))) 42 kd.toNat (oI (A 110 kd.toNat + 1))) 32 (A 91 3).toNat (oI (kd))) 36 (A 91 3).toNat (oI (w))) 37 (A 91 3).toNat (oI (A 91 0))) 38 (A 91 3).toNat (oI (-1))) 33 (A 91 3).toNat (oI (fr))) 34 (A 91 3).toNat (oI (b))) 35 (A 91 3).toNat (oI (vl))) 39 (A 91 3).toNat (oI (-1))) 39 (ld I 41 ow).toNat (oI (A 91 3))) 41 ow (oI (A 91 3))) (u2 (u2 (u2 (u2 (u2 A 91 3 (A 91 3 + 1)) 110 kd.toNat (A 110 kd.toNat + 1)) 103 (A 91 3).toNat (kd)) 104 (A 91 3).toNat (w)) 108 (A 91 3).toNat (A 91 0)) := (RelC0.scr (RelC0.scr (RelC0.scr (RelC0.scr (RelC0.scr (RelC0.scr (RelC0.scr (RelC0.set (RelC0.set (RelC0.set (RelC0.set (RelC0.set hC.1 (a := 31) (k := 11) (v := A 91 3 + 1) rfl r3) (a := 42) (k := kd.toNat) (v := A 110 kd.toNat + 1) rfl r110) (a := 32) (k := (A 91 3).toNat) (v := kd) rfl rk) (a := 36) (k := (A 91 3).toNat) (v := w) rfl rw_) (a := 37) (k := (A 91 3).toNat) (v := A 91 0) rfl r0) (a := 38) (k := (A 91 3).toNat) rfl) (a := 33) (k := (A 91 3).toNat) rfl) (a := 34) (k := (A 91 3).toNat) rfl) (a := 35) (k := (A 91 3).toNat) rfl) (a := 39) (k := (A 91 3).toNat) rfl) (a := 39) (k := (ld I 41 ow).toNat) rfl) (a := 41) (k := ow) rfl)
  have h1 : RelC0 (u2 (u2 (u2 (u2 (u2 (u2 (u2 (u2 (u2 (u2 (u2 (u2 I 31 11 (oI (A 91 3 + 1))) 42 kd.toNat (oI (A 110 kd.toNat + 1))) 32 (A 91 3).toNat (oI (kd))) 36 (A 91 3).toNat (oI (w))) 37 (A 91 3).toNat (oI (A 91 0))) 38 (A 91 3).toNat (oI (-1))) 33 (A 91 3).toNat (oI (fr))) 34 (A 91 3).toNat (oI (b))) 35 (A 91 3).toNat (oI (vl))) 39 (A 91 3).toNat (oI (-1))) 39 (ld I 41 ow).toNat (oI (A 91 3))) 41 ow (oI (A 91 3))) (u2 (u2 (u2 (u2 (u2 (u2 (u2 (u2 (u2 A 91 3 (A 91 3 + 1)) 110 kd.toNat (A 110 kd.toNat + 1)) 103 (A 91 3).toNat (kd)) 104 (A 91 3).toNat (w)) 108 (A 91 3).toNat (A 91 0)) 105 (A 91 3).toNat (a)) 106 (A 91 3).toNat (b)) 107 (A 91 3).toNat (c)) 109 (A 91 3).toNat (5000)) := (RelC0.off (RelC0.off (RelC0.off (RelC0.off h0 (a := 105) (k := (A 91 3).toNat) (v := a) rfl) (a := 106) (k := (A 91 3).toNat) (v := b) rfl) (a := 107) (k := (A 91 3).toNat) (v := c) rfl) (a := 109) (k := (A 91 3).toNat) (v := 5000) rfl)
  have eA : (u2 (u2 (u2 (u2 (u2 (u2 (u2 (u2 (u2 A 91 3 (A 91 3 + 1)) 110 kd.toNat (A 110 kd.toNat + 1)) 103 (A 91 3).toNat (kd)) 104 (A 91 3).toNat (w)) 108 (A 91 3).toNat (A 91 0)) 105 (A 91 3).toNat (a)) 106 (A 91 3).toNat (b)) 107 (A 91 3).toNat (c)) 109 (A 91 3).toNat (5000)) = ntS A kd w a b c kd.toNat := by
    unfold ntS
    funext p q
    simp only [u2]
    repeat' split
    all_goals first | rfl | (exfalso; omega)
  rw [eA] at h1
  refine ⟨(((((((((((((Fr.refl _ _ I).wr rfl).wr rfl).wr rfl).wr rfl).wr rfl).wr rfl).wr rfl).wr rfl).wr rfl).wr rfl).wr rfl).wr rfl), h1, (hC.2.1.kp (KpB.wr (KpB.wr (KpB.wr (KpB.wr (KpB.wr (KpB.wr (KpB.wr (KpB.wr (KpB.wr (KpB.wr (KpB.wr (KpB.wr (KpB.refl I) rfl) rfl) rfl) rfl) rfl) rfl) rfl) rfl) rfl) rfl) rfl) rfl)).ko (nt_ko (fun _ => ⟨rfl, rfl, rfl, rfl, rfl, rfl, rfl, rfl⟩) rfl), ?_, (hC.2.2.2.1.kp (KpB.wr (KpB.wr (KpB.wr (KpB.wr (KpB.wr (KpB.wr (KpB.wr (KpB.wr (KpB.wr (KpB.wr (KpB.wr (KpB.wr (KpB.refl I) rfl) rfl) rfl) rfl) rfl) rfl) rfl) rfl) rfl) rfl) rfl) rfl)).ko (nt_ko (fun _ => ⟨rfl, rfl, rfl, rfl, rfl, rfl, rfl, rfl⟩) rfl), (hC.2.2.2.2.1.kp (KpB.wr (KpB.wr (KpB.wr (KpB.wr (KpB.wr (KpB.wr (KpB.wr (KpB.wr (KpB.wr (KpB.wr (KpB.wr (KpB.wr (KpB.refl I) rfl) rfl) rfl) rfl) rfl) rfl) rfl) rfl) rfl) rfl) rfl) rfl)).ko (nt_ko (fun _ => ⟨rfl, rfl, rfl, rfl, rfl, rfl, rfl, rfl⟩) rfl), hC.2.2.2.2.2.1.kp (KpB.wr (KpB.wr (KpB.wr (KpB.wr (KpB.wr (KpB.wr (KpB.wr (KpB.wr (KpB.wr (KpB.wr (KpB.wr (KpB.wr (KpB.refl I) rfl) rfl) rfl) rfl) rfl) rfl) rfl) rfl) rfl) rfl) rfl) rfl), hC.2.2.2.2.2.2.kp (KpB.wr (KpB.wr (KpB.wr (KpB.wr (KpB.wr (KpB.wr (KpB.wr (KpB.wr (KpB.wr (KpB.wr (KpB.wr (KpB.wr (KpB.refl I) rfl) rfl) rfl) rfl) rfl) rfl) rfl) rfl) rfl) rfl) rfl) rfl)⟩
  have hb := hC.2.2.1
  have tl := (hb.2 ow how2).2
  have sp := lsO_spec (A := A) (o := (ow : Int)) (nN A)
  rw [← tl] at sp
  have eN : nN A = (A 91 3).toNat := rfl
  refine hb.new (n := (A 91 3).toNat) (ow := ow) rfl (nt_n w3.1) (fun k hk => ?_) ?_ how2 (fun k => ?_) (fun k => ?_) (fun k => ?_) (fun k => ?_) (fun k hk => ?_) (fun o => ?_) (fun o => ?_)
  · unfold frN vlN ownN
    have kn : ¬ k = (A 91 3).toNat := by omega
    simp only [nt_103, nt_104, nt_105, nt_106, nt_107, nt_109, if_neg kn, and_self]
  · unfold ownN
    rw [nt_103, nt_104, if_pos rfl, if_pos rfl]
    exact how.symm
  · unfold frN
    rw [nt_103, nt_105, nt_106, if_pos rfl, if_pos rfl, if_pos rfl, ld_o (by decide), ld_o (by decide), ld_o (by decide), ld_o (by decide), ld_o (by decide), ld_w rf, ld_o (by decide), ld_o (by decide), ld_o (by decide), ld_o (by decide), ld_o (by decide), ld_o (by decide), hfr]
  · rw [nt_106, if_pos rfl, ld_o (by decide), ld_o (by decide), ld_o (by decide), ld_o (by decide), ld_w rb, ld_o (by decide), ld_o (by decide), ld_o (by decide), ld_o (by decide), ld_o (by decide), ld_o (by decide), ld_o (by decide)]
  · unfold vlN
    rw [nt_103, nt_105, nt_107, if_pos rfl, if_pos rfl, if_pos rfl, ld_o (by decide), ld_o (by decide), ld_o (by decide), ld_w rv, ld_o (by decide), ld_o (by decide), ld_o (by decide), ld_o (by decide), ld_o (by decide), ld_o (by decide), ld_o (by decide), ld_o (by decide), hvl]
  · rw [nt_109, if_pos rfl, ld_o (by decide), ld_o (by decide), ld_o (by decide), ld_o (by decide), ld_o (by decide), ld_o (by decide), ld_w rm, ld_o (by decide), ld_o (by decide), ld_o (by decide), ld_o (by decide), ld_o (by decide)]
    rfl
  · rw [ld_o (by decide), ld_w rN, ld_w rm, ld_o (by decide), ld_o (by decide), ld_o (by decide), ld_o (by decide), ld_o (by decide), ld_o (by decide), ld_o (by decide), ld_o (by decide), ld_o (by decide)]
    rcases sp with ⟨s1, s2⟩ | ⟨t, s1, s2, s3, s4⟩
    · exact absurd s1 c41
    by_cases q : k = (A 91 3).toNat
    · rw [if_neg (by omega), if_pos q, if_pos q]
    · rw [if_neg q]
      by_cases q2 : (k : Int) = ld I 41 ow
      · rw [if_pos q2, if_pos (by omega)]; omega
      · rw [if_neg q2, if_neg (by omega), if_neg q]
  · rw [ld_o (by decide), ld_o (by decide), ld_o (by decide), ld_o (by decide), ld_o (by decide), ld_o (by decide), ld_o (by decide), ld_o (by decide), ld_o (by decide), ld_o (by decide), ld_o (by decide), ld_o (by decide), if_neg (fun h => c41 h.2)]
  · rw [ld_w rN, ld_o (by decide), ld_o (by decide), ld_o (by decide), ld_o (by decide), ld_o (by decide), ld_o (by decide), ld_o (by decide), ld_o (by decide), ld_o (by decide), ld_o (by decide), ld_o (by decide)]
    by_cases q : o = ow
    · rw [if_pos q, if_pos q]; omega
    · rw [if_neg q, if_neg q]
theorem k91 {kd w a b c fr vl : Int} {K : Int32 → mM → Prop} (hC : RC R S I A) (hA : WfA A) (hB : WfB A) (hn : A 91 3 < 850) (hk : 0 ≤ kd ∧ kd ≤ 6) (hw : 0 ≤ w ∧ w < 40 ∧ (kd = 1 → w < 6)) (hfr : fr = if kd = 0 then b else a) (hvl : vl = if kd = 0 then a else if kd = 2 ∨ kd = 3 ∨ kd = 6 then c else 0) (rf : inR fr) (rb : inR b) (rv : inR vl) (hK : ∀ I1, Fr [32, 33, 34, 35, 36, 37, 38, 39, 40, 41, 42] [(31, 11)] I I1 → RC R S I1 (ntS A kd w a b c kd.toNat) → K (oI (A 91 3)) (bd L I1 R S)) : CallI (d + 1) 91 [.ref 31, .int (oI kd), .int (oI w), .int (oI (A 91 0)), .int (oI fr), .int (oI b), .int (oI vl)] (bd L I R S) K := by
  have w3 : 0 ≤ A 91 3 ∧ A 91 3 ≤ 850 := hA.2.2.2.1
  have ran : ∀ ow : Nat, ow < 46 → ¬ ld I 41 ow = -1 → 0 ≤ ld I 41 ow ∧ ld I 41 ow < 850 := by
    intro ow ho hne
    have tl := (hC.2.2.1.2 ow ho).2
    have eN : nN A = (A 91 3).toNat := rfl
    rcases lsO_spec (A := A) (o := (ow : Int)) (nN A) with ⟨s1, s2⟩ | ⟨t, s1, s2, s3, s4⟩ <;> omega
  refine e91 (d := d) hC ⟨by omega, by omega, ⟨by omega, by omega⟩, fun q => ⟨by omega, fun q2 => ?_, fun q2 => ⟨ran _ (by omega) q2, ?_⟩⟩, fun q => ⟨by omega, fun q2 => ?_, fun q2 => ⟨ran _ (by omega) q2, ?_⟩⟩⟩
  · have := tl_rc1 (I := I) (w := w) (ow := (40 + w).toNat) hC hA hB hn hk (by omega) (by rw [if_pos q]; omega) (by omega) hfr hvl rf rb rv q2
    exact hK _ this.1 this.2
  · have := tl_rc2 (I := I) (w := w) (ow := (40 + w).toNat) hC hA hB hn hk (by omega) (by rw [if_pos q]; omega) (by omega) hfr hvl rf rb rv q2
    exact hK _ this.1 this.2
  · have := tl_rc1 (I := I) (w := w) (ow := w.toNat) hC hA hB hn hk (by omega) (by rw [if_neg q]; omega) (by omega) hfr hvl rf rb rv q2
    exact hK _ this.1 this.2
  · have := tl_rc2 (I := I) (w := w) (ow := w.toNat) hC hA hB hn hk (by omega) (by rw [if_neg q]; omega) (by omega) hfr hvl rf rb rv q2
    exact hK _ this.1 this.2
end
