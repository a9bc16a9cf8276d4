/-! the reference: single -/
theorem sg_leaf {T : Nat → Int} {N F p : Nat} : ∀ n, ∃ j : Lf → One n, (¬ tkOk T N (bl T N p) wNot → ¬ (bl T N p < N ∧ T (bl T N p) = 40) → sgP T N F n p = ((yLf T N (bl T N p)).1.map j, (yLf T N (bl T N p)).2)) ∧ (∀ A k e l, PLf A k e l → POne A n k e (j l))
  | 0 => ⟨id, fun h1 h2 => by
      refine (if_neg h1).trans ((if_neg h2).trans ?_)
      generalize yLf T N (bl T N p) = x
      obtain ⟨_ | _, _⟩ := x <;> rfl, fun A k e l h => h⟩
  | n + 1 => ⟨Sum.inl, fun h1 h2 => sgP_succ.trans ((if_neg h1).trans (if_neg h2)), fun A k e l h => h⟩
theorem sgP_not {T : Nat → Int} {N F n p r : Nat} {x : Option (One n)} (h : tkOk T N (bl T N p) wNot) (e : sgP T N F n (lt T N (bl T N p)) = (x, r)) : sgP T N F (n + 1) p = (x.map (fun o => Sum.inr (Sum.inl o)), r) := by
  rw [sgP_succ]
  refine (if_pos h).trans ?_
  rw [e]
theorem sgP_par0 {T : Nat → Int} {N F n p r : Nat} (h : ¬ tkOk T N (bl T N p) wNot) (h2 : bl T N p < N ∧ T (bl T N p) = 40) (e : anP T N F n (bl T N p + 1) = (none, r)) : sgP T N F (n + 1) p = (none, r) := by
  rw [sgP_succ]
  refine (if_neg h).trans ((if_pos h2).trans ?_)
  unfold anP at e
  rw [e]
  rfl
theorem sgP_par1 {T : Nat → Int} {N F n p r : Nat} {o : Any n} (h : ¬ tkOk T N (bl T N p) wNot) (h2 : bl T N p < N ∧ T (bl T N p) = 40) (e : anP T N F n (bl T N p + 1) = (some o, r)) : sgP T N F (n + 1) p = if bl T N r < N ∧ T (bl T N r) = 41 then (some (Sum.inr (Sum.inr o)), bl T N r + 1) else (none, bl T N r) := by
  rw [sgP_succ]
  refine (if_neg h).trans ((if_pos h2).trans ?_)
  unfold anP at e
  rw [e]
theorem sg_ok {T : Nat → Int} {N n d L F : Nat} {R : Nat → Nat → Option Nat} {S : List (Nat × Nat)} (hrec : ∀ n', n = n' + 1 → NdOk T N n' (d + 2) L R S 317 (sgP T N F n') (fun A => POne A n') 0 2 ∧ NdOk T N n' (d + 2) L R S 314 (anP T N F n') (fun A => PAny A (POne A n')) 2 0) : NdOk T N n (d + 3) L R S 317 (sgP T N F n) (fun A => POne A n) 0 2 := by
  intro I A p K hR ht hd hA hb k0 k1
  have hp := ht.2.2.2.1
  have hq := bl_in (T := T) hp
  have hbb := bl_bl (T := T) hp
  have hN8 := ht.2.1
  refine e317 hR ⟨T, N, p, ht, fun I5 f5 r5 t5 => ⟨T, N, bl T N p, t5, ?_⟩⟩
  rw [hbb]
  have m5 := f5.FM rfl
  have d5 : ld I5 91 70 = 10 - n := (ld_fr f5 rfl).trans hd
  refine ⟨fun c1 I14 f14 r14 t14 => ⟨fun c2 => ?_, fun c2 => ⟨by omega, by unfold inR; omega, fun I23 A24 q23 q24 r24 => ?_⟩⟩, fun c1 I14 f14 r14 t14 => ⟨T, N, bl T N p, t14, ?_⟩⟩
  · rw [ld_fr f14 rfl, d5] at c2
    have hn : n = 0 := by omega
    subst hn
    rw [t5.2.2.1]
    refine k0 _ A (bl T N p) ((m5.trans (f14.FM rfl)).wr (by decide)) (r14.scr rfl) (t14.at hq.2) ?_ (NEx.refl _ _) (if_pos c1)
    rw [ld_w (by unfold inR; omega), if_neg (by decide), ld_fr f14 rfl]; exact d5
  · rw [ld_fr f14 rfl, d5] at c2
    obtain ⟨n', rfl⟩ : ∃ n', n = n' + 1 := ⟨n - 1, by omega⟩
    have hl := lt_in (T := T) hq.2
    have hl2 := tk_pos hq.2 (by decide) c1
    have d14 : ld I14 91 70 = 10 - (n' + 1 : Nat) := (ld_fr f14 rfl).trans d5
    have t23 : Tx I23 T N (lt T N (bl T N p)) := by rw [q23]; exact ((((t14.wr (by omega) (by decide)).wr (by omega) (by decide)).wr (by omega) (by decide)).wr (by omega) (by decide)).wr (by omega) (by decide)
    have d23 : ld I23 91 70 = 10 - n' := by
      rw [q23, ld_w (by unfold inR; omega), if_neg (by decide), ld_o (by decide), ld_o (by decide), ld_o (by decide), ld_w (by unfold inR; omega), if_pos rfl]; omega
    have e66 : A24 91 66 = A 91 66 + 1 := by rw [q24]; exact v2_eq
    have hm1 : (A24 91 66).toNat = (A 91 66).toNat + 1 := by omega
    have e144 : A24 144 (A 91 66).toNat = 2 := by rw [q24]; exact (v2_ne (by decide)).trans ((v2_ne (by decide)).trans ((v2_ne (by decide)).trans v2_eq))
    have e146 : A24 146 (A 91 66).toNat = -1 := by rw [q24]; exact (v2_ne (by decide)).trans v2_eq
    have n24 : NEx A A24 (A 91 66).toNat := by
      rw [q24]
      exact (((((NEx.refl A (A 91 66).toNat).set 144 (A 91 66).toNat 2 (Or.inl ⟨by decide, Nat.le_refl _⟩)).set 145 (A 91 66).toNat (-1) (Or.inl ⟨by decide, Nat.le_refl _⟩)).set 146 (A 91 66).toNat (-1) (Or.inl ⟨by decide, Nat.le_refl _⟩)).set 91 66 (A 91 66 + 1) (Or.inr ⟨rfl, rfl⟩))
    have m23 : FM I I23 := by rw [q23]; exact (((((m5.trans (f14.FM rfl)).wr (by decide)).wr (by decide)).wr (by decide)).wr (by decide)).wr (by decide)
    refine (hrec n' rfl).1 I23 A24 (lt T N (bl T N p)) _ r24 t23 d23 (by omega) (by omega) ?_ ?_
    · intro I1 A1 r f1 r1 t1 d1 n1 e1
      refine ⟨-1, I1, A1, rfl, rfl, inRd rfl, r1, by omega, fun _ => ?_, fun q => absurd rfl q⟩
      rw [show A 91 66 + 1 - 1 = A 91 66 by omega]
      refine k0 _ (u2 A1 145 (A 91 66).toNat (-1)) r (((m23.trans f1).wr (by decide)).wr (by decide)) ((r1.set 145 _ (inRd rfl) rfl).scr rfl) ((t1.wr (by omega) (by decide)).wr (by omega) (by decide)) ?_ ((n24.trans n1 (by omega)).set 145 _ _ (Or.inl ⟨by decide, Nat.le_refl _⟩)) ?_
      · rw [ld_w (by unfold inR; omega), if_pos rfl]; omega
      · exact sgP_not c1 e1
    · intro I1 A1 r o e f1 r1 t1 d1 n1 e1 e2 P1 z1 c3
      refine ⟨A24 91 66, I1, A1, rfl, rfl, by unfold inR; omega, r1, by omega, fun q => absurd q (by omega), fun _ => ?_⟩
      rw [show A 91 66 + 1 - 1 = A 91 66 by omega]
      rw [hm1] at n1 P1 c3
      have hs := sg_in (T := T) (F := F) n' (lt T N (bl T N p)) hl.2
      rw [e1] at hs
      have hs1 : lt T N (bl T N p) + 3 ≤ r := hs.2.2 o rfl
      have hke := POne_lt n' _ _ _ P1
      refine k1 _ (u2 A1 145 (A 91 66).toNat (A24 91 66)) r (Sum.inr (Sum.inl o)) e (((m23.trans f1).wr (by decide)).wr (by decide)) ((r1.set 145 _ (by unfold inR; omega) rfl).scr rfl) ((t1.wr (by omega) (by decide)).wr (by omega) (by decide)) ?_ ((n24.trans n1 (by omega)).set 145 _ _ (Or.inl ⟨by decide, Nat.le_refl _⟩)) ?_ ?_ ?_ ?_ (by omega)
      · rw [ld_w (by unfold inR; omega), if_pos rfl]; omega
      · exact sgP_not c1 e1
      · exact (v2_ne (by decide)).trans e2
      · refine ⟨?_, ?_, ?_⟩
        · rw [v2_ne (by decide), n1 144 _ (by omega) (by omega)]; exact e144
        · rw [v2_eq, e66]; omega
        · refine POne_st n' _ _ o ?_ ?_ P1
          · intro j h1 h2
            exact ⟨v2_ne (by decide), v2_nk (by omega), v2_ne (by decide), v2_ne (by decide), v2_ne (by decide)⟩
          · intro j h1 h2; exact v2_ne (by decide)
      · rw [v2_ne (by decide), n1 146 _ (by omega) (by omega)]; exact e146
  rw [hbb]
  have d14 : ld I14 91 70 = 10 - n := (ld_fr f14 rfl).trans d5
  have m14 := m5.trans (f14.FM rfl)
  refine ⟨fun c2 I40 f40 r40 t40 => ⟨fun c3 => ?_, fun c3 => ?_⟩, fun c2 I40 f40 r40 t40 => ⟨by omega, by unfold inR; omega, fun I67 A68 q67 q68 r68 => ?_⟩⟩
  · rw [ld_fr f40 rfl, d14] at c3
    have hn : n = 0 := by omega
    subst hn
    rw [t5.2.2.1]
    refine k0 _ A (bl T N p) ((m14.trans (f40.FM rfl)).wr (by decide)) (r40.scr rfl) (t40.at hq.2) ?_ (NEx.refl _ _) ((if_neg c1).trans (if_pos c2))
    rw [ld_w (by unfold inR; omega), if_neg (by decide), ld_fr f40 rfl]; exact d14
  · rw [ld_fr f40 rfl, d14] at c3
    obtain ⟨n', rfl⟩ : ∃ n', n = n' + 1 := ⟨n - 1, by omega⟩
    have d40 : ld I40 91 70 = 10 - (n' + 1 : Nat) := (ld_fr f40 rfl).trans d14
    have m40 := m14.trans (f40.FM rfl)
    refine (hrec n' rfl).2 _ A (bl T N p + 1) _ (r40.scr rfl) (t40.wr (by omega) (by decide)) (by rw [ld_w (by unfold inR; omega), if_pos rfl]; omega) hA (by omega) ?_ ?_
    · intro I1 A1 r f1 r1 t1 d1 n1 e1
      refine ⟨-1, I1, A1, rfl, rfl, inRd rfl, r1, fun _ => ?_, fun q => absurd rfl q⟩
      refine k0 _ A1 r (((m40.wr (by decide)).trans f1).wr (by decide)) (r1.scr rfl) (t1.wr (by omega) (by decide)) (by rw [ld_w (by unfold inR; omega), if_pos rfl]; omega) n1 ?_
      exact sgP_par0 c1 c2 e1
    · intro I1 A1 r o e f1 r1 t1 d1 n1 e1 e2 P1 z1 c4
      have t1' : Tx (u2 I1 91 70 (oI (ld I1 91 70 - 1))) T N r := t1.wr (by omega) (by decide)
      have d1' : ld (u2 I1 91 70 (oI (ld I1 91 70 - 1))) 91 70 = 10 - (n' + 1 : Nat) := by rw [ld_w (by unfold inR; omega), if_pos rfl]; omega
      have m1 := ((m40.wr (a := 91) (k := 70) (x := oI (ld I40 91 70 + 1)) (by decide)).trans f1).wr (a := 91) (k := 70) (x := oI (ld I1 91 70 - 1)) (by decide)
      have hs := an_in (T := T) (F := F) (n := n') (p := bl T N p + 1) (N := N) (by omega)
      have e1' := e1
      rw [e1] at hs
      have hs1 : bl T N p + 1 + 3 ≤ r := hs.2.2 o rfl
      have hs2 : r ≤ N := hs.2.1
      have hr := bl_in (T := T) hs2
      refine ⟨A 91 66, I1, A1, rfl, rfl, by unfold inR; omega, r1, fun q => absurd q (by omega), fun _ => ⟨T, N, r, t1', fun c5 I57 f57 r57 t57 => ?_, fun c5 I57 f57 r57 t57 => ?_⟩⟩
      · refine k1 I57 A1 (bl T N r + 1) (Sum.inr (Sum.inr o)) e (m1.trans (f57.FM rfl)) r57 t57 ((ld_fr f57 rfl).trans d1') n1 ?_ e2 P1 z1 (by omega)
        exact (sgP_par1 c1 c2 e1').trans (if_pos c5)
      · refine k0 I57 A1 (bl T N r) (m1.trans (f57.FM rfl)) r57 t57 ((ld_fr f57 rfl).trans d1') n1 ?_
        exact (sgP_par1 c1 c2 e1').trans (if_neg c5)
  rw [show A 91 66 + 1 - 1 = A 91 66 by omega]
  obtain ⟨j, hj, hj2⟩ := sg_leaf (T := T) (N := N) (F := F) (p := p) n
  have hj := hj c1 c2
  have d40 : ld I40 91 70 = 10 - n := (ld_fr f40 rfl).trans d14
  have m40 := m14.trans (f40.FM rfl)
  have t67 : Tx I67 T N (bl T N p) := by rw [q67]; exact (((t40.wr (by omega) (by decide)).wr (by omega) (by decide)).wr (by omega) (by decide)).wr (by omega) (by decide)
  have d67 : ld I67 91 70 = 10 - n := by
    rw [q67, ld_w (by unfold inR; omega), if_neg (by decide), ld_o (by decide), ld_o (by decide), ld_o (by decide)]; exact d40
  have e66 : A68 91 66 = ((A 91 66).toNat + 1 : Nat) := by rw [q68, v2_eq]; omega
  have e144 : A68 144 (A 91 66).toNat = 3 := by rw [q68]; exact (v2_ne (by decide)).trans ((v2_ne (by decide)).trans ((v2_ne (by decide)).trans v2_eq))
  have e146 : A68 146 (A 91 66).toNat = -1 := by rw [q68]; exact (v2_ne (by decide)).trans v2_eq
  have n68 : NEx A A68 (A 91 66).toNat := by
    rw [q68]
    exact (((((NEx.refl A (A 91 66).toNat).set 144 (A 91 66).toNat 3 (Or.inl ⟨by decide, Nat.le_refl _⟩)).set 145 (A 91 66).toNat (-1) (Or.inl ⟨by decide, Nat.le_refl _⟩)).set 146 (A 91 66).toNat (-1) (Or.inl ⟨by decide, Nat.le_refl _⟩)).set 91 66 (A 91 66 + 1) (Or.inr ⟨rfl, rfl⟩))
  have m67 : FM I I67 := by rw [q67]; exact ((((m40.wr (by decide)).wr (by decide)).wr (by decide)).wr (by decide))
  clear q67 q68
  refine ⟨T, N, bl T N p, t67, ?_⟩
  rw [hbb]
  intro I76 f76 r76 t76
  have d76 : ld I76 91 70 = 10 - n := (ld_fr f76 rfl).trans d67
  have m76 := m67.trans (f76.FM rfl)
  refine ⟨by omega, fun c3 => ?_, fun c3 I82 A83 q82 q83 r83 => ?_⟩
  · rw [if_pos c3] at t76
    rw [c3]
    refine k0 _ (u2 A68 147 (A 91 66).toNat (-1)) (bl T N p) (m76.wr (by decide)) (r76.set 147 _ (inRd rfl) rfl) (t76.wr (by omega) (by decide)) ((ld_o (by decide)).trans d76) (n68.set 147 _ _ (Or.inl ⟨by decide, Nat.le_refl _⟩)) ?_
    rw [hj]; unfold yLf; rw [if_pos c3]; rfl
  rw [if_neg c3] at t76
  have hl := lt_in (T := T) hq.2
  have hl2 := nm_pos hq.2 c3
  have hs := bl_in (T := T) hl.2
  have hss := bl_bl (T := T) hl.2
  have hnm := nmS_in (T := T) (N := N) (q := bl T N p)
  have d82 : ld I82 91 70 = 10 - n := by rw [q82, ld_o (by decide)]; exact d76
  have t82 : Tx I82 T N (lt T N (bl T N p)) := by rw [q82]; exact t76.wr (by omega) (by decide)
  have m82 : FM I I82 := by rw [q82]; exact m76.wr (by decide)
  have n83 : NEx A A83 (A 91 66).toNat := by rw [q83]; exact n68.set 147 _ _ (Or.inl ⟨by decide, Nat.le_refl _⟩)
  have e66' : A83 91 66 = ((A 91 66).toNat + 1 : Nat) := by rw [q83]; exact (v2_ne (by decide)).trans e66
  have e144' : A83 144 (A 91 66).toNat = 3 := by rw [q83]; exact (v2_ne (by decide)).trans e144
  have e146' : A83 146 (A 91 66).toNat = -1 := by rw [q83]; exact (v2_ne (by decide)).trans e146
  have e147 : A83 147 (A 91 66).toNat = nmS T N (bl T N p) := by rw [q83]; exact v2_eq
  clear q82 q83
  have fin : ∀ (z : Int) (I92 : mI), inR z → (z = 60 ∨ z = 61 ∨ z = 62) → (bl T N (lt T N (bl T N p)) < N ∧ T (bl T N (lt T N (bl T N p))) = z) → FM I I92 → ld I92 91 70 = 10 - n → Tx I92 T N (bl T N (lt T N (bl T N p)) + 1) → ∀ (I99 : mI) (A100 : aS), (I99 = (u2 I92 148 (A 91 66).toNat (oI z))) → (A100 = (u2 A83 148 (A 91 66).toNat z)) → (RM I99 A100) → ∃ (T104 : Nat → Int) (N105 p106 : Nat), Tx I99 T104 N105 p106 ∧ (((nmOk T104 N105 (bl T104 N105 p106) 0 9999) → ∀ (I109 : mI), (Fr [] [(91, 69), (91, 90)] I99 I109) → (RM I109 A100) → (Tx I109 T104 N105 (dg T104 N105 (bl T104 N105 p106))) → (ld I109 91 90 = nv T104 N105 (bl T104 N105 p106)) → K (oI (A 91 66)) (bd L (u2 I109 149 (A 91 66).toNat (oI (ld I109 91 90))) R S)) ∧ (¬ (nmOk T104 N105 (bl T104 N105 p106) 0 9999) → ∀ (I109 : mI), (Fr [] [(91, 69), (91, 90)] I99 I109) → (RM I109 A100) → (Tx I109 T104 N105 (bl T104 N105 p106)) → K (oI (-1)) (bd L I109 R S))) := by
    intro z I92 hz hz3 c4 m92 d92 t92 I99 A100 q99 q100 r100
    have t99 : Tx I99 T N (bl T N (lt T N (bl T N p)) + 1) := by rw [q99]; exact t92.wr (by omega) (by decide)
    have d99 : ld I99 91 70 = 10 - n := by rw [q99, ld_o (by decide)]; exact d92
    have m99 : FM I I99 := by rw [q99]; exact m92.wr (by decide)
    have n100 : NEx A A100 (A 91 66).toNat := by rw [q100]; exact n83.set 148 _ _ (Or.inl ⟨by decide, Nat.le_refl _⟩)
    have hsg : bl T N (lt T N (bl T N p)) < N ∧ (T (bl T N (lt T N (bl T N p))) = 60 ∨ T (bl T N (lt T N (bl T N p))) = 62 ∨ T (bl T N (lt T N (bl T N p))) = 61) := ⟨c4.1, by omega⟩
    have hv := bl_in (T := T) (N := N) (p := bl T N (lt T N (bl T N p)) + 1) (by omega)
    have hv2 := dg_in (T := T) hv.2
    refine ⟨T, N, bl T N (lt T N (bl T N p)) + 1, t99, fun c5 I109 f109 r109 t109 w109 => ?_, fun c5 I109 f109 r109 t109 => ?_⟩
    · rw [w109]
      have c6 := c5.1
      refine k1 _ (u2 A100 149 (A 91 66).toNat (nv T N (bl T N (bl T N (lt T N (bl T N p)) + 1)))) (dg T N (bl T N (bl T N (lt T N (bl T N p)) + 1))) (j (nmS T N (bl T N p), z, nv T N (bl T N (bl T N (lt T N (bl T N p)) + 1)))) ((A 91 66).toNat + 1) ((m99.trans (f109.FM rfl)).wr (by decide)) (r109.set 149 _ (by unfold inR; omega) rfl) (t109.wr (by omega) (by decide)) ((ld_o (by decide)).trans ((ld_fr f109 rfl).trans d99)) (n100.set 149 _ _ (Or.inl ⟨by decide, Nat.le_refl _⟩)) ?_ ?_ ?_ ?_ (by omega)
      · rw [hj]; unfold yLf; rw [if_neg c3, if_pos hsg, if_pos c5, c4.2]; rfl
      · rw [v2_ne (by decide), q100, v2_ne (by decide)]; exact e66'
      · refine hj2 _ _ _ _ ⟨rfl, ?_, ?_, ?_, v2_eq, by dsimp only; omega, hz3, by dsimp only; omega⟩
        · rw [v2_ne (by decide), q100, v2_ne (by decide)]; exact e144'
        · rw [v2_ne (by decide), q100, v2_ne (by decide)]; exact e147
        · rw [v2_ne (by decide), q100]; exact v2_eq
      · rw [v2_ne (by decide), q100, v2_ne (by decide)]; exact e146'
    · refine k0 I109 A100 (bl T N (bl T N (lt T N (bl T N p)) + 1)) (m99.trans (f109.FM rfl)) r109 t109 ((ld_fr f109 rfl).trans d99) n100 ?_
      rw [hj]; unfold yLf; rw [if_neg c3, if_pos hsg, if_neg c5]; rfl
  refine ⟨T, N, lt T N (bl T N p), t82, fun c4 I92 f92 r92 t92 => ?_, fun c4 I92 f92 r92 t92 => ?_⟩
  · exact fin 60 I92 (inRd rfl) (by omega) c4 (m82.trans (f92.FM rfl)) ((ld_fr f92 rfl).trans d82) t92
  refine ⟨T, N, bl T N (lt T N (bl T N p)), t92, ?_⟩
  rw [hss]
  have m92 := m82.trans (f92.FM rfl)
  have d92 := (ld_fr f92 (a := 91) (k := 70) rfl).trans d82
  refine ⟨fun c5 I122 f122 r122 t122 => ?_, fun c5 I122 f122 r122 t122 => ⟨T, N, bl T N (lt T N (bl T N p)), t122, ?_⟩⟩
  · exact fin 62 I122 (inRd rfl) (by omega) c5 (m92.trans (f122.FM rfl)) ((ld_fr f122 rfl).trans d92) t122
  rw [hss]
  have m122 := m92.trans (f122.FM rfl)
  have d122 := (ld_fr f122 (a := 91) (k := 70) rfl).trans d92
  refine ⟨fun c6 I152 f152 r152 t152 => ?_, fun c6 I152 f152 r152 t152 => ?_⟩
  · exact fin 61 I152 (inRd rfl) (by omega) c6 (m122.trans (f152.FM rfl)) ((ld_fr f152 rfl).trans d122) t152
  · refine k0 _ (u2 A83 148 (A 91 66).toNat (-1)) (bl T N (lt T N (bl T N p))) ((m122.trans (f152.FM rfl)).wr (by decide)) (r152.set 148 _ (inRd rfl) rfl) (t152.wr (by omega) (by decide)) ((ld_o (by decide)).trans ((ld_fr f152 rfl).trans d122)) (n83.set 148 _ _ (Or.inl ⟨by decide, Nat.le_refl _⟩)) ?_
    rw [hj]; unfold yLf; rw [if_neg c3, if_neg (by omega)]; rfl
theorem sgs_ok {T : Nat → Int} {N L F : Nat} {R : Nat → Nat → Option Nat} {S : List (Nat × Nat)} (hF : N < F) : ∀ n d, NdOk T N n (d + 4 * n + 3) L R S 317 (sgP T N F n) (fun A => POne A n) 0 2
  | 0, d => sg_ok (fun n' h => absurd h (by omega))
  | n + 1, d => by
    have h1 := sgs_ok (T := T) (L := L) (R := R) (S := S) hF n (d + 3)
    have h2 := any_ok (d := d + 4 * n + 3) hF (by have h := sgs_ok (T := T) (L := L) (R := R) (S := S) hF n (d + 1); rw [show d + 1 + 4 * n + 3 = d + 4 * n + 3 + 1 by omega] at h; exact h)
    have h3 := sg_ok (T := T) (N := N) (n := n + 1) (d := d + 4 * n + 4) (L := L) (F := F) (R := R) (S := S) (by
      intro n' hn
      obtain rfl : n' = n := by omega
      refine ⟨?_, ?_⟩
      · rw [show d + 3 + 4 * n' + 3 = d + 4 * n' + 4 + 2 by omega] at h1; exact h1
      · rw [show d + 4 * n' + 3 + 3 = d + 4 * n' + 4 + 2 by omega] at h2; exact h2)
    rw [show d + 4 * n + 4 + 3 = d + 4 * (n + 1) + 3 by omega] at h3
    exact h3
theorem k314 {T : Nat → Int} {N d L F : Nat} {R : Nat → Nat → Option Nat} {S : List (Nat × Nat)} (hF : N < F) : NdOk T N 10 (d + 46) L R S 314 (anP T N F 10) (fun A => PAny A (POne A 10)) 2 0 := any_ok (d := d + 43) hF (sgs_ok hF 10 (d + 1))
