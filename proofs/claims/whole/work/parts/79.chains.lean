/-! the reference: all and any -/
theorem ch_ok {α : Type} {T : Nat → Int} {N n d L : Nat} {R : Nat → Nat → Option Nat} {S : List (Nat × Nat)} {K : Int32 → mM → Prop} {w : Int64} {m b c F p : Nat} {sp : Nat → Option α × Nat} {P : aS → Nat → Nat → α → Prop} {Hd : mI → Int → Int → Value → Prop} {kd : Int} {I : mI} {A : aS}
    (hw : ¬ w = Int64.ofInt 0)
    (hst : ∀ I A x1 x2 w3, RM I A → chE d L R S (rqI K) w m Hd I x1 x2 → Hd I x1 x2 w3)
    (hcal : NdOk T N n (d + 1) L R S m sp P b c)
    (hin : ∀ p, p ≤ N → rdOk N 3 p (sp p))
    (hlt : ∀ A k e x, P A k e x → k < e)
    (hPst : ∀ A A' k e x, Ag A A' k e → Ag6 A A' (k + 1) e → P A k e x → P A' k e x)
    (hkd : inR kd) (hF : N < F) (hR : RM I A) (ht : Tx I T N p) (hd : ld I 91 70 = 10 - n) (hA : 0 ≤ A 91 66) (hb : (A 91 66).toNat + (N - p) + 2 * n + (b + 1) ≤ 7170)
    (k0 : ∀ (I1 : mI) (A1 : aS) (r : Nat), FM I I1 → RM I1 A1 → Tx I1 T N r → ld I1 91 70 = 10 - n → NEx A A1 (A 91 66).toNat → chP T N w sp F p = (none, r) → K (oI (-1)) (bd L I1 R S))
    (k1 : ∀ (I1 : mI) (A1 : aS) (r : Nat) (l : List α) (e : Nat), FM I I1 → RM I1 A1 → Tx I1 T N r → ld I1 91 70 = 10 - n → NEx A A1 (A 91 66).toNat → chP T N w sp F p = (some l, r) → A1 91 66 = (e : Int) → A1 144 (A 91 66).toNat = kd → A1 145 (A 91 66).toNat = (((A 91 66).toNat + 1 : Nat) : Int) → PCh (P A1) (A1 146) l ((A 91 66).toNat + 1) e → A1 146 (A 91 66).toNat = -1 → e + c ≤ (A 91 66).toNat + 1 + (r - p) → K (oI (A 91 66)) (bd L I1 R S)) :
    Hd (u2 (u2 (u2 (u2 I 144 (A 91 66).toNat (oI kd)) 145 (A 91 66).toNat (oI (-1))) 146 (A 91 66).toNat (oI (-1))) 91 66 (oI (A 91 66 + 1))) (A 91 66) (-1) mUn := by
  have hin1 : inR (A 91 66 + 1) := by unfold inR; omega
  have hR' := RM.set (RM.set (RM.set (RM.set hR 144 (A 91 66).toNat hkd rfl) 145 (A 91 66).toNat (v := -1) (inRd rfl) rfl) 146 (A 91 66).toNat (v := -1) (inRd rfl) rfl) 91 66 hin1 rfl
  have ht' : Tx (u2 (u2 (u2 (u2 I 144 (A 91 66).toNat (oI kd)) 145 (A 91 66).toNat (oI (-1))) 146 (A 91 66).toNat (oI (-1))) 91 66 (oI (A 91 66 + 1))) T N p := (((ht.wr (by omega) (by decide)).wr (by omega) (by decide)).wr (by omega) (by decide)).wr (by omega) (by decide)
  have hd' : ld (u2 (u2 (u2 (u2 I 144 (A 91 66).toNat (oI kd)) 145 (A 91 66).toNat (oI (-1))) 146 (A 91 66).toNat (oI (-1))) 91 66 (oI (A 91 66 + 1))) 91 70 = 10 - n := by
    rw [ld_w hin1, if_neg (by decide), ld_o (by decide), ld_o (by decide), ld_o (by decide)]; exact hd
  have hf' : FM I (u2 (u2 (u2 (u2 I 144 (A 91 66).toNat (oI kd)) 145 (A 91 66).toNat (oI (-1))) 146 (A 91 66).toNat (oI (-1))) 91 66 (oI (A 91 66 + 1))) := ((((FM.refl I).wr (by decide)).wr (by decide)).wr (by decide)).wr (by decide)
  have hn' := (((((NEx.refl A (A 91 66).toNat).set 144 (A 91 66).toNat kd (Or.inl ⟨by decide, Nat.le_refl _⟩)).set 145 (A 91 66).toNat (-1) (Or.inl ⟨by decide, Nat.le_refl _⟩)).set 146 (A 91 66).toNat (-1) (Or.inl ⟨by decide, Nat.le_refl _⟩)).set 91 66 (A 91 66 + 1) (Or.inr ⟨rfl, rfl⟩))
  generalize (u2 (u2 (u2 (u2 I 144 (A 91 66).toNat (oI kd)) 145 (A 91 66).toNat (oI (-1))) 146 (A 91 66).toNat (oI (-1))) 91 66 (oI (A 91 66 + 1))) = I' at hR' ht' hd' hf' ⊢
  obtain ⟨A', qA⟩ : ∃ A' : aS, A' = (u2 (u2 (u2 (u2 A 144 (A 91 66).toNat kd) 145 (A 91 66).toNat (-1)) 146 (A 91 66).toNat (-1)) 91 66 (A 91 66 + 1)) := ⟨_, rfl⟩
  rw [← qA] at hR' hn'
  have e66 : A' 91 66 = A 91 66 + 1 := by rw [qA]; exact v2_eq
  have e144 : A' 144 (A 91 66).toNat = kd := by rw [qA]; exact (v2_ne (by decide)).trans ((v2_ne (by decide)).trans ((v2_ne (by decide)).trans v2_eq))
  have e146 : A' 146 (A 91 66).toNat = -1 := by rw [qA]; exact (v2_ne (by decide)).trans v2_eq
  refine ch_loop (d := d) (w := w) (m := m) (sp := sp) (P := P) (c := c) (Hd := Hd) (x1 := A 91 66) (I0 := I) hw (fun I A x2 w3 => hst I A _ x2 w3) hcal hin hlt hPst F p I' A' (-1) mUn (by omega) hf' hR' ht' hd' (by omega) (by rw [e66]; omega) hA (by omega) (Or.inl rfl) ?_ ?_
  · intro I1 A1 r f1 r1 t1 d1 n1 e1
    exact rqI_of (k0 I1 A1 r f1 r1 t1 d1 (hn'.trans n1 (Nat.le_refl _)) e1)
  · intro I1 A1 r l e f1 r1 t1 d1 n1 e1 e2 P1 c1
    rw [if_pos rfl] at n1
    have hm1 : (A' 91 66).toNat = (A 91 66).toNat + 1 := by omega
    rw [hm1] at n1 P1 c1
    obtain ⟨n1, n2⟩ := n1
    refine rqI_of (k1 I1 A1 r l e f1 r1 t1 d1 ?_ e1 e2 ?_ ?_ P1 ?_ c1)
    · intro a k h1 h2
      by_cases h3 : a = 145 ∧ k = (A 91 66).toNat
      · exact absurd ⟨by omega, by omega⟩ h1
      · rw [n1 a k (fun q => h1 ⟨q.1, by omega⟩) h2 h3]; exact hn' a k h1 h2
    · rw [n1 144 _ (by omega) (by omega) (by omega)]; exact e144
    · rw [n2, e66]; omega
    · rw [n1 146 _ (by omega) (by omega) (by omega)]; exact e146
theorem all_ok {T : Nat → Int} {N n d L F : Nat} {R : Nat → Nat → Option Nat} {S : List (Nat × Nat)} (hF : N < F) (hcal : NdOk T N n (d + 1) L R S 317 (sgP T N F n) (fun A => POne A n) 0 2) : NdOk T N n (d + 2) L R S 316 (chP T N wAnd (sgP T N F n) F) (fun A => PAll A (POne A n)) 1 1 := by
  intro I A p K hR ht hd hA hb k0 k1
  refine e316 (d := d + 1) hR ⟨by omega, ?_⟩
  rw [show A 91 66 + 1 - 1 = A 91 66 by omega]
  refine ch_ok (w := wAnd) (m := 317) (Hd := fun I x1 x2 w3 => h316_1 (d + 2) L I R S (rqI K) x1 x2 w3) (by decide) (fun I A x1 x2 w3 h hE => e316_1 h hE) hcal (sg_in n) (fun A k e x => POne_lt n k e x) (fun A A' k e x => POne_st n k e x) (inRd rfl) hF hR ht hd hA (by omega) k0 ?_
  intro I1 A1 r l e f1 r1 t1 d1 n1 e1 e2 g1 g2 g3 g4 g5
  exact k1 I1 A1 r l e f1 r1 t1 d1 n1 e1 e2 ⟨g1, g2, g3⟩ g4 (by omega)
theorem any_ok {T : Nat → Int} {N n d L F : Nat} {R : Nat → Nat → Option Nat} {S : List (Nat × Nat)} (hF : N < F) (hcal : NdOk T N n (d + 1) L R S 317 (sgP T N F n) (fun A => POne A n) 0 2) : NdOk T N n (d + 3) L R S 314 (anP T N F n) (fun A => PAny A (POne A n)) 2 0 := by
  intro I A p K hR ht hd hA hb k0 k1
  refine e314 (d := d + 2) hR ⟨by omega, ?_⟩
  rw [show A 91 66 + 1 - 1 = A 91 66 by omega]
  refine ch_ok (w := wOr) (m := 316) (Hd := fun I x1 x2 w3 => h314_1 (d + 3) L I R S (rqI K) x1 x2 w3) (by decide) (fun I A x1 x2 w3 h hE => e314_1 h hE) (all_ok hF hcal) (fun p hp => ch_in (sg_in n) F p hp) (fun A k e x => PAll_lt (A := A) (POne_lt n) k e x) (fun A A' k e x h1 h2 h3 => PAll_st (P := POne A n) (P' := POne A' n) (POne_lt n) h1 h2 (fun k' e' x a b h3 => POne_st n k' e' x (fun j a' b' => h1 j (by omega) (by omega)) (fun j a' b' => h2 j (by omega) (by omega)) h3) h3) (inRd rfl) hF hR ht hd hA (by omega) k0 ?_
  intro I1 A1 r l e f1 r1 t1 d1 n1 e1 e2 g1 g2 g3 g4 g5
  exact k1 I1 A1 r l e f1 r1 t1 d1 n1 e1 e2 ⟨g1, g2, g3⟩ g4 (by omega)
