section
variable {d L : Nat} {I I0 : mI} {R : mR} {S : mSh} {Q : Option Value → mM → Prop} {A : aS} {c day known kind half year subj code : Int}
def MbC (A : aS) (year : Int) (l : List Nat) (I : mI) : Prop := ld I 77 10 = l.length ∧ ∀ r : Nat, r < l.length → ld I 78 r = l.getD r 0 ∧ ld I 79 r = mayS A (l.getD r 0) year ∧ ∀ t : Nat, t < 64 → ld I 80 (64 * r + t) = brS A (woE A (l.getD r 0) year) (l.getD r 0) year t
def BsC (A : aS) (year hours : Int) (l : List Nat) (r : Nat) (I : mI) : Prop := ∀ r' : Nat, r ≤ r' → r' ≤ l.length → ∀ h : Nat, (h : Int) ≤ hours → ld I 82 (201 * r' + h) = mfS (fun t => hrS A year t) ((wsL A year l).drop r') h
theorem MbC.fr {l : List Nat} {I1 : mI} {ws : List Nat} {os : List (Nat × Nat)} (h : MbC A year l I) (hf : Fr ws os I I1) (h1 : (ws.contains 77 || os.contains (77, 10)) = false) (h2 : ∀ k, (ws.contains 78 || os.contains (78, k)) = false ∧ (ws.contains 79 || os.contains (79, k)) = false ∧ (ws.contains 80 || os.contains (80, k)) = false) : MbC A year l I1 :=
  ⟨(hf.ld h1).trans h.1, fun r hr => ⟨(hf.ld (h2 r).1).trans (h.2 r hr).1, (hf.ld (h2 r).2.1).trans (h.2 r hr).2.1, fun t ht => (hf.ld (h2 _).2.2).trans ((h.2 r hr).2.2 t ht)⟩⟩
theorem HrC.fr {n : Nat} {I1 : mI} {ws : List Nat} {os : List (Nat × Nat)} (h : HrC A year n I) (hf : Fr ws os I I1) (h1 : ∀ k, (ws.contains 81 || os.contains (81, k)) = false) : HrC A year n I1 := fun t ht => (hf.ld (h1 t)).trans (h t ht)
theorem BsC.fr {hours : Int} {l : List Nat} {r : Nat} {I1 : mI} {ws : List Nat} {os : List (Nat × Nat)} (h : BsC A year hours l r I) (hf : Fr ws os I I1) (h1 : ∀ k, (ws.contains 82 || os.contains (82, k)) = false) : BsC A year hours l r I1 := fun r' a b k hk => (hf.ld (h1 _)).trans (h r' a b k hk)
theorem brL_0 {e : Nat → Int} : ∀ n, brL A e c year 0 n = 0
  | 0 => rfl
  | n + 1 => by
    have ih := brL_0 (e := e) n
    have e1 : brL A e c year 0 (n + 1) = if ¬ cdS A year (n + 1 : Nat) = -1 ∧ A 140 (cdS A year (n + 1 : Nat)).toNat = 6 ∧ (0 ≤ A 142 (cdS A year (n + 1 : Nat)).toNat ∧ A 142 (cdS A year (n + 1 : Nat)).toNat ≤ 5) ∧ ¬ iAnd (iShr 0 (A 142 (cdS A year (n + 1 : Nat)).toNat)) 1 = 0 ∧ hdB A (putE (putE e 9 (A 142 (cdS A year (n + 1 : Nat)).toNat)) 10 (A 97 (6 * c + A 142 (cdS A year (n + 1 : Nat)).toNat).toNat)) (cdS A year (n + 1 : Nat)).toNat = true then brL A e c year 0 n + A 141 (cdS A year (n + 1 : Nat)).toNat else brL A e c year 0 n := rfl
    rw [e1, if_neg, ih]
    rintro ⟨-, -, h1, h2, -⟩
    have := bit0 (A 142 (cdS A year (n + 1 : Nat)).toNat).toNat (by omega)
    rw [show (((A 142 (cdS A year (n + 1 : Nat)).toNat).toNat : Nat) : Int) = A 142 (cdS A year (n + 1 : Nat)).toNat by omega] at this
    exact h2 this
theorem and0 {x : Int} (h : 0 ≤ x ∧ x < 1024) : iAnd 0 (iXor x (-1)) = 0 := by
  have := andnot (x := 0) (y := x.toNat) (by decide) (by omega)
  rw [show ((x.toNat : Nat) : Int) = x by omega, Nat.zero_and] at this
  exact this
theorem mayS_in {year : Int} : 0 ≤ mayS A c year ∧ mayS A c year < 64 := by
  have key : ∀ s : Nat, s ≤ 6 → 0 ≤ myL A (tdE A c year) c year s ∧ myL A (tdE A c year) c year s < 2 ^ s := by
    intro s
    induction s with
    | zero => intro _; show (0 : Int) ≤ 0 ∧ (0 : Int) < 1; omega
    | succ s ihs =>
      intro hs
      have ih := ihs (by omega)
      have hp : (2 : Int) ^ (s + 1) = 2 * 2 ^ s := by rw [Int.pow_succ]; omega
      have h9 : ((2 ^ s : Nat) : Int) = (2 : Int) ^ s := by simp
      have em : myL A (tdE A c year) c year (s + 1) = if ¬ A 97 (6 * c + s).toNat = -1 ∧ wpS A (tdE A c year) year s (A 97 (6 * c + s).toNat) = true then iOr (myL A (tdE A c year) c year s) (iShl 1 s) else myL A (tdE A c year) c year s := rfl
      rw [em]
      split
      · have h1 := or_pow (m := (myL A (tdE A c year) c year s).toNat) (s := s) (by omega) (by omega)
        rw [show (((myL A (tdE A c year) c year s).toNat : Nat) : Int) = myL A (tdE A c year) c year s by omega] at h1
        rw [h1]
        have h2 : (myL A (tdE A c year) c year s).toNat ||| 2 ^ s < 2 ^ (s + 1) := Nat.or_lt_two_pow (by rw [Nat.pow_succ]; omega) (by rw [Nat.pow_succ]; have : 1 ≤ 2 ^ s := Nat.one_le_two_pow; omega)
        have h3 : ((2 ^ (s + 1) : Nat) : Int) = (2 : Int) ^ (s + 1) := by simp
        omega
      · omega
  exact key 6 (Nat.le_refl _)
theorem l176 {hours : Int} {l : List Nat} {r t : Nat} (hWC : WfC A) (hl : l.length ≤ 40) (hr : r < l.length) (ht : t < 64) (hh : 0 ≤ hours ∧ hours ≤ 200) (hK : ∀ I1, Fr [82] [] I0 I1 → RC R S I1 A → (∀ h : Nat, (h : Int) ≤ hours → ld I1 82 (201 * r + h) = if hrS A year t ≤ h then max (ld I0 82 (201 * r + h)) (brS A (woE A (l.getD r 0) year) (l.getD r 0) year t + mfS (fun t => hrS A year t) ((wsL A year l).drop (r + 1)) (h - hrS A year t)) else ld I0 82 (201 * r + h)) → (∀ j : Nat, j < 201 * r ∨ 201 * r + 200 < j → ld I1 82 j = ld I0 82 j) → Q none (bd L I1 R S)) : ∀ (n h : Nat) (I : mI) (w2 w6 : Value), (h : Int) + n = max (hrS A year t) (hours + 1) → hrS A year t ≤ h → Fr [82] [] I0 I → RC R S I A → ld I 77 14 = hours → BsC A year hours l (r + 1) I → (∀ k : Nat, (k : Int) ≤ hours → ld I 82 (201 * r + k) = if hrS A year t ≤ k ∧ k < h then max (ld I0 82 (201 * r + k)) (brS A (woE A (l.getD r 0) year) (l.getD r 0) year t + mfS (fun t => hrS A year t) ((wsL A year l).drop (r + 1)) (k - hrS A year t)) else ld I0 82 (201 * r + k)) → (∀ j : Nat, j < 201 * r ∨ 201 * r + 200 < j → ld I 82 j = ld I0 82 j) → h176_1 d L I R S Q r w2 (brS A (woE A (l.getD r 0) year) (l.getD r 0) year t) (hrS A year t) h w6 := by
  have hi := hrS_in hWC (y := year) (set := (t : Int))
  have bi := brS_in hWC (e := woE A (l.getD r 0) year) (c := ((l.getD r 0 : Nat) : Int)) (year := year) (set := (t : Int))
  intro n
  induction n with
  | zero =>
    intro h I w2 w6 hn h1 hf hC h14 hb hk hj
    refine e176_1 hC ?_
    rw [h14]
    refine ⟨by unfold inR; omega, fun _ => hK I hf hC (fun k hk2 => ?_) hj, fun q => by exfalso; omega⟩
    rw [hk k hk2]
    by_cases q : hrS A year t ≤ k
    · rw [if_pos q, if_pos ⟨q, by omega⟩]
    · rw [if_neg q, if_neg (fun x => q x.1)]
  | succ n ih =>
    intro h I w2 w6 hn h1 hf hC h14 hb hk hj
    have e1 : ((((r : Int) + 1) * 201 + h) - hrS A year t).toNat = 201 * (r + 1) + (h - hrS A year t).toNat := by omega
    have e2 : ((r : Int) * 201 + h).toNat = 201 * r + h := by omega
    refine e176_1 hC ?_
    rw [h14]
    by_cases hcase : (h : Int) ≤ hours
    · have v1 := hb (r + 1) (Nat.le_refl _) (by omega) (h - hrS A year t).toNat (by omega)
      rw [show (((h - hrS A year t).toNat : Nat) : Int) = (h : Int) - hrS A year t by omega] at v1
      have v2 := hk h hcase
      rw [if_neg (by omega)] at v2
      have mb := mf_b hWC (year := year) (l := l) (r := r + 1) (h := (h : Int) - hrS A year t) hl (by omega)
      have rv : inR (brS A (woE A (l.getD r 0) year) (l.getD r 0) year t + mfS (fun t => hrS A year t) ((wsL A year l).drop (r + 1)) ((h : Int) - hrS A year t)) := by unfold inR; omega
      rw [e1, e2, v1, v2]
      have lo := ld_inR I0 82 (201 * r + h)
      refine ⟨by unfold inR; omega, fun q => by exfalso; omega, fun _ => ⟨by omega, by omega, rv, fun q => ?_, fun q => ?_⟩⟩
      · have := ih (h + 1) (u2 I 82 (201 * r + h) (oI (brS A (woE A (l.getD r 0) year) (l.getD r 0) year t + mfS (fun t => hrS A year t) ((wsL A year l).drop (r + 1)) ((h : Int) - hrS A year t)))) w2 (.int (oI (brS A (woE A (l.getD r 0) year) (l.getD r 0) year t + mfS (fun t => hrS A year t) ((wsL A year l).drop (r + 1)) ((h : Int) - hrS A year t)))) (by omega) (by omega) (hf.wr rfl) (hC.scr rfl) (by rw [ld_o (by decide)]; exact h14) (fun r' a b k hk2 => by rw [ld_w rv, if_neg (by omega)]; exact hb r' a b k hk2) (fun k hk2 => ?_) (fun j hj2 => by rw [ld_w rv, if_neg (by omega)]; exact hj j hj2)
        · rw [show ((h + 1 : Nat) : Int) = (h : Int) + 1 by omega] at this; exact this
        · rw [ld_w rv]
          by_cases e : k = h
          · rw [if_pos (by omega), e, if_pos ⟨h1, by omega⟩]; omega
          · rw [if_neg (by omega), hk k hk2]
            by_cases q2 : hrS A year t ≤ k ∧ k < h
            · rw [if_pos q2, if_pos ⟨q2.1, by omega⟩]
            · rw [if_neg q2, if_neg (fun x => q2 ⟨x.1, by omega⟩)]
      · have := ih (h + 1) I w2 (.int (oI (brS A (woE A (l.getD r 0) year) (l.getD r 0) year t + mfS (fun t => hrS A year t) ((wsL A year l).drop (r + 1)) ((h : Int) - hrS A year t)))) (by omega) (by omega) hf hC h14 hb (fun k hk2 => ?_) hj
        · rw [show ((h + 1 : Nat) : Int) = (h : Int) + 1 by omega] at this; exact this
        · rw [hk k hk2]
          by_cases e : k = h
          · rw [e, if_neg (by omega), if_pos ⟨h1, by omega⟩]; omega
          · by_cases q2 : hrS A year t ≤ k ∧ k < h
            · rw [if_pos q2, if_pos ⟨q2.1, by omega⟩]
            · rw [if_neg q2, if_neg (fun x => q2 ⟨x.1, by omega⟩)]
    · refine ⟨by unfold inR; omega, fun _ => hK I hf hC (fun k hk2 => ?_) hj, fun q => by exfalso; omega⟩
      rw [hk k hk2]
      by_cases q : hrS A year t ≤ k
      · rw [if_pos q, if_pos ⟨q, by omega⟩]
      · rw [if_neg q, if_neg (fun x => q x.1)]
theorem k176 {hours : Int} {l : List Nat} {r t : Nat} {K : mM → Prop} (hC : RC R S I A) (hWC : WfC A) (hl : l.length ≤ 40) (hr : r < l.length) (ht : t < 64) (hh : 0 ≤ hours ∧ hours ≤ 200) (h14 : ld I 77 14 = hours) (hm : MbC A year l I) (hH : HrC A year 64 I) (hb : BsC A year hours l (r + 1) I) (hK : ∀ I1, Fr [82] [] I I1 → RC R S I1 A → (∀ h : Nat, (h : Int) ≤ hours → ld I1 82 (201 * r + h) = if hrS A year t ≤ h then max (ld I 82 (201 * r + h)) (brS A (woE A (l.getD r 0) year) (l.getD r 0) year t + mfS (fun t => hrS A year t) ((wsL A year l).drop (r + 1)) (h - hrS A year t)) else ld I 82 (201 * r + h)) → (∀ j : Nat, j < 201 * r ∨ 201 * r + 200 < j → ld I1 82 j = ld I 82 j) → K (bd L I1 R S)) : CallV d 176 [.ref 77, .int (oI (r : Int)), .int (oI (t : Int))] (bd L I R S) K := by
  have hi := hrS_in hWC (y := year) (set := (t : Int))
  have m1 := (hm.2 r hr).2.2 t ht
  have m2 := hH t ht
  refine e176 hC ⟨by omega, by omega, ?_⟩
  rw [show ((r : Int) * 64 + t).toNat = 64 * r + t by omega, Int.toNat_natCast, m1, m2]
  have := l176 (d := d) (L := L) (R := R) (S := S) (Q := rqV K) (I0 := I) (year := year) (hours := hours) (l := l) (r := r) (t := t) hWC hl hr ht hh (fun I1 a b q1 q2 => rqV_of (hK I1 a b q1 q2)) (max (hrS A year t) (hours + 1) - hrS A year t).toNat (hrS A year t).toNat I (.int (oI (t : Int))) mUn (by omega) (by omega) (Fr.refl _ _ _) hC h14 hb (fun k hk => by rw [if_neg (by omega)]) (fun _ _ => rfl)
  rw [show (((hrS A year t).toNat : Nat) : Int) = hrS A year t by omega] at this
  exact this
theorem l175_6 {hours : Int} {l : List Nat} {r : Nat} (hWC : WfC A) (hl : l.length ≤ 40) (hr : r < l.length) (hh : 0 ≤ hours ∧ hours ≤ 200) (hK : ∀ I1 w2, Fr [82] [] I0 I1 → RC R S I1 A → BsC A year hours l r I1 → h175_3 (d + 1) L I1 R S Q ((r : Int) + -1) w2) : ∀ (n t : Nat) (I : mI), t + n = 64 → 1 ≤ t → Fr [82] [] I0 I → RC R S I A → ld I 77 14 = hours → MbC A year l I → HrC A year 64 I → BsC A year hours l (r + 1) I → (∀ h : Nat, (h : Int) ≤ hours → ld I 82 (201 * r + h) = mxL (fun t => woS A (l.getD r 0) year t) (fun t => hrS A year t) (mfS (fun t => hrS A year t) ((wsL A year l).drop (r + 1))) h t) → h175_6 (d + 1) L I R S Q r t := by
  have mi := mayS_in (A := A) (c := ((l.getD r 0 : Nat) : Int)) (year := year)
  intro n
  induction n with
  | zero =>
    intro t I ht h1 hf hC h14 hm hH hb hx
    obtain rfl : t = 64 := by omega
    refine e175_6 (d := d) hC ⟨by unfold inR; omega, fun q => by exfalso; omega, fun _ => hK I _ hf hC (fun r' a b h hh2 => ?_)⟩
    by_cases e : r' = r
    · subst e
      rw [hx h hh2, ws_get hr]; rfl
    · exact hb r' (by omega) b h hh2
  | succ n ih =>
    intro t I ht h1 hf hC h14 hm hH hb hx
    have m79 := (hm.2 r hr).2.1
    have ex : ∀ h : Nat, mxL (fun t => woS A (l.getD r 0) year t) (fun t => hrS A year t) (mfS (fun t => hrS A year t) ((wsL A year l).drop (r + 1))) h (t + 1) = if ¬ woS A (l.getD r 0) year t = -1 ∧ hrS A year t ≤ h then max (mxL (fun t => woS A (l.getD r 0) year t) (fun t => hrS A year t) (mfS (fun t => hrS A year t) ((wsL A year l).drop (r + 1))) h t) (woS A (l.getD r 0) year t + mfS (fun t => hrS A year t) ((wsL A year l).drop (r + 1)) (h - hrS A year t)) else mxL (fun t => woS A (l.getD r 0) year t) (fun t => hrS A year t) (mfS (fun t => hrS A year t) ((wsL A year l).drop (r + 1))) h t := fun h => rfl
    have bi := brS_in hWC (e := woE A (l.getD r 0) year) (c := ((l.getD r 0 : Nat) : Int)) (year := year) (set := (t : Int))
    refine e175_6 (d := d) hC ?_
    rw [Int.toNat_natCast, m79]
    refine ⟨by unfold inR; omega, fun _ => ⟨by omega, fun q => ?_, fun q => ?_⟩, fun q => by exfalso; omega⟩
    · have ew : woS A (l.getD r 0) year t = brS A (woE A (l.getD r 0) year) (l.getD r 0) year t := by unfold woS; rw [if_pos q]
      refine k176 (d := d) hC hWC hl hr (by omega) hh h14 hm hH hb (fun I1 f1 hC1 q1 q2 => ⟨I1, rfl, hC1, ?_⟩)
      have := ih (t + 1) I1 (by omega) (by omega) (hf.trans f1) hC1 (by rw [f1.ld rfl]; exact h14) (hm.fr f1 rfl (fun _ => ⟨rfl, rfl, rfl⟩)) (hH.fr f1 (fun _ => rfl)) (fun r' a b h hh2 => by rw [q2 _ (by omega)]; exact hb r' a b h hh2) (fun h hh2 => by
        rw [q1 h hh2, ex, hx h hh2, ew]
        by_cases z : hrS A year t ≤ h
        · rw [if_pos z, if_pos ⟨by omega, z⟩]
        · rw [if_neg z, if_neg (fun x => z x.2)])
      rw [show ((t + 1 : Nat) : Int) = (t : Int) + 1 by omega] at this
      exact this
    · have ew : woS A (l.getD r 0) year t = -1 := by unfold woS; rw [if_neg q]
      have := ih (t + 1) I (by omega) (by omega) hf hC h14 hm hH hb (fun h hh2 => by rw [ex, hx h hh2, if_neg (fun x => x.1 ew)])
      rw [show ((t + 1 : Nat) : Int) = (t : Int) + 1 by omega] at this
      exact this
theorem l175_4 {hours : Int} {l : List Nat} {r : Nat} (hWC : WfC A) (hl : l.length ≤ 40) (hr : r < l.length) (hh : 0 ≤ hours ∧ hours ≤ 200) (hK : ∀ I1 w2, Fr [82] [] I0 I1 → RC R S I1 A → BsC A year hours l r I1 → h175_3 (d + 1) L I1 R S Q ((r : Int) + -1) w2) : ∀ (n h : Nat) (I : mI), (h : Int) + n = hours + 1 → Fr [82] [] I0 I → RC R S I A → ld I 77 14 = hours → MbC A year l I → HrC A year 64 I → BsC A year hours l (r + 1) I → (∀ k : Nat, k < h → ld I 82 (201 * r + k) = mfS (fun t => hrS A year t) ((wsL A year l).drop (r + 1)) k) → h175_4 (d + 1) L I R S Q r h := by
  have mi := mayS_in (A := A) (c := ((l.getD r 0 : Nat) : Int)) (year := year)
  intro n
  induction n with
  | zero =>
    intro h I hn hf hC h14 hm hH hb hx
    refine e175_4 (d := d + 1) hC ?_
    rw [h14]
    refine ⟨by unfold inR; omega, fun _ => ?_, fun q => by exfalso; omega⟩
    refine l175_6 (d := d) (I0 := I0) hWC hl hr hh hK 63 1 I rfl (Nat.le_refl _) hf hC h14 hm hH hb (fun k hk => ?_)
    have ew : woS A (l.getD r 0) year ((0 : Nat) : Int) = 0 := by
      unfold woS
      rw [if_pos (show iAnd ((0 : Nat) : Int) (iXor (mayS A (l.getD r 0) year) (-1)) = 0 from and0 (by omega))]
      exact brL_0 60
    have eh : hrS A year ((0 : Nat) : Int) = 0 := hrS_0
    have mb := mf_b hWC (year := year) (l := l) (r := r + 1) (h := (k : Int)) hl (by omega)
    have ex : mxL (fun t => woS A (l.getD r 0) year t) (fun t => hrS A year t) (mfS (fun t => hrS A year t) ((wsL A year l).drop (r + 1))) k 1 = if ¬ woS A (l.getD r 0) year ((0 : Nat) : Int) = -1 ∧ hrS A year ((0 : Nat) : Int) ≤ k then max (-1) (woS A (l.getD r 0) year ((0 : Nat) : Int) + mfS (fun t => hrS A year t) ((wsL A year l).drop (r + 1)) (k - hrS A year ((0 : Nat) : Int))) else -1 := rfl
    rw [hx k (by omega), ex, ew, eh, if_pos (by omega), Int.sub_zero]
    omega
  | succ n ih =>
    intro h I hn hf hC h14 hm hH hb hx
    have v1 := hb (r + 1) (Nat.le_refl _) (by omega) h (by omega)
    have mb := mf_b hWC (year := year) (l := l) (r := r + 1) (h := (h : Int)) hl (by omega)
    have rv : inR (mfS (fun t => hrS A year t) ((wsL A year l).drop (r + 1)) h) := by unfold inR; omega
    refine e175_4 (d := d + 1) hC ?_
    rw [h14, show (((r : Int) + 1) * 201 + h).toNat = 201 * (r + 1) + h by omega, show ((r : Int) * 201 + h).toNat = 201 * r + h by omega, v1]
    refine ⟨by unfold inR; omega, fun q => by exfalso; omega, fun _ => ⟨by omega, by omega, ?_⟩⟩
    have := ih (h + 1) (u2 I 82 (201 * r + h) (oI (mfS (fun t => hrS A year t) ((wsL A year l).drop (r + 1)) h))) (by omega) (hf.wr rfl) (hC.scr rfl) (by rw [ld_o (by decide)]; exact h14) (hm.fr (frA _ 82 _ _) rfl (fun _ => ⟨rfl, rfl, rfl⟩)) (hH.fr (frA _ 82 _ _) (fun _ => rfl)) (fun r' a b k hk => by rw [ld_w rv, if_neg (by omega)]; exact hb r' a b k hk) (fun k hk => ?_)
    · rw [show ((h + 1 : Nat) : Int) = (h : Int) + 1 by omega] at this; exact this
    · rw [ld_w rv]
      split
      · rename_i e; rw [show k = h by omega]
      · exact hx k (by omega)
theorem l175_3 {hours : Int} {l : List Nat} (hWC : WfC A) (hl : l.length ≤ 40) (hh : 0 ≤ hours ∧ hours ≤ 200) (hK : ∀ I1, Fr [82] [] I0 I1 → RC R S I1 A → BsC A year hours l 0 I1 → Q none (bd L I1 R S)) : ∀ (r : Nat) (I : mI) (w2 : Value), r ≤ l.length → Fr [82] [] I0 I → RC R S I A → ld I 77 14 = hours → MbC A year l I → HrC A year 64 I → BsC A year hours l r I → h175_3 (d + 1) L I R S Q ((r : Int) - 1) w2 := by
  intro r
  induction r with
  | zero =>
    intro I w2 hr hf hC h14 hm hH hb
    exact e175_3 (d := d + 1) hC ⟨by unfold inR; omega, fun _ => hK I hf hC hb, fun q => by exfalso; omega⟩
  | succ r ih =>
    intro I w2 hr hf hC h14 hm hH hb
    refine e175_3 (d := d + 1) hC ⟨by unfold inR; omega, fun q => by exfalso; omega, fun _ => ?_⟩
    rw [show ((r + 1 : Nat) : Int) - 1 = (r : Int) by omega]
    refine l175_4 (d := d) (I0 := I) hWC hl (by omega) hh (fun I1 w2 f1 hC1 hb1 => ?_) (hours + 1).toNat 0 I (by omega) (Fr.refl _ _ _) hC h14 hm hH hb (fun k hk => by omega)
    rw [show (r : Int) + -1 = (r : Int) - 1 by omega]
    exact ih I1 w2 (by omega) (hf.trans f1) hC1 (by rw [f1.ld rfl]; exact h14) (hm.fr f1 rfl (fun _ => ⟨rfl, rfl, rfl⟩)) (hH.fr f1 (fun _ => rfl)) hb1
theorem l175_1 {hours : Int} {l : List Nat} (hWC : WfC A) (hl : l.length ≤ 40) (hh : 0 ≤ hours ∧ hours ≤ 200) (hK : ∀ I1, Fr [82] [] I0 I1 → RC R S I1 A → BsC A year hours l 0 I1 → Q none (bd L I1 R S)) : ∀ (n h : Nat) (I : mI) (w2 : Value), (h : Int) + n = hours + 1 → Fr [82] [] I0 I → RC R S I A → ld I 77 14 = hours → MbC A year l I → HrC A year 64 I → (∀ k : Nat, k < h → ld I 82 (201 * l.length + k) = 0) → h175_1 (d + 1) L I R S Q h w2 := by
  intro n
  induction n with
  | zero =>
    intro h I w2 hn hf hC h14 hm hH hx
    refine e175_1 (d := d + 1) hC ?_
    rw [h14, hm.1]
    refine ⟨by unfold inR; omega, fun _ => ?_, fun q => by exfalso; omega⟩
    refine l175_3 (d := d) (I0 := I0) hWC hl hh hK l.length I _ (Nat.le_refl _) hf hC h14 hm hH (fun r' a b k hk => ?_)
    rw [show r' = l.length by omega, hx k (by omega), List.drop_of_length_le (by unfold wsL; rw [List.length_map]; exact Nat.le_refl _)]
    rfl
  | succ n ih =>
    intro h I w2 hn hf hC h14 hm hH hx
    refine e175_1 (d := d + 1) hC ?_
    rw [h14, hm.1, show ((l.length : Int) * 201 + h).toNat = 201 * l.length + h by omega]
    refine ⟨by unfold inR; omega, fun q => by exfalso; omega, fun _ => ⟨by omega, ?_⟩⟩
    have := ih (h + 1) (u2 I 82 (201 * l.length + h) (oI 0)) w2 (by omega) (hf.wr rfl) (hC.scr rfl) (by rw [ld_o (by decide)]; exact h14) (hm.fr (frA _ 82 _ _) rfl (fun _ => ⟨rfl, rfl, rfl⟩)) (hH.fr (frA _ 82 _ _) (fun _ => rfl)) (fun k hk => ?_)
    · rw [show ((h + 1 : Nat) : Int) = (h : Int) + 1 by omega] at this; exact this
    · rw [ld_w (inRd rfl)]
      split
      · rfl
      · exact hx k (by omega)
theorem k175 {hours : Int} {l : List Nat} {K : mM → Prop} (hC : RC R S I A) (hWC : WfC A) (hl : l.length ≤ 40) (hh : 0 ≤ hours ∧ hours ≤ 200) (h14 : ld I 77 14 = hours) (hm : MbC A year l I) (hH : HrC A year 64 I) (hK : ∀ I1, Fr [82] [] I I1 → RC R S I1 A → BsC A year hours l 0 I1 → K (bd L I1 R S)) : CallV (d + 1) 175 [.ref 77] (bd L I R S) K :=
  e175 (d := d + 1) hC (l175_1 (d := d) (I0 := I) hWC hl hh (fun I1 a b q => rqV_of (hK I1 a b q)) (hours + 1).toNat 0 I _ (by omega) (Fr.refl _ _ _) hC h14 hm hH (fun k hk => by omega))
end
