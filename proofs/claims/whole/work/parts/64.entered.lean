/-! the reference: the choice -/
noncomputable def lfP (A : aS) (year hours : Int) (l : List Nat) : Nat → Int
  | 0 => hours
  | r + 1 => lfP A year hours l r - hrS A year (pkS (fun t => hrS A year t) (fun t => woS A (l.getD r 0) year t) ((wsL A year l).drop (r + 1)) (lfP A year hours l r) : Nat)
noncomputable def ckP (A : aS) (year hours : Int) (l : List Nat) (r : Nat) : Nat := pkS (fun t => hrS A year t) (fun t => woS A (l.getD r 0) year t) ((wsL A year l).drop (r + 1)) (lfP A year hours l r)
noncomputable def enP (A : aS) (year hours : Int) (l : List Nat) : Nat → Int
  | 0 => 0
  | r + 1 => enP A year hours l r + (if ((ckP A year hours l r : Nat) : Int) = 0 then 0 else 1)
noncomputable def stP (A : aS) (year hours : Int) (l : List Nat) : Nat → Nat → Int
  | 0, _ => 0
  | r + 1, c => if c = l.getD r 0 then (ckP A year hours l r : Nat) else stP A year hours l r c
theorem lfP_in {A : aS} (hC : WfC A) {year hours : Int} {l : List Nat} (hh : 0 ≤ hours) : ∀ r, 0 ≤ lfP A year hours l r ∧ lfP A year hours l r ≤ hours
  | 0 => by unfold lfP; omega
  | r + 1 => by
    have ih := lfP_in hC (year := year) (l := l) hh r
    have h := pkS_spec (H := fun t => hrS A year t) (M := 599940) (hr_ok hC) (by omega) (wo_ok hC (c := ((l.getD r 0 : Nat) : Int)) (year := year)) (ws_ok hC (l := l) (year := year) (r + 1)) ih.1
    have h2 := h.2.2.1
    have h3 := (hr_ok hC (code := year)).1 (pkS (fun t => hrS A year t) (fun t => woS A (l.getD r 0) year t) ((wsL A year l).drop (r + 1)) (lfP A year hours l r))
    dsimp only at h2 h3
    unfold lfP
    omega
noncomputable def yrT (A : aS) : Int := Int.tdiv (A 91 0) 100
def rwN (A : aS) (school : Int) : List Nat := rwL A school (A 91 1).toNat
/-- what lies there behind the choice -/
def EnR (A : aS) (school hours : Int) (I : mI) : Prop := ld I 127 hours.toNat = mfS (fun t => hrS A (yrT A) t) (wsL A (yrT A) (rwN A school)) hours ∧ ld I 91 51 = hours - lfP A (yrT A) hours (rwN A school) (rwN A school).length ∧ ld I 91 49 = (rwN A school).length ∧ ld I 91 50 = enP A (yrT A) hours (rwN A school) (rwN A school).length ∧ ∀ c : Nat, c < (A 91 1).toNat → ld I 128 c = stP A (yrT A) hours (rwN A school) (rwN A school).length c
theorem enP_in {A : aS} {year hours : Int} {l : List Nat} : ∀ r : Nat, 0 ≤ enP A year hours l r ∧ enP A year hours l r ≤ r
  | 0 => by unfold enP; omega
  | r + 1 => by have := enP_in (A := A) (year := year) (hours := hours) (l := l) r; unfold enP; split <;> omega
section
variable {d L : Nat} {I I0 : mI} {R : Nat → Nat → Option Nat} {S : List (Nat × Nat)} {Q : Option Value → mM → Prop} {A : aS} {c day known kind half year subj code : Int} {w1 w3 : Value}
theorem l277_16 {B : Nat} {hours : Int} {l : List Nat} (hC : WfC A) (hl : l.length ≤ 40) (hq : ∀ q ∈ l, q < 40) (hh : 0 ≤ hours ∧ hours ≤ 200) (hK : ∀ I1, RM I1 A → Fr [128] [(91, 50), (91, 51)] I0 I1 → ld I1 91 51 = hours - lfP A year hours l l.length → ld I1 91 50 = enP A year hours l l.length → (∀ c : Nat, c < B → (∀ c : Nat, c < B → ld I0 128 c = 0) → ld I1 128 c = stP A year hours l l.length c) → Q none (bd L I1 R S)) : ∀ (n r : Nat) (I : mI) (w3 w6 w7 : Value), r + n = l.length → RM I A → Fr [128] [(91, 50), (91, 51)] I0 I → RwI A year l I → HrI A year I → MfI A year hours l 0 I → ld I 91 50 = enP A year hours l r → (∀ c : Nat, c < B → (∀ c : Nat, c < B → ld I0 128 c = 0) → ld I 128 c = stP A year hours l r c) → h277_16 (d + 1) L I R S Q w1 hours w3 (lfP A year hours l r) r w6 w7 := by
  intro n
  induction n with
  | zero =>
    intro r I w3 w6 w7 hr hR hf hw hH hm h50 hs
    have er : r = l.length := by omega
    have li := lfP_in hC (year := year) (l := l) hh.1 r
    have e49 := hw.1
    refine e277_16 hR ?_
    rw [e49]
    refine ⟨⟨by omega, by omega⟩, fun h => by exfalso; omega, fun _ => hK _ (hR.scr rfl) (hf.wr rfl) ?_ ?_ (fun c hc hz => ?_)⟩
    · rw [ld_w ⟨by omega, by omega⟩, if_pos rfl, er]
    · rw [(fr1 I 91 51 _).ld rfl, h50, er]
    · rw [(fr1 I 91 51 _).ld rfl, hs c hc hz, er]
  | succ n ih =>
    intro r I w3 w6 w7 hr hR hf hw hH hm h50 hs
    have li := lfP_in hC (year := year) (l := l) hh.1 r
    have e49 := hw.1
    have ei := enP_in (A := A) (year := year) (hours := hours) (l := l) (r + 1)
    have sp := pkS_spec (H := fun t => hrS A year t) (M := 599940) (hr_ok hC) (by omega) (wo_ok hC (c := ((l.getD r 0 : Nat) : Int)) (year := year)) (ws_ok hC (l := l) (year := year) (r + 1)) li.1
    refine e277_16 hR ?_
    rw [e49]
    refine ⟨⟨by omega, by omega⟩, fun _ => ?_, fun h => by exfalso; omega⟩
    have hwg := ws_get (A := A) (year := year) (l := l) (r := r) (by omega)
    refine l277_17 hC hl (by omega) hq ⟨li.1, li.2, hh.2⟩ hR hw hH hm (fun w3 w6 w7 => ?_) 64 0 rfl ⟨_, Nat.zero_le _, sp.1, ?_⟩ ?_ w3 w7
    · have en : enP A year hours l r + (if ((pkS (fun t => hrS A year t) (fun t => woS A (l.getD r 0) year t) ((wsL A year l).drop (r + 1)) (lfP A year hours l r) : Nat) : Int) = 0 then (0 : Int) else 1) = enP A year hours l (r + 1) := rfl
      rw [h50, en]
      have er : inR (enP A year hours l (r + 1)) := ⟨by omega, by omega⟩
      have pr : inR ((pkS (fun t => hrS A year t) (fun t => woS A (l.getD r 0) year t) ((wsL A year l).drop (r + 1)) (lfP A year hours l r) : Nat) : Int) := ⟨by omega, by have := sp.1; omega⟩
      refine ih (r + 1) _ w3 w6 w7 (by omega) ((hR.scr rfl).scr rfl) ((hf.wr rfl).wr rfl) ((hw.fr (frA I 128 _ _) rfl (fun _ => rfl) (fun _ => rfl)).fr (fr1 _ 91 50 _) rfl (fun _ => rfl) (fun _ => rfl)) ((hH.fr (frA I 128 _ _) (fun _ => rfl)).fr (fr1 _ 91 50 _) (fun _ => rfl)) ?_ ?_ ?_
      · intro r' h1 h2 j h3
        rw [ld_o (by decide), ld_o (by decide)]; exact hm r' h1 h2 j h3
      · rw [ld_w er, if_pos rfl]
      · intro c hc hz
        rw [ld_o (by decide), ld_w pr]
        show _ = if c = l.getD r 0 then _ else _
        by_cases e : c = l.getD r 0
        · rw [if_pos e, if_pos e]; rfl
        · rw [if_neg e, if_neg e]; exact hs c hc hz
    · rw [hwg]; exact sp.2
    · rw [hwg]; rfl
theorem l277_9 {B : Nat} {hours : Int} {l : List Nat} (hC : WfC A) (hl : l.length ≤ 40) (hq : ∀ q ∈ l, q < 40) (hh : 0 ≤ hours ∧ hours ≤ 200) (hK : ∀ I1, RM I1 A → Fr [127, 128] [(91, 50), (91, 51)] I0 I1 → ld I1 127 hours.toNat = mfS (fun t => hrS A year t) (wsL A year l) hours → ld I1 91 51 = hours - lfP A year hours l l.length → ld I1 91 50 = enP A year hours l l.length → (∀ c : Nat, c < B → (∀ c : Nat, c < B → ld I0 128 c = 0) → ld I1 128 c = stP A year hours l l.length c) → Q none (bd L I1 R S)) : ∀ (r : Nat) (I : mI) (w3 w5 w6 w7 : Value), r ≤ l.length → RM I A → Fr [127] [] I0 I → RwI A year l I → HrI A year I → MfI A year hours l r I → h277_9 (d + 1) L I R S Q w1 hours w3 ((r : Int) + -1) w5 w6 w7 := by
  intro r
  induction r with
  | zero =>
    intro I w3 w5 w6 w7 hr hR hf hw hH hm
    refine e277_9 hR ⟨inRd rfl, fun _ => ?_, fun h => absurd (by decide) h⟩
    have q9 := l277_16 (d := d) (L := L) (R := R) (S := S) (Q := Q) (w1 := w1) (I0 := u2 I 91 50 (oI 0)) (year := year) (hours := hours) (l := l) hC hl hq hh (fun I1 h1 h2 h3 h4 h5 => hK I1 h1 ((hf.sub rfl rfl).trans (((Fr.refl _ _ _).wr rfl).trans (h2.sub rfl rfl))) ?_ h3 h4 (fun c hc hz => h5 c hc (fun c hc => by rw [ld_o (by decide), hf.ld rfl]; exact hz c hc))) l.length 0 (u2 I 91 50 (oI 0)) (mNl w3) w6 w7 (by omega) (hR.scr rfl) (Fr.refl _ _ _) (hw.fr (fr1 I 91 50 _) rfl (fun _ => rfl) (fun _ => rfl)) (hH.fr (fr1 I 91 50 _) (fun _ => rfl)) ?_ ?_ ?_
    · exact q9
    · have m0 := hm 0 (Nat.le_refl _) (by omega) hours.toNat (by omega)
      rw [show ((hours.toNat : Nat) : Int) = hours by omega, Nat.mul_zero, Nat.zero_add, List.drop_zero] at m0
      rw [h2.ld rfl, ld_o (by decide)]; exact m0
    · intro r' h1 h2 j h3
      rw [ld_o (by decide)]; exact hm r' h1 h2 j h3
    · rw [ld_w (inRd rfl), if_pos rfl]; rfl
    · intro c hc hz; rw [hz c hc]; rfl
  | succ r ih =>
    intro I w3 w5 w6 w7 hr hR hf hw hH hm
    have er : (((r + 1 : Nat) : Int) + -1) = r := by omega
    rw [er]
    refine e277_9 hR ⟨⟨by omega, by omega⟩, fun h => by exfalso; omega, fun _ => ?_⟩
    refine l277_10 (I0 := I) (year := year) (l := l) (r := r) hC hl (by omega) hh (fun I1 w5 w6 w7 h1 h2 h3 => ih I1 _ w5 w6 w7 (by omega) h1 (hf.trans h2) (hw.fr h2 rfl (fun _ => rfl) (fun _ => rfl)) (hH.fr h2 (fun _ => rfl)) h3) (hours.toNat + 1) 0 I w6 w7 (by omega) hR (Fr.refl _ _ _) hw hH hm (fun j hj => by omega)
theorem l277_7 {B : Nat} {hours : Int} {l : List Nat} (hC : WfC A) (hl : l.length ≤ 40) (hq : ∀ q ∈ l, q < 40) (hh : 0 ≤ hours ∧ hours ≤ 200) (hK : ∀ I1, RM I1 A → Fr [127, 128] [(91, 50), (91, 51)] I0 I1 → ld I1 127 hours.toNat = mfS (fun t => hrS A year t) (wsL A year l) hours → ld I1 91 51 = hours - lfP A year hours l l.length → ld I1 91 50 = enP A year hours l l.length → (∀ c : Nat, c < B → (∀ c : Nat, c < B → ld I0 128 c = 0) → ld I1 128 c = stP A year hours l l.length c) → Q none (bd L I1 R S)) : ∀ (n h : Nat) (I : mI) (w3 w5 w6 w7 : Value), h + n = hours.toNat + 1 → RM I A → Fr [127] [] I0 I → RwI A year l I → HrI A year I → (∀ j : Nat, j < h → ld I 127 (201 * l.length + j) = 0) → h277_7 (d + 1) L I R S Q w1 hours w3 h w5 w6 w7 := by
  intro n
  induction n with
  | zero =>
    intro h I w3 w5 w6 w7 hn hR hf hw hH hj
    have e49 := hw.1
    refine e277_7 hR ?_
    rw [e49]
    refine ⟨⟨by omega, by omega⟩, ⟨by omega, by omega⟩, fun _ => ?_, fun h => by exfalso; omega⟩
    refine l277_9 (d := d) hC hl hq hh hK l.length I _ _ _ _ (Nat.le_refl _) hR hf hw hH ?_
    intro r' h1 h2 j h3
    have e : r' = l.length := by omega
    subst e
    rw [hj j (by omega)]
    have : (wsL A year l).drop l.length = [] := by
      have := ws_len (A := A) (year := year) (l := l) l.length
      rw [Nat.sub_self] at this
      exact List.eq_nil_of_length_eq_zero this
    rw [this]; rfl
  | succ n ih =>
    intro h I w3 w5 w6 w7 hn hR hf hw hH hj
    have e49 := hw.1
    refine e277_7 hR ?_
    rw [e49]
    refine ⟨⟨by omega, by omega⟩, ⟨by omega, by omega⟩, fun h => by exfalso; omega, fun _ => ⟨by omega, ?_⟩⟩
    rw [show (201 * (l.length : Int) + h).toNat = 201 * l.length + h by omega]
    refine ih (h + 1) _ _ w5 w6 w7 (by omega) (hR.scr rfl) (hf.wr rfl) (hw.fr (frA I 127 _ _) rfl (fun _ => rfl) (fun _ => rfl)) (hH.fr (frA I 127 _ _) (fun _ => rfl)) (fun j hj2 => ?_)
    rw [ld_w (inRd rfl)]
    by_cases e : j = h
    · rw [if_pos (by omega)]
    · rw [if_neg (by omega)]; exact hj j (by omega)
theorem rwL_succ {school : Int} {c : Nat} : rwL A school (c + 1) = if onS A c (A 91 0) (A 91 0) = school then rwL A school c ++ [c] else rwL A school c := rfl
theorem gd_app {l : List Nat} {x r : Nat} : (l ++ [x]).getD r 0 = if r < l.length then l.getD r 0 else if r = l.length then x else 0 := by
  rw [List.getD_eq_getElem?_getD, List.getD_eq_getElem?_getD]
  by_cases h1 : r < l.length
  · rw [List.getElem?_append_left h1, if_pos h1]
  · rw [List.getElem?_append_right (by omega), if_neg h1]
    by_cases h2 : r = l.length
    · rw [if_pos h2, h2, Nat.sub_self]; rfl
    · rw [if_neg h2, List.getElem?_eq_none (by simp; omega)]; rfl
theorem l277_3 {school hours : Int} (hW : WfA A) (hC : WfC A) (hP : WfP A) (hsc : inR school) (hh : 0 ≤ hours ∧ hours ≤ 200) (hy : year = yrT A) (hK : ∀ I1, Fr [111, 112, 113, 114, 115, 116, 124, 125, 126, 127, 128, 150, 151] [(91, 49), (91, 50), (91, 51), (91, 87)] I0 I1 → RM I1 A → EnR A school hours I1 → Q none (bd L I1 R S)) : ∀ (n k : Nat) (I : mI) (w5 w6 w7 : Value), k + n = (A 91 1).toNat → RM I A → Fr [111, 112, 113, 114, 115, 116, 124, 125, 126, 127, 128, 150, 151] [(91, 49), (91, 50), (91, 51), (91, 87)] I0 I → HrI A year I → RwI A year (rwL A school k) I → (∀ c : Nat, c < k → ld I 128 c = 0) → h277_3 (d + 31) L I R S Q school hours year k w5 w6 w7 := by
  have hW1 := hW.2.1
  have ty := today_year hW
  have hy7 : 0 ≤ year ∧ year ≤ 7 := by rw [hy]; exact ty
  intro n
  induction n with
  | zero =>
    intro k I w5 w6 w7 hk hR hf hH hw h128
    have ek : k = (A 91 1).toNat := by omega
    have ri := rwL_in (A := A) (school := school) k
    refine e277_3 hR ⟨⟨by omega, by omega⟩, fun h => by exfalso; omega, fun _ => ?_⟩
    refine l277_7 (d := d + 30) (B := (A 91 1).toNat) (I0 := I) (year := year) (hours := hours) (l := rwL A school k) hC (by omega) (fun q hq => by have := ri.2 q hq; omega) hh (fun I1 h1 h2 h3 h4 h5 h6 => hK I1 (hf.trans (h2.sub rfl rfl)) h1 ?_) (hours.toNat + 1) 0 I _ _ _ _ (by omega) hR (Fr.refl _ _ _) hw hH (fun j hj => by omega)
    have ern : rwL A school k = rwN A school := by rw [ek]; rfl
    rw [ern, hy] at h3 h4 h5 h6
    rw [ern] at hw
    exact ⟨h3, h4, (h2.ld rfl).trans hw.1, h5, fun c hc => h6 c hc (fun c hc => h128 c (by omega))⟩
  | succ n ih =>
    intro k I w5 w6 w7 hk hR hf hH hw h128
    have oi := onS_in hW (c := (k : Int)) (day := A 91 0) (known := A 91 0)
    have ri := rwL_in (A := A) (school := school) k
    have es := rwL_succ (A := A) (school := school) (c := k)
    have e49 := hw.1
    refine e277_3 hR ?_
    rw [e49]
    simp only [Int.toNat_natCast]
    refine ⟨⟨by omega, by omega⟩, fun _ => ⟨by omega, hW.2.2.2.1, ⟨by omega, by omega⟩, hsc, fun c1 => ⟨by omega, hW, hC, hP, by omega, by omega, hy7, fun I1 hf1 hR1 hv1 hv2 => ?_⟩, fun c1 => ?_⟩, fun h => by exfalso; omega⟩
    · rw [if_pos c1] at es
      have kr : inR (k : Int) := ⟨by omega, by omega⟩
      have e49' : ld I1 91 49 = (rwL A school k).length := by rw [hf1.ld rfl, ld_o (by decide), ld_o (by decide)]; exact e49
      rw [e49']
      have lr : inR (((rwL A school k).length : Int) + 1) := ⟨by omega, by omega⟩
      have fI : Fr [124, 128] [] I (u2 (u2 I 128 k (oI 0)) 124 (rwL A school k).length (oI (k : Int))) := ((Fr.refl _ _ _).wr rfl).wr rfl
      refine ih (k + 1) _ w5 w6 w7 (by omega) (hR1.scr rfl) ((hf.trans ((fI.sub rfl rfl).trans (hf1.sub rfl rfl))).wr rfl) (((hH.fr fI (fun _ => rfl)).fr hf1 (fun _ => rfl)).fr (fr1 I1 91 49 _) (fun _ => rfl)) ?_ ?_
      · rw [es]
        refine ⟨?_, fun r hr => ?_, fun r t hr ht => ?_⟩
        · rw [ld_w lr, if_pos rfl, List.length_append, List.length_singleton]; omega
        · rw [List.length_append, List.length_singleton] at hr
          rw [ld_o (by decide), hf1.ld rfl, ld_w kr, gd_app]
          by_cases e : r = (rwL A school k).length
          · rw [if_pos e, if_neg (by omega), if_pos e]
          · rw [if_neg e, if_pos (by omega), ld_o (by decide)]; exact hw.2.1 r (by omega)
        · rw [List.length_append, List.length_singleton] at hr
          rw [ld_o (by decide), gd_app]
          by_cases e : r = (rwL A school k).length
          · rw [if_neg (by omega), if_pos e, e]; exact hv1 t ht
          · rw [if_pos (by omega), hv2 (64 * r + t) (by omega), fI.ld rfl]; exact hw.2.2 r t (by omega) ht
      · intro c hc
        rw [ld_o (by decide), hf1.ld rfl, ld_o (by decide), ld_w (inRd rfl)]
        by_cases e : c = k
        · rw [if_pos e]
        · rw [if_neg e]; exact h128 c (by omega)
    · rw [if_neg c1] at es
      refine ih (k + 1) _ w5 w6 w7 (by omega) (hR.scr rfl) (hf.wr rfl) (hH.fr (frA I 128 _ _) (fun _ => rfl)) (by rw [es]; exact hw.fr (frA I 128 _ _) rfl (fun _ => rfl) (fun _ => rfl)) (fun c hc => ?_)
      rw [ld_w (inRd rfl)]
      by_cases e : c = k
      · rw [if_pos e]
      · rw [if_neg e]; exact h128 c (by omega)
theorem l277_1 {school hours : Int} (hW : WfA A) (hC : WfC A) (hP : WfP A) (hsc : inR school) (hh : 0 ≤ hours ∧ hours ≤ 200) (hy : year = yrT A) (hK : ∀ I1, Fr [111, 112, 113, 114, 115, 116, 124, 125, 126, 127, 128, 150, 151] [(91, 49), (91, 50), (91, 51), (91, 87)] I0 I1 → RM I1 A → EnR A school hours I1 → Q none (bd L I1 R S)) : ∀ (n k : Nat) (I : mI) (w5 w6 w7 : Value), k + n = 64 → RM I A → Fr [111, 112, 113, 114, 115, 116, 124, 125, 126, 127, 128, 150, 151] [(91, 49), (91, 50), (91, 51), (91, 87)] I0 I → (∀ t : Nat, t < k → ld I 126 t = hrS A year t) → h277_1 (d + 31) L I R S Q school hours year k w5 w6 w7 := by
  have ty := today_year hW
  have hy7 : 0 ≤ year ∧ year ≤ 7 := by rw [hy]; exact ty
  intro n
  induction n with
  | zero =>
    intro k I w5 w6 w7 hk hR hf hv
    refine e277_1 (d := d + 4) hR ⟨⟨by omega, by omega⟩, fun h => by exfalso; omega, fun _ => ?_⟩
    refine l277_3 (d := d) hW hC hP hsc hh hy hK (A 91 1).toNat 0 _ w5 w6 w7 (by omega) (hR.scr rfl) (hf.wr rfl) (fun t ht => by rw [ld_o (by decide)]; exact hv t (by omega)) ⟨?_, fun r hr => absurd hr (Nat.not_lt_zero _), fun r t hr _ => absurd hr (Nat.not_lt_zero _)⟩ (fun c hc => by omega)
    rw [ld_w (inRd rfl), if_pos rfl]; rfl
  | succ n ih =>
    intro k I w5 w6 w7 hk hR hf hv
    have hi := (hr_ok hC (code := year)).1 k
    dsimp only at hi
    have hr : inR (hrS A year k) := ⟨by omega, by omega⟩
    refine e277_1 (d := d + 4) hR ⟨⟨by omega, by omega⟩, fun _ => ⟨hC, hy7, fun I1 hf1 hR1 => ⟨by omega, ?_⟩⟩, fun h => by exfalso; omega⟩
    rw [Int.toNat_natCast]
    refine ih (k + 1) _ w5 w6 w7 (by omega) (hR1.scr rfl) ((hf.trans (hf1.sub rfl rfl)).wr rfl) (fun t ht => ?_)
    rw [ld_w hr]
    by_cases e : t = k
    · rw [if_pos e, e]
    · rw [if_neg e, hf1.ld rfl]; exact hv t (by omega)
theorem k277 {K : mM → Prop} {school hours : Int} (hR : RM I A) (hW : WfA A) (hC : WfC A) (hP : WfP A) (hsc : inR school) (hh : 0 ≤ hours ∧ hours ≤ 200) (hK : ∀ I1, Fr [111, 112, 113, 114, 115, 116, 124, 125, 126, 127, 128, 150, 151] [(91, 49), (91, 50), (91, 51), (91, 87)] I I1 → RM I1 A → EnR A school hours I1 → K (bd L I1 R S)) : CallV (d + 31) 277 [.ref 91, .int (oI school), .int (oI hours)] (bd L I R S) K :=
  e277 hR (l277_1 (d := d) hW hC hP hsc hh rfl (fun I1 h1 h2 h3 => rqV_of (hK I1 h1 h2 h3)) 64 0 I mUn mUn mUn rfl hR (Fr.refl _ _ _) (fun t ht => by omega))
end
set_option maxRecDepth 4000 in
theorem e276 {d L : Nat} {I : Nat → Nat → Int32} {R : Nat → Nat → Option Nat} {S : List (Nat × Nat)} {K : Int32 → mM → Prop} {A : aS} (hR : RM I A) {x1 : Int} {x2 : Int} {x3 : Int} (hE : inR x1 ∧ (inR (A 91 2 - 1) ∧ (((0 ≤ x1 ∧ x1 ≤ A 91 2 - 1) → inR x2 ∧ (((0 ≤ x2 ∧ x2 ≤ 200) → inR x3 ∧ (((0 ≤ x3 ∧ x3 ≤ 2) → WfA A ∧ (WfC A ∧ (WfP A ∧ ((0 ≤ x2 ∧ x2 ≤ 200) ∧ (∀ (I15 : mI), (Fr [111, 112, 113, 114, 115, 116, 124, 125, 126, 127, 128, 150, 151] [(91, 49), (91, 50), (91, 51), (91, 87)] I I15) → (RM I15 A) → (EnR A x1 x2 I15) → ((x3 = 0) → (0 ≤ x2 ∧ x2 < 8241) ∧ (K (oI (ld I15 127 x2.toNat)) (bd L I15 R S))) ∧ (¬ (x3 = 0) → ((x3 = 1) → K (oI (ld I15 91 51)) (bd L I15 R S)) ∧ (¬ (x3 = 1) → ((x3 = 2) → K (oI (ld I15 91 49 - (ld I15 91 50))) (bd L I15 R S)) ∧ (¬ (x3 = 2) → (0 ≤ x3 - 10 ∧ x3 - 10 < 40) ∧ (K (oI (ld I15 128 (x3 - 10).toNat)) (bd L I15 R S)))))))))) ∧ (¬ (0 ≤ x3 ∧ x3 ≤ 2) → inR (9 + (A 91 1)) ∧ (((10 ≤ x3 ∧ x3 ≤ 9 + (A 91 1)) → WfA A ∧ (WfC A ∧ (WfP A ∧ ((0 ≤ x2 ∧ x2 ≤ 200) ∧ (∀ (I32 : mI), (Fr [111, 112, 113, 114, 115, 116, 124, 125, 126, 127, 128, 150, 151] [(91, 49), (91, 50), (91, 51), (91, 87)] I I32) → (RM I32 A) → (EnR A x1 x2 I32) → ((x3 = 0) → (0 ≤ x2 ∧ x2 < 8241) ∧ (K (oI (ld I32 127 x2.toNat)) (bd L I32 R S))) ∧ (¬ (x3 = 0) → ((x3 = 1) → K (oI (ld I32 91 51)) (bd L I32 R S)) ∧ (¬ (x3 = 1) → ((x3 = 2) → K (oI (ld I32 91 49 - (ld I32 91 50))) (bd L I32 R S)) ∧ (¬ (x3 = 2) → (0 ≤ x3 - 10 ∧ x3 - 10 < 40) ∧ (K (oI (ld I32 128 (x3 - 10).toNat)) (bd L I32 R S)))))))))) ∧ (¬ (10 ≤ x3 ∧ x3 ≤ 9 + (A 91 1)) → K (oI (-1)) (bd L I R S)))))) ∧ (¬ (0 ≤ x2 ∧ x2 ≤ 200) → K (oI (-1)) (bd L I R S)))) ∧ (¬ (0 ≤ x1 ∧ x1 ≤ A 91 2 - 1) → K (oI (-1)) (bd L I R S))))) : CallI (d + 32) 276 [.ref 91, .int (oI x1), .int (oI x2), .int (oI x3)] (bd L I R S) K := by
  refine cI_of (ls := [.ref 91, .int (oI x1), .int (oI x2), .int (oI x3)]) rfl ?_
  refine xG gb276.1 ?_
  refine s6 (p := 91) rfl ?_
  refine s4 (x := x1) rfl ?_
  refine sI rc217 rfl (Nat.le_of_ble_eq_true rfl) ?_
  refine cI_of (ls := [.ref 91, .int (oI x1)]) rfl ?_
  refine xG gb217 ?_
  refine s4 (x := x1) rfl ?_
  refine s0 ?_
  refine s6 (p := 91) rfl ?_
  refine s50 (v := A 91 2) sh91 (by decide) (by decide) (rdM hR.1 rfl) ?_
  refine s0 ?_
  refine s17 ?_
  obtain ⟨g1, hE⟩ := hE
  obtain ⟨g2, hE⟩ := hE
  refine sI rc210 rfl (Nat.le_of_ble_eq_true rfl) ?_
  refine k210 g1 (inRd rfl) g2 (fun c3 => ?_) (fun c3 => ?_)
  · replace hE := hE.1 c3
    refine s84 (by decide) ?_
    refine rqI_of ?_
    refine s67 (inRd rfl) (fun c4 => absurd c4 (by decide)) (fun _ => ?_)
    refine s4 (x := x2) rfl ?_
    refine s0 ?_
    refine s0 ?_
    obtain ⟨g5, hE⟩ := hE
    refine sI rc210 rfl (Nat.le_of_ble_eq_true rfl) ?_
    refine k210 g5 (inRd rfl) (inRd rfl) (fun c6 => ?_) (fun c6 => ?_)
    · replace hE := hE.1 c6
      refine s67 (inRd rfl) (fun c7 => absurd c7 (by decide)) (fun _ => ?_)
      refine s4 (x := x3) rfl ?_
      refine s0 ?_
      refine s0 ?_
      obtain ⟨g8, hE⟩ := hE
      refine sI rc210 rfl (Nat.le_of_ble_eq_true rfl) ?_
      refine k210 g8 (inRd rfl) (inRd rfl) (fun c9 => ?_) (fun c9 => ?_)
      · replace hE := hE.1 c9
        refine s68 (inRd rfl) (fun c10 => absurd c10 (by decide)) (fun _ => ?_)
        refine xG gb276.2.2.1 ?_
        refine s6 (p := 91) rfl ?_
        refine s4 (x := x1) rfl ?_
        refine s4 (x := x2) rfl ?_
        obtain ⟨g11, hE⟩ := hE
        obtain ⟨g12, hE⟩ := hE
        obtain ⟨g13, hE⟩ := hE
        obtain ⟨g14, hE⟩ := hE
        refine sV rc277 rfl (Nat.le_of_ble_eq_true rfl) ?_
        refine k277 hR g11 g12 g13 g1 g14 (fun I15 q16 q17 q18 => ?_)
        replace hE := hE I15 q16 q17 q18
        refine s4 (x := x3) rfl ?_
        refine s68 g8 (fun c19 => ?_) (fun c19 => ?_)
        · replace hE := hE.1 c19
          refine s6 (p := 91) rfl ?_
          refine s51 sh91 (by decide) (by decide) rf91_47 ?_
          refine s4 (x := x2) rfl ?_
          obtain ⟨g20, hE⟩ := hE
          refine s40 (v := ld I15 127 x2.toNat) sh127 g20 rfl (oI_ld _ _ _) ?_
          refine s60 ?_
          refine xG gb276.2.2.2.2.2.2 ?_
          refine s80 ?_
          exact rqI_of hE
        · replace hE := hE.2 c19
          refine xG gb276.2.2.2.1 ?_
          refine s4 (x := x3) rfl ?_
          refine s0 ?_
          refine s62 g8 (inRd rfl) (fun c21 => ?_) (fun c21 => ?_)
          · replace hE := hE.1 c21
            refine s6 (p := 91) rfl ?_
            refine s50 (v := ld I15 91 51) sh91 (by decide) (by decide) (oI_ld _ _ _) ?_
            refine s60 ?_
            refine xG gb276.2.2.2.2.2.2 ?_
            refine s80 ?_
            exact rqI_of hE
          · replace hE := hE.2 c21
            refine xG gb276.2.2.2.2.1 ?_
            refine s4 (x := x3) rfl ?_
            refine s0 ?_
            refine s62 g8 (inRd rfl) (fun c22 => ?_) (fun c22 => ?_)
            · replace hE := hE.1 c22
              refine s6 (p := 91) rfl ?_
              refine s50 (v := ld I15 91 49) sh91 (by decide) (by decide) (oI_ld _ _ _) ?_
              refine s6 (p := 91) rfl ?_
              refine s50 (v := ld I15 91 50) sh91 (by decide) (by decide) (oI_ld _ _ _) ?_
              refine s17 ?_
              refine s60 ?_
              refine xG gb276.2.2.2.2.2.2 ?_
              refine s80 ?_
              exact rqI_of hE
            · replace hE := hE.2 c22
              refine xG gb276.2.2.2.2.2.1 ?_
              refine s6 (p := 91) rfl ?_
              refine s51 sh91 (by decide) (by decide) rf91_48 ?_
              refine s4 (x := x3) rfl ?_
              refine s0 ?_
              refine s17 ?_
              obtain ⟨g23, hE⟩ := hE
              refine s40 (v := ld I15 128 (x3 - 10).toNat) sh128 g23 rfl (oI_ld _ _ _) ?_
              refine s79 ?_
              refine xG gb276.2.2.2.2.2.2 ?_
              refine s80 ?_
              exact rqI_of hE
      · replace hE := hE.2 c9
        refine s68 (inRd rfl) (fun _ => ?_) (fun c24 => absurd (by decide) c24)
        refine s4 (x := x3) rfl ?_
        refine s0 ?_
        refine s0 ?_
        refine s6 (p := 91) rfl ?_
        refine s50 (v := A 91 1) sh91 (by decide) (by decide) (rdM hR.1 rfl) ?_
        refine s16 ?_
        obtain ⟨g25, hE⟩ := hE
        refine sI rc210 rfl (Nat.le_of_ble_eq_true rfl) ?_
        refine k210 g8 (inRd rfl) g25 (fun c26 => ?_) (fun c26 => ?_)
        · replace hE := hE.1 c26
          refine s68 (inRd rfl) (fun c27 => absurd c27 (by decide)) (fun _ => ?_)
          refine xG gb276.2.2.1 ?_
          refine s6 (p := 91) rfl ?_
          refine s4 (x := x1) rfl ?_
          refine s4 (x := x2) rfl ?_
          obtain ⟨g28, hE⟩ := hE
          obtain ⟨g29, hE⟩ := hE
          obtain ⟨g30, hE⟩ := hE
          obtain ⟨g31, hE⟩ := hE
          refine sV rc277 rfl (Nat.le_of_ble_eq_true rfl) ?_
          refine k277 hR g28 g29 g30 g1 g31 (fun I32 q33 q34 q35 => ?_)
          replace hE := hE I32 q33 q34 q35
          refine s4 (x := x3) rfl ?_
          refine s68 g8 (fun c36 => ?_) (fun c36 => ?_)
          · replace hE := hE.1 c36
            refine s6 (p := 91) rfl ?_
            refine s51 sh91 (by decide) (by decide) rf91_47 ?_
            refine s4 (x := x2) rfl ?_
            obtain ⟨g37, hE⟩ := hE
            refine s40 (v := ld I32 127 x2.toNat) sh127 g37 rfl (oI_ld _ _ _) ?_
            refine s60 ?_
            refine xG gb276.2.2.2.2.2.2 ?_
            refine s80 ?_
            exact rqI_of hE
          · replace hE := hE.2 c36
            refine xG gb276.2.2.2.1 ?_
            refine s4 (x := x3) rfl ?_
            refine s0 ?_
            refine s62 g8 (inRd rfl) (fun c38 => ?_) (fun c38 => ?_)
            · replace hE := hE.1 c38
              refine s6 (p := 91) rfl ?_
              refine s50 (v := ld I32 91 51) sh91 (by decide) (by decide) (oI_ld _ _ _) ?_
              refine s60 ?_
              refine xG gb276.2.2.2.2.2.2 ?_
              refine s80 ?_
              exact rqI_of hE
            · replace hE := hE.2 c38
              refine xG gb276.2.2.2.2.1 ?_
              refine s4 (x := x3) rfl ?_
              refine s0 ?_
              refine s62 g8 (inRd rfl) (fun c39 => ?_) (fun c39 => ?_)
              · replace hE := hE.1 c39
                refine s6 (p := 91) rfl ?_
                refine s50 (v := ld I32 91 49) sh91 (by decide) (by decide) (oI_ld _ _ _) ?_
                refine s6 (p := 91) rfl ?_
                refine s50 (v := ld I32 91 50) sh91 (by decide) (by decide) (oI_ld _ _ _) ?_
                refine s17 ?_
                refine s60 ?_
                refine xG gb276.2.2.2.2.2.2 ?_
                refine s80 ?_
                exact rqI_of hE
              · replace hE := hE.2 c39
                refine xG gb276.2.2.2.2.2.1 ?_
                refine s6 (p := 91) rfl ?_
                refine s51 sh91 (by decide) (by decide) rf91_48 ?_
                refine s4 (x := x3) rfl ?_
                refine s0 ?_
                refine s17 ?_
                obtain ⟨g40, hE⟩ := hE
                refine s40 (v := ld I32 128 (x3 - 10).toNat) sh128 g40 rfl (oI_ld _ _ _) ?_
                refine s79 ?_
                refine xG gb276.2.2.2.2.2.2 ?_
                refine s80 ?_
                exact rqI_of hE
        · replace hE := hE.2 c26
          refine s68 (inRd rfl) (fun _ => ?_) (fun c41 => absurd (by decide) c41)
          refine s79 ?_
          refine xG gb276.2.1 ?_
          refine s0 ?_
          refine s80 ?_
          exact rqI_of hE
    · replace hE := hE.2 c6
      refine s67 (inRd rfl) (fun _ => ?_) (fun c42 => absurd (by decide) c42)
      refine xG gb276.2.1 ?_
      refine s0 ?_
      refine s80 ?_
      exact rqI_of hE
  · replace hE := hE.2 c3
    refine s84 (by decide) ?_
    refine rqI_of ?_
    refine s67 (inRd rfl) (fun _ => ?_) (fun c43 => absurd (by decide) c43)
    refine xG gb276.2.1 ?_
    refine s0 ?_
    refine s80 ?_
    exact rqI_of hE
