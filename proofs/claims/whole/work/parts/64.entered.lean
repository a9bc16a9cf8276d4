/-! the reference: the choice -/
noncomputable def lfP (A : aS) (year hours : Int) (l : List Nat) : Nat → Int
  | 0 => hours
  | r + 1 => lfP A year hours l r - hrS A year (pkS (fun t => hrS A year t) (fun t => woS A (l.getD r 0) year t) ((wsL A year l).drop (r + 1)) (lfP A year hours l r) : Nat)
noncomputable def ckP (A : aS) (year hours : Int) (l : List Nat) (r : Nat) : Nat := pkS (fun t => hrS A year t) (fun t => woS A (l.getD r 0) year t) ((wsL A year l).drop (r + 1)) (lfP A year hours l r)
noncomputable def enP (A : aS) (year hours : Int) (l : List Nat) : Nat → Int
  | 0 => 0
  | r + 1 => enP A year hours l r + (if ((ckP A year hours l r : Nat) : Int) = 0 then 0 else 1)
noncomputable def stP (A : aS) (year hours : Int) (l : List Nat) : Nat → Nat → Int
  | 0, _ => 0
  | r + 1, c => if c = l.getD r 0 then (ckP A year hours l r : Nat) else stP A year hours l r c
theorem lfP_in {A : aS} (hC : WfC A) {year hours : Int} {l : List Nat} (hh : 0 ≤ hours) : ∀ r, 0 ≤ lfP A year hours l r ∧ lfP A year hours l r ≤ hours
  | 0 => by unfold lfP; omega
  | r + 1 => by
    have ih := lfP_in hC (year := year) (l := l) hh r
    have h := pkS_spec (H := fun t => hrS A year t) (M := 599940) (hr_ok hC) (by omega) (wo_ok hC (c := ((l.getD r 0 : Nat) : Int)) (year := year)) (ws_ok hC (l := l) (year := year) (r + 1)) ih.1
    have h2 := h.2.2.1
    have h3 := (hr_ok hC (code := year)).1 (pkS (fun t => hrS A year t) (fun t => woS A (l.getD r 0) year t) ((wsL A year l).drop (r + 1)) (lfP A year hours l r))
    dsimp only at h2 h3
    unfold lfP
    omega
noncomputable def yrT (A : aS) : Int := Int.tdiv (A 91 0) 100
def rwN (A : aS) (school : Int) : List Nat := rwL A school (A 91 1).toNat
/-- what lies there behind the choice -/
def EnR (A : aS) (school hours : Int) (I : mI) : Prop := ld I 127 hours.toNat = mfS (fun t => hrS A (yrT A) t) (wsL A (yrT A) (rwN A school)) hours ∧ ld I 91 51 = hours - lfP A (yrT A) hours (rwN A school) (rwN A school).length ∧ ld I 91 49 = (rwN A school).length ∧ ld I 91 50 = enP A (yrT A) hours (rwN A school) (rwN A school).length ∧ ∀ c : Nat, c < (A 91 1).toNat → ld I 128 c = stP A (yrT A) hours (rwN A school) (rwN A school).length c
theorem enP_in {A : aS} {year hours : Int} {l : List Nat} : ∀ r : Nat, 0 ≤ enP A year hours l r ∧ enP A year hours l r ≤ r
  | 0 => by unfold enP; omega
  | r + 1 => by have := enP_in (A := A) (year := year) (hours := hours) (l := l) r; unfold enP; split <;> omega
section
variable {d L : Nat} {I I0 : mI} {R : Nat → Nat → Option Nat} {S : List (Nat × Nat)} {Q : Option Value → mM → Prop} {A : aS} {c day known kind half year subj code : Int} {w1 w3 : Value}
theorem l277_16 {hours : Int} {l : List Nat} (hC : WfC A) (hl : l.length ≤ 40) (hq : ∀ q ∈ l, q < 40) (hh : 0 ≤ hours ∧ hours ≤ 200) (hK : ∀ I1, RM I1 A → Fr [128] [(91, 50), (91, 51)] I0 I1 → ld I1 91 51 = hours - lfP A year hours l l.length → ld I1 91 50 = enP A year hours l l.length → (∀ c : Nat, c < 40 → (∀ c : Nat, c < 40 → ld I0 128 c = 0) → ld I1 128 c = stP A year hours l l.length c) → Q none (bd L I1 R S)) : ∀ (n r : Nat) (I : mI) (w3 w6 w7 : Value), r + n = l.length → RM I A → Fr [128] [(91, 50), (91, 51)] I0 I → RwI A year l I → HrI A year I → MfI A year hours l 0 I → ld I 91 50 = enP A year hours l r → (∀ c : Nat, c < 40 → (∀ c : Nat, c < 40 → ld I0 128 c = 0) → ld I 128 c = stP A year hours l r c) → h277_16 (d + 1) L I R S Q w1 hours w3 (lfP A year hours l r) r w6 w7 := by
  intro n
  induction n with
  | zero =>
    intro r I w3 w6 w7 hr hR hf hw hH hm h50 hs
    have er : r = l.length := by omega
    have li := lfP_in hC (year := year) (l := l) hh.1 r
    have e49 := hw.1
    refine e277_16 hR ?_
    rw [e49]
    refine ⟨⟨by omega, by omega⟩, fun h => by exfalso; omega, fun _ => hK _ (hR.scr rfl) (hf.wr rfl) ?_ ?_ (fun c hc hz => ?_)⟩
    · rw [ld_w ⟨by omega, by omega⟩, if_pos rfl, er]
    · rw [(fr1 I 91 51 _).ld rfl, h50, er]
    · rw [(fr1 I 91 51 _).ld rfl, hs c hc hz, er]
  | succ n ih =>
    intro r I w3 w6 w7 hr hR hf hw hH hm h50 hs
    have li := lfP_in hC (year := year) (l := l) hh.1 r
    have e49 := hw.1
    have ei := enP_in (A := A) (year := year) (hours := hours) (l := l) (r + 1)
    have sp := pkS_spec (H := fun t => hrS A year t) (M := 599940) (hr_ok hC) (by omega) (wo_ok hC (c := ((l.getD r 0 : Nat) : Int)) (year := year)) (ws_ok hC (l := l) (year := year) (r + 1)) li.1
    refine e277_16 hR ?_
    rw [e49]
    refine ⟨⟨by omega, by omega⟩, fun _ => ?_, fun h => by exfalso; omega⟩
    have hwg := ws_get (A := A) (year := year) (l := l) (r := r) (by omega)
    refine l277_17 hC hl (by omega) hq ⟨li.1, li.2, hh.2⟩ hR hw hH hm (fun w3 w6 w7 => ?_) 64 0 rfl ⟨_, Nat.zero_le _, sp.1, ?_⟩ ?_ w3 w7
    · have en : enP A year hours l r + (if ((pkS (fun t => hrS A year t) (fun t => woS A (l.getD r 0) year t) ((wsL A year l).drop (r + 1)) (lfP A year hours l r) : Nat) : Int) = 0 then (0 : Int) else 1) = enP A year hours l (r + 1) := rfl
      rw [h50, en]
      have er : inR (enP A year hours l (r + 1)) := ⟨by omega, by omega⟩
      have pr : inR ((pkS (fun t => hrS A year t) (fun t => woS A (l.getD r 0) year t) ((wsL A year l).drop (r + 1)) (lfP A year hours l r) : Nat) : Int) := ⟨by omega, by have := sp.1; omega⟩
      refine ih (r + 1) _ w3 w6 w7 (by omega) ((hR.scr rfl).scr rfl) ((hf.wr rfl).wr rfl) ((hw.fr (frA I 128 _ _) rfl (fun _ => rfl) (fun _ => rfl)).fr (fr1 _ 91 50 _) rfl (fun _ => rfl) (fun _ => rfl)) ((hH.fr (frA I 128 _ _) (fun _ => rfl)).fr (fr1 _ 91 50 _) (fun _ => rfl)) ?_ ?_ ?_
      · intro r' h1 h2 j h3
        rw [ld_o (by decide), ld_o (by decide)]; exact hm r' h1 h2 j h3
      · rw [ld_w er, if_pos rfl]
      · intro c hc hz
        rw [ld_o (by decide), ld_w pr]
        show _ = if c = l.getD r 0 then _ else _
        by_cases e : c = l.getD r 0
        · rw [if_pos e, if_pos e]; rfl
        · rw [if_neg e, if_neg e]; exact hs c hc hz
    · rw [hwg]; exact sp.2
    · rw [hwg]; rfl
theorem l277_9 {hours : Int} {l : List Nat} (hC : WfC A) (hl : l.length ≤ 40) (hq : ∀ q ∈ l, q < 40) (hh : 0 ≤ hours ∧ hours ≤ 200) (h128 : ∀ c : Nat, c < 40 → True) (hK : ∀ I1, RM I1 A → Fr [127, 128] [(91, 50), (91, 51)] I0 I1 → ld I1 127 hours.toNat = mfS (fun t => hrS A year t) (wsL A year l) hours → ld I1 91 51 = hours - lfP A year hours l l.length → ld I1 91 50 = enP A year hours l l.length → (∀ c : Nat, c < 40 → (∀ c : Nat, c < 40 → ld I0 128 c = 0) → ld I1 128 c = stP A year hours l l.length c) → Q none (bd L I1 R S)) : ∀ (r : Nat) (I : mI) (w3 w5 w6 w7 : Value), r ≤ l.length → RM I A → Fr [127] [] I0 I → RwI A year l I → HrI A year I → MfI A year hours l r I → h277_9 (d + 1) L I R S Q w1 hours w3 ((r : Int) + -1) w5 w6 w7 := by
  intro r
  induction r with
  | zero =>
    intro I w3 w5 w6 w7 hr hR hf hw hH hm
    refine e277_9 hR ⟨inRd rfl, fun _ => ?_, fun h => absurd (by decide) h⟩
    have q9 := l277_16 (d := d) (L := L) (R := R) (S := S) (Q := Q) (w1 := w1) (I0 := u2 I 91 50 (oI 0)) (year := year) (hours := hours) (l := l) hC hl hq hh (fun I1 h1 h2 h3 h4 h5 => hK I1 h1 ((hf.sub rfl rfl).trans (((Fr.refl _ _ _).wr rfl).trans (h2.sub rfl rfl))) ?_ h3 h4 (fun c hc hz => h5 c hc (fun c hc => by rw [ld_o (by decide), hf.ld rfl]; exact hz c hc))) l.length 0 (u2 I 91 50 (oI 0)) (mNl w3) w6 w7 (by omega) (hR.scr rfl) (Fr.refl _ _ _) (hw.fr (fr1 I 91 50 _) rfl (fun _ => rfl) (fun _ => rfl)) (hH.fr (fr1 I 91 50 _) (fun _ => rfl)) ?_ ?_ ?_
    · exact q9
    · have m0 := hm 0 (Nat.le_refl _) (by omega) hours.toNat (by omega)
      rw [show ((hours.toNat : Nat) : Int) = hours by omega, Nat.mul_zero, Nat.zero_add, List.drop_zero] at m0
      rw [h2.ld rfl, ld_o (by decide)]; exact m0
    · intro r' h1 h2 j h3
      rw [ld_o (by decide)]; exact hm r' h1 h2 j h3
    · rw [ld_w (inRd rfl), if_pos rfl]; rfl
    · intro c hc hz; rw [hz c hc]; rfl
  | succ r ih =>
    intro I w3 w5 w6 w7 hr hR hf hw hH hm
    have er : (((r + 1 : Nat) : Int) + -1) = r := by omega
    rw [er]
    refine e277_9 hR ⟨⟨by omega, by omega⟩, fun h => by exfalso; omega, fun _ => ?_⟩
    refine l277_10 (I0 := I) (year := year) (l := l) (r := r) hC hl (by omega) hh (fun I1 w5 w6 w7 h1 h2 h3 => ih I1 _ w5 w6 w7 (by omega) h1 (hf.trans h2) (hw.fr h2 rfl (fun _ => rfl) (fun _ => rfl)) (hH.fr h2 (fun _ => rfl)) h3) (hours.toNat + 1) 0 I w6 w7 (by omega) hR (Fr.refl _ _ _) hw hH hm (fun j hj => by omega)
theorem l277_7 {hours : Int} {l : List Nat} (hC : WfC A) (hl : l.length ≤ 40) (hq : ∀ q ∈ l, q < 40) (hh : 0 ≤ hours ∧ hours ≤ 200) (hK : ∀ I1, RM I1 A → Fr [127, 128] [(91, 50), (91, 51)] I0 I1 → ld I1 127 hours.toNat = mfS (fun t => hrS A year t) (wsL A year l) hours → ld I1 91 51 = hours - lfP A year hours l l.length → ld I1 91 50 = enP A year hours l l.length → (∀ c : Nat, c < 40 → (∀ c : Nat, c < 40 → ld I0 128 c = 0) → ld I1 128 c = stP A year hours l l.length c) → Q none (bd L I1 R S)) : ∀ (n h : Nat) (I : mI) (w3 w5 w6 w7 : Value), h + n = hours.toNat + 1 → RM I A → Fr [127] [] I0 I → RwI A year l I → HrI A year I → (∀ j : Nat, j < h → ld I 127 (201 * l.length + j) = 0) → h277_7 (d + 1) L I R S Q w1 hours w3 h w5 w6 w7 := by
  intro n
  induction n with
  | zero =>
    intro h I w3 w5 w6 w7 hn hR hf hw hH hj
    have e49 := hw.1
    refine e277_7 hR ?_
    rw [e49]
    refine ⟨⟨by omega, by omega⟩, ⟨by omega, by omega⟩, fun _ => ?_, fun h => by exfalso; omega⟩
    refine l277_9 (d := d) hC hl hq hh (fun _ _ => trivial) hK l.length I _ _ _ _ (Nat.le_refl _) hR hf hw hH ?_
    intro r' h1 h2 j h3
    have e : r' = l.length := by omega
    subst e
    rw [hj j (by omega)]
    have : (wsL A year l).drop l.length = [] := by
      have := ws_len (A := A) (year := year) (l := l) l.length
      rw [Nat.sub_self] at this
      exact List.eq_nil_of_length_eq_zero this
    rw [this]; rfl
  | succ n ih =>
    intro h I w3 w5 w6 w7 hn hR hf hw hH hj
    have e49 := hw.1
    refine e277_7 hR ?_
    rw [e49]
    refine ⟨⟨by omega, by omega⟩, ⟨by omega, by omega⟩, fun h => by exfalso; omega, fun _ => ⟨by omega, ?_⟩⟩
    rw [show (201 * (l.length : Int) + h).toNat = 201 * l.length + h by omega]
    refine ih (h + 1) _ _ w5 w6 w7 (by omega) (hR.scr rfl) (hf.wr rfl) (hw.fr (frA I 127 _ _) rfl (fun _ => rfl) (fun _ => rfl)) (hH.fr (frA I 127 _ _) (fun _ => rfl)) (fun j hj2 => ?_)
    rw [ld_w (inRd rfl)]
    by_cases e : j = h
    · rw [if_pos (by omega)]
    · rw [if_neg (by omega)]; exact hj j (by omega)
end
