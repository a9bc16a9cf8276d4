/-! tokens of a text, as the class reads them -/
def wlL : List Nat := [6, 4, 5, 6, 6, 4, 4, 5, 3, 3, 4, 5, 4, 3, 5, 5, 4, 3, 8, 3, 4, 7, 5, 6, 8, 7, 4, 4, 2, 5, 3, 4, 5, 2, 2, 2, 3, 3, 7, 4, 4]
def wcL : List Int := [109317142704997, 1869441396, 427071729268, 111567739122533, 107152796905060, 1885434739, 1919513445, 444300619380, 6513008, 6710629, 1919905645, 495873779302, 1937007984, 7364985, 499917087592, 495756340332, 1751215206, 6383461, 8319381538418553444, 6578553, 2036687218, 28561341215368548, 499984983410, 123563851081075, 8175547842767975027, 32498687873999732, 1835102827, 1886351218, 24947, 474147546227, 7366002, 1751474532, 426953501796, 26995, 26982, 28530, 6385252, 7237492, 31650977444884084, 1818326117, 2003792491]
def wl (i : Nat) : Nat := wlL.getD i 0
def wc (i : Nat) : Int64 := Int64.ofInt (wcL.getD i 0)
def wW (j : Nat) : Int := wrdS.getD j 0
theorem wW_t : ∀ i, i < 41 → (1 ≤ wl i ∧ wl i ≤ 8) ∧ ∀ j, j < 8 → (j < wl i → 97 ≤ wW (8 * i + j) ∧ wW (8 * i + j) ≤ 122) ∧ (wl i ≤ j → wW (8 * i + j) = 32) := by decide +kernel
theorem wh_t : ∀ i, i < 41 → whL wW (8 * i) (wl i) = wc i := by decide +kernel
theorem wc_0 : ∀ i, i < 41 → ¬ wc i = Int64.ofInt 0 := by decide +kernel
theorem wc_inj : ∀ i, i < 41 → ∀ j, j < 41 → wc i = wc j → i = j := by decide +kernel
abbrev wm (T : Nat → Int) (q k i : Nat) : Prop := (∀ j, j < k → wW (8 * i + j) = T (q + j)) ∧ (k = 8 ∨ wW (8 * i + k) = 32)
def wsF (T : Nat → Int) (q k : Nat) : Nat → Nat → Int
  | 0, _ => 1
  | f + 1, i => if wm T q k i then 128 + (i : Int) else wsF T q k f (i + 1)
def wS (T : Nat → Int) (q k : Nat) : Int := if 8 < k then 1 else wsF T q k 41 0
section
variable {T T' : Nat → Int} {N q q' k : Nat}
theorem whL_congr : ∀ k, (∀ j, j < k → T (q + j) = T' (q' + j)) → whL T q k = whL T' q' k
  | 0, _ => rfl
  | k + 1, h => by
    have h1 := whL_congr k (fun j hj => h j (by omega))
    show (whL T q k <<< ((oI 8).toInt64 &&& 63)) ||| ((oI (T (q + k))).toInt64) = (whL T' q' k <<< ((oI 8).toInt64 &&& 63)) ||| ((oI (T' (q' + k))).toInt64)
    rw [h1, h k (by omega)]
theorem pkN_inj : ∀ k l, (∀ j, j < k → 97 ≤ T (q + j) ∧ T (q + j) ≤ 122) → (∀ j, j < l → 97 ≤ T' (q' + j) ∧ T' (q' + j) ≤ 122) → pkN T q k = pkN T' q' l → k = l ∧ ∀ j, j < k → T (q + j) = T' (q' + j)
  | 0, 0, _, _, _ => ⟨rfl, fun j hj => absurd hj (by omega)⟩
  | 0, l + 1, _, h2, e => by
    have e1 : pkN T q 0 = 0 := rfl
    have e2 : pkN T' q' (l + 1) = 256 * pkN T' q' l + (T' (q' + l)).toNat := rfl
    have := h2 l (by omega)
    omega
  | k + 1, 0, h1, _, e => by
    have e1 : pkN T' q' 0 = 0 := rfl
    have e2 : pkN T q (k + 1) = 256 * pkN T q k + (T (q + k)).toNat := rfl
    have := h1 k (by omega)
    omega
  | k + 1, l + 1, h1, h2, e => by
    have e1 : pkN T' q' (l + 1) = 256 * pkN T' q' l + (T' (q' + l)).toNat := rfl
    have e2 : pkN T q (k + 1) = 256 * pkN T q k + (T (q + k)).toNat := rfl
    have g1 := h1 k (by omega)
    have g2 := h2 l (by omega)
    obtain ⟨i1, i2⟩ := pkN_inj k l (fun j hj => h1 j (by omega)) (fun j hj => h2 j (by omega)) (by omega)
    subst i1
    refine ⟨rfl, fun j hj => ?_⟩
    by_cases c : j = k
    · subst c; omega
    · exact i2 j (by omega)
theorem wm_wh {i : Nat} (hi : i < 41) (hk : k ≤ 8) (hl : ∀ j, j < k → 97 ≤ T (q + j) ∧ T (q + j) ≤ 122) : wm T q k i ↔ whL T q k = wc i := by
  obtain ⟨t0, t⟩ := wW_t i hi
  constructor
  · rintro ⟨a, b⟩
    have e : k = wl i := by
      rcases Nat.lt_trichotomy k (wl i) with c | c | c
      · exfalso
        have := (t k (by omega)).1 c
        omega
      · exact c
      · exfalso
        have g1 := (t (wl i) (by omega)).2 (Nat.le_refl _)
        have g2 := a (wl i) c
        have g3 := hl (wl i) c
        omega
    rw [← wh_t i hi, ← e]
    exact whL_congr k (fun j hj => (a j hj).symm)
  · intro h
    rw [← wh_t i hi] at h
    have hw : ∀ j, j < wl i → 97 ≤ wW (8 * i + j) ∧ wW (8 * i + j) ≤ 122 := fun j hj => (t j (by omega)).1 hj
    have b1 := whL_pk k hk hl
    have b2 := whL_pk (T := wW) (q := 8 * i) (wl i) t0.2 hw
    have l1 := pkN_lt k hl
    have l2 := pkN_lt (T := wW) (q := 8 * i) (wl i) hw
    have p1 : 256 ^ k ≤ 256 ^ 8 := Nat.pow_le_pow_right (by decide) hk
    have p2 : 256 ^ (wl i) ≤ 256 ^ 8 := Nat.pow_le_pow_right (by decide) t0.2
    have h5 : (256 : Nat) ^ 8 = 18446744073709551616 := by decide
    rw [h, b2] at b1
    have b3 := congrArg BitVec.toNat b1
    rw [BitVec.toNat_ofNat, BitVec.toNat_ofNat, Nat.mod_eq_of_lt (by omega), Nat.mod_eq_of_lt (by omega)] at b3
    obtain ⟨e, g⟩ := pkN_inj _ _ hw hl b3
    refine ⟨fun j hj => g j (by omega), ?_⟩
    by_cases c : k = 8
    · exact Or.inl c
    · exact Or.inr ((t k (by omega)).2 (by omega))
theorem wsF_of : ∀ f i v, wsF T q k f i = v → (v = 1 ∧ ∀ j, i ≤ j → j < i + f → ¬ wm T q k j) ∨ ∃ j, i ≤ j ∧ j < i + f ∧ wm T q k j ∧ v = 128 + (j : Int) ∧ ∀ j', i ≤ j' → j' < j → ¬ wm T q k j'
  | 0, i, v, h => Or.inl ⟨h.symm, fun j h1 h2 => absurd h1 (by omega)⟩
  | f + 1, i, v, h => by
    have e : wsF T q k (f + 1) i = if wm T q k i then 128 + (i : Int) else wsF T q k f (i + 1) := rfl
    rw [e] at h
    by_cases c : wm T q k i
    · rw [if_pos c] at h
      exact Or.inr ⟨i, Nat.le_refl _, by omega, c, h.symm, fun j' h1 h2 => absurd h1 (by omega)⟩
    · rw [if_neg c] at h
      rcases wsF_of f (i + 1) v h with ⟨h1, h2⟩ | ⟨j, h1, h2, h3, h4, h5⟩
      · refine Or.inl ⟨h1, fun j h3 h4 => ?_⟩
        by_cases g : j = i
        · subst g; exact c
        · exact h2 j (by omega) (by omega)
      · refine Or.inr ⟨j, by omega, by omega, h3, h4, fun j' g1 g2 => ?_⟩
        by_cases g : j' = i
        · subst g; exact c
        · exact h5 j' (by omega) g2
theorem wS_in : 1 ≤ wS T q k ∧ wS T q k ≤ 168 ∧ (wS T q k = 1 ∨ 128 ≤ wS T q k) := by
  unfold wS
  by_cases c : 8 < k
  · rw [if_pos c]; omega
  · rw [if_neg c]
    rcases wsF_of (T := T) (q := q) (k := k) 41 0 _ rfl with ⟨h1, -⟩ | ⟨j, h1, h2, -, h4, -⟩
    · omega
    · omega
theorem wS_iff {i : Nat} (hi : i < 41) (hl : ∀ j, j < k → 97 ≤ T (q + j) ∧ T (q + j) ≤ 122) : wS T q k = 128 + (i : Int) ↔ k ≤ 8 ∧ whL T q k = wc i := by
  unfold wS
  by_cases c : 8 < k
  · rw [if_pos c]
    constructor
    · intro h; omega
    · intro h; omega
  · rw [if_neg c]
    have hk : k ≤ 8 := by omega
    rcases wsF_of (T := T) (q := q) (k := k) 41 0 _ rfl with ⟨h1, h2⟩ | ⟨j, h1, h2, h3, h4, -⟩
    · constructor
      · intro h; omega
      · intro h; exact absurd ((wm_wh hi hk hl).mpr h.2) (h2 i (by omega) (by omega))
    · have g := (wm_wh (by omega) hk hl).mp h3
      constructor
      · intro h
        have : i = j := by omega
        subst this
        exact ⟨hk, g⟩
      · intro h
        have : i = j := wc_inj i hi j (by omega) (h.2.symm.trans g)
        subst this
        exact h4
end
abbrev isg (c : Int) : Prop := c = 58 ∨ c = 59 ∨ c = 40 ∨ c = 41 ∨ c = 60 ∨ c = 62 ∨ c = 61
/-- kind, number and end of the token at q; END at N -/
def tkK (T : Nat → Int) (N q : Nat) : Int := if q < N then (if 97 ≤ T q ∧ T q ≤ 122 then wS T q (lt T N q - q) else if 48 ≤ T q ∧ T q ≤ 57 then (if dg T N q - q ≤ 4 then 2 else 1) else if isg (T q) then T q else 1) else 0
def tkV (T : Nat → Int) (N q : Nat) : Int := if q < N ∧ (48 ≤ T q ∧ T q ≤ 57) ∧ dg T N q - q ≤ 4 then nv T N q else 0
def tkE (T : Nat → Int) (N q : Nat) : Nat := if q < N then (if 97 ≤ T q ∧ T q ≤ 122 then lt T N q else if 48 ≤ T q ∧ T q ≤ 57 then dg T N q else q + 1) else q
/-- where the tokens stand -/
def plc (T : Nat → Int) (N : Nat) : Nat → Nat
  | 0 => bl T N 0
  | t + 1 => bl T N (tkE T N (plc T N t))
section
variable {T : Nat → Int} {N q p : Nat}
theorem lt_first (h : q < N) (hl : 97 ≤ T q ∧ T q ≤ 122) : q + 1 ≤ lt T N q := by
  obtain ⟨f, hf⟩ : ∃ f, N - q = f + 1 := ⟨N - q - 1, by omega⟩
  have e : lt T N q = if q < N ∧ 97 ≤ T q ∧ T q ≤ 122 then ltk T N f (q + 1) else q := by unfold lt; rw [hf]; rfl
  rw [e, if_pos ⟨h, hl⟩]
  exact (ltk_in f (q + 1) (by omega)).1
theorem lt_none (h : ¬ (q < N ∧ 97 ≤ T q ∧ T q ≤ 122)) : lt T N q = q := by
  unfold lt
  cases hf : N - q with
  | zero => rfl
  | succ f =>
    show (if q < N ∧ 97 ≤ T q ∧ T q ≤ 122 then ltk T N f (q + 1) else q) = q
    rw [if_neg h]
theorem dg_first (h : q < N) (hl : 48 ≤ T q ∧ T q ≤ 57) : q + 1 ≤ dg T N q := by
  obtain ⟨f, hf⟩ : ∃ f, N - q = f + 1 := ⟨N - q - 1, by omega⟩
  have e : dg T N q = if q < N ∧ 48 ≤ T q ∧ T q ≤ 57 then dgk T N f (q + 1) else q := by unfold dg; rw [hf]; rfl
  rw [e, if_pos ⟨h, hl⟩]
  exact (dgk_in f (q + 1) (by omega)).1
theorem dg_none (h : ¬ (q < N ∧ 48 ≤ T q ∧ T q ≤ 57)) : dg T N q = q := by
  unfold dg
  cases hf : N - q with
  | zero => rfl
  | succ f =>
    show (if q < N ∧ 48 ≤ T q ∧ T q ≤ 57 then dgk T N f (q + 1) else q) = q
    rw [if_neg h]
theorem tkE_in (h : q ≤ N) : q ≤ tkE T N q ∧ tkE T N q ≤ N ∧ (q < N → q + 1 ≤ tkE T N q) := by
  have h1 := lt_in (T := T) h
  have h2 := dg_in (T := T) h
  unfold tkE
  by_cases c : q < N
  · rw [if_pos c]
    by_cases c1 : 97 ≤ T q ∧ T q ≤ 122
    · rw [if_pos c1]; have := lt_first c c1; omega
    · rw [if_neg c1]
      by_cases c2 : 48 ≤ T q ∧ T q ≤ 57
      · rw [if_pos c2]; have := dg_first c c2; omega
      · rw [if_neg c2]; omega
  · rw [if_neg c]; omega
theorem tkK_c : (¬ q < N ∧ tkK T N q = 0 ∧ tkE T N q = q) ∨ (q < N ∧ (97 ≤ T q ∧ T q ≤ 122) ∧ tkK T N q = wS T q (lt T N q - q) ∧ tkE T N q = lt T N q) ∨ (q < N ∧ (48 ≤ T q ∧ T q ≤ 57) ∧ dg T N q - q ≤ 4 ∧ tkK T N q = 2 ∧ tkE T N q = dg T N q) ∨ (q < N ∧ (48 ≤ T q ∧ T q ≤ 57) ∧ ¬ dg T N q - q ≤ 4 ∧ tkK T N q = 1 ∧ tkE T N q = dg T N q) ∨ (q < N ∧ isg (T q) ∧ tkK T N q = T q ∧ tkE T N q = q + 1) ∨ (q < N ∧ ¬ (97 ≤ T q ∧ T q ≤ 122) ∧ ¬ (48 ≤ T q ∧ T q ≤ 57) ∧ ¬ isg (T q) ∧ tkK T N q = 1) := by
  unfold tkK tkE
  by_cases c : q < N
  · rw [if_pos c, if_pos c]
    by_cases c1 : 97 ≤ T q ∧ T q ≤ 122
    · rw [if_pos c1, if_pos c1]; exact Or.inr (Or.inl ⟨c, c1, rfl, rfl⟩)
    · rw [if_neg c1, if_neg c1]
      by_cases c2 : 48 ≤ T q ∧ T q ≤ 57
      · rw [if_pos c2, if_pos c2]
        by_cases c3 : dg T N q - q ≤ 4
        · rw [if_pos c3]; exact Or.inr (Or.inr (Or.inl ⟨c, c2, c3, rfl, rfl⟩))
        · rw [if_neg c3]; exact Or.inr (Or.inr (Or.inr (Or.inl ⟨c, c2, c3, rfl, rfl⟩)))
      · rw [if_neg c2, if_neg c2]
        by_cases c3 : isg (T q)
        · rw [if_pos c3]; exact Or.inr (Or.inr (Or.inr (Or.inr (Or.inl ⟨c, c3, rfl, rfl⟩))))
        · rw [if_neg c3]; exact Or.inr (Or.inr (Or.inr (Or.inr (Or.inr ⟨c, c1, c2, c3, rfl⟩))))
  · rw [if_neg c, if_neg c]; exact Or.inl ⟨c, rfl, rfl⟩
theorem tk_word {i : Nat} (hi : i < 41) (hq : q ≤ N) : tkOk T N q (wc i) ↔ tkK T N q = 128 + (i : Int) := by
  have hl : ∀ j, j < lt T N q - q → 97 ≤ T (q + j) ∧ T (q + j) ≤ 122 := fun j hj => lt_let (q := q) (N := N) (by omega) (by omega)
  constructor
  · intro h
    have h1 := tk_pos hq (wc_0 i hi) h
    rcases tkK_c (T := T) (N := N) (q := q) with c | c | c | c | c | c
    · have := lt_none (T := T) (N := N) (q := q) (fun g => c.1 g.1); omega
    · rw [c.2.2.1]; exact (wS_iff hi hl).mpr h
    · have := lt_none (T := T) (N := N) (q := q) (by omega); omega
    · have := lt_none (T := T) (N := N) (q := q) (by omega); omega
    · have := lt_none (T := T) (N := N) (q := q) (by have := c.2.1; unfold isg at this; omega); omega
    · have := lt_none (T := T) (N := N) (q := q) (by omega); omega
  · intro h
    rcases tkK_c (T := T) (N := N) (q := q) with c | c | c | c | c | c
    · omega
    · rw [c.2.2.1] at h; exact (wS_iff hi hl).mp h
    · omega
    · omega
    · have := c.2.1; unfold isg at this; omega
    · omega
theorem tk_wordE {i : Nat} (h : tkK T N q = 128 + (i : Int)) : tkE T N q = lt T N q := by
  rcases tkK_c (T := T) (N := N) (q := q) with c | c | c | c | c | c
  · omega
  · exact c.2.2.2
  · omega
  · omega
  · have := c.2.1; unfold isg at this; omega
  · omega
theorem tk_num {lo hi : Int} (hq : q ≤ N) : nmOk T N q lo hi ↔ tkK T N q = 2 ∧ lo ≤ tkV T N q ∧ tkV T N q ≤ hi := by
  rcases tkK_c (T := T) (N := N) (q := q) with c | c | c | c | c | c
  · have := dg_none (T := T) (N := N) (q := q) (fun g => c.1 g.1)
    exact ⟨fun h => absurd this h.1, fun h => by omega⟩
  · have := dg_none (T := T) (N := N) (q := q) (by omega)
    have w := wS_in (T := T) (q := q) (k := lt T N q - q)
    exact ⟨fun h => absurd this h.1, fun h => by omega⟩
  · have e : tkV T N q = nv T N q := if_pos ⟨c.1, c.2.1, c.2.2.1⟩
    have := dg_first (T := T) c.1 c.2.1
    rw [e]
    exact ⟨fun h => ⟨c.2.2.2.1, h.2.2⟩, fun h => ⟨by omega, c.2.2.1, h.2⟩⟩
  · exact ⟨fun h => absurd h.2.1 c.2.2.1, fun h => by omega⟩
  · have := dg_none (T := T) (N := N) (q := q) (by have := c.2.1; unfold isg at this; omega)
    exact ⟨fun h => absurd this h.1, fun h => by have := c.2.1; unfold isg at this; omega⟩
  · have := dg_none (T := T) (N := N) (q := q) (by omega)
    exact ⟨fun h => absurd this h.1, fun h => by omega⟩
theorem tk_numE (h : tkK T N q = 2) : tkE T N q = dg T N q ∧ tkV T N q = nv T N q ∧ 0 ≤ nv T N q ∧ nv T N q ≤ 9999 := by
  rcases tkK_c (T := T) (N := N) (q := q) with c | c | c | c | c | c
  · omega
  · have w := wS_in (T := T) (q := q) (k := lt T N q - q)
    omega
  · refine ⟨c.2.2.2.2, if_pos ⟨c.1, c.2.1, c.2.2.1⟩, ?_⟩
    have hd : ∀ j, j < min (dg T N q - q) 4 → 48 ≤ T (q + j) ∧ T (q + j) ≤ 57 := fun j hj => dgk_dig (N - q) q (q + j) (by omega) (by show q + j < dg T N q; omega)
    have h1 := nvL_in (T := T) (q := q) _ hd
    have h2 : (10 : Int) ^ (min (dg T N q - q) 4) ≤ 10 ^ 4 := by
      have : min (dg T N q - q) 4 = 0 ∨ min (dg T N q - q) 4 = 1 ∨ min (dg T N q - q) 4 = 2 ∨ min (dg T N q - q) 4 = 3 ∨ min (dg T N q - q) 4 = 4 := by omega
      rcases this with e | e | e | e | e <;> rw [e] <;> decide
    have h3 : (10 : Int) ^ 4 = 10000 := by decide
    unfold nv
    omega
  · omega
  · have := c.2.1; unfold isg at this; omega
  · omega
theorem tk_sign {b : Int} (hb : isg b) : (q < N ∧ T q = b) ↔ tkK T N q = b := by
  have hb2 := hb
  unfold isg at hb2
  rcases tkK_c (T := T) (N := N) (q := q) with c | c | c | c | c | c
  · exact ⟨fun h => absurd h.1 c.1, fun h => by omega⟩
  · have w := wS_in (T := T) (q := q) (k := lt T N q - q)
    exact ⟨fun h => by omega, fun h => by omega⟩
  · exact ⟨fun h => by omega, fun h => by omega⟩
  · exact ⟨fun h => by omega, fun h => by omega⟩
  · rw [c.2.2.1]
    exact ⟨fun h => h.2, fun h => ⟨c.1, h⟩⟩
  · exact ⟨fun h => absurd (h.2 ▸ hb) c.2.2.2.1, fun h => by omega⟩
theorem tk_signE {b : Int} (hb : isg b) (h : tkK T N q = b) : tkE T N q = q + 1 := by
  have hb2 := hb
  unfold isg at hb2
  rcases tkK_c (T := T) (N := N) (q := q) with c | c | c | c | c | c
  · omega
  · have w := wS_in (T := T) (q := q) (k := lt T N q - q)
    omega
  · omega
  · omega
  · exact c.2.2.2
  · omega
theorem tk_end : tkK T N q = 0 ↔ ¬ q < N := by
  rcases tkK_c (T := T) (N := N) (q := q) with c | c | c | c | c | c
  · exact ⟨fun _ => c.1, fun _ => c.2.1⟩
  · have w := wS_in (T := T) (q := q) (k := lt T N q - q)
    exact ⟨fun h => by omega, fun h => absurd c.1 h⟩
  · exact ⟨fun h => by omega, fun h => absurd c.1 h⟩
  · exact ⟨fun h => by omega, fun h => absurd c.1 h⟩
  · have := c.2.1; unfold isg at this; exact ⟨fun h => by omega, fun h => absurd c.1 h⟩
  · exact ⟨fun h => by omega, fun h => absurd c.1 h⟩
theorem tkK_in : 0 ≤ tkK T N q ∧ tkK T N q ≤ 168 := by
  rcases tkK_c (T := T) (N := N) (q := q) with c | c | c | c | c | c
  · omega
  · have w := wS_in (T := T) (q := q) (k := lt T N q - q); omega
  · omega
  · omega
  · have := c.2.1; unfold isg at this; omega
  · omega
theorem tkV_in : 0 ≤ tkV T N q ∧ tkV T N q ≤ 9999 := by
  by_cases c : q < N ∧ (48 ≤ T q ∧ T q ≤ 57) ∧ dg T N q - q ≤ 4
  · have e : tkV T N q = nv T N q := if_pos c
    rcases tkK_c (T := T) (N := N) (q := q) with g | g | g | g | g | g
    · omega
    · omega
    · have := (tk_numE g.2.2.2.1).2.2; omega
    · omega
    · have := g.2.1; unfold isg at this; omega
    · omega
  · have e : tkV T N q = 0 := if_neg c
    omega
theorem plc_in : ∀ t, plc T N t ≤ N
  | 0 => (bl_in (Nat.zero_le _)).2
  | t + 1 => (bl_in (tkE_in (plc_in t)).2.1).2
theorem blk_bl : ∀ f p, p + f = N → ¬ (blk T N f p < N ∧ (T (blk T N f p) = 32 ∨ T (blk T N f p) = 10))
  | 0, p, h => by show ¬ (p < N ∧ _); omega
  | f + 1, p, h => by
    have e : blk T N (f + 1) p = if p < N ∧ (T p = 32 ∨ T p = 10) then blk T N f (p + 1) else p := rfl
    rw [e]
    by_cases c : p < N ∧ (T p = 32 ∨ T p = 10)
    · rw [if_pos c]; exact blk_bl f (p + 1) (by omega)
    · rw [if_neg c]; exact c
theorem bl_nb (h : p ≤ N) : ¬ (bl T N p < N ∧ (T (bl T N p) = 32 ∨ T (bl T N p) = 10)) := blk_bl _ _ (by omega)
theorem bl_of (h : ¬ (p < N ∧ (T p = 32 ∨ T p = 10))) : bl T N p = p := by
  unfold bl
  cases hf : N - p with
  | zero => rfl
  | succ f =>
    show (if p < N ∧ (T p = 32 ∨ T p = 10) then blk T N f (p + 1) else p) = p
    rw [if_neg h]
theorem bl_idm (h : p ≤ N) : bl T N (bl T N p) = bl T N p := bl_of (bl_nb h)
theorem bl_one (h : p < N ∧ (T p = 32 ∨ T p = 10)) : bl T N p = bl T N (p + 1) := by
  obtain ⟨f, hf⟩ : ∃ f, N - p = f + 1 := ⟨N - p - 1, by omega⟩
  unfold bl
  rw [hf, show N - (p + 1) = f by omega]
  show (if p < N ∧ (T p = 32 ∨ T p = 10) then blk T N f (p + 1) else p) = _
  rw [if_pos h]
theorem plc_bl (t : Nat) : bl T N (plc T N t) = plc T N t := by
  cases t with
  | zero => exact bl_idm (Nat.zero_le _)
  | succ t => exact bl_idm (tkE_in (plc_in t)).2.1
end
