/-! how long what is written is, against its text -/
def rl (b : Bool) (ts : List Tk) : Nat := (rnd ([], b) ts).1.length
def ru (b : Bool) (ts : List Tk) : Bool := (rnd ([], b) ts).2
def gpN (b : Bool) : Nat := if b = true then 1 else 0
theorem stk_base (B : List Int) (b : Bool) (t : Tk) : stk (B, b) t = (B ++ (stk ([], b) t).1, (stk ([], b) t).2) := by
  rcases t with w | v | c
  · show (B ++ (gpB b ++ wB w), true) = (B ++ ([] ++ (gpB b ++ wB w)), true)
    rw [List.nil_append]
  · show (B ++ (gpB b ++ dB v), true) = (B ++ ([] ++ (gpB b ++ dB v)), true)
    rw [List.nil_append]
  · rfl
theorem rnd_base : ∀ (ts : List Tk) (B : List Int) (b : Bool), rnd (B, b) ts = (B ++ (rnd ([], b) ts).1, (rnd ([], b) ts).2)
  | [], B, b => by show (B, b) = (B ++ [], b); rw [List.append_nil]
  | t :: ts, B, b => by
    show rnd (stk (B, b) t) ts = (B ++ (rnd (stk ([], b) t) ts).1, (rnd (stk ([], b) t) ts).2)
    rw [stk_base, rnd_base ts (B ++ (stk ([], b) t).1) _, show stk ([], b) t = ((stk ([], b) t).1, (stk ([], b) t).2) from rfl, rnd_base ts (stk ([], b) t).1 _, List.append_assoc]
theorem rl_app (b : Bool) (ts us : List Tk) : rl b (ts ++ us) = rl b ts + rl (ru b ts) us := by
  unfold rl ru
  rw [rnd_app, show rnd ([], b) ts = ((rnd ([], b) ts).1, (rnd ([], b) ts).2) from rfl, rnd_base us, List.length_append]
theorem rl_cons (b : Bool) (t : Tk) (us : List Tk) : rl b (t :: us) = (stk ([], b) t).1.length + rl (stk ([], b) t).2 us := by
  show rl b ([t] ++ us) = _
  rw [rl_app]; rfl
theorem gpB_len (b : Bool) : (gpB b).length = gpN b := by cases b <;> rfl
theorem rl_W (b : Bool) (w : Int64) (us : List Tk) : rl b (tW w :: us) = gpN b + (wB w).length + rl true us := by
  rw [rl_cons]
  show ([] ++ (gpB b ++ wB w)).length + rl true us = _
  rw [List.nil_append, List.length_append, gpB_len]
theorem rl_N (b : Bool) (v : Int) (us : List Tk) : rl b (tN v :: us) = gpN b + (dB v).length + rl true us := by
  rw [rl_cons]
  show ([] ++ (gpB b ++ dB v)).length + rl true us = _
  rw [List.nil_append, List.length_append, gpB_len]
theorem rl_S (b : Bool) (c : Int) (us : List Tk) : rl b (tS c :: us) = 1 + rl false us := by
  rw [rl_cons]; rfl
theorem rl_nil (b : Bool) : rl b [] = 0 := rfl
theorem gpN_le (b : Bool) : gpN b ≤ 1 := by cases b <;> decide
def chg (T : Nat → Int) (N : Nat) (b : Bool) (p : Nat) : Nat := if b = true ∧ bl T N p = p ∧ p < N ∧ (97 ≤ T p ∧ T p ≤ 122) then 1 else 0
section
variable {T : Nat → Int} {N F p r q : Nat} {b : Bool}
theorem chg_le : chg T N b p ≤ 1 := by unfold chg; split <;> decide
theorem chg_f : chg T N false p = 0 := by unfold chg; rw [if_neg (fun h => absurd h.1 (by decide))]
theorem chg_lt (h : q ≤ N) : chg T N b (lt T N q) = 0 := by
  have := lt_end (T := T) h
  unfold chg
  rw [if_neg (fun h => this ⟨h.2.2.1, h.2.2.2⟩)]
theorem gb_chg (hp : p ≤ N) (h : bl T N p < N ∧ 97 ≤ T (bl T N p) ∧ T (bl T N p) ≤ 122) : gpN b ≤ (bl T N p - p) + chg T N b p := by
  have h1 := bl_in (T := T) hp
  have h2 := gpN_le b
  by_cases e : bl T N p = p
  · rw [e] at h
    cases b with
    | false => exact Nat.zero_le _
    | true => unfold chg; rw [if_pos ⟨rfl, e, h⟩]; omega
  · omega
theorem dgk_dig : ∀ f p j, p ≤ j → j < dgk T N f p → 48 ≤ T j ∧ T j ≤ 57
  | 0, p, j, h1, h2 => by have h3 : dgk T N 0 p = p := rfl; omega
  | f + 1, p, j, h1, h2 => by
    have h3 : dgk T N (f + 1) p = if p < N ∧ 48 ≤ T p ∧ T p ≤ 57 then dgk T N f (p + 1) else p := rfl
    rw [h3] at h2
    split at h2
    · rename_i c
      by_cases e : j = p
      · rw [e]; exact c.2
      · exact dgk_dig f (p + 1) j (by omega) h2
    · omega
theorem dB_nv {lo hi : Int} (hq : q ≤ N) (h : nmOk T N q lo hi) : (dB (nv T N q)).length ≤ dg T N q - q ∧ 1 ≤ dg T N q - q := by
  have h1 := h.1
  have h2 := h.2.1
  have h3 := dg_in (T := T) hq
  have h4 : min (dg T N q - q) 4 = dg T N q - q := by omega
  have h5 := nvL_in (T := T) (q := q) (dg T N q - q) (fun j hj => dgk_dig (N := N) (N - q) q (q + j) (by omega) (by have : dg T N q = dgk T N (N - q) q := rfl; omega))
  unfold nv
  rw [h4]
  refine ⟨?_, by omega⟩
  have hk : dg T N q - q = 1 ∨ dg T N q - q = 2 ∨ dg T N q - q = 3 ∨ dg T N q - q = 4 := by omega
  unfold dB
  rcases hk with e | e | e | e <;> rw [e] at h5 ⊢
  · rw [if_neg (by omega), dL_len]; decide
  · by_cases g : 9 < nvL T q 2
    · rw [if_pos g, if_neg (by omega), dL_len]; decide
    · rw [if_neg g, dL_len]; decide
  · by_cases g : 9 < nvL T q 3
    · rw [if_pos g]
      by_cases g2 : 99 < nvL T q 3
      · rw [if_pos g2, if_neg (by omega), dL_len]; decide
      · rw [if_neg g2, dL_len]; decide
    · rw [if_neg g, dL_len]; decide
  · exact dB_len
theorem nm_tk (h : ¬ nmS T N q = -1) : tkOk T N q (nmW (nmS T N q)) := by
  unfold nmS at h ⊢
  by_cases c0 : tkOk T N q (Int64.ofInt 6383461)
  · rw [if_pos c0]; exact c0
  by_cases c1 : tkOk T N q (Int64.ofInt 8319381538418553444)
  · rw [if_neg c0, if_pos c1]; exact c1
  by_cases c2 : tkOk T N q (Int64.ofInt 6578553)
  · rw [if_neg c0, if_neg c1, if_pos c2]; exact c2
  by_cases c3 : tkOk T N q (Int64.ofInt 2036687218)
  · rw [if_neg c0, if_neg c1, if_neg c2, if_pos c3]; exact c3
  by_cases c4 : tkOk T N q (Int64.ofInt 1751215206)
  · rw [if_neg c0, if_neg c1, if_neg c2, if_neg c3, if_pos c4]; exact c4
  by_cases c5 : tkOk T N q (Int64.ofInt 28561341215368548)
  · rw [if_neg c0, if_neg c1, if_neg c2, if_neg c3, if_neg c4, if_pos c5]; exact c5
  by_cases c6 : tkOk T N q (Int64.ofInt 499984983410)
  · rw [if_neg c0, if_neg c1, if_neg c2, if_neg c3, if_neg c4, if_neg c5, if_pos c6]; exact c6
  by_cases c7 : tkOk T N q (Int64.ofInt 123563851081075)
  · rw [if_neg c0, if_neg c1, if_neg c2, if_neg c3, if_neg c4, if_neg c5, if_neg c6, if_pos c7]; exact c7
  by_cases c8 : tkOk T N q (Int64.ofInt 8175547842767975027)
  · rw [if_neg c0, if_neg c1, if_neg c2, if_neg c3, if_neg c4, if_neg c5, if_neg c6, if_neg c7, if_pos c8]; exact c8
  by_cases c9 : tkOk T N q (Int64.ofInt 32498687873999732)
  · rw [if_neg c0, if_neg c1, if_neg c2, if_neg c3, if_neg c4, if_neg c5, if_neg c6, if_neg c7, if_neg c8, if_pos c9]; exact c9
  by_cases c10 : tkOk T N q (Int64.ofInt 1835102827)
  · rw [if_neg c0, if_neg c1, if_neg c2, if_neg c3, if_neg c4, if_neg c5, if_neg c6, if_neg c7, if_neg c8, if_neg c9, if_pos c10]; exact c10
  by_cases c11 : tkOk T N q (Int64.ofInt 1886351218)
  · rw [if_neg c0, if_neg c1, if_neg c2, if_neg c3, if_neg c4, if_neg c5, if_neg c6, if_neg c7, if_neg c8, if_neg c9, if_neg c10, if_pos c11]; exact c11
  rw [if_neg c0, if_neg c1, if_neg c2, if_neg c3, if_neg c4, if_neg c5, if_neg c6, if_neg c7, if_neg c8, if_neg c9, if_neg c10, if_neg c11] at h
  exact absurd rfl h
theorem wlNm {x : Int} : WlOk (nmW x) ∧ 3 ≤ (wB (nmW x)).length ∧ ¬ nmW x = Int64.ofInt 0 := (iteQ (P := fun w => WlOk w ∧ 3 ≤ (wB w).length ∧ ¬ w = Int64.ofInt 0) (by decide) (iteQ (P := fun w => WlOk w ∧ 3 ≤ (wB w).length ∧ ¬ w = Int64.ofInt 0) (by decide) (iteQ (P := fun w => WlOk w ∧ 3 ≤ (wB w).length ∧ ¬ w = Int64.ofInt 0) (by decide) (iteQ (P := fun w => WlOk w ∧ 3 ≤ (wB w).length ∧ ¬ w = Int64.ofInt 0) (by decide) (iteQ (P := fun w => WlOk w ∧ 3 ≤ (wB w).length ∧ ¬ w = Int64.ofInt 0) (by decide) (iteQ (P := fun w => WlOk w ∧ 3 ≤ (wB w).length ∧ ¬ w = Int64.ofInt 0) (by decide) (iteQ (P := fun w => WlOk w ∧ 3 ≤ (wB w).length ∧ ¬ w = Int64.ofInt 0) (by decide) (iteQ (P := fun w => WlOk w ∧ 3 ≤ (wB w).length ∧ ¬ w = Int64.ofInt 0) (by decide) (iteQ (P := fun w => WlOk w ∧ 3 ≤ (wB w).length ∧ ¬ w = Int64.ofInt 0) (by decide) (iteQ (P := fun w => WlOk w ∧ 3 ≤ (wB w).length ∧ ¬ w = Int64.ofInt 0) (by decide) (iteQ (P := fun w => WlOk w ∧ 3 ≤ (wB w).length ∧ ¬ w = Int64.ofInt 0) (by decide) (by decide))))))))))))
theorem lf_long {l : Lf} (hp : p ≤ N) (h : yLf T N (bl T N p) = (some l, r)) : 4 * rl b (tLf l) + 5 ≤ 5 * (r - p) + 4 * chg T N b p := by
  have hq := bl_in (T := T) hp
  unfold yLf at h
  split at h
  · cases h
  rename_i hn
  split at h
  · rename_i hs
    split at h
    · rename_i hd
      cases h
      have hl := lt_in (T := T) hq.2
      have hs1 := bl_in (T := T) hl.2
      have hs2 := bl_in (T := T) (N := N) (p := bl T N (lt T N (bl T N p)) + 1) (by omega)
      have hd1 := dB_nv hs2.2 hd
      have hw := wlNm (x := nmS T N (bl T N p))
      have ht := nm_tk hn
      have hw1 := tk_len ht hw.1 hq.2 hw.2.2
      have hw2 := nm_pos hq.2 hn
      have hg := gb_chg (b := b) hp ⟨by omega, lt_let (Nat.le_refl _) hw2⟩
      unfold tLf
      rw [rl_W, rl_S, rl_N, rl_nil]
      dsimp only
      rw [show gpN false = 0 from rfl]
      omega
    · cases h
  · cases h
theorem ch_long {α : Type} {w : Int64} {e : Nat → Option α × Nat} {g : α → List Tk} (hw : WlOk w) (hw0 : ¬ w = Int64.ofInt 0) (hw1 : 1 ≤ (wB w).length) (hin : ∀ p, p ≤ N → rdOk N 3 p (e p)) (he : ∀ p r x b, p ≤ N → e p = (some x, r) → 4 * rl b (g x) + 5 ≤ 5 * (r - p) + 4 * chg T N b p) : ∀ f p r l b, p ≤ N → chP T N w e f p = (some l, r) → l ≠ [] ∧ 4 * rl b (jn w g l) + 5 ≤ 5 * (r - p) + 4 * chg T N b p
  | 0, p, r, l, b, hp, h => by exact absurd h (by intro h; cases h)
  | f + 1, p, r, l, b, hp, h => by
    have h1 := hin p hp
    unfold chP at h
    cases hx : e p with
    | mk x r1 =>
      rw [hx] at h h1
      cases x with
      | none => cases h
      | some x =>
        have h2 := he p r1 x b hp hx
        have h3 : r1 ≤ N := h1.2.1
        have h4 : p ≤ r1 := h1.1
        have hq := bl_in (T := T) h3
        dsimp only at h
        split at h
        · rename_i ct
          have hl := lt_in (T := T) hq.2
          have hwl := tk_len ct hw hq.2 hw0
          cases hy : chP T N w e f (lt T N (bl T N r1)) with
          | mk y r2 =>
            rw [hy] at h
            cases y with
            | none => cases h
            | some l2 =>
              cases h
              have ih := ch_long hw hw0 hw1 hin he f (lt T N (bl T N r1)) r l2 true hl.2 hy
              have h5 : rdOk N 3 (lt T N (bl T N r1)) (chP T N w e f (lt T N (bl T N r1))) := ch_in hin f _ hl.2
              rw [hy] at h5
              have h6 : lt T N (bl T N r1) ≤ r := h5.1
              rw [chg_lt hq.2] at ih
              refine ⟨(by exact fun q => List.cons_ne_nil _ _ q), ?_⟩
              cases l2 with
              | nil => exact absurd rfl ih.1
              | cons y l3 =>
                have e1 : jn w g (x :: y :: l3) = g x ++ (tW w :: jn w g (y :: l3)) := rfl
                have hg := gpN_le (ru b (g x))
                rw [e1, rl_app, rl_W]
                have ih2 := ih.2
                omega
        · cases h
          refine ⟨(by exact fun q => List.cons_ne_nil _ _ q), ?_⟩
          have e1 : jn w g [x] = g x := List.append_nil _
          rw [e1]
          omega
theorem wlOr : WlOk wOr ∧ ¬ wOr = Int64.ofInt 0 ∧ 1 ≤ (wB wOr).length := by decide
theorem wlAnd : WlOk wAnd ∧ ¬ wAnd = Int64.ofInt 0 ∧ 1 ≤ (wB wAnd).length := by decide
theorem wlNot : WlOk wNot ∧ ¬ wNot = Int64.ofInt 0 ∧ (wB wNot).length = 3 := by decide
theorem tAll0 {α : Type} {c : α → Int} (hc : ∀ x, 0 ≤ c x ∧ c x ≤ 2) {f : Int → α → List Tk} {l : List α} : tAll c f 0 l = jn wAnd (f (if l.length = 1 then 0 else 1)) l := by
  have h := cAll_in hc l
  unfold tAll prT
  rw [if_neg (by simp; omega)]
theorem any_long {n : Nat} (he : ∀ p r x ls b, p ≤ N → sgP T N F n p = (some x, r) → 4 * rl b (tOne n ls x) + 5 ≤ 5 * (r - p) + 4 * chg T N b p) : ∀ p r (t : Any n) b, p ≤ N → anP T N F n p = (some t, r) → 4 * rl b (jn wOr (tAll (cOne n) (tOne n) 0) t) + 5 ≤ 5 * (r - p) + 4 * chg T N b p := by
  intro p r t b hp h
  refine (ch_long wlOr.1 wlOr.2.1 wlOr.2.2 (fun p hp => ch_in (sg_in n) F p hp) (fun p r l b hp h => ?_) F p r t b hp h).2
  rw [tAll0 (cOne_in n)]
  exact (ch_long wlAnd.1 wlAnd.2.1 wlAnd.2.2 (sg_in n) (fun p r x b hp h => he p r x _ b hp h) F p r l b hp h).2
theorem sg_long : ∀ n p r (o : One n) ls b, p ≤ N → sgP T N F n p = (some o, r) → 4 * rl b (tOne n ls o) + 5 ≤ 5 * (r - p) + 4 * chg T N b p
  | 0, p, r, o, ls, b, hp, h => by
    have h' : (if tkOk T N (bl T N p) wNot then (none, bl T N p) else if bl T N p < N ∧ T (bl T N p) = 40 then (none, bl T N p) else yLf T N (bl T N p)) = (some o, r) := h
    split at h'
    · cases h'
    · split at h'
      · cases h'
      · exact lf_long hp h'
  | n + 1, p, r, o, ls, b, hp, h => by
    have hq := bl_in (T := T) hp
    rw [sgP_succ] at h
    split at h
    · rename_i ct
      have hl := lt_in (T := T) hq.2
      have hw := tk_len ct wlNot.1 hq.2 wlNot.2.1
      cases hx : sgP T N F n (lt T N (bl T N p)) with
      | mk x r1 =>
        rw [hx] at h
        cases x with
        | none => cases h
        | some x =>
          cases h
          have ih := sg_long n (lt T N (bl T N p)) r1 x 2 true hl.2 hx
          rw [chg_lt hq.2] at ih
          have h5 := sg_in (T := T) (F := F) n (lt T N (bl T N p)) hl.2
          rw [hx] at h5
          have h6 : lt T N (bl T N p) ≤ r1 := h5.1
          have e3 := wlNot.2.2
          have hg := gb_chg (T := T) (N := N) (b := b) hp ⟨by omega, lt_let (T := T) (N := N) (Nat.le_refl _) (by omega)⟩
          show 4 * rl b (tW wNot :: tOne n 2 x) + 5 ≤ _
          rw [rl_W, e3]
          omega
    · split at h
      · rename_i hb
        cases hx : chP T N wOr (chP T N wAnd (sgP T N F n) F) F (bl T N p + 1) with
        | mk x r1 =>
          rw [hx] at h
          cases x with
          | none => cases h
          | some t =>
            dsimp only at h
            have h5 := an_in (T := T) (F := F) (n := n) (N := N) (p := bl T N p + 1) (by omega)
            unfold anP at h5
            rw [hx] at h5
            have h6 : bl T N p + 1 ≤ r1 := h5.1
            have h7 : r1 ≤ N := h5.2.1
            have hr := bl_in (T := T) h7
            split at h
            · cases h
              show 4 * rl b (prT (decide (cAny (cOne n) t < ls)) (jn wOr (tAll (cOne n) (tOne n) 0) t)) + 5 ≤ _
              unfold prT
              split
              · have ih := any_long (fun p r x ls b hp h => sg_long n p r x ls b hp h) (bl T N p + 1) r1 t false (by omega) hx
                rw [chg_f] at ih
                rw [rl_S, rl_app, rl_S, rl_nil]
                omega
              · have ih := any_long (fun p r x ls b hp h => sg_long n p r x ls b hp h) (bl T N p + 1) r1 t b (by omega) hx
                have := chg_le (T := T) (N := N) (b := b) (p := bl T N p + 1)
                omega
            · cases h
      · cases hx : yLf T N (bl T N p) with
        | mk x r1 =>
          rw [hx] at h
          cases x with
          | none => cases h
          | some x =>
            cases h
            exact lf_long hp hx
end
