/-! weakest preconditions over the small machine -/
def Wp (d : Nat) (is : List mIns) (ls st : List Value) (σ : mM) (Q : Option Value → mM → Prop) : Prop := ∃ n v σ', ex n d is ls st σ = some (v, σ') ∧ Q v σ'
theorem ex_cons (n d : Nat) (i : mIns) (is : List mIns) (ls st : List Value) (σ : mM) : ex (n + 1) d (i :: is) ls st σ =
    if i.1 < 60 then
      match mstep i ls st σ with
      | some r => ex n d is r.1 r.2.1 r.2.2
      | none => none
    else if i.1 < 80 then
      match mbr i st with
      | some (none, st') => ex n d is ls st' σ
      | some (some q, st') => ex n d (gb q.1 q.2) ls st' σ
      | none => none
    else if i.1 < 90 then mret i st σ
    else match d with
      | 0 => none
      | d' + 1 =>
        if i.1 < 104 then
          match mcall i st σ with
          | some (as, r) =>
            match ex n d' (gb i.2.1 0) (mkL i.2.1 as) [] σ with
            | some (v, σ') => match mpush i.1 v r with
              | some st' => ex n (d' + 1) is ls st' σ'
              | none => none
            | none => none
          | none => none
        else match mnat i st σ with
          | some (st', σ') => ex n (d' + 1) is ls st' σ'
          | none => none := rfl
theorem ex_zero (d : Nat) (is : List mIns) (ls st : List Value) (σ : mM) : ex 0 d is ls st σ = none := rfl
theorem ex_nil (n d : Nat) (ls st : List Value) (σ : mM) : ex n d [] ls st σ = none := by cases n <;> rfl
theorem ex_succ : ∀ (n d : Nat) (is : List mIns) (ls st : List Value) (σ : mM) (r : Option Value × mM), ex n d is ls st σ = some r → ex (n + 1) d is ls st σ = some r := by
  intro n
  induction n with
  | zero => intro d is ls st σ r h; simp [ex_zero] at h
  | succ n ih =>
    intro d is ls st σ r h
    cases is with
    | nil => simp [ex_nil] at h
    | cons i is =>
      rw [ex_cons] at h ⊢
      split at h
      · rename_i h1
        rw [if_pos h1]
        split at h
        · rename_i q hq
          (try rw [hq]); exact ih _ _ _ _ _ _ h
        · cases h
      · rename_i h1
        rw [if_neg h1]
        split at h
        · rename_i h2
          rw [if_pos h2]
          split at h
          · rename_i st' hq
            (try rw [hq]); exact ih _ _ _ _ _ _ h
          · rename_i q st' hq
            (try rw [hq]); exact ih _ _ _ _ _ _ h
          · cases h
        · rename_i h2
          rw [if_neg h2]
          split at h
          · rename_i h3
            rw [if_pos h3]; exact h
          · rename_i h3
            rw [if_neg h3]
            cases d with
            | zero => cases h
            | succ d' =>
              dsimp only at h ⊢
              split at h
              · rename_i h4
                rw [if_pos h4]
                split at h
                · rename_i as r' hq
                  try rw [hq]
                  try dsimp only
                  split at h
                  · rename_i v σ' hv
                    try rw [ih _ _ _ _ _ _ hv]
                    try dsimp only
                    split at h
                    · rename_i st' hs
                      (try rw [hs]); exact ih _ _ _ _ _ _ h
                    · cases h
                  · cases h
                · cases h
              · rename_i h4
                rw [if_neg h4]
                split at h
                · rename_i st' σ' hq
                  (try rw [hq]); exact ih _ _ _ _ _ _ h
                · cases h
theorem ex_mono {n m d : Nat} {is : List mIns} {ls st : List Value} {σ : mM} {r : Option Value × mM} (h : ex n d is ls st σ = some r) (hm : n ≤ m) : ex m d is ls st σ = some r := by
  induction hm with
  | refl => exact h
  | step _ ih => exact ex_succ _ _ _ _ _ _ _ ih
section
variable {d : Nat} {i : mIns} {is : List mIns} {ls st ls' st' : List Value} {σ σ' : mM} {Q : Option Value → mM → Prop}
theorem Wp.mono {Q' : Option Value → mM → Prop} (h : Wp d is ls st σ Q) (hQ : ∀ v s, Q v s → Q' v s) : Wp d is ls st σ Q' := by
  obtain ⟨n, v, s, h1, h2⟩ := h
  exact ⟨n, v, s, h1, hQ _ _ h2⟩
theorem Wp.det {v0 : Option Value} {s0 : mM} (h : Wp d is ls st σ (fun v s => v = v0 ∧ s = s0)) : Wp d is ls st σ Q ↔ Q v0 s0 := by
  obtain ⟨n, v, s, h1, rfl, rfl⟩ := h
  constructor
  · rintro ⟨m, v', s', h2, hq⟩
    have a := ex_mono h1 (Nat.le_max_left n m)
    have b := ex_mono h2 (Nat.le_max_right n m)
    rw [a] at b
    cases b
    exact hq
  · exact fun hq => ⟨n, _, _, h1, hq⟩
theorem w_step (h60 : i.1 < 60) (h : mstep i ls st σ = some (ls', st', σ')) : Wp d (i :: is) ls st σ Q ↔ Wp d is ls' st' σ' Q := by
  constructor
  · rintro ⟨n, v, s, h1, h2⟩
    cases n with
    | zero => simp [ex_zero] at h1
    | succ n =>
      rw [ex_cons, if_pos h60, h] at h1
      exact ⟨n, v, s, h1, h2⟩
  · rintro ⟨n, v, s, h1, h2⟩
    refine ⟨n + 1, v, s, ?_, h2⟩
    rw [ex_cons, if_pos h60, h]
    exact h1
theorem w_none (h60 : i.1 < 60) (h : mstep i ls st σ = none) : Wp d (i :: is) ls st σ Q ↔ False := by
  constructor
  · rintro ⟨n, v, s, h1, h2⟩
    cases n with
    | zero => simp [ex_zero] at h1
    | succ n => rw [ex_cons, if_pos h60, h] at h1; cases h1
  · exact False.elim
theorem w_stepc {c : Prop} {hc : Decidable c} (h60 : i.1 < 60) (h : mstep i ls st σ = if c then some (ls', st', σ') else none) : Wp d (i :: is) ls st σ Q ↔ c ∧ Wp d is ls' st' σ' Q := by
  by_cases q : c
  · rw [if_pos q] at h
    rw [w_step h60 h]
    exact ⟨fun k => ⟨q, k⟩, fun k => k.2⟩
  · rw [if_neg q] at h
    rw [w_none h60 h]
    exact ⟨False.elim, fun k => q k.1⟩
theorem w_br (h60 : ¬ i.1 < 60) (h80 : i.1 < 80) {q : Nat × Nat} (h : mbr i st = some (some q, st')) : Wp d (i :: is) ls st σ Q ↔ Wp d (gb q.1 q.2) ls st' σ Q := by
  constructor
  · rintro ⟨n, v, s, h1, h2⟩
    cases n with
    | zero => simp [ex_zero] at h1
    | succ n =>
      rw [ex_cons, if_neg h60, if_pos h80, h] at h1
      exact ⟨n, v, s, h1, h2⟩
  · rintro ⟨n, v, s, h1, h2⟩
    refine ⟨n + 1, v, s, ?_, h2⟩
    rw [ex_cons, if_neg h60, if_pos h80, h]
    exact h1
theorem w_nbr (h60 : ¬ i.1 < 60) (h80 : i.1 < 80) (h : mbr i st = some (none, st')) : Wp d (i :: is) ls st σ Q ↔ Wp d is ls st' σ Q := by
  constructor
  · rintro ⟨n, v, s, h1, h2⟩
    cases n with
    | zero => simp [ex_zero] at h1
    | succ n =>
      rw [ex_cons, if_neg h60, if_pos h80, h] at h1
      exact ⟨n, v, s, h1, h2⟩
  · rintro ⟨n, v, s, h1, h2⟩
    refine ⟨n + 1, v, s, ?_, h2⟩
    rw [ex_cons, if_neg h60, if_pos h80, h]
    exact h1
theorem w_if {c : Prop} {hc : Decidable c} {q : Nat × Nat} (h60 : ¬ i.1 < 60) (h80 : i.1 < 80) (h : mbr i st = some (if c then some q else none, st')) : Wp d (i :: is) ls st σ Q ↔ (c → Wp d (gb q.1 q.2) ls st' σ Q) ∧ (¬ c → Wp d is ls st' σ Q) := by
  by_cases k : c
  · rw [if_pos k] at h
    rw [w_br h60 h80 h]
    exact ⟨fun w => ⟨fun _ => w, fun z => absurd k z⟩, fun w => w.1 k⟩
  · rw [if_neg k] at h
    rw [w_nbr h60 h80 h]
    exact ⟨fun w => ⟨fun z => absurd z k, fun _ => w⟩, fun w => w.2 k⟩
theorem w_ifn {c : Prop} {hc : Decidable c} {q : Nat × Nat} (h60 : ¬ i.1 < 60) (h80 : i.1 < 80) (h : mbr i st = some (if c then none else some q, st')) : Wp d (i :: is) ls st σ Q ↔ (¬ c → Wp d (gb q.1 q.2) ls st' σ Q) ∧ (c → Wp d is ls st' σ Q) := by
  by_cases k : c
  · rw [if_pos k] at h
    rw [w_nbr h60 h80 h]
    exact ⟨fun w => ⟨fun z => absurd k z, fun _ => w⟩, fun w => w.2 k⟩
  · rw [if_neg k] at h
    rw [w_br h60 h80 h]
    exact ⟨fun w => ⟨fun _ => w, fun z => absurd z k⟩, fun w => w.1 k⟩
theorem w_ret (h80 : ¬ i.1 < 80) (h90 : i.1 < 90) {v : Option Value} (h : mret i st σ = some (v, σ')) : Wp d (i :: is) ls st σ Q ↔ Q v σ' := by
  have h60 : ¬ i.1 < 60 := by omega
  constructor
  · rintro ⟨n, v', s, h1, h2⟩
    cases n with
    | zero => simp [ex_zero] at h1
    | succ n =>
      rw [ex_cons, if_neg h60, if_neg h80, if_pos h90, h] at h1
      cases h1; exact h2
  · intro hq
    refine ⟨1, v, σ', ?_, hq⟩
    rw [ex_cons, if_neg h60, if_neg h80, if_pos h90, h]
theorem w_retc {c : Prop} {hc : Decidable c} (h80 : ¬ i.1 < 80) (h90 : i.1 < 90) {v : Option Value} (h : mret i st σ = if c then some (v, σ') else none) : Wp d (i :: is) ls st σ Q ↔ c ∧ Q v σ' := by
  by_cases k : c
  · rw [if_pos k] at h
    rw [w_ret h80 h90 h]
    exact ⟨fun w => ⟨k, w⟩, fun w => w.2⟩
  · rw [if_neg k] at h
    refine ⟨?_, fun w => absurd w.1 k⟩
    rintro ⟨n, v', s, h1, h2⟩
    cases n with
    | zero => simp [ex_zero] at h1
    | succ n =>
      rw [ex_cons, if_neg (by omega), if_neg h80, if_pos h90, h] at h1
      cases h1
theorem w_nat (h104 : ¬ i.1 < 104) (h : mnat i st σ = some (st', σ')) : Wp (d + 1) (i :: is) ls st σ Q ↔ Wp (d + 1) is ls st' σ' Q := by
  have e : ∀ n, ex (n + 1) (d + 1) (i :: is) ls st σ = ex n (d + 1) is ls st' σ' := by
    intro n
    rw [ex_cons, if_neg (by omega), if_neg (by omega), if_neg (by omega)]
    dsimp only
    rw [if_neg h104, h]
  constructor
  · rintro ⟨n, v, s, h1, h2⟩
    cases n with
    | zero => simp [ex_zero] at h1
    | succ n => rw [e] at h1; exact ⟨n, v, s, h1, h2⟩
  · rintro ⟨n, v, s, h1, h2⟩
    exact ⟨n + 1, v, s, by rw [e]; exact h1, h2⟩
theorem w_call (h90 : ¬ i.1 < 90) (h104 : i.1 < 104) {as r : List Value} (h : mPop i.2.2.1 [] st = some (as, r)) :
    Wp (d + 1) (i :: is) ls st σ Q ↔ (mRcv i.2.1 as σ = true ∧ r.length ≤ 4) ∧ Wp d (gb i.2.1 0) (mkL i.2.1 as) [] σ (fun v s => ∃ st', mpush i.1 v r = some st' ∧ Wp (d + 1) is ls st' s Q) := by
  have e : ∀ n, ex (n + 1) (d + 1) (i :: is) ls st σ = match mcall i st σ with
          | some (as, r) =>
            match ex n d (gb i.2.1 0) (mkL i.2.1 as) [] σ with
            | some (v, σ') => match mpush i.1 v r with
              | some st' => ex n (d + 1) is ls st' σ'
              | none => none
            | none => none
          | none => none := by
    intro n
    rw [ex_cons, if_neg (by omega), if_neg (by omega), if_neg h90]
    dsimp only
    rw [if_pos h104]
  constructor
  · rintro ⟨n, v, s, h1, h2⟩
    cases n with
    | zero => simp [ex_zero] at h1
    | succ n =>
      rw [e] at h1
      by_cases hk : (mRcv i.2.1 as σ && decide (r.length ≤ 4)) = true
      · have hc : mcall i st σ = some (as, r) := by simp only [mcall, h, hk, if_true]
        rw [hc] at h1
        dsimp only at h1
        simp only [Bool.and_eq_true, decide_eq_true_eq] at hk
        refine ⟨hk, ?_⟩
        split at h1
        · rename_i v1 σ1 h3
          split at h1
          · rename_i st1 h4
            exact ⟨n, v1, σ1, h3, st1, h4, n, v, s, h1, h2⟩
          · cases h1
        · cases h1
      · have hc : mcall i st σ = none := by simp only [mcall, h, hk]; rfl
        rw [hc] at h1
        cases h1
  · rintro ⟨⟨k1, k2⟩, n1, v1, σ1, h3, st1, h4, n, v, s, h1, h2⟩
    refine ⟨max n1 n + 1, v, s, ?_, h2⟩
    rw [e]
    have hc : mcall i st σ = some (as, r) := by simp [mcall, h, k1, k2]
    rw [hc]
    dsimp only
    rw [ex_mono h3 (Nat.le_max_left n1 n)]
    dsimp only
    rw [h4]
    exact ex_mono h1 (Nat.le_max_right n1 n)
end
def CallV (d m : Nat) (as : List Value) (σ : mM) (K : mM → Prop) : Prop := Wp d (gb m 0) (mkL m as) [] σ (fun v s => v = none ∧ K s)
def CallI (d m : Nat) (as : List Value) (σ : mM) (K : Int32 → mM → Prop) : Prop := Wp d (gb m 0) (mkL m as) [] σ (fun v s => ∃ x, v = some (.int x) ∧ K x s)
def CallL (d m : Nat) (as : List Value) (σ : mM) (K : Int64 → mM → Prop) : Prop := Wp d (gb m 0) (mkL m as) [] σ (fun v s => ∃ x, v = some (.long x) ∧ K x s)
def CallR (d m : Nat) (as : List Value) (σ : mM) (K : Option Nat → mM → Prop) : Prop := Wp d (gb m 0) (mkL m as) [] σ (fun v s => ∃ x, v = some (vR x) ∧ K x s)
section
variable {d m : Nat} {z : Int} {is : List mIns} {ls st as r : List Value} {σ : mM} {Q : Option Value → mM → Prop} {n : Nat}
theorem w_callV (h : mPop n [] st = some (as, r)) : Wp (d + 1) ((100, m, n, z) :: is) ls st σ Q ↔ (mRcv m as σ = true ∧ r.length ≤ 4) ∧ CallV d m as σ (fun s => Wp (d + 1) is ls r s Q) := by
  rw [w_call (i := (100, m, n, z)) (show ¬ 100 < 90 by decide) (show 100 < 104 by decide) h]
  refine and_congr_right fun _ => ⟨fun w => w.mono ?_, fun w => w.mono ?_⟩
  · rintro v s ⟨st', h1, h2⟩
    cases v with
    | none => simp only [mpush, Option.some.injEq] at h1; subst h1; exact ⟨rfl, h2⟩
    | some v => simp [mpush] at h1
  · rintro v s ⟨rfl, h2⟩
    exact ⟨r, rfl, h2⟩
theorem w_callI (h : mPop n [] st = some (as, r)) : Wp (d + 1) ((101, m, n, z) :: is) ls st σ Q ↔ (mRcv m as σ = true ∧ r.length ≤ 4) ∧ CallI d m as σ (fun x s => Wp (d + 1) is ls (.int x :: r) s Q) := by
  rw [w_call (i := (101, m, n, z)) (show ¬ 101 < 90 by decide) (show 101 < 104 by decide) h]
  refine and_congr_right fun _ => ⟨fun w => w.mono ?_, fun w => w.mono ?_⟩
  · rintro v s ⟨st', h1, h2⟩
    rcases v with _ | v
    · simp [mpush] at h1
    · cases v <;> first | (simp only [mpush, Option.some.injEq] at h1; subst h1; exact ⟨_, rfl, h2⟩) | (simp [mpush] at h1; done)
  · rintro v s ⟨x, rfl, h2⟩
    exact ⟨_, rfl, h2⟩
theorem w_callL (h : mPop n [] st = some (as, r)) : Wp (d + 1) ((102, m, n, z) :: is) ls st σ Q ↔ (mRcv m as σ = true ∧ r.length ≤ 4) ∧ CallL d m as σ (fun x s => Wp (d + 1) is ls (.long x :: r) s Q) := by
  rw [w_call (i := (102, m, n, z)) (show ¬ 102 < 90 by decide) (show 102 < 104 by decide) h]
  refine and_congr_right fun _ => ⟨fun w => w.mono ?_, fun w => w.mono ?_⟩
  · rintro v s ⟨st', h1, h2⟩
    rcases v with _ | v
    · simp [mpush] at h1
    · cases v <;> first | (simp only [mpush, Option.some.injEq] at h1; subst h1; exact ⟨_, rfl, h2⟩) | (simp [mpush] at h1; done)
  · rintro v s ⟨x, rfl, h2⟩
    exact ⟨_, rfl, h2⟩
theorem w_callR (h : mPop n [] st = some (as, r)) : Wp (d + 1) ((103, m, n, z) :: is) ls st σ Q ↔ (mRcv m as σ = true ∧ r.length ≤ 4) ∧ CallR d m as σ (fun x s => Wp (d + 1) is ls (vR x :: r) s Q) := by
  rw [w_call (i := (103, m, n, z)) (show ¬ 103 < 90 by decide) (show 103 < 104 by decide) h]
  refine and_congr_right fun _ => ⟨fun w => w.mono ?_, fun w => w.mono ?_⟩
  · rintro v s ⟨st', h1, h2⟩
    rcases v with _ | v
    · simp [mpush] at h1
    · cases v with
      | ref a => simp only [mpush, Option.some.injEq] at h1; subst h1; exact ⟨some a, rfl, h2⟩
      | null => simp only [mpush, Option.some.injEq] at h1; subst h1; exact ⟨none, rfl, h2⟩
      | _ => simp [mpush] at h1
  · rintro v s ⟨x, rfl, h2⟩
    cases x with
    | none => exact ⟨_, rfl, h2⟩
    | some a => exact ⟨_, rfl, h2⟩
end
