/-! an executor over lists of cells, for the constructors -/
abbrev zcC : Type := (Nat × Nat) × List (Nat × Int) × List (Nat × Option Nat)
abbrev zcM : Type := List zcC
def zcGi : List (Nat × Int) → Nat → Int32
  | [], _ => 0
  | q :: r, k => if k = q.1 then oI q.2 else zcGi r k
def zcGr : List (Nat × Option Nat) → Nat → Option Nat
  | [], _ => none
  | q :: r, k => if k = q.1 then q.2 else zcGr r k
def zcI (c : zcM) (a k : Nat) : Int32 := match c[a]? with
  | some q => zcGi q.2.1 k
  | none => 0
def zcR (c : zcM) (a k : Nat) : Option Nat := match c[a]? with
  | some q => zcGr q.2.2 k
  | none => none
def zcD (s : mM) (c : zcM) : mM := (fun a k => if a < 8 then s.1 a k else zcI c (a - 8) k, fun a k => if a < 8 then s.2.1 a k else zcR c (a - 8) k, s.2.2 ++ c.map (fun q => q.1))
def zcU (f : zcC → zcC) : zcM → Nat → zcM
  | [], _ => []
  | q :: r, 0 => f q :: r
  | q :: r, i + 1 => q :: zcU f r i
def zcN : zcM → Nat → Nat
  | [], n => n
  | _ :: r, n => zcN r (n + 1)
def zfI (k : Nat) (x : Int32) (q : zcC) : zcC := (q.1, (k, x.toInt) :: q.2.1, q.2.2)
def zfR (k : Nat) (v : Option Nat) (q : zcC) : zcC := (q.1, q.2.1, (k, v) :: q.2.2)
theorem zcN_eq : ∀ (c : zcM) (n : Nat), zcN c n = n + c.length
  | [], _ => rfl
  | _ :: r, n => by
    show zcN r (n + 1) = n + (r.length + 1)
    rw [zcN_eq r (n + 1)]; omega
theorem zcU_get (f : zcC → zcC) : ∀ (c : zcM) (i j : Nat), (zcU f c i)[j]? = if j = i then (c[j]?).map f else c[j]?
  | [], i, j => by
    show ([] : zcM)[j]? = _
    split <;> rfl
  | q :: r, 0, 0 => rfl
  | q :: r, 0, j + 1 => by
    rw [if_neg (by omega)]; rfl
  | q :: r, i + 1, 0 => by
    rw [if_neg (by omega)]; rfl
  | q :: r, i + 1, j + 1 => by
    show (zcU f r i)[j]? = if j + 1 = i + 1 then (r[j]?).map f else r[j]?
    rw [zcU_get f r i j]
    by_cases h : j = i
    · rw [if_pos h, if_pos (by omega)]
    · rw [if_neg h, if_neg (by omega)]
theorem zcU_map (f : zcC → zcC) (hf : ∀ q, (f q).1 = q.1) : ∀ (c : zcM) (i : Nat), (zcU f c i).map (fun q => q.1) = c.map (fun q => q.1)
  | [], _ => rfl
  | q :: r, 0 => by
    show (f q).1 :: r.map (fun q => q.1) = q.1 :: r.map (fun q => q.1)
    rw [hf]
  | q :: r, i + 1 => by
    show q.1 :: (zcU f r i).map (fun q => q.1) = q.1 :: r.map (fun q => q.1)
    rw [zcU_map f hf r i]
theorem zcI_U {c : zcM} {a k b j : Nat} {x : Int32} {w : zcC} (h : c[a]? = some w) : zcI (zcU (zfI k x) c a) b j = if b = a ∧ j = k then x else zcI c b j := by
  unfold zcI
  rw [zcU_get]
  by_cases e : b = a
  · subst e
    rw [if_pos rfl, h]
    show (if j = k then oI x.toInt else zcGi w.2.1 j) = if b = b ∧ j = k then x else zcGi w.2.1 j
    by_cases e2 : j = k
    · rw [if_pos e2, if_pos ⟨rfl, e2⟩]; exact Int32.ofInt_toInt x
    · rw [if_neg e2, if_neg (fun q => e2 q.2)]
  · rw [if_neg e, if_neg (fun q => e q.1)]
theorem zcI_R {c : zcM} {a k b j : Nat} {v : Option Nat} : zcI (zcU (zfR k v) c a) b j = zcI c b j := by
  unfold zcI
  rw [zcU_get]
  by_cases e : b = a
  · rw [if_pos e]
    cases h : c[b]? with
    | none => rfl
    | some w => rfl
  · rw [if_neg e]
theorem zcR_U {c : zcM} {a k b j : Nat} {v : Option Nat} {w : zcC} (h : c[a]? = some w) : zcR (zcU (zfR k v) c a) b j = if b = a ∧ j = k then v else zcR c b j := by
  unfold zcR
  rw [zcU_get]
  by_cases e : b = a
  · subst e
    rw [if_pos rfl, h]
    show (if j = k then v else zcGr w.2.2 j) = if b = b ∧ j = k then v else zcGr w.2.2 j
    by_cases e2 : j = k
    · rw [if_pos e2, if_pos ⟨rfl, e2⟩]
    · rw [if_neg e2, if_neg (fun q => e2 q.2)]
  · rw [if_neg e, if_neg (fun q => e q.1)]
theorem zcR_I {c : zcM} {a k b j : Nat} {x : Int32} : zcR (zcU (zfI k x) c a) b j = zcR c b j := by
  unfold zcR
  rw [zcU_get]
  by_cases e : b = a
  · rw [if_pos e]
    cases h : c[b]? with
    | none => rfl
    | some w => rfl
  · rw [if_neg e]
section
variable {s : mM} {c : zcM} {a k : Nat} {x : Int32} {v : Option Nat} {w : zcC} {sh : Nat × Nat}
theorem zwI (ha : 8 ≤ a) (h : c[a - 8]? = some w) : wI (zcD s c) a k x = zcD s (zcU (zfI k x) c (a - 8)) := by
  refine Prod.ext ?_ (Prod.ext ?_ ?_)
  · funext b j
    show (if b = a ∧ j = k then x else if b < 8 then s.1 b j else zcI c (b - 8) j) = if b < 8 then s.1 b j else zcI (zcU (zfI k x) c (a - 8)) (b - 8) j
    rw [zcI_U h]
    by_cases hb : b < 8
    · rw [if_neg (by omega), if_pos hb, if_pos hb]
    · rw [if_neg hb, if_neg hb]
      by_cases e : b = a ∧ j = k
      · rw [if_pos e, if_pos ⟨by omega, e.2⟩]
      · rw [if_neg e, if_neg (by omega)]
  · funext b j
    show (if b < 8 then s.2.1 b j else zcR c (b - 8) j) = if b < 8 then s.2.1 b j else zcR (zcU (zfI k x) c (a - 8)) (b - 8) j
    rw [zcR_I]
  · show s.2.2 ++ c.map (fun q => q.1) = s.2.2 ++ (zcU (zfI k x) c (a - 8)).map (fun q => q.1)
    rw [zcU_map (zfI k x) (fun _ => rfl)]
theorem zwR (ha : 8 ≤ a) (h : c[a - 8]? = some w) : wR (zcD s c) a k v = zcD s (zcU (zfR k v) c (a - 8)) := by
  refine Prod.ext ?_ (Prod.ext ?_ ?_)
  · funext b j
    show (if b < 8 then s.1 b j else zcI c (b - 8) j) = if b < 8 then s.1 b j else zcI (zcU (zfR k v) c (a - 8)) (b - 8) j
    rw [zcI_R]
  · funext b j
    show (if b = a ∧ j = k then v else if b < 8 then s.2.1 b j else zcR c (b - 8) j) = if b < 8 then s.2.1 b j else zcR (zcU (zfR k v) c (a - 8)) (b - 8) j
    rw [zcR_U h]
    by_cases hb : b < 8
    · rw [if_neg (by omega), if_pos hb, if_pos hb]
    · rw [if_neg hb, if_neg hb]
      by_cases e : b = a ∧ j = k
      · rw [if_pos e, if_pos ⟨by omega, e.2⟩]
      · rw [if_neg e, if_neg (by omega)]
  · show s.2.2 ++ c.map (fun q => q.1) = s.2.2 ++ (zcU (zfR k v) c (a - 8)).map (fun q => q.1)
    rw [zcU_map (zfR k v) (fun _ => rfl)]
theorem zlen (h8 : s.2.2.length = 8) : (zcD s c).2.2.length = zcN c 8 := by
  rw [zcN_eq]
  show (s.2.2 ++ c.map (fun q => q.1)).length = _
  rw [List.length_append, List.length_map, h8]
theorem zNew (h8 : s.2.2.length = 8) : mNew (zcD s c) sh = zcD s (c ++ [(sh, [], [])]) := by
  have hl := zlen (c := c) h8
  rw [zcN_eq] at hl
  have g : ∀ b, (c ++ [((sh, [], []) : zcC)])[b]? = if b = c.length then some (sh, [], []) else c[b]? := fun b => by
    by_cases e : b = c.length
    · rw [if_pos e, e, List.getElem?_append_right (Nat.le_refl _), Nat.sub_self]; rfl
    · rw [if_neg e]
      by_cases e2 : b < c.length
      · rw [List.getElem?_append_left e2]
      · rw [List.getElem?_append_right (by omega), List.getElem?_eq_none (by show ([(sh, [], [])] : zcM).length ≤ _; show 1 ≤ _; omega), List.getElem?_eq_none (by omega)]
  refine Prod.ext ?_ (Prod.ext ?_ ?_)
  · funext b j
    show (if b = (zcD s c).2.2.length then 0 else if b < 8 then s.1 b j else zcI c (b - 8) j) = if b < 8 then s.1 b j else zcI (c ++ [((sh, [], []) : zcC)]) (b - 8) j
    rw [hl]
    unfold zcI
    rw [g]
    by_cases hb : b < 8
    · rw [if_neg (by omega), if_pos hb, if_pos hb]
    · rw [if_neg hb, if_neg hb]
      by_cases e : b = 8 + c.length
      · rw [if_pos e, if_pos (by omega)]; rfl
      · rw [if_neg e, if_neg (by omega)]
  · funext b j
    show (if b = (zcD s c).2.2.length then none else if b < 8 then s.2.1 b j else zcR c (b - 8) j) = if b < 8 then s.2.1 b j else zcR (c ++ [((sh, [], []) : zcC)]) (b - 8) j
    rw [hl]
    unfold zcR
    rw [g]
    by_cases hb : b < 8
    · rw [if_neg (by omega), if_pos hb, if_pos hb]
    · rw [if_neg hb, if_neg hb]
      by_cases e : b = 8 + c.length
      · rw [if_pos e, if_pos (by omega)]; rfl
      · rw [if_neg e, if_neg (by omega)]
  · show (s.2.2 ++ c.map (fun q => q.1)) ++ [sh] = s.2.2 ++ (c ++ [((sh, [], []) : zcC)]).map (fun q => q.1)
    rw [List.map_append, List.append_assoc]; rfl
def zcQ (c : zcM) (a : Nat) : Option (Nat × Nat) := if 8 ≤ a then (c[a - 8]?).map (fun q => q.1) else none
theorem zcQ_s {q : Nat × Nat} (h8 : s.2.2.length = 8) (h : zcQ c a = some q) : 8 ≤ a ∧ (∃ w, c[a - 8]? = some w) ∧ (zcD s c).2.2[a]? = some q := by
  unfold zcQ at h
  by_cases ha : 8 ≤ a
  · rw [if_pos ha] at h
    refine ⟨ha, ?_, ?_⟩
    · cases h2 : c[a - 8]? with
      | none => rw [h2] at h; cases h
      | some w => exact ⟨w, rfl⟩
    · show (s.2.2 ++ c.map (fun q => q.1))[a]? = _
      rw [List.getElem?_append_right (by omega), h8, List.getElem?_map]; exact h
  · rw [if_neg ha] at h; cases h
end
