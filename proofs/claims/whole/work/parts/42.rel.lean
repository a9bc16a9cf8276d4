/-! what lies in the reference between calls, as whole numbers; and which cells of the class say the same -/
abbrev aS : Type := Nat → Nat → Int
abbrev mI : Type := Nat → Nat → Int32
def pmS : List Nat := [0, 1, 2, 3, 4, 40, 54, 57, 58, 59, 63, 65, 66, 67, 71]
def pmA : List Nat := [92, 93, 94, 95, 96, 97, 98, 99, 100, 101, 102, 103, 104, 105, 106, 107, 108, 109, 110, 121, 122, 123, 131, 132, 133, 134, 136, 137, 138, 139, 140, 141, 142, 143, 144, 145, 146, 147, 148, 149, 152]
def pm (a k : Nat) : Bool := if a = 91 then pmS.contains k else pmA.contains a
def RelM (I : mI) (A : aS) : Prop := ∀ a k, pm a k = true → ld I a k = A a k
def mrA : List (Nat × Nat) := [(12, 101), (13, 102), (14, 98), (15, 99), (16, 100), (17, 131), (18, 132), (20, 136), (22, 92), (23, 93), (24, 95), (25, 94), (26, 96), (27, 97), (28, 122), (30, 121), (32, 103), (36, 104), (37, 108), (42, 110), (45, 152), (52, 138), (86, 133), (89, 134)]
def mrS : List (Nat × Nat × Nat) := [(8, 8, 0), (9, 11, 2), (9, 12, 54), (9, 13, 63), (21, 9, 1), (21, 10, 40), (31, 11, 3), (31, 12, 4), (43, 1, 67), (43, 2, 65), (43, 3, 71), (85, 0, 57), (85, 1, 58), (85, 2, 59)]
def mr (a k : Nat) : Option (Nat × Nat) := match mrA.find? (fun q => q.1 == a) with
  | some q => some (q.2, k)
  | none => match mrS.find? (fun q => q.1 == a && q.2.1 == k) with
    | some q => some (91, q.2.2)
    | none => none
def RelC0 (I : mI) (A : aS) : Prop := ∀ a k, match mr a k with
  | some q => ld I a k = A q.1 q.2
  | none => True
section
variable {I I' : mI} {A A' : aS} {a k a' k' : Nat} {v : Int} {x : Int32}
theorem rdM (h : RelM I A) (hp : pm a k = true) : I a k = oI (A a k) := by rw [← h a k hp]; exact oI_ld I a k
theorem inA (h : RelM I A) (hp : pm a k = true) : inR (A a k) := by rw [← h a k hp]; exact ld_inR I a k
theorem RelC0.at (h : RelC0 I A) (hp : mr a k = some (a', k')) : ld I a k = A a' k' := by
  have h9 := h a k
  rw [hp] at h9
  exact h9
theorem rdC (h : RelC0 I A) (hp : mr a k = some (a', k')) : I a k = oI (A a' k') := by rw [← h.at hp]; exact oI_ld I a k
theorem inC (h : RelC0 I A) (hp : mr a k = some (a', k')) : inR (A a' k') := by rw [← h.at hp]; exact ld_inR I a k
theorem ld_u2 : ld (u2 I a k (oI v)) a' k' = if a' = a ∧ k' = k then (oI v).toInt else ld I a' k' := by
  unfold ld u2; split <;> rfl
theorem ld_u2x : ld (u2 I a k x) a' k' = if a' = a ∧ k' = k then x.toInt else ld I a' k' := by
  unfold ld u2; split <;> rfl
theorem RelM.set (h : RelM I A) (a k : Nat) (hv : inR v) : RelM (u2 I a k (oI v)) (u2 A a k v) := by
  intro b j hb
  rw [ld_u2]
  unfold u2
  split
  · exact toInt_oI hv
  · exact h b j hb
theorem RelM.scr (h : RelM I A) (hp : pm a k = false) : RelM (u2 I a k x) A := by
  intro b j hb
  rw [ld_u2x, if_neg]
  · exact h b j hb
  · rintro ⟨rfl, rfl⟩
    rw [hp] at hb
    cases hb
theorem RelM.kept (h : RelM I A) (hk : ∀ a k, pm a k = true → I' a k = I a k) : RelM I' A := by
  intro b j hb
  unfold ld
  rw [hk b j hb]
  exact h b j hb
theorem RelM.out (h : RelM I A) (ha : a < 91 ∨ 154 < a) : RelM (u2 I a k x) A := by
  refine h.scr ?_
  unfold pm
  rw [if_neg (by omega)]
  have h9 : ∀ b ∈ pmA, 91 < b ∧ b ≤ 154 := by decide
  cases hc : pmA.contains a with
  | false => rfl
  | true => have := h9 a (List.contains_iff_mem.mp hc); omega
/-- kept but for some cells -/
def Fr (ws : List Nat) (os : List (Nat × Nat)) (I I' : mI) : Prop := ∀ a k, (ws.contains a || os.contains (a, k)) = false → I' a k = I a k
theorem Fr.refl (ws : List Nat) (os : List (Nat × Nat)) (I : mI) : Fr ws os I I := fun _ _ _ => rfl
theorem Fr.trans {ws : List Nat} {os : List (Nat × Nat)} {I1 : mI} (h : Fr ws os I I1) (h2 : Fr ws os I1 I') : Fr ws os I I' := fun a k hp => (h2 a k hp).trans (h a k hp)
theorem Fr.row {ws : List Nat} {os : List (Nat × Nat)} (h : Fr ws os I I') (hp : ∀ k, (ws.contains a || os.contains (a, k)) = false) : I' a = I a := funext fun k => h a k (hp k)
theorem Fr.wr {ws : List Nat} {os : List (Nat × Nat)} (h : Fr ws os I I') (hp : (ws.contains a || os.contains (a, k)) = true) : Fr ws os I (u2 I' a k x) := by
  intro b j hb
  rw [← h b j hb]
  refine if_neg ?_
  rintro ⟨rfl, rfl⟩
  rw [hp] at hb
  cases hb
theorem Fr.sub {ws ws' : List Nat} {os os' : List (Nat × Nat)} (h : Fr ws os I I') (h1 : ws.all (fun a => ws'.contains a) = true) (h2 : os.all (fun q => ws'.contains q.1 || os'.contains q) = true) : Fr ws' os' I I' := by
  intro a k hp
  refine h a k ?_
  simp only [Bool.or_eq_false_iff] at hp ⊢
  obtain ⟨p1, p2⟩ := hp
  refine ⟨?_, ?_⟩
  · cases hc : ws.contains a with
    | false => rfl
    | true =>
      have h9 := List.all_eq_true.mp h1 a (List.contains_iff_mem.mp hc)
      (try dsimp only at h9)
      rw [p1] at h9
      cases h9
  · cases hc : os.contains (a, k) with
    | false => rfl
    | true =>
      have h9 := List.all_eq_true.mp h2 (a, k) (List.contains_iff_mem.mp hc)
      (try dsimp only at h9)
      rw [p1, p2] at h9
      cases h9
end
