/-! the class: its nodes, read from tokens -/
section
variable {d L : Nat} {I I1 I2 : mI} {R R1 R2 : mR} {S S1 S2 : mSh} {os : List (Nat × Nat)} {rs : List Nat} {p k kd n : Nat} {x : Int32} {o : Option Nat}
/-- new cells behind the old; of the old only some change -/
def Gw (os : List (Nat × Nat)) (rs : List Nat) (I : mI) (R : mR) (S : mSh) (I1 : mI) (R1 : mR) (S1 : mSh) : Prop :=
  (∃ X : mSh, S1 = S ++ X ∧ ∀ q ∈ X, q.2 ≤ 8) ∧ (∀ a k, a < 155 + S.length → os.contains (a, k) = false → I1 a k = I a k) ∧ ∀ a k, a < 155 + S.length → rs.contains a = false → R1 a k = R a k
theorem Gw.refl (os : List (Nat × Nat)) (rs : List Nat) (I : mI) (R : mR) (S : mSh) : Gw os rs I R S I R S := ⟨⟨[], (List.append_nil _).symm, fun _ h => absurd h List.not_mem_nil⟩, fun _ _ _ _ => rfl, fun _ _ _ _ => rfl⟩
theorem Gw.len (h : Gw os rs I R S I1 R1 S1) : S.length ≤ S1.length := by
  obtain ⟨⟨X, h1, -⟩, -⟩ := h
  rw [h1, List.length_append]; omega
theorem Gw.trans (h : Gw os rs I R S I1 R1 S1) (h2 : Gw os rs I1 R1 S1 I2 R2 S2) : Gw os rs I R S I2 R2 S2 := by
  have hl := h.len
  obtain ⟨⟨X, a1, a2⟩, a3, a4⟩ := h
  obtain ⟨⟨Y, b1, b2⟩, b3, b4⟩ := h2
  refine ⟨⟨X ++ Y, by rw [b1, a1, List.append_assoc], fun q hq => ?_⟩, fun a k ha ho => (b3 a k (by omega) ho).trans (a3 a k ha ho), fun a k ha ho => (b4 a k (by omega) ho).trans (a4 a k ha ho)⟩
  rcases List.mem_append.mp hq with g | g
  · exact a2 q g
  · exact b2 q g
theorem Gw.al (h : AlC kd n I R S p I1 R1 S1) (hn : n ≤ 8) : Gw os rs I R S I1 R1 S1 := by
  obtain ⟨rfl, rfl, -, -, h5⟩ := h
  exact ⟨⟨[(kd, n)], rfl, fun q hq => by rw [List.mem_singleton.mp hq]; exact hn⟩, fun a k ha _ => (h5 a k (by omega)).1, fun a k ha _ => (h5 a k (by omega)).2⟩
theorem Gw.wI (h : Gw os rs I R S I1 R1 S1) (hp : 155 + S.length ≤ p) : Gw os rs I R S (u2 I1 p k x) R1 S1 := ⟨h.1, fun a j ha ho => (v2_ne (by omega)).trans (h.2.1 a j ha ho), h.2.2⟩
theorem Gw.wR (h : Gw os rs I R S I1 R1 S1) (hp : 155 + S.length ≤ p) : Gw os rs I R S I1 (u2 R1 p k o) S1 := ⟨h.1, h.2.1, fun a j ha ho => (v2_ne (by omega)).trans (h.2.2 a j ha ho)⟩
theorem Gw.fr (hf : Fr [] os I I1) : Gw os rs I R S I1 R S := ⟨(Gw.refl os rs I R S).1, fun a k _ ho => hf a k (by show (false || os.contains (a, k)) = false; rw [ho]; rfl), fun _ _ _ _ => rfl⟩
theorem obJ.lt (ho : obJ S p kd n) : p - 155 < S.length := by
  apply Classical.byContradiction
  intro c
  have := ho.2
  rw [List.getElem?_eq_none (by omega)] at this
  cases this
theorem Gw.at (h : Gw os rs I R S I1 R1 S1) (hp : p - 155 < S.length) : S1[p - 155]? = S[p - 155]? := by
  obtain ⟨⟨X, rfl, -⟩, -⟩ := h
  exact List.getElem?_append_left hp
theorem Gw.ob (h : Gw os rs I R S I1 R1 S1) (ho : obJ S p kd n) : obJ S1 p kd n := ⟨ho.1, (h.at ho.lt).trans ho.2⟩
theorem Gw.ld (h : Gw os rs I R S I1 R1 S1) (hp : p < 155 + S.length) (ho : os.contains (p, k) = false) : ld I1 p k = ld I p k := by
  show (I1 p k).toInt = (I p k).toInt
  rw [h.2.1 p k hp ho]
end
abbrev osN : List (Nat × Nat) := [(46, 7), (46, 2)]
theorem osN_hi {a k : Nat} (h : 155 ≤ a) : osN.contains (a, k) = false := by
  apply Bool.eq_false_iff.mpr
  intro c
  have := List.contains_iff_mem.mp c
  simp only [List.mem_cons, Prod.mk.injEq, List.not_mem_nil, or_false] at this
  omega
section
variable {d L : Nat} {I I1 I2 I' : mI} {R R1 R2 R' : mR} {S S1 S2 S' : mSh} {T : Nat → Int} {N nt t t1 t2 p r q : Nat} {f : Int}
theorem PsC.ag (h : PsC I T N nt t f) (hg : ∀ a k, a < 155 → I1 a k = I a k) : PsC I1 T N nt t f := by
  obtain ⟨⟨h0, h1, h2, h3⟩, h4, h5, h6, h7⟩ := h
  have l : ∀ a k, a < 155 → ld I1 a k = ld I a k := fun a k ha => by unfold ld; rw [hg a k ha]
  refine ⟨⟨h0, h1, h2, fun t' ht' => ?_⟩, h4, ?_, ?_, h7⟩
  · rw [l 48 _ (by decide), l 49 _ (by decide), l 50 _ (by decide)]; exact h3 t' ht'
  · rw [l 46 7 (by decide)]; exact h5
  · rw [l 46 2 (by decide)]; exact h6
theorem PsC.lt (h : PsC I T N nt t f) (hk : ¬ tkK T N (plc T N t) = 0) : plc T N t < N ∧ t + 1 ≤ nt := by
  have h1 := tk_lt hk
  refine ⟨h1, ?_⟩
  rcases Nat.lt_or_ge t nt with g | g
  · exact g
  · have e : t = nt := by have := h.2.1; omega
    rw [e, h.1.2.1] at h1; omega
theorem PsC.nx (h : PsC I T N nt t (-1)) (hn : plc T N t < N) {v : Int} (hv : v = (t : Int) + 1) : Fr [] osN I (u2 I 46 7 (oI v)) ∧ PsC (u2 I 46 7 (oI v)) T N nt (t + 1) (-1) := by
  subst hv; exact h.next hn
def CuG (T : Nat → Int) (N nt t : Nat) (I : mI) (R : mR) (S : mSh) (I1 : mI) (R1 : mR) (S1 : mSh) (t1 r : Nat) : Prop := Gw osN [] I R S I1 R1 S1 ∧ PsC I1 T N nt t1 (-1) ∧ bl T N r = plc T N t1 ∧ r ≤ N ∧ t ≤ t1 ∧ S1.length + t ≤ S.length + t1
def FaG (T : Nat → Int) (N nt t : Nat) (I : mI) (R : mR) (S : mSh) (I1 : mI) (R1 : mR) (S1 : mSh) (r : Nat) : Prop := Gw osN [] I R S I1 R1 S1 ∧ ∃ t1, t ≤ t1 ∧ S1.length + t ≤ S.length + t1 ∧ PsC I1 T N nt t1 (r : Int)
/-- the same nodes from lo to hi, but for where q goes on -/
def AgN (lo hi q : Nat) (I : mI) (R : mR) (S : mSh) (I' : mI) (R' : mR) (S' : mSh) : Prop := ∀ p, lo ≤ p → p < hi → (∀ k, I' p k = I p k) ∧ R' p 3 = R p 3 ∧ (¬ p = q → R' p 4 = R p 4) ∧ S'[p - 155]? = S[p - 155]?
def Res {α : Type} (P : mR → mSh → mI → Nat → α → Prop) (S : mSh) (I1 : mI) (R1 : mR) (S1 : mSh) (q : Nat) (x : α) : Prop := (155 + S.length ≤ q ∧ q < 155 + S1.length) ∧ R1 q 4 = none ∧ obJ S1 q 16 5 ∧ ∀ I' R' S', AgN (155 + S.length) (155 + S1.length) q I1 R1 S1 I' R' S' → P R' S' I' q x
theorem Res.ag {α : Type} {P : mR → mSh → mI → Nat → α → Prop} {x : α} (h : Res P S I1 R1 S1 q x) (hg : ∀ a k, 155 ≤ a → I2 a k = I1 a k) : Res P S I2 R1 S1 q x :=
  ⟨h.1, h.2.1, h.2.2.1, fun I' R' S' g => h.2.2.2 I' R' S' (fun p h1 h2 => ⟨fun k => ((g p h1 h2).1 k).trans (hg p k (by omega)), (g p h1 h2).2⟩)⟩
def NdC {α : Type} (T : Nat → Int) (N nt d L m : Nat) (as : List Value) (sp : Nat → Option α × Nat) (P : mR → mSh → mI → Nat → α → Prop) : Prop :=
  ∀ (I : mI) (R : mR) (S : mSh) (t p : Nat) (K : Option Nat → mM → Prop), PsC I T N nt t (-1) → bl T N p = plc T N t → p ≤ N →
  (∀ r I1 R1 S1, sp p = (none, r) → FaG T N nt t I R S I1 R1 S1 r → K none (bd L I1 R1 S1)) →
  (∀ x r I1 R1 S1 t1 q, sp p = (some x, r) → CuG T N nt t I R S I1 R1 S1 t1 r → t < t1 → Res P S I1 R1 S1 q x → K (some q) (bd L I1 R1 S1)) → CallR d m as (bd L I R S) K
end
