/-! the small machine's state against the heap -/
abbrev mG : Type := Nat × (Nat → Nat) × Value × va_G × (Nat → ClassId)
def gAd (G : mG) (a : Nat) : Nat := if a < nSP then G.2.1 a else G.1 + (a - nSP)
def gEn (G : mG) (v : Value) : Value := match v with
  | .ref a => .ref (gAd G a)
  | .retAddr n => if n = 1 then G.2.2.1 else .retAddr n
  | w => w
def gA (G : mG) : Nat → Prop := fun q => G.1 ≤ q
def gTy (G : mG) : List (ClassId × FieldType) := [(G.2.2.2.2 0, .int), (G.2.2.2.2 1, .byte), (G.2.2.2.2 2, .boolean), (G.2.2.2.2 3, .object "SchoolBoard$Clause")]
def gSl (G : mG) (σ : mM) (a ci k : Nat) : Value := if isRefT (jFt ci k) then va_rf ((σ.2.1 a k).map (gAd G)) else .int (σ.1 a k)
def gE (G : mG) (σ : mM) (a : Nat) : va_E := match σ.2.2[a]? with
  | some (0, n) => .inl (G.2.2.2.2 0, n, .inl (σ.1 a))
  | some (1, n) => .inl (G.2.2.2.2 1, n, .inl (σ.1 a))
  | some (2, n) => .inl (G.2.2.2.2 2, n, .inl (σ.1 a))
  | some (3, n) => .inl (G.2.2.2.2 3, n, .inr (.inr (.inr (.inr (fun j => (σ.2.1 a j).map (gAd G))))))
  | some (k + 4, n) => .inr (k, (List.range n).map (gSl G σ a k))
  | none => .inr (0, [])
def gW (G : mG) (σ : mM) : va_W := (List.range (σ.2.2.length - nSP)).map (fun j => (G.1 + j, gE G σ (nSP + j)))
theorem gAd_hi {G : mG} {a : Nat} (h : nSP ≤ a) : gAd G a = G.1 + (a - nSP) := if_neg (by omega)
theorem gAd_in {G : mG} {a : Nat} (h : nSP ≤ a) : gA G (gAd G a) := by rw [gAd_hi h]; exact Nat.le_add_right _ _
theorem gW_len {G : mG} {σ : mM} : (gW G σ).length = σ.2.2.length - nSP := by simp [gW]
theorem gW_get {G : mG} {σ : mM} {a : Nat} (h : nSP ≤ a) (h2 : a < σ.2.2.length) : (gW G σ)[a - nSP]? = some (gAd G a, gE G σ a) := by
  unfold gW
  rw [List.getElem?_map, List.getElem?_range (by omega), gAd_hi h]
  simp only [Option.map_some]
  rw [show nSP + (a - nSP) = a by omega]
theorem gW_at {G : mG} {σ : mM} {j : Nat} {q : Nat × va_E} (h : (gW G σ)[j]? = some q) : j < σ.2.2.length - nSP ∧ q = (G.1 + j, gE G σ (nSP + j)) := by
  have h1 : j < (gW G σ).length := (List.getElem?_eq_some_iff.mp h).1
  rw [gW_len] at h1
  refine ⟨h1, ?_⟩
  unfold gW at h
  rw [List.getElem?_map, List.getElem?_range h1] at h
  exact (Option.some.inj h).symm
theorem gW_D {G : mG} {σ : mM} : va_D (gA G) (gW G σ) := by
  refine ⟨fun i j p q hi hj hpq => ?_, fun k q hk => ?_⟩
  · obtain ⟨-, rfl⟩ := gW_at hi
    obtain ⟨-, rfl⟩ := gW_at hj
    dsimp only at hpq
    omega
  · obtain ⟨-, rfl⟩ := gW_at hk
    exact Nat.le_add_right _ _
theorem gW_set {G : mG} {σ σ' : mM} {a : Nat} (h : nSP ≤ a) (hl : σ'.2.2.length = σ.2.2.length) (he : ∀ b, b ≠ a → gE G σ' b = gE G σ b) : gW G σ' = (gW G σ).set (a - nSP) (gAd G a, gE G σ' a) := by
  apply List.ext_getElem?
  intro j
  rw [List.getElem?_set]
  by_cases hj : a - nSP = j
  · subst hj
    rw [if_pos rfl]
    by_cases hb : a - nSP < (gW G σ).length
    · rw [if_pos hb]
      rw [gW_len] at hb
      exact gW_get h (by omega)
    · rw [if_neg hb]
      rw [gW_len] at hb
      apply List.getElem?_eq_none
      rw [gW_len]
      omega
  · rw [if_neg hj]
    unfold gW
    rw [hl, List.getElem?_map, List.getElem?_map]
    by_cases hb : j < σ.2.2.length - nSP
    · rw [List.getElem?_range hb]
      simp only [Option.map_some]
      rw [he (nSP + j) (by omega)]
    · rw [List.getElem?_eq_none (by simpa using hb)]
      rfl
/-- the cells that were there from the start -/
def gSp (G : mG) (σ : mM) (U : State) (H : Heap) (a : Nat) : Prop := match σ.2.2[a]? with
  | some (0, n) => va_T .int (G.2.1 a) n (fun j => .int (σ.1 a j)) (gA G) U H
  | some (1, n) => va_T .byte (G.2.1 a) n (fun j => .int (σ.1 a j)) (gA G) U H
  | some (17, _) => va_O "java/lang/String" (G.2.1 a) (gA G) U H ∧ va_OF "java/lang/String" "value" "[B" (va_rf ((σ.2.1 a 0).map (gAd G))) (G.2.1 a) (gA G) U H ∧ va_OF "java/lang/String" "coder" "B" (.int (σ.1 a 1)) (G.2.1 a) (gA G) U H
  | _ => False
def gZ (G : mG) (U : State) (H : Heap) : Prop := va_Z "java/lang/String" "COMPACT_STRINGS" "Z" (.int 1) (gA G) U H ∧ va_Z "SchoolBoard$Book" "MOST" "[I" (.ref (G.2.1 1)) (gA G) U H ∧ va_Z "java/lang/Integer" "DigitOnes" "[B" (.ref (G.2.1 6)) (gA G) U H ∧ va_Z "java/lang/Integer" "DigitTens" "[B" (.ref (G.2.1 7)) (gA G) U H ∧ va_Z "jdk/internal/util/Preconditions" "SIOOBE_FORMATTER" "Ljava/util/function/BiFunction;" G.2.2.1 (gA G) U H
def gR (G : mG) (σ : mM) (U : State) (H : Heap) : Prop := va_P G.2.2.2.1 jCl (gW G σ) H ∧ H.size + nSP = G.1 + σ.2.2.length ∧ nSP ≤ σ.2.2.length ∧ (∀ a, a < nSP → gSp G σ U H a) ∧ gZ G U H
def gK (G : mG) (U : State) : Prop := va_K G.2.2.2.1 jCl (gTy G) U ∧ (∀ (own : String) (cp : Nat) (y : MethodName) (h : String), Cond.methodLinkNest own cp y h ∈ jT → va_Nw (.methodLinkNest own cp y h) U) ∧ (∀ e ∈ jSr, ∃ tx, vk_R (jOw e.1) e.2.1 tx (G.2.1 e.2.2) U) ∧ va_AO "SchoolBoard$Clause" U ∧ va_Nw (.castable "[B" "java/lang/Cloneable") U ∧ (G.2.2.1 = .null ∨ ∃ t, G.2.2.1 = .ref t)
theorem gSp.moved {G : mG} {σ : mM} {u U : State} {H : Heap} {a : Nat} (hvm : u.vm.Alike U.vm) (h : gSp G σ u H a) : gSp G σ U H a := by
  unfold gSp at h ⊢
  split at h
  · exact va_T.moved hvm h
  · exact va_T.moved hvm h
  · exact ⟨va_O.moved hvm h.1, va_OF.moved hvm h.2.1, va_OF.moved hvm h.2.2⟩
  · exact h
theorem gSp.kept {G : mG} {σ : mM} {U : State} {H H1 : Heap} {a : Nat} (h : gSp G σ U H a) (hq : ∀ b : Nat, b < H.size → ¬ gA G b → H1[b]? = H[b]?) : gSp G σ U H1 a := by
  unfold gSp at h ⊢
  split at h
  · exact h.kept hq
  · exact h.kept hq
  · exact ⟨h.1.kept hq, h.2.1.kept hq, h.2.2.kept hq⟩
  · exact h
theorem gSp.same {G : mG} {σ σ' : mM} {U : State} {H : Heap} {a : Nat} (h : gSp G σ U H a) (h1 : σ'.1 a = σ.1 a) (h2 : σ'.2.1 a = σ.2.1 a) (h3 : σ'.2.2[a]? = σ.2.2[a]?) : gSp G σ' U H a := by
  unfold gSp at h ⊢
  rw [h3, h1, h2]
  exact h
theorem gZ.moved {G : mG} {u U : State} {H : Heap} (hvm : u.vm.Alike U.vm) (h : gZ G u H) : gZ G U H := ⟨va_Z.moved hvm h.1, va_Z.moved hvm h.2.1, va_Z.moved hvm h.2.2.1, va_Z.moved hvm h.2.2.2.1, va_Z.moved hvm h.2.2.2.2⟩
theorem gZ.kept {G : mG} {U : State} {H H1 : Heap} (h : gZ G U H) (hq : ∀ b : Nat, b < H.size → ¬ gA G b → H1[b]? = H[b]?) : gZ G U H1 := ⟨h.1.kept hq, h.2.1.kept hq, h.2.2.1.kept hq, h.2.2.2.1.kept hq, h.2.2.2.2.kept hq⟩
theorem gR.moved {G : mG} {σ : mM} {u U : State} {H : Heap} (hvm : u.vm.Alike U.vm) (h : gR G σ u H) : gR G σ U H := ⟨h.1, h.2.1, h.2.2.1, fun a ha => (h.2.2.2.1 a ha).moved hvm, h.2.2.2.2.moved hvm⟩
theorem gK.same {G : mG} {u U : State} (h : u.vm = U.vm) (hk : gK G u) : gK G U := by
  obtain ⟨h1, h2, h3, h4, h5, h6⟩ := hk
  have ha : u.vm.Alike U.vm := by rw [h]; exact Vm.Alike.refl _
  refine ⟨va_K.moved ha h1, fun o c y q hm => va_Nw.same rfl h (h2 o c y q hm), fun e he => ?_, va_AO.moved ha h4, va_Nw.same rfl h h5, h6⟩
  obtain ⟨tx, ht⟩ := h3 e he
  exact ⟨tx, vk_R.same h.symm ht⟩
theorem gK.warm {G : mG} {s U : State} (hW : s.WarmedH U.vm) (hk : gK G s) : gK G U := by
  obtain ⟨h1, h2, h3, h4, h5, h6⟩ := hk
  refine ⟨va_K.moved hW.alike h1, fun o c y q hm => va_Nw.warmM hW (h2 o c y q hm), fun e he => ?_, va_AO.moved hW.alike h4, va_Nw.warmC hW h5, h6⟩
  obtain ⟨tx, ht⟩ := h3 e he
  exact ⟨tx, vk_R.warm hW ht⟩
/-! locals -/
def isUn (v : Value) : Bool := match v with
  | .retAddr n => decide (n = 0)
  | _ => false
def gL (G : mG) (nL : Nat) (ls : List Value) (lsR : Array Slot) : Prop := lsR.size = nL ∧ lv_wf lsR ∧ ls.length = nL ∧ ∀ (i : Nat) (v : Value), ls[i]? = some v → isUn v = false → lsR[i]? = some (Slot.val (gEn G v))
def lvO (G : mG) (ls : List Value) : List (Nat × Value) := (List.range ls.length).filterMap (fun i => match ls[i]? with
  | some v => if isUn v then none else some (i, gEn G v)
  | none => none)
theorem lvO_mem {G : mG} {ls : List Value} {i : Nat} {v : Value} (h : ls[i]? = some v) (hu : isUn v = false) : (i, gEn G v) ∈ lvO G ls := by
  unfold lvO
  refine List.mem_filterMap.mpr ⟨i, List.mem_range.mpr (List.getElem?_eq_some_iff.mp h).1, ?_⟩
  rw [h]
  simp [hu]
theorem lvO_of {G : mG} {ls : List Value} {q : Nat × Value} (h : q ∈ lvO G ls) : ∃ v, ls[q.1]? = some v ∧ isUn v = false ∧ q.2 = gEn G v := by
  unfold lvO at h
  obtain ⟨i, -, hi⟩ := List.mem_filterMap.mp h
  split at hi
  · rename_i v hv
    split at hi
    · cases hi
    · rename_i hu
      cases hi
      exact ⟨v, hv, by simpa using hu, rfl⟩
  · cases hi
theorem gL.has {G : mG} {nL : Nat} {ls : List Value} {lsR : Array Slot} (h : gL G nL ls lsR) : lv_has lsR nL (lvO G ls) := by
  refine ⟨h.1, h.2.1, fun q hq => ?_⟩
  obtain ⟨v, h1, h2, h3⟩ := lvO_of hq
  rw [h3]
  exact h.2.2.2 _ _ h1 h2
theorem mSet_get : ∀ (ls : List Value) (i : Nat) (v : Value) (j : Nat), i < ls.length → (mSet ls i v)[j]? = if j = i then some v else if j + 1 = i then (ls[j]?).map mNl else ls[j]?
  | [], i, v, j, h => absurd h (Nat.not_lt_zero _)
  | a :: r, 0, v, j, _ => by
    cases j with
    | zero => rfl
    | succ j => simp [mSet]
  | a :: r, 1, v, j, h => by
    cases j with
    | zero => simp [mSet]
    | succ j =>
      simp only [mSet, List.getElem?_cons_succ]
      rw [mSet_get r 0 v j (by simpa using h)]
      by_cases h0 : j = 0
      · simp [h0]
      · simp [h0]
  | a :: r, k + 2, v, j, h => by
    cases j with
    | zero => simp [mSet]
    | succ j =>
      simp only [mSet, List.getElem?_cons_succ]
      rw [mSet_get r (k + 1) v j (by simp only [List.length_cons] at h; omega)]
      by_cases h0 : j = k + 1
      · simp [h0]
      · by_cases h1 : j = k
        · simp [h1]
        · rw [if_neg h0, if_neg (by omega), if_neg (by omega), if_neg (by omega)]
theorem mSet_len : ∀ (ls : List Value) (i : Nat) (v : Value), (mSet ls i v).length = ls.length
  | [], i, v => rfl
  | a :: r, 0, v => rfl
  | a :: r, 1, v => by simp [mSet, mSet_len r 0 v]
  | a :: r, k + 2, v => by simp [mSet, mSet_len r (k + 1) v]
theorem mSet2_get : ∀ (ls : List Value) (i : Nat) (v : Value) (j : Nat), i + 1 < ls.length → (mSet2 ls i v)[j]? = if j = i then some v else if j = i + 1 then some mUn else if j + 1 = i then (ls[j]?).map mNl else ls[j]?
  | [], i, v, j, h => absurd h (Nat.not_lt_zero _)
  | a :: r, 0, v, j, h => by
    cases j with
    | zero => rfl
    | succ j =>
      simp only [mSet2, List.getElem?_cons_succ]
      rw [mSet_get r 0 mUn j (by simpa using h)]
      by_cases h0 : j = 0
      · simp [h0]
      · simp [h0]
  | a :: r, 1, v, j, h => by
    cases j with
    | zero => simp [mSet2]
    | succ j =>
      simp only [mSet2, List.getElem?_cons_succ]
      rw [mSet2_get r 0 v j (by simp only [List.length_cons] at h; omega)]
      by_cases h0 : j = 0
      · simp [h0]
      · by_cases h1 : j = 1
        · simp [h1]
        · rw [if_neg h0, if_neg (by omega), if_neg (by omega), if_neg (by omega), if_neg (by omega), if_neg (by omega)]
  | a :: r, k + 2, v, j, h => by
    cases j with
    | zero => simp [mSet2]
    | succ j =>
      simp only [mSet2, List.getElem?_cons_succ]
      rw [mSet2_get r (k + 1) v j (by simp only [List.length_cons] at h; omega)]
      by_cases h0 : j = k + 1
      · simp [h0]
      · by_cases h1 : j = k + 2
        · simp [h1]
        · by_cases h2 : j = k
          · subst h2
            rw [if_neg h0, if_neg h1, if_pos rfl, if_neg (by omega), if_neg (by omega), if_pos rfl]
          · rw [if_neg h0, if_neg h1, if_neg (by omega), if_neg (by omega), if_neg (by omega), if_neg (by omega)]
theorem mSet2_len : ∀ (ls : List Value) (i : Nat) (v : Value), (mSet2 ls i v).length = ls.length
  | [], i, v => rfl
  | a :: r, 0, v => by simp [mSet2, mSet_len r 0 mUn]
  | a :: r, 1, v => by simp [mSet2, mSet2_len r 0 v]
  | a :: r, k + 2, v => by simp [mSet2, mSet2_len r (k + 1) v]
theorem gEn_cat {G : mG} (hO : G.2.2.1 = .null ∨ ∃ t, G.2.2.1 = .ref t) {v : Value} (h : (gEn G v).category = 2) : mNl v = .retAddr 0 := by
  cases v with
  | long x => rfl
  | double x => rfl
  | retAddr n =>
    have h : (if n = 1 then G.2.2.1 else Value.retAddr n).category = 2 := h
    split at h
    · rcases hO with e | ⟨t, e⟩ <;> (rw [e] at h; simp [Value.category] at h)
    · simp [Value.category] at h
  | _ => simp [gEn, Value.category] at h
theorem mNl_un {v w : Value} (h : mNl v = w) (hu : isUn w = false) : w = v := by
  subst h
  cases v <;> first | rfl | (simp [mNl, isUn] at hu; done)
theorem gL.set1 {G : mG} (hO : G.2.2.1 = .null ∨ ∃ t, G.2.2.1 = .ref t) {nL : Nat} {ls : List Value} {lsR lsR' : Array Slot} {i : Nat} {v : Value} (h : gL G nL ls lsR) (hi : i < ls.length)
    (h' : lv_has lsR' nL ((i, gEn G v) :: (lvO G ls).filter (fun q => !(q.1 == i) && !(q.1 + 1 == i && q.2.category == 2)))) : gL G nL (mSet ls i v) lsR' := by
  refine ⟨h'.1, h'.2.1, (mSet_len ls i v).trans h.2.2.1, fun j w hj hw => ?_⟩
  rw [mSet_get ls i v j hi] at hj
  split at hj
  · rename_i e
    cases hj
    subst e
    exact h'.2.2 (j, gEn G v) List.mem_cons_self
  · rename_i e
    have key : ∀ w', ls[j]? = some w' → isUn w' = false → (j + 1 = i → (gEn G w').category ≠ 2) → lsR'[j]? = some (.val (gEn G w')) := by
      intro w' h1 h2 h3
      refine h'.2.2 (j, gEn G w') (List.mem_cons_of_mem _ (List.mem_filter.mpr ⟨lvO_mem h1 h2, ?_⟩))
      by_cases e2 : j + 1 = i
      · simp [e, e2, h3 e2]
      · simp [e, e2]
    split at hj
    · rename_i e2
      obtain ⟨u, hu1, hu2⟩ := Option.map_eq_some_iff.mp hj
      have hwu := mNl_un hu2 hw
      subst hwu
      refine key w hu1 hw (fun _ hc => ?_)
      have h9 := gEn_cat hO hc
      rw [hu2] at h9
      rw [h9] at hw
      simp [isUn] at hw
    · rename_i e2
      exact key w hj hw (fun q => absurd q e2)
theorem gL.set2 {G : mG} (hO : G.2.2.1 = .null ∨ ∃ t, G.2.2.1 = .ref t) {nL : Nat} {ls : List Value} {lsR lsR' : Array Slot} {i : Nat} {v : Value} (h : gL G nL ls lsR) (hi : i + 1 < ls.length)
    (h' : lv_has lsR' nL ((i, gEn G v) :: (lvO G ls).filter (fun q => !(q.1 == i) && (!(q.1 == i + 1) && !(q.1 + 1 == i && q.2.category == 2))))) : gL G nL (mSet2 ls i v) lsR' := by
  refine ⟨h'.1, h'.2.1, (mSet2_len ls i v).trans h.2.2.1, fun j w hj hw => ?_⟩
  rw [mSet2_get ls i v j hi] at hj
  split at hj
  · rename_i e
    cases hj
    subst e
    exact h'.2.2 (j, gEn G v) List.mem_cons_self
  · rename_i e
    split at hj
    · cases hj
      simp [isUn, mUn] at hw
    · rename_i e0
      have key : ∀ w', ls[j]? = some w' → isUn w' = false → (j + 1 = i → (gEn G w').category ≠ 2) → lsR'[j]? = some (.val (gEn G w')) := by
        intro w' h1 h2 h3
        refine h'.2.2 (j, gEn G w') (List.mem_cons_of_mem _ (List.mem_filter.mpr ⟨lvO_mem h1 h2, ?_⟩))
        by_cases e2 : j + 1 = i
        · simp [e, e0, e2, h3 e2]
        · simp [e, e0, e2]
      split at hj
      · rename_i e2
        obtain ⟨u, hu1, hu2⟩ := Option.map_eq_some_iff.mp hj
        have hwu := mNl_un hu2 hw
        subst hwu
        refine key w hu1 hw (fun _ hc => ?_)
        have h9 := gEn_cat hO hc
        rw [hu2] at h9
        rw [h9] at hw
        simp [isUn] at hw
      · rename_i e2
        exact key w hj hw (fun q => absurd q e2)
