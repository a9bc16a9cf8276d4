/-! the start that the Statement gives is the small machine's start -/
def jF : List Cond := flatC (Jvm.Cond.and given_1 narrow_1)
def zF (tm : Term) (v : Nat → Int32) (j : Nat) : Cond := Cond.eq (.elem tm (.int (Int32.ofNat j))) (.int (v j))
def zTx (o : String) (k : Nat) : String := ((lw_tbl.filterMap (fun w => match w with
  | .stringRef a b t => if a = o ∧ b = k then some t else none
  | _ => none)).head?).getD ""
def tmM : Term := .static "SchoolBoard$Book" "MOST" "[I"
def tmO : Term := .static "java/lang/Integer" "DigitOnes" "[B"
def tmT : Term := .static "java/lang/Integer" "DigitTens" "[B"
def tmW : Term := .string "SchoolBoard$Reader" 81
def tmE : Term := .string "SchoolBoard$Clause" 9
def tmV (t : Term) : Term := .field t "java/lang/String" "value" "[B"
def vI (a j : Nat) : Int32 := s0I (fun _ => 0) a j
theorem zF_M : (List.range 7).map (zF tmM (vI 1)) = (jF.drop 7).take 7 := by decide +kernel
theorem zF_O : (List.range 100).map (zF tmO (vI 6)) = (jF.drop 22).take 100 := by decide +kernel
theorem zF_T : (List.range 100).map (zF tmT (vI 7)) = (jF.drop 125).take 100 := by decide +kernel
theorem zF_W : (List.range 328).map (zF (tmV tmW) (vI 3)) = (jF.drop 229).take 328 := by decide +kernel
section
variable {s : State} {args : Array Value} {A : Nat → Prop}
theorem el_of {tm : Term} {N q : Nat} {v : Nat → Int32} (hs : ∀ c ∈ jF, c.before args s = true) (h : (List.range N).map (zF tm v) = (jF.drop q).take N) (j : Nat) (hj : j < N) : (Term.elem tm (.int (Int32.ofNat j))).eval args s none [] s = some (.int (v j)) :=
  va_eqt (hs (zF tm v j) (va_run h j hj))
theorem jX_hts (hts : ∀ w ∈ lw_tbl, w.before args s = true) : ∀ w ∈ jT, w.before args s = true := by
  have hni : ∀ c k, s.vm.findClass "java/lang/AbstractStringBuilder" = some c → s.vm.classes[c]? = some k → k.isInterface = false := by
    intro c k hc hk
    obtain ⟨c1, r, m, -, -, h3, -, mk, h5, h6⟩ := Cond.selects_spec (hts (.selects "java/lang/StringBuilder" (⟨"java/lang/AbstractStringBuilder", "isLatin1", "()Z"⟩ : MethodName) (⟨"java/lang/AbstractStringBuilder", "isLatin1", "()Z"⟩ : MethodName)) (by decide +kernel))
    have h7 : s.vm.findClass "java/lang/AbstractStringBuilder" = some m.cls := findClass_of_methodNamed h3
    rw [h7] at hc
    cases hc
    rw [h5] at hk
    cases hk
    exact h6
  have go : ∀ y : MethodName, y.cls = "java/lang/AbstractStringBuilder" → Cond.privateMethod y ∈ lw_tbl → Cond.instanceMethod y ∈ lw_tbl → (Cond.selects "java/lang/StringBuilder" y y).before args s = true := by
    intro y hy h1 h2
    refine j_selP (n := 4) ⟨by rw [hy]; decide +kernel, by rw [hy]; decide +kernel⟩ (hts (.instantiable "java/lang/StringBuilder" 4) (by decide +kernel)) (hts _ h1) (hts _ h2) ?_ ?_
    · rw [hy]; exact hts (.initialized "java/lang/AbstractStringBuilder") (by decide +kernel)
    · rw [hy]; exact hni
  intro w hw
  rcases List.mem_append.mp hw with h | h
  · unfold jX at h
    simp only [List.mem_cons, List.not_mem_nil, or_false] at h
    rcases h with h | h
    · rw [h]; exact go _ rfl (by decide +kernel) (by decide +kernel)
    · rw [h]; exact go _ rfl (by decide +kernel) (by decide +kernel)
  · exact hts w h
theorem zT_of {tm : Term} {N q : Nat} {v : Nat → Int32} {ty : FieldType} (hs : ∀ c ∈ jF, c.before args s = true) (hN : N < 2 ^ 31) (har : Cond.arrayOf tm ty ∈ jF) (hle : Cond.eq (.length tm) (.int (Int32.ofNat N)) ∈ jF) (h : (List.range N).map (zF tm v) = (jF.drop q).take N) (hA : ∀ a : Nat, a < s.heap.size → ¬ A a) : ∃ t : Nat, tm.eval args s none [] s = some (.ref t) ∧ va_T ty t N (fun j => .int (v j)) A s s.heap :=
  va_Tof hN (hs _ har) (va_eqt (hs _ hle)) (el_of hs h) hA
theorem zS_of {tm : Term} {N q : Nat} {v : Nat → Int32} (hs : ∀ c ∈ jF, c.before args s = true) (hN : N < 2 ^ 31) (hex : Cond.exactly tm "java/lang/String" ∈ jF) (hco : Cond.eq (.field tm "java/lang/String" "coder" "B") (.int 0) ∈ jF) (har : Cond.arrayOf (tmV tm) .byte ∈ jF) (hle : Cond.eq (.length (tmV tm)) (.int (Int32.ofNat N)) ∈ jF) (h : (List.range N).map (zF (tmV tm) v) = (jF.drop q).take N) (hA : ∀ a : Nat, a < s.heap.size → ¬ A a) :
    ∃ a t : Nat, tm.eval args s none [] s = some (.ref a) ∧ va_O "java/lang/String" a A s s.heap ∧ va_OF "java/lang/String" "value" "[B" (.ref t) a A s s.heap ∧ va_OF "java/lang/String" "coder" "B" (.int 0) a A s s.heap ∧ va_T .byte t N (fun j => .int (v j)) A s s.heap := by
  obtain ⟨a, c, cA, kA, q1, q2, q3, q4, q5, q6, -⟩ := Cond.exactly_spec (args := args) (first := s) (o := none) (s := s) (idx := []) (t := tm) (cls := "java/lang/String") (hs _ hex)
  obtain ⟨t, ht, hT⟩ := zT_of (A := A) hs hN har hle h hA
  exact ⟨a, t, q1, ⟨cA, q3, q5, by rw [q6]; exact q2, hA a (Array.getElem?_eq_some_iff.mp q3).1⟩, vk_OFof q1 ht hA, vk_OFof q1 (va_eqt (hs _ hco)) hA, hT⟩
theorem zArr {ty : FieldType} (h : (Cond.arrayClass ty).before args s = true) (hty : ∀ C, ¬ ty = .object C) : ∃ cA : ClassId, ArrOfT s cA ty ∧ va_RA s cA ty := by
  obtain ⟨c, k, comp, h1, h2, h3⟩ := Cond.arrayClass_spec h
  refine ⟨c, fun n z => ⟨(fun k h => by cases h), k, h2, comp, h3⟩, ?_⟩
  cases ty with
  | object C => exact absurd rfl (hty C)
  | _ => exact h1
theorem zArrO {C : String} (h : (Cond.arrayOver (.object C)).before args s = true) : ∃ cA : ClassId, ArrOfT s cA (.object C) ∧ va_RA s cA (.object C) := by
  obtain ⟨comp, c, k, h1, -, h2, h3, h4⟩ := Cond.arrayOver_spec h
  exact ⟨c, fun n z => ⟨(fun k h => by cases h), k, h2, comp, h3⟩, k, comp, h2, h3, h1, h4⟩
theorem zCls (hj : ∀ w ∈ jT, w.before args s = true) : ∃ dd : Nat → ClassId × (Nat → Nat), ∀ (k : Nat) (q : vw_C), jCl[k]? = some q → u_Kn s q.1 q.2.1 q.2.2 (dd k).1 (dd k).2 := by
  have h0 : ∀ k : Nat, ∃ z : ClassId × (Nat → Nat), ∀ q : vw_C, jCl[k]? = some q → u_Kn s q.1 q.2.1 q.2.2 z.1 z.2 := by
    intro k
    match k with
    | 0 =>
      obtain ⟨c, f, h⟩ := u_known hj jL0 (hj _ jI0.1)
      exact ⟨(c, f), fun q hq => by cases hq; exact h⟩
    | 1 =>
      obtain ⟨c, f, h⟩ := u_known hj jL1 (hj _ jI1.1)
      exact ⟨(c, f), fun q hq => by cases hq; exact h⟩
    | 2 =>
      obtain ⟨c, f, h⟩ := u_known hj jL2 (hj _ jI2.1)
      exact ⟨(c, f), fun q hq => by cases hq; exact h⟩
    | 3 =>
      obtain ⟨c, f, h⟩ := u_known hj jL3 (hj _ jI3.1)
      exact ⟨(c, f), fun q hq => by cases hq; exact h⟩
    | 4 =>
      obtain ⟨c, f, h⟩ := u_known hj jL4 (hj _ jI4.1)
      exact ⟨(c, f), fun q hq => by cases hq; exact h⟩
    | 5 =>
      obtain ⟨c, f, h⟩ := u_known hj jL5 (hj _ jI5.1)
      exact ⟨(c, f), fun q hq => by cases hq; exact h⟩
    | 6 =>
      obtain ⟨c, f, h⟩ := u_known hj jL6 (hj _ jI6.1)
      exact ⟨(c, f), fun q hq => by cases hq; exact h⟩
    | 7 =>
      obtain ⟨c, f, h⟩ := u_known hj jL7 (hj _ jI7.1)
      exact ⟨(c, f), fun q hq => by cases hq; exact h⟩
    | 8 =>
      obtain ⟨c, f, h⟩ := u_known hj jL8 (hj _ jI8.1)
      exact ⟨(c, f), fun q hq => by cases hq; exact h⟩
    | 9 =>
      obtain ⟨c, f, h⟩ := u_known hj jL9 (hj _ jI9.1)
      exact ⟨(c, f), fun q hq => by cases hq; exact h⟩
    | 10 =>
      obtain ⟨c, f, h⟩ := u_known hj jL10 (hj _ jI10.1)
      exact ⟨(c, f), fun q hq => by cases hq; exact h⟩
    | 11 =>
      obtain ⟨c, f, h⟩ := u_known hj jL11 (hj _ jI11.1)
      exact ⟨(c, f), fun q hq => by cases hq; exact h⟩
    | 12 =>
      obtain ⟨c, f, h⟩ := u_known hj jL12 (hj _ jI12.1)
      exact ⟨(c, f), fun q hq => by cases hq; exact h⟩
    | 13 =>
      obtain ⟨c, f, h⟩ := u_known hj jL13 (hj _ jI13.1)
      exact ⟨(c, f), fun q hq => by cases hq; exact h⟩
    | 14 =>
      obtain ⟨c, f, h⟩ := u_known hj jL14 (hj _ jI14.1)
      exact ⟨(c, f), fun q hq => by cases hq; exact h⟩
    | k + 15 =>
      obtain ⟨c, f, h⟩ := u_known hj jL0 (hj _ jI0.1)
      exact ⟨(c, f), fun q hq => by
        have h2 := (List.getElem?_eq_some_iff.mp hq).1
        have h3 : jCl.length = 15 := rfl
        omega⟩
  exact Classical.axiomOfChoice h0
end
def zG (h b tM tW vW tE vE tO tT : Nat) (vF : Value) (dd : Nat → ClassId × (Nat → Nat)) (c0 c1 c2 c3 : ClassId) : mG := (h, (fun a => match a with
  | 0 => b
  | 1 => tM
  | 2 => tW
  | 3 => vW
  | 4 => tE
  | 5 => vE
  | 6 => tO
  | _ => tT), vF, (fun k => (dd k).1, fun k => (dd k).2), (fun k => match k with
  | 0 => c0
  | 1 => c1
  | 2 => c2
  | _ => c3))
set_option maxHeartbeats 4000000 in
theorem g_start {s : State} {b L : Nat} {xs : Nat → Int32} (hs : ∀ c ∈ jF, c.before #[Value.ref b] s = true) (hts : ∀ w ∈ lw_tbl, w.before #[Value.ref b] s = true) (hX : va_X b L xs s s.heap) (hbl : b < s.heap.size) :
    ∃ G : mG, G.1 = s.heap.size ∧ G.2.1 0 = b ∧ gK G s ∧ gR G (sZ L xs) s s.heap := by
  have hj := jX_hts hts
  have hA : ∀ a : Nat, a < s.heap.size → ¬ (fun q : Nat => s.heap.size ≤ q) a := fun a h => Nat.not_le.mpr h
  obtain ⟨tM, eM, hM⟩ := zT_of (A := fun q : Nat => s.heap.size ≤ q) (tm := tmM) (N := 7) (v := vI 1) (ty := .int) hs (by decide) (by decide +kernel) (by decide +kernel) zF_M hA
  obtain ⟨tO, eO, hO⟩ := zT_of (A := fun q : Nat => s.heap.size ≤ q) (tm := tmO) (N := 100) (v := vI 6) (ty := .byte) hs (by decide) (by decide +kernel) (by decide +kernel) zF_O hA
  obtain ⟨tT, eT, hT⟩ := zT_of (A := fun q : Nat => s.heap.size ≤ q) (tm := tmT) (N := 100) (v := vI 7) (ty := .byte) hs (by decide) (by decide +kernel) (by decide +kernel) zF_T hA
  obtain ⟨tW, vW, eW, oW, fW, kW, hW⟩ := zS_of (A := fun q : Nat => s.heap.size ≤ q) (tm := tmW) (N := 328) (v := vI 3) hs (by decide) (by decide +kernel) (by decide +kernel) (by decide +kernel) (by decide +kernel) zF_W hA
  obtain ⟨tE, vE, eE, oE, fE, kE, hE⟩ := zS_of (A := fun q : Nat => s.heap.size ≤ q) (tm := tmE) (N := 0) (q := 0) (v := fun _ => 0) hs (by decide) (by decide +kernel) (by decide +kernel) (by decide +kernel) (by decide +kernel) rfl hA
  obtain ⟨dd, hdd⟩ := zCls hj
  obtain ⟨c0, a0, r0⟩ := zArr (ty := .int) (hts (.arrayClass .int) (by decide +kernel)) (fun C h => by cases h)
  obtain ⟨c1, a1, r1⟩ := zArr (ty := .byte) (hts (.arrayClass .byte) (by decide +kernel)) (fun C h => by cases h)
  obtain ⟨c2, a2, r2⟩ := zArr (ty := .boolean) (hts (.arrayClass .boolean) (by decide +kernel)) (fun C h => by cases h)
  obtain ⟨c3, a3, r3⟩ := zArrO (hts (.arrayOver (.object "SchoolBoard$Clause")) (by decide +kernel))
  have zq := va_Zqof (A := fun q : Nat => s.heap.size ≤ q) (hts (.laysStatic "jdk/internal/util/Preconditions" "SIOOBE_FORMATTER" "Ljava/util/function/BiFunction;") (by decide +kernel)) (hts (.initialized "jdk/internal/util/Preconditions") (by decide +kernel)) (hs (.isRef (.static "jdk/internal/util/Preconditions" "SIOOBE_FORMATTER" "Ljava/util/function/BiFunction;")) (by decide +kernel)) hA
  obtain ⟨vF, hvF, zF2⟩ : ∃ vF : Value, (vF = .null ∨ ∃ t, vF = .ref t) ∧ va_Z "jdk/internal/util/Preconditions" "SIOOBE_FORMATTER" "Ljava/util/function/BiFunction;" vF (fun q : Nat => s.heap.size ≤ q) s s.heap := by
    rcases zq with z | ⟨t, z⟩
    · exact ⟨.null, Or.inl rfl, z⟩
    · exact ⟨.ref t, Or.inr ⟨t, rfl⟩, z⟩
  have zC := va_Zof (A := fun q : Nat => s.heap.size ≤ q) (hts (.laysStatic "java/lang/String" "COMPACT_STRINGS" "Z") (by decide +kernel)) (hts (.initialized "java/lang/String") (by decide +kernel)) (va_eqi (z := 1) (hs (.eq (.static "java/lang/String" "COMPACT_STRINGS" "Z") (.int 1)) (by decide +kernel))) hA
  have zM := va_Zof (A := fun q : Nat => s.heap.size ≤ q) (hts (.laysStatic "SchoolBoard$Book" "MOST" "[I") (by decide +kernel)) (hts (.initialized "SchoolBoard$Book") (by decide +kernel)) eM hA
  have zO := va_Zof (A := fun q : Nat => s.heap.size ≤ q) (hts (.laysStatic "java/lang/Integer" "DigitOnes" "[B") (by decide +kernel)) (hts (.initialized "java/lang/Integer") (by decide +kernel)) eO hA
  have zT := va_Zof (A := fun q : Nat => s.heap.size ≤ q) (hts (.laysStatic "java/lang/Integer" "DigitTens" "[B") (by decide +kernel)) (hts (.initialized "java/lang/Integer") (by decide +kernel)) eT hA
  have eW2 : (Term.string "SchoolBoard" 345).eval #[Value.ref b] s none [] s = some (.ref tW) := va_eqR (hs (.eq (.string "SchoolBoard$Reader" 81) (.string "SchoolBoard" 345)) (by decide +kernel)) eW
  refine ⟨zG s.heap.size b tM tW vW tE vE tO tT vF dd c0 c1 c2 c3, rfl, rfl, ⟨⟨hdd, ?_⟩, ?_, ?_, ?_, ?_, hvF⟩, ?_, rfl, Nat.le_refl _, ?_, zC, zM, zO, zT, zF2⟩
  · intro k q hq
    match k, hq with
    | 0, hq => cases hq; exact ⟨a0, r0⟩
    | 1, hq => cases hq; exact ⟨a1, r1⟩
    | 2, hq => cases hq; exact ⟨a2, r2⟩
    | 3, hq => cases hq; exact ⟨a3, r3⟩
    | k + 4, hq =>
      have h2 := (List.getElem?_eq_some_iff.mp hq).1
      exact absurd h2 (by show ¬ k + 4 < 4; omega)
  · intro own cp y h hm
    rcases List.mem_append.mp hm with h1 | h1
    · unfold jX at h1
      simp only [List.mem_cons, List.not_mem_nil, or_false] at h1
      rcases h1 with h1 | h1 <;> cases h1
    · exact va_tabs (u := s) (U := s) rfl rfl (hts _ h1)
  · intro e he
    unfold jSr at he
    simp only [List.mem_cons, List.not_mem_nil, or_false] at he
    rcases he with rfl | rfl | rfl
    · exact ⟨_, vk_R.of (hts (.stringRef "SchoolBoard" 345 (zTx "SchoolBoard" 345)) (by decide +kernel)) eW2⟩
    · exact ⟨_, vk_R.of (hts (.stringRef "SchoolBoard$Reader" 81 (zTx "SchoolBoard$Reader" 81)) (by decide +kernel)) eW⟩
    · exact ⟨_, vk_R.of (hts (.stringRef "SchoolBoard$Clause" 9 "") (by decide +kernel)) eE⟩
  · exact va_AO.of (hts (.arrayOver (.object "SchoolBoard$Clause")) (by decide +kernel))
  · exact va_tabs (u := s) (U := s) rfl rfl (hts (.castable "[B" "java/lang/Cloneable") (by decide +kernel))
  · intro k q hq
    have h2 := (List.getElem?_eq_some_iff.mp hq).1
    rw [gW_len] at h2
    exact absurd h2 (by show ¬ k < 8 - nSP; unfold nSP; omega)
  · intro a ha
    have ha : a < 8 := ha
    match a, ha with
    | 0, _ =>
      obtain ⟨scr, h1, h2, h3, h4, h5⟩ := hX
      exact ⟨scr, h1, h2, h3, Nat.le_of_eq h4.symm, by rw [h4] <;> rfl, h5, hA b hbl⟩
    | 1, _ => exact hM
    | 2, _ => exact ⟨oW, fW, kW⟩
    | 3, _ => exact hW
    | 4, _ => exact ⟨oE, fE, kE⟩
    | 5, _ => exact hE
    | 6, _ => exact hO
    | 7, _ => exact hT
    | k + 8, h => exact absurd h (by omega)
def R_law : String := "SchoolBoardLaw"
def lw_P (b : Addr) (xs : List Int32) (args : Array Value) (s : State) : Prop := args = #[.ref b] ∧ s.IntsAt b xs ∧ xs.length ≤ 3584 ∧ (Jvm.Cond.and given_1 narrow_1).before args s = true
def lw_Q (_ : Array Value) (s : State) (o : Outcome) (t : State) : Prop := o = .returned (some (.int 1)) ∧ Framed s o t [] 600000 7302250
def lw_Z (below : List Frame) (a : Array Value) (s : State) : State → Prop := fun t => ∃ o, t.status = .running ∧ Ended t below o ∧ lw_Q a s o t
/-- what holds at the law's entry: the machine, the code, the tables' words (any of lw_tbl by 'hts w (by decide +kernel)'), the script of L ints xs at the cell b, what the Statement gives of the start (any of its parts by flat_of_before) -/
def lw_At (p : Program) (s : State) (m : MethodId) (meth : Method) (c : Code) (b L : Nat) (xs : Nat → Int32) : Prop :=
  p.tables.exec = Jvm.exec ∧ c.code = code ∧ meth.sig.returnType = ret ∧ c.maxLocals = 4 ∧ s.vm.findClass R_law = some m.cls ∧ (∀ w ∈ lw_tbl, w.before #[Value.ref b] s = true) ∧ va_X b L xs s s.heap ∧ b < s.heap.size ∧ meth.locks = false ∧ (Jvm.Cond.and given_1 narrow_1).before #[Value.ref b] s = true
theorem lw_fresh {s t : State} {o : Outcome} {L : List Loc} {mc ms : Nat} (h : FrameEnd s o t L mc ms) (hL : ∀ q ∈ L, s.heap.size ≤ q.base) (hc : mc ≤ 600000) (hn : ms ≤ 7302250) : Framed s o t [] 600000 7302250 := by
  obtain ⟨h1, h2, k1, k2, k3, k4, k5, k6⟩ := h
  refine ⟨h1, h2, k1, k2, Nat.le_trans k3 (Nat.add_le_add_left hc _), k4, Nat.le_trans k5 hn, fun a c hc => ?_⟩
  obtain ⟨c', z1, z2, z3, z4⟩ := k6 a c hc
  refine ⟨c', z1, z2, z3, fun i _ => z4 i (fun hm => ?_)⟩
  have e1 := hL _ hm
  have e2 : a < s.heap.size := (Array.getElem?_eq_some_iff.mp hc).1
  exact absurd e2 (Nat.not_lt.mpr e1)
set_option maxRecDepth 100000 in
theorem jQ341 : jMb 341 = code ∧ jML.getD 341 0 = 4 ∧ jMr 341 = ret ∧ jOw (jMo 341) = "SchoolBoardLaw" ∧ (jMn 341).name = "law" := ⟨rfl, rfl, rfl, rfl, rfl⟩
theorem oI_1 : oI 1 = (1 : Int32) := by decide +kernel
theorem whole_start {p : Program} {e : Env} {s : State} {m : MethodId} {below : List Frame} {meth : Method} {c : Code} (l : Launch) {b L : Nat} {xs : Nat → Int32} (hL : L ≤ 3584) (hname : meth.name = "law") (C0 : lw_At p s m meth c b L xs) : W p l e room_1 s m #[Value.ref b] below meth c s.heap [] 0 0 (lw_Z below #[Value.ref b] s) (entryFrame m ([Value.ref b] : List Value).toArray 4) := by
  obtain ⟨hx, hb, hr, hml, hown, hts, hX, hbl, hlocks, hgv⟩ := id C0
  obtain ⟨G, g1, g2, hK, hR⟩ := g_start (flat_of_before _ hgv) hts hX hbl
  obtain ⟨n, v, σ1, h1, hv, hc, hn⟩ := law_wp (L := L) (xs := xs) hL
  have C : gCx G 341 p s m #[Value.ref b] meth c := ⟨hx, hb.trans jQ341.1.symm, hml.trans jQ341.2.1.symm, hr.trans jQ341.2.2.1.symm, hlocks, by rw [jQ341.2.2.2.1]; exact hown, fun w h _ => jX_hts hts w h, hname.trans jQ341.2.2.2.2.symm, hK⟩
  have hb0 : ([Value.ref 0] : List Value).map (gEn G) = [Value.ref b] := by
    show [Value.ref (gAd G 0)] = [Value.ref b]
    rw [show gAd G 0 = G.2.1 0 from rfl, g2]
  have hl := gL_entry (G := G) (C_O C) (k := 341) (as := [.ref 0]) (by decide +kernel)
  rw [hb0] at hl
  have hl4 : gL G (jML.getD 341 0) (mkL 341 [.ref 0]) ((lg_sl [Value.ref b] ++ List.replicate (4 - (lg_sl [Value.ref b]).length) Slot.unset).toArray) := by
    rw [jQ341.2.1] at hl ⊢
    exact hl
  have hm := mt_all 341 (by decide)
  unfold mtM at hm
  simp only [Bool.and_eq_true, decide_eq_true_eq] at hm
  obtain ⟨⟨h0, hbk⟩, hbl2⟩ := hm
  have hmt := List.all_eq_true.mp hbl2 0 (List.mem_range.mpr hbk)
  rw [h0] at hmt
  have e8 : (sZ L xs).2.2.length = 8 := rfl
  have es : sl (sZ L xs) ≤ sl (sZ L xs) := Nat.le_refl _
  have hml2 : σ1.2.2.length ≤ 20155 := hc
  have hgr := snd_all mt_all n 61 (gb 341 0) (mkL 341 [.ref 0]) [] (sZ L xs) v σ1 h1 G 341 0 (by decide) hmt p l e room_1 s m #[Value.ref b] below meth c s.heap [] 0 0
  rw [lg_entry_eq]
  have hle : 8 ≤ σ1.2.2.length ∧ sl (sZ L xs) ≤ sl σ1 := by
    have g := gr_ex n 61 _ _ _ _ _ _ h1
    exact ⟨g.1, g.2⟩
  have W1 := hgr (σ1.2.2.length - 8) (sl σ1 - sl (sZ L xs)) _ C hl4 hR ⟨Nat.le_refl _, fun _ _ _ => rfl, fun _ h => by cases h⟩ (Nat.le_of_eq g1) (by decide) (by decide) (by omega) (by omega) (by show _ ≤ 600000; omega) (by show _ ≤ 7302250; omega)
  intro T hT X
  obtain ⟨t, st, o, a1, a2, a3, FL, a4, a5⟩ := W1 T hT X
  refine ⟨t, st, o, a1, a2, ?_, lw_fresh a4 (fun q hq => ?_) (by omega) (by omega)⟩
  · have e := a3.1
    rw [hv] at e
    rw [e]
    show Outcome.returned (some (Value.int (oI 1))) = _
    rw [oI_1]
  · have := a5 q hq
    have this : G.1 ≤ q.base := this
    rw [g1] at this
    exact this
set_option maxHeartbeats 4000000 in
theorem lw_walk (l : Launch) (b : Addr) (xs : List Int32) : MetFree l x (headSpec (Jvm.Cond.code x code maxLocals ret :: tables_1) room_1) (lw_P b xs) (fun _ _ _ _ _ => True) lw_Q := by
  refine MetFree.of_bodyS (code := code) (maxLocals := maxLocals) (ret := ret) (by decide) ?_ ?_
  · intro args s m h hn
    obtain ⟨meth, c, h1, h2, h3, h4, h5, h6, -, -⟩ := Cond.code_spec hn (atoms_spec (ws := Jvm.Cond.code x code maxLocals ret :: tables_1) h _ List.mem_cons_self)
    exact ⟨meth, c, h1, h2, h3, h4, h5, h6⟩
  · intro p e s m args below meth c s₁ B hml0 hP _
    obtain ⟨rfl, hx, hbd, hgv⟩ := hP
    obtain ⟨scr, harrAt, hlist, hof, hsmall⟩ := hx
    obtain ⟨hcb, hkn, -, -⟩ := State.arrayAt?_spec harrAt
    have hown : s.vm.findClass R_law = some m.cls := findClass_of_methodNamed B.named
    have hts0 : ∀ c ∈ (Jvm.Cond.code x code maxLocals ret :: tables_1), c.before #[Value.ref b] s = true := atoms_spec (ws := Jvm.Cond.code x code maxLocals ret :: tables_1) B.pre
    have hts : ∀ w ∈ lw_tbl, w.before #[Value.ref b] s = true := k2_hts_sels lw_privs (fun w hw => hts0 w (List.mem_cons_of_mem _ hw)) lw_privs_ok
    have hml : c.maxLocals = 4 := B.maxLocals_eq (hts0 _ List.mem_cons_self)
    have X₀ : Stand p l e room_1 s m #[Value.ref b] below meth c s₁ [] 0 0 := Stand.of_body B
    have hh0 : s₁.heap = s.heap := by rw [B.state]; rfl
    have hsz : scr.slots.size = xs.length := by rw [← Array.length_toList, hlist, List.length_map]
    have hval : ∀ j : Nat, j < xs.length → scr.slots[j]? = some (.int (xs.getD j 0)) := fun j hj => by
      rw [← Array.getElem?_toList, hlist]
      simp [hj]
    have hbl : b < s.heap.size := (Array.getElem?_eq_some_iff.mp hcb).1
    have hX : va_X b xs.length (fun j => xs.getD j 0) s s.heap := ⟨scr, hcb, hof, hkn, hsz, hval⟩
    have K : W p l e room_1 s m #[Value.ref b] below meth c s₁.heap [] 0 0 (lw_Z below #[Value.ref b] s) (entryFrame m ([Value.ref b] : List Value).toArray 4) := by
      rw [hh0]
      exact whole_start l hbd (name_of_methodNamed B.named B.method).1 ⟨B.exec, B.bytes, B.returns, hml, hown, hts, hX, hbl, B.notSynchronized, hgv⟩
    obtain ⟨t, a1, o, b1, b2, b3⟩ := K s₁ rfl X₀
    exact ⟨t, o, a1, b1, b2, b3⟩
theorem lw_pre_spec {args : Array Value} {s : State} (h : (Jvm.Cond.and given_1 narrow_1).before args s = true) (hr : rest_1_c.before args s = true) : ∃ (b : Addr) (xs : List Int32), lw_P b xs args s := by
  have hs := flat_of_before _ h
  have hq := flat_of_before _ hr
  have hc : (Cond.count 1).before args s = true := hs _ (by decide +kernel)
  have harr : (Cond.arrayOf (.arg 0) .int).before args s = true := hs _ (by decide +kernel)
  have hle : (Cond.le (.length (.arg 0)) (.int 3584)).before args s = true := hs _ (by decide +kernel)
  have hlen : (Cond.isInt (.length (.arg 0))).before args s = true := hq _ (by decide +kernel)
  have hall : (Cond.all (.arg 0) (.isInt (.elem (.arg 0) (.index 0)))).before args s = true := hq _ (by decide +kernel)
  obtain ⟨b, xs, hb, hx⟩ := State.ints_of_pre rfl harr hlen hall
  have hsm : xs.length < 2 ^ 31 := hx.choose_spec.2.2.2
  have hev : (Term.length (.arg 0)).eval args s none [] s = some (.int xs.length.toInt32) := hx.length_eval hb
  have hv := Cond.le_ints hev (show (Term.int 3584).eval args s none [] s = some (.int 3584) from rfl)
  have hd : xs.length.toInt32 ≤ 3584 := by
    simpa [Cond.before, Cond.holds, hv] using hle
  have hN : xs.length ≤ 3584 := (Int32.ofNat_le_ofNat hsm (by decide)).mp (show Int32.ofNat xs.length ≤ Int32.ofNat 3584 from hd)
  exact ⟨b, xs, Cond.one_arg hc (show args[0]? = some (.ref b) from hb), hx, hN, h⟩
theorem lw_comes (l : Launch) : Comes l x (Jvm.Cond.code x code maxLocals ret :: tables_1) room_1 (fun tb e args s => Calls_1 tb e args s ∧ rest_1 tb e args s ∧ Pre_1 tb e args s)
    (fun _ _ args s o t => lw_Q args s o t) := by
  intro p e ha hc hk s m args below hf hfit hheap happ hpre
  obtain ⟨b, xs, hP⟩ := lw_pre_spec hpre.2.2 hpre.2.1
  obtain ⟨k, o, h1, h2, h3, hQ⟩ := lw_walk l b xs p e ha hc hk s m args below hf ((Spec.applies_iff_loose hf).mp happ).1 hP trivial
  exact ⟨k, o, h1, h2, h3, hQ⟩
theorem lw_frame {s t : State} {o : Outcome} {args : Array Value} (h : Framed s o t [] 600000 7302250) :
    Framed s o t (fieldLocs frame_1_writes args s ++ arrayLocs frame_1_arrays args s ++ staticLocs frame_1_statics s) 600000 7302250 := h
theorem lw_limb (L : Cond) (hL : ∀ (args : Array Value) (s t : State), L.after args s (.returned (some (.int 1))) t = true) :
    ArmFor flags0 classFile x code maxLocals ret World_1 tables_1 room_1 Calls_1 rest_1 Pre_1
      (fun tb e a s o t => postC L tb e a s o t ∧ Framed s o t (fieldLocs frame_1_writes a s ++ arrayLocs frame_1_arrays a s ++ staticLocs frame_1_statics s) 600000 7302250) := by
  intro l _ _ _ p e ha hc hk s m args below hf hfit hheap happ hpre
  obtain ⟨k, o, h1, h2, h3, rfl, hF⟩ := lw_comes l p e ha hc hk s m args below hf hfit hheap happ hpre
  exact ⟨k, _, h1, h2, h3, hL args s _, lw_frame hF⟩
theorem i_vc : Claimed_1_1 ∧ Claimed_1_2 := ⟨lw_limb limb_1_1 (fun args s t => by simp [limb_1_1, Cond.after, Cond.holds, Cond.value]), lw_limb limb_1_2 (fun args s t => Cond.after_iff.mpr (by
  first | (rw [show limb_1_2 = Cond.eq .result (.int 1) from rfl, Cond.eq_ints (x := 1) (y := 1) rfl rfl]; simp; done) | (simp [limb_1_2, Cond.value, Term.eval]; done)))⟩
