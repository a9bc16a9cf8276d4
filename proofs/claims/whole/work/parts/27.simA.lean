def jWs (k : Nat) : List Cond := Cond.code (jMn k) (jMb k) (jML.getD k 0) (jMr k) :: jT.filter goodWord
def gCx (G : mG) (k : Nat) (p : Program) (s : State) (m : MethodId) (args : Array Value) (meth : Method) (c : Code) : Prop :=
  p.tables.exec = Jvm.exec ∧ c.code = jMb k ∧ c.maxLocals = jML.getD k 0 ∧ meth.sig.returnType = jMr k ∧ meth.locks = false ∧ s.vm.findClass (jOw (jMo k)) = some m.cls ∧ (∀ w ∈ jT, goodWord w = true → w.before args s = true) ∧ meth.name = (jMn k).name ∧ gK G s
section
variable {p : Program} {l : Launch} {e : Env} {R : Room} {s : State} {m : MethodId} {args : Array Value} {below : List Frame} {meth : Method} {c : Code} {H : Heap} {locs : List Loc} {cells slots : Nat} {Q : State → Prop}
theorem gv_ldcwS {cc : ByteArray} {pc : Nat} {ls : Array Slot} {rest : List Value} (hexec : p.tables.exec = Jvm.exec) (hb : c.code = cc) {own tx : String} {index q : Nat} (hown : s.vm.findClass own = some m.cls) (hZ : vk_R own index tx q s) (hdg : decode cc pc = .ok (.ldc_w index, 3))
    (kk : W p l e R s m args below meth c H locs cells slots Q (F0 m (pc + 3) ls (.ref q :: rest))) : W p l e R s m args below meth c H locs cells slots Q (F0 m pc ls rest) := by
  intro T hT X
  obtain ⟨t, a1, b1⟩ := kk T hT X
  refine ⟨t, ?_, b1⟩
  obtain ⟨k, cf, i, a', hk, hcf, hcp, -, hr, hev'⟩ := Cond.stringRef_spec hown hZ.1
  cases hZ.2.symm.trans hev'
  obtain ⟨k', hk', he⟩ := X.warmed.alike.2.2 _ _ hk
  have hr' : k'.resolved[index]? = some (some (.string q)) := by
    rcases X.warmed.entry hk hk' index with h | ⟨h, -⟩
    · rw [h]; exact hr
    · rw [hr] at h; cases h
  have hdg' : decode c.code (F0 m pc ls rest).pc = .ok (.ldc_w index, 3) := by rw [hb]; exact hdg
  jvm_step X.here [hexec, hdg', ldc_w.wp_string (e := e) (s := T) (f := F0 m pc ls rest) X.here.top hk' (by rw [he]; exact hcf) hcp hr']
  exact a1
theorem word_of {G : mG} {k : Nat} (C : gCx G k p s m args meth c) {w : Cond} (h : w ∈ jT) (hg : goodWord w = true) : w.before args s = true := C.2.2.2.2.2.2.1 w h hg
theorem C_own {G : mG} {k : Nat} (C : gCx G k p s m args meth c) : s.vm.findClass (jOw (jMo k)) = some m.cls := C.2.2.2.2.2.1
theorem C_K {G : mG} {k : Nat} (C : gCx G k p s m args meth c) : gK G s := C.2.2.2.2.2.2.2.2
theorem C_O {G : mG} {k : Nat} (C : gCx G k p s m args meth c) : G.2.2.1 = .null ∨ ∃ t, G.2.2.1 = .ref t := (C_K C).2.2.2.2.2
theorem cat1 {G : mG} (hO : G.2.2.1 = .null ∨ ∃ t, G.2.2.1 = .ref t) {v : Value} (h : (∀ x, v ≠ .long x) ∧ ∀ x, v ≠ .double x) : (gEn G v).category = 1 := by
  rcases lv_cat (gEn G v) with e | e
  · exact e
  · have h9 := gEn_cat hO e
    cases v with
    | long x => exact absurd rfl (h.1 x)
    | double x => exact absurd rfl (h.2 x)
    | retAddr n =>
      have h2 : (if n = 1 then G.2.2.1 else Value.retAddr n).category = 2 := e
      split at h2
      · rcases hO with q | ⟨t, q⟩ <;> (rw [q] at h2; simp [Value.category] at h2)
      · simp [Value.category] at h2
    | _ => simp [mNl] at h9

set_option maxHeartbeats 4000000 in
theorem simA {G : mG} {k pc len : Nat} {i : mIns} {j : Instr} {ls st : List Value} {σ : mM} {r : List Value × List Value × mM} {lsR : Array Slot} (hd : decode (jMb k) pc = .ok (j, len)) (hok : okI k pc i j len = true) (h40 : i.1 < 40) (hs : mstep i ls st σ = some r) (C : gCx G k p s m args meth c) (hL : gL G (jML.getD k 0) ls lsR)
    (kk : r.2.2 = σ → ∀ lsR' : Array Slot, gL G (jML.getD k 0) r.1 lsR' → W p l e R s m args below meth c H locs cells slots Q (F0 m (pc + len) lsR' (r.2.1.map (gEn G)))) : W p l e R s m args below meth c H locs cells slots Q (F0 m pc lsR (st.map (gEn G))) := by
  cases j with
  | iadd =>
    simp only [okI, Bool.and_eq_true, Bool.or_eq_true, decide_eq_true_eq] at hok
    obtain ⟨h1, rfl⟩ := hok
    obtain ⟨o, a, b, z⟩ := i
    dsimp only at h1 hs
    subst h1
    obtain ⟨y, x, st', rfl, rfl⟩ := inv16 hs
    exact lv_iadd C.1 C.2.1 hd (kk rfl lsR hL)
  | isub =>
    simp only [okI, Bool.and_eq_true, Bool.or_eq_true, decide_eq_true_eq] at hok
    obtain ⟨h1, rfl⟩ := hok
    obtain ⟨o, a, b, z⟩ := i
    dsimp only at h1 hs
    subst h1
    obtain ⟨y, x, st', rfl, rfl⟩ := inv17 hs
    exact lv_isub C.1 C.2.1 hd (kk rfl lsR hL)
  | imul =>
    simp only [okI, Bool.and_eq_true, Bool.or_eq_true, decide_eq_true_eq] at hok
    obtain ⟨h1, rfl⟩ := hok
    obtain ⟨o, a, b, z⟩ := i
    dsimp only at h1 hs
    subst h1
    obtain ⟨y, x, st', rfl, rfl⟩ := inv18 hs
    exact lv_imul C.1 C.2.1 hd (kk rfl lsR hL)
  | ishl =>
    simp only [okI, Bool.and_eq_true, Bool.or_eq_true, decide_eq_true_eq] at hok
    obtain ⟨h1, rfl⟩ := hok
    obtain ⟨o, a, b, z⟩ := i
    dsimp only at h1 hs
    subst h1
    obtain ⟨y, x, st', rfl, rfl⟩ := inv22 hs
    exact lv_ishl C.1 C.2.1 hd (kk rfl lsR hL)
  | ishr =>
    simp only [okI, Bool.and_eq_true, Bool.or_eq_true, decide_eq_true_eq] at hok
    obtain ⟨h1, rfl⟩ := hok
    obtain ⟨o, a, b, z⟩ := i
    dsimp only at h1 hs
    subst h1
    obtain ⟨y, x, st', rfl, rfl⟩ := inv23 hs
    exact lv_ishr C.1 C.2.1 hd (kk rfl lsR hL)
  | iand =>
    simp only [okI, Bool.and_eq_true, Bool.or_eq_true, decide_eq_true_eq] at hok
    obtain ⟨h1, rfl⟩ := hok
    obtain ⟨o, a, b, z⟩ := i
    dsimp only at h1 hs
    subst h1
    obtain ⟨y, x, st', rfl, rfl⟩ := inv25 hs
    exact lv_iand C.1 C.2.1 hd (kk rfl lsR hL)
  | ior =>
    simp only [okI, Bool.and_eq_true, Bool.or_eq_true, decide_eq_true_eq] at hok
    obtain ⟨h1, rfl⟩ := hok
    obtain ⟨o, a, b, z⟩ := i
    dsimp only at h1 hs
    subst h1
    obtain ⟨y, x, st', rfl, rfl⟩ := inv26 hs
    exact lv_ior C.1 C.2.1 hd (kk rfl lsR hL)
  | ixor =>
    simp only [okI, Bool.and_eq_true, Bool.or_eq_true, decide_eq_true_eq] at hok
    obtain ⟨h1, rfl⟩ := hok
    obtain ⟨o, a, b, z⟩ := i
    dsimp only at h1 hs
    subst h1
    obtain ⟨y, x, st', rfl, rfl⟩ := inv27 hs
    exact lv_ixor C.1 C.2.1 hd (kk rfl lsR hL)
  | iushr =>
    simp only [okI, Bool.and_eq_true, Bool.or_eq_true, decide_eq_true_eq] at hok
    obtain ⟨h1, rfl⟩ := hok
    obtain ⟨o, a, b, z⟩ := i
    dsimp only at h1 hs
    subst h1
    obtain ⟨y, x, st', rfl, rfl⟩ := inv24 hs
    exact lv_iushr C.1 C.2.1 hd rfl (kk rfl lsR hL)
  | idiv =>
    simp only [okI, Bool.and_eq_true, Bool.or_eq_true, decide_eq_true_eq] at hok
    obtain ⟨h1, rfl⟩ := hok
    obtain ⟨o, a, b, z⟩ := i
    dsimp only at h1 hs
    subst h1
    obtain ⟨y, x, st', rfl, hn, rfl⟩ := inv19 hs
    exact lv_idiv C.1 C.2.1 hd (fun q => hn (by rw [q]; rfl)) (kk rfl lsR hL)
  | irem =>
    simp only [okI, Bool.and_eq_true, Bool.or_eq_true, decide_eq_true_eq] at hok
    obtain ⟨h1, rfl⟩ := hok
    obtain ⟨o, a, b, z⟩ := i
    dsimp only at h1 hs
    subst h1
    obtain ⟨y, x, st', rfl, hn, rfl⟩ := inv20 hs
    exact lv_irem C.1 C.2.1 hd (fun q => hn (by rw [q]; rfl)) (kk rfl lsR hL)
  | ineg =>
    simp only [okI, Bool.and_eq_true, Bool.or_eq_true, decide_eq_true_eq] at hok
    obtain ⟨h1, rfl⟩ := hok
    obtain ⟨o, a, b, z⟩ := i
    dsimp only at h1 hs
    subst h1
    obtain ⟨x, st', rfl, rfl⟩ := inv21 hs
    exact lv_ineg C.1 C.2.1 hd (kk rfl lsR hL)
  | i2b =>
    simp only [okI, Bool.and_eq_true, Bool.or_eq_true, decide_eq_true_eq] at hok
    obtain ⟨h1, rfl⟩ := hok
    obtain ⟨o, a, b, z⟩ := i
    dsimp only at h1 hs
    subst h1
    obtain ⟨x, st', rfl, rfl⟩ := inv28 hs
    exact lv_i2b C.1 C.2.1 hd rfl (kk rfl lsR hL)
  | i2c =>
    simp only [okI, Bool.and_eq_true, Bool.or_eq_true, decide_eq_true_eq] at hok
    obtain ⟨h1, rfl⟩ := hok
    obtain ⟨o, a, b, z⟩ := i
    dsimp only at h1 hs
    subst h1
    obtain ⟨x, st', rfl, rfl⟩ := inv29 hs
    exact lv_i2c C.1 C.2.1 hd rfl (kk rfl lsR hL)
  | i2l =>
    simp only [okI, Bool.and_eq_true, Bool.or_eq_true, decide_eq_true_eq] at hok
    obtain ⟨h1, rfl⟩ := hok
    obtain ⟨o, a, b, z⟩ := i
    dsimp only at h1 hs
    subst h1
    obtain ⟨x, st', rfl, rfl⟩ := inv30 hs
    exact lv_i2l C.1 C.2.1 hd rfl (kk rfl lsR hL)
  | l2i =>
    simp only [okI, Bool.and_eq_true, Bool.or_eq_true, decide_eq_true_eq] at hok
    obtain ⟨h1, rfl⟩ := hok
    obtain ⟨o, a, b, z⟩ := i
    dsimp only at h1 hs
    subst h1
    obtain ⟨x, st', rfl, rfl⟩ := inv31 hs
    exact lv_l2i C.1 C.2.1 hd rfl (kk rfl lsR hL)
  | lshl =>
    simp only [okI, Bool.and_eq_true, Bool.or_eq_true, decide_eq_true_eq] at hok
    obtain ⟨h1, rfl⟩ := hok
    obtain ⟨o, a, b, z⟩ := i
    dsimp only at h1 hs
    subst h1
    obtain ⟨y, x, st', rfl, rfl⟩ := inv32 hs
    exact lv_lshl C.1 C.2.1 hd rfl (kk rfl lsR hL)
  | lshr =>
    simp only [okI, Bool.and_eq_true, Bool.or_eq_true, decide_eq_true_eq] at hok
    obtain ⟨h1, rfl⟩ := hok
    obtain ⟨o, a, b, z⟩ := i
    dsimp only at h1 hs
    subst h1
    obtain ⟨y, x, st', rfl, rfl⟩ := inv33 hs
    exact lv_lshr C.1 C.2.1 hd rfl (kk rfl lsR hL)
  | land =>
    simp only [okI, Bool.and_eq_true, Bool.or_eq_true, decide_eq_true_eq] at hok
    obtain ⟨h1, rfl⟩ := hok
    obtain ⟨o, a, b, z⟩ := i
    dsimp only at h1 hs
    subst h1
    obtain ⟨y, x, st', rfl, rfl⟩ := inv34 hs
    exact lv_land C.1 C.2.1 hd (kk rfl lsR hL)
  | lor =>
    simp only [okI, Bool.and_eq_true, Bool.or_eq_true, decide_eq_true_eq] at hok
    obtain ⟨h1, rfl⟩ := hok
    obtain ⟨o, a, b, z⟩ := i
    dsimp only at h1 hs
    subst h1
    obtain ⟨y, x, st', rfl, rfl⟩ := inv35 hs
    exact lv_lor C.1 C.2.1 hd (kk rfl lsR hL)
  | lcmp =>
    simp only [okI, Bool.and_eq_true, Bool.or_eq_true, decide_eq_true_eq] at hok
    obtain ⟨h1, rfl⟩ := hok
    obtain ⟨o, a, b, z⟩ := i
    dsimp only at h1 hs
    subst h1
    obtain ⟨y, x, st', rfl, rfl⟩ := inv36 hs
    exact W.lcmp C.1 C.2.1 hd (kk rfl lsR hL)
  | dup2 =>
    simp only [okI, Bool.and_eq_true, Bool.or_eq_true, decide_eq_true_eq] at hok
    obtain ⟨h1, rfl⟩ := hok
    obtain ⟨o, a, b, z⟩ := i
    dsimp only at h1 hs
    subst h1
    obtain ⟨x, q, st', rfl, rfl⟩ := inv14 hs
    exact lv_dup2_11 C.1 C.2.1 hd rfl rfl (kk rfl lsR hL)
  | dup_x1 =>
    simp only [okI, Bool.and_eq_true, Bool.or_eq_true, decide_eq_true_eq] at hok
    obtain ⟨h1, rfl⟩ := hok
    obtain ⟨o, a, b, z⟩ := i
    dsimp only at h1 hs
    subst h1
    obtain ⟨x, q, st', rfl, rfl⟩ := inv15 hs
    exact lv_dup_x1 C.1 C.2.1 hd rfl rfl (kk rfl lsR hL)
  | pop =>
    simp only [okI, Bool.and_eq_true, Bool.or_eq_true, decide_eq_true_eq] at hok
    obtain ⟨h1, rfl⟩ := hok
    obtain ⟨o, a, b, z⟩ := i
    dsimp only at h1 hs
    subst h1
    obtain ⟨v, st', rfl, hv, rfl⟩ := inv12 hs
    exact lv_pop C.1 C.2.1 hd (cat1 (C_O C) hv) (kk rfl lsR hL)
  | dup =>
    simp only [okI, Bool.and_eq_true, Bool.or_eq_true, decide_eq_true_eq] at hok
    obtain ⟨h1, rfl⟩ := hok
    obtain ⟨o, a, b, z⟩ := i
    dsimp only at h1 hs
    subst h1
    obtain ⟨v, st', rfl, hv, rfl⟩ := inv13 hs
    exact lv_dup C.1 C.2.1 hd (cat1 (C_O C) hv) (kk rfl lsR hL)
  | iconst n =>
    simp only [okI, Bool.and_eq_true, Bool.or_eq_true, decide_eq_true_eq] at hok
    obtain ⟨⟨h1, h2⟩, rfl⟩ := hok
    obtain ⟨o, a, b, z⟩ := i
    dsimp only at h1 hs
    subst h1
    dsimp only at h2
    subst h2
    cases hs
    exact lv_iconst C.1 C.2.1 hd rfl (kk rfl lsR hL)
  | bipush n =>
    simp only [okI, Bool.and_eq_true, Bool.or_eq_true, decide_eq_true_eq] at hok
    obtain ⟨⟨h1, h2⟩, rfl⟩ := hok
    obtain ⟨o, a, b, z⟩ := i
    dsimp only at h1 hs
    subst h1
    cases hs
    exact lv_bipush C.1 C.2.1 hd h2 (kk rfl lsR hL)
  | sipush n =>
    simp only [okI, Bool.and_eq_true, Bool.or_eq_true, decide_eq_true_eq] at hok
    obtain ⟨⟨h1, h2⟩, rfl⟩ := hok
    obtain ⟨o, a, b, z⟩ := i
    dsimp only at h1 hs
    subst h1
    cases hs
    exact lv_sipush C.1 C.2.1 hd h2 (kk rfl lsR hL)
  | lconst n =>
    simp only [okI, Bool.and_eq_true, Bool.or_eq_true, decide_eq_true_eq] at hok
    obtain ⟨⟨h1, h2⟩, rfl⟩ := hok
    obtain ⟨o, a, b, z⟩ := i
    dsimp only at h1 hs
    subst h1
    cases hs
    exact lv_lconst C.1 C.2.1 hd h2 (kk rfl lsR hL)
  | aconst_null =>
    simp only [okI, Bool.and_eq_true, Bool.or_eq_true, decide_eq_true_eq] at hok
    obtain ⟨h1, rfl⟩ := hok
    obtain ⟨o, a, b, z⟩ := i
    dsimp only at h1 hs
    subst h1
    cases hs
    exact lv_null C.1 C.2.1 hd (kk rfl lsR hL)
  | ldc cp =>
    simp only [okI, Bool.and_eq_true, Bool.or_eq_true, decide_eq_true_eq] at hok
    obtain ⟨h0, rfl⟩ := hok
    rcases h0 with ⟨h1, h2⟩ | ⟨h1, -⟩
    · obtain ⟨o, a, b, z⟩ := i
      dsimp only at h1 hs h2
      subst h1
      cases hs
      exact lv_ldc C.1 C.2.1 (C_own C) (word_of C (jKT_ok _ (List.mem_of_getElem? h2)) rfl) hd (kk rfl lsR hL)
    · omega
  | ldc_w cp =>
    simp only [okI, Bool.and_eq_true, Bool.or_eq_true, decide_eq_true_eq] at hok
    obtain ⟨h0, rfl⟩ := hok
    rcases h0 with ⟨h1, h2⟩ | ⟨h1, -⟩
    · obtain ⟨o, a, b, z⟩ := i
      dsimp only at h1 hs h2
      subst h1
      cases hs
      exact lv_ldcw C.1 C.2.1 (C_own C) (word_of C (jKT_ok _ (List.mem_of_getElem? h2)) rfl) hd (kk rfl lsR hL)
    · omega
  | ldc2_w cp =>
    simp only [okI, Bool.and_eq_true, Bool.or_eq_true, decide_eq_true_eq] at hok
    obtain ⟨⟨h1, h2⟩, rfl⟩ := hok
    obtain ⟨o, a, b, z⟩ := i
    dsimp only at h1 hs h2
    subst h1
    cases hs
    exact lv_ldc2 C.1 C.2.1 (C_own C) (word_of C (jKU_ok _ (List.mem_of_getElem? h2)) rfl) hd (kk rfl lsR hL)
  | iload n =>
    simp only [okI, Bool.and_eq_true, Bool.or_eq_true, decide_eq_true_eq] at hok
    obtain ⟨⟨h1, h2⟩, rfl⟩ := hok
    obtain ⟨o, a, b, z⟩ := i
    dsimp only at h1 hs
    subst h1
    dsimp only at h2
    subst h2
    obtain ⟨x, hx, rfl⟩ := inv4 hs
    exact lv_iload C.1 C.2.1 hd (hL.2.2.2 _ _ hx rfl) (kk rfl lsR hL)
  | iload_n n =>
    simp only [okI, Bool.and_eq_true, Bool.or_eq_true, decide_eq_true_eq] at hok
    obtain ⟨⟨h1, h2⟩, rfl⟩ := hok
    obtain ⟨o, a, b, z⟩ := i
    dsimp only at h1 hs
    subst h1
    obtain ⟨x, hx, rfl⟩ := inv4 hs
    exact lv_iload_n C.1 C.2.1 hd h2 (hL.2.2.2 _ _ hx rfl) (kk rfl lsR hL)
  | lload n =>
    simp only [okI, Bool.and_eq_true, Bool.or_eq_true, decide_eq_true_eq] at hok
    obtain ⟨⟨h1, h2⟩, rfl⟩ := hok
    obtain ⟨o, a, b, z⟩ := i
    dsimp only at h1 hs
    subst h1
    dsimp only at h2
    subst h2
    obtain ⟨x, hx, rfl⟩ := inv5 hs
    exact lv_lload C.1 C.2.1 hd (hL.2.2.2 _ _ hx rfl) (kk rfl lsR hL)
  | lload_n n =>
    simp only [okI, Bool.and_eq_true, Bool.or_eq_true, decide_eq_true_eq] at hok
    obtain ⟨⟨h1, h2⟩, rfl⟩ := hok
    obtain ⟨o, a, b, z⟩ := i
    dsimp only at h1 hs
    subst h1
    obtain ⟨x, hx, rfl⟩ := inv5 hs
    exact lv_lload_n C.1 C.2.1 hd h2 (hL.2.2.2 _ _ hx rfl) (kk rfl lsR hL)
  | aload n =>
    simp only [okI, Bool.and_eq_true, Bool.or_eq_true, decide_eq_true_eq] at hok
    obtain ⟨⟨h1, h2⟩, rfl⟩ := hok
    obtain ⟨o, a, b, z⟩ := i
    dsimp only at h1 hs
    subst h1
    dsimp only at h2
    subst h2
    rcases inv6 hs with ⟨x, hx, rfl⟩ | ⟨hx, rfl⟩
    · exact lv_aload C.1 C.2.1 hd (hL.2.2.2 _ _ hx rfl) (kk rfl lsR hL)
    · exact lv_aloadN C.1 C.2.1 hd (hL.2.2.2 _ _ hx rfl) (kk rfl lsR hL)
  | aload_n n =>
    simp only [okI, Bool.and_eq_true, Bool.or_eq_true, decide_eq_true_eq] at hok
    obtain ⟨⟨h1, h2⟩, rfl⟩ := hok
    obtain ⟨o, a, b, z⟩ := i
    dsimp only at h1 hs
    subst h1
    rcases inv6 hs with ⟨x, hx, rfl⟩ | ⟨hx, rfl⟩
    · exact lv_aload_n C.1 C.2.1 hd h2 (hL.2.2.2 _ _ hx rfl) (kk rfl lsR hL)
    · exact lv_aload_nN C.1 C.2.1 hd h2 (hL.2.2.2 _ _ hx rfl) (kk rfl lsR hL)
  | istore n =>
    simp only [okI, Bool.and_eq_true, Bool.or_eq_true, decide_eq_true_eq] at hok
    obtain ⟨⟨h1, h2⟩, rfl⟩ := hok
    obtain ⟨o, a, b, z⟩ := i
    dsimp only at h1 hs
    subst h1
    dsimp only at h2
    subst h2
    obtain ⟨x, st', rfl, hi, rfl⟩ := inv7 hs
    exact lv_istore C.1 C.2.1 hd hL.has (by have := hL.2.2.1; omega) rfl (fun ls' hl' => kk rfl ls' (hL.set1 (C_O C) hi hl'))
  | istore_n n =>
    simp only [okI, Bool.and_eq_true, Bool.or_eq_true, decide_eq_true_eq] at hok
    obtain ⟨⟨h1, h2⟩, rfl⟩ := hok
    obtain ⟨o, a, b, z⟩ := i
    dsimp only at h1 hs
    subst h1
    dsimp only at h2
    obtain ⟨x, st', rfl, hi, rfl⟩ := inv7 hs
    exact lv_istore_n C.1 C.2.1 hd h2 hL.has (by have := hL.2.2.1; omega) rfl (fun ls' hl' => kk rfl ls' (hL.set1 (C_O C) hi hl'))
  | lstore n =>
    simp only [okI, Bool.and_eq_true, Bool.or_eq_true, decide_eq_true_eq] at hok
    obtain ⟨⟨h1, h2⟩, rfl⟩ := hok
    obtain ⟨o, a, b, z⟩ := i
    dsimp only at h1 hs
    subst h1
    dsimp only at h2
    subst h2
    obtain ⟨x, st', rfl, hi, rfl⟩ := inv8 hs
    exact lv_lstore C.1 C.2.1 hd hL.has (by have := hL.2.2.1; omega) rfl (fun ls' hl' => kk rfl ls' (hL.set2 (C_O C) hi hl'))
  | lstore_n n =>
    simp only [okI, Bool.and_eq_true, Bool.or_eq_true, decide_eq_true_eq] at hok
    obtain ⟨⟨h1, h2⟩, rfl⟩ := hok
    obtain ⟨o, a, b, z⟩ := i
    dsimp only at h1 hs
    subst h1
    dsimp only at h2
    obtain ⟨x, st', rfl, hi, rfl⟩ := inv8 hs
    exact lv_lstore_n C.1 C.2.1 hd h2 hL.has (by have := hL.2.2.1; omega) rfl (fun ls' hl' => kk rfl ls' (hL.set2 (C_O C) hi hl'))
  | astore n =>
    simp only [okI, Bool.and_eq_true, Bool.or_eq_true, decide_eq_true_eq] at hok
    obtain ⟨⟨h1, h2⟩, rfl⟩ := hok
    obtain ⟨o, a, b, z⟩ := i
    dsimp only at h1 hs
    subst h1
    dsimp only at h2
    subst h2
    rcases inv9 hs with ⟨x, st', rfl, hi, rfl⟩ | ⟨st', rfl, hi, rfl⟩
    · exact lv_astore C.1 C.2.1 hd hL.has (by have := hL.2.2.1; omega) rfl (fun ls' hl' => kk rfl ls' (hL.set1 (v := .ref x) (C_O C) hi hl'))
    · exact lv_astoreN C.1 C.2.1 hd hL.has (by have := hL.2.2.1; omega) rfl (fun ls' hl' => kk rfl ls' (hL.set1 (v := .null) (C_O C) hi hl'))
  | astore_n n =>
    simp only [okI, Bool.and_eq_true, Bool.or_eq_true, decide_eq_true_eq] at hok
    obtain ⟨⟨h1, h2⟩, rfl⟩ := hok
    obtain ⟨o, a, b, z⟩ := i
    dsimp only at h1 hs
    subst h1
    dsimp only at h2
    rcases inv9 hs with ⟨x, st', rfl, hi, rfl⟩ | ⟨st', rfl, hi, rfl⟩
    · exact lv_astore_n C.1 C.2.1 hd h2 hL.has (by have := hL.2.2.1; omega) rfl (fun ls' hl' => kk rfl ls' (hL.set1 (v := .ref x) (C_O C) hi hl'))
    · exact lv_astore_nN C.1 C.2.1 hd h2 hL.has (by have := hL.2.2.1; omega) rfl (fun ls' hl' => kk rfl ls' (hL.set1 (v := .null) (C_O C) hi hl'))
  | iinc n cst =>
    simp only [okI, Bool.and_eq_true, Bool.or_eq_true, decide_eq_true_eq] at hok
    obtain ⟨⟨⟨h1, h2⟩, h3⟩, rfl⟩ := hok
    obtain ⟨o, a, b, z⟩ := i
    dsimp only at h1 hs h2 h3
    subst h1 h2 h3
    obtain ⟨x, hx, rfl⟩ := inv10 hs
    have hm := lvO_mem (G := G) hx rfl
    obtain ⟨q, hq⟩ := List.getElem?_of_mem hm
    exact lv_iinc (v := x + oI cst) C.1 C.2.1 hd hL.has hq rfl (by have h9 := (List.getElem?_eq_some_iff.mp hx).1; have := hL.2.2.1; omega) rfl (fun ls' hl' => kk rfl ls' (hL.set1 (C_O C) (List.getElem?_eq_some_iff.mp hx).1 hl'))
  | if_icmp cd off =>
    cases cd <;> (simp only [okI, okJ, Bool.and_eq_true, decide_eq_true_eq] at hok; omega)
  | ifCond cd off =>
    cases cd <;> (simp only [okI, okJ, Bool.and_eq_true, decide_eq_true_eq] at hok; omega)
  | if_acmp cd off =>
    cases cd <;> first | (cases hok; done) | (simp only [okI, okJ, Bool.and_eq_true, decide_eq_true_eq] at hok; omega)
  | _ => first | (cases hok; done) | (simp only [okI, okJ, okF, okC, Bool.and_eq_true, Bool.or_eq_true, decide_eq_true_eq] at hok; omega)
end
