/-! arraycopy, clone, a cast, Object's constructor -/
theorem fitB {v : Int32} (h1 : -128 ≤ v.toInt) (h2 : v.toInt ≤ 127) : fits .byte (.int v) = true := by
  have e1 : (-128 : Int32).toInt = -128 := by decide
  have e2 : (127 : Int32).toInt = 127 := by decide
  have h3 : (-128 : Int32) ≤ v := Int32.le_iff_toInt_le.mpr (by rw [e1]; exact h1)
  have h4 : v ≤ (127 : Int32) := Int32.le_iff_toInt_le.mpr (by rw [e2]; exact h2)
  show (decide ((-128 : Int32) ≤ v) && decide (v ≤ 127)) = true
  simp [h3, h4]
theorem inv104 {x y : Nat} {z : Int} {st st' : List Value} {σ σ' : mM} (h : mnat (104, x, y, z) st σ = some (st', σ')) : ∃ (n dp : Int32) (b : Nat) (sp : Int32) (a : Nat) (r : List Value) (na nb : Nat), st = .int n :: .int dp :: .ref b :: .int sp :: .ref a :: r ∧ σ.2.2[a]? = some (1, na) ∧ σ.2.2[b]? = some (1, nb) ∧
    (nSP ≤ a ∧ nSP ≤ b ∧ r.length ≤ 4 ∧ 0 ≤ n.toInt ∧ 0 ≤ sp.toInt ∧ 0 ≤ dp.toInt ∧ sp.toInt + n.toInt ≤ na ∧ dp.toInt + n.toInt ≤ nb ∧ (∀ j, j < n.toInt.toNat → -128 ≤ (σ.1 a (sp.toInt.toNat + j)).toInt ∧ (σ.1 a (sp.toInt.toNat + j)).toInt ≤ 127)) ∧ st' = r ∧ σ' = (fun c k => if c = b then mCpy (σ.1 a) (σ.1 b) sp.toInt.toNat dp.toInt.toNat n.toInt.toNat k else σ.1 c k, σ.2.1, σ.2.2) := by
  rcases st with _ | ⟨w0, st⟩
  · cases h
  cases w0 with
  | int n =>
    rcases st with _ | ⟨w1, st⟩
    · cases h
    cases w1 with
    | int dp =>
      rcases st with _ | ⟨w2, st⟩
      · cases h
      cases w2 with
      | ref b =>
        rcases st with _ | ⟨w3, st⟩
        · cases h
        cases w3 with
        | int sp =>
          rcases st with _ | ⟨w4, r⟩
          · cases h
          cases w4 with
          | ref a =>
            simp only [mnat] at h
            split at h
            · rename_i na nb e1 e2
              split at h
              · rename_i hc
                cases h
                exact ⟨n, dp, b, sp, a, _, na, nb, rfl, e1, e2, hc, rfl, rfl⟩
              · cases h
            · cases h
          | _ => cases h
        | _ => cases h
      | _ => cases h
    | _ => cases h
  | _ => cases h
theorem inv105 {x y : Nat} {z : Int} {st st' : List Value} {σ σ' : mM} (h : mnat (105, x, y, z) st σ = some (st', σ')) : ∃ (a : Nat) (r : List Value) (n : Nat), st = .ref a :: r ∧ σ.2.2[a]? = some (1, n) ∧ (nSP ≤ a ∧ r.length ≤ 4 ∧ (∀ j, j < n → -128 ≤ (σ.1 a j).toInt ∧ (σ.1 a j).toInt ≤ 127)) ∧ st' = .ref σ.2.2.length :: r ∧
    σ' = (fun c k => if c = σ.2.2.length then σ.1 a k else σ.1 c k, (mNew σ (1, n)).2.1, (mNew σ (1, n)).2.2) := by
  rcases st with _ | ⟨w0, r⟩
  · cases h
  cases w0 with
  | ref a =>
    simp only [mnat] at h
    split at h
    · rename_i n e1
      split at h
      · rename_i hc
        cases h
        exact ⟨a, r, n, rfl, e1, hc, rfl, rfl⟩
      · cases h
    · cases h
  | _ => cases h
theorem inv106 {x y : Nat} {z : Int} {st st' : List Value} {σ σ' : mM} (h : mnat (106, x, y, z) st σ = some (st', σ')) : ∃ (a : Nat) (r : List Value) (n : Nat), st = .ref a :: r ∧ σ.2.2[a]? = some (1, n) ∧ nSP ≤ a ∧ st' = .ref a :: r ∧ σ' = σ := by
  rcases st with _ | ⟨w0, r⟩
  · cases h
  cases w0 with
  | ref a =>
    simp only [mnat] at h
    split at h
    · rename_i n e1
      split at h
      · rename_i hc
        cases h
        exact ⟨a, r, n, rfl, e1, hc, rfl, rfl⟩
      · cases h
    · cases h
  | _ => cases h
theorem inv107 {x y : Nat} {z : Int} {st st' : List Value} {σ σ' : mM} (h : mnat (107, x, y, z) st σ = some (st', σ')) : ∃ (a : Nat) (r : List Value), st = .ref a :: r ∧ r.length ≤ 4 ∧ st' = r ∧ σ' = σ := by
  rcases st with _ | ⟨w0, r⟩
  · cases h
  cases w0 with
  | ref a =>
    simp only [mnat] at h
    split at h
    · rename_i hc
      cases h
      exact ⟨a, _, rfl, hc, rfl, rfl⟩
    · cases h
  | _ => cases h
theorem gR.more {G : mG} {σ σ' : mM} {U : State} {H H1 : Heap} {sh : Nat × Nat} (h : gR G σ U H) (hl : σ'.2.2 = σ.2.2 ++ [sh]) (hI : ∀ b, b ≠ σ.2.2.length → σ'.1 b = σ.1 b) (hr : ∀ b, b ≠ σ.2.2.length → σ'.2.1 b = σ.2.1 b) (hz : H1.size = H.size + 1) (hk : ∀ q : Nat, q < H.size → H1[q]? = H[q]?)
    (hc : va_at G.2.2.2.1 jCl (gAd G σ.2.2.length, gE G σ' σ.2.2.length) H1) : gR G σ' U H1 := by
  obtain ⟨h1, h2, h3, h4, h5⟩ := h
  have hk' : ∀ b : Nat, b < H.size → ¬ gA G b → H1[b]? = H[b]? := fun b hb _ => hk b hb
  have hlen : σ'.2.2.length = σ.2.2.length + 1 := by rw [hl]; simp
  refine ⟨?_, by omega, by omega, fun b hb => ((h4 b hb).kept hk').same (hI b (by omega)) (hr b (by omega)) (by rw [hl, List.getElem?_append_left (by omega)]), h5.kept hk'⟩
  intro j q hq
  obtain ⟨hj, rfl⟩ := gW_at hq
  rw [hlen] at hj
  by_cases e : nSP + j = σ.2.2.length
  · rw [e]
    have e2 : G.1 + j = gAd G σ.2.2.length := by rw [gAd_hi h3]; omega
    rw [e2]
    exact hc
  · have hb : nSP + j < σ.2.2.length := by omega
    have he : gE G σ' (nSP + j) = gE G σ (nSP + j) := by
      unfold gE
      have hs : σ'.2.2[nSP + j]? = σ.2.2[nSP + j]? := by rw [hl, List.getElem?_append_left hb]
      have hi := hI (nSP + j) e
      have hr := hr (nSP + j) e
      have hsl : ∀ k, gSl G σ' (nSP + j) k = gSl G σ (nSP + j) k := by intro k; funext q; simp only [gSl, hi, hr]
      rw [hs, hi]
      split <;> first | rfl | (simp only [hr]; done) | (simp only [hsl]; done)
    rw [he]
    have hg := gW_get (G := G) (σ := σ) (a := nSP + j) (by omega) hb
    have h0 := h1 _ _ hg
    rw [gAd_hi (by omega), show nSP + j - nSP = j by omega] at h0
    exact h0.kept (hk _ h0.lt)
section
variable {p : Program} {l : Launch} {e : Env} {R : Room} {s : State} {m : MethodId} {args : Array Value} {below : List Frame} {meth : Method} {c : Code} {H : Heap} {locs : List Loc} {cells slots : Nat} {Q : State → Prop} {G : mG} {k : Nat}
set_option maxHeartbeats 8000000 in
theorem simN {pc len : Nat} {i : mIns} {j : Instr} {st st' : List Value} {σ σ' : mM} {lsR : Array Slot} (hd : decode (jMb k) pc = .ok (j, len)) (hok : okI k pc i j len = true) (h104 : 104 ≤ i.1) (hs : mnat i st σ = some (st', σ')) (C : gCx G k p s m args meth c) (hL : lsR.size = jML.getD k 0)
    (hfr : 1 ≤ R.frames) (hlo : 40 ≤ R.locals) (hR : gR G σ s H) (hS : va_S (gA G) s.heap H locs) (hrc : cells + σ'.2.2.length ≤ R.cells + σ.2.2.length) (hrs : slots + sl σ' ≤ R.slots + sl σ)
    (kk : ∀ (H1 : Heap) (locs1 : List Loc) (cells1 slots1 : Nat), gR G σ' s H1 → va_S (gA G) s.heap H1 locs1 → cells1 + σ.2.2.length = cells + σ'.2.2.length → slots1 + sl σ = slots + sl σ' → W p l e R s m args below meth c H1 locs1 cells1 slots1 Q (F0 m (pc + len) lsR (st'.map (gEn G)))) : W p l e R s m args below meth c H locs cells slots Q (F0 m pc lsR (st.map (gEn G))) := by
  have hK := (C_K C).1
  have hml : c.maxLocals = lsR.size := by rw [hL]; exact C.2.2.1
  cases j with
  | invokestatic cp =>
    simp only [okI, okC, Bool.and_eq_true, Bool.or_eq_true, decide_eq_true_eq] at hok
    obtain ⟨h0, rfl⟩ := hok
    rcases h0 with h0 | ⟨h0, h2⟩
    · omega
    obtain ⟨o, x, y, z⟩ := i
    dsimp only at h0 h2 hs
    subst h0
    obtain ⟨n, dp, b, sp, a, r, na, nb, rfl, e1, e2, ⟨c1, c2, c3, c4, c5, c6, c7, c8, c9⟩, rfl, rfl⟩ := inv104 hs
    have hlink : Cond.methodLink (jOw (jMo k)) cp arraycopyName ∈ jT := jOL_ok _ (List.mem_of_getElem? h2)
    obtain ⟨n1, n2, n3⟩ := jn_ac
    have hc0 : H[gAd G a]? = some (vp_cell (G.2.2.2.2 1) (na, .inl (σ.1 a))) := by have h := hR.1 _ _ (hR.at c1 e1); rw [gE_i e1 (by decide)] at h; exact h
    have hc1 : H[gAd G b]? = some (vp_cell (G.2.2.2.2 1) (nb, .inl (σ.1 b))) := by have h := hR.1 _ _ (hR.at c2 e2); rw [gE_i e2 (by decide)] at h; exact h
    obtain ⟨-, k0, hk0, cm0, hkk0⟩ := (hK.2 1 _ rfl).1 na (fun j => .int (σ.1 a j))
    intro T hT X
    obtain ⟨vm', X', step⟩ := X.arraycopy C.1 (C_own C) (word_of C hlink rfl) (word_of C n1 rfl) (word_of C n2 rfl) (word_of C n3 rfl) (src := gAd G a) (dst := gAd G b) (cs := vp_cell (G.2.2.2.2 1) (na, .inl (σ.1 a))) (cd := vp_cell (G.2.2.2.2 1) (nb, .inl (σ.1 b))) (srcPos := sp) (destPos := dp) (n := n) (by rw [hT]; exact hc0) (by rw [hT]; exact hc1)
      (fun _ h => by cases h) (fun _ h => by cases h) (fun h => by cases h) (fun h => by cases h) hk0 hk0 hkk0 hkk0 (by rfl) (nneg c5) (nneg c6) (nneg c4)
      (by show ¬ _ > ((arrV (G.2.2.2.2 1) na (fun j => .int (σ.1 a j))).slots.size : Int); rw [arrV_size]; omega)
      (by show ¬ _ > ((arrV (G.2.2.2.2 1) nb (fun j => .int (σ.1 b j))).slots.size : Int); rw [arrV_size]; omega)
      (fun vm₁ _ i hi => by
        have hi' : i < n.toInt.toNat := hi
        have e : (vp_cell (G.2.2.2.2 1) (na, .inl (σ.1 a))).slots.getD (sp.toNatClampNeg + i) .null = .int (σ.1 a (sp.toInt.toNat + i)) := by
          show (arrV (G.2.2.2.2 1) na (fun j => .int (σ.1 a j))).slots.getD _ _ = _
          rw [Array.getD_eq_getD_getElem?, arrV_read _ _ (by rw [clampN]; omega)]
          rfl
        refine ⟨?_, ?_⟩
        · rw [e]
          exact fitB (c9 i hi').1 (c9 i hi').2
        · rw [e]
          exact trivial)
      (g := F0 m pc lsR ((.int n :: .int dp :: .ref b :: .int sp :: .ref a :: st').map (gEn G))) rfl hml.symm (rest := st'.map (gEn G)) rfl (by rw [C.2.1]; exact hd) hfr (by have h8 := cats (G := G) st' c3; show 2 * 0 + _ + 18 ≤ _; omega)
    have ec : copied (vp_cell (G.2.2.2.2 1) (na, .inl (σ.1 a))) (vp_cell (G.2.2.2.2 1) (nb, .inl (σ.1 b))) sp dp n = vp_cell (G.2.2.2.2 1) (nb, .inl (va_cpy (σ.1 a) (σ.1 b) sp.toNatClampNeg dp.toNatClampNeg n.toNatClampNeg)) := va_copied (fun z => .int z) _ _ (σ.1 a) (σ.1 b) (by rw [clampN, clampN]; omega)
    rw [ec] at X' step
    have hl : gAd G b < H.size := (Array.getElem?_eq_some_iff.mp hc1).1
    generalize hH1 : H.setIfInBounds (gAd G b) (vp_cell (G.2.2.2.2 1) (nb, .inl (va_cpy (σ.1 a) (σ.1 b) sp.toNatClampNeg dp.toNatClampNeg n.toNatClampNeg))) = H1
    have hheap : ((T.setVm vm').setCell (gAd G b) (vp_cell (G.2.2.2.2 1) (nb, .inl (va_cpy (σ.1 a) (σ.1 b) sp.toNatClampNeg dp.toNatClampNeg n.toNatClampNeg)))).heap = H1 := by rw [← hH1, ← hT]; rfl
    have oq : ∀ q : Nat, q ≠ gAd G b → H1[q]? = H[q]? := fun q hq => by rw [← hH1]; simp [Array.getElem?_setIfInBounds, Ne.symm hq]
    have ob : H1[gAd G b]? = some (vp_cell (G.2.2.2.2 1) (nb, .inl (va_cpy (σ.1 a) (σ.1 b) sp.toNatClampNeg dp.toNatClampNeg n.toNatClampNeg))) := by rw [← hH1]; simp [Array.getElem?_setIfInBounds, hl]
    have oz : H1.size = H.size := by rw [← hH1]; simp
    have hat := hR.at c2 e2
    have hR1 : gR G (fun c k => if c = b then mCpy (σ.1 a) (σ.1 b) sp.toInt.toNat dp.toInt.toNat n.toInt.toNat k else σ.1 c k, σ.2.1, σ.2.2) s H1 := by
      refine hR.after c2 rfl (fun c hc => by funext k; simp [hc]) (fun _ _ => rfl) ?_ oz oq
      refine hR.1.set gW_D hat ?_ oq
      rw [gE_i (σ := (fun c k => if c = b then mCpy (σ.1 a) (σ.1 b) sp.toInt.toNat dp.toInt.toNat n.toInt.toNat k else σ.1 c k, σ.2.1, σ.2.2)) e2 (by decide)]
      show H1[gAd G b]? = some (vp_cell _ (nb, .inl (fun k => if b = b then mCpy (σ.1 a) (σ.1 b) sp.toInt.toNat dp.toInt.toNat n.toInt.toNat k else σ.1 b k)))
      rw [ob]
      simp only [if_true]
      rfl
    obtain ⟨t, a1, b1⟩ := kk H1 _ cells slots hR1 ⟨by rw [oz]; exact hS.1, fun q g1 g2 => by
        rw [oq q (fun e => g2 (by rw [e]; exact gAd_in c2))]
        exact hS.2.1 q g1 g2, fun q hq => by
        rcases List.mem_append.mp hq with h | h
        · exact hS.2.2 q h
        · obtain ⟨z, -, hz⟩ := List.mem_map.mp h
          rw [← hz]
          exact gAd_in c2⟩ rfl rfl _ hheap X'
    exact ⟨t, step t a1, b1⟩
  | invokevirtual cp =>
    simp only [okI, okC, Bool.and_eq_true, Bool.or_eq_true, decide_eq_true_eq] at hok
    obtain ⟨h0, rfl⟩ := hok
    rcases h0 with h0 | ⟨h0, h2⟩
    · omega
    obtain ⟨o, x, y, z⟩ := i
    dsimp only at h0 h2 hs
    subst h0
    obtain ⟨a, r, n, rfl, e1, ⟨c1, c2, c3⟩, rfl, rfl⟩ := inv105 hs
    have hlink : Cond.methodLink (jOw (jMo k)) cp ⟨"[B", "clone", "()Ljava/lang/Object;"⟩ ∈ jT := jOL_ok _ (List.mem_of_getElem? h2)
    obtain ⟨n1, n2, n3, n4, -⟩ := jn_cl
    have hlen : (mNew σ (1, n)).2.2.length = σ.2.2.length + 1 := by simp [mNew]
    have hsl : sl ((fun c k => if c = σ.2.2.length then σ.1 a k else σ.1 c k, (mNew σ (1, n)).2.1, (mNew σ (1, n)).2.2) : mM) = sl σ + n := sl_new σ (1, n)
    rw [hsl] at hrs
    dsimp only at hrc
    rw [hlen] at hrc
    obtain ⟨cF, t0, f1, f2, f3⟩ := Cond.castable_spec (va_Nw.use (A := args) rfl (C_K C).2.2.2.2.1)
    have hnm : s.vm.findClass "[B" = some (G.2.2.2.2 1) := (hK.2 1 _ rfl).2
    cases hnm.symm.trans f1
    have hc0 : H[gAd G a]? = some (vp_cell (G.2.2.2.2 1) (n, .inl (σ.1 a))) := by have h := hR.1 _ _ (hR.at c1 e1); rw [gE_i e1 (by decide)] at h; exact h
    intro T hT X
    have hcellT : T.heap[gAd G a]? = some (vp_cell (G.2.2.2.2 1) (n, .inl (σ.1 a))) := by rw [hT]; exact hc0
    obtain ⟨-, kA, hkA, comp, hkind⟩ := State.isArrayOf_alike X.warmed.alike ((hK.2 1 _ rfl).1 0 (fun _ => .null))
    obtain ⟨-, kS, hkS, compS, hkindS⟩ := (hK.2 1 _ rfl).1 0 (fun _ => .null)
    have hsz : (vp_cell (G.2.2.2.2 1) (n, .inl (σ.1 a))).slots.size = n := arrV_size _ _ _
    obtain ⟨vm', X', step⟩ := X.cloneArray C.1 (C_own C) (word_of C hlink rfl) (word_of C n1 rfl) (word_of C n2 rfl) (word_of C n3 rfl) (word_of C n4 rfl) (a := gAd G a) (cell := vp_cell (G.2.2.2.2 1) (n, .inl (σ.1 a))) hcellT (fun k h => by cases h) (fun h => by cases h) hnm f2 f3
      (fun i v hv => by
        have hk' : T.vm.classes[G.2.2.2.2 1]? = some kA := hkA
        have hi : i < n := by rw [← hsz]; exact (Array.getElem?_eq_some_iff.mp hv).1
        have hv2 : (arrV (G.2.2.2.2 1) n (fun j => .int (σ.1 a j))).slots[i]? = some v := hv
        rw [arrV_read _ _ hi] at hv2
        cases hv2
        have h9 := fitB (c3 i hi).1 (c3 i hi).2
        show T.fitsSlot (G.2.2.2.2 1) .none i _ = true
        simpa [State.fitsSlot, State.slotType?, hk', hkind] using h9)
      (g := F0 m pc lsR ((.ref a :: r).map (gEn G))) rfl hml.symm rfl (by rw [C.2.1]; exact hd) hfr (by have h8 := cats (G := G) r c2; show 2 * 0 + _ + 14 ≤ _; omega) (by omega) (by rw [hsz]; omega) (hloader := Vm.clonesLoader_of_array hkS hkindS)
    have hcellE : ({ cls := (vp_cell (G.2.2.2.2 1) (n, .inl (σ.1 a))).cls, slots := (vp_cell (G.2.2.2.2 1) (n, .inl (σ.1 a))).slots } : Cell) = vp_cell (G.2.2.2.2 1) (n, .inl (σ.1 a)) := rfl
    rw [hcellE, hsz] at X'
    rw [hcellE] at step
    generalize hH1 : H.push (vp_cell (G.2.2.2.2 1) (n, .inl (σ.1 a))) = H1
    have z1 : H1.size = H.size + 1 := by rw [← hH1, Array.size_push]
    have e9 : H1[H.size]? = some (vp_cell (G.2.2.2.2 1) (n, .inl (σ.1 a))) := by rw [← hH1, Array.getElem?_push_size]
    have o1 : ∀ q : Nat, q < H.size → H1[q]? = H[q]? := fun q hq => by rw [← hH1, Array.getElem?_push, if_neg (Nat.ne_of_lt hq)]
    have hR1 : gR G (fun c k => if c = σ.2.2.length then σ.1 a k else σ.1 c k, (mNew σ (1, n)).2.1, (mNew σ (1, n)).2.2) s H1 := by
      refine hR.more (sh := (1, n)) rfl (fun b hb => by funext k; simp [hb]) (fun b hb => by funext k; simp [mNew, hb]) z1 o1 ?_
      rw [gE_i (σ := (fun c k => if c = σ.2.2.length then σ.1 a k else σ.1 c k, (mNew σ (1, n)).2.1, (mNew σ (1, n)).2.2)) (new_at σ (1, n)) (by decide), gv_sz hR]
      simp only [if_true]
      exact e9
    obtain ⟨t, b1, b2⟩ := kk H1 locs (cells + 1) (slots + n) hR1 (S_push hS z1 o1) (by show _ = cells + (mNew σ (1, n)).2.2.length; rw [hlen]; omega) (by rw [hsl]; omega) _ (by rw [← hH1, ← hT]; rfl) X'
    refine ⟨t, step t ?_, b2⟩
    simp only [List.map_cons, gEn, gv_sz hR] at b1
    rw [← hT] at b1
    exact b1
  | invokespecial cp =>
    simp only [okI, okC, Bool.and_eq_true, Bool.or_eq_true, decide_eq_true_eq] at hok
    obtain ⟨h0, rfl⟩ := hok
    rcases h0 with h0 | ⟨h0, h2⟩
    · omega
    obtain ⟨o, x, y, z⟩ := i
    dsimp only at h0 h2 hs
    subst h0
    obtain ⟨a, r, rfl, c1, rfl, rfl⟩ := inv107 hs
    have hlink : Cond.methodLink (jOw (jMo k)) cp Lib.objectInit ∈ jT := jOL_ok _ (List.mem_of_getElem? h2)
    exact W.objInit C.1 C.2.1 (C_own C) (word_of C hlink rfl) (word_of C jo_im rfl) (word_of C jo_cd rfl) rfl hml.symm rfl hd hfr (by have h8 := cats (G := G) st' c1; show 2 * 0 + _ + 12 ≤ _; omega) (kk H locs cells slots hR hS rfl rfl)
  | checkcast cp =>
    simp only [okI, Bool.and_eq_true, decide_eq_true_eq] at hok
    obtain ⟨⟨h0, h2⟩, rfl⟩ := hok
    obtain ⟨o, x, y, z⟩ := i
    dsimp only at h0 h2 hs
    subst h0
    obtain ⟨a, r, n, rfl, e1, c1, rfl, rfl⟩ := inv106 hs
    have hlink : Cond.classLink (jOw (jMo k)) cp "[B" ∈ jT := jOL_ok _ (List.mem_of_getElem? h2)
    have hat := hR.at c1 e1
    rw [gE_i e1 (by decide)] at hat
    exact va_castA C.1 C.2.1 (C_own C) (word_of C hlink rfl) hR.1 (a - nSP) hat (hK.2 1 _ rfl).2 hd (kk H locs cells slots hR hS rfl rfl)
  | if_icmp cd off =>
    cases cd <;> (simp only [okI, okJ, Bool.and_eq_true, decide_eq_true_eq] at hok; omega)
  | ifCond cd off =>
    cases cd <;> (simp only [okI, okJ, Bool.and_eq_true, decide_eq_true_eq] at hok; omega)
  | if_acmp cd off =>
    cases cd <;> first | (cases hok; done) | (simp only [okI, okJ, Bool.and_eq_true, decide_eq_true_eq] at hok; omega)
  | _ => first | (cases hok; done) | (simp only [okI, okJ, okF, Bool.and_eq_true, Bool.or_eq_true, decide_eq_true_eq] at hok; omega)
end
