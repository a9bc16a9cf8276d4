/-! steps that read, write and make cells -/
def sl (σ : mM) : Nat := (σ.2.2.map Prod.snd).sum
theorem gEn_vR {G : mG} {o : Option Nat} : gEn G (vR o) = va_rf (o.map (gAd G)) := by cases o <;> rfl
theorem mNar_spec {x : Int32} (h : mNar 1 x = true) : x = 0 ∨ x = 1 := by
  have h : (x.toInt == 0 || x.toInt == 1) = true := h
  simp only [Bool.or_eq_true, beq_iff_eq] at h
  rcases h with h | h
  · exact Or.inl (Int32.toInt_inj.mp h)
  · exact Or.inr (Int32.toInt_inj.mp h)
theorem clampN (i : Int32) : i.toNatClampNeg = i.toInt.toNat := rfl
def okT (t : FieldType) : Bool := match t with
  | .int => true
  | .boolean => true
  | .byte => true
  | .object _ => true
  | .array _ => true
  | _ => false
def jFtok : Bool := (List.range 15).all (fun ci => (List.range (jNs.getD ci 0)).all (fun k => okT (jFt ci k)))
theorem jFt_ok : jFtok = true := by decide +kernel
theorem jFt_at {ci k : Nat} (h : ci < 15) (hk : k < jNs.getD ci 0) : okT (jFt ci k) = true := by
  have h0 := jFt_ok
  unfold jFtok at h0
  have h1 := List.all_eq_true.mp h0 ci (List.mem_range.mpr h)
  exact List.all_eq_true.mp h1 k (List.mem_range.mpr hk)
def jRow (ci : Nat) (C : String) (T : u_T) (N : Nat) : Prop := (∀ w ∈ u_ws C T N, w ∈ jT) ∧ (∀ k, k < N → parseFieldDescriptor (T k).2.2.1 = some (jFt ci k)) ∧ (∀ a, a < N → ∀ b, b < N → a ≠ b → (T a).2.1 ≠ (T b).2.1) ∧ Cond.instantiable C N ∈ jT ∧ Cond.initialized C ∈ jT ∧ N = jNs.getD ci 0 ∧ T = jTf ci ∧ C = (jCl.getD ci ("", jT0, 0)).1
theorem jCl_ok : ∀ ci, ci < 15 → ∃ C T N, jCl[ci]? = some (C, T, N) ∧ jRow ci C T N := by
  intro ci h
  match ci, h with
  | 0, _ => exact ⟨_, _, _, rfl, jL0, jYk0, jN0, jI0.1, jI0.2, rfl, rfl, rfl⟩
  | 1, _ => exact ⟨_, _, _, rfl, jL1, jYk1, jN1, jI1.1, jI1.2, rfl, rfl, rfl⟩
  | 2, _ => exact ⟨_, _, _, rfl, jL2, jYk2, jN2, jI2.1, jI2.2, rfl, rfl, rfl⟩
  | 3, _ => exact ⟨_, _, _, rfl, jL3, jYk3, jN3, jI3.1, jI3.2, rfl, rfl, rfl⟩
  | 4, _ => exact ⟨_, _, _, rfl, jL4, jYk4, jN4, jI4.1, jI4.2, rfl, rfl, rfl⟩
  | 5, _ => exact ⟨_, _, _, rfl, jL5, jYk5, jN5, jI5.1, jI5.2, rfl, rfl, rfl⟩
  | 6, _ => exact ⟨_, _, _, rfl, jL6, jYk6, jN6, jI6.1, jI6.2, rfl, rfl, rfl⟩
  | 7, _ => exact ⟨_, _, _, rfl, jL7, jYk7, jN7, jI7.1, jI7.2, rfl, rfl, rfl⟩
  | 8, _ => exact ⟨_, _, _, rfl, jL8, jYk8, jN8, jI8.1, jI8.2, rfl, rfl, rfl⟩
  | 9, _ => exact ⟨_, _, _, rfl, jL9, jYk9, jN9, jI9.1, jI9.2, rfl, rfl, rfl⟩
  | 10, _ => exact ⟨_, _, _, rfl, jL10, jYk10, jN10, jI10.1, jI10.2, rfl, rfl, rfl⟩
  | 11, _ => exact ⟨_, _, _, rfl, jL11, jYk11, jN11, jI11.1, jI11.2, rfl, rfl, rfl⟩
  | 12, _ => exact ⟨_, _, _, rfl, jL12, jYk12, jN12, jI12.1, jI12.2, rfl, rfl, rfl⟩
  | 13, _ => exact ⟨_, _, _, rfl, jL13, jYk13, jN13, jI13.1, jI13.2, rfl, rfl, rfl⟩
  | 14, _ => exact ⟨_, _, _, rfl, jL14, jYk14, jN14, jI14.1, jI14.2, rfl, rfl, rfl⟩
  | k + 15, h => exact absurd h (by omega)
theorem good_lay (C : String) (T : u_T) (k : Nat) : goodWord (u_lay C T k) = true := by unfold u_lay; split <;> rfl
section
variable {p : Program} {l : Launch} {e : Env} {R : Room} {s : State} {m : MethodId} {args : Array Value} {below : List Frame} {meth : Method} {c : Code} {H : Heap} {locs : List Loc} {cells slots : Nat} {Q : State → Prop} {G : mG} {k : Nat}
theorem C_ts (C : gCx G k p s m args meth c) : ∀ w ∈ jT.filter goodWord, w.before args s = true := fun w hw => C.2.2.2.2.2.2.1 w (List.mem_filter.mp hw).1 (List.mem_filter.mp hw).2
theorem C_in {ci : Nat} {Cn : String} {T : u_T} {N : Nat} (h : jRow ci Cn T N) : ∀ w ∈ u_ws Cn T N, w ∈ jT.filter goodWord := fun w hw => List.mem_filter.mpr ⟨h.1 w hw, by obtain ⟨k, -, rfl⟩ := List.mem_map.mp hw; exact good_lay _ _ _⟩
theorem g_stI {U : State} {σ : mM} {H1 : Heap} {a kd n j : Nat} {y : Int32} (h : gR G σ U H) (ha : nSP ≤ a) (hs : σ.2.2[a]? = some (kd, n)) (hk : kd < 3) (e1 : H1[gAd G a]? = some ((vp_cell (G.2.2.2.2 kd) (n, .inl (σ.1 a))).setSlot j (.int y))) (z : H1.size = H.size) (oq : ∀ q : Nat, q ≠ gAd G a → H1[q]? = H[q]?) : gR G (wI σ a j y) U H1 := by
  refine h.wI ha (h.1.set gW_D (h.at ha hs) ?_ oq) z oq
  rw [gE_i (σ := wI σ a j y) (a := a) hs hk]
  show H1[gAd G a]? = some (vp_cell _ _)
  rw [e1, vp_cell_i, vp_cell_i, arrV_store]
  congr 2
  funext q
  by_cases hq : q = j
  · subst hq; simp [updV, wI, u2]
  · simp [updV, wI, u2, hq]
theorem g_stR {U : State} {σ : mM} {H1 : Heap} {a n j : Nat} {y : Option Nat} (h : gR G σ U H) (ha : nSP ≤ a) (hs : σ.2.2[a]? = some (3, n)) (e1 : H1[gAd G a]? = some ((vp_cell (G.2.2.2.2 3) (n, .inr (.inr (.inr (.inr (fun j => (σ.2.1 a j).map (gAd G))))))).setSlot j (va_rf (y.map (gAd G))))) (z : H1.size = H.size) (oq : ∀ q : Nat, q ≠ gAd G a → H1[q]? = H[q]?) : gR G (wR σ a j y) U H1 := by
  refine h.wR ha (h.1.set gW_D (h.at ha hs) ?_ oq) z oq
  rw [gE_r (σ := wR σ a j y) (a := a) hs]
  show H1[gAd G a]? = some (vp_cell _ _)
  rw [e1, vp_cell_q, vp_cell_q, arrV_store]
  congr 2
  funext q
  by_cases hq : q = j
  · subst hq; simp [updV, wR, u2]
  · simp [updV, wR, u2, hq]
/-- a field's store, raw -/
theorem gv_put {cc : ByteArray} {pc : Nat} {ls : Array Slot} {rest : List Value} (C : gCx G k p s m args meth c) (hcc : cc = jMb k) {ci a kf cp : Nat} {fs : List Value} {v : Value} (hci : ci < 15) (hkf : kf < jNs.getD ci 0) (hat : va_at G.2.2.2.1 jCl (a, .inr (ci, fs)) H) (hlink : Cond.fieldLink (jOw (jMo k)) cp (jTf ci kf).1 (jTf ci kf).2.1 (jTf ci kf).2.2.1 ∈ jT)
    (hfin : (jTf ci kf).2.2.2 = false ∨ ((jMn k).name = "<init>" ∧ (jTf ci kf).1 = jOw (jMo k))) (hn : narrow (jFt ci kf) v = v) (hfit : fits (jFt ci kf) v = true) (hl : kf < fs.length) (hdg : decode cc pc = .ok (.putfield cp, 3))
    (kk : ∀ (H1 : Heap) (q : Nat), va_at G.2.2.2.1 jCl (a, .inr (ci, fs.set kf v)) H1 → H1.size = H.size → (∀ q : Nat, q ≠ a → H1[q]? = H[q]?) → W p l e R s m args below meth c H1 (locs ++ [⟨a, q⟩]) cells slots Q (F0 m (pc + 3) ls rest)) : W p l e R s m args below meth c H locs cells slots Q (F0 m pc ls (v :: .ref a :: rest)) := by
  subst hcc
  obtain ⟨Cn, T, N, hcl, hrow⟩ := jCl_ok ci hci
  have hin := C_in hrow
  obtain ⟨-, hty, hnm, -, -, hN, hT, -⟩ := hrow
  subst hT
  rw [← hN] at hkf
  have hts := C_ts C
  have hK := (C_K C).1
  have hap := va_apart (own := Cn) hts hin (jFt ci) hty hnm hK hcl
  obtain ⟨r, h1, cell, q1, q2, q3, q4⟩ := hat
  have hr : r = (Cn, jTf ci, N) := Option.some.inj (h1.symm.trans hcl)
  subst hr
  obtain ⟨hS, hfc, kC, hkC, hkind⟩ := hK.1 ci _ hcl
  obtain ⟨cf, kf', fi, f, hi, hsl⟩ := hS kf hkf
  have hlay := hts _ (hin _ (u_in_lay hkf))
  have hst := (u_facts hfc hkC (u_lays hts hin hkf) hi).1
  have hlk := word_of C hlink rfl
  have close : ∀ (H' : Heap), H'[a]? = some (cell.setSlot f.slot v) → H'.size = H.size → (∀ q : Nat, q ≠ a → H'[q]? = H[q]?) → W p l e R s m args below meth c H' (locs ++ [⟨a, f.slot⟩]) cells slots Q (F0 m (pc + 3) ls rest) := by
    intro H' e1 e2 e3
    rw [hsl] at e1
    exact kk H' _ ⟨_, hcl, t_OB.to (V := updV (vp_V fs) kf v) ⟨_, e1, q2, q3, t_set q4 hap hkf v⟩ (fun j _ => vp_updV_set hl v j)⟩ e2 e3
  by_cases hff : (jTf ci kf).2.2.2 = true
  · unfold u_lay at hlay
    rw [if_pos hff] at hlay
    obtain ⟨hnm2, hdecl⟩ := hfin.resolve_left (by rw [hff]; decide)
    have hown := C_own C
    have hcf : m.cls = cf := by
      obtain ⟨_, _, c', _, _, _, -, -, hf', -, -, -, hown2, -⟩ := Cond.laysFinal_spec hlay
      have e1 : c' = cf := by have := hi.symm.trans hf'; simp at this; exact this.1.symm
      rw [hdecl] at hown2
      rw [← e1]; exact Option.some.inj (hown.symm.trans hown2)
    have h6 := u_fits hfc hkC hkind (Or.inr hlay) hi (hty kf hkf) hn hfit
    exact W.putFinK C.1 C.2.1 hown hlk hi hst hcf (C.2.2.2.2.2.2.2.1.trans hnm2) (by rw [q2]; exact h6) q1 q3 (by rw [hsl]; exact k2_hasslot (q4 kf hkf)) rfl rfl hdg close
  · unfold u_lay at hlay
    rw [if_neg hff] at hlay
    have h6 := u_store hfc hkC hkind hlay hi (hty kf hkf) hn hfit
    exact W.putK C.1 C.2.1 (f := f) ⟨C_own C, hlk, ⟨_, _, _, hi⟩, hst⟩ (by rw [q2]; exact h6) q1 q3 (by rw [hsl]; exact k2_hasslot (q4 kf hkf)) rfl rfl hdg close
theorem range_set {α : Type} (f f' : Nat → α) (n k : Nat) (v : α) (hk : f' k = v) (hn : ∀ j, j ≠ k → f' j = f j) : (List.range n).map f' = ((List.range n).map f).set k v := by
  apply List.ext_getElem?
  intro j
  rw [List.getElem?_set]
  by_cases hj : k = j
  · subst hj
    rw [if_pos rfl]
    by_cases hb : k < n
    · simp [hb, hk]
    · simp [hb]
  · rw [if_neg hj]
    by_cases hb : j < n
    · simp [hb, hn j (Ne.symm hj)]
    · simp [hb]
theorem lt15 {σ : mM} {a ci n : Nat} {U : State} (h : gR G σ U H) (ha : nSP ≤ a) (hs : σ.2.2[a]? = some (ci + 4, n)) : ci < 15 := by
  have h1 := h.1 _ _ (h.at ha hs)
  rw [gE_o hs] at h1
  obtain ⟨r, h2, -⟩ := h1
  exact (List.getElem?_eq_some_iff.mp h2).1
theorem sl_new (σ : mM) (sh : Nat × Nat) : sl (mNew σ sh) = sl σ + sh.2 := by simp [sl, mNew]
theorem new_at (σ : mM) (sh : Nat × Nat) : (mNew σ sh).2.2[σ.2.2.length]? = some sh := by simp [mNew]
theorem new_I (σ : mM) (sh : Nat × Nat) : (mNew σ sh).1 σ.2.2.length = fun _ => 0 := by funext k; simp [mNew]
theorem new_R (σ : mM) (sh : Nat × Nat) : (mNew σ sh).2.1 σ.2.2.length = fun _ => none := by funext k; simp [mNew]
theorem gv_sz {σ : mM} {U : State} (h : gR G σ U H) : gAd G σ.2.2.length = H.size := by rw [gAd_hi h.2.2.1]; have := h.2.1; have := h.2.2.1; omega
theorem S_push {A : Nat → Prop} {H0 H1 : Heap} (h : va_S A H0 H locs) (z : H1.size = H.size + 1) (o1 : ∀ q : Nat, q < H.size → H1[q]? = H[q]?) : va_S A H0 H1 locs := ⟨Nat.le_trans h.1 (by omega), fun q h1 h2 => (o1 q (Nat.lt_of_lt_of_le h1 h.1)).trans (h.2.1 q h1 h2), h.2.2⟩
theorem nneg {n : Int32} (h : 0 ≤ n.toInt) : ¬ n < 0 := fun q => by have h2 := Int32.lt_iff_toInt_lt.mp q; rw [Int32.toInt_zero] at h2; omega
theorem jSr_lt : ∀ e ∈ jSr, e.2.2 < nSP := by decide
set_option maxHeartbeats 8000000 in
theorem simB {pc len : Nat} {i : mIns} {j : Instr} {ls st : List Value} {σ : mM} {r : List Value × List Value × mM} {lsR : Array Slot} (hd : decode (jMb k) pc = .ok (j, len)) (hok : okI k pc i j len = true) (h40 : 40 ≤ i.1) (h60 : i.1 < 60) (hs : mstep i ls st σ = some r) (C : gCx G k p s m args meth c)
    (hR : gR G σ s H) (hS : va_S (gA G) s.heap H locs) (hrc : cells + r.2.2.2.2.length ≤ R.cells + σ.2.2.length) (hrs : slots + sl r.2.2 ≤ R.slots + sl σ)
    (kk : r.1 = ls → ∀ (H1 : Heap) (locs1 : List Loc) (cells1 slots1 : Nat), gR G r.2.2 s H1 → va_S (gA G) s.heap H1 locs1 → cells1 + σ.2.2.length = cells + r.2.2.2.2.length → slots1 + sl σ = slots + sl r.2.2 → W p l e R s m args below meth c H1 locs1 cells1 slots1 Q (F0 m (pc + len) lsR (r.2.1.map (gEn G)))) : W p l e R s m args below meth c H locs cells slots Q (F0 m pc lsR (st.map (gEn G))) := by
  have hK := (C_K C).1
  cases j with
  | iaload =>
    simp only [okI, Bool.and_eq_true, decide_eq_true_eq] at hok
    obtain ⟨h1, rfl⟩ := hok
    obtain ⟨o, a, b, z⟩ := i
    dsimp only at h1 hs
    subst h1
    obtain ⟨ix, q, st', rfl, hc, rfl⟩ := inv40 hs
    obtain ⟨n, hsh, b1, b2⟩ := mIx_spec hc
    by_cases ha : nSP ≤ q
    · refine va_iald C.1 C.2.1 hK hR.1 (q - nSP) 0 (cA := G.2.2.2.2 0) (n := n) (f := σ.1 q) ?_ rfl (ix_in b1 b2) hd (kk rfl H locs cells slots hR hS rfl rfl)
      rw [hR.at ha hsh, gE_i hsh (by decide)]
    · have h0 := hR.2.2.2.1 q (by omega)
      unfold gSp at h0
      rw [hsh] at h0
      obtain ⟨cell, c1, c2, c3, c4, c5, c6, c7⟩ := h0
      have he : gAd G q = G.2.1 q := if_pos (by omega)
      refine W.iald C.1 C.2.1 (v := .int (σ.1 q ix.toInt.toNat)) c1 c2 c3 (ix_not b1 b2 c4) (c6 _ (by rw [clampN]; omega)) rfl ?_ hd (kk rfl H locs cells slots hR hS rfl rfl)
      simp only [List.map_cons, gEn, he]
  | baload =>
    simp only [okI, Bool.and_eq_true, Bool.or_eq_true, decide_eq_true_eq] at hok
    obtain ⟨h0, rfl⟩ := hok
    obtain ⟨o, a, b, z⟩ := i
    dsimp only at h0 hs
    rcases h0 with h1 | h1
    · subst h1
      obtain ⟨ix, q, st', rfl, hc, rfl⟩ := inv41 hs
      obtain ⟨n, hsh, b1, b2⟩ := mIx_spec hc
      by_cases ha : nSP ≤ q
      · refine va_bald C.1 C.2.1 hK hR.1 (q - nSP) 1 (cA := G.2.2.2.2 1) (n := n) (f := σ.1 q) ?_ rfl (ix_in b1 b2) hd (kk rfl H locs cells slots hR hS rfl rfl)
        rw [hR.at ha hsh, gE_i hsh (by decide)]
      · have h0 := hR.2.2.2.1 q (by omega)
        unfold gSp at h0
        rw [hsh] at h0
        obtain ⟨cell, c1, c2, c3, c4, c5, c6, c7⟩ := h0
        have he : gAd G q = G.2.1 q := if_pos (by omega)
        refine W.bald C.1 C.2.1 (v := .int (σ.1 q ix.toInt.toNat)) c1 c2 c3 (ix_not b1 b2 c4) (c6 _ (by rw [clampN]; omega)) rfl ?_ hd (kk rfl H locs cells slots hR hS rfl rfl)
        simp only [List.map_cons, gEn, he]
    · subst h1
      obtain ⟨ix, q, st', rfl, hc, rfl⟩ := inv42 hs
      obtain ⟨n, hsh, b1, b2⟩ := mIx_spec hc
      by_cases ha : nSP ≤ q
      · refine va_zald C.1 C.2.1 hK hR.1 (q - nSP) 2 (cA := G.2.2.2.2 2) (n := n) (f := σ.1 q) ?_ rfl (ix_in b1 b2) hd (kk rfl H locs cells slots hR hS rfl rfl)
        rw [hR.at ha hsh, gE_i hsh (by decide)]
      · have h0 := hR.2.2.2.1 q (by omega)
        unfold gSp at h0
        rw [hsh] at h0
        exact h0.elim
  | aaload =>
    simp only [okI, Bool.and_eq_true, decide_eq_true_eq] at hok
    obtain ⟨h1, rfl⟩ := hok
    obtain ⟨o, a, b, z⟩ := i
    dsimp only at h1 hs
    subst h1
    obtain ⟨ix, q, st', rfl, hc, rfl⟩ := inv43 hs
    obtain ⟨n, hsh, b1, b2⟩ := mIx_spec hc
    by_cases ha : nSP ≤ q
    · have k9 := kk rfl H locs cells slots hR hS rfl rfl
      simp only [List.map_cons, gEn_vR] at k9
      refine va_aldq C.1 C.2.1 hK hR.1 (q - nSP) 3 (cA := G.2.2.2.2 3) (n := n) (f := fun j => (σ.2.1 q j).map (gAd G)) ?_ rfl (ix_in b1 b2) hd k9
      rw [hR.at ha hsh, gE_r hsh]
    · have h0 := hR.2.2.2.1 q (by omega)
      unfold gSp at h0
      rw [hsh] at h0
      exact h0.elim
  | iastore =>
    simp only [okI, Bool.and_eq_true, decide_eq_true_eq] at hok
    obtain ⟨h1, rfl⟩ := hok
    obtain ⟨o, a, b, z⟩ := i
    dsimp only at h1 hs
    subst h1
    obtain ⟨x, ix, q, st', rfl, ⟨ha, hc⟩, rfl⟩ := inv44 hs
    obtain ⟨n, hsh, b1, b2⟩ := mIx_spec hc
    have hat : va_at G.2.2.2.1 jCl (gAd G q, .inl (G.2.2.2.2 0, n, .inl (σ.1 q))) H := by
      have h9 := hR.1 _ _ (hR.at ha hsh)
      rw [gE_i hsh (by decide)] at h9
      exact h9
    refine W.iast C.1 C.2.1 hat ((hK.2 0 _ rfl).1 n (fun j => .int (σ.1 q j))) (fun q => by cases q) (by show ¬ (ix < 0 ∨ (arrV _ _ _).slots.size ≤ _); rw [arrV_size]; exact ix_in b1 b2) rfl rfl hd fun H1 e1 z1 oq => ?_
    exact kk rfl H1 _ cells slots (g_stI hR ha hsh (by decide) e1 z1 oq) (hS.put z1 oq (gAd_in ha)) rfl rfl
  | bastore =>
    simp only [okI, Bool.and_eq_true, Bool.or_eq_true, decide_eq_true_eq] at hok
    obtain ⟨h0, rfl⟩ := hok
    obtain ⟨o, a, b, z⟩ := i
    dsimp only at h0 hs
    rcases h0 with h1 | h1
    · subst h1
      obtain ⟨x, ix, q, st', rfl, ⟨ha, hc⟩, rfl⟩ := inv45 hs
      obtain ⟨n, hsh, b1, b2⟩ := mIx_spec hc
      have hat : va_at G.2.2.2.1 jCl (gAd G q, .inl (G.2.2.2.2 1, n, .inl (σ.1 q))) H := by
        have h9 := hR.1 _ _ (hR.at ha hsh)
        rw [gE_i hsh (by decide)] at h9
        exact h9
      refine W.bast C.1 C.2.1 hat ((hK.2 1 _ rfl).1 n (fun j => .int (σ.1 q j))) (fun q => by cases q) (by show ¬ (ix < 0 ∨ (arrV _ _ _).slots.size ≤ _); rw [arrV_size]; exact ix_in b1 b2) rfl rfl hd fun H1 e1 z1 oq => ?_
      exact kk rfl H1 _ cells slots (g_stI hR ha hsh (by decide) e1 z1 oq) (hS.put z1 oq (gAd_in ha)) rfl rfl
    · subst h1
      obtain ⟨x, ix, q, st', rfl, ⟨ha, hc, hx⟩, rfl⟩ := inv46 hs
      obtain ⟨n, hsh, b1, b2⟩ := mIx_spec hc
      have hat : va_at G.2.2.2.1 jCl (gAd G q, .inl (G.2.2.2.2 2, n, .inl (σ.1 q))) H := by
        have h9 := hR.1 _ _ (hR.at ha hsh)
        rw [gE_i hsh (by decide)] at h9
        exact h9
      have hnx : narrow .boolean (.int x) = .int x := by rcases mNar_spec hx with rfl | rfl <;> rfl
      refine W.zast C.1 C.2.1 hat ((hK.2 2 _ rfl).1 n (fun j => .int (σ.1 q j))) (fun q => by cases q) (by show ¬ (ix < 0 ∨ (arrV _ _ _).slots.size ≤ _); rw [arrV_size]; exact ix_in b1 b2) rfl rfl hd fun H1 e1 z1 oq => ?_
      rw [hnx] at e1
      exact kk rfl H1 _ cells slots (g_stI hR ha hsh (by decide) e1 z1 oq) (hS.put z1 oq (gAd_in ha)) rfl rfl
  | aastore =>
    simp only [okI, Bool.and_eq_true, decide_eq_true_eq] at hok
    obtain ⟨h1, rfl⟩ := hok
    obtain ⟨o, a, b, z⟩ := i
    dsimp only at h1 hs
    subst h1
    rcases inv47 hs with ⟨v, ix, q, st', rfl, ⟨ha, hc, hv, ho⟩, rfl⟩ | ⟨ix, q, st', rfl, ⟨ha, hc⟩, rfl⟩
    · obtain ⟨n, hsh, b1, b2⟩ := mIx_spec hc
      obtain ⟨nv, hshv, -, -⟩ := mOb_spec ho
      have hat : va_at G.2.2.2.1 jCl (gAd G q, .inl (G.2.2.2.2 3, n, .inr (.inr (.inr (.inr (fun j => (σ.2.1 q j).map (gAd G))))))) H := by
        have h9 := hR.1 _ _ (hR.at ha hsh)
        rw [gE_r hsh] at h9
        exact h9
      have hin := ix_in (n := n) b1 b2
      have hlt : ix.toNatClampNeg < n := Nat.not_le.mp fun q => hin (Or.inr q)
      have h0 : ¬ ix < 0 := fun q => hin (Or.inl q)
      have hvat := hR.1 _ _ (hR.at hv hshv)
      rw [gE_o hshv] at hvat
      obtain ⟨r', hr', cellV, g1, g2, g3, -⟩ := hvat
      have hcl : jCl[11]? = some ("SchoolBoard$Clause", jT11, 8) := rfl
      have hcls := (hK.1 11 _ hcl).2
      obtain ⟨kA, comp, k1, k2, k3, -⟩ := (hK.2 3 _ rfl).2
      have hcomp : comp = G.2.2.2.1.1 11 := Option.some.inj (k3.symm.trans hcls.1)
      subst hcomp
      obtain ⟨kC, hkC, -⟩ := hcls.2
      refine W.aast C.1 C.2.1 hat (fun q h => by cases h) (fun h => by cases h) k1 k2 rfl hkC ⟨h0, by show _ < (arrV _ _ _).slots.size; rw [arrV_size]; exact hlt⟩ g1 (fun q h => by rw [g3] at h; cases h) (by rw [g2]; exact hkC) (by rw [g2]; exact va_assign hcls) rfl rfl hd fun H1 e1 z1 oq => ?_
      exact kk rfl H1 _ cells slots (g_stR hR ha hsh e1 z1 oq) (hS.put z1 oq (gAd_in ha)) rfl rfl
    · obtain ⟨n, hsh, b1, b2⟩ := mIx_spec hc
      have hat : va_at G.2.2.2.1 jCl (gAd G q, .inl (G.2.2.2.2 3, n, .inr (.inr (.inr (.inr (fun j => (σ.2.1 q j).map (gAd G))))))) H := by
        have h9 := hR.1 _ _ (hR.at ha hsh)
        rw [gE_r hsh] at h9
        exact h9
      refine va_WaastN (C := "SchoolBoard$Clause") C.1 C.2.1 hat ((hK.2 3 _ rfl).1 n (fun j => va_rf ((σ.2.1 q j).map (gAd G)))) (fun h => by cases h) (by show ¬ (ix < 0 ∨ (arrV _ _ _).slots.size ≤ _); rw [arrV_size]; exact ix_in b1 b2) rfl rfl hd fun H1 e1 z1 oq => ?_
      exact kk rfl H1 _ cells slots (g_stR hR ha hsh e1 z1 oq) (hS.put z1 oq (gAd_in ha)) rfl rfl
  | arraylength =>
    simp only [okI, Bool.and_eq_true, decide_eq_true_eq] at hok
    obtain ⟨h1, rfl⟩ := hok
    obtain ⟨o, a, b, z⟩ := i
    dsimp only at h1 hs
    subst h1
    obtain ⟨q, kd, n, st', rfl, hsh, hkd, rfl⟩ := inv48 hs
    have e9 : Int32.ofNat n = oI n := rfl
    by_cases ha : nSP ≤ q
    · by_cases h3 : kd = 3
      · subst h3
        refine va_alen C.1 C.2.1 hK hR.1 (q - nSP) 3 (cA := G.2.2.2.2 3) (x := (n, .inr (.inr (.inr (.inr (fun j => (σ.2.1 q j).map (gAd G))))))) ?_ (ty := .object "SchoolBoard$Clause") rfl e9 hd (kk rfl H locs cells slots hR hS rfl rfl)
        rw [hR.at ha hsh, gE_r hsh]
      · refine va_alen C.1 C.2.1 hK hR.1 (q - nSP) kd (cA := G.2.2.2.2 kd) (x := (n, .inl (σ.1 q))) ?_ (ty := match kd with | 0 => .int | 1 => .byte | _ => .boolean) ?_ e9 hd (kk rfl H locs cells slots hR hS rfl rfl)
        · rw [hR.at ha hsh, gE_i hsh (by omega)]
        · rcases (show kd = 0 ∨ kd = 1 ∨ kd = 2 by omega) with rfl | rfl | rfl <;> rfl
    · have h0 := hR.2.2.2.1 q (by omega)
      unfold gSp at h0
      rw [hsh] at h0
      have he : gAd G q = G.2.1 q := if_pos (by omega)
      rcases (show kd = 0 ∨ kd = 1 ∨ kd = 2 ∨ kd = 3 by omega) with rfl | rfl | rfl | rfl
      · obtain ⟨cell, c1, c2, c3, c4, c5, c6, c7⟩ := h0
        refine W.alen C.1 C.2.1 c1 c2 (c5.trans e9) rfl ?_ hd (kk rfl H locs cells slots hR hS rfl rfl)
        simp only [List.map_cons, gEn, he]
      · obtain ⟨cell, c1, c2, c3, c4, c5, c6, c7⟩ := h0
        refine W.alen C.1 C.2.1 c1 c2 (c5.trans e9) rfl ?_ hd (kk rfl H locs cells slots hR hS rfl rfl)
        simp only [List.map_cons, gEn, he]
      · exact h0.elim
      · exact h0.elim
  | getfield cp =>
    simp only [okI, okF, Bool.and_eq_true, Bool.or_eq_true, decide_eq_true_eq, Bool.not_eq_true'] at hok
    obtain ⟨⟨⟨h2, h2b⟩, h3⟩, rfl⟩ := hok
    obtain ⟨o, a, b, z⟩ := i
    dsimp only at h2 h2b h3 hs
    have hlink := jFL_ok _ (List.mem_of_getElem? h2)
    have main : ∀ (q : Nat) (st' : List Value), mOb σ q b a = true → st = .ref q :: st' → (W p l e R s m args below meth c H locs cells slots Q (F0 m (pc + 3) lsR (gSl G σ q b a :: st'.map (gEn G)))) → W p l e R s m args below meth c H locs cells slots Q (F0 m pc lsR (st.map (gEn G))) := by
      intro q st' hc hst kw
      subst hst
      obtain ⟨n, hsh, b1, b2⟩ := mOb_spec hc
      by_cases ha : nSP ≤ q
      · have hci := lt15 hR ha hsh
        obtain ⟨Cn, T, N, hcl, hrow⟩ := jCl_ok b hci
        have hin := C_in hrow
        obtain ⟨-, -, -, -, -, hN, hT, -⟩ := hrow
        subst hT
        refine va_get (ref := (jTf b a).1) C.1 C.2.1 (C_ts C) hin (C_own C) hK hR.1 (q - nSP) (fs := (List.range n).map (gSl G σ q b)) ?_ hcl a (by omega) (word_of C hlink rfl) (fun x h => h) (v := gSl G σ q b a) ?_ hd kw
        · rw [hR.at ha hsh, gE_o hsh]
        · simp [b1]
      · have h0 := hR.2.2.2.1 q (by omega)
        unfold gSp at h0
        rw [hsh] at h0
        have he : gAd G q = G.2.1 q := if_pos (by omega)
        have hb : b = 13 := by
          split at h0
          · rename_i q1; cases q1
          · rename_i q1; cases q1
          · rename_i q1; have := congrArg Prod.fst (Option.some.inj q1); dsimp only at this; omega
          · exact h0.elim
        subst hb
        have ha2 : a < 2 := b2.resolve_left ha
        obtain ⟨-, d1, d2⟩ := h0
        rcases (show a = 0 ∨ a = 1 by omega) with rfl | rfl
        · obtain ⟨cf, kf, fi, f, cell, g1, g2, g3, g4, g5, g6⟩ := d1
          refine W.getf C.1 C.2.1 (C_own C) (word_of C hlink rfl) (show s.fieldFound? "java/lang/String" "value" "[B" = some (cf, kf, fi, f) from g1) g2 g3 g4 (v := va_rf ((σ.2.1 q 0).map (gAd G))) g5 rfl ?_ hd kw
          simp only [List.map_cons, gEn, he]
        · obtain ⟨cf, kf, fi, f, cell, g1, g2, g3, g4, g5, g6⟩ := d2
          refine W.getf C.1 C.2.1 (C_own C) (word_of C hlink rfl) (show s.fieldFound? "java/lang/String" "coder" "B" = some (cf, kf, fi, f) from g1) g2 g3 g4 (v := .int (σ.1 q 1)) g5 rfl ?_ hd kw
          simp only [List.map_cons, gEn, he]
    rcases h3 with ⟨h1, h4⟩ | ⟨h1, h4⟩
    · subst h1
      obtain ⟨q, st', hst, hc, rfl⟩ := inv50 hs
      refine main q st' hc hst ?_
      have k9 := kk rfl H locs cells slots hR hS rfl rfl
      rw [show gSl G σ q b a = .int (σ.1 q a) from if_neg (by rw [h4]; decide)]
      exact k9
    · subst h1
      obtain ⟨q, st', hst, hc, rfl⟩ := inv51 hs
      refine main q st' hc hst ?_
      have k9 := kk rfl H locs cells slots hR hS rfl rfl
      simp only [List.map_cons, gEn_vR] at k9
      rw [show gSl G σ q b a = va_rf ((σ.2.1 q a).map (gAd G)) from if_pos h4]
      exact k9
  | putfield cp =>
    simp only [okI, okF, okP, Bool.and_eq_true, Bool.or_eq_true, decide_eq_true_eq, Bool.not_eq_true'] at hok
    obtain ⟨⟨⟨⟨h2, h2b⟩, hp⟩, h3⟩, rfl⟩ := hok
    obtain ⟨o, a, b, z⟩ := i
    dsimp only at h2 h2b h3 hs hp
    have hlink := jFL_ok _ (List.mem_of_getElem? h2)
    have obat : ∀ (q n : Nat), nSP ≤ q → σ.2.2[q]? = some (b + 4, n) → va_at G.2.2.2.1 jCl (gAd G q, .inr (b, (List.range n).map (gSl G σ q b))) H := by
      intro q n ha hsh
      have h9 := hR.1 _ _ (hR.at ha hsh)
      rw [gE_o hsh] at h9
      exact h9
    have ints : ∀ (x : Int32) (q : Nat) (st' : List Value), nSP ≤ q → mOb σ q b a = true → st = .int x :: .ref q :: st' → isRefT (jFt b a) = false → narrow (jFt b a) (.int x) = .int x → fits (jFt b a) (.int x) = true → r = (ls, st', wI σ q a x) → W p l e R s m args below meth c H locs cells slots Q (F0 m pc lsR (st.map (gEn G))) := by
      intro x q st' ha hc hst hnr hna hfi hr
      subst hst hr
      obtain ⟨n, hsh, b1, -⟩ := mOb_spec hc
      refine gv_put C rfl (lt15 hR ha hsh) h2b (obat q n ha hsh) hlink hp hna hfi (by simpa using b1) hd (fun H1 lo hat1 z1 oq => ?_)
      refine kk rfl H1 _ cells slots ?_ (hS.put z1 oq (gAd_in ha)) rfl rfl
      refine hR.wI ha (hR.1.set gW_D (hR.at ha hsh) ?_ oq) z1 oq
      rw [gE_o (σ := wI σ q a x) (a := q) hsh, range_set (gSl G σ q b) (gSl G (wI σ q a x) q b) n a (.int x)]
      · exact hat1
      · simp [gSl, hnr, wI, u2]
      · intro j hj
        simp [gSl, wI, u2, hj]
    rcases h3 with (⟨h1, h4⟩ | ⟨h1, h4⟩) | ⟨h1, h4⟩
    · subst h1
      obtain ⟨x, q, st', hst, ⟨ha, hc⟩, hr⟩ := inv52 hs
      exact ints x q st' ha hc hst (by rw [h4]; rfl) (by rw [h4]; rfl) (by rw [h4]; rfl) hr
    · subst h1
      obtain ⟨x, q, st', hst, ⟨ha, hc, hx⟩, hr⟩ := inv49 hs
      rcases h4 with h4 | h4 <;> rcases mNar_spec hx with rfl | rfl <;> exact ints _ q st' ha hc hst (by rw [h4]; rfl) (by rw [h4]; rfl) (by rw [h4]; rfl) hr
    · subst h1
      obtain ⟨v, q, st', hst, ⟨ha, hc⟩, hr⟩ := inv53 hs
      subst hst hr
      obtain ⟨n, hsh, b1, -⟩ := mOb_spec hc
      have hv : ∀ (t : FieldType), isRefT t = true → narrow t (va_rf (v.map (gAd G))) = va_rf (v.map (gAd G)) ∧ fits t (va_rf (v.map (gAd G))) = true := by
        intro t ht
        cases v with
        | none => cases t <;> first | (cases ht; done) | exact ⟨rfl, rfl⟩
        | some v => cases t <;> first | (cases ht; done) | exact ⟨rfl, rfl⟩
      rw [List.map_cons, gEn_vR]
      refine gv_put C rfl (lt15 hR ha hsh) h2b (obat q n ha hsh) hlink hp (hv _ h4).1 (hv _ h4).2 (by simpa using b1) hd (fun H1 lo hat1 z1 oq => ?_)
      refine kk rfl H1 _ cells slots ?_ (hS.put z1 oq (gAd_in ha)) rfl rfl
      refine hR.wR ha (hR.1.set gW_D (hR.at ha hsh) ?_ oq) z1 oq
      rw [gE_o (σ := wR σ q a v) (a := q) hsh, range_set (gSl G σ q b) (gSl G (wR σ q a v) q b) n a (va_rf (v.map (gAd G)))]
      · exact hat1
      · simp [gSl, h4, wR, u2]
      · intro j hj
        simp [gSl, wR, u2, hj]
  | getstatic cp =>
    have stat : ∀ (Cn n d : String) (v : Value), va_Z Cn n d v (gA G) s H → Cond.fieldLink (jOw (jMo k)) cp Cn n d ∈ jT → W p l e R s m args below meth c H locs cells slots Q (F0 m (pc + 3) lsR (v :: st.map (gEn G))) → decode (jMb k) pc = .ok (.getstatic cp, 3) → W p l e R s m args below meth c H locs cells slots Q (F0 m pc lsR (st.map (gEn G))) := by
      intro Cn n d v hz hl kw hd
      obtain ⟨cf, kf, fi, f, a, cell, h1, h2, h3, h4, h5, h6, h7, h8⟩ := hz
      exact W.gets C.1 C.2.1 (C_own C) (word_of C hl rfl) h1 h2 h3 h4 h5 (fun e => by rw [e] at h6; cases h6) h7 rfl hd kw
    obtain ⟨z1, z2, z3, z4, z5⟩ := hR.2.2.2.2
    simp only [okI, Bool.and_eq_true, Bool.or_eq_true, decide_eq_true_eq] at hok
    obtain ⟨h0, rfl⟩ := hok
    obtain ⟨o, a, b, z⟩ := i
    dsimp only at h0 hs
    rcases h0 with (⟨⟨h1, h2⟩, h3⟩ | ⟨h1, (⟨h2, h3⟩ | ⟨h2, h3⟩) | ⟨h2, h3⟩⟩) | ⟨h1, h2⟩
    · subst h1 h3
      cases hs
      exact stat _ _ _ _ z1 (jGS_ok _ (List.mem_of_getElem? h2)) (kk rfl H locs cells slots hR hS rfl rfl) hd
    · subst h1 h3
      cases hs
      exact stat _ _ _ _ z2 (jGS_ok _ (List.mem_of_getElem? h2)) (kk rfl H locs cells slots hR hS rfl rfl) hd
    · subst h1 h3
      cases hs
      exact stat _ _ _ _ z3 (jGS_ok _ (List.mem_of_getElem? h2)) (kk rfl H locs cells slots hR hS rfl rfl) hd
    · subst h1 h3
      cases hs
      exact stat _ _ _ _ z4 (jGS_ok _ (List.mem_of_getElem? h2)) (kk rfl H locs cells slots hR hS rfl rfl) hd
    · subst h1
      cases hs
      exact stat _ _ _ _ z5 (jGS_ok _ (List.mem_of_getElem? h2)) (kk rfl H locs cells slots hR hS rfl rfl) hd
  | ldc cp =>
    simp only [okI, Bool.and_eq_true, Bool.or_eq_true, decide_eq_true_eq] at hok
    obtain ⟨h0, rfl⟩ := hok
    rcases h0 with ⟨h1, -⟩ | ⟨h1, h2⟩
    · omega
    · obtain ⟨o, a, b, z⟩ := i
      dsimp only at h1 h2 hs
      subst h1
      have hm := List.mem_of_getElem? h2
      obtain ⟨tx, hZ⟩ := (C_K C).2.2.1 _ hm
      have hlt := jSr_lt _ hm
      dsimp only at hZ hlt
      cases hs
      have k9 := kk rfl H locs cells slots hR hS rfl rfl
      simp only [List.map_cons, gEn, gAd, if_pos hlt] at k9
      exact va_ldcS C.1 C.2.1 (C_own C) hZ hd k9
  | ldc_w cp =>
    simp only [okI, Bool.and_eq_true, Bool.or_eq_true, decide_eq_true_eq] at hok
    obtain ⟨h0, rfl⟩ := hok
    rcases h0 with ⟨h1, -⟩ | ⟨h1, h2⟩
    · omega
    · obtain ⟨o, a, b, z⟩ := i
      dsimp only at h1 h2 hs
      subst h1
      have hm := List.mem_of_getElem? h2
      obtain ⟨tx, hZ⟩ := (C_K C).2.2.1 _ hm
      have hlt := jSr_lt _ hm
      dsimp only at hZ hlt
      cases hs
      have k9 := kk rfl H locs cells slots hR hS rfl rfl
      simp only [List.map_cons, gEn, gAd, if_pos hlt] at k9
      exact gv_ldcwS C.1 C.2.1 (C_own C) hZ hd k9
  | new cp =>
    simp only [okI, Bool.and_eq_true, decide_eq_true_eq] at hok
    obtain ⟨⟨⟨h1, h2⟩, h3⟩, rfl⟩ := hok
    obtain ⟨o, a, b, z⟩ := i
    dsimp only at h1 h2 h3 hs
    subst h1
    cases hs
    have hlink := jKL_ok _ (List.mem_of_getElem? h2)
    obtain ⟨Cn, T, N, hcl, hrow⟩ := jCl_ok b h3
    have hin := C_in hrow
    obtain ⟨-, hty, -, hins, hini, hN, -, hCn⟩ := hrow
    have hKn := hK.1 b _ hcl
    dsimp only at hrc hrs kk
    rw [← hN] at hrc hrs kk
    rw [sl_new] at hrs
    have hl1 : (mNew σ (b + 4, N)).2.2.length = σ.2.2.length + 1 := by simp [mNew]
    rw [hl1] at hrc
    refine W.newcK C.1 C.2.1 (C_own C) (word_of C (by have h9 := hlink; unfold KLok at h9; dsimp only at h9; rw [← hCn] at h9; exact h9) rfl) (word_of C hins rfl) (word_of C hini rfl) rfl hd (by omega) (by dsimp only at hrs; omega) hKn.2.1 rfl fun H1 kC hkC e1 z1 o1 => ?_
    have hR1 : gR G (mNew σ (b + 4, N)) s H1 := by
      refine hR.new z1 o1 ?_
      rw [gE_o (new_at σ (b + 4, N)), gv_sz hR]
      refine ⟨_, hcl, (u_born (jFt b) (C_ts C) hin hKn hkC e1 hty).to (fun j hj => ?_)⟩
      have hok := jFt_at h3 (hN ▸ hj)
      simp only [vp_V, List.getD_eq_getElem?_getD, List.getElem?_map, List.getElem?_range hj, Option.map_some, Option.getD_some, gSl, new_I, new_R]
      cases hf : jFt b j <;> (rw [hf] at hok; first | (cases hok; done) | rfl)
    have k9 := kk rfl H1 locs (cells + 1) (slots + N) hR1 (S_push hS z1 o1) (by rw [hl1]; omega) (by rw [sl_new]; dsimp only; omega)
    simp only [List.map_cons, gEn, gv_sz hR] at k9
    exact k9
  | newarray t =>
    simp only [okI, Bool.and_eq_true, Bool.or_eq_true, decide_eq_true_eq] at hok
    obtain ⟨⟨h1, h0⟩, rfl⟩ := hok
    obtain ⟨o, a, b, z⟩ := i
    dsimp only at h1 h0 hs
    subst h1
    obtain ⟨n, st', rfl, ⟨n1, n2⟩, rfl⟩ := inv59 hs
    dsimp only at hrc hrs kk
    rw [sl_new] at hrs
    have hl1 : (mNew σ (a, n.toInt.toNat)).2.2.length = σ.2.2.length + 1 := by simp [mNew]
    rw [hl1] at hrc
    dsimp only at hrs
    have main : ∀ (kd : Nat) (ty : FieldType), a = kd → kd < 3 → newarray.typeOf t = ty → Cond.arrayClass ty ∈ jT → componentBytes ty ≤ 4 → defaultValue ty = .int 0 → s.vm.findClass ("[" ++ ty.toString) = some (G.2.2.2.2 kd) → W p l e R s m args below meth c H locs cells slots Q (F0 m pc lsR ((.int n :: st').map (gEn G))) := by
      intro kd ty hak hk3 hty hw hcb hdf hfc
      subst hak
      refine va_newaK C.1 C.2.1 (atype := t) (by rw [hty]; exact word_of C hw rfl) rfl hd rfl (nneg n1) rfl (by rw [hty]; calc n.toNatClampNeg * componentBytes ty ≤ n.toNatClampNeg * 4 := Nat.mul_le_mul_left _ hcb
          _ ≤ 536870912 := by rw [clampN]; omega) (by omega) (by rw [clampN]; omega) rfl fun H1 cA e1 z1 o1 hAr hNm => ?_
      rw [hty, hdf] at e1
      rw [hty] at hNm
      have hcA : cA = G.2.2.2.2 a := Option.some.inj (hNm.symm.trans hfc)
      subst hcA
      have hR1 : gR G (mNew σ (a, n.toInt.toNat)) s H1 := by
        refine hR.new z1 o1 ?_
        rw [gE_i (new_at σ (a, n.toInt.toNat)) hk3, gv_sz hR, new_I]
        exact e1
      have k9 := kk rfl H1 locs (cells + 1) (slots + n.toInt.toNat) hR1 (S_push hS z1 o1) (by rw [hl1]; omega) (by rw [sl_new]; dsimp only; omega)
      simp only [List.map_cons, gEn, gv_sz hR] at k9
      exact k9
    rcases h0 with (⟨rfl, h3⟩ | ⟨rfl, h3⟩) | ⟨rfl, h3⟩
    · exact main 0 .int h3 (by decide) rfl ja_int (by decide) rfl (hK.2 0 _ rfl).2
    · exact main 1 .byte h3 (by decide) rfl ja_byte (by decide) rfl (hK.2 1 _ rfl).2
    · exact main 2 .boolean h3 (by decide) rfl ja_boolean (by decide) rfl (hK.2 2 _ rfl).2
  | anewarray cp =>
    simp only [okI, Bool.and_eq_true, decide_eq_true_eq] at hok
    obtain ⟨⟨⟨h1, h0⟩, h2⟩, rfl⟩ := hok
    obtain ⟨o, a, b, z⟩ := i
    dsimp only at h1 h0 h2 hs
    subst h1 h0
    obtain ⟨n, st', rfl, ⟨n1, n2⟩, rfl⟩ := inv59 hs
    dsimp only at hrc hrs kk
    rw [sl_new] at hrs
    have hl1 : (mNew σ (3, n.toInt.toNat)).2.2.length = σ.2.2.length + 1 := by simp [mNew]
    rw [hl1] at hrc
    dsimp only at hrs
    have hlink : Cond.classLink (jOw (jMo k)) cp "SchoolBoard$Clause" ∈ jT := jOL_ok _ (List.mem_of_getElem? h2)
    refine W.anew C.1 C.2.1 (C_own C) (word_of C hlink rfl) (va_AO.use (C_K C).2.2.2.1) rfl hd rfl (nneg n1) (by rw [clampN]; omega) (by omega) (by rw [clampN]; omega) fun cA kA comp f1 f2 f3 f4 => ?_
    obtain ⟨kA', comp', k1, k2, k3, k4⟩ := (hK.2 3 _ rfl).2
    have hcA : cA = G.2.2.2.2 3 := Option.some.inj (f1.symm.trans k4)
    subst hcA
    generalize hH1 : H.push ({ cls := G.2.2.2.2 3, slots := Array.replicate n.toNatClampNeg .null, vm := .none } : Cell) = H1
    have z1 : H1.size = H.size + 1 := by rw [← hH1, Array.size_push]
    have e1 : H1[H.size]? = some (arrV (G.2.2.2.2 3) n.toNatClampNeg (fun _ => .null)) := by rw [← hH1, Array.getElem?_push_size, ← arrV_new]
    have o1 : ∀ q : Nat, q < H.size → H1[q]? = H[q]? := fun q hq => by rw [← hH1, Array.getElem?_push, if_neg (Nat.ne_of_lt hq)]
    have hR1 : gR G (mNew σ (3, n.toInt.toNat)) s H1 := by
      refine hR.new z1 o1 ?_
      rw [gE_r (new_at σ (3, n.toInt.toNat)), gv_sz hR, new_R]
      show H1[H.size]? = some (vp_cell _ _)
      rw [vp_cell_q]
      exact e1
    have k9 := kk rfl H1 locs (cells + 1) (slots + n.toInt.toNat) hR1 (S_push hS z1 o1) (by rw [hl1]; omega) (by rw [sl_new]; dsimp only; omega)
    simp only [List.map_cons, gEn, gv_sz hR] at k9
    exact k9
  | if_icmp cd off =>
    cases cd <;> (simp only [okI, okJ, Bool.and_eq_true, decide_eq_true_eq] at hok; omega)
  | ifCond cd off =>
    cases cd <;> (simp only [okI, okJ, Bool.and_eq_true, decide_eq_true_eq] at hok; omega)
  | if_acmp cd off =>
    cases cd <;> first | (cases hok; done) | (simp only [okI, okJ, Bool.and_eq_true, decide_eq_true_eq] at hok; omega)
  | _ => first | (cases hok; done) | (simp only [okI, okJ, okF, okC, Bool.and_eq_true, Bool.or_eq_true, decide_eq_true_eq] at hok; omega)
end
