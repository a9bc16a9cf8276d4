/-! the small machine never takes a cell away -/
def gr (σ σ' : mM) : Prop := σ.2.2.length ≤ σ'.2.2.length ∧ sl σ ≤ sl σ'
theorem gr.rf (σ : mM) : gr σ σ := ⟨Nat.le_refl _, Nat.le_refl _⟩
theorem gr.tr {a b c : mM} (h : gr a b) (h2 : gr b c) : gr a c := ⟨Nat.le_trans h.1 h2.1, Nat.le_trans h.2 h2.2⟩
theorem grNew (σ : mM) (sh : Nat × Nat) : gr σ (mNew σ sh) := ⟨by simp [mNew], by rw [sl_new]; omega⟩
theorem gr_step {i : mIns} {ls st : List Value} {σ : mM} {r : List Value × List Value × mM} (h : mstep i ls st σ = some r) : gr σ r.2.2 := by
  unfold mstep at h
  split at h
  · unfold mst1 at h
    split at h <;> (try split at h) <;> (try split at h) <;> first | (cases h; done) | (cases h; exact gr.rf σ)
  · split at h
    · unfold mst2 at h
      split at h <;> (try split at h) <;> first | (cases h; done) | (cases h; exact gr.rf σ)
    · unfold mst3 at h
      split at h <;> (try split at h) <;> (try split at h) <;> first | (cases h; done) | (cases h; exact gr.rf σ) | (cases h; exact grNew _ _)
theorem gr_nat {i : mIns} {st st' : List Value} {σ σ' : mM} (h : mnat i st σ = some (st', σ')) : gr σ σ' := by
  unfold mnat at h
  split at h
  · split at h
    · split at h
      · cases h; exact gr.rf σ
      · cases h
    · cases h
  · split at h
    · split at h
      · cases h; exact grNew σ (1, _)
      · cases h
    · cases h
  · split at h
    · split at h
      · cases h; exact gr.rf σ
      · cases h
    · cases h
  · split at h
    · cases h; exact gr.rf σ
    · cases h
  · cases h
theorem gr_ret {i : mIns} {st : List Value} {σ σ' : mM} {v : Option Value} (h : mret i st σ = some (v, σ')) : σ' = σ := by
  unfold mret at h
  split at h <;> (try split at h) <;> first | (cases h; done) | (cases h; rfl)
theorem gr_ex : ∀ (n d : Nat) (is : List mIns) (ls st : List Value) (σ : mM) (v : Option Value) (σ' : mM), ex n d is ls st σ = some (v, σ') → gr σ σ' := by
  intro n
  induction n with
  | zero => intro d is ls st σ v σ' h; simp [ex_zero] at h
  | succ n ih =>
    intro d is ls st σ v σ' h
    cases is with
    | nil => simp [ex_nil] at h
    | cons i is =>
      rw [ex_cons] at h
      split at h
      · split at h
        · rename_i r hr
          exact (gr_step hr).tr (ih _ _ _ _ _ _ _ h)
        · cases h
      · split at h
        · split at h
          · exact ih _ _ _ _ _ _ _ h
          · exact ih _ _ _ _ _ _ _ h
          · cases h
        · split at h
          · rw [gr_ret h]; exact gr.rf σ
          · cases d with
            | zero => cases h
            | succ d' =>
              dsimp only at h
              split at h
              · split at h
                · split at h
                  · rename_i v1 σ1 h1
                    split at h
                    · exact (ih _ _ _ _ _ _ _ h1).tr (ih _ _ _ _ _ _ _ h)
                    · cases h
                  · cases h
                · cases h
              · split at h
                · rename_i st1 σ1 h1
                  exact (gr_nat h1).tr (ih _ _ _ _ _ _ _ h)
                · cases h
/-! a method's start and end -/
def gPc (G : mG) (σ : mM) (as : List Value) : Array Value → State → Prop := fun v U => v = (as.map (gEn G)).toArray ∧ gR G σ U U.heap ∧ gK G U
def gQc (G : mG) (v0 : Option Value) (σ' : mM) : Array Value → State → Outcome → State → Prop := fun _ st o t => o = .returned (v0.map (gEn G)) ∧ gR G σ' t t.heap ∧ gK G t ∧ ∀ q : Nat, q < G.1 → t.heap[q]? = st.heap[q]?
theorem gPc_blind (G : mG) (σ : mM) (as : List Value) : FrameBlind (gPc G σ as) := by
  intro a U g mk h
  obtain ⟨h1, h2, h3⟩ := h
  exact ⟨h1, gR.moved (u := U) (U := U.calling g mk a) (Vm.Alike.refl U.vm) h2, gK.same (u := U) (U := U.calling g mk a) rfl h3⟩
section
variable {p : Program} {l : Launch} {e : Env} {R : Room} {s : State} {m : MethodId} {args : Array Value} {below : List Frame} {meth : Method} {c : Code} {H : Heap} {locs : List Loc} {cells slots : Nat} {Q : State → Prop} {G : mG} {k : Nat}
theorem q_end {σ : mM} {v : Option Value} (C : gCx G k p s m args meth c) (hR : gR G σ s H) (hS : va_S (gA G) s.heap H locs) (hG : G.1 ≤ s.heap.size) : ∀ t : State, t.heap = H → s.WarmedH t.vm → gQc G v σ args s (.returned (v.map (gEn G))) t := by
  intro t ht hW
  refine ⟨rfl, by rw [ht]; exact hR.moved hW.alike, (C_K C).warm hW, fun q hq => ?_⟩
  rw [ht]
  exact hS.2.1 q (by omega) (fun h => by have h : G.1 ≤ q := h; omega)
set_option maxHeartbeats 4000000 in
theorem simR {pc len : Nat} {i : mIns} {j : Instr} {st : List Value} {σ σ' : mM} {v : Option Value} {lsR : Array Slot} (hd : decode (jMb k) pc = .ok (j, len)) (hok : okI k pc i j len = true) (h80 : 80 ≤ i.1) (h90 : i.1 < 90) (hs : mret i st σ = some (v, σ')) (C : gCx G k p s m args meth c) (hR : gR G σ s H) (hS : va_S (gA G) s.heap H locs) (hG : G.1 ≤ s.heap.size) :
    W p l e R s m args below meth c H locs cells slots (MQ below (gQc G v σ') args s cells slots (gA G)) (F0 m pc lsR (st.map (gEn G))) := by
  have hlk := C.2.2.2.2.1
  have hrt := C.2.2.2.1
  have hf : ∀ q ∈ locs, gA G q.base := hS.2.2
  have ints : ∀ (x : Int32) (ty : FieldType), st = [.int x] → v = some (.int x) → σ' = σ → jMr k = some ty → narrow ty (.int x) = .int x → decode (jMb k) pc = .ok (.ireturn, 1) → W p l e R s m args below meth c H locs cells slots (MQ below (gQc G v σ') args s cells slots (gA G)) (F0 m pc lsR (st.map (gEn G))) := by
    intro x ty h1 h2 h3 h4 h5 hd
    subst h1 h2 h3
    exact W.zret C.1 C.2.1 (hrt.trans h4) h5 (q_end (v := some (.int x)) C hR hS hG) hf hd hlk
  cases j with
  | ireturn =>
    simp only [okI, Bool.and_eq_true, Bool.or_eq_true, decide_eq_true_eq] at hok
    obtain ⟨h0, rfl⟩ := hok
    obtain ⟨o, a, b, z⟩ := i
    dsimp only at h0 hs
    rcases h0 with ((⟨h1, h2⟩ | ⟨h1, h2⟩) | ⟨h1, h2⟩) | ⟨h1, h2⟩
    · subst h1
      rcases st with _ | ⟨w0, _ | ⟨w1, st⟩⟩
      · cases hs
      · cases w0 <;> first | (cases hs; done) | (cases hs; exact ints _ .int rfl rfl rfl h2 rfl hd)
      · cases w0 <;> cases hs
    · subst h1
      rcases st with _ | ⟨w0, _ | ⟨w1, st⟩⟩
      · cases hs
      · cases w0 with
        | int x =>
          have hs : (if mNar 1 x = true then some (some (Value.int x), σ) else none) = some (v, σ') := hs
          split at hs
          · rename_i hx
            cases hs
            exact ints x .boolean rfl rfl rfl h2 (by rcases mNar_spec hx with rfl | rfl <;> rfl) hd
          · cases hs
        | _ => cases hs
      · cases w0 <;> cases hs
    · subst h1
      rcases st with _ | ⟨w0, _ | ⟨w1, st⟩⟩
      · cases hs
      · cases w0 with
        | int x =>
          have hs : (if x.toInt8.toInt32 = x then some (some (Value.int x), σ) else none) = some (v, σ') := hs
          split at hs
          · rename_i hx
            cases hs
            exact ints x .byte rfl rfl rfl h2 (by show Value.int x.toInt8.toInt32 = _; rw [hx]) hd
          · cases hs
        | _ => cases hs
      · cases w0 <;> cases hs
    · subst h1
      rcases st with _ | ⟨w0, _ | ⟨w1, st⟩⟩
      · cases hs
      · cases w0 with
        | int x =>
          have hs : (if (x.toUInt32 % 65536).toInt32 = x then some (some (Value.int x), σ) else none) = some (v, σ') := hs
          split at hs
          · rename_i hx
            cases hs
            exact ints x .char rfl rfl rfl h2 (by have h9 := pk_nc x; rw [hx] at h9; exact h9) hd
          · cases hs
        | _ => cases hs
      · cases w0 <;> cases hs
  | lreturn =>
    simp only [okI, Bool.and_eq_true, decide_eq_true_eq] at hok
    obtain ⟨⟨h1, h2⟩, rfl⟩ := hok
    obtain ⟨o, a, b, z⟩ := i
    dsimp only at h1 hs
    subst h1
    rcases st with _ | ⟨w0, _ | ⟨w1, st⟩⟩
    · cases hs
    · cases w0 with
      | long x =>
        cases hs
        exact W.lret C.1 C.2.1 (hrt.trans h2) (q_end (v := some (.long x)) C hR hS hG) hf hd hlk
      | _ => cases hs
    · cases w0 <;> cases hs
  | areturn =>
    simp only [okI, Bool.and_eq_true, decide_eq_true_eq] at hok
    obtain ⟨⟨h1, h2⟩, rfl⟩ := hok
    have h3 : ∃ rt, jMr k = some rt ∧ ((∃ n, rt = .object n) ∨ ∃ t, rt = .array t) := by
      cases hk : jMr k with
      | none => rw [hk] at h2; cases h2
      | some t =>
        rw [hk] at h2
        cases t <;> first | (cases h2; done) | exact ⟨_, rfl, Or.inl ⟨_, rfl⟩⟩ | exact ⟨_, rfl, Or.inr ⟨_, rfl⟩⟩
    obtain ⟨rt, h4, h5⟩ := h3
    obtain ⟨o, a, b, z⟩ := i
    dsimp only at h1 hs
    subst h1
    rcases st with _ | ⟨w0, _ | ⟨w1, st⟩⟩
    · cases hs
    · cases w0 with
      | ref x =>
        cases hs
        exact W.aret C.1 C.2.1 (hrt.trans h4) h5 (Or.inr ⟨_, rfl⟩) (q_end (v := some (.ref x)) C hR hS hG) hf hd hlk
      | null =>
        cases hs
        exact W.aret C.1 C.2.1 (hrt.trans h4) h5 (Or.inl rfl) (q_end (v := some .null) C hR hS hG) hf hd hlk
      | _ => cases hs
    · cases w0 <;> cases hs
  | return_ =>
    simp only [okI, Bool.and_eq_true, decide_eq_true_eq] at hok
    obtain ⟨⟨h1, h2⟩, rfl⟩ := hok
    obtain ⟨o, a, b, z⟩ := i
    dsimp only at h1 hs
    subst h1
    rcases st with _ | ⟨w0, st⟩
    · cases hs
      exact W.vret C.1 C.2.1 (hrt.trans h2) (q_end (v := none) C hR hS hG) hf hd hlk
    · cases w0 <;> cases hs
  | if_icmp cd off =>
    cases cd <;> (simp only [okI, okJ, Bool.and_eq_true, decide_eq_true_eq] at hok; omega)
  | ifCond cd off =>
    cases cd <;> (simp only [okI, okJ, Bool.and_eq_true, decide_eq_true_eq] at hok; omega)
  | if_acmp cd off =>
    cases cd <;> first | (cases hok; done) | (simp only [okI, okJ, Bool.and_eq_true, decide_eq_true_eq] at hok; omega)
  | _ => first | (cases hok; done) | (simp only [okI, okJ, okF, okC, Bool.and_eq_true, Bool.or_eq_true, decide_eq_true_eq] at hok; omega)
end
