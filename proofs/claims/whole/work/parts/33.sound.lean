/-! the small machine's runs are the machine's runs -/
theorem gEn_cat2 {G : mG} (hO : G.2.2.1 = .null ∨ ∃ t, G.2.2.1 = .ref t) (v : Value) : (gEn G v).category = 2 ↔ (∃ x, v = .long x) ∨ ∃ x, v = .double x := by
  constructor
  · intro h
    cases v with
    | long x => exact Or.inl ⟨x, rfl⟩
    | double x => exact Or.inr ⟨x, rfl⟩
    | retAddr n =>
      have h : (if n = 1 then G.2.2.1 else Value.retAddr n).category = 2 := h
      split at h
      · rcases hO with e | ⟨t, e⟩ <;> (rw [e] at h; simp [Value.category] at h)
      · simp [Value.category] at h
    | _ => simp [gEn, Value.category] at h
  · rintro (⟨x, rfl⟩ | ⟨x, rfl⟩) <;> rfl
theorem lay_w {v : Value} {r : List Value} (h : (∃ x, v = .long x) ∨ ∃ x, v = .double x) : mLay (v :: r) = v :: mUn :: mLay r := by
  rcases h with ⟨x, rfl⟩ | ⟨x, rfl⟩ <;> rfl
theorem lay_n {v : Value} {r : List Value} (h : ¬ ((∃ x, v = .long x) ∨ ∃ x, v = .double x)) : mLay (v :: r) = v :: mLay r := by
  cases v with
  | long x => exact absurd (Or.inl ⟨x, rfl⟩) h
  | double x => exact absurd (Or.inr ⟨x, rfl⟩) h
  | _ => rfl
theorem lay_len {G : mG} (hO : G.2.2.1 = .null ∨ ∃ t, G.2.2.1 = .ref t) : ∀ as : List Value, (lg_sl (as.map (gEn G))).length = (mLay as).length
  | [] => rfl
  | v :: r => by
    have ih := lay_len hO r
    have e : lg_sl ((v :: r).map (gEn G)) = (if (gEn G v).category = 2 then [Slot.val (gEn G v), .second] else [.val (gEn G v)]) ++ lg_sl (r.map (gEn G)) := by simp [lg_sl]
    rw [e]
    by_cases h : (gEn G v).category = 2
    · rw [if_pos h, lay_w ((gEn_cat2 hO v).mp h)]
      simp only [List.length_append, List.length_cons, List.length_nil, ih]; omega
    · rw [if_neg h, lay_n (fun q => h ((gEn_cat2 hO v).mpr q))]
      simp only [List.length_append, List.length_cons, List.length_nil, ih]; omega
theorem lay_get {G : mG} (hO : G.2.2.1 = .null ∨ ∃ t, G.2.2.1 = .ref t) : ∀ (as : List Value) (k i : Nat) (v : Value), (mLay as)[i]? = some v → isUn v = false → (k + i, gEn G v) ∈ lv_args k (as.map (gEn G))
  | [], k, i, v, h, _ => by simp [mLay] at h
  | w :: r, k, i, v, h, hu => by
    simp only [List.map_cons, lv_args]
    by_cases hc : (gEn G w).category = 2
    · rw [lay_w ((gEn_cat2 hO w).mp hc)] at h
      rw [if_pos hc]
      match i, h with
      | 0, h => cases h; exact List.mem_cons_self
      | 1, h => cases h; simp [isUn, mUn] at hu
      | i + 2, h =>
        have h9 := lay_get hO r (k + 2) i v h hu
        rw [show k + (i + 2) = k + 2 + i by omega]
        exact List.mem_cons_of_mem _ h9
    · rw [lay_n (fun q => hc ((gEn_cat2 hO w).mpr q))] at h
      rw [if_neg hc]
      match i, h with
      | 0, h => cases h; exact List.mem_cons_self
      | i + 1, h =>
        have h9 := lay_get hO r (k + 1) i v h hu
        rw [show k + (i + 1) = k + 1 + i by omega]
        exact List.mem_cons_of_mem _ h9
theorem gL_entry {G : mG} (hO : G.2.2.1 = .null ∨ ∃ t, G.2.2.1 = .ref t) {k : Nat} {as : List Value} (h : (mLay as).length ≤ jML.getD k 0) : gL G (jML.getD k 0) (mkL k as) ((lg_sl (as.map (gEn G)) ++ List.replicate (jML.getD k 0 - (lg_sl (as.map (gEn G))).length) Slot.unset).toArray) := by
  obtain ⟨h1, h2, h3⟩ := lv_entry (as.map (gEn G)) (n := jML.getD k 0) (by rw [lay_len hO]; exact h)
  refine ⟨h1, h2, by simp only [mkL, List.length_append, List.length_replicate]; omega, fun i v hi hu => ?_⟩
  unfold mkL at hi
  by_cases hl : i < (mLay as).length
  · rw [List.getElem?_append_left hl] at hi
    have h9 := h3 _ (lay_get hO as 0 i v hi hu)
    simpa using h9
  · rw [List.getElem?_append_right (by omega)] at hi
    have h9 := List.mem_of_getElem? hi
    rw [(List.mem_replicate.mp h9).2] at hu
    simp [isUn, mUn] at hu
theorem mpush_spec {o : Nat} {v : Option Value} {r st' : List Value} (h : mpush o v r = some st') : 100 ≤ o ∧ st' = v.toList ++ r := by
  unfold mpush at h
  split at h <;> first | (cases h; done) | (cases h; exact ⟨by decide, rfl⟩)
def sndP (n : Nat) : Prop := ∀ (d : Nat) (is : List mIns) (ls st : List Value) (σ : mM) (v : Option Value) (σ' : mM), ex n d is ls st σ = some (v, σ') → ∀ (G : mG) (k pc : Nat), k < jNm → mt k (jMb k) pc is = true →
  ∀ (p : Program) (l : Launch) (e : Env) (R : Room) (s : State) (m : MethodId) (args : Array Value) (below : List Frame) (meth : Method) (c : Code) (H : Heap) (locs : List Loc) (cells slots mc ms : Nat) (lsR : Array Slot),
    gCx G k p s m args meth c → gL G (jML.getD k 0) ls lsR → gR G σ s H → va_S (gA G) s.heap H locs → G.1 ≤ s.heap.size → d ≤ R.frames → 40 * d ≤ R.locals → cells + σ'.2.2.length = mc + σ.2.2.length → slots + sl σ' = ms + sl σ → mc ≤ R.cells → ms ≤ R.slots →
    W p l e R s m args below meth c H locs cells slots (MQ below (gQc G v σ') args s mc ms (gA G)) (F0 m pc lsR (st.map (gEn G)))
theorem met_of (hall : ∀ k, k < jNm → mtM k = true) {n : Nat} (ih : sndP n) {l : Launch} {G : mG} {d y : Nat} {as : List Value} {σ σ1 : mM} {v : Option Value} {mc ms : Nat} (hx : ex n d (gb y 0) (mkL y as) [] σ = some (v, σ1)) (hy : y < jNm) (hlay : (mLay as).length ≤ jML.getD y 0) (hmc : σ1.2.2.length = mc + σ.2.2.length) (hms : sl σ1 = ms + sl σ) :
    Met l (jMn y) (jWs y) (rmD d mc ms) (gPc G σ as) (gQc G v σ1) mc ms (gA G) := by
  obtain ⟨-, hpl, hcls, hmx⟩ := jM_ok hy
  refine va_MetF hpl rfl fun p e s m args below meth c s₁ B hml hP => ?_
  obtain ⟨rfl, hR, hK⟩ := hP
  have hm := hall y hy
  unfold mtM at hm
  simp only [Bool.and_eq_true, decide_eq_true_eq] at hm
  obtain ⟨⟨h0, hb⟩, hbl⟩ := hm
  have hmt := List.all_eq_true.mp hbl 0 (List.mem_range.mpr hb)
  rw [h0] at hmt
  have hws : ∀ w ∈ jWs y, w.before (as.map (gEn G)).toArray s = true := atoms_spec B.pre
  have C : gCx G y p s m (as.map (gEn G)).toArray meth c := by
    refine ⟨B.exec, B.bytes, hml, B.returns, B.notSynchronized, ?_, fun w h1 h2 => hws w (List.mem_cons_of_mem _ (List.mem_filter.mpr ⟨h1, h2⟩)), (name_of_methodNamed B.named B.method).1, hK⟩
    rw [← hcls]
    exact findClass_of_methodNamed B.named
  rw [lg_entry_eq]
  have hG : G.1 ≤ s.heap.size := by have a1 := hR.2.1; have a2 := hR.2.2.1; omega
  exact ih d (gb y 0) (mkL y as) [] σ v σ1 hx G y 0 hy hmt p l e _ s m _ below meth c s.heap [] 0 0 mc ms _ C (gL_entry (C_O C) hlay) hR ⟨Nat.le_refl _, fun _ _ _ => rfl, fun _ h => by cases h⟩ hG (Nat.le_refl _) (Nat.le_refl _) (by omega) (by omega) (Nat.le_refl _) (Nat.le_refl _)
set_option maxHeartbeats 4000000 in
theorem snd_all (hall : ∀ k, k < jNm → mtM k = true) : ∀ n, sndP n := by
  intro n
  induction n with
  | zero => intro d is ls st σ v σ' h; simp [ex_zero] at h
  | succ n ih =>
    intro d is ls st σ v σ' h G k pc hk hmt p l e R s m args below meth c H locs cells slots mc ms lsR C hL hR hS hG hfr hlo hmc hms hrc hrs
    cases is with
    | nil => simp [ex_nil] at h
    | cons i is =>
      have hblk : ∀ b, b < jNb k → mt k (jMb k) (jS k b) (gb k b) = true := by
        intro b hb
        have hm := hall k hk
        unfold mtM at hm
        simp only [Bool.and_eq_true] at hm
        exact List.all_eq_true.mp hm.2 b (List.mem_range.mpr hb)
      rw [ex_cons] at h
      unfold mt at hmt
      by_cases h199 : i.1 = 199
      · exfalso
        rw [if_neg (by omega), if_neg (by omega), if_neg (by omega)] at h
        cases d with
        | zero => cases h
        | succ d' =>
          dsimp only at h
          rw [if_neg (by omega)] at h
          have hn : mnat i st σ = none := by
            obtain ⟨o, a, b, z⟩ := i
            dsimp only at h199
            subst h199
            rfl
          rw [hn] at h
          cases h
      rw [if_neg h199] at hmt
      by_cases h79 : i.1 = 79
      · rw [if_pos h79] at hmt
        simp only [Bool.and_eq_true, decide_eq_true_eq] at hmt
        obtain ⟨⟨q1, q2⟩, q3⟩ := hmt
        have hbr : mbr i st = some (some (i.2.1, i.2.2.1), st) := by
          obtain ⟨o, a, b, z⟩ := i
          dsimp only at h79
          subst h79
          rfl
        rw [if_neg (by omega), if_pos (by omega), hbr] at h
        dsimp only at h
        rw [q1] at h
        have h9 := ih d (gb k i.2.2.1) ls st σ v σ' h G k (jS k i.2.2.1) hk (hblk _ q2) p l e R s m args below meth c H locs cells slots mc ms lsR C hL hR hS hG hfr hlo hmc hms hrc hrs
        rw [q3] at h9
        exact h9
      rw [if_neg h79] at hmt
      split at hmt
      case h_2 => cases hmt
      rename_i j len hd
      simp only [Bool.and_eq_true, Bool.or_eq_true] at hmt
      obtain ⟨hok, hnx⟩ := hmt
      have nxt : isT i = false → mt k (jMb k) (pc + len) is = true := fun hT => hnx.resolve_left (by rw [hT]; decide)
      have nT : (i.1 < 60 ∨ 90 ≤ i.1) → isT i = false := by
        intro hi
        unfold isT
        simp only [Bool.or_eq_false_iff, Bool.and_eq_false_iff, decide_eq_false_iff_not]
        omega
      by_cases h60 : i.1 < 60
      · rw [if_pos h60] at h
        split at h
        · rename_i r hs
          have hg1 := gr_step hs
          have hg2 := gr_ex _ _ _ _ _ _ _ _ h
          have hn := nxt (nT (Or.inl h60))
          by_cases h40 : i.1 < 40
          · refine simA hd hok h40 hs C hL fun hσ lsR' hL' => ?_
            rw [hσ] at h
            exact ih d is r.1 r.2.1 σ v σ' h G k (pc + len) hk hn p l e R s m args below meth c H locs cells slots mc ms lsR' C hL' hR hS hG hfr hlo hmc hms hrc hrs
          · obtain ⟨g1, g2⟩ := hg1
            obtain ⟨g3, g4⟩ := hg2
            refine simB hd hok (by omega) h60 hs C hR hS (by omega) (by omega) fun hr1 H1 locs1 cells1 slots1 hR1 hS1 e1 e2 => ?_
            rw [hr1] at h
            exact ih d is ls r.2.1 r.2.2 v σ' h G k (pc + len) hk hn p l e R s m args below meth c H1 locs1 cells1 slots1 mc ms lsR C hL hR1 hS1 hG hfr hlo (by omega) (by omega) hrc hrs
        · cases h
      rw [if_neg h60] at h
      by_cases h80 : i.1 < 80
      · rw [if_pos h80] at h
        split at h
        · rename_i st' hb
          refine simC hd hok (by omega) h80 hb C (fun b hb2 => by cases hb2) fun _ hT => ?_
          exact ih d is ls st' σ v σ' h G k (pc + len) hk (nxt hT) p l e R s m args below meth c H locs cells slots mc ms lsR C hL hR hS hG hfr hlo hmc hms hrc hrs
        · rename_i q st' hb
          refine simC hd hok (by omega) h80 hb C (fun b hb2 hb3 => ?_) (fun hb2 => by cases hb2)
          cases hb2
          exact ih d (gb k b) ls st' σ v σ' h G k (jS k b) hk (hblk b hb3) p l e R s m args below meth c H locs cells slots mc ms lsR C hL hR hS hG hfr hlo hmc hms hrc hrs
        · cases h
      rw [if_neg h80] at h
      by_cases h90 : i.1 < 90
      · rw [if_pos h90] at h
        have hσ := gr_ret h
        have e1 : mc = cells := by rw [hσ] at hmc; omega
        have e2 : ms = slots := by rw [hσ] at hms; omega
        rw [e1, e2]
        exact simR hd hok (by omega) h90 h C hR hS hG
      rw [if_neg h90] at h
      have hn := nxt (nT (Or.inr (by omega)))
      cases d with
      | zero => cases h
      | succ d' =>
        dsimp only at h
        by_cases h104 : i.1 < 104
        · rw [if_pos h104] at h
          split at h
          case h_2 => cases h
          rename_i as r hc
          split at h
          case h_2 => cases h
          rename_i v1 σ1 hx
          split at h
          case h_2 => cases h
          rename_i st' hp
          obtain ⟨h100, rfl⟩ := mpush_spec hp
          obtain ⟨g1, g2⟩ := gr_ex _ _ _ _ _ _ _ _ hx
          obtain ⟨g3, g4⟩ := gr_ex _ _ _ _ _ _ _ _ h
          refine simD (d := d') (mc := σ1.2.2.length - σ.2.2.length) (ms := sl σ1 - sl σ) hd hok h100 h104 hc C hL.1 (fun hy _ hlay => met_of hall ih hx hy hlay (by omega) (by omega)) g1 (by omega) (by omega) (by omega) (by omega) hR hS fun H1 locs1 hR1 hS1 => ?_
          have h9 := ih (d' + 1) is ls _ σ1 v σ' h G k (pc + len) hk hn p l e R s m args below meth c H1 locs1 (cells + (σ1.2.2.length - σ.2.2.length)) (slots + (sl σ1 - sl σ)) mc ms lsR C hL hR1 hS1 hG hfr hlo (by omega) (by omega) hrc hrs
          have e9 : (v1.toList ++ r).map (gEn G) = (v1.map (gEn G)).toList ++ r.map (gEn G) := by cases v1 <;> rfl
          rw [e9] at h9
          exact h9
        · rw [if_neg h104] at h
          split at h
          case h_2 => cases h
          rename_i st' σ1 hs
          obtain ⟨g1, g2⟩ := gr_nat hs
          obtain ⟨g3, g4⟩ := gr_ex _ _ _ _ _ _ _ _ h
          refine simN hd hok (by omega) hs C hL.1 (by omega) (by omega) hR hS (by omega) (by omega) fun H1 locs1 cells1 slots1 hR1 hS1 e1 e2 => ?_
          exact ih (d' + 1) is ls st' σ1 v σ' h G k (pc + len) hk hn p l e R s m args below meth c H1 locs1 cells1 slots1 mc ms lsR C hL hR1 hS1 hG hfr hlo (by omega) (by omega) hrc hrs
