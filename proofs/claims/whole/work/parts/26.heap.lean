/-! reads, writes and new cells against the relation -/
theorem mIx_spec {σ : mM} {a kd : Nat} {i : Int32} (h : mIx σ a kd i = true) : ∃ n, σ.2.2[a]? = some (kd, n) ∧ 0 ≤ i.toInt ∧ i.toInt < n := by
  unfold mIx at h
  split at h
  · rename_i k n hk
    simp only [Bool.and_eq_true, beq_iff_eq, decide_eq_true_eq] at h
    obtain ⟨⟨h1, h2⟩, h3⟩ := h
    subst h1
    exact ⟨n, hk, h2, h3⟩
  · cases h
theorem mOb_spec {σ : mM} {a ci k : Nat} (h : mOb σ a ci k = true) : ∃ n, σ.2.2[a]? = some (ci + 4, n) ∧ k < n ∧ (nSP ≤ a ∨ k < 2) := by
  unfold mOb at h
  simp only [Bool.and_eq_true, Bool.or_eq_true, decide_eq_true_eq] at h
  obtain ⟨h0, h⟩ := h
  split at h
  · rename_i kd n hk
    simp only [Bool.and_eq_true, beq_iff_eq, decide_eq_true_eq] at h
    obtain ⟨h1, h2⟩ := h
    subst h1
    exact ⟨n, hk, h2, h0⟩
  · cases h
theorem ix_in {i : Int32} {n : Nat} (h1 : 0 ≤ i.toInt) (h2 : i.toInt < n) : vp_in i n := vp_in_iff.mpr ⟨h1, h2⟩
theorem ix_not {i : Int32} {n N : Nat} (h1 : 0 ≤ i.toInt) (h2 : i.toInt < n) (hN : n ≤ N) : ¬ (i < 0 ∨ N ≤ i.toNatClampNeg) := ix_in h1 (by omega)
theorem lt_of_shape {σ : mM} {a : Nat} {q : Nat × Nat} (h : σ.2.2[a]? = some q) : a < σ.2.2.length := (List.getElem?_eq_some_iff.mp h).1
theorem gR.after {G : mG} {σ σ' : mM} {U : State} {H H1 : Heap} {a : Nat} (h : gR G σ U H) (ha : nSP ≤ a) (hl : σ'.2.2 = σ.2.2) (hI : ∀ b, b ≠ a → σ'.1 b = σ.1 b) (hr : ∀ b, b ≠ a → σ'.2.1 b = σ.2.1 b)
    (hP : va_P G.2.2.2.1 jCl ((gW G σ).set (a - nSP) (gAd G a, gE G σ' a)) H1) (hz : H1.size = H.size) (hk : ∀ q : Nat, q ≠ gAd G a → H1[q]? = H[q]?) : gR G σ' U H1 := by
  obtain ⟨h1, h2, h3, h4, h5⟩ := h
  have hk' : ∀ b : Nat, b < H.size → ¬ gA G b → H1[b]? = H[b]? := fun b _ hb => hk b (fun e => hb (by rw [e]; exact gAd_in ha))
  refine ⟨?_, by rw [hz, hl]; exact h2, by rw [hl]; exact h3, fun b hb => ((h4 b hb).kept hk').same (hI b (by omega)) (hr b (by omega)) (by rw [hl]), h5.kept hk'⟩
  rw [gW_set (σ := σ) ha (by rw [hl]) (fun b hb => ?_)]
  · exact hP
  · have hsl : ∀ k, gSl G σ' b k = gSl G σ b k := by intro k; funext j; simp only [gSl, hI b hb, hr b hb]
    unfold gE
    rw [hl, hI b hb]
    split <;> first | rfl | (simp only [hr b hb]; done) | (simp only [hsl]; done)
theorem u2_ne {α : Type} {f : Nat → Nat → α} {a k b : Nat} {v : α} (h : b ≠ a) : u2 f a k v b = f b := by
  funext j
  simp [u2, h]
theorem u2_at {f : Nat → Nat → Int32} {a k : Nat} {v : Int32} : u2 f a k v a = upd (f a) k v := by
  funext j
  simp [u2, upd]
theorem gR.wI {G : mG} {σ : mM} {U : State} {H H1 : Heap} {a k : Nat} {v : Int32} (h : gR G σ U H) (ha : nSP ≤ a) (hP : va_P G.2.2.2.1 jCl ((gW G σ).set (a - nSP) (gAd G a, gE G (wI σ a k v) a)) H1) (hz : H1.size = H.size) (hk : ∀ q : Nat, q ≠ gAd G a → H1[q]? = H[q]?) : gR G (wI σ a k v) U H1 :=
  h.after ha rfl (fun _ hb => u2_ne hb) (fun _ _ => rfl) hP hz hk
theorem gR.wR {G : mG} {σ : mM} {U : State} {H H1 : Heap} {a k : Nat} {v : Option Nat} (h : gR G σ U H) (ha : nSP ≤ a) (hP : va_P G.2.2.2.1 jCl ((gW G σ).set (a - nSP) (gAd G a, gE G (wR σ a k v) a)) H1) (hz : H1.size = H.size) (hk : ∀ q : Nat, q ≠ gAd G a → H1[q]? = H[q]?) : gR G (wR σ a k v) U H1 :=
  h.after ha rfl (fun _ _ => rfl) (fun _ hb => u2_ne hb) hP hz hk
theorem gE_i {G : mG} {σ : mM} {a kd n : Nat} (h : σ.2.2[a]? = some (kd, n)) (hk : kd < 3) : gE G σ a = .inl (G.2.2.2.2 kd, n, .inl (σ.1 a)) := by
  unfold gE
  rw [h]
  match kd, hk with
  | 0, _ => rfl
  | 1, _ => rfl
  | 2, _ => rfl
theorem gE_r {G : mG} {σ : mM} {a n : Nat} (h : σ.2.2[a]? = some (3, n)) : gE G σ a = .inl (G.2.2.2.2 3, n, .inr (.inr (.inr (.inr (fun j => (σ.2.1 a j).map (gAd G)))))) := by
  unfold gE
  rw [h]
theorem gE_o {G : mG} {σ : mM} {a k n : Nat} (h : σ.2.2[a]? = some (k + 4, n)) : gE G σ a = .inr (k, (List.range n).map (gSl G σ a k)) := by
  unfold gE
  rw [h]
theorem gR.at {G : mG} {σ : mM} {U : State} {H : Heap} {a : Nat} {q : Nat × Nat} (_ : gR G σ U H) (ha : nSP ≤ a) (hs : σ.2.2[a]? = some q) : (gW G σ)[a - nSP]? = some (gAd G a, gE G σ a) := gW_get ha (lt_of_shape hs)
/-- a new cell -/
theorem gR.new {G : mG} {σ : mM} {U : State} {H H1 : Heap} {sh : Nat × Nat} (h : gR G σ U H) (hz : H1.size = H.size + 1) (hk : ∀ q : Nat, q < H.size → H1[q]? = H[q]?)
    (hc : va_at G.2.2.2.1 jCl (gAd G σ.2.2.length, gE G (mNew σ sh) σ.2.2.length) H1) : gR G (mNew σ sh) U H1 := by
  obtain ⟨h1, h2, h3, h4, h5⟩ := h
  have hk' : ∀ b : Nat, b < H.size → ¬ gA G b → H1[b]? = H[b]? := fun b hb _ => hk b hb
  refine ⟨?_, ?_, ?_, fun b hb => ((h4 b hb).kept hk').same ?_ ?_ ?_, h5.kept hk'⟩
  · intro j q hq
    obtain ⟨hj, rfl⟩ := gW_at hq
    have hlen : (mNew σ sh).2.2.length = σ.2.2.length + 1 := by simp [mNew]
    rw [hlen] at hj
    by_cases e : nSP + j = σ.2.2.length
    · rw [e]
      have e2 : G.1 + j = gAd G σ.2.2.length := by rw [gAd_hi h3]; omega
      rw [e2]
      exact hc
    · have hb : nSP + j < σ.2.2.length := by omega
      have he : gE G (mNew σ sh) (nSP + j) = gE G σ (nSP + j) := by
        unfold gE
        have hs : (mNew σ sh).2.2[nSP + j]? = σ.2.2[nSP + j]? := by simp only [mNew]; rw [List.getElem?_append_left hb]
        have hi : (mNew σ sh).1 (nSP + j) = σ.1 (nSP + j) := by funext k; simp [mNew, e]
        have hr : (mNew σ sh).2.1 (nSP + j) = σ.2.1 (nSP + j) := by funext k; simp [mNew, e]
        have hsl : ∀ k, gSl G (mNew σ sh) (nSP + j) k = gSl G σ (nSP + j) k := by intro k; funext q; simp only [gSl, hi, hr]
        rw [hs, hi]
        split <;> first | rfl | (simp only [hr]; done) | (simp only [hsl]; done)
      rw [he]
      have hg := gW_get (G := G) (σ := σ) (a := nSP + j) (by omega) hb
      have h0 := h1 _ _ hg
      rw [gAd_hi (by omega), show nSP + j - nSP = j by omega] at h0
      exact h0.kept (hk _ h0.lt)
  · rw [hz]; simp only [mNew, List.length_append, List.length_cons, List.length_nil]; omega
  · simp only [mNew, List.length_append, List.length_cons, List.length_nil]; omega
  · funext k; simp only [mNew]; rw [if_neg (by omega)]
  · funext k; simp only [mNew]; rw [if_neg (by omega)]
  · simp only [mNew]; rw [List.getElem?_append_left (by omega)]
