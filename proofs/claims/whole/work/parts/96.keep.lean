/-! what a change of cells keeps -/
def dp (ks rs : List Nat) (a k : Nat) : Bool := if a = 91 then ks.contains k else rs.contains a
def Ko (ks rs : List Nat) (A A1 : aS) : Prop := ∀ a k, dp ks rs a k = true → A1 a k = A a k
section
variable {A A1 : aS} {ks rs : List Nat}
theorem Ko.refl (ks rs : List Nat) (A : aS) : Ko ks rs A A := fun _ _ _ => rfl
theorem Ko.set {a k : Nat} {v : Int} (h : Ko ks rs A A1) (hp : dp ks rs a k = false) : Ko ks rs A (u2 A1 a k v) := by
  intro b j hb
  rw [show u2 A1 a k v b j = A1 b j from if_neg ?_]
  · exact h b j hb
  · rintro ⟨rfl, rfl⟩
    rw [hp] at hb
    cases hb
theorem Ko.s (h : Ko ks rs A A1) {k : Nat} (hk : dp ks rs 91 k = true) : A1 91 k = A 91 k := h 91 k hk
theorem Ko.r (h : Ko ks rs A A1) {a : Nat} (hk : ∀ k, dp ks rs a k = true) : A1 a = A a := funext fun k => h a k (hk k)
def unL (A : aS) : Nat → Nat
  | 0 => 0
  | k + 1 => unL A k + (if A 109 k = 5000 then 0 else 1)
def WfL (A : aS) : Prop := A 91 4 = (unL A (A 91 3).toNat : Int)
theorem unL_le : ∀ k, unL A k ≤ k
  | 0 => Nat.le_refl _
  | k + 1 => by
    have := unL_le k
    show unL A k + (if A 109 k = 5000 then 0 else 1) ≤ k + 1
    split <;> omega
theorem unL_eq : ∀ k, (∀ j, j < k → A1 109 j = A 109 j) → unL A1 k = unL A k
  | 0, _ => rfl
  | k + 1, h => by
    show unL A1 k + (if A1 109 k = 5000 then 0 else 1) = unL A k + (if A 109 k = 5000 then 0 else 1)
    rw [unL_eq k (fun j hj => h j (by omega)), h k (by omega)]
theorem unL_one {k0 : Nat} (h0 : A 109 k0 = 5000) (h1 : ¬ A1 109 k0 = 5000) (hj : ∀ j, ¬ j = k0 → A1 109 j = A 109 j) : ∀ k, k0 < k → unL A1 k = unL A k + 1
  | 0, h => absurd h (by omega)
  | k + 1, h => by
    show unL A1 k + (if A1 109 k = 5000 then 0 else 1) = unL A k + (if A 109 k = 5000 then 0 else 1) + 1
    by_cases q : k = k0
    · subst q
      rw [if_neg h1, if_pos h0, unL_eq k (fun j h => hj j (by omega))]
    · rw [unL_one h0 h1 hj k (by omega), hj k q]; omega
theorem WfL.u (h : WfL A) (hA : WfA A) : WfU A := by
  have h1 := unL_le (A := A) (A 91 3).toNat
  have h2 := hA.2.2.2.1
  unfold WfL at h
  unfold WfN at h2
  unfold WfU
  omega
def WfE (A : aS) : Prop := (∀ k : Nat, k < 240 → -1 ≤ A 97 k ∧ A 97 k ≤ 100) ∧ (∀ c : Nat, c < 40 → (A 91 1).toNat ≤ c → A 96 c = 0)
theorem WfA.ko (h : WfA A) (hk : Ko [0, 1, 2, 3] [103, 104, 105, 106, 107, 108, 109] A A1) : WfA A1 := by
  unfold WfA WfN nN WfK at h ⊢
  rw [hk.s (k := 0) rfl, hk.s (k := 1) rfl, hk.s (k := 2) rfl, hk.s (k := 3) rfl, hk.r (a := 103) (fun _ => rfl), hk.r (a := 104) (fun _ => rfl), hk.r (a := 105) (fun _ => rfl), hk.r (a := 106) (fun _ => rfl), hk.r (a := 107) (fun _ => rfl), hk.r (a := 108) (fun _ => rfl), hk.r (a := 109) (fun _ => rfl)]
  exact h
theorem WfP.ko (h : WfP A) (hk : Ko [1] [92, 93, 94, 95, 96] A A1) : WfP A1 := by
  unfold WfP at h ⊢
  rw [hk.s (k := 1) rfl, hk.r (a := 92) (fun _ => rfl), hk.r (a := 93) (fun _ => rfl), hk.r (a := 94) (fun _ => rfl), hk.r (a := 95) (fun _ => rfl), hk.r (a := 96) (fun _ => rfl)]
  exact h
theorem WfT.ko (h : WfT A) (hk : Ko [40, 63, 2] [121, 122, 123, 136, 100] A A1) : WfT A1 := by
  unfold WfT at h ⊢
  rw [hk.s (k := 40) rfl, hk.s (k := 63) rfl, hk.s (k := 2) rfl, hk.r (a := 121) (fun _ => rfl), hk.r (a := 122) (fun _ => rfl), hk.r (a := 123) (fun _ => rfl), hk.r (a := 136) (fun _ => rfl), hk.r (a := 100) (fun _ => rfl)]
  exact h
theorem WfV.ko (h : WfV A) (hk : Ko [57, 58, 59] [133, 134] A A1) : WfV A1 := by
  unfold WfV at h ⊢
  rw [hk.s (k := 57) rfl, hk.s (k := 58) rfl, hk.s (k := 59) rfl, hk.r (a := 133) (fun _ => rfl), hk.r (a := 134) (fun _ => rfl)]
  exact h
theorem WfX.ko (h : WfX A) (hk : Ko [54, 2] [101, 102, 98, 99, 131, 132] A A1) : WfX A1 := by
  unfold WfX at h ⊢
  rw [hk.s (k := 54) rfl, hk.s (k := 2) rfl, hk.r (a := 101) (fun _ => rfl), hk.r (a := 102) (fun _ => rfl), hk.r (a := 98) (fun _ => rfl), hk.r (a := 99) (fun _ => rfl), hk.r (a := 131) (fun _ => rfl), hk.r (a := 132) (fun _ => rfl)]
  exact h
theorem WfB.ko (h : WfB A) (hk : Ko [3] [110] A A1) : WfB A1 := by
  unfold WfB at h ⊢
  rw [hk.s (k := 3) rfl, hk.r (a := 110) (fun _ => rfl)]
  exact h
theorem WfL.ko (h : WfL A) (hk : Ko [3, 4] [109] A A1) : WfL A1 := by
  unfold WfL at h ⊢
  rw [hk.s (k := 4) rfl, hk.s (k := 3) rfl, unL_eq _ (fun j _ => hk 109 j rfl)]
  exact h
theorem WfF.ko (h : WfF A) (hk : Ko [67] [] A A1) : WfF A1 := by
  unfold WfF at h ⊢
  rw [hk.s (k := 67) rfl]
  exact h
theorem WfD.ko (h : WfD A) (hk : Ko [66, 65] [152] A A1) : WfD A1 := by
  unfold WfD at h ⊢
  rw [hk.s (k := 66) rfl, hk.s (k := 65) rfl, hk.r (a := 152) (fun _ => rfl)]
  exact h
theorem WfE.ko (h : WfE A) (hk : Ko [1] [97, 96] A A1) : WfE A1 := by
  unfold WfE at h ⊢
  rw [hk.s (k := 1) rfl, hk.r (a := 97) (fun _ => rfl), hk.r (a := 96) (fun _ => rfl)]
  exact h
theorem WfC.ko (h : WfC A) (hk : Ko [65, 66] [137, 138, 139, 140, 141, 142, 143, 144, 145, 146, 147, 148, 149] A A1) (h7 : A 91 66 ≤ 7200) : WfC A1 := by
  have e65 := hk.s (k := 65) rfl
  have e66 := hk.s (k := 66) rfl
  refine ⟨by rw [e65]; exact h.1, fun a ha => ?_⟩
  rw [e65] at ha
  have g := h.2 a ha
  rw [hk 137 a rfl, hk 138 a rfl]
  exact ⟨g.1, g.2.1, fun j hj => (g.2.2 j hj).ext ⟨by rw [e66]; exact Int.le_refl _, by rw [e66]; exact h7, fun j _ => ⟨hk 144 j rfl, hk 145 j rfl, hk 146 j rfl, hk 147 j rfl, hk 148 j rfl, hk 149 j rfl⟩⟩ ⟨hk 139 _ rfl, hk 140 _ rfl, hk 141 _ rfl, hk 142 _ rfl, hk 143 _ rfl⟩⟩
theorem Ko.cd (hk : Ko [65, 66] [137, 138, 139, 140, 141, 142, 143, 144, 145, 146, 147, 148, 149] A A1) : CdLo A A1 := ⟨hk 91 65 rfl, fun a _ => ⟨hk 137 a rfl, hk 138 a rfl, fun j _ => ⟨hk 139 _ rfl, hk 140 _ rfl⟩⟩⟩
theorem smT_ko {s : Nat} (hS : WfS A s) (h0 : ¬ A 140 s = 0) (hn : NdAg A A1) (e : A1 139 s = A 139 s ∧ A1 140 s = A 140 s ∧ A1 141 s = A 141 s ∧ A1 142 s = A 142 s ∧ A1 143 s = A 143 s) : smT A1 s = smT A s := by
  unfold smT whT
  rw [e.2.1, e.2.2.1, e.2.2.2.1, e.2.2.2.2]
  by_cases q : A 143 s = -1
  · rw [if_pos q, if_pos q]
  · rw [if_neg q, if_neg q]
    have h1 := MAny_ag hn (wT_spec hS h0 q)
    have h2 := wT_spec (hS.ext hn e) (by rw [e.2.1]; exact h0) (by rw [e.2.2.2.2]; exact q)
    rw [e.2.2.2.2] at h2
    rw [MAny.inj h2 h1]
theorem cdT_ko (h : WfC A) (hc : CdLo A A1) (hn : NdAg A A1) (hs : ∀ a j : Nat, a < (A 91 65).toNat → j < (A 137 a).toNat → A1 139 (40 * a + j) = A 139 (40 * a + j) ∧ A1 140 (40 * a + j) = A 140 (40 * a + j) ∧ A1 141 (40 * a + j) = A 141 (40 * a + j) ∧ A1 142 (40 * a + j) = A 142 (40 * a + j) ∧ A1 143 (40 * a + j) = A 143 (40 * a + j)) {y : Int} : ∀ f n, cdT A1 y f n = cdT A y f n
  | 0, _ => rfl
  | f + 1, n => by
    show (if cdS A1 y n = -1 then [] else ccT A1 n (cdS A1 y n).toNat) ++ cdT A1 y f (n + 1) = (if cdS A y n = -1 then [] else ccT A n (cdS A y n).toNat) ++ cdT A y f (n + 1)
    rw [cdT_ko h hc hn hs f (n + 1), cdS_lo hc]
    by_cases q : cdS A y n = -1
    · rw [if_pos q, if_pos q]
    · rw [if_neg q, if_neg q]
      obtain ⟨s, hs1, hs2, hs3, hs4, hs5, a, j, hs6, hs7, hs8⟩ := cdS_wf h q
      have e := hs a j hs7 hs8
      rw [← hs6] at e
      rw [hs1, Int.toNat_natCast]
      unfold ccT
      rw [smT_ko hs3 hs5 hn e]
theorem WfW.ko (h : WfW A) (hC : WfC A) (hk : Ko [65, 66] [137, 138, 139, 140, 141, 142, 143, 144, 145, 146, 147, 148, 149] A A1) (h7 : A 91 66 ≤ 7200) : WfW A1 := by
  intro y hy
  have e66 := hk.s (k := 66) rfl
  unfold cdX
  rw [cdT_ko hC hk.cd ⟨by rw [e66]; exact Int.le_refl _, by rw [e66]; exact h7, fun j _ => ⟨hk 144 j rfl, hk 145 j rfl, hk 146 j rfl, hk 147 j rfl, hk 148 j rfl, hk 149 j rfl⟩⟩ (fun a j _ _ => ⟨hk 139 _ rfl, hk 140 _ rfl, hk 141 _ rfl, hk 142 _ rfl, hk 143 _ rfl⟩)]
  exact h y hy
def WF (A : aS) : Prop := WfA A ∧ WfP A ∧ WfT A ∧ WfV A ∧ WfX A ∧ WfB A ∧ WfL A ∧ WfF A ∧ WfD A ∧ WfE A ∧ WfC A ∧ WfW A
theorem WF.n7 (h : WF A) : A 91 66 ≤ 7200 := by
  have h1 := h.2.2.2.2.2.2.2.2.1.1
  have h2 := h.2.2.2.2.2.2.2.2.2.2.1.1
  omega
end
