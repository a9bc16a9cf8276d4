/-! what a clause's text says -/
abbrev wClause : Int64 := Int64.ofInt 109317142704997
abbrev wOmit : Int64 := Int64.ofInt 1869441396
abbrev wCount : Int64 := Int64.ofInt 427071729268
abbrev wPresent : Int64 := Int64.ofInt 31650977444884084
abbrev wLate : Int64 := Int64.ofInt 1818326117
abbrev wWork : Int64 := Int64.ofInt 2003792491
abbrev wAs : Int64 := Int64.ofInt 24947
abbrev wExcuse : Int64 := Int64.ofInt 111567739122533
abbrev wAttend : Int64 := Int64.ofInt 107152796905060
abbrev wPass : Int64 := Int64.ofInt 1885434739
abbrev wNeeds : Int64 := Int64.ofInt 474147546227
abbrev wRise : Int64 := Int64.ofInt 1919513445
abbrev wGrant : Int64 := Int64.ofInt 444300619380
abbrev wPer : Int64 := Int64.ofInt 7366002
abbrev wHead : Int64 := Int64.ofInt 1751474532
abbrev wChild : Int64 := Int64.ofInt 426953501796
abbrev wCap : Int64 := Int64.ofInt 6513008
abbrev wFee : Int64 := Int64.ofInt 6710629
abbrev wHalf : Int64 := Int64.ofInt 1751215206
abbrev wRoom : Int64 := Int64.ofInt 1919905645
abbrev wStaff : Int64 := Int64.ofInt 495873779302
abbrev wStep : Int64 := Int64.ofInt 1937007984
abbrev wPay : Int64 := Int64.ofInt 7364985
abbrev wIs : Int64 := Int64.ofInt 26995
abbrev wTeach : Int64 := Int64.ofInt 499917087592
abbrev wSmall : Int64 := Int64.ofInt 495756340332
abbrev wIf : Int64 := Int64.ofInt 26982
def bnd {α β : Type} (x : Option α × Nat) (f : α → Nat → Option β × Nat) : Option β × Nat := match x with
  | (none, r) => (none, r)
  | (some a, r) => f a r
def rNum (T : Nat → Int) (N : Nat) (lo hi : Int) (p : Nat) : Option Int × Nat := if nmOk T N (bl T N p) lo hi then (some (nv T N (bl T N p)), dg T N (bl T N p)) else (none, bl T N p)
def rWord (T : Nat → Int) (N : Nat) (w : Int64) (p : Nat) : Option Unit × Nat := if tkOk T N (bl T N p) w then (some (), lt T N (bl T N p)) else (none, bl T N p)
def rSign (T : Nat → Int) (N : Nat) (b : Int) (p : Nat) : Option Unit × Nat := if bl T N p < N ∧ T (bl T N p) = b then (some (), bl T N p + 1) else (none, bl T N p)
abbrev Bdy : Type := Int × Int × Int
def plP (T : Nat → Int) (N : Nat) (kd : Int) (p : Nat) : Option Bdy × Nat := bnd (rNum T N 0 9999 p) (fun v r => (some (kd, v, 0), r))
def prP (T : Nat → Int) (N : Nat) (kd most : Int) (w : Int64) (ms : Int) (p : Nat) : Option Bdy × Nat := bnd (rNum T N 0 most p) (fun v r => bnd (rWord T N w r) (fun _ r => bnd (rNum T N 0 ms r) (fun z r => (some (kd, v, z), r))))
def mwP (T : Nat → Int) (N p : Nat) : Option Int × Nat := if tkOk T N (bl T N p) wPresent then (some 1, lt T N (bl T N p)) else if tkOk T N (bl T N p) wLate then (some 2, lt T N (bl T N p)) else if tkOk T N (bl T N p) wWork then (some 3, lt T N (bl T N p)) else (none, bl T N p)
def cnP (T : Nat → Int) (N p : Nat) : Option Bdy × Nat := bnd (mwP T N p) (fun v r => bnd (rWord T N wAs r) (fun _ r => bnd (rNum T N 0 2 r) (fun z r => (some (1, v, z), r))))
def gpP (T : Nat → Int) (N p : Nat) : Option Int × Nat := if tkOk T N (bl T N p) wHead then (some (-2), lt T N (bl T N p)) else if tkOk T N (bl T N p) wChild then (some (-3), lt T N (bl T N p)) else bnd (rWord T N wPass p) (fun _ r => rNum T N 0 5 r)
def grP (T : Nat → Int) (N p : Nat) : Option Bdy × Nat := bnd (rNum T N 0 9999 p) (fun v r => bnd (rWord T N wPer r) (fun _ r => bnd (gpP T N r) (fun z r => (some (6, v, z), r))))
def ifP (T : Nat → Int) (N F p : Nat) : Option (Option (Any 10)) × Nat := if tkOk T N (bl T N p) wIf then bnd (anP T N F 10 (lt T N (bl T N p))) (fun t r => (some (some t), r)) else (some none, bl T N p)
section
variable {T : Nat → Int} {N p : Nat} {lo hi b : Int} {w : Int64}
theorem rNum_p (h : nmOk T N (bl T N p) lo hi) : rNum T N lo hi p = (some (nv T N (bl T N p)), dg T N (bl T N p)) := if_pos h
theorem rNum_n (h : ¬ nmOk T N (bl T N p) lo hi) : rNum T N lo hi p = (none, bl T N p) := if_neg h
theorem rWord_p (h : tkOk T N (bl T N p) w) : rWord T N w p = (some (), lt T N (bl T N p)) := if_pos h
theorem rWord_n (h : ¬ tkOk T N (bl T N p) w) : rWord T N w p = (none, bl T N p) := if_neg h
theorem rSign_p (h : bl T N p < N ∧ T (bl T N p) = b) : rSign T N b p = (some (), bl T N p + 1) := if_pos h
theorem rSign_n (h : ¬ (bl T N p < N ∧ T (bl T N p) = b)) : rSign T N b p = (none, bl T N p) := if_neg h
theorem rWord_bl (hp : p ≤ N) : rWord T N w (bl T N p) = rWord T N w p := by unfold rWord; rw [bl_bl hp]
end
/-! trees stay where new nodes come behind them -/
def NdAg (A A1 : aS) : Prop := A 91 66 ≤ A1 91 66 ∧ A1 91 66 ≤ 7200 ∧ ∀ j : Nat, (j : Int) < A 91 66 → A1 144 j = A 144 j ∧ A1 145 j = A 145 j ∧ A1 146 j = A 146 j ∧ A1 147 j = A 147 j ∧ A1 148 j = A 148 j ∧ A1 149 j = A 149 j
section
variable {A A1 : aS}
theorem NdAg.nd (h : NdAg A A1) {k : Int} (hk : ndIn A k) : ndIn A1 k := ⟨hk.1, by have := h.1; have := hk.2.1; omega, h.2.1⟩
theorem NdAg.at (h : NdAg A A1) {k : Int} (hk : ndIn A k) : A1 144 k.toNat = A 144 k.toNat ∧ A1 145 k.toNat = A 145 k.toNat ∧ A1 146 k.toNat = A 146 k.toNat ∧ A1 147 k.toNat = A 147 k.toNat ∧ A1 148 k.toNat = A 148 k.toNat ∧ A1 149 k.toNat = A 149 k.toNat := h.2.2 k.toNat (by have := hk.1; have := hk.2.1; omega)
theorem MCh_ag (h : NdAg A A1) {α : Type} {P P' : Int → α → Prop} (hb : ∀ k x, P k x → ndIn A k) (hP : ∀ k x, P k x → P' k x) : ∀ (l : List α) (k : Int), MCh P (A 146) l k → MCh P' (A1 146) l k
  | [], _, hk => hk
  | x :: l, k, hk => by
    obtain ⟨h1, h2⟩ := hk
    refine ⟨hP k x h1, ?_⟩
    rw [(h.at (hb k x h1)).2.2.1]
    exact MCh_ag h hb hP l _ h2
theorem MLf_ag (h : NdAg A A1) {k : Int} {l : Lf} (hk : MLf A k l) : MLf A1 k l := by
  obtain ⟨h1, h2, h3, h4, h5, h6⟩ := hk
  have g := h.at h1
  exact ⟨h.nd h1, g.1.trans h2, g.2.2.2.1.trans h3, g.2.2.2.2.1.trans h4, g.2.2.2.2.2.trans h5, h6⟩
theorem MAll_ag (h : NdAg A A1) {α : Type} {P P' : Int → α → Prop} (hb : ∀ k x, P k x → ndIn A k) (hP : ∀ k x, P k x → P' k x) (k : Int) (l : List α) (hk : MAllP A P k l) : MAllP A1 P' k l := by
  obtain ⟨h1, h2, h3, h4⟩ := hk
  have g := h.at h1
  exact ⟨h.nd h1, g.1.trans h2, h3, by rw [g.2.1]; exact MCh_ag h hb hP _ _ h4⟩
theorem MAnyP_ag (h : NdAg A A1) {α : Type} {P P' : Int → α → Prop} (hb : ∀ k x, P k x → ndIn A k) (hP : ∀ k x, P k x → P' k x) (k : Int) (l : List (List α)) (hk : MAnyP A P k l) : MAnyP A1 P' k l := by
  obtain ⟨h1, h2, h3, h4⟩ := hk
  have g := h.at h1
  exact ⟨h.nd h1, g.1.trans h2, h3, by rw [g.2.1]; exact MCh_ag h (fun k x q => q.1) (fun k x q => MAll_ag h hb hP k x q) _ _ h4⟩
theorem MOne_ag (h : NdAg A A1) : ∀ (n : Nat) (k : Int) (o : One n), MOne A n k o → MOne A1 n k o
  | 0, k, o, hk => MLf_ag h hk
  | n + 1, k, .inl l, hk => MLf_ag (l := l) h hk
  | n + 1, k, .inr (.inl o), hk => by
    have hk' : ndIn A k ∧ A 144 k.toNat = 2 ∧ MOne A n (A 145 k.toNat) o := hk
    have g := h.at hk'.1
    exact ⟨h.nd hk'.1, g.1.trans hk'.2.1, by rw [g.2.1]; exact MOne_ag h n _ o hk'.2.2⟩
  | n + 1, k, .inr (.inr t), hk => MAnyP_ag (P := MOne A n) (P' := MOne A1 n) h (fun k x q => MOne.nd q) (fun k x q => MOne_ag h n k x q) k t hk
theorem MAny_ag (h : NdAg A A1) {n : Nat} {k : Int} {t : Any n} (hk : MAny A n k t) : MAny A1 n k t := MAnyP_ag (P := MOne A n) (P' := MOne A1 n) h (fun k x q => MOne.nd q) (fun k x q => MOne_ag h n k x q) k t hk
theorem WfS.ext {s : Nat} (h : WfS A s) (hn : NdAg A A1) (e : A1 139 s = A 139 s ∧ A1 140 s = A 140 s ∧ A1 141 s = A 141 s ∧ A1 142 s = A 142 s ∧ A1 143 s = A 143 s) : WfS A1 s := by
  unfold WfS at h ⊢
  rw [e.1, e.2.1, e.2.2.1, e.2.2.2.1, e.2.2.2.2]
  obtain ⟨a, b, c⟩ := h
  refine ⟨a, b, fun h0 => ?_⟩
  obtain ⟨c1, c2, c3, c4, c5, c6, c7, c8⟩ := c h0
  refine ⟨c1, c2, c3, c4, c5, c6, c7, ?_⟩
  rcases c8 with q | ⟨t, q⟩
  · exact Or.inl q
  · exact Or.inr ⟨t, MAny_ag hn q⟩
def PEx (A A1 : aS) (s m : Nat) : Prop := ∀ a k, ¬ ((139 ≤ a ∧ a ≤ 143) ∧ s ≤ k) → ¬ ((144 ≤ a ∧ a ≤ 149) ∧ m ≤ k) → ¬ (a = 91 ∧ k = 66) → A1 a k = A a k
theorem PEx.refl (A : aS) (s m : Nat) : PEx A A s m := fun _ _ _ _ _ => rfl
theorem PEx.trans {A2 : aS} {s m m' : Nat} (h : PEx A A1 s m) (h2 : PEx A1 A2 s m') (hm : m ≤ m') : PEx A A2 s m := fun a k g1 g2 g3 => (h2 a k g1 (fun q => g2 ⟨q.1, by omega⟩) g3).trans (h a k g1 g2 g3)
theorem PEx.set {s m : Nat} (h : PEx A A1 s m) (a k : Nat) (v : Int) (ha : 139 ≤ a ∧ a ≤ 143) (hk : s ≤ k) : PEx A (u2 A1 a k v) s m := by
  intro b j g1 g2 g3
  rw [show u2 A1 a k v b j = A1 b j from if_neg ?_]
  · exact h b j g1 g2 g3
  · rintro ⟨rfl, rfl⟩; exact g1 ⟨ha, hk⟩
theorem NEx.PEx {s m : Nat} (h : NEx A A1 m) : PEx A A1 s m := fun a k _ g2 g3 => h a k g2 g3
theorem PEx.WfC {s m : Nat} (h : PEx A A1 s m) (hC : WfC A) (hs : 40 * (A 91 65).toNat ≤ s) (hm : A 91 66 ≤ m) (h6 : A 91 66 ≤ A1 91 66) (h7 : A1 91 66 ≤ 7200) : WfC A1 := by
  have e65 : A1 91 65 = A 91 65 := h 91 65 (by omega) (by omega) (by omega)
  have hn : NdAg A A1 := ⟨h6, h7, fun j hj => ⟨h 144 j (by omega) (by omega) (by omega), h 145 j (by omega) (by omega) (by omega), h 146 j (by omega) (by omega) (by omega), h 147 j (by omega) (by omega) (by omega), h 148 j (by omega) (by omega) (by omega), h 149 j (by omega) (by omega) (by omega)⟩⟩
  refine ⟨by rw [e65]; exact hC.1, fun a ha => ?_⟩
  rw [e65] at ha
  have g := hC.2 a ha
  have e1 : A1 137 a = A 137 a := h 137 a (by omega) (by omega) (by omega)
  have e2 : A1 138 a = A 138 a := h 138 a (by omega) (by omega) (by omega)
  rw [e1, e2]
  refine ⟨g.1, g.2.1, fun j hj => (g.2.2 j hj).ext hn ?_⟩
  have hj4 : 40 * a + j < s := by have := g.1; omega
  exact ⟨h 139 _ (by omega) (by omega) (by omega), h 140 _ (by omega) (by omega) (by omega), h 141 _ (by omega) (by omega) (by omega), h 142 _ (by omega) (by omega) (by omega), h 143 _ (by omega) (by omega) (by omega)⟩
end
/-! how far a reading of a statement has come -/
def CuF (T : Nat → Int) (N s : Nat) (I : mI) (A : aS) (I1 : mI) (A1 : aS) (r : Nat) : Prop := FM I I1 ∧ RM I1 A1 ∧ Tx I1 T N r ∧ PEx A A1 s (A 91 66).toNat
def Cur (T : Nat → Int) (N s : Nat) (I : mI) (A : aS) (p : Nat) (I1 : mI) (A1 : aS) (r : Nat) : Prop := CuF T N s I A I1 A1 r ∧ A 91 66 ≤ A1 91 66 ∧ p ≤ r ∧ (A1 91 66).toNat + (N - r) ≤ (A 91 66).toNat + (N - p)
section
variable {T : Nat → Int} {N s p r r' a k : Nat} {I I1 I2 : mI} {A A1 A2 : aS} {v : Int}
theorem Cur.start (hR : RM I A) (ht : Tx I T N p) : Cur T N s I A p I A p := ⟨⟨FM.refl I, hR, ht, PEx.refl _ _ _⟩, Int.le_refl _, Nat.le_refl _, Nat.le_refl _⟩
theorem Cur.rm (h : Cur T N s I A p I1 A1 r) : RM I1 A1 := h.1.2.1
theorem Cur.t (h : Cur T N s I A p I1 A1 r) : Tx I1 T N r := h.1.2.2.1
theorem Cur.n (h : Cur T N s I A p I1 A1 r) : r ≤ N := h.t.2.2.2.1
theorem Cur.trans (h : Cur T N s I A p I1 A1 r) (h2 : Cur T N s I1 A1 r I2 A2 r') : Cur T N s I A p I2 A2 r' := by
  have g1 := h.2; have g2 := h2.2
  exact ⟨⟨h.1.1.trans h2.1.1, h2.1.2.1, h2.1.2.2.1, h.1.2.2.2.trans h2.1.2.2.2 (by omega)⟩, by omega, by omega, by omega⟩
theorem Cur.transF (h : Cur T N s I A p I1 A1 r) (h2 : CuF T N s I1 A1 I2 A2 r') : CuF T N s I A I2 A2 r' := by
  have g1 := h.2
  exact ⟨h.1.1.trans h2.1, h2.2.1, h2.2.2.1, h.1.2.2.2.trans h2.2.2.2 (by omega)⟩
theorem Cur.fr {ws : List Nat} {os : List (Nat × Nat)} (h : Cur T N s I A p I1 A1 r) (hf : Fr ws os I1 I2) (hr : RM I2 A1) (ht : Tx I2 T N r') (hw : (ws.all (fun a => decide (91 ≤ a ∧ a ≤ 154)) && os.all (fun q => decide (91 ≤ q.1 ∧ q.1 ≤ 154))) = true) (hle : r ≤ r') : Cur T N s I A p I2 A1 r' := by
  have g1 := h.2; have g2 := ht.2.2.2.1
  exact ⟨⟨h.1.1.trans (hf.FM hw), hr, ht, h.1.2.2.2⟩, g1.1, by omega, by omega⟩
theorem Cur.st (h : Cur T N s I A p I1 A1 r) (q : I2 = u2 I1 a k (oI v)) (q' : A2 = u2 A1 a k v) (hr : RM I2 A2) (ha : 139 ≤ a ∧ a ≤ 143) (hk : s ≤ k) : Cur T N s I A p I2 A2 r := by
  have e6 : A2 91 66 = A1 91 66 := by rw [q']; exact v2_ne (by omega)
  refine ⟨⟨?_, hr, ?_, ?_⟩, ?_⟩
  · rw [q]; exact h.1.1.wr (by omega)
  · rw [q]; exact h.t.wr (by omega) (by omega)
  · rw [q']; exact h.1.2.2.2.set a k v ha hk
  · rw [e6]; exact h.2
theorem Cur.sv (h : Cur T N s I A p I1 A1 r) (a : Nat) (hv : inR v) (ha : 139 ≤ a ∧ a ≤ 143) (hk : s ≤ k) (ho : okSet a k = true) : Cur T N s I A p (u2 I1 a k (oI v)) (u2 A1 a k v) r := h.st rfl rfl (h.rm.set a k hv ho) ha hk
theorem Cur.wfc (h : Cur T N s I A p I1 A1 r) (hC : WfC A) (hs : 40 * (A 91 65).toNat ≤ s) (h0 : 0 ≤ A 91 66) (hb : (A 91 66).toNat + (N - p) ≤ 7148) : WfC A1 ∧ A1 91 65 = A 91 65 ∧ 0 ≤ A1 91 66 ∧ (A1 91 66).toNat + (N - r) ≤ 7148 := by
  have g := h.2
  exact ⟨h.1.2.2.2.WfC hC hs (by omega) g.1 (by omega), h.1.2.2.2 91 65 (by omega) (by omega) (by omega), by omega, by omega⟩
end
def RdOk {α : Type} (T : Nat → Int) (N d L : Nat) (R : Nat → Nat → Option Nat) (S : List (Nat × Nat)) (m : Nat) (as : List Value) (s : Nat) (sp : Nat → Option α × Nat) (P : aS → aS → α → Prop) : Prop :=
  ∀ (I : mI) (A : aS) (p : Nat) (K : Int32 → mM → Prop), RM I A → Tx I T N p → WfC A → 40 * (A 91 65).toNat ≤ s → 0 ≤ A 91 66 → (A 91 66).toNat + (N - p) ≤ 7148 →
  (∀ (I1 : mI) (A1 : aS) (r : Nat), CuF T N s I A I1 A1 r → sp p = (none, r) → K (oI 0) (bd L I1 R S)) →
  (∀ (I1 : mI) (A1 : aS) (r : Nat) (o : α), Cur T N s I A p I1 A1 r → sp p = (some o, r) → P A A1 o → K (oI 1) (bd L I1 R S)) →
  CallI d m as (bd L I R S) K
def StB (s : Nat) (A : aS) (b : Bdy) : Prop := A 140 s = b.1 ∧ (¬ b.1 = 9 → A 141 s = b.2.1) ∧ (b.1 = 1 ∨ b.1 = 2 ∨ b.1 = 4 ∨ b.1 = 6 ∨ b.1 = 13 ∨ b.1 = 14 → A 142 s = b.2.2)
def StA (s : Nat) (A A1 : aS) (b : Bdy) : Prop := (A1 139 s = A 139 s ∧ A1 143 s = A 143 s) ∧ StB s A1 b
section
variable {T : Nat → Int} {N d L s : Nat} {R : Nat → Nat → Option Nat} {S : List (Nat × Nat)}
theorem k308 {kd : Int} (hs : s < 360) (hkd : inR kd) (hkn : ¬ (kd = 1 ∨ kd = 2 ∨ kd = 4 ∨ kd = 6 ∨ kd = 13 ∨ kd = 14)) : RdOk T N (d + 3) L R S 308 [.ref 91, .int (oI s), .int (oI kd)] s (plP T N kd) (StA s) := by
  intro I A p K hR ht hC hs0 hA hb k0 k1
  have hp := ht.2.2.2.1
  have hq := bl_in (T := T) hp
  have hg := dg_in (T := T) hq.2
  refine e308 (x1 := (s : Int)) hR ?_
  rw [Int.toNat_natCast]
  refine ⟨by omega, hkd, hC, Or.inr ⟨Or.inr rfl, hs0⟩, fun I5 A6 q5 q6 r6 => ?_⟩
  have c5 := (Cur.start (s := s) hR ht).st q5 q6 r6 (by decide) (Nat.le_refl s)
  refine ⟨T, N, p, c5.t, fun c I15 f15 r15 t15 w15 => ?_, fun c I15 f15 r15 t15 => ?_⟩
  · rw [w15]
    have h5 := c.2.2
    have c15 := (c5.fr f15 r15 t15 rfl (by omega)).sv (k := s) (v := nv T N (bl T N p)) 141 (by unfold inR; omega) (by decide) (Nat.le_refl s) rfl
    refine k1 _ _ _ _ c15 (by unfold plP; rw [rNum_p c]; rfl) ⟨⟨by rw [v2_ne (by decide), q6]; exact v2_ne (by decide), by rw [v2_ne (by decide), q6]; exact v2_ne (by decide)⟩, ?_, fun _ => v2_eq, fun h => absurd h hkn⟩
    rw [v2_ne (by decide), q6]; exact v2_eq
  · exact k0 _ _ _ (c5.fr f15 r15 t15 rfl (by omega)).1 (by unfold plP; rw [rNum_n c]; rfl)
theorem k310 {kd most ms : Int} {w : Int64} (hs : s < 360) (hkd : inR kd) (hm : inR most) (hms : inR ms) (hkn : ¬ kd = 9) : RdOk T N (d + 2) L R S 310 [.ref 91, .int (oI s), .int (oI kd), .int (oI most), .long w, .int (oI ms)] s (prP T N kd most w ms) (StA s) := by
  intro I A p K hR ht hC hs0 hA hb k0 k1
  have hp := ht.2.2.2.1
  have hq := bl_in (T := T) hp
  have hg := dg_in (T := T) hq.2
  have hq2 := bl_in (T := T) hg.2
  have hl := lt_in (T := T) hq2.2
  have hq3 := bl_in (T := T) hl.2
  have hg3 := dg_in (T := T) hq3.2
  refine e310 (x1 := (s : Int)) hR ?_
  rw [Int.toNat_natCast]
  refine ⟨by omega, hkd, hC, Or.inr ⟨Or.inr rfl, hs0⟩, fun I5 A6 q5 q6 r6 => ?_⟩
  have c5 := (Cur.start (s := s) hR ht).st q5 q6 r6 (by decide) (Nat.le_refl s)
  refine ⟨hm, T, N, p, c5.t, fun c I16 f16 r16 t16 w16 I22 A23 q22 q23 r23 => ?_, fun c I16 f16 r16 t16 => ?_⟩
  · rw [w16] at q22 q23
    have c22 := (c5.fr f16 r16 t16 rfl (by omega)).st q22 q23 r23 (by decide) (Nat.le_refl s)
    refine ⟨T, N, _, c22.t, fun c2 I32 f32 r32 t32 => ⟨hms, T, N, _, t32, fun c3 I44 f44 r44 t44 w44 => ?_, fun c3 I44 f44 r44 t44 => ?_⟩, fun c2 I32 f32 r32 t32 => ?_⟩
    · rw [w44]
      have h5 := c3.2.2
      have c44 := ((c22.fr f32 r32 t32 rfl (by omega)).fr f44 r44 t44 rfl (by omega)).sv (k := s) (v := nv T N (bl T N (lt T N (bl T N (dg T N (bl T N p)))))) 142 (by unfold inR at *; omega) (by decide) (Nat.le_refl s) rfl
      refine k1 _ _ _ _ c44 (by unfold prP; rw [rNum_p c]; dsimp only [bnd]; rw [rWord_p c2]; dsimp only; rw [rNum_p c3]) ⟨⟨by rw [v2_ne (by decide), q23, v2_ne (by decide), q6]; exact v2_ne (by decide), by rw [v2_ne (by decide), q23, v2_ne (by decide), q6]; exact v2_ne (by decide)⟩, ?_, fun _ => ?_, fun h => v2_eq⟩
      · rw [v2_ne (by decide), q23, v2_ne (by decide), q6]; exact v2_eq
      · rw [v2_ne (by decide), q23]; exact v2_eq
    · exact k0 _ _ _ ((c22.fr f32 r32 t32 rfl (by omega)).fr f44 r44 t44 rfl (by omega)).1 (by unfold prP; rw [rNum_p c]; dsimp only [bnd]; rw [rWord_p c2]; dsimp only; rw [rNum_n c3])
    · exact k0 _ _ _ (c22.fr f32 r32 t32 rfl (by omega)).1 (by unfold prP; rw [rNum_p c]; dsimp only [bnd]; rw [rWord_n c2])
  · exact k0 _ _ _ (c5.fr f16 r16 t16 rfl (by omega)).1 (by unfold prP; rw [rNum_n c]; rfl)
def WhB (s : Nat) (A : aS) (o : Option (Any 10)) : Prop := match o with
  | none => A 143 s = -1
  | some t => ∃ k e : Nat, A 143 s = (k : Int) ∧ PAny A (POne A 10) k e t ∧ (e : Int) ≤ A 91 66
def WhA (s : Nat) (A A1 : aS) (o : Option (Any 10)) : Prop := (A1 139 s = A 139 s ∧ A1 140 s = A 140 s ∧ A1 141 s = A 141 s ∧ A1 142 s = A 142 s) ∧ WhB s A1 o
theorem k313 {F : Nat} (hF : N < F) (hs : s < 360) : RdOk T N (d + 47) L R S 313 [.ref 91, .int (oI s)] s (ifP T N F) (WhA s) := by
  intro I A p K hR ht hC hs0 hA hb k0 k1
  have hp := ht.2.2.2.1
  have hq := bl_in (T := T) hp
  have hl := lt_in (T := T) hq.2
  refine e313 (d := d + 45) (x1 := (s : Int)) hR ?_
  rw [Int.toNat_natCast]
  refine ⟨by omega, fun I2 A3 q2 q3 r3 => ?_⟩
  have c2 := (Cur.start (s := s) hR ht).st q2 q3 r3 (by decide) (Nat.le_refl s)
  have e3 : A3 91 66 = A 91 66 := by rw [q3]; exact v2_ne (by decide)
  refine ⟨T, N, p, c2.t, fun c I12 f12 r12 t12 => ?_, fun c I12 f12 r12 t12 => ?_⟩
  · have c12 := c2.fr f12 r12 t12 rfl (by omega)
    refine k314 (d := d) hF _ A3 _ _ (r12.scr rfl) (t12.wr (by omega) (by decide)) (by rw [ld_w (inRd rfl), if_pos rfl]; rfl) (by omega) (by omega) ?_ ?_
    · intro I1 A1 r f1 r1 t1 d1 n1 e1
      refine ⟨-1, I1, A1, rfl, rfl, inRd rfl, r1, fun _ => ?_, fun q => absurd rfl q⟩
      refine k0 _ (u2 A1 143 s (-1)) r (c12.transF ⟨((FM.refl I12).wr (by decide) |>.trans f1).wr (by decide), r1.set 143 _ (inRd rfl) rfl, t1.wr (by omega) (by decide), n1.PEx.set 143 s (-1) (by decide) (Nat.le_refl s)⟩) ?_
      refine (if_pos c).trans ?_
      rw [e1]; rfl
    · intro I1 A1 r o e f1 r1 t1 d1 n1 e1 e2 P1 z1 c4
      have hs2 := an_in (T := T) (F := F) (n := 10) (p := lt T N (bl T N p)) (N := N) hl.2
      rw [e1] at hs2
      have hs1 : lt T N (bl T N p) ≤ r := hs2.1
      have hs3 : r ≤ N := hs2.2.1
      have hke := PAny_lt (A := A1) (POne_lt 10) _ _ _ P1
      refine ⟨A3 91 66, I1, A1, rfl, rfl, by unfold inR; omega, r1, fun q => absurd q (by omega), fun _ => ?_⟩
      have hcu : Cur T N s I12 A3 (lt T N (bl T N p)) (u2 I1 143 s (oI (A3 91 66))) (u2 A1 143 s (A3 91 66)) r := by
        refine ⟨⟨((FM.refl I12).wr (by decide) |>.trans f1).wr (by decide), r1.set 143 _ (by unfold inR; omega) rfl, t1.wr (by omega) (by decide), n1.PEx.set 143 s _ (by decide) (Nat.le_refl s)⟩, ?_, hs1, ?_⟩
        · rw [v2_ne (by decide), e2]; omega
        · rw [v2_ne (by decide), e2]; omega
      refine k1 _ (u2 A1 143 s (A3 91 66)) r (some o) (c12.trans hcu) ?_ ⟨?_, (A3 91 66).toNat, e, ?_, ?_, ?_⟩
      · refine (if_pos c).trans ?_
        rw [e1]; rfl
      · have g : ∀ a, 139 ≤ a → a ≤ 142 → u2 A1 143 s (A3 91 66) a s = A a s := by
          intro a h1 h2
          rw [v2_ne (by omega), n1 a s (by omega) (by omega), q3]; exact v2_ne (by omega)
        exact ⟨g 139 (by decide) (by decide), g 140 (by decide) (by decide), g 141 (by decide) (by decide), g 142 (by decide) (by decide)⟩
      · rw [v2_eq]; omega
      · refine PAny_st (P := POne A1 10) (P' := POne (u2 A1 143 s (A3 91 66)) 10) (POne_lt 10) (fun j _ _ => ⟨v2_ne (by decide), v2_ne (by decide), v2_ne (by decide), v2_ne (by decide), v2_ne (by decide)⟩) (fun j _ _ => v2_ne (by decide)) (fun k' e' x _ _ h3 => POne_st 10 k' e' x (fun j _ _ => ⟨v2_ne (by decide), v2_ne (by decide), v2_ne (by decide), v2_ne (by decide), v2_ne (by decide)⟩) (fun j _ _ => v2_ne (by decide)) h3) P1
      · rw [v2_ne (by decide), e2]; omega
  · have c12 := c2.fr f12 r12 t12 rfl (by omega)
    exact k1 I12 A3 (bl T N p) none c12 (if_neg c) ⟨⟨by rw [q3]; exact v2_ne (by decide), by rw [q3]; exact v2_ne (by decide), by rw [q3]; exact v2_ne (by decide), by rw [q3]; exact v2_ne (by decide)⟩, by show A3 143 s = -1; rw [q3]; exact v2_eq⟩
end
