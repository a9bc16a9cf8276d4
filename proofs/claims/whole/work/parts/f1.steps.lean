/-! steps over references and new cells -/
theorem zr_hi {a k : Nat} (h : 155 ≤ a) : zr a k = none := by
  unfold zr
  rw [List.getD_eq_getElem?_getD (l := zRf), List.getElem?_eq_none (by show 155 ≤ a; exact h)]
  rfl
theorem obJ.zr {S : mSh} {p kd n k : Nat} (h : obJ S p kd n) : zr p k = none := zr_hi h.1
theorem rfB_w {R : mR} {a k : Nat} {o : Option Nat} (h : zr a k = none) : u2 (rfB R) a k o = rfB (u2 R a k o) := by
  funext b j
  by_cases c : b = a ∧ j = k
  · have e1 : u2 (rfB R) a k o b j = o := if_pos c
    have e2 : u2 R a k o b j = o := if_pos c
    have e3 : rfB (u2 R a k o) b j = u2 R a k o b j := by unfold rfB; rw [c.1, c.2, h]
    rw [e1, e3, e2]
  · have e1 : u2 (rfB R) a k o b j = rfB R b j := if_neg c
    have e2 : u2 R a k o b j = R b j := if_neg c
    rw [e1]
    unfold rfB
    rw [e2]
theorem bd_wR {L : Nat} {I : mI} {R : mR} {S : mSh} {a k : Nat} {o : Option Nat} (h : zr a k = none) : wR (bd L I R S) a k o = bd L I (u2 R a k o) S := by
  show (I, u2 (rfB R) a k o, zSh L ++ S) = (I, rfB (u2 R a k o), zSh L ++ S)
  rw [rfB_w h]
def AlC (kd n : Nat) (I : mI) (R : mR) (S : mSh) (p : Nat) (I1 : mI) (R1 : mR) (S1 : mSh) : Prop := p = 155 + S.length ∧ S1 = S ++ [(kd, n)] ∧ (∀ k, I1 p k = 0) ∧ (∀ k, R1 p k = none) ∧ ∀ a k, ¬ a = p → I1 a k = I a k ∧ R1 a k = R a k
theorem mNew_bd {L : Nat} {I : mI} {R : mR} {S : mSh} {sh : Nat × Nat} : mNew (bd L I R S) sh = bd L (fun a k => if a = 155 + S.length then 0 else I a k) (fun a k => if a = 155 + S.length then none else R a k) (S ++ [sh]) := by
  unfold mNew
  rw [bd_len]
  refine Prod.ext rfl (Prod.ext ?_ ?_)
  · funext a k
    show (if a = 155 + S.length then none else rfB R a k) = rfB (fun a k => if a = 155 + S.length then none else R a k) a k
    unfold rfB
    by_cases c : a = 155 + S.length
    · rw [zr_hi (a := a) (by omega), if_pos c]; show none = if a = 155 + S.length then none else R a k; rw [if_pos c]
    · rw [if_neg c]
      cases zr a k with
      | some t => rfl
      | none => show R a k = if a = 155 + S.length then none else R a k; rw [if_neg c]
  · show (zSh L ++ S) ++ [sh] = zSh L ++ (S ++ [sh])
    exact List.append_assoc _ _ _
section
variable {L kd n p q k a : Nat} {I I1 : mI} {R R1 : mR} {S S1 : mSh}
theorem AlC.ob (h : AlC kd n I R S p I1 R1 S1) : obJ S1 p kd n := by
  obtain ⟨rfl, rfl, -⟩ := h
  refine ⟨by omega, ?_⟩
  rw [show 155 + S.length - 155 = S.length by omega, List.getElem?_append_right (Nat.le_refl _), Nat.sub_self]
  rfl
theorem AlC.keep (h : AlC kd n I R S p I1 R1 S1) {kd' n' : Nat} (ho : obJ S q kd' n') : obJ S1 q kd' n' ∧ ¬ q = p := by
  obtain ⟨rfl, rfl, -⟩ := h
  have hl : q - 155 < S.length := by
    apply Classical.byContradiction
    intro c
    have := ho.2
    rw [List.getElem?_eq_none (by omega)] at this
    cases this
  have := ho.1
  refine ⟨⟨ho.1, ?_⟩, by omega⟩
  rw [List.getElem?_append_left hl]
  exact ho.2
theorem al_mk : AlC kd n I R S (155 + S.length) (fun a k => if a = 155 + S.length then 0 else I a k) (fun a k => if a = 155 + S.length then none else R a k) (S ++ [(kd, n)]) :=
  ⟨rfl, rfl, fun _ => if_pos rfl, fun _ => if_pos rfl, fun _ _ h => ⟨if_neg h, if_neg h⟩⟩
end
/-- the pen's bytes: cell 54, or an array behind the first cells -/
def arB (S : mSh) (b n : Nat) : Prop := ((b = 54 ∧ n = 16) ∨ obJ S b 1 n) ∧ n ≤ 4000
section
variable {L b n a : Nat} {I : mI} {R : mR} {S : mSh}
theorem arB.sh (h : arB S b n) : (bd L I R S).2.2[b]? = some (1, n) := by
  rcases h.1 with ⟨rfl, rfl⟩ | h1
  · rfl
  · exact h1.sh
theorem arB.sp (h : arB S b n) : nSP ≤ b := by
  rcases h.1 with ⟨rfl, rfl⟩ | h1
  · decide
  · exact h1.sp
theorem arB.ne (h : arB S b n) (ha : a < 155 ∧ ¬ a = 54) : b ≠ a := by
  rcases h.1 with ⟨rfl, rfl⟩ | h1
  · exact fun h => ha.2 h.symm
  · exact h1.ne ha.1
theorem arB.en (h : arB S b n) (ha : a < 155 ∧ ¬ a = 54) : a ≠ b := fun e => h.ne ha e.symm
theorem arB.le (h : arB S b n) : n ≤ 1000000 := Nat.le_trans h.2 (by decide)
theorem arB.inR (h : arB S b n) : inR (n : Int) := by have := h.2; exact ⟨by omega, by omega⟩
end
theorem rf53p {L : Nat} {I : mI} {R : mR} {S : mSh} : (bd L I R S).2.1 53 0 = R 53 0 := rfl
section
variable {d n p q a b L m : Nat} {c v z x : Int} {is : List mIns} {ls st : List Value} {σ : mM} {Q : Option Value → mM → Prop} {I : mI} {R : mR} {S : mSh} {o : Option Nat}
theorem s53 (hs : (bd L I R S).2.2[p]? = some (b + 4, n)) (hp : nSP ≤ p) (ha : a < n) (hz : zr p a = none) (h : Wp d is ls st (bd L I (u2 R p a o) S) Q) : Wp d ((53, a, b, c) :: is) ls (vR o :: .ref p :: st) (bd L I R S) Q := by
  rw [← bd_wR hz] at h
  have hm : mOb (bd L I R S) p b a = true := mOb_of (kd := 0) hs hp ha
  cases o with
  | none => exact r_53n.mpr ⟨⟨hp, hm⟩, h⟩
  | some q => exact r_53.mpr ⟨⟨hp, hm⟩, h⟩
theorem s47 {N : Int} {n1 : Nat} (hs : (bd L I R S).2.2[p]? = some (3, n)) (hp : nSP ≤ p) (hi : 0 ≤ z ∧ z < N) (hN : decide (N ≤ (n : Int) ∧ n ≤ 1000000) = true) (hs1 : (bd L I R S).2.2[q]? = some (15, n1 + 1)) (hq : nSP ≤ q) (hr : zRf.getD p [] = []) (h : Wp d is ls st (bd L I (u2 R p z.toNat (some q)) S) Q) : Wp d ((47, a, b, c) :: is) ls (.ref q :: .int (oI z) :: .ref p :: st) (bd L I R S) Q := by
  have hz : zr p z.toNat = none := by unfold zr; rw [hr]; rfl
  rw [← bd_wR hz] at h
  refine r_47.mpr ⟨⟨hp, mIx_of hs hi hN, hq, mOb_of (kd := 0) hs1 hq (Nat.succ_pos _)⟩, ?_⟩
  rw [ix_nat hi hN]; exact h
theorem s47n {N : Int} (hs : (bd L I R S).2.2[p]? = some (3, n)) (hp : nSP ≤ p) (hi : 0 ≤ z ∧ z < N) (hN : decide (N ≤ (n : Int) ∧ n ≤ 1000000) = true) (hr : zRf.getD p [] = []) (h : Wp d is ls st (bd L I (u2 R p z.toNat none) S) Q) : Wp d ((47, a, b, c) :: is) ls (.null :: .int (oI z) :: .ref p :: st) (bd L I R S) Q := by
  have hz : zr p z.toNat = none := by unfold zr; rw [hr]; rfl
  rw [← bd_wR hz] at h
  refine r_47n.mpr ⟨⟨hp, mIx_of hs hi hN⟩, ?_⟩
  rw [ix_nat hi hN]; exact h
theorem s58 (hn : jNs.getD b 0 = n) (h : ∀ p I1 R1 S1, AlC (b + 4) n I R S p I1 R1 S1 → Wp d is ls (.ref p :: st) (bd L I1 R1 S1) Q) : Wp d ((58, a, b, c) :: is) ls st (bd L I R S) Q := by
  refine r_58.mpr ?_
  rw [mNew_bd, bd_len, hn]
  exact h _ _ _ _ al_mk
theorem s59 (hx : inR z) (hz : 0 ≤ z ∧ z ≤ 1000000) (h : ∀ p I1 R1 S1, AlC a z.toNat I R S p I1 R1 S1 → Wp d is ls (.ref p :: st) (bd L I1 R1 S1) Q) : Wp d ((59, a, b, c) :: is) ls (.int (oI z) :: st) (bd L I R S) Q := by
  refine r_59.mpr ⟨by rw [toInt_oI hx]; exact hz, ?_⟩
  rw [mNew_bd, bd_len, toInt_oI hx]
  exact h _ _ _ _ al_mk
theorem s75 (hp : nSP ≤ p) (hq : nSP ≤ q) (h1 : p = q → Wp d (gb a b) ls st σ Q) (h2 : ¬ p = q → Wp d is ls st σ Q) : Wp d ((75, a, b, c) :: is) ls (.ref p :: .ref q :: st) σ Q := r_75.mpr ⟨⟨hp, hq⟩, h1, h2⟩
theorem s85 (hx : -128 ≤ x ∧ x ≤ 127) (h : Q (some (.int (oI x))) σ) : Wp d ((85, a, b, c) :: is) ls [.int (oI x)] σ Q := by
  refine r_85.mpr ⟨?_, h⟩
  have h1 : iB x = x := iB_id hx
  have h2 : oI (iB x) = oI x := by rw [h1]
  unfold iB at h2
  rw [oI_toInt] at h2
  exact h2
theorem iC_id (hx : 0 ≤ x ∧ x ≤ 65535) : iC x = x := by
  unfold iC
  have h1 : (oI x).toUInt32.toNat = x.toNat := by
    have h2 : (oI x).toInt = x := toInt_oI ⟨by omega, by omega⟩
    have h3 : (oI x).toInt = ((oI x).toUInt32.toBitVec).toInt := rfl
    rw [h3, BitVec.toInt_eq_toNat_cond] at h2
    have h4 : (oI x).toUInt32.toNat = (oI x).toUInt32.toBitVec.toNat := rfl
    have h5 := (oI x).toUInt32.toBitVec.isLt
    rw [h4]
    split at h2 <;> omega
  have h2 : ((oI x).toUInt32 % 65536) = (oI x).toUInt32 := by
    apply UInt32.toNat_inj.mp
    rw [UInt32.toNat_mod, h1]
    show x.toNat % 65536 = x.toNat
    omega
  rw [h2]
  show (oI x).toInt = x
  exact toInt_oI ⟨by omega, by omega⟩
theorem s86 (hx : 0 ≤ x ∧ x ≤ 65535) (h : Q (some (.int (oI x))) σ) : Wp d ((86, a, b, c) :: is) ls [.int (oI x)] σ Q := by
  refine r_86.mpr ⟨?_, h⟩
  have h1 : iC x = x := iC_id hx
  have h2 : oI (iC x) = oI x := by rw [h1]
  unfold iC at h2
  rw [oI_toInt] at h2
  exact h2
theorem s107 (hl : st.length ≤ 4) (h : Wp (d + 1) is ls st σ Q) : Wp (d + 1) ((107, a, b, c) :: is) ls (.ref p :: st) σ Q := r_107.mpr ⟨hl, h⟩
theorem mIx_a {kd : Nat} (hs : σ.2.2[p]? = some (kd, n)) (hz : 0 ≤ z ∧ z < (n : Int)) (hn : n ≤ 1000000) : mIx σ p kd (oI z) = true := by
  unfold mIx
  rw [hs]
  dsimp only
  rw [toInt_oI ⟨by omega, by omega⟩]
  simp [hz.1, hz.2]
theorem ix_a (hz : 0 ≤ z ∧ z < (n : Int)) (hn : n ≤ 1000000) : (oI z).toInt.toNat = z.toNat := by rw [toInt_oI ⟨by omega, by omega⟩]
theorem s41a (hs : (bd L I R S).2.2[p]? = some (1, n)) (hz : 0 ≤ z ∧ z < (n : Int)) (hn : n ≤ 1000000) (hv : I p z.toNat = oI v) (h : Wp d is ls (.int (oI v) :: st) (bd L I R S) Q) : Wp d ((41, a, b, c) :: is) ls (.int (oI z) :: .ref p :: st) (bd L I R S) Q := by
  refine r_41.mpr ⟨mIx_a hs hz hn, ?_⟩
  rw [ix_a hz hn, bd_I, hv]; exact h
theorem s45a (hs : (bd L I R S).2.2[p]? = some (1, n)) (hp : nSP ≤ p) (hz : 0 ≤ z ∧ z < (n : Int)) (hn : n ≤ 1000000) (h : Wp d is ls st (bd L (u2 I p z.toNat (oI (iB v))) R S) Q) : Wp d ((45, a, b, c) :: is) ls (.int (oI v) :: .int (oI z) :: .ref p :: st) (bd L I R S) Q := by
  refine r_45.mpr ⟨⟨hp, mIx_a hs hz hn⟩, ?_⟩
  unfold iB at h
  rw [oI_toInt] at h
  rw [ix_a hz hn]; exact h
end
