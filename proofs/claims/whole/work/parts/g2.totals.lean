/-! how much is written: at most 1000 signs an act -/
section
variable {F N p r s y n ac m k i : Nat} {T : Nat → Int} {A A1 : aS} {o : Stm} {l : List Stm} {g g1 g2 : Nat → Nat} {x1 x2 ans : Int}
theorem sm_prog (hp : p ≤ N) (h : smP T N F p = (some o, r)) : p ≤ r ∧ r ≤ N := by
  by_cases h0 : o.2.1.1 = 0
  · have e9 := h
    unfold smP at e9
    obtain ⟨om, q1, z1, h2⟩ := bnd_some e9
    obtain ⟨n, q2, z2, h3⟩ := bnd_some h2
    obtain ⟨bt, q3, z3, h4⟩ := bnd_some h3
    obtain ⟨u, q4, z4, h5⟩ := bnd_some h4
    cases h5
    have hq2 := bl_in (T := T) hp
    have hl := lt_in (T := T) hq2.2
    have g1 : p ≤ q1 ∧ q1 ≤ N := by
      unfold omP at z1
      split at z1
      · cases z1; exact ⟨Nat.le_trans hq2.1 hl.1, hl.2⟩
      · split at z1
        · cases z1; exact ⟨Nat.le_trans hq2.1 hl.1, hl.2⟩
        · cases z1
    have l2 := rN_long g1.2 z2
    unfold inP at z3
    by_cases com : om = true
    · rw [if_pos com] at z3
      cases z3
      have l4 := rS_long l2.2.1 z4
      omega
    · rw [if_neg com] at z3
      obtain ⟨u2, q5, z5, z6⟩ := bnd_some z3
      have l5 := rS_long l2.2.1 z5
      unfold rdP at z6
      have hq5 := bl_in (T := T) l5.2
      rcases kw_tk (T := T) (N := N) (q := bl T N q5) hq5.2 _ rfl with ⟨k1, -⟩ | ⟨k1, k2, k3⟩
      · rw [if_pos k1] at z6; cases z6
      · rw [if_neg (by omega)] at z6
        obtain ⟨b, q6, e7, e8⟩ := bnd_some z6
        have hl5 := lt_in (T := T) hq5.2
        have hb1 := (bd_long k3 hl5.2 (chg_lt hq5.2) e7).2.1
        exfalso
        split at e8
        · cases e8
          have : b.1 = 0 := h0
          omega
        · obtain ⟨t, q7, e9, e10⟩ := bnd_some e8
          cases e10
          have : b.1 = 0 := h0
          omega
  · have h1 := sm_long hp h h0
    have h2 : 1 ≤ (rnd ([], false) (cT o)).1.length := by
      have e : rnd ([], false) (cT o) = rnd (stk ([], false) (tW wClause)) (tN o.1 :: tS 58 :: (tW (bdW o.2.1.1) :: (bdR o.2.1.1 o.2.1.2.1 o.2.1.2.2 ++ cTw o.2.2) ++ [tS 59])) := rfl
      rw [e]
      refine Nat.le_trans ?_ (rnd_le _ _)
      decide
    omega
def tl (o : Stm) : Nat := if o.2.1.1 = 0 then 0 else (rnd ([], false) (cT o)).1.length
def tls : List Stm → Nat
  | [] => 0
  | o :: l => tl o + tls l
theorem acP_sum : ∀ (c p r : Nat) (l : List Stm), p ≤ N → acP T N F c p = (some l, r) → 4 * tls l ≤ 5 * (N - p)
  | 0, p, r, l, hp, h => by
    have h9 : (if bl T N p < N then (none, bl T N p) else (some [], bl T N p)) = ((some l, r) : Option (List Stm) × Nat) := h
    split at h9
    · cases h9
    · cases h9
      exact Nat.zero_le _
  | c + 1, p, r, l, hp, h => by
    rw [acP_succ] at h
    split at h
    · obtain ⟨o, r1, e1, h2⟩ := bnd_some h
      obtain ⟨l2, r2, e2, h3⟩ := bnd_some h2
      cases h3
      have hq := bl_in (T := T) hp
      have hr1 := sm_prog hq.2 e1
      have ih := acP_sum c r1 _ l2 hr1.2 e2
      have e : tls (o :: l2) = tl o + tls l2 := rfl
      have ht : 4 * tl o ≤ 5 * (r1 - bl T N p) := by
        unfold tl
        by_cases h0 : o.2.1.1 = 0
        · rw [if_pos h0]; omega
        · rw [if_neg h0]; exact (sm_long hq.2 e1 h0).1
      omega
    · cases h
      exact Nat.zero_le _
/-- a sum from k on -/
def tsf (g : Nat → Nat) (k : Nat) : Nat → Nat
  | 0 => 0
  | n + 1 => g k + tsf g (k + 1) n
theorem tsf_le : ∀ (n k : Nat), (∀ j, k ≤ j → j < k + n → g1 j ≤ g2 j) → tsf g1 k n ≤ tsf g2 k n
  | 0, _, _ => Nat.le_refl _
  | n + 1, k, h => Nat.add_le_add (h k (Nat.le_refl _) (by omega)) (tsf_le n (k + 1) (fun j h1 h2 => h j (by omega) (by omega)))
theorem tsf_eq : ∀ (n k : Nat), (∀ j, k ≤ j → j < k + n → g1 j = g2 j) → tsf g1 k n = tsf g2 k n
  | 0, _, _ => rfl
  | n + 1, k, h => by
    show g1 k + tsf g1 (k + 1) n = g2 k + tsf g2 (k + 1) n
    rw [h k (Nat.le_refl _) (by omega), tsf_eq n (k + 1) (fun j h1 h2 => h j (by omega) (by omega))]
theorem tsf_two : ∀ (n k : Nat), (∀ j, k ≤ j → j < k + n → g1 j + g2 j ≤ g j) → tsf g1 k n + tsf g2 k n ≤ tsf g k n
  | 0, _, _ => Nat.le_refl _
  | n + 1, k, h => by
    have h1 := h k (Nat.le_refl _) (by omega)
    have h2 := tsf_two n (k + 1) (fun j h1 h2 => h j (by omega) (by omega))
    show g1 k + tsf g1 (k + 1) n + (g2 k + tsf g2 (k + 1) n) ≤ g k + tsf g (k + 1) n
    omega
theorem tsf_one : ∀ (n k : Nat), k ≤ i → i < k + n → g i ≤ tsf g k n
  | 0, k, h1, h2 => by omega
  | n + 1, k, h1, h2 => by
    show g i ≤ g k + tsf g (k + 1) n
    by_cases c : k = i
    · rw [c]; omega
    · have := tsf_one n (k + 1) (by omega) (by omega); omega
theorem tsf_add : ∀ (m n k : Nat), tsf g k (m + n) = tsf g k m + tsf g (k + m) n
  | 0, n, k => by rw [Nat.zero_add]; exact (Nat.zero_add _).symm
  | m + 1, n, k => by
    rw [show m + 1 + n = (m + n) + 1 by omega]
    show g k + tsf g (k + 1) (m + n) = g k + tsf g (k + 1) m + tsf g (k + (m + 1)) n
    rw [tsf_add m n (k + 1), show k + 1 + m = k + (m + 1) by omega]
    omega
theorem tsf_0 : ∀ (n k : Nat), (∀ j, k ≤ j → j < k + n → g j = 0) → tsf g k n = 0
  | 0, _, _ => rfl
  | n + 1, k, h => by
    show g k + tsf g (k + 1) n = 0
    rw [h k (Nat.le_refl _) (by omega), tsf_0 n (k + 1) (fun j h1 h2 => h j (by omega) (by omega))]
theorem tsf_ls : ∀ (l : List Stm) (n k : Nat), l.length ≤ n → (∀ j o, l[j]? = some o → g (k + j) = tl o) → (∀ j, k + l.length ≤ j → j < k + n → g j = 0) → tsf g k n = tls l
  | [], n, k, _, _, h => tsf_0 n k (fun j h1 h2 => h j h1 h2)
  | o :: l, 0, k, h, _, _ => absurd h (by rw [List.length_cons]; omega)
  | o :: l, n + 1, k, h, h1, h2 => by
    rw [List.length_cons] at h h2
    show g k + tsf g (k + 1) n = tl o + tls l
    have e := h1 0 o rfl
    rw [Nat.add_zero] at e
    rw [e, tsf_ls l n (k + 1) (by omega) (fun j o' hj => by
      have := h1 (j + 1) o' hj
      rw [show k + 1 + j = k + (j + 1) by omega]; exact this) (fun j hj hj2 => h2 j (by omega) (by omega))]
/-- the length of what statement s writes -/
noncomputable def lens (A : aS) (s : Nat) : Nat := if ((s % 40 : Nat) : Int) < A 137 (s / 40) ∧ ¬ A 140 s = 0 then (stX A s).length else 0
def Tot (A : aS) : Prop := tsf (lens A) 0 (40 * (A 91 65).toNat) ≤ 1000 * (A 91 65).toNat
theorem stX_old (hW : WfS A s) (h0 : ¬ A 140 s = 0) (hn : NdAg A A1) (e : A1 139 s = A 139 s ∧ A1 140 s = A 140 s ∧ A1 141 s = A 141 s ∧ A1 142 s = A 142 s ∧ A1 143 s = A 143 s) : stX A1 s = stX A s := by
  unfold stX ccT
  rw [smT_ko hW h0 hn e, e.1]
theorem lens_old {s : Nat} (hW : WfC A) (h65 : A 91 65 = (ac : Int)) (hs : s < 40 * ac) (hn : NdAg A A1) (h137 : A1 137 (s / 40) = A 137 (s / 40)) (e : A1 139 s = A 139 s ∧ A1 140 s = A 140 s ∧ A1 141 s = A 141 s ∧ A1 142 s = A 142 s ∧ A1 143 s = A 143 s) : lens A1 s = lens A s := by
  unfold lens
  rw [h137, e.2.1]
  by_cases c : ((s % 40 : Nat) : Int) < A 137 (s / 40) ∧ ¬ A 140 s = 0
  · rw [if_pos c, if_pos c]
    have g := (hW.2 (s / 40) (by omega)).2.2 (s % 40) (by omega)
    rw [show 40 * (s / 40) + s % 40 = s by omega] at g
    rw [stX_old g c.2 hn e]
  · rw [if_neg c, if_neg c]
theorem crX_len (hW : WfC A) : ∀ f n : Nat, (crX A (y : Int) f n).length ≤ tsf (fun s => if (n : Int) ≤ A 139 s ∧ A 139 s < ((n + f : Nat) : Int) then lens A s else 0) 0 (40 * (A 91 65).toNat)
  | 0, n => Nat.zero_le _
  | f + 1, n => by
    rw [crX_succ, List.length_append]
    have ih := crX_len hW f (n + 1)
    have h1 : (if cdS A (y : Int) (n : Int) = -1 then [] else stX A (cdS A (y : Int) (n : Int)).toNat).length ≤ tsf (fun s => if A 139 s = (n : Int) then lens A s else 0) 0 (40 * (A 91 65).toNat) := by
      by_cases c : cdS A (y : Int) (n : Int) = -1
      · rw [if_pos c]; exact Nat.zero_le _
      · rw [if_neg c]
        obtain ⟨s, z1, -, -, z4, z5, a, j, z6, z7, z8⟩ := cdS_wf hW c
        have g := (hW.2 a z7).1
        have hj : j < 40 := by omega
        have hd : s / 40 = a := by omega
        have hm : s % 40 = j := by omega
        have e : (fun s => if A 139 s = (n : Int) then lens A s else 0) s = (stX A s).length := by
          show (if A 139 s = (n : Int) then lens A s else 0) = _
          rw [if_pos z4]
          unfold lens
          rw [if_pos ⟨by rw [hd, hm]; omega, z5⟩]
        rw [z1, Int.toNat_natCast, ← e]
        exact tsf_one (g := fun s => if A 139 s = (n : Int) then lens A s else 0) (i := s) (40 * (A 91 65).toNat) 0 (Nat.zero_le _) (by omega)
    refine Nat.le_trans (Nat.add_le_add h1 ih) (tsf_two _ 0 (fun j _ _ => ?_))
    show (if A 139 j = (n : Int) then lens A j else 0) + (if ((n + 1 : Nat) : Int) ≤ A 139 j ∧ A 139 j < ((n + 1 + f : Nat) : Int) then lens A j else 0) ≤ (if (n : Int) ≤ A 139 j ∧ A 139 j < ((n + (f + 1) : Nat) : Int) then lens A j else 0)
    by_cases c : A 139 j = (n : Int)
    · rw [if_pos c, if_neg (by omega), if_pos (by omega)]; exact Nat.le_refl _
    · rw [if_neg c]
      by_cases c2 : ((n + 1 : Nat) : Int) ≤ A 139 j ∧ A 139 j < ((n + 1 + f : Nat) : Int)
      · rw [if_pos c2, if_pos (by omega)]; omega
      · rw [if_neg c2]; exact Nat.zero_le _
theorem Tot.wfw (h : Tot A) (hW : WfC A) : WfW A := fun y hy => by
  obtain ⟨Y, rfl⟩ : ∃ Y : Nat, y = (Y : Int) := ⟨y.toNat, by omega⟩
  rw [cdX_crX hW]
  have h1 := crX_len (y := Y) hW 60 1
  have h2 : tsf (fun s => if ((1 : Nat) : Int) ≤ A 139 s ∧ A 139 s < ((1 + 60 : Nat) : Int) then lens A s else 0) 0 (40 * (A 91 65).toNat) ≤ tsf (lens A) 0 (40 * (A 91 65).toNat) := tsf_le _ 0 (fun j _ _ => by
    show (if ((1 : Nat) : Int) ≤ A 139 j ∧ A 139 j < ((1 + 60 : Nat) : Int) then lens A j else 0) ≤ lens A j
    split
    · exact Nat.le_refl _
    · exact Nat.zero_le _)
  have h3 : Tot A := h
  unfold Tot at h3
  have h4 := hW.1
  omega
theorem Tot.old (h : Tot A) (hW : WfC A) (h65 : A 91 65 = (ac : Int)) (hn : NdAg A A1) (e : ∀ s : Nat, s < 40 * ac → A1 137 (s / 40) = A 137 (s / 40) ∧ A1 139 s = A 139 s ∧ A1 140 s = A 140 s ∧ A1 141 s = A 141 s ∧ A1 142 s = A 142 s ∧ A1 143 s = A 143 s) : tsf (lens A1) 0 (40 * ac) ≤ 1000 * ac := by
  have h2 : Tot A := h
  unfold Tot at h2
  rw [h65, Int.toNat_natCast] at h2
  rw [tsf_eq (g2 := lens A) (40 * ac) 0 (fun j _ hj => lens_old hW h65 (by omega) hn (e j (by omega)).1 (e j (by omega)).2)]
  exact h2
theorem Tot.ko (h : Tot A) (hW : WF A) (hk : Ko [65, 66] [137, 138, 139, 140, 141, 142, 143, 144, 145, 146, 147, 148, 149] A A1) : Tot A1 := by
  have hWC : WfC A := hW.2.2.2.2.2.2.2.2.2.2.1
  have hD1 := hW.2.2.2.2.2.2.2.2.1.1
  have hc1 := hWC.1
  obtain ⟨ac, h65⟩ : ∃ ac : Nat, A 91 65 = (ac : Int) := ⟨(A 91 65).toNat, by omega⟩
  have e65 : A1 91 65 = A 91 65 := hk.s (k := 65) rfl
  have e66 : A1 91 66 = A 91 66 := hk.s (k := 66) rfl
  unfold Tot
  rw [e65, h65, Int.toNat_natCast]
  exact h.old hWC h65 ⟨by rw [e66]; exact Int.le_refl _, by rw [e66]; omega, fun j _ => ⟨hk 144 j rfl, hk 145 j rfl, hk 146 j rfl, hk 147 j rfl, hk 148 j rfl, hk 149 j rfl⟩⟩ (fun s _ => ⟨hk 137 _ rfl, hk 139 _ rfl, hk 140 _ rfl, hk 141 _ rfl, hk 142 _ rfl, hk 143 _ rfl⟩)
theorem Tot.no {r : Int} (h : Tot A) (hW : WF A) (hf : AcN A A1 r) : Tot A1 := by
  have hWC : WfC A := hW.2.2.2.2.2.2.2.2.2.2.1
  have hD1 := hW.2.2.2.2.2.2.2.2.1.1
  have hc1 := hWC.1
  obtain ⟨ac, h65⟩ : ∃ ac : Nat, A 91 65 = (ac : Int) := ⟨(A 91 65).toNat, by omega⟩
  unfold Tot
  rw [hf.2.2.2.2.1, h65, Int.toNat_natCast]
  exact h.old hWC h65 (hf.nd (by omega)) (fun s hs => ⟨(hf.sa hWC h65 (s / 40) (by omega)).1.symm, hf.st h65 hs⟩)
theorem stX_new {s : Nat} (hB : StmB s A1 o) (hok : StmOk o) (h66 : A1 91 66 ≤ 7200) (h0 : ¬ o.2.1.1 = 0) : stX A1 s = (rnd ([], false) (cT o)).1 := by
  obtain ⟨n, ⟨b, num, sec⟩, tr⟩ := o
  obtain ⟨h1, h2⟩ := hB
  dsimp only at h1 h2 h0
  rw [if_neg h0] at h2
  obtain ⟨⟨s1, s2, s3⟩, w⟩ := h2
  dsimp only at s1 s2 s3
  have e : ccT A1 (A1 139 s) s = cT (n, (b, num, sec), tr) := by
    unfold ccT smT cT
    rw [whT_new w h66, h1, s1, bdR_congr (n := A1 141 s) (n' := num) (s := A1 142 s) (s' := sec) (fun h => s2 h) (fun h => s3 (by omega))]
  unfold stX
  rw [e]
theorem Tot.fl (h : Tot A) (hW : WF A) (h65 : A 91 65 = (ac : Int)) (hf : AcF A A1 l y ac) (hN : N ≤ 800) (hs : acP (A 152) N F 40 0 = (some l, r)) : Tot A1 := by
  have hWC : WfC A := hW.2.2.2.2.2.2.2.2.2.2.1
  have hD1 := hW.2.2.2.2.2.2.2.2.1.1
  have h1 := h.old hWC h65 (hf.nd hD1.1) (fun s hs => ⟨(hf.sa hWC h65 (s / 40) (by omega)).1.symm, hf.st h65 hs⟩)
  have h2 := acP_sum 40 0 r l (Nat.zero_le _) hs
  have h3 : tsf (lens A1) (40 * ac) 40 = tls l := by
    refine tsf_ls l 40 (40 * ac) hf.2.2.2.2.2.2.1 (fun j o hj => ?_) (fun j hj hj2 => ?_)
    · obtain ⟨d1, d2⟩ := hf.2.2.2.2.2.2.2.1 j o hj
      have hj1 : j < l.length := by
        apply Classical.byContradiction
        intro h9
        rw [List.getElem?_eq_none (by omega)] at hj
        cases hj
      have hl := hf.2.2.2.2.2.2.1
      have e7 := hf.2.2.2.2.2.1
      have k40 := d1.k40
      unfold lens tl
      rw [show (40 * ac + j) % 40 = j by omega, show (40 * ac + j) / 40 = ac by omega, e7, k40.2]
      by_cases c : o.2.1.1 = 0
      · rw [if_neg (fun h => h.2 c), if_pos c]
      · rw [if_pos ⟨by omega, c⟩, if_neg c, stX_new d1 d2 hf.2.2.2.2.2.2.2.2.2 c]
    · unfold lens
      refine if_neg (fun h9 => ?_)
      have h10 := h9.1
      rw [show j / 40 = ac by omega, hf.2.2.2.2.2.1] at h10
      omega
  unfold Tot
  rw [hf.2.2.2.1, show ((ac : Int) + 1).toNat = ac + 1 by omega, show 40 * (ac + 1) = 40 * ac + 40 by omega, tsf_add, Nat.zero_add, h3]
  omega
theorem Tot.act (h : Tot A) (hW : WF A) (ha : ActB F A x1 x2 ans A1) : Tot A1 := by
  have hWC : WfC A := hW.2.2.2.2.2.2.2.2.2.2.1
  have hF3 : 0 ≤ A 91 67 ∧ A 91 67 ≤ 800 := hW.2.2.2.2.2.2.2.1
  have hc1 := hWC.1
  have ty := today_year hW.1
  rcases ha.1 with ⟨-, -, rfl⟩ | ⟨c, ⟨-, -, rfl⟩ | ⟨c8, hx, h67, hr⟩⟩
  · exact h
  · exact h
  · obtain ⟨N, rfl⟩ : ∃ N : Nat, x1 = (N : Int) := ⟨x1.toNat, by omega⟩
    obtain ⟨y, rfl⟩ : ∃ y : Nat, x2 = (y : Int) := ⟨x2.toNat, by omega⟩
    obtain ⟨ac, h65⟩ : ∃ ac : Nat, A 91 65 = (ac : Int) := ⟨(A 91 65).toNat, by omega⟩
    rcases hr with ⟨r, e1, -⟩ | ⟨r, l, e1, -⟩
    · rw [Int.toNat_natCast] at e1
      exact h.no hW (ha.no h65 (by omega) c.1.2 e1 c.2).2
    · rw [Int.toNat_natCast] at e1
      exact h.fl hW h65 (ha.fl hW h65 (by omega) c.1.2 e1 c.2).2 (by omega) e1
theorem Tot.wf (h : Tot A) (hW : WF A) (ha : ActB F A x1 x2 ans A1) : WF A1 ∧ Tot A1 := by
  have h1 := h.act hW ha
  exact ⟨wfAct hW ha.1 (h1.wfw (wcAct hW ha.1)), h1⟩
end
