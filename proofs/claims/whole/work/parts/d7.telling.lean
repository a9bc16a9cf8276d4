/-! a note more -/
section
variable {R : mR} {S : mSh} {I I1 : mI} {A A1 : aS} {n ow : Nat}
def kcB (a k : Nat) : Bool := decide (155 ≤ a) || [44, 57].contains a || (a == 43 && k == 7)
theorem kc_hi {a k : Nat} (h : 155 ≤ a) : kcB a k = true := by unfold kcB; rw [decide_eq_true h]; rfl
def KpB (B : Nat → Nat → Bool) (I I1 : mI) : Prop := ∀ a k, B a k = true → I1 a k = I a k
theorem KpB.refl {B : Nat → Nat → Bool} (I : mI) : KpB B I I := fun _ _ _ => rfl
theorem KpB.ld {B : Nat → Nat → Bool} (h : KpB B I I1) {a k : Nat} (hp : B a k = true) : ld I1 a k = ld I a k := by show (I1 a k).toInt = (I a k).toInt; rw [h a k hp]
theorem KpB.wr {B : Nat → Nat → Bool} {a k : Nat} {x : Int32} (h : KpB B I I1) (hp : B a k = false) : KpB B I (u2 I1 a k x) := by
  intro b j hb
  refine (if_neg ?_ : u2 I1 a k x b j = I1 b j).trans (h b j hb)
  rintro ⟨rfl, rfl⟩
  rw [hp] at hb
  cases hb
theorem CoC.kp (h : CoC R S I A) (hk : KpB kcB I I1) : CoC R S I1 A := by
  obtain ⟨h1, h2, h3, h4, h5, h6⟩ := h
  have e : Ext R S I R S I1 := Ext.same (fun a k ha => hk a k (kc_hi ha))
  refine ⟨fun y n hy hn => ⟨(h1 y n hy hn).1, fun hc => ?_⟩, fun y k hy h => ?_, h3, fun y hy => ?_, ?_, fun a j ha hj => ?_⟩
  · obtain ⟨p, p1, p2⟩ := (h1 y n hy hn).2 hc
    exact ⟨p, p1, p2.ext e⟩
  · rw [hk.ld rfl]; exact h2 y k hy h
  · rw [hk.ld rfl]; exact h4 y hy
  · rw [hk.ld rfl]; exact h5
  · obtain ⟨p, p1, p2⟩ := h6 a j ha hj
    exact ⟨p, p1, p2.ext e⟩
def kbB (a _k : Nat) : Bool := [33, 34, 35, 38, 39, 40, 41].contains a
def kpB (a _k : Nat) : Bool := a == 29
def kvB (a _k : Nat) : Bool := a == 87 || a == 90
def ksB (a k : Nat) : Bool := decide (155 ≤ a) || [1, 2, 3, 4, 6, 7, 54, 58].contains a || (a == 53 && (k == 1 || k == 3))
theorem ks_hi {a k : Nat} (h : 155 ≤ a) : ksB a k = true := by unfold ksB; rw [decide_eq_true h]; rfl
theorem BkC.kp (h : BkC I A) (hk : KpB kbB I I1) : BkC I1 A := by
  refine ⟨fun k h9 => ?_, fun o ho => ?_⟩
  · rw [hk.ld rfl, hk.ld rfl, hk.ld rfl, hk.ld rfl, hk.ld rfl]; exact h.1 k h9
  · rw [hk.ld rfl, hk.ld rfl]; exact h.2 o ho
theorem PrC.kp (h : PrC I A) (hk : KpB kpB I I1) : PrC I1 A := fun t y ht hy => by rw [hk.ld rfl]; exact h t y ht hy
theorem PoC.kp (h : PoC I A) (hk : KpB kvB I I1) : PoC I1 A := ⟨fun c hc => by rw [hk.ld rfl]; exact h.1 c hc, fun b hb => by rw [hk.ld rfl]; exact h.2 b hb⟩
theorem StC.kp (h : StC I) (hk : KpB ksB I I1) : StC I1 := ⟨fun k h9 => by rw [hk.ld rfl]; exact h.1 k h9, fun k h9 => by rw [hk.ld rfl]; exact h.2.1 k h9, fun k h9 => by rw [hk.ld rfl, hk.ld rfl]; exact h.2.2.1 k h9, by rw [hk.ld rfl]; exact h.2.2.2.1, by rw [hk.ld rfl]; exact h.2.2.2.2.1, fun k h9 => by rw [hk.ld rfl]; exact h.2.2.2.2.2 k h9⟩
theorem PnC.kp (h : PnC R S I) (hk : KpB ksB I I1) : PnC R S I1 := by
  obtain ⟨h0, b, n, h1, h2, h3, h4, h5, h6⟩ := h
  have hb : ∀ j, ksB b j = true := fun j => by
    rcases h2 with ⟨rfl, -⟩ | h2
    · rfl
    · exact ks_hi h2.1
  refine ⟨by rw [hk.ld rfl]; exact h0, b, n, h1, h2, h3, h4, fun j => ?_, by rw [hk.ld rfl]; exact h6⟩
  rw [hk.ld (hb j)]; exact h5 j
def mrT : List Nat := 91 :: mrA.map (fun q => q.2)
theorem RelC0.off {a k : Nat} {v : Int} (h : RelC0 I A) (ha : mrT.contains a = false) : RelC0 I (u2 A a k v) := by
  intro b j
  have h9 := h b j
  split
  · rename_i q hq
    rw [hq] at h9
    dsimp only at h9 ⊢
    rw [h9]
    refine (if_neg ?_).symm
    rintro ⟨e, -⟩
    have hm : mrT.contains q.1 = true := by
      rcases mr_cases hq with ⟨r, r1, r2, r3⟩ | ⟨r, r1, r2, r3, r4⟩
      · rw [r3]
        refine List.contains_iff_mem.mpr (List.mem_cons_of_mem _ ?_)
        exact List.mem_map_of_mem (f := fun q : Nat × Nat => q.2) r1
      · rw [r4]; rfl
    rw [e, ha] at hm
    cases hm
  · trivial
theorem fsO_none {o : Int} : ∀ (f k : Nat), fsO A o f k = -1 ∨ (∃ j : Nat, fsO A o f k = j ∧ k ≤ j ∧ j < k + f ∧ ownN A j = o)
  | 0, _ => Or.inl rfl
  | f + 1, k => by
    have e : fsO A o (f + 1) k = if ownN A k = o then (k : Int) else fsO A o f (k + 1) := rfl
    rw [e]
    by_cases c : ownN A k = o
    · rw [if_pos c]; exact Or.inr ⟨k, rfl, Nat.le_refl k, by omega, c⟩
    · rw [if_neg c]
      rcases fsO_none f (k + 1) with h | ⟨j, h1, h2, h3, h4⟩
      · exact Or.inl h
      · exact Or.inr ⟨j, h1, by omega, by omega, h4⟩
theorem fsO_some {o : Int} {j : Nat} (hj : ownN A j = o) : ∀ (f k : Nat), k ≤ j → j < k + f → ¬ fsO A o f k = -1
  | 0, k, h1, h2 => by omega
  | f + 1, k, h1, h2 => by
    have e : fsO A o (f + 1) k = if ownN A k = o then (k : Int) else fsO A o f (k + 1) := rfl
    rw [e]
    by_cases c : ownN A k = o
    · rw [if_pos c]; omega
    · rw [if_neg c]
      refine fsO_some hj f (k + 1) ?_ (by omega)
      by_cases q : j = k
      · rw [q] at hj; exact absurd hj c
      · omega
theorem fsO_up {o o' : Int} (ho : ownN A1 n = o) (hag : ∀ k, k < n → ownN A1 k = ownN A k) : ∀ (f k : Nat), k + f = n → fsO A1 o' (f + 1) k = if fsO A o' f k = -1 then (if o = o' then (n : Int) else -1) else fsO A o' f k
  | 0, k, h => by
    obtain rfl : k = n := by omega
    show (if ownN A1 k = o' then (k : Int) else -1) = if (-1 : Int) = -1 then (if o = o' then (k : Int) else -1) else -1
    rw [if_pos rfl, ho]
  | f + 1, k, h => by
    have ih := fsO_up (o' := o') ho hag f (k + 1) (by omega)
    have e1 : fsO A1 o' (f + 1 + 1) k = if ownN A1 k = o' then (k : Int) else fsO A1 o' (f + 1) (k + 1) := rfl
    have e2 : fsO A o' (f + 1) k = if ownN A k = o' then (k : Int) else fsO A o' f (k + 1) := rfl
    rw [e1, e2, ih, hag k (by omega)]
    by_cases c : ownN A k = o'
    · rw [if_pos c, if_pos c, if_neg (by omega)]
    · rw [if_neg c, if_neg c]
theorem lsO_ag {o' : Int} : ∀ m : Nat, (∀ k, k < m → ownN A1 k = ownN A k) → lsO A1 o' m = lsO A o' m
  | 0, _ => rfl
  | m + 1, h => by
    show (if ownN A1 m = o' then (m : Int) else lsO A1 o' m) = if ownN A m = o' then (m : Int) else lsO A o' m
    rw [h m (by omega), lsO_ag m (fun k hk => h k (by omega))]
theorem lsO_spec {o : Int} : ∀ m : Nat, (lsO A o m = -1 ∧ ∀ j, j < m → ¬ ownN A j = o) ∨ ∃ t : Nat, lsO A o m = t ∧ t < m ∧ ownN A t = o ∧ ∀ j, t < j → j < m → ¬ ownN A j = o
  | 0 => Or.inl ⟨rfl, fun j hj => by omega⟩
  | m + 1 => by
    have e : lsO A o (m + 1) = if ownN A m = o then (m : Int) else lsO A o m := rfl
    rw [e]
    by_cases c : ownN A m = o
    · rw [if_pos c]; exact Or.inr ⟨m, rfl, by omega, c, fun j h1 h2 => by omega⟩
    · rw [if_neg c]
      rcases lsO_spec (o := o) m with ⟨h1, h2⟩ | ⟨t, h1, h2, h3, h4⟩
      · refine Or.inl ⟨h1, fun j hj => ?_⟩
        by_cases q : j = m
        · rw [q]; exact c
        · exact h2 j (by omega)
      · refine Or.inr ⟨t, h1, by omega, h3, fun j hj hj2 => ?_⟩
        by_cases q : j = m
        · rw [q]; exact c
        · exact h4 j hj (by omega)
theorem BkC.new (hb : BkC I A) (hn : nN A = n) (hn1 : nN A1 = n + 1) (hag : ∀ k, k < n → frN A1 k = frN A k ∧ A1 106 k = A 106 k ∧ vlN A1 k = vlN A k ∧ A1 109 k = A 109 k ∧ ownN A1 k = ownN A k) (ho : ownN A1 n = (ow : Int)) (how : ow < 46) (h33 : ∀ k, ld I1 33 k = if k = n then frN A1 n else ld I 33 k) (h34 : ∀ k, ld I1 34 k = if k = n then A1 106 n else ld I 34 k) (h35 : ∀ k, ld I1 35 k = if k = n then vlN A1 n else ld I 35 k) (h38 : ∀ k, ld I1 38 k = if k = n then unN (A1 109 n) else ld I 38 k) (h39 : ∀ k, k ≤ n → ld I1 39 k = if k = n then -1 else if (k : Int) = ld I 41 ow then (n : Int) else ld I 39 k) (h40 : ∀ o, ld I1 40 o = if o = ow ∧ ld I 41 ow = -1 then (n : Int) else ld I 40 o) (h41 : ∀ o, ld I1 41 o = if o = ow then (n : Int) else ld I 41 o) : BkC I1 A1 := by
  have hoN : ∀ k, k < n → ownN A1 k = ownN A k := fun k hk => (hag k hk).2.2.2.2
  have tl := (hb.2 ow how).2
  rw [hn] at tl
  have sp := lsO_spec (A := A) (o := (ow : Int)) n
  rw [← tl] at sp
  refine ⟨fun k hk => ?_, fun o hoo => ?_⟩
  · rw [hn1] at hk
    rw [h33, h34, h35, h38, h39 k (by omega)]
    by_cases c : k = n
    · subst c
      rw [if_pos rfl, if_pos rfl, if_pos rfl, if_pos rfl, if_pos rfl]
      refine ⟨rfl, rfl, rfl, rfl, ?_⟩
      show (-1 : Int) = fsO A1 _ (nN A1 - (k + 1)) (k + 1)
      rw [hn1, Nat.sub_self]
      rfl
    · have hk2 : k < n := by omega
      rw [if_neg c, if_neg c, if_neg c, if_neg c, if_neg c]
      obtain ⟨a1, a2, a3, a4, a5⟩ := hag k hk2
      obtain ⟨b1, b2, b3, b4, b5⟩ := hb.1 k (by omega)
      refine ⟨b1.trans a1.symm, b2.trans a2.symm, b3.trans a3.symm, by rw [a4]; exact b4, ?_⟩
      have e : fstO A1 (ownN A1 k) (k + 1) = fsO A1 (ownN A k) ((n - (k + 1)) + 1) (k + 1) := by
        unfold fstO
        rw [hn1, a5, show n + 1 - (k + 1) = n - (k + 1) + 1 by omega]
      have e2 : fstO A (ownN A k) (k + 1) = fsO A (ownN A k) (n - (k + 1)) (k + 1) := by
        unfold fstO
        rw [hn]
      rw [e, fsO_up (A := A) ho hoN _ _ (by omega), b5, e2]
      by_cases q : (k : Int) = ld I 41 ow
      · rw [if_pos q]
        rcases sp with ⟨s1, s2⟩ | ⟨t, s1, s2, s3, s4⟩
        · omega
        · have ht : t = k := by omega
          rw [ht] at s3 s4
          rcases fsO_none (A := A) (o := ownN A k) (n - (k + 1)) (k + 1) with h | ⟨j, h1, h2, h3, h4⟩
          · rw [if_pos h, if_pos s3.symm]
          · exact absurd (h4.trans s3) (s4 j (by omega) (by omega))
      · rw [if_neg q]
        by_cases q2 : ownN A k = ow
        · rcases sp with ⟨s1, s2⟩ | ⟨t, s1, s2, s3, s4⟩
          · exact absurd q2 (s2 k hk2)
          · have : k < t := by
              apply Classical.byContradiction
              intro h
              by_cases h9 : k = t
              · rw [h9] at q; exact q s1.symm
              · exact s4 k (by omega) hk2 q2
            rw [if_neg (fsO_some (j := t) (s3.trans q2.symm) _ _ (by omega) (by omega))]
        · split
          · rename_i h
            rw [if_neg (fun h => q2 h.symm), h]
          · rfl
  · rw [h40, h41]
    have e : fstO A1 (o : Int) 0 = fsO A1 (o : Int) (n + 1) 0 := by unfold fstO; rw [hn1]; rfl
    have e2 : fstO A (o : Int) 0 = fsO A (o : Int) n 0 := by unfold fstO; rw [hn]; rfl
    obtain ⟨b1, b2⟩ := hb.2 o hoo
    constructor
    · rw [e, fsO_up (A := A) ho hoN _ _ (by omega), b1, e2]
      by_cases c : o = ow
      · subst c
        rcases sp with ⟨s1, s2⟩ | ⟨t, s1, s2, s3, s4⟩
        · rw [if_pos ⟨rfl, s1⟩]
          rcases fsO_none (A := A) (o := (o : Int)) n 0 with h | ⟨j, h1, h2, h3, h4⟩
          · rw [if_pos h, if_pos rfl]
          · exact absurd h4 (s2 j (by omega))
        · rw [if_neg (by omega), if_neg (fsO_some (j := t) s3 _ _ (by omega) (by omega))]
      · rw [if_neg (fun h => c h.1)]
        split
        · rename_i h
          rw [if_neg (by omega), h]
        · rfl
    · have e3 : lsO A1 (o : Int) (nN A1) = if ownN A1 n = (o : Int) then (n : Int) else lsO A1 (o : Int) n := by rw [hn1]; rfl
      rw [e3, ho, lsO_ag n hoN, b2, hn]
      by_cases c : o = ow
      · rw [if_pos c, if_pos (by omega)]
      · rw [if_neg c, if_neg (by omega)]
end
