theorem ivb61 {a b : Nat} {z : Int} {st : List Value} {r : Option (Nat × Nat) × List Value} (h : mbr (61, a, b, z) st = some r) : ∃ (y x : Int32) (st' : List Value), st = .int y :: .int x :: st' ∧ r = ((if x.toInt = y.toInt then some (a, b) else none), st') := by
  rcases st with _ | ⟨w0, _ | ⟨w1, st⟩⟩
  · cases h
  · cases w0 <;> cases h
  cases w0 with
  | int y =>
    cases w1 with
    | int x => exact ⟨y, x, st, rfl, (Option.some.inj h).symm⟩
    | _ => cases h
  | _ => cases h
theorem ivb62 {a b : Nat} {z : Int} {st : List Value} {r : Option (Nat × Nat) × List Value} (h : mbr (62, a, b, z) st = some r) : ∃ (y x : Int32) (st' : List Value), st = .int y :: .int x :: st' ∧ r = ((if x.toInt = y.toInt then none else some (a, b)), st') := by
  rcases st with _ | ⟨w0, _ | ⟨w1, st⟩⟩
  · cases h
  · cases w0 <;> cases h
  cases w0 with
  | int y =>
    cases w1 with
    | int x => exact ⟨y, x, st, rfl, (Option.some.inj h).symm⟩
    | _ => cases h
  | _ => cases h
theorem ivb63 {a b : Nat} {z : Int} {st : List Value} {r : Option (Nat × Nat) × List Value} (h : mbr (63, a, b, z) st = some r) : ∃ (y x : Int32) (st' : List Value), st = .int y :: .int x :: st' ∧ r = ((if x.toInt < y.toInt then some (a, b) else none), st') := by
  rcases st with _ | ⟨w0, _ | ⟨w1, st⟩⟩
  · cases h
  · cases w0 <;> cases h
  cases w0 with
  | int y =>
    cases w1 with
    | int x => exact ⟨y, x, st, rfl, (Option.some.inj h).symm⟩
    | _ => cases h
  | _ => cases h
theorem ivb64 {a b : Nat} {z : Int} {st : List Value} {r : Option (Nat × Nat) × List Value} (h : mbr (64, a, b, z) st = some r) : ∃ (y x : Int32) (st' : List Value), st = .int y :: .int x :: st' ∧ r = ((if x.toInt < y.toInt then none else some (a, b)), st') := by
  rcases st with _ | ⟨w0, _ | ⟨w1, st⟩⟩
  · cases h
  · cases w0 <;> cases h
  cases w0 with
  | int y =>
    cases w1 with
    | int x => exact ⟨y, x, st, rfl, (Option.some.inj h).symm⟩
    | _ => cases h
  | _ => cases h
theorem ivb65 {a b : Nat} {z : Int} {st : List Value} {r : Option (Nat × Nat) × List Value} (h : mbr (65, a, b, z) st = some r) : ∃ (y x : Int32) (st' : List Value), st = .int y :: .int x :: st' ∧ r = ((if y.toInt < x.toInt then some (a, b) else none), st') := by
  rcases st with _ | ⟨w0, _ | ⟨w1, st⟩⟩
  · cases h
  · cases w0 <;> cases h
  cases w0 with
  | int y =>
    cases w1 with
    | int x => exact ⟨y, x, st, rfl, (Option.some.inj h).symm⟩
    | _ => cases h
  | _ => cases h
theorem ivb66 {a b : Nat} {z : Int} {st : List Value} {r : Option (Nat × Nat) × List Value} (h : mbr (66, a, b, z) st = some r) : ∃ (y x : Int32) (st' : List Value), st = .int y :: .int x :: st' ∧ r = ((if y.toInt < x.toInt then none else some (a, b)), st') := by
  rcases st with _ | ⟨w0, _ | ⟨w1, st⟩⟩
  · cases h
  · cases w0 <;> cases h
  cases w0 with
  | int y =>
    cases w1 with
    | int x => exact ⟨y, x, st, rfl, (Option.some.inj h).symm⟩
    | _ => cases h
  | _ => cases h
theorem ivb67 {a b : Nat} {z : Int} {st : List Value} {r : Option (Nat × Nat) × List Value} (h : mbr (67, a, b, z) st = some r) : ∃ (x : Int32) (st' : List Value), st = .int x :: st' ∧ r = ((if x.toInt = 0 then some (a, b) else none), st') := by
  rcases st with _ | ⟨w0, st⟩
  · cases h
  cases w0 with
  | int x => exact ⟨x, st, rfl, (Option.some.inj h).symm⟩
  | _ => cases h
theorem ivb68 {a b : Nat} {z : Int} {st : List Value} {r : Option (Nat × Nat) × List Value} (h : mbr (68, a, b, z) st = some r) : ∃ (x : Int32) (st' : List Value), st = .int x :: st' ∧ r = ((if x.toInt = 0 then none else some (a, b)), st') := by
  rcases st with _ | ⟨w0, st⟩
  · cases h
  cases w0 with
  | int x => exact ⟨x, st, rfl, (Option.some.inj h).symm⟩
  | _ => cases h
theorem ivb69 {a b : Nat} {z : Int} {st : List Value} {r : Option (Nat × Nat) × List Value} (h : mbr (69, a, b, z) st = some r) : ∃ (x : Int32) (st' : List Value), st = .int x :: st' ∧ r = ((if x.toInt < 0 then some (a, b) else none), st') := by
  rcases st with _ | ⟨w0, st⟩
  · cases h
  cases w0 with
  | int x => exact ⟨x, st, rfl, (Option.some.inj h).symm⟩
  | _ => cases h
theorem ivb70 {a b : Nat} {z : Int} {st : List Value} {r : Option (Nat × Nat) × List Value} (h : mbr (70, a, b, z) st = some r) : ∃ (x : Int32) (st' : List Value), st = .int x :: st' ∧ r = ((if x.toInt < 0 then none else some (a, b)), st') := by
  rcases st with _ | ⟨w0, st⟩
  · cases h
  cases w0 with
  | int x => exact ⟨x, st, rfl, (Option.some.inj h).symm⟩
  | _ => cases h
theorem ivb71 {a b : Nat} {z : Int} {st : List Value} {r : Option (Nat × Nat) × List Value} (h : mbr (71, a, b, z) st = some r) : ∃ (x : Int32) (st' : List Value), st = .int x :: st' ∧ r = ((if 0 < x.toInt then some (a, b) else none), st') := by
  rcases st with _ | ⟨w0, st⟩
  · cases h
  cases w0 with
  | int x => exact ⟨x, st, rfl, (Option.some.inj h).symm⟩
  | _ => cases h
theorem ivb72 {a b : Nat} {z : Int} {st : List Value} {r : Option (Nat × Nat) × List Value} (h : mbr (72, a, b, z) st = some r) : ∃ (x : Int32) (st' : List Value), st = .int x :: st' ∧ r = ((if 0 < x.toInt then none else some (a, b)), st') := by
  rcases st with _ | ⟨w0, st⟩
  · cases h
  cases w0 with
  | int x => exact ⟨x, st, rfl, (Option.some.inj h).symm⟩
  | _ => cases h
theorem ivb73 {a b : Nat} {z : Int} {st : List Value} {r : Option (Nat × Nat) × List Value} (h : mbr (73, a, b, z) st = some r) : (∃ (q : Nat) (st' : List Value), st = .ref q :: st' ∧ r = (none, st')) ∨ (∃ st' : List Value, st = .null :: st' ∧ r = (some (a, b), st')) := by
  rcases st with _ | ⟨w0, st⟩
  · cases h
  cases w0 with
  | ref x => exact Or.inl ⟨x, st, rfl, (Option.some.inj h).symm⟩
  | null => exact Or.inr ⟨st, rfl, (Option.some.inj h).symm⟩
  | _ => cases h
theorem ivb74 {a b : Nat} {z : Int} {st : List Value} {r : Option (Nat × Nat) × List Value} (h : mbr (74, a, b, z) st = some r) : (∃ (q : Nat) (st' : List Value), st = .ref q :: st' ∧ r = (some (a, b), st')) ∨ (∃ st' : List Value, st = .null :: st' ∧ r = (none, st')) := by
  rcases st with _ | ⟨w0, st⟩
  · cases h
  cases w0 with
  | ref x => exact Or.inl ⟨x, st, rfl, (Option.some.inj h).symm⟩
  | null => exact Or.inr ⟨st, rfl, (Option.some.inj h).symm⟩
  | _ => cases h
theorem ivb75 {a b : Nat} {z : Int} {st : List Value} {r : Option (Nat × Nat) × List Value} (h : mbr (75, a, b, z) st = some r) : ∃ (x y : Nat) (st' : List Value), st = .ref x :: .ref y :: st' ∧ (nSP ≤ x ∧ nSP ≤ y) ∧ r = (if x = y then some (a, b) else none, st') := by
  rcases st with _ | ⟨w0, _ | ⟨w1, st⟩⟩
  · cases h
  · cases w0 <;> cases h
  cases w0 with
  | ref x =>
    cases w1 with
    | ref y =>
      have h : (if nSP ≤ x ∧ nSP ≤ y then some (if x = y then some (a, b) else none, st) else none) = some r := h
      split at h
      · rename_i hc; exact ⟨x, y, st, rfl, hc, (Option.some.inj h).symm⟩
      · cases h
    | _ => cases h
  | _ => cases h
theorem ivb76 {a b : Nat} {z : Int} {st : List Value} {r : Option (Nat × Nat) × List Value} (h : mbr (76, a, b, z) st = some r) : ∃ (x : Int32) (st' : List Value), st = .int x :: st' ∧ r = (some (a, mSel ((jSW.getD a []).getD b []) (x.toInt - z)), st') := by
  rcases st with _ | ⟨w0, st⟩
  · cases h
  cases w0 with
  | int x => exact ⟨x, st, rfl, (Option.some.inj h).symm⟩
  | _ => cases h
section
variable {p : Program} {l : Launch} {e : Env} {R : Room} {s : State} {m : MethodId} {args : Array Value} {below : List Frame} {meth : Method} {c : Code} {H : Heap} {locs : List Loc} {cells slots : Nat} {Q : State → Prop} {G : mG} {k : Nat}
theorem gAd_inj {x y : Nat} (hx : nSP ≤ x) (hy : nSP ≤ y) : gAd G x = gAd G y ↔ x = y := by
  rw [gAd_hi hx, gAd_hi hy]
  omega
theorem okJ_spec {i : mIns} {pc len : Nat} {off : Int} (h : okJ k i pc off len = true) : i.2.1 = k ∧ i.2.2.1 < jNb k ∧ (pc : Int) + off = (jS k i.2.2.1 : Int) ∧ len = 3 := by
  simp only [okJ, okB, Bool.and_eq_true, decide_eq_true_eq] at h
  obtain ⟨⟨h1, h2, h3⟩, h4⟩ := h
  exact ⟨h1, h2, h3, h4⟩
set_option maxHeartbeats 8000000 in
theorem simC {pc len : Nat} {i : mIns} {j : Instr} {st : List Value} {r : Option (Nat × Nat) × List Value} {lsR : Array Slot} (hd : decode (jMb k) pc = .ok (j, len)) (hok : okI k pc i j len = true) (h60 : 60 ≤ i.1) (h80 : i.1 < 80) (hs : mbr i st = some r) (C : gCx G k p s m args meth c)
    (kt : ∀ b, r.1 = some (k, b) → b < jNb k → W p l e R s m args below meth c H locs cells slots Q (F0 m (jS k b) lsR (r.2.map (gEn G))))
    (kf : r.1 = none → isT i = false → W p l e R s m args below meth c H locs cells slots Q (F0 m (pc + len) lsR (r.2.map (gEn G)))) : W p l e R s m args below meth c H locs cells slots Q (F0 m pc lsR (st.map (gEn G))) := by
  cases j with
  | goto off =>
    simp only [okI, Bool.and_eq_true, decide_eq_true_eq] at hok
    obtain ⟨h1, h2⟩ := hok
    obtain ⟨e1, e2, e3, rfl⟩ := okJ_spec h2
    obtain ⟨o, a, b, z⟩ := i
    dsimp only at h1 e1 e2 e3 hs
    subst h1 e1
    cases hs
    exact lv_goto C.1 C.2.1 hd e3 (kt b rfl e2)
  | if_icmp cd off =>
    cases cd with
    | eq =>
      simp only [okI, Bool.and_eq_true, decide_eq_true_eq] at hok
      obtain ⟨h1, h2⟩ := hok
      obtain ⟨e1, e2, e3, rfl⟩ := okJ_spec h2
      obtain ⟨o, a, b, z⟩ := i
      dsimp only at h1 e1 e2 e3 hs
      subst h1 e1
      obtain ⟨y, x, st', rfl, rfl⟩ := ivb61 hs
      refine lv_icmp_eq C.1 C.2.1 hd e3 (fun q => kt b ?_ e2) (fun q => kf ?_ rfl)
      · exact if_pos (by rw [q])
      · exact if_neg (fun h => q (Int32.toInt_inj.mp h))
    | ne =>
      simp only [okI, Bool.and_eq_true, decide_eq_true_eq] at hok
      obtain ⟨h1, h2⟩ := hok
      obtain ⟨e1, e2, e3, rfl⟩ := okJ_spec h2
      obtain ⟨o, a, b, z⟩ := i
      dsimp only at h1 e1 e2 e3 hs
      subst h1 e1
      obtain ⟨y, x, st', rfl, rfl⟩ := ivb62 hs
      refine lv_icmp_ne C.1 C.2.1 hd e3 (fun q => kt b ?_ e2) (fun q => kf ?_ rfl)
      · exact if_neg (fun h => q (Int32.toInt_inj.mp h))
      · exact if_pos (by rw [q])
    | lt =>
      simp only [okI, Bool.and_eq_true, decide_eq_true_eq] at hok
      obtain ⟨h1, h2⟩ := hok
      obtain ⟨e1, e2, e3, rfl⟩ := okJ_spec h2
      obtain ⟨o, a, b, z⟩ := i
      dsimp only at h1 e1 e2 e3 hs
      subst h1 e1
      obtain ⟨y, x, st', rfl, rfl⟩ := ivb63 hs
      refine lv_icmp_lt C.1 C.2.1 hd e3 (fun q => kt b ?_ e2) (fun q => kf ?_ rfl)
      · exact if_pos (Int32.lt_iff_toInt_lt.mp q)
      · exact if_neg (fun h => q (Int32.lt_iff_toInt_lt.mpr h))
    | ge =>
      simp only [okI, Bool.and_eq_true, decide_eq_true_eq] at hok
      obtain ⟨h1, h2⟩ := hok
      obtain ⟨e1, e2, e3, rfl⟩ := okJ_spec h2
      obtain ⟨o, a, b, z⟩ := i
      dsimp only at h1 e1 e2 e3 hs
      subst h1 e1
      obtain ⟨y, x, st', rfl, rfl⟩ := ivb64 hs
      refine lv_icmp_ge C.1 C.2.1 hd e3 (fun q => kt b ?_ e2) (fun q => kf ?_ rfl)
      · exact if_neg (by have := Int32.le_iff_toInt_le.mp q; omega)
      · exact if_pos (by rw [Int32.le_iff_toInt_le] at q; omega)
    | gt =>
      simp only [okI, Bool.and_eq_true, decide_eq_true_eq] at hok
      obtain ⟨h1, h2⟩ := hok
      obtain ⟨e1, e2, e3, rfl⟩ := okJ_spec h2
      obtain ⟨o, a, b, z⟩ := i
      dsimp only at h1 e1 e2 e3 hs
      subst h1 e1
      obtain ⟨y, x, st', rfl, rfl⟩ := ivb65 hs
      refine lv_icmp_gt C.1 C.2.1 hd e3 (fun q => kt b ?_ e2) (fun q => kf ?_ rfl)
      · exact if_pos (Int32.lt_iff_toInt_lt.mp q)
      · exact if_neg (fun h => q (Int32.lt_iff_toInt_lt.mpr h))
    | le =>
      simp only [okI, Bool.and_eq_true, decide_eq_true_eq] at hok
      obtain ⟨h1, h2⟩ := hok
      obtain ⟨e1, e2, e3, rfl⟩ := okJ_spec h2
      obtain ⟨o, a, b, z⟩ := i
      dsimp only at h1 e1 e2 e3 hs
      subst h1 e1
      obtain ⟨y, x, st', rfl, rfl⟩ := ivb66 hs
      refine lv_icmp_le C.1 C.2.1 hd e3 (fun q => kt b ?_ e2) (fun q => kf ?_ rfl)
      · exact if_neg (by have := Int32.le_iff_toInt_le.mp q; omega)
      · exact if_pos (by rw [Int32.le_iff_toInt_le] at q; omega)
  | ifCond cd off =>
    cases cd with
    | eq =>
      simp only [okI, Bool.and_eq_true, decide_eq_true_eq] at hok
      obtain ⟨h1, h2⟩ := hok
      obtain ⟨e1, e2, e3, rfl⟩ := okJ_spec h2
      obtain ⟨o, a, b, z⟩ := i
      dsimp only at h1 e1 e2 e3 hs
      subst h1 e1
      obtain ⟨x, st', rfl, rfl⟩ := ivb67 hs
      refine lv_if_eq C.1 C.2.1 hd e3 (fun q => kt b ?_ e2) (fun q => kf ?_ rfl)
      · exact if_pos (by rw [q]; rfl)
      · exact if_neg (fun h => q (Int32.toInt_inj.mp h))
    | ne =>
      simp only [okI, Bool.and_eq_true, decide_eq_true_eq] at hok
      obtain ⟨h1, h2⟩ := hok
      obtain ⟨e1, e2, e3, rfl⟩ := okJ_spec h2
      obtain ⟨o, a, b, z⟩ := i
      dsimp only at h1 e1 e2 e3 hs
      subst h1 e1
      obtain ⟨x, st', rfl, rfl⟩ := ivb68 hs
      refine lv_if_ne C.1 C.2.1 hd e3 (fun q => kt b ?_ e2) (fun q => kf ?_ rfl)
      · exact if_neg (fun h => q (Int32.toInt_inj.mp h))
      · exact if_pos (by rw [q]; rfl)
    | lt =>
      simp only [okI, Bool.and_eq_true, decide_eq_true_eq] at hok
      obtain ⟨h1, h2⟩ := hok
      obtain ⟨e1, e2, e3, rfl⟩ := okJ_spec h2
      obtain ⟨o, a, b, z⟩ := i
      dsimp only at h1 e1 e2 e3 hs
      subst h1 e1
      obtain ⟨x, st', rfl, rfl⟩ := ivb69 hs
      refine lv_if_lt C.1 C.2.1 hd e3 (fun q => kt b ?_ e2) (fun q => kf ?_ rfl)
      · exact if_pos (by rw [Int32.lt_iff_toInt_lt, Int32.toInt_zero] at q; exact q)
      · exact if_neg (by rw [Int32.lt_iff_toInt_lt, Int32.toInt_zero] at q; exact q)
    | ge =>
      simp only [okI, Bool.and_eq_true, decide_eq_true_eq] at hok
      obtain ⟨h1, h2⟩ := hok
      obtain ⟨e1, e2, e3, rfl⟩ := okJ_spec h2
      obtain ⟨o, a, b, z⟩ := i
      dsimp only at h1 e1 e2 e3 hs
      subst h1 e1
      obtain ⟨x, st', rfl, rfl⟩ := ivb70 hs
      refine lv_if_ge C.1 C.2.1 hd e3 (fun q => kt b ?_ e2) (fun q => kf ?_ rfl)
      · exact if_neg (by rw [Int32.le_iff_toInt_le, Int32.toInt_zero] at q; omega)
      · exact if_pos (by rw [Int32.le_iff_toInt_le, Int32.toInt_zero] at q; omega)
    | gt =>
      simp only [okI, Bool.and_eq_true, decide_eq_true_eq] at hok
      obtain ⟨h1, h2⟩ := hok
      obtain ⟨e1, e2, e3, rfl⟩ := okJ_spec h2
      obtain ⟨o, a, b, z⟩ := i
      dsimp only at h1 e1 e2 e3 hs
      subst h1 e1
      obtain ⟨x, st', rfl, rfl⟩ := ivb71 hs
      refine lv_if_gt C.1 C.2.1 hd e3 (fun q => kt b ?_ e2) (fun q => kf ?_ rfl)
      · exact if_pos (by rw [Int32.lt_iff_toInt_lt, Int32.toInt_zero] at q; exact q)
      · exact if_neg (by rw [Int32.lt_iff_toInt_lt, Int32.toInt_zero] at q; exact q)
    | le =>
      simp only [okI, Bool.and_eq_true, decide_eq_true_eq] at hok
      obtain ⟨h1, h2⟩ := hok
      obtain ⟨e1, e2, e3, rfl⟩ := okJ_spec h2
      obtain ⟨o, a, b, z⟩ := i
      dsimp only at h1 e1 e2 e3 hs
      subst h1 e1
      obtain ⟨x, st', rfl, rfl⟩ := ivb72 hs
      refine lv_if_le C.1 C.2.1 hd e3 (fun q => kt b ?_ e2) (fun q => kf ?_ rfl)
      · exact if_neg (by rw [Int32.le_iff_toInt_le, Int32.toInt_zero] at q; omega)
      · exact if_pos (by rw [Int32.le_iff_toInt_le, Int32.toInt_zero] at q; omega)
  | ifnull off =>
    simp only [okI, Bool.and_eq_true, decide_eq_true_eq] at hok
    obtain ⟨h1, h2⟩ := hok
    obtain ⟨e1, e2, e3, rfl⟩ := okJ_spec h2
    obtain ⟨o, a, b, z⟩ := i
    dsimp only at h1 e1 e2 e3 hs
    subst h1 e1
    rcases ivb73 hs with ⟨x, st', rfl, rfl⟩ | ⟨st', rfl, rfl⟩
    · exact lv_ifnull C.1 C.2.1 hd (kf rfl rfl)
    · exact lv_ifnullN C.1 C.2.1 hd e3 (kt b rfl e2)
  | ifnonnull off =>
    simp only [okI, Bool.and_eq_true, decide_eq_true_eq] at hok
    obtain ⟨h1, h2⟩ := hok
    obtain ⟨e1, e2, e3, rfl⟩ := okJ_spec h2
    obtain ⟨o, a, b, z⟩ := i
    dsimp only at h1 e1 e2 e3 hs
    subst h1 e1
    rcases ivb74 hs with ⟨x, st', rfl, rfl⟩ | ⟨st', rfl, rfl⟩
    · exact lv_ifnonnull C.1 C.2.1 hd e3 (kt b rfl e2)
    · exact lv_ifnonnullN C.1 C.2.1 hd (kf rfl rfl)
  | if_acmp cd off =>
    cases cd with
    | eq =>
      simp only [okI, Bool.and_eq_true, decide_eq_true_eq] at hok
      obtain ⟨h1, h2⟩ := hok
      obtain ⟨e1, e2, e3, rfl⟩ := okJ_spec h2
      obtain ⟨o, a, b, z⟩ := i
      dsimp only at h1 e1 e2 e3 hs
      subst h1 e1
      obtain ⟨x, y, st', rfl, ⟨hx, hy⟩, rfl⟩ := ivb75 hs
      refine lv_acmp_eq (rx := some (gAd G y)) (ry := some (gAd G x)) C.1 C.2.1 hd e3 (fun q => kt b ?_ e2) (fun q => kf ?_ rfl)
      · exact if_pos ((gAd_inj hx hy).mp (Option.some.inj q).symm)
      · exact if_neg (fun h => q (by rw [h]))
    | ne => cases hok
  | tableswitch dflt lo hi offs =>
    simp only [okI, okB, Bool.and_eq_true, decide_eq_true_eq] at hok
    obtain ⟨⟨⟨⟨⟨⟨h1, h2⟩, h3⟩, h4⟩, h5⟩, h6, h7⟩, h8⟩ := hok
    obtain ⟨o, a, b, z⟩ := i
    dsimp only at h1 h2 h3 h4 h6 h7 h8 hs
    subst h1 h2 h3
    obtain ⟨x, st', rfl, rfl⟩ := ivb76 hs
    by_cases hx : x.toInt < lo ∨ hi < x.toInt
    · have e9 : mSel ((jSW.getD a []).getD b []) (x.toInt - lo) = ((jSW.getD a []).getD b []).getD 0 0 := if_neg (by rw [h4]; omega)
      refine lv_tableOut C.1 C.2.1 hd hx h7 ?_
      have k9 := kt _ rfl (by rw [e9]; exact h6)
      rw [e9] at k9
      exact k9
    · have e9 : mSel ((jSW.getD a []).getD b []) (x.toInt - lo) = ((jSW.getD a []).getD b []).getD ((x.toInt - lo).toNat + 1) 0 := if_pos (by rw [h4]; omega)
      have hlt : (x.toInt - lo).toNat < offs.size := by omega
      have h9 := List.all_eq_true.mp h8 _ (List.mem_range.mpr hlt)
      rw [Array.getElem?_eq_getElem hlt] at h9
      simp only [okB, Bool.and_eq_true, decide_eq_true_eq] at h9
      refine lv_tableIn C.1 C.2.1 hd (by omega) (by omega) (Array.getElem?_eq_getElem hlt) h9.2 ?_
      have k9 := kt _ rfl (by rw [e9]; exact h9.1)
      rw [e9] at k9
      exact k9
  | _ => first | (cases hok; done) | (simp only [okI, okJ, okF, okC, Bool.and_eq_true, Bool.or_eq_true, decide_eq_true_eq] at hok; omega)
end
