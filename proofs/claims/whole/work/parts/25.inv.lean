theorem inv16 {a b : Nat} {z : Int} {ls st : List Value} {σ : mM} {r : List Value × List Value × mM} (h : mstep (16, a, b, z) ls st σ = some r) : ∃ (y : Int32) (x : Int32) (st' : List Value), st = .int y :: .int x :: st' ∧ r = (ls, .int (x + y) :: st', σ) := by
  rcases st with _ | ⟨w0, st⟩
  · cases h
  cases w0 with
  | int y =>
    rcases st with _ | ⟨w1, st⟩
    · cases h
    cases w1 with
    | int x =>
      exact ⟨y, x, st, rfl, (Option.some.inj h).symm⟩
    | _ => cases h
  | _ => cases h
theorem inv17 {a b : Nat} {z : Int} {ls st : List Value} {σ : mM} {r : List Value × List Value × mM} (h : mstep (17, a, b, z) ls st σ = some r) : ∃ (y : Int32) (x : Int32) (st' : List Value), st = .int y :: .int x :: st' ∧ r = (ls, .int (x - y) :: st', σ) := by
  rcases st with _ | ⟨w0, st⟩
  · cases h
  cases w0 with
  | int y =>
    rcases st with _ | ⟨w1, st⟩
    · cases h
    cases w1 with
    | int x =>
      exact ⟨y, x, st, rfl, (Option.some.inj h).symm⟩
    | _ => cases h
  | _ => cases h
theorem inv18 {a b : Nat} {z : Int} {ls st : List Value} {σ : mM} {r : List Value × List Value × mM} (h : mstep (18, a, b, z) ls st σ = some r) : ∃ (y : Int32) (x : Int32) (st' : List Value), st = .int y :: .int x :: st' ∧ r = (ls, .int (x * y) :: st', σ) := by
  rcases st with _ | ⟨w0, st⟩
  · cases h
  cases w0 with
  | int y =>
    rcases st with _ | ⟨w1, st⟩
    · cases h
    cases w1 with
    | int x =>
      exact ⟨y, x, st, rfl, (Option.some.inj h).symm⟩
    | _ => cases h
  | _ => cases h
theorem inv22 {a b : Nat} {z : Int} {ls st : List Value} {σ : mM} {r : List Value × List Value × mM} (h : mstep (22, a, b, z) ls st σ = some r) : ∃ (y : Int32) (x : Int32) (st' : List Value), st = .int y :: .int x :: st' ∧ r = (ls, .int (x <<< (y &&& 31)) :: st', σ) := by
  rcases st with _ | ⟨w0, st⟩
  · cases h
  cases w0 with
  | int y =>
    rcases st with _ | ⟨w1, st⟩
    · cases h
    cases w1 with
    | int x =>
      exact ⟨y, x, st, rfl, (Option.some.inj h).symm⟩
    | _ => cases h
  | _ => cases h
theorem inv23 {a b : Nat} {z : Int} {ls st : List Value} {σ : mM} {r : List Value × List Value × mM} (h : mstep (23, a, b, z) ls st σ = some r) : ∃ (y : Int32) (x : Int32) (st' : List Value), st = .int y :: .int x :: st' ∧ r = (ls, .int (x >>> (y &&& 31)) :: st', σ) := by
  rcases st with _ | ⟨w0, st⟩
  · cases h
  cases w0 with
  | int y =>
    rcases st with _ | ⟨w1, st⟩
    · cases h
    cases w1 with
    | int x =>
      exact ⟨y, x, st, rfl, (Option.some.inj h).symm⟩
    | _ => cases h
  | _ => cases h
theorem inv24 {a b : Nat} {z : Int} {ls st : List Value} {σ : mM} {r : List Value × List Value × mM} (h : mstep (24, a, b, z) ls st σ = some r) : ∃ (y : Int32) (x : Int32) (st' : List Value), st = .int y :: .int x :: st' ∧ r = (ls, .int ((x.toUInt32 >>> (y.toUInt32 &&& Int32.toUInt32 31)).toInt32) :: st', σ) := by
  rcases st with _ | ⟨w0, st⟩
  · cases h
  cases w0 with
  | int y =>
    rcases st with _ | ⟨w1, st⟩
    · cases h
    cases w1 with
    | int x =>
      exact ⟨y, x, st, rfl, (Option.some.inj h).symm⟩
    | _ => cases h
  | _ => cases h
theorem inv25 {a b : Nat} {z : Int} {ls st : List Value} {σ : mM} {r : List Value × List Value × mM} (h : mstep (25, a, b, z) ls st σ = some r) : ∃ (y : Int32) (x : Int32) (st' : List Value), st = .int y :: .int x :: st' ∧ r = (ls, .int (x &&& y) :: st', σ) := by
  rcases st with _ | ⟨w0, st⟩
  · cases h
  cases w0 with
  | int y =>
    rcases st with _ | ⟨w1, st⟩
    · cases h
    cases w1 with
    | int x =>
      exact ⟨y, x, st, rfl, (Option.some.inj h).symm⟩
    | _ => cases h
  | _ => cases h
theorem inv26 {a b : Nat} {z : Int} {ls st : List Value} {σ : mM} {r : List Value × List Value × mM} (h : mstep (26, a, b, z) ls st σ = some r) : ∃ (y : Int32) (x : Int32) (st' : List Value), st = .int y :: .int x :: st' ∧ r = (ls, .int (x ||| y) :: st', σ) := by
  rcases st with _ | ⟨w0, st⟩
  · cases h
  cases w0 with
  | int y =>
    rcases st with _ | ⟨w1, st⟩
    · cases h
    cases w1 with
    | int x =>
      exact ⟨y, x, st, rfl, (Option.some.inj h).symm⟩
    | _ => cases h
  | _ => cases h
theorem inv27 {a b : Nat} {z : Int} {ls st : List Value} {σ : mM} {r : List Value × List Value × mM} (h : mstep (27, a, b, z) ls st σ = some r) : ∃ (y : Int32) (x : Int32) (st' : List Value), st = .int y :: .int x :: st' ∧ r = (ls, .int (x ^^^ y) :: st', σ) := by
  rcases st with _ | ⟨w0, st⟩
  · cases h
  cases w0 with
  | int y =>
    rcases st with _ | ⟨w1, st⟩
    · cases h
    cases w1 with
    | int x =>
      exact ⟨y, x, st, rfl, (Option.some.inj h).symm⟩
    | _ => cases h
  | _ => cases h
theorem inv21 {a b : Nat} {z : Int} {ls st : List Value} {σ : mM} {r : List Value × List Value × mM} (h : mstep (21, a, b, z) ls st σ = some r) : ∃ (x : Int32) (st' : List Value), st = .int x :: st' ∧ r = (ls, .int (-x) :: st', σ) := by
  rcases st with _ | ⟨w0, st⟩
  · cases h
  cases w0 with
  | int x =>
    exact ⟨x, st, rfl, (Option.some.inj h).symm⟩
  | _ => cases h
theorem inv28 {a b : Nat} {z : Int} {ls st : List Value} {σ : mM} {r : List Value × List Value × mM} (h : mstep (28, a, b, z) ls st σ = some r) : ∃ (x : Int32) (st' : List Value), st = .int x :: st' ∧ r = (ls, .int x.toInt8.toInt32 :: st', σ) := by
  rcases st with _ | ⟨w0, st⟩
  · cases h
  cases w0 with
  | int x =>
    exact ⟨x, st, rfl, (Option.some.inj h).symm⟩
  | _ => cases h
theorem inv29 {a b : Nat} {z : Int} {ls st : List Value} {σ : mM} {r : List Value × List Value × mM} (h : mstep (29, a, b, z) ls st σ = some r) : ∃ (x : Int32) (st' : List Value), st = .int x :: st' ∧ r = (ls, .int (x.toUInt32 % 65536).toInt32 :: st', σ) := by
  rcases st with _ | ⟨w0, st⟩
  · cases h
  cases w0 with
  | int x =>
    exact ⟨x, st, rfl, (Option.some.inj h).symm⟩
  | _ => cases h
theorem inv30 {a b : Nat} {z : Int} {ls st : List Value} {σ : mM} {r : List Value × List Value × mM} (h : mstep (30, a, b, z) ls st σ = some r) : ∃ (x : Int32) (st' : List Value), st = .int x :: st' ∧ r = (ls, .long x.toInt64 :: st', σ) := by
  rcases st with _ | ⟨w0, st⟩
  · cases h
  cases w0 with
  | int x =>
    exact ⟨x, st, rfl, (Option.some.inj h).symm⟩
  | _ => cases h
theorem inv31 {a b : Nat} {z : Int} {ls st : List Value} {σ : mM} {r : List Value × List Value × mM} (h : mstep (31, a, b, z) ls st σ = some r) : ∃ (x : Int64) (st' : List Value), st = .long x :: st' ∧ r = (ls, .int x.toInt32 :: st', σ) := by
  rcases st with _ | ⟨w0, st⟩
  · cases h
  cases w0 with
  | long x =>
    exact ⟨x, st, rfl, (Option.some.inj h).symm⟩
  | _ => cases h
theorem inv32 {a b : Nat} {z : Int} {ls st : List Value} {σ : mM} {r : List Value × List Value × mM} (h : mstep (32, a, b, z) ls st σ = some r) : ∃ (y : Int32) (x : Int64) (st' : List Value), st = .int y :: .long x :: st' ∧ r = (ls, .long (x <<< (y.toInt64 &&& 63)) :: st', σ) := by
  rcases st with _ | ⟨w0, st⟩
  · cases h
  cases w0 with
  | int y =>
    rcases st with _ | ⟨w1, st⟩
    · cases h
    cases w1 with
    | long x =>
      exact ⟨y, x, st, rfl, (Option.some.inj h).symm⟩
    | _ => cases h
  | _ => cases h
theorem inv33 {a b : Nat} {z : Int} {ls st : List Value} {σ : mM} {r : List Value × List Value × mM} (h : mstep (33, a, b, z) ls st σ = some r) : ∃ (y : Int32) (x : Int64) (st' : List Value), st = .int y :: .long x :: st' ∧ r = (ls, .long (x >>> (y.toInt64 &&& 63)) :: st', σ) := by
  rcases st with _ | ⟨w0, st⟩
  · cases h
  cases w0 with
  | int y =>
    rcases st with _ | ⟨w1, st⟩
    · cases h
    cases w1 with
    | long x =>
      exact ⟨y, x, st, rfl, (Option.some.inj h).symm⟩
    | _ => cases h
  | _ => cases h
theorem inv34 {a b : Nat} {z : Int} {ls st : List Value} {σ : mM} {r : List Value × List Value × mM} (h : mstep (34, a, b, z) ls st σ = some r) : ∃ (y : Int64) (x : Int64) (st' : List Value), st = .long y :: .long x :: st' ∧ r = (ls, .long (x &&& y) :: st', σ) := by
  rcases st with _ | ⟨w0, st⟩
  · cases h
  cases w0 with
  | long y =>
    rcases st with _ | ⟨w1, st⟩
    · cases h
    cases w1 with
    | long x =>
      exact ⟨y, x, st, rfl, (Option.some.inj h).symm⟩
    | _ => cases h
  | _ => cases h
theorem inv35 {a b : Nat} {z : Int} {ls st : List Value} {σ : mM} {r : List Value × List Value × mM} (h : mstep (35, a, b, z) ls st σ = some r) : ∃ (y : Int64) (x : Int64) (st' : List Value), st = .long y :: .long x :: st' ∧ r = (ls, .long (x ||| y) :: st', σ) := by
  rcases st with _ | ⟨w0, st⟩
  · cases h
  cases w0 with
  | long y =>
    rcases st with _ | ⟨w1, st⟩
    · cases h
    cases w1 with
    | long x =>
      exact ⟨y, x, st, rfl, (Option.some.inj h).symm⟩
    | _ => cases h
  | _ => cases h
theorem inv36 {a b : Nat} {z : Int} {ls st : List Value} {σ : mM} {r : List Value × List Value × mM} (h : mstep (36, a, b, z) ls st σ = some r) : ∃ (y : Int64) (x : Int64) (st' : List Value), st = .long y :: .long x :: st' ∧ r = (ls, .int (lg_cmp x y) :: st', σ) := by
  rcases st with _ | ⟨w0, st⟩
  · cases h
  cases w0 with
  | long y =>
    rcases st with _ | ⟨w1, st⟩
    · cases h
    cases w1 with
    | long x =>
      exact ⟨y, x, st, rfl, (Option.some.inj h).symm⟩
    | _ => cases h
  | _ => cases h
theorem inv40 {a b : Nat} {z : Int} {ls st : List Value} {σ : mM} {r : List Value × List Value × mM} (h : mstep (40, a, b, z) ls st σ = some r) : ∃ (j : Int32) (p : Nat) (st' : List Value), st = .int j :: .ref p :: st' ∧ mIx σ p 0 j = true ∧ r = (ls, .int (σ.1 p j.toInt.toNat) :: st', σ) := by
  rcases st with _ | ⟨w0, st⟩
  · cases h
  cases w0 with
  | int j =>
    rcases st with _ | ⟨w1, st⟩
    · cases h
    cases w1 with
    | ref p =>
      have h : (if mIx σ p 0 j = true then some (ls, .int (σ.1 p j.toInt.toNat) :: st, σ) else none) = some r := h
      split at h
      · rename_i hc; exact ⟨j, p, st, rfl, hc, (Option.some.inj h).symm⟩
      · cases h
    | _ => cases h
  | _ => cases h
theorem inv41 {a b : Nat} {z : Int} {ls st : List Value} {σ : mM} {r : List Value × List Value × mM} (h : mstep (41, a, b, z) ls st σ = some r) : ∃ (j : Int32) (p : Nat) (st' : List Value), st = .int j :: .ref p :: st' ∧ mIx σ p 1 j = true ∧ r = (ls, .int (σ.1 p j.toInt.toNat) :: st', σ) := by
  rcases st with _ | ⟨w0, st⟩
  · cases h
  cases w0 with
  | int j =>
    rcases st with _ | ⟨w1, st⟩
    · cases h
    cases w1 with
    | ref p =>
      have h : (if mIx σ p 1 j = true then some (ls, .int (σ.1 p j.toInt.toNat) :: st, σ) else none) = some r := h
      split at h
      · rename_i hc; exact ⟨j, p, st, rfl, hc, (Option.some.inj h).symm⟩
      · cases h
    | _ => cases h
  | _ => cases h
theorem inv42 {a b : Nat} {z : Int} {ls st : List Value} {σ : mM} {r : List Value × List Value × mM} (h : mstep (42, a, b, z) ls st σ = some r) : ∃ (j : Int32) (p : Nat) (st' : List Value), st = .int j :: .ref p :: st' ∧ mIx σ p 2 j = true ∧ r = (ls, .int (σ.1 p j.toInt.toNat) :: st', σ) := by
  rcases st with _ | ⟨w0, st⟩
  · cases h
  cases w0 with
  | int j =>
    rcases st with _ | ⟨w1, st⟩
    · cases h
    cases w1 with
    | ref p =>
      have h : (if mIx σ p 2 j = true then some (ls, .int (σ.1 p j.toInt.toNat) :: st, σ) else none) = some r := h
      split at h
      · rename_i hc; exact ⟨j, p, st, rfl, hc, (Option.some.inj h).symm⟩
      · cases h
    | _ => cases h
  | _ => cases h
theorem inv43 {a b : Nat} {z : Int} {ls st : List Value} {σ : mM} {r : List Value × List Value × mM} (h : mstep (43, a, b, z) ls st σ = some r) : ∃ (j : Int32) (p : Nat) (st' : List Value), st = .int j :: .ref p :: st' ∧ mIx σ p 3 j = true ∧ r = (ls, vR (σ.2.1 p j.toInt.toNat) :: st', σ) := by
  rcases st with _ | ⟨w0, st⟩
  · cases h
  cases w0 with
  | int j =>
    rcases st with _ | ⟨w1, st⟩
    · cases h
    cases w1 with
    | ref p =>
      have h : (if mIx σ p 3 j = true then some (ls, vR (σ.2.1 p j.toInt.toNat) :: st, σ) else none) = some r := h
      split at h
      · rename_i hc; exact ⟨j, p, st, rfl, hc, (Option.some.inj h).symm⟩
      · cases h
    | _ => cases h
  | _ => cases h
theorem inv44 {a b : Nat} {z : Int} {ls st : List Value} {σ : mM} {r : List Value × List Value × mM} (h : mstep (44, a, b, z) ls st σ = some r) : ∃ (x : Int32) (j : Int32) (p : Nat) (st' : List Value), st = .int x :: .int j :: .ref p :: st' ∧ (nSP ≤ p ∧ mIx σ p 0 j = true) ∧ r = (ls, st', wI σ p j.toInt.toNat x) := by
  rcases st with _ | ⟨w0, st⟩
  · cases h
  cases w0 with
  | int x =>
    rcases st with _ | ⟨w1, st⟩
    · cases h
    cases w1 with
    | int j =>
      rcases st with _ | ⟨w2, st⟩
      · cases h
      cases w2 with
      | ref p =>
        have h : (if (nSP ≤ p ∧ mIx σ p 0 j = true) then some (ls, st, wI σ p j.toInt.toNat x) else none) = some r := h
        split at h
        · rename_i hc; exact ⟨x, j, p, st, rfl, hc, (Option.some.inj h).symm⟩
        · cases h
      | _ => cases h
    | _ => cases h
  | _ => cases h
theorem inv45 {a b : Nat} {z : Int} {ls st : List Value} {σ : mM} {r : List Value × List Value × mM} (h : mstep (45, a, b, z) ls st σ = some r) : ∃ (x : Int32) (j : Int32) (p : Nat) (st' : List Value), st = .int x :: .int j :: .ref p :: st' ∧ (nSP ≤ p ∧ mIx σ p 1 j = true) ∧ r = (ls, st', wI σ p j.toInt.toNat x.toInt8.toInt32) := by
  rcases st with _ | ⟨w0, st⟩
  · cases h
  cases w0 with
  | int x =>
    rcases st with _ | ⟨w1, st⟩
    · cases h
    cases w1 with
    | int j =>
      rcases st with _ | ⟨w2, st⟩
      · cases h
      cases w2 with
      | ref p =>
        have h : (if (nSP ≤ p ∧ mIx σ p 1 j = true) then some (ls, st, wI σ p j.toInt.toNat x.toInt8.toInt32) else none) = some r := h
        split at h
        · rename_i hc; exact ⟨x, j, p, st, rfl, hc, (Option.some.inj h).symm⟩
        · cases h
      | _ => cases h
    | _ => cases h
  | _ => cases h
theorem inv46 {a b : Nat} {z : Int} {ls st : List Value} {σ : mM} {r : List Value × List Value × mM} (h : mstep (46, a, b, z) ls st σ = some r) : ∃ (x : Int32) (j : Int32) (p : Nat) (st' : List Value), st = .int x :: .int j :: .ref p :: st' ∧ (nSP ≤ p ∧ mIx σ p 2 j = true ∧ mNar 1 x = true) ∧ r = (ls, st', wI σ p j.toInt.toNat x) := by
  rcases st with _ | ⟨w0, st⟩
  · cases h
  cases w0 with
  | int x =>
    rcases st with _ | ⟨w1, st⟩
    · cases h
    cases w1 with
    | int j =>
      rcases st with _ | ⟨w2, st⟩
      · cases h
      cases w2 with
      | ref p =>
        have h : (if (nSP ≤ p ∧ mIx σ p 2 j = true ∧ mNar 1 x = true) then some (ls, st, wI σ p j.toInt.toNat x) else none) = some r := h
        split at h
        · rename_i hc; exact ⟨x, j, p, st, rfl, hc, (Option.some.inj h).symm⟩
        · cases h
      | _ => cases h
    | _ => cases h
  | _ => cases h
theorem inv50 {a b : Nat} {z : Int} {ls st : List Value} {σ : mM} {r : List Value × List Value × mM} (h : mstep (50, a, b, z) ls st σ = some r) : ∃ (p : Nat) (st' : List Value), st = .ref p :: st' ∧ mOb σ p b a = true ∧ r = (ls, .int (σ.1 p a) :: st', σ) := by
  rcases st with _ | ⟨w0, st⟩
  · cases h
  cases w0 with
  | ref p =>
    have h : (if mOb σ p b a = true then some (ls, .int (σ.1 p a) :: st, σ) else none) = some r := h
    split at h
    · rename_i hc; exact ⟨p, st, rfl, hc, (Option.some.inj h).symm⟩
    · cases h
  | _ => cases h
theorem inv51 {a b : Nat} {z : Int} {ls st : List Value} {σ : mM} {r : List Value × List Value × mM} (h : mstep (51, a, b, z) ls st σ = some r) : ∃ (p : Nat) (st' : List Value), st = .ref p :: st' ∧ mOb σ p b a = true ∧ r = (ls, vR (σ.2.1 p a) :: st', σ) := by
  rcases st with _ | ⟨w0, st⟩
  · cases h
  cases w0 with
  | ref p =>
    have h : (if mOb σ p b a = true then some (ls, vR (σ.2.1 p a) :: st, σ) else none) = some r := h
    split at h
    · rename_i hc; exact ⟨p, st, rfl, hc, (Option.some.inj h).symm⟩
    · cases h
  | _ => cases h
theorem inv52 {a b : Nat} {z : Int} {ls st : List Value} {σ : mM} {r : List Value × List Value × mM} (h : mstep (52, a, b, z) ls st σ = some r) : ∃ (x : Int32) (p : Nat) (st' : List Value), st = .int x :: .ref p :: st' ∧ (nSP ≤ p ∧ mOb σ p b a = true) ∧ r = (ls, st', wI σ p a x) := by
  rcases st with _ | ⟨w0, st⟩
  · cases h
  cases w0 with
  | int x =>
    rcases st with _ | ⟨w1, st⟩
    · cases h
    cases w1 with
    | ref p =>
      have h : (if (nSP ≤ p ∧ mOb σ p b a = true) then some (ls, st, wI σ p a x) else none) = some r := h
      split at h
      · rename_i hc; exact ⟨x, p, st, rfl, hc, (Option.some.inj h).symm⟩
      · cases h
    | _ => cases h
  | _ => cases h
theorem inv49 {a b : Nat} {z : Int} {ls st : List Value} {σ : mM} {r : List Value × List Value × mM} (h : mstep (49, a, b, z) ls st σ = some r) : ∃ (x : Int32) (p : Nat) (st' : List Value), st = .int x :: .ref p :: st' ∧ (nSP ≤ p ∧ mOb σ p b a = true ∧ mNar 1 x = true) ∧ r = (ls, st', wI σ p a x) := by
  rcases st with _ | ⟨w0, st⟩
  · cases h
  cases w0 with
  | int x =>
    rcases st with _ | ⟨w1, st⟩
    · cases h
    cases w1 with
    | ref p =>
      have h : (if (nSP ≤ p ∧ mOb σ p b a = true ∧ mNar 1 x = true) then some (ls, st, wI σ p a x) else none) = some r := h
      split at h
      · rename_i hc; exact ⟨x, p, st, rfl, hc, (Option.some.inj h).symm⟩
      · cases h
    | _ => cases h
  | _ => cases h
theorem inv59 {a b : Nat} {z : Int} {ls st : List Value} {σ : mM} {r : List Value × List Value × mM} (h : mstep (59, a, b, z) ls st σ = some r) : ∃ (n : Int32) (st' : List Value), st = .int n :: st' ∧ (0 ≤ n.toInt ∧ n.toInt ≤ 1000000) ∧ r = (ls, .ref σ.2.2.length :: st', mNew σ (a, n.toInt.toNat)) := by
  rcases st with _ | ⟨w0, st⟩
  · cases h
  cases w0 with
  | int n =>
    have h : (if (0 ≤ n.toInt ∧ n.toInt ≤ 1000000) then some (ls, .ref σ.2.2.length :: st, mNew σ (a, n.toInt.toNat)) else none) = some r := h
    split at h
    · rename_i hc; exact ⟨n, st, rfl, hc, (Option.some.inj h).symm⟩
    · cases h
  | _ => cases h
theorem inv14 {a b : Nat} {z : Int} {ls st : List Value} {σ : mM} {r : List Value × List Value × mM} (h : mstep (14, a, b, z) ls st σ = some r) : ∃ (x : Int32) (p : Nat) (st' : List Value), st = .int x :: .ref p :: st' ∧ r = (ls, .int x :: .ref p :: .int x :: .ref p :: st', σ) := by
  rcases st with _ | ⟨w0, st⟩
  · cases h
  cases w0 with
  | int x =>
    rcases st with _ | ⟨w1, st⟩
    · cases h
    cases w1 with
    | ref p =>
      exact ⟨x, p, st, rfl, (Option.some.inj h).symm⟩
    | _ => cases h
  | _ => cases h
theorem inv15 {a b : Nat} {z : Int} {ls st : List Value} {σ : mM} {r : List Value × List Value × mM} (h : mstep (15, a, b, z) ls st σ = some r) : ∃ (x : Int32) (p : Nat) (st' : List Value), st = .int x :: .ref p :: st' ∧ r = (ls, .int x :: .ref p :: .int x :: st', σ) := by
  rcases st with _ | ⟨w0, st⟩
  · cases h
  cases w0 with
  | int x =>
    rcases st with _ | ⟨w1, st⟩
    · cases h
    cases w1 with
    | ref p =>
      exact ⟨x, p, st, rfl, (Option.some.inj h).symm⟩
    | _ => cases h
  | _ => cases h
theorem inv19 {a b : Nat} {z : Int} {ls st : List Value} {σ : mM} {r : List Value × List Value × mM} (h : mstep (19, a, b, z) ls st σ = some r) : ∃ (y x : Int32) (st' : List Value), st = .int y :: .int x :: st' ∧ ¬ y.toInt = 0 ∧ r = (ls, .int (x / y) :: st', σ) := by
  rcases st with _ | ⟨w0, st⟩
  · cases h
  cases w0 with
  | int y =>
    rcases st with _ | ⟨w1, st⟩
    · cases h
    cases w1 with
    | int x =>
      have h : (if y.toInt = 0 then none else some (ls, .int (x / y) :: st, σ)) = some r := h
      split at h
      · cases h
      · rename_i hc; exact ⟨y, x, st, rfl, hc, (Option.some.inj h).symm⟩
    | _ => cases h
  | _ => cases h
theorem inv20 {a b : Nat} {z : Int} {ls st : List Value} {σ : mM} {r : List Value × List Value × mM} (h : mstep (20, a, b, z) ls st σ = some r) : ∃ (y x : Int32) (st' : List Value), st = .int y :: .int x :: st' ∧ ¬ y.toInt = 0 ∧ r = (ls, .int (x - x / y * y) :: st', σ) := by
  rcases st with _ | ⟨w0, st⟩
  · cases h
  cases w0 with
  | int y =>
    rcases st with _ | ⟨w1, st⟩
    · cases h
    cases w1 with
    | int x =>
      have h : (if y.toInt = 0 then none else some (ls, .int (x - x / y * y) :: st, σ)) = some r := h
      split at h
      · cases h
      · rename_i hc; exact ⟨y, x, st, rfl, hc, (Option.some.inj h).symm⟩
    | _ => cases h
  | _ => cases h
theorem inv4 {a b : Nat} {z : Int} {ls st : List Value} {σ : mM} {r : List Value × List Value × mM} (h : mstep (4, a, b, z) ls st σ = some r) : ∃ x : Int32, ls[a]? = some (.int x) ∧ r = (ls, .int x :: st, σ) := by
  have h : (match ls[a]? with
    | some (.int x) => some (ls, .int x :: st, σ)
    | _ => none) = some r := h
  split at h
  · rename_i x hx; exact ⟨x, hx, (Option.some.inj h).symm⟩
  · cases h
theorem inv5 {a b : Nat} {z : Int} {ls st : List Value} {σ : mM} {r : List Value × List Value × mM} (h : mstep (5, a, b, z) ls st σ = some r) : ∃ x : Int64, ls[a]? = some (.long x) ∧ r = (ls, .long x :: st, σ) := by
  have h : (match ls[a]? with
    | some (.long x) => some (ls, .long x :: st, σ)
    | _ => none) = some r := h
  split at h
  · rename_i x hx; exact ⟨x, hx, (Option.some.inj h).symm⟩
  · cases h
theorem inv6 {a b : Nat} {z : Int} {ls st : List Value} {σ : mM} {r : List Value × List Value × mM} (h : mstep (6, a, b, z) ls st σ = some r) : (∃ x : Nat, ls[a]? = some (.ref x) ∧ r = (ls, .ref x :: st, σ)) ∨ (ls[a]? = some .null ∧ r = (ls, .null :: st, σ)) := by
  have h : (match ls[a]? with
    | some (.ref x) => some (ls, .ref x :: st, σ)
    | some .null => some (ls, .null :: st, σ)
    | _ => none) = some r := h
  split at h
  · rename_i x hx; exact Or.inl ⟨x, hx, (Option.some.inj h).symm⟩
  · rename_i hx; exact Or.inr ⟨hx, (Option.some.inj h).symm⟩
  · cases h
theorem inv7 {a b : Nat} {z : Int} {ls st : List Value} {σ : mM} {r : List Value × List Value × mM} (h : mstep (7, a, b, z) ls st σ = some r) : ∃ (x : Int32) (st' : List Value), st = .int x :: st' ∧ a < ls.length ∧ r = (mSet ls a (.int x), st', σ) := by
  rcases st with _ | ⟨w0, st⟩
  · cases h
  cases w0 with
  | int x =>
    have h : (if a < ls.length then some (mSet ls a (.int x), st, σ) else none) = some r := h
    split at h
    · rename_i hc; exact ⟨x, st, rfl, hc, (Option.some.inj h).symm⟩
    · cases h
  | _ => cases h
theorem inv8 {a b : Nat} {z : Int} {ls st : List Value} {σ : mM} {r : List Value × List Value × mM} (h : mstep (8, a, b, z) ls st σ = some r) : ∃ (x : Int64) (st' : List Value), st = .long x :: st' ∧ a + 1 < ls.length ∧ r = (mSet2 ls a (.long x), st', σ) := by
  rcases st with _ | ⟨w0, st⟩
  · cases h
  cases w0 with
  | long x =>
    have h : (if a + 1 < ls.length then some (mSet2 ls a (.long x), st, σ) else none) = some r := h
    split at h
    · rename_i hc; exact ⟨x, st, rfl, hc, (Option.some.inj h).symm⟩
    · cases h
  | _ => cases h
theorem inv9 {a b : Nat} {z : Int} {ls st : List Value} {σ : mM} {r : List Value × List Value × mM} (h : mstep (9, a, b, z) ls st σ = some r) : (∃ (x : Nat) (st' : List Value), st = .ref x :: st' ∧ a < ls.length ∧ r = (mSet ls a (.ref x), st', σ)) ∨ (∃ st' : List Value, st = .null :: st' ∧ a < ls.length ∧ r = (mSet ls a .null, st', σ)) := by
  rcases st with _ | ⟨w0, st⟩
  · cases h
  cases w0 with
  | ref x =>
    have h : (if a < ls.length then some (mSet ls a (.ref x), st, σ) else none) = some r := h
    split at h
    · rename_i hc; exact Or.inl ⟨x, st, rfl, hc, (Option.some.inj h).symm⟩
    · cases h
  | null =>
    have h : (if a < ls.length then some (mSet ls a .null, st, σ) else none) = some r := h
    split at h
    · rename_i hc; exact Or.inr ⟨st, rfl, hc, (Option.some.inj h).symm⟩
    · cases h
  | _ => cases h
theorem inv10 {a b : Nat} {z : Int} {ls st : List Value} {σ : mM} {r : List Value × List Value × mM} (h : mstep (10, a, b, z) ls st σ = some r) : ∃ x : Int32, ls[a]? = some (.int x) ∧ r = (mSet ls a (.int (x + oI z)), st, σ) := by
  have h : (match ls[a]? with
    | some (.int x) => some (mSet ls a (.int (x + oI z)), st, σ)
    | _ => none) = some r := h
  split at h
  · rename_i x hx; exact ⟨x, hx, (Option.some.inj h).symm⟩
  · cases h
theorem inv12 {a b : Nat} {z : Int} {ls st : List Value} {σ : mM} {r : List Value × List Value × mM} (h : mstep (12, a, b, z) ls st σ = some r) : ∃ (v : Value) (st' : List Value), st = v :: st' ∧ ((∀ x, v ≠ .long x) ∧ ∀ x, v ≠ .double x) ∧ r = (ls, st', σ) := by
  rcases st with _ | ⟨w0, st⟩
  · cases h
  cases w0 <;> first | (cases h; done) | exact ⟨_, st, rfl, ⟨fun x q => (by cases q), fun x q => (by cases q)⟩, (Option.some.inj h).symm⟩
theorem inv13 {a b : Nat} {z : Int} {ls st : List Value} {σ : mM} {r : List Value × List Value × mM} (h : mstep (13, a, b, z) ls st σ = some r) : ∃ (v : Value) (st' : List Value), st = v :: st' ∧ ((∀ x, v ≠ .long x) ∧ ∀ x, v ≠ .double x) ∧ r = (ls, v :: v :: st', σ) := by
  rcases st with _ | ⟨w0, st⟩
  · cases h
  cases w0 <;> first | (cases h; done) | exact ⟨_, st, rfl, ⟨fun x q => (by cases q), fun x q => (by cases q)⟩, (Option.some.inj h).symm⟩
theorem inv47 {a b : Nat} {z : Int} {ls st : List Value} {σ : mM} {r : List Value × List Value × mM} (h : mstep (47, a, b, z) ls st σ = some r) : (∃ (v : Nat) (j : Int32) (p : Nat) (st' : List Value), st = .ref v :: .int j :: .ref p :: st' ∧ (nSP ≤ p ∧ mIx σ p 3 j = true ∧ nSP ≤ v ∧ mOb σ v 11 0 = true) ∧ r = (ls, st', wR σ p j.toInt.toNat (some v))) ∨ (∃ (j : Int32) (p : Nat) (st' : List Value), st = .null :: .int j :: .ref p :: st' ∧ (nSP ≤ p ∧ mIx σ p 3 j = true) ∧ r = (ls, st', wR σ p j.toInt.toNat none)) := by
  rcases st with _ | ⟨w0, _ | ⟨w1, _ | ⟨w2, st⟩⟩⟩
  · cases h
  · cases w0 <;> cases h
  · cases w0 <;> first | (cases h; done) | (cases w1 <;> cases h)
  cases w0 with
  | ref v =>
    cases w1 with
    | int j =>
      cases w2 with
      | ref p =>
        have h : (if nSP ≤ p ∧ mIx σ p 3 j = true ∧ nSP ≤ v ∧ mOb σ v 11 0 = true then some (ls, st, wR σ p j.toInt.toNat (some v)) else none) = some r := h
        split at h
        · rename_i hc; exact Or.inl ⟨v, j, p, st, rfl, hc, (Option.some.inj h).symm⟩
        · cases h
      | _ => cases h
    | _ => cases h
  | null =>
    cases w1 with
    | int j =>
      cases w2 with
      | ref p =>
        have h : (if nSP ≤ p ∧ mIx σ p 3 j = true then some (ls, st, wR σ p j.toInt.toNat none) else none) = some r := h
        split at h
        · rename_i hc; exact Or.inr ⟨j, p, st, rfl, hc, (Option.some.inj h).symm⟩
        · cases h
      | _ => cases h
    | _ => cases h
  | _ => cases h
theorem inv48 {a b : Nat} {z : Int} {ls st : List Value} {σ : mM} {r : List Value × List Value × mM} (h : mstep (48, a, b, z) ls st σ = some r) : ∃ (p kd n : Nat) (st' : List Value), st = .ref p :: st' ∧ σ.2.2[p]? = some (kd, n) ∧ kd < 4 ∧ r = (ls, .int (oI n) :: st', σ) := by
  rcases st with _ | ⟨w0, st⟩
  · cases h
  cases w0 with
  | ref p =>
    have h : (match σ.2.2[p]? with
      | some (kd, n) => if kd < 4 then some (ls, .int (oI n) :: st, σ) else none
      | none => none) = some r := h
    split at h
    · rename_i kd n hx
      split at h
      · rename_i hc; exact ⟨p, kd, n, st, rfl, hx, hc, (Option.some.inj h).symm⟩
      · cases h
    · cases h
  | _ => cases h
theorem inv53 {a b : Nat} {z : Int} {ls st : List Value} {σ : mM} {r : List Value × List Value × mM} (h : mstep (53, a, b, z) ls st σ = some r) : ∃ (o : Option Nat) (p : Nat) (st' : List Value), st = vR o :: .ref p :: st' ∧ (nSP ≤ p ∧ mOb σ p b a = true) ∧ r = (ls, st', wR σ p a o) := by
  rcases st with _ | ⟨w0, _ | ⟨w1, st⟩⟩
  · cases h
  · cases w0 <;> cases h
  cases w0 with
  | ref v =>
    cases w1 with
    | ref p =>
      have h : (if nSP ≤ p ∧ mOb σ p b a = true then some (ls, st, wR σ p a (some v)) else none) = some r := h
      split at h
      · rename_i hc; exact ⟨some v, p, st, rfl, hc, (Option.some.inj h).symm⟩
      · cases h
    | _ => cases h
  | null =>
    cases w1 with
    | ref p =>
      have h : (if nSP ≤ p ∧ mOb σ p b a = true then some (ls, st, wR σ p a none) else none) = some r := h
      split at h
      · rename_i hc; exact ⟨none, p, st, rfl, hc, (Option.some.inj h).symm⟩
      · cases h
    | _ => cases h
  | _ => cases h
