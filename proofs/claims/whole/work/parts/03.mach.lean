/-! A small machine for this program: cells have numbers; ints of all cells in one store, references in another, shapes in a list. -/
def oI (z : Int) : Int32 := Int32.ofInt z
abbrev mM : Type := (Nat → Nat → Int32) × (Nat → Nat → Option Nat) × List (Nat × Nat)
def mUn : Value := .retAddr 0
def mNl (v : Value) : Value := match v with
  | .long _ => .retAddr 0
  | .double _ => .retAddr 0
  | w => w
def mSet : List Value → Nat → Value → List Value
  | [], _, _ => []
  | _ :: r, 0, v => v :: r
  | a :: r, 1, v => mNl a :: mSet r 0 v
  | a :: r, k + 2, v => a :: mSet r (k + 1) v
def mSet2 : List Value → Nat → Value → List Value
  | [], _, _ => []
  | _ :: r, 0, v => v :: mSet r 0 mUn
  | a :: r, 1, v => mNl a :: mSet2 r 0 v
  | a :: r, k + 2, v => a :: mSet2 r (k + 1) v
def u2 {α : Type} (f : Nat → Nat → α) (a k : Nat) (v : α) : Nat → Nat → α := fun a' k' => if a' = a ∧ k' = k then v else f a' k'
def vR (r : Option Nat) : Value := match r with
  | none => .null
  | some a => .ref a
def mNew (σ : mM) (sh : Nat × Nat) : mM := (fun a k => if a = σ.2.2.length then 0 else σ.1 a k, fun a k => if a = σ.2.2.length then none else σ.2.1 a k, σ.2.2 ++ [sh])
def wI (σ : mM) (a k : Nat) (v : Int32) : mM := (u2 σ.1 a k v, σ.2.1, σ.2.2)
def wR (σ : mM) (a k : Nat) (v : Option Nat) : mM := (σ.1, u2 σ.2.1 a k v, σ.2.2)
def nSP : Nat := 8
/-- slots of the classes -/
def jNs : List Nat := [10, 17, 11, 13, 14, 8, 4, 17, 20, 16, 8, 8, 5, 4, 94]
def mIx (σ : mM) (a : Nat) (kd : Nat) (i : Int32) : Bool := match σ.2.2[a]? with
  | some (k, n) => k == kd && decide (0 ≤ i.toInt) && decide (i.toInt < n)
  | none => false
def mOb (σ : mM) (a ci k : Nat) : Bool := (decide (nSP ≤ a) || decide (k < 2)) && match σ.2.2[a]? with
  | some (kd, n) => kd == ci + 4 && decide (k < n)
  | none => false
def mNar (z : Int) (x : Int32) : Bool := if z = 1 then (x.toInt == 0 || x.toInt == 1) else true
abbrev mRes : Type := Option (List Value × List Value × mM)
/-- constants, locals, the stack -/
def mst1 (i : mIns) (ls st : List Value) (σ : mM) : mRes :=
  match i.1 with
  | 0 => some (ls, .int (oI i.2.2.2) :: st, σ)
  | 2 => some (ls, .long (Int64.ofInt i.2.2.2) :: st, σ)
  | 3 => some (ls, .null :: st, σ)
  | 4 => match ls[i.2.1]? with
    | some (.int x) => some (ls, .int x :: st, σ)
    | _ => none
  | 5 => match ls[i.2.1]? with
    | some (.long x) => some (ls, .long x :: st, σ)
    | _ => none
  | 6 => match ls[i.2.1]? with
    | some (.ref x) => some (ls, .ref x :: st, σ)
    | some .null => some (ls, .null :: st, σ)
    | _ => none
  | 7 => match st with
    | .int x :: r => if i.2.1 < ls.length then some (mSet ls i.2.1 (.int x), r, σ) else none
    | _ => none
  | 8 => match st with
    | .long x :: r => if i.2.1 + 1 < ls.length then some (mSet2 ls i.2.1 (.long x), r, σ) else none
    | _ => none
  | 9 => match st with
    | .ref x :: r => if i.2.1 < ls.length then some (mSet ls i.2.1 (.ref x), r, σ) else none
    | .null :: r => if i.2.1 < ls.length then some (mSet ls i.2.1 .null, r, σ) else none
    | _ => none
  | 10 => match ls[i.2.1]? with
    | some (.int x) => some (mSet ls i.2.1 (.int (x + oI i.2.2.2)), st, σ)
    | _ => none
  | 12 => match st with
    | .long _ :: _ => none
    | .double _ :: _ => none
    | _ :: r => some (ls, r, σ)
    | _ => none
  | 13 => match st with
    | .long _ :: _ => none
    | .double _ :: _ => none
    | v :: r => some (ls, v :: v :: r, σ)
    | _ => none
  | 14 => match st with
    | .int x :: .ref a :: r => some (ls, .int x :: .ref a :: .int x :: .ref a :: r, σ)
    | _ => none
  | 15 => match st with
    | .int x :: .ref a :: r => some (ls, .int x :: .ref a :: .int x :: r, σ)
    | _ => none
  | _ => none
/-- arithmetic -/
def mst2 (i : mIns) (ls st : List Value) (σ : mM) : mRes :=
  match i.1, st with
  | 16, .int y :: .int x :: r => some (ls, .int (x + y) :: r, σ)
  | 17, .int y :: .int x :: r => some (ls, .int (x - y) :: r, σ)
  | 18, .int y :: .int x :: r => some (ls, .int (x * y) :: r, σ)
  | 19, .int y :: .int x :: r => if y.toInt = 0 then none else some (ls, .int (x / y) :: r, σ)
  | 20, .int y :: .int x :: r => if y.toInt = 0 then none else some (ls, .int (x - x / y * y) :: r, σ)
  | 21, .int x :: r => some (ls, .int (-x) :: r, σ)
  | 22, .int y :: .int x :: r => some (ls, .int (x <<< (y &&& 31)) :: r, σ)
  | 23, .int y :: .int x :: r => some (ls, .int (x >>> (y &&& 31)) :: r, σ)
  | 24, .int y :: .int x :: r => some (ls, .int (x.toUInt32 >>> (y.toUInt32 &&& Int32.toUInt32 31)).toInt32 :: r, σ)
  | 25, .int y :: .int x :: r => some (ls, .int (x &&& y) :: r, σ)
  | 26, .int y :: .int x :: r => some (ls, .int (x ||| y) :: r, σ)
  | 27, .int y :: .int x :: r => some (ls, .int (x ^^^ y) :: r, σ)
  | 28, .int x :: r => some (ls, .int x.toInt8.toInt32 :: r, σ)
  | 29, .int x :: r => some (ls, .int (x.toUInt32 % 65536).toInt32 :: r, σ)
  | 30, .int x :: r => some (ls, .long x.toInt64 :: r, σ)
  | 31, .long x :: r => some (ls, .int x.toInt32 :: r, σ)
  | 32, .int y :: .long x :: r => some (ls, .long (x <<< (y.toInt64 &&& 63)) :: r, σ)
  | 33, .int y :: .long x :: r => some (ls, .long (x >>> (y.toInt64 &&& 63)) :: r, σ)
  | 34, .long y :: .long x :: r => some (ls, .long (x &&& y) :: r, σ)
  | 35, .long y :: .long x :: r => some (ls, .long (x ||| y) :: r, σ)
  | 36, .long y :: .long x :: r => some (ls, .int (lg_cmp x y) :: r, σ)
  | _, _ => none
/-- cells -/
def mst3 (i : mIns) (ls st : List Value) (σ : mM) : mRes :=
  match i.1, st with
  | 40, .int j :: .ref a :: r => if mIx σ a 0 j then some (ls, .int (σ.1 a j.toInt.toNat) :: r, σ) else none
  | 41, .int j :: .ref a :: r => if mIx σ a 1 j then some (ls, .int (σ.1 a j.toInt.toNat) :: r, σ) else none
  | 42, .int j :: .ref a :: r => if mIx σ a 2 j then some (ls, .int (σ.1 a j.toInt.toNat) :: r, σ) else none
  | 43, .int j :: .ref a :: r => if mIx σ a 3 j then some (ls, vR (σ.2.1 a j.toInt.toNat) :: r, σ) else none
  | 44, .int x :: .int j :: .ref a :: r => if nSP ≤ a ∧ mIx σ a 0 j then some (ls, r, wI σ a j.toInt.toNat x) else none
  | 45, .int x :: .int j :: .ref a :: r => if nSP ≤ a ∧ mIx σ a 1 j then some (ls, r, wI σ a j.toInt.toNat x.toInt8.toInt32) else none
  | 46, .int x :: .int j :: .ref a :: r => if nSP ≤ a ∧ mIx σ a 2 j ∧ mNar 1 x then some (ls, r, wI σ a j.toInt.toNat x) else none
  | 47, .ref v :: .int j :: .ref a :: r => if nSP ≤ a ∧ mIx σ a 3 j ∧ nSP ≤ v ∧ mOb σ v 11 0 then some (ls, r, wR σ a j.toInt.toNat (some v)) else none
  | 47, .null :: .int j :: .ref a :: r => if nSP ≤ a ∧ mIx σ a 3 j then some (ls, r, wR σ a j.toInt.toNat none) else none
  | 48, .ref a :: r => match σ.2.2[a]? with
    | some (kd, n) => if kd < 4 then some (ls, .int (oI n) :: r, σ) else none
    | none => none
  | 50, .ref a :: r => if mOb σ a i.2.2.1 i.2.1 then some (ls, .int (σ.1 a i.2.1) :: r, σ) else none
  | 51, .ref a :: r => if mOb σ a i.2.2.1 i.2.1 then some (ls, vR (σ.2.1 a i.2.1) :: r, σ) else none
  | 49, .int x :: .ref a :: r => if nSP ≤ a ∧ mOb σ a i.2.2.1 i.2.1 ∧ mNar 1 x then some (ls, r, wI σ a i.2.1 x) else none
  | 52, .int x :: .ref a :: r => if nSP ≤ a ∧ mOb σ a i.2.2.1 i.2.1 then some (ls, r, wI σ a i.2.1 x) else none
  | 53, .ref v :: .ref a :: r => if nSP ≤ a ∧ mOb σ a i.2.2.1 i.2.1 then some (ls, r, wR σ a i.2.1 (some v)) else none
  | 53, .null :: .ref a :: r => if nSP ≤ a ∧ mOb σ a i.2.2.1 i.2.1 then some (ls, r, wR σ a i.2.1 none) else none
  | 54, st => some (ls, .int (oI i.2.2.2) :: st, σ)
  | 55, st => some (ls, .ref i.2.1 :: st, σ)
  | 56, st => some (ls, .ref i.2.1 :: st, σ)
  | 57, st => some (ls, .retAddr 1 :: st, σ)
  | 58, st => some (ls, .ref σ.2.2.length :: st, mNew σ (i.2.2.1 + 4, jNs.getD i.2.2.1 0))
  | 59, .int n :: r => if 0 ≤ n.toInt ∧ n.toInt ≤ 1000000 then some (ls, .ref σ.2.2.length :: r, mNew σ (i.2.1, n.toInt.toNat)) else none
  | _, _ => none
def mstep (i : mIns) (ls st : List Value) (σ : mM) : mRes := if i.1 < 16 then mst1 i ls st σ else if i.1 < 40 then mst2 i ls st σ else mst3 i ls st σ
def mSel (tb : List Nat) (z : Int) : Nat := if 0 ≤ z ∧ z + 1 < tb.length then tb.getD (z.toNat + 1) 0 else tb.getD 0 0
/-- branches: where to, and what is left on the stack -/
def mbr (i : mIns) (st : List Value) : Option (Option (Nat × Nat) × List Value) :=
  match i.1, st with
  | 60, st => some (some (i.2.1, i.2.2.1), st)
  | 79, st => some (some (i.2.1, i.2.2.1), st)
  | 61, .int y :: .int x :: r => some (if x.toInt = y.toInt then some (i.2.1, i.2.2.1) else none, r)
  | 62, .int y :: .int x :: r => some (if x.toInt = y.toInt then none else some (i.2.1, i.2.2.1), r)
  | 63, .int y :: .int x :: r => some (if x.toInt < y.toInt then some (i.2.1, i.2.2.1) else none, r)
  | 64, .int y :: .int x :: r => some (if x.toInt < y.toInt then none else some (i.2.1, i.2.2.1), r)
  | 65, .int y :: .int x :: r => some (if y.toInt < x.toInt then some (i.2.1, i.2.2.1) else none, r)
  | 66, .int y :: .int x :: r => some (if y.toInt < x.toInt then none else some (i.2.1, i.2.2.1), r)
  | 67, .int x :: r => some (if x.toInt = 0 then some (i.2.1, i.2.2.1) else none, r)
  | 68, .int x :: r => some (if x.toInt = 0 then none else some (i.2.1, i.2.2.1), r)
  | 69, .int x :: r => some (if x.toInt < 0 then some (i.2.1, i.2.2.1) else none, r)
  | 70, .int x :: r => some (if x.toInt < 0 then none else some (i.2.1, i.2.2.1), r)
  | 71, .int x :: r => some (if 0 < x.toInt then some (i.2.1, i.2.2.1) else none, r)
  | 72, .int x :: r => some (if 0 < x.toInt then none else some (i.2.1, i.2.2.1), r)
  | 73, .ref _ :: r => some (none, r)
  | 73, .null :: r => some (some (i.2.1, i.2.2.1), r)
  | 74, .ref _ :: r => some (some (i.2.1, i.2.2.1), r)
  | 74, .null :: r => some (none, r)
  | 75, .ref x :: .ref y :: r => if nSP ≤ x ∧ nSP ≤ y then some (if x = y then some (i.2.1, i.2.2.1) else none, r) else none
  | 76, .int x :: r => some (some (i.2.1, mSel ((jSW.getD i.2.1 []).getD i.2.2.1 []) (x.toInt - i.2.2.2)), r)
  | _, _ => none
def mret (i : mIns) (st : List Value) (σ : mM) : Option (Option Value × mM) :=
  match i.1, st with
  | 80, [.int x] => some (some (.int x), σ)
  | 81, [.long x] => some (some (.long x), σ)
  | 82, [.ref x] => some (some (.ref x), σ)
  | 82, [.null] => some (some .null, σ)
  | 83, [] => some (none, σ)
  | 84, [.int x] => if mNar 1 x then some (some (.int x), σ) else none
  | 85, [.int x] => if x.toInt8.toInt32 = x then some (some (.int x), σ) else none
  | 86, [.int x] => if (x.toUInt32 % 65536).toInt32 = x then some (some (.int x), σ) else none
  | _, _ => none
def mPop : Nat → List Value → List Value → Option (List Value × List Value)
  | 0, acc, st => some (acc, st)
  | n + 1, acc, v :: st => mPop n (v :: acc) st
  | _ + 1, _, [] => none
def mLay : List Value → List Value
  | [] => []
  | .long x :: r => .long x :: mUn :: mLay r
  | .double x :: r => .double x :: mUn :: mLay r
  | v :: r => v :: mLay r
def mRcv (m : Nat) (as : List Value) (σ : mM) : Bool := decide ((mLay as).length ≤ jML.getD m 0) && match jMR.getD m 0, as with
  | 0, _ => true
  | k + 1, .ref a :: _ => (decide (nSP ≤ a) || decide (k = 16)) && ((σ.2.2[a]?).map (fun q => q.1) == some (k + 1))
  | _, _ => false
def mcall (i : mIns) (st : List Value) (σ : mM) : Option (List Value × List Value) := match mPop i.2.2.1 [] st with
  | some (as, r) => if mRcv i.2.1 as σ && decide (r.length ≤ 4) then some (as, r) else none
  | none => none
def mpush (op : Nat) (v : Option Value) (r : List Value) : Option (List Value) := match op, v with
  | 100, none => some r
  | 101, some (.int x) => some (.int x :: r)
  | 102, some (.long x) => some (.long x :: r)
  | 103, some (.ref x) => some (.ref x :: r)
  | 103, some .null => some (.null :: r)
  | _, _ => none
def mkL (m : Nat) (as : List Value) : List Value := mLay as ++ List.replicate (jML.getD m 0 - (mLay as).length) mUn
def mCpy (f g : Nat → Int32) (sp dp n : Nat) : Nat → Int32 := fun k => if dp ≤ k ∧ k < dp + n then f (sp + (k - dp)) else g k
/-- what the machine itself does for a call: arraycopy, clone, a cast, Object's constructor -/
def mnat (i : mIns) (st : List Value) (σ : mM) : Option (List Value × mM) :=
  match i.1, st with
  | 104, .int n :: .int dp :: .ref b :: .int sp :: .ref a :: r =>
    match σ.2.2[a]?, σ.2.2[b]? with
    | some (1, na), some (1, nb) =>
      if nSP ≤ a ∧ nSP ≤ b ∧ r.length ≤ 4 ∧ 0 ≤ n.toInt ∧ 0 ≤ sp.toInt ∧ 0 ≤ dp.toInt ∧ sp.toInt + n.toInt ≤ na ∧ dp.toInt + n.toInt ≤ nb ∧ (∀ j, j < n.toInt.toNat → -128 ≤ (σ.1 a (sp.toInt.toNat + j)).toInt ∧ (σ.1 a (sp.toInt.toNat + j)).toInt ≤ 127) then
        some (r, (fun c k => if c = b then mCpy (σ.1 a) (σ.1 b) sp.toInt.toNat dp.toInt.toNat n.toInt.toNat k else σ.1 c k, σ.2.1, σ.2.2))
      else none
    | _, _ => none
  | 105, .ref a :: r => match σ.2.2[a]? with
    | some (1, n) => if nSP ≤ a ∧ r.length ≤ 4 ∧ (∀ j, j < n → -128 ≤ (σ.1 a j).toInt ∧ (σ.1 a j).toInt ≤ 127) then
        some (.ref σ.2.2.length :: r, (fun c k => if c = σ.2.2.length then σ.1 a k else σ.1 c k, (mNew σ (1, n)).2.1, (mNew σ (1, n)).2.2)) else none
    | _ => none
  | 106, .ref a :: r => match σ.2.2[a]? with
    | some (1, _) => if nSP ≤ a then some (.ref a :: r, σ) else none
    | _ => none
  | 107, .ref a :: r => if r.length ≤ 4 then some (r, σ) else none
  | _, _ => none
def ex : Nat → Nat → List mIns → List Value → List Value → mM → Option (Option Value × mM)
  | 0, _, _, _, _, _ => none
  | _ + 1, _, [], _, _, _ => none
  | n + 1, d, i :: is, ls, st, σ =>
    if i.1 < 60 then
      match mstep i ls st σ with
      | some r => ex n d is r.1 r.2.1 r.2.2
      | none => none
    else if i.1 < 80 then
      match mbr i st with
      | some (none, st') => ex n d is ls st' σ
      | some (some q, st') => ex n d (gb q.1 q.2) ls st' σ
      | none => none
    else if i.1 < 90 then mret i st σ
    else match d with
      | 0 => none
      | d' + 1 =>
        if i.1 < 104 then
          match mcall i st σ with
          | some (as, r) =>
            match ex n d' (gb i.2.1 0) (mkL i.2.1 as) [] σ with
            | some (v, σ') => match mpush i.1 v r with
              | some st' => ex n (d' + 1) is ls st' σ'
              | none => none
            | none => none
          | none => none
        else match mnat i st σ with
          | some (st', σ') => ex n (d' + 1) is ls st' σ'
          | none => none
