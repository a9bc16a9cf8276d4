/-! words as numbers of letters -/
def pkN (T : Nat → Int) (q : Nat) : Nat → Nat
  | 0 => 0
  | k + 1 => 256 * pkN T q k + (T (q + k)).toNat
theorem let64 : ∀ n : Fin 26, ((oI (97 + (n.val : Int))).toInt64).toBitVec = BitVec.ofNat 64 (97 + n.val) := by decide
section
variable {T : Nat → Int} {N q : Nat}
theorem pkN_lt : ∀ k, (∀ j, j < k → 97 ≤ T (q + j) ∧ T (q + j) ≤ 122) → pkN T q k < 256 ^ k
  | 0, _ => by show 0 < 1; decide
  | k + 1, h => by
    have h1 := pkN_lt k (fun j hj => h j (by omega))
    have h2 := h k (by omega)
    show 256 * pkN T q k + (T (q + k)).toNat < 256 ^ (k + 1)
    rw [Nat.pow_succ]
    omega
theorem shl8 (X : Int64) : (X <<< ((oI 8).toInt64 &&& 63)).toBitVec = X.toBitVec <<< 8 := rfl
theorem whL_pk : ∀ k, k ≤ 8 → (∀ j, j < k → 97 ≤ T (q + j) ∧ T (q + j) ≤ 122) → (whL T q k).toBitVec = BitVec.ofNat 64 (pkN T q k)
  | 0, _, _ => rfl
  | k + 1, hk, h => by
    have h1 := whL_pk k (by omega) (fun j hj => h j (by omega))
    have h2 := h k (by omega)
    have h3 := pkN_lt k (fun j hj => h j (by omega))
    have h4 : 256 ^ k ≤ 256 ^ 7 := Nat.pow_le_pow_right (by decide) (by omega)
    have h5 : (256 : Nat) ^ 7 = 72057594037927936 := by decide
    show ((whL T q k <<< ((oI 8).toInt64 &&& 63)) ||| ((oI (T (q + k))).toInt64)).toBitVec = BitVec.ofNat 64 (256 * pkN T q k + (T (q + k)).toNat)
    rw [Int64.toBitVec_or, shl8, h1]
    have e := let64 ⟨(T (q + k)).toNat - 97, by omega⟩
    dsimp only at e
    rw [show (97 : Int) + (((T (q + k)).toNat - 97 : Nat) : Int) = T (q + k) by omega, show 97 + ((T (q + k)).toNat - 97) = (T (q + k)).toNat by omega] at e
    rw [e]
    apply BitVec.eq_of_toNat_eq
    rw [BitVec.toNat_or, BitVec.toNat_shiftLeft, BitVec.toNat_ofNat, BitVec.toNat_ofNat, BitVec.toNat_ofNat]
    rw [Nat.mod_eq_of_lt (a := pkN T q k) (by omega), Nat.mod_eq_of_lt (a := (T (q + k)).toNat) (by omega), Nat.mod_eq_of_lt (a := 256 * pkN T q k + (T (q + k)).toNat) (by omega)]
    rw [Nat.shiftLeft_eq, Nat.mod_eq_of_lt (by omega), ← Nat.shiftLeft_eq, ← Nat.shiftLeft_add_eq_or_of_lt (by omega), Nat.shiftLeft_eq]
    omega
theorem ltk_let : ∀ f p j, p ≤ j → j < ltk T N f p → 97 ≤ T j ∧ T j ≤ 122
  | 0, p, j, h1, h2 => by have h3 : ltk T N 0 p = p := rfl; omega
  | f + 1, p, j, h1, h2 => by
    have h3 : ltk T N (f + 1) p = if p < N ∧ 97 ≤ T p ∧ T p ≤ 122 then ltk T N f (p + 1) else p := rfl
    rw [h3] at h2
    split at h2
    · rename_i c
      by_cases e : j = p
      · rw [e]; exact c.2
      · exact ltk_let f (p + 1) j (by omega) h2
    · omega
theorem lt_let {j : Nat} (h1 : q ≤ j) (h2 : j < lt T N q) : 97 ≤ T j ∧ T j ≤ 122 := ltk_let _ _ j h1 h2
theorem ltk_end : ∀ f p, f + p = N → ¬ (ltk T N f p < N ∧ 97 ≤ T (ltk T N f p) ∧ T (ltk T N f p) ≤ 122)
  | 0, p, h => by have h3 : ltk T N 0 p = p := rfl; rw [h3]; omega
  | f + 1, p, h => by
    have h3 : ltk T N (f + 1) p = if p < N ∧ 97 ≤ T p ∧ T p ≤ 122 then ltk T N f (p + 1) else p := rfl
    rw [h3]
    split
    · exact ltk_end f (p + 1) (by omega)
    · rename_i c; exact c
theorem lt_end (h : q ≤ N) : ¬ (lt T N q < N ∧ 97 ≤ T (lt T N q) ∧ T (lt T N q) ≤ 122) := ltk_end _ _ (by omega)
theorem tk_pk {w : Int64} (h : tkOk T N q w) : pkN T q (lt T N q - q) = w.toBitVec.toNat ∧ pkN T q (lt T N q - q) < 256 ^ (lt T N q - q) := by
  have hl : ∀ j, j < lt T N q - q → 97 ≤ T (q + j) ∧ T (q + j) ≤ 122 := fun j hj => lt_let (q := q) (N := N) (by omega) (by omega)
  have h1 := whL_pk (lt T N q - q) h.1 hl
  have h2 := pkN_lt (lt T N q - q) hl
  have h4 : 256 ^ (lt T N q - q) ≤ 256 ^ 8 := Nat.pow_le_pow_right (by decide) h.1
  have h5 : (256 : Nat) ^ 8 = 18446744073709551616 := by decide
  rw [h.2] at h1
  refine ⟨?_, h2⟩
  rw [h1, BitVec.toNat_ofNat, Nat.mod_eq_of_lt (by omega)]
abbrev WlOk (w : Int64) : Prop := 256 ^ ((wB w).length - 1) ≤ w.toBitVec.toNat
theorem tk_len {w : Int64} (h : tkOk T N q w) (hw : WlOk w) (hq : q ≤ N) (h0 : ¬ w = Int64.ofInt 0) : (wB w).length ≤ lt T N q - q := by
  have h1 := tk_pk h
  have h2 := tk_pos hq h0 h
  rcases Nat.lt_or_ge (lt T N q - q) (wB w).length with g | g
  · have h3 : 256 ^ (lt T N q - q) ≤ 256 ^ ((wB w).length - 1) := Nat.pow_le_pow_right (by decide) (by omega)
    have hw' : 256 ^ ((wB w).length - 1) ≤ w.toBitVec.toNat := hw
    omega
  · exact g
theorem wl_1 : WlOk wClause := by decide
end
