/-! a test that leaves one of two numbers behind -/
section
variable {d a b j : Nat} {c : Int} {is : List mIns} {ls st : List Value} {σ : mM} {Q : Option Value → mM → Prop} {x y v1 v0 : Int}
theorem ite_in {p : Prop} {hp : Decidable p} (h1 : inR v1) (h0 : inR v0) : inR (if p then v1 else v0) := by split <;> assumption
theorem ite_01 {p : Prop} {hp : Decidable p} (h1 : v1 = 0 ∨ v1 = 1) (h0 : v0 = 0 ∨ v0 = 1) : (if p then v1 else v0) = 0 ∨ (if p then v1 else v0) = 1 := by split <;> assumption
theorem s61j (hx : inR x) (hy : inR y) (h1 : Wp d (gb a j) ls (.int (oI v1) :: st) σ Q → Wp d (gb a b) ls st σ Q) (h2 : Wp d (gb a j) ls (.int (oI v0) :: st) σ Q → Wp d is ls st σ Q) (h : Wp d (gb a j) ls (.int (oI (if x = y then v1 else v0)) :: st) σ Q) : Wp d ((61, a, b, c) :: is) ls (.int (oI y) :: .int (oI x) :: st) σ Q :=
  s61 hx hy (fun q => h1 (by rw [if_pos q] at h; exact h)) (fun q => h2 (by rw [if_neg q] at h; exact h))
theorem s62j (hx : inR x) (hy : inR y) (h1 : Wp d (gb a j) ls (.int (oI v1) :: st) σ Q → Wp d is ls st σ Q) (h2 : Wp d (gb a j) ls (.int (oI v0) :: st) σ Q → Wp d (gb a b) ls st σ Q) (h : Wp d (gb a j) ls (.int (oI (if x = y then v1 else v0)) :: st) σ Q) : Wp d ((62, a, b, c) :: is) ls (.int (oI y) :: .int (oI x) :: st) σ Q :=
  s62 hx hy (fun q => h1 (by rw [if_pos q] at h; exact h)) (fun q => h2 (by rw [if_neg q] at h; exact h))
theorem s63j (hx : inR x) (hy : inR y) (h1 : Wp d (gb a j) ls (.int (oI v1) :: st) σ Q → Wp d (gb a b) ls st σ Q) (h2 : Wp d (gb a j) ls (.int (oI v0) :: st) σ Q → Wp d is ls st σ Q) (h : Wp d (gb a j) ls (.int (oI (if x < y then v1 else v0)) :: st) σ Q) : Wp d ((63, a, b, c) :: is) ls (.int (oI y) :: .int (oI x) :: st) σ Q :=
  s63 hx hy (fun q => h1 (by rw [if_pos q] at h; exact h)) (fun q => h2 (by rw [if_neg q] at h; exact h))
theorem s64j (hx : inR x) (hy : inR y) (h1 : Wp d (gb a j) ls (.int (oI v1) :: st) σ Q → Wp d is ls st σ Q) (h2 : Wp d (gb a j) ls (.int (oI v0) :: st) σ Q → Wp d (gb a b) ls st σ Q) (h : Wp d (gb a j) ls (.int (oI (if x < y then v1 else v0)) :: st) σ Q) : Wp d ((64, a, b, c) :: is) ls (.int (oI y) :: .int (oI x) :: st) σ Q :=
  s64 hx hy (fun q => h1 (by rw [if_pos q] at h; exact h)) (fun q => h2 (by rw [if_neg q] at h; exact h))
theorem s65j (hx : inR x) (hy : inR y) (h1 : Wp d (gb a j) ls (.int (oI v1) :: st) σ Q → Wp d (gb a b) ls st σ Q) (h2 : Wp d (gb a j) ls (.int (oI v0) :: st) σ Q → Wp d is ls st σ Q) (h : Wp d (gb a j) ls (.int (oI (if y < x then v1 else v0)) :: st) σ Q) : Wp d ((65, a, b, c) :: is) ls (.int (oI y) :: .int (oI x) :: st) σ Q :=
  s65 hx hy (fun q => h1 (by rw [if_pos q] at h; exact h)) (fun q => h2 (by rw [if_neg q] at h; exact h))
theorem s66j (hx : inR x) (hy : inR y) (h1 : Wp d (gb a j) ls (.int (oI v1) :: st) σ Q → Wp d is ls st σ Q) (h2 : Wp d (gb a j) ls (.int (oI v0) :: st) σ Q → Wp d (gb a b) ls st σ Q) (h : Wp d (gb a j) ls (.int (oI (if y < x then v1 else v0)) :: st) σ Q) : Wp d ((66, a, b, c) :: is) ls (.int (oI y) :: .int (oI x) :: st) σ Q :=
  s66 hx hy (fun q => h1 (by rw [if_pos q] at h; exact h)) (fun q => h2 (by rw [if_neg q] at h; exact h))
theorem s67j (hx : inR x) (h1 : Wp d (gb a j) ls (.int (oI v1) :: st) σ Q → Wp d (gb a b) ls st σ Q) (h2 : Wp d (gb a j) ls (.int (oI v0) :: st) σ Q → Wp d is ls st σ Q) (h : Wp d (gb a j) ls (.int (oI (if x = 0 then v1 else v0)) :: st) σ Q) : Wp d ((67, a, b, c) :: is) ls (.int (oI x) :: st) σ Q :=
  s67 hx (fun q => h1 (by rw [if_pos q] at h; exact h)) (fun q => h2 (by rw [if_neg q] at h; exact h))
theorem s68j (hx : inR x) (h1 : Wp d (gb a j) ls (.int (oI v1) :: st) σ Q → Wp d is ls st σ Q) (h2 : Wp d (gb a j) ls (.int (oI v0) :: st) σ Q → Wp d (gb a b) ls st σ Q) (h : Wp d (gb a j) ls (.int (oI (if x = 0 then v1 else v0)) :: st) σ Q) : Wp d ((68, a, b, c) :: is) ls (.int (oI x) :: st) σ Q :=
  s68 hx (fun q => h1 (by rw [if_pos q] at h; exact h)) (fun q => h2 (by rw [if_neg q] at h; exact h))
theorem s69j (hx : inR x) (h1 : Wp d (gb a j) ls (.int (oI v1) :: st) σ Q → Wp d (gb a b) ls st σ Q) (h2 : Wp d (gb a j) ls (.int (oI v0) :: st) σ Q → Wp d is ls st σ Q) (h : Wp d (gb a j) ls (.int (oI (if x < 0 then v1 else v0)) :: st) σ Q) : Wp d ((69, a, b, c) :: is) ls (.int (oI x) :: st) σ Q :=
  s69 hx (fun q => h1 (by rw [if_pos q] at h; exact h)) (fun q => h2 (by rw [if_neg q] at h; exact h))
theorem s70j (hx : inR x) (h1 : Wp d (gb a j) ls (.int (oI v1) :: st) σ Q → Wp d is ls st σ Q) (h2 : Wp d (gb a j) ls (.int (oI v0) :: st) σ Q → Wp d (gb a b) ls st σ Q) (h : Wp d (gb a j) ls (.int (oI (if x < 0 then v1 else v0)) :: st) σ Q) : Wp d ((70, a, b, c) :: is) ls (.int (oI x) :: st) σ Q :=
  s70 hx (fun q => h1 (by rw [if_pos q] at h; exact h)) (fun q => h2 (by rw [if_neg q] at h; exact h))
theorem s71j (hx : inR x) (h1 : Wp d (gb a j) ls (.int (oI v1) :: st) σ Q → Wp d (gb a b) ls st σ Q) (h2 : Wp d (gb a j) ls (.int (oI v0) :: st) σ Q → Wp d is ls st σ Q) (h : Wp d (gb a j) ls (.int (oI (if 0 < x then v1 else v0)) :: st) σ Q) : Wp d ((71, a, b, c) :: is) ls (.int (oI x) :: st) σ Q :=
  s71 hx (fun q => h1 (by rw [if_pos q] at h; exact h)) (fun q => h2 (by rw [if_neg q] at h; exact h))
theorem s72j (hx : inR x) (h1 : Wp d (gb a j) ls (.int (oI v1) :: st) σ Q → Wp d is ls st σ Q) (h2 : Wp d (gb a j) ls (.int (oI v0) :: st) σ Q → Wp d (gb a b) ls st σ Q) (h : Wp d (gb a j) ls (.int (oI (if 0 < x then v1 else v0)) :: st) σ Q) : Wp d ((72, a, b, c) :: is) ls (.int (oI x) :: st) σ Q :=
  s72 hx (fun q => h1 (by rw [if_pos q] at h; exact h)) (fun q => h2 (by rw [if_neg q] at h; exact h))
end
