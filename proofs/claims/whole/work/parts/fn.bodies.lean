section
variable {d D L m : Nat} {I I0 I1 I2 : mI} {R R0 R1 R2 : mR} {S S0 S1 S2 : mSh} {n n0 n1 n2 b k e i q w q1 : Nat} {x c v kd act : Int} {K : mM → Prop} {ts us : List Tk} {as : List Value} {o : Stm}
set_option maxHeartbeats 1000000 in
theorem k193 {num0 b1 num sec : Int} {tr : Option (Any 10)} (hok : BdOk (b1, num, sec)) (h : Wat I0 R0 S0 n0 act q (num0, (b1, num, sec), tr) ts I R S n) (hl : (rnd ([], false) (ts ++ bdR b1 num sec)).1.length ≤ 1900) (hK : ∀ I1 R1 S1 n1, Wat I0 R0 S0 n0 act q (num0, (b1, num, sec), tr) (ts ++ bdR b1 num sec) I1 R1 S1 n1 → K (bd L I1 R1 S1)) : CallV (d + 9) 193 [.ref q, .ref 53] (bd L I R S) K := by
  have hob := h.2.2.2.1
  have hk : ld I q 1 = ckd b1 := h.2.2.2.2.2.1
  have hr : 1 ≤ b1 ∧ b1 ≤ 15 := hok.1
  unfold BdOk at hok
  dsimp only at hok
  refine e193 (d := d + 8) ⟨hob, ?_⟩
  have hv15 : b1 = 1 ∨ b1 = 2 ∨ b1 = 3 ∨ b1 = 4 ∨ b1 = 5 ∨ b1 = 6 ∨ b1 = 7 ∨ b1 = 8 ∨ b1 = 9 ∨ b1 = 10 ∨ b1 = 11 ∨ b1 = 12 ∨ b1 = 13 ∨ b1 = 14 ∨ b1 = 15 := by omega
  rcases hv15 with hb1 | hb1 | hb1 | hb1 | hb1 | hb1 | hb1 | hb1 | hb1 | hb1 | hb1 | hb1 | hb1 | hb1 | hb1
  · rw [hb1, show ckd 1 = 130 from rfl] at hk
    rw [hk]
    refine ⟨fun _ => ?_, fun c => absurd c (by decide), fun c => absurd c (by decide), fun c => absurd c (by decide), fun c => absurd c (by decide), fun c => absurd c (by decide), fun c => absurd c (by decide), fun c => absurd c (by decide)⟩
    have e4 : cVal b1 num sec = sec := by rw [hb1]; exact cVal_1
    have hsec := hok.2.2.1 (by omega)
    have f2 : ld I q 2 = num := h.2.2.2.2.2.2.2.1.1.trans (by show cOf b1 num sec = num; rw [hb1]; exact cOf_1)
    have hn3 := (hok.2.2.2.2.1 (by omega)).1
    have eb : bdR b1 num sec = [tW (wc (37 + num.toNat))] ++ [tW wAs, tN sec] := by
      rw [hb1]
      have h3 : num = 1 ∨ num = 2 ∨ num = 3 := by omega
      rcases h3 with e | e | e <;> rw [e] <;> rfl
    rw [eb, ← List.append_assoc] at hl hK
    rw [f2]
    refine h.step (cw41 (d := d + 1) (i := 37 + num.toNat) (by omega) (by omega)) (wl1 hl) (fun I1 R1 S1 n1 h1 => ⟨I1, R1, S1, rfl, h1.2.2.2.1, ?_⟩)
    exact k194 (d := d) (i := 28) (by decide) rfl e4 hsec h1 hl (fun I2 R2 S2 n2 h2 => ⟨I2, R2, S2, rfl, e193_8 (d := d + 9) (rqV_of (hK I2 R2 S2 n2 h2))⟩)
  · rw [hb1, show ckd 2 = 131 from rfl] at hk
    rw [hk]
    refine ⟨fun c => absurd c (by decide), fun _ => ?_, fun c => absurd c (by decide), fun c => absurd c (by decide), fun c => absurd c (by decide), fun c => absurd c (by decide), fun c => absurd c (by decide), fun c => absurd c (by decide)⟩
    have e4 : cVal b1 num sec = sec := by rw [hb1]; exact cVal_2
    have hsec := hok.2.2.1 (by omega)
    have f2 : ld I q 2 = num := h.2.2.2.2.2.2.2.1.1.trans (by show cOf b1 num sec = num; rw [hb1]; exact cOf_2)
    have hnum := hok.2.1 (by omega)
    have eb : bdR b1 num sec = [tN num] ++ [tW wAs, tN sec] := by rw [hb1]; rfl
    rw [eb, ← List.append_assoc] at hl hK
    rw [f2]
    refine h.step (cw43 (d := d + 1) hnum) (wl1 hl) (fun I1 R1 S1 n1 h1 => ⟨I1, R1, S1, rfl, h1.2.2.2.1, ?_⟩)
    exact k194 (d := d) (i := 28) (by decide) rfl e4 hsec h1 hl (fun I2 R2 S2 n2 h2 => ⟨I2, R2, S2, rfl, e193_8 (d := d + 9) (rqV_of (hK I2 R2 S2 n2 h2))⟩)
  · rw [hb1, show ckd 3 = 132 from rfl] at hk
    rw [hk]
    refine ⟨fun c => absurd c (by decide), fun c => absurd c (by decide), fun c => absurd c (by decide), fun c => absurd c (by decide), fun c => absurd c (by decide), fun c => absurd c (by decide), fun c => absurd c (by decide), fun _ => ?_⟩
    have hnum := hok.2.1 (by omega)
    have f4 : ld I q 4 = num := h.2.2.2.2.2.2.2.1.2.2.trans (by show cVal b1 num sec = num; rw [hb1]; exact cVal_3)
    have eb : bdR b1 num sec = [tN num] := by rw [hb1]; rfl
    rw [eb] at hl hK
    rw [f4]
    exact h.step (cw43 (d := d + 1) hnum) hl (fun I1 R1 S1 n1 h1 => ⟨I1, R1, S1, rfl, e193_8 (d := d + 9) (rqV_of (hK I1 R1 S1 n1 h1))⟩)
  · rw [hb1, show ckd 4 = 133 from rfl] at hk
    rw [hk]
    refine ⟨fun c => absurd c (by decide), fun c => absurd c (by decide), fun _ => ?_, fun c => absurd c (by decide), fun c => absurd c (by decide), fun c => absurd c (by decide), fun c => absurd c (by decide), fun c => absurd c (by decide)⟩
    have e4 : cVal b1 num sec = sec := by rw [hb1]; exact cVal_4
    have hsec := hok.2.2.1 (by omega)
    have f2 : ld I q 2 = num := h.2.2.2.2.2.2.2.1.1.trans (by show cOf b1 num sec = num; rw [hb1]; exact cOf_4)
    have hnum := hok.2.1 (by omega)
    have eb : bdR b1 num sec = [tN num] ++ [tW wNeeds, tN sec] := by rw [hb1]; rfl
    rw [eb, ← List.append_assoc] at hl hK
    rw [f2]
    refine h.step (cw43 (d := d + 1) hnum) (wl1 hl) (fun I1 R1 S1 n1 h1 => ⟨I1, R1, S1, rfl, h1.2.2.2.1, ?_⟩)
    exact k194 (d := d) (i := 29) (by decide) rfl e4 hsec h1 hl (fun I2 R2 S2 n2 h2 => ⟨I2, R2, S2, rfl, e193_8 (d := d + 9) (rqV_of (hK I2 R2 S2 n2 h2))⟩)
  · rw [hb1, show ckd 5 = 134 from rfl] at hk
    rw [hk]
    refine ⟨fun c => absurd c (by decide), fun c => absurd c (by decide), fun c => absurd c (by decide), fun c => absurd c (by decide), fun c => absurd c (by decide), fun c => absurd c (by decide), fun c => absurd c (by decide), fun _ => ?_⟩
    have hnum := hok.2.1 (by omega)
    have f4 : ld I q 4 = num := h.2.2.2.2.2.2.2.1.2.2.trans (by show cVal b1 num sec = num; rw [hb1]; exact cVal_5)
    have eb : bdR b1 num sec = [tN num] := by rw [hb1]; rfl
    rw [eb] at hl hK
    rw [f4]
    exact h.step (cw43 (d := d + 1) hnum) hl (fun I1 R1 S1 n1 h1 => ⟨I1, R1, S1, rfl, e193_8 (d := d + 9) (rqV_of (hK I1 R1 S1 n1 h1))⟩)
  · rw [hb1, show ckd 6 = 135 from rfl] at hk
    rw [hk]
    refine ⟨fun c => absurd c (by decide), fun c => absurd c (by decide), fun c => absurd c (by decide), fun _ => ?_, fun c => absurd c (by decide), fun c => absurd c (by decide), fun c => absurd c (by decide), fun c => absurd c (by decide)⟩
    have hnum := hok.2.1 (by omega)
    have hsec := hok.2.2.2.1 (by omega)
    have f4 : ld I q 4 = num := h.2.2.2.2.2.2.2.1.2.2.trans (by show cVal b1 num sec = num; rw [hb1]; exact cVal_6)
    have eb : bdR b1 num sec = [tN num] ++ ([tW wPer] ++ (if sec = -2 then [tW wHead] else if sec = -3 then [tW wChild] else [tW wPass, tN sec])) := by rw [hb1]; rfl
    rw [eb, ← List.append_assoc, ← List.append_assoc] at hl hK
    rw [f4]
    refine h.step (cw43 (d := d + 1) hnum) (wl1 (wl1 hl)) (fun I1 R1 S1 n1 h1 => ⟨I1, R1, S1, rfl, ?_⟩)
    refine h1.step (cw41 (d := d + 1) (i := 30) (by decide) rfl) (wl1 hl) (fun I2 R2 S2 n2 h2 => ⟨I2, R2, S2, rfl, h2.2.2.2.1, ?_⟩)
    have f3 : ∀ {I' : mI} {R' : mR} {S' : mSh} {n' : Nat} {ts'}, Wat I0 R0 S0 n0 act q (num0, (b1, num, sec), tr) ts' I' R' S' n' → ld I' q 3 = (if sec = -2 then 159 else if sec = -3 then 160 else 133) ∧ ld I' q 2 = (if 0 ≤ sec then sec else 0) := fun h' => ⟨h'.2.2.2.2.2.2.2.1.2.1.trans (by show cPer b1 sec = _; rw [hb1]; rfl), h'.2.2.2.2.2.2.2.1.1.trans (by show cOf b1 num sec = _; rw [hb1]; exact cOf_6)⟩
    rw [(f3 h2).1]
    by_cases c2 : sec = -2
    · rw [if_pos c2] at hl hK ⊢
      refine h2.step (cw41 (d := d + 1) (i := 31) (by decide) rfl) hl (fun I3 R3 S3 n3 h3 => ⟨I3, R3, S3, rfl, h3.2.2.2.1, ?_⟩)
      rw [(f3 h3).1, if_pos c2]
      exact ⟨fun c => absurd c (by decide), fun _ => e193_8 (d := d + 9) (rqV_of (hK I3 R3 S3 n3 h3))⟩
    · by_cases c3 : sec = -3
      · rw [if_neg c2, if_pos c3] at hl hK ⊢
        refine h2.step (cw41 (d := d + 1) (i := 32) (by decide) rfl) hl (fun I3 R3 S3 n3 h3 => ⟨I3, R3, S3, rfl, h3.2.2.2.1, ?_⟩)
        rw [(f3 h3).1, if_neg c2, if_pos c3]
        exact ⟨fun c => absurd c (by decide), fun _ => e193_8 (d := d + 9) (rqV_of (hK I3 R3 S3 n3 h3))⟩
      · rw [if_neg c2, if_neg c3] at hl hK ⊢
        have e9 : ∀ z : List Tk, z ++ [tW wPass, tN sec] = z ++ [tW wPass] ++ [tN sec] := fun z => by rw [List.append_assoc]; rfl
        rw [e9] at hl hK
        refine h2.step (cw41 (d := d + 1) (i := 5) (by decide) rfl) (wl1 hl) (fun I3 R3 S3 n3 h3 => ⟨I3, R3, S3, rfl, h3.2.2.2.1, ?_⟩)
        rw [(f3 h3).1, if_neg c2, if_neg c3, (f3 h3).2, if_pos (by omega)]
        exact ⟨fun _ => h3.step (cw43 (d := d + 1) (by omega)) hl (fun I4 R4 S4 n4 h4 => ⟨I4, R4, S4, rfl, e193_8 (d := d + 9) (rqV_of (hK I4 R4 S4 n4 h4))⟩), fun c => absurd rfl c⟩
  · rw [hb1, show ckd 7 = 136 from rfl] at hk
    rw [hk]
    refine ⟨fun c => absurd c (by decide), fun c => absurd c (by decide), fun c => absurd c (by decide), fun c => absurd c (by decide), fun c => absurd c (by decide), fun c => absurd c (by decide), fun c => absurd c (by decide), fun _ => ?_⟩
    have hnum := hok.2.1 (by omega)
    have f4 : ld I q 4 = num := h.2.2.2.2.2.2.2.1.2.2.trans (by show cVal b1 num sec = num; rw [hb1]; exact cVal_7)
    have eb : bdR b1 num sec = [tN num] := by rw [hb1]; rfl
    rw [eb] at hl hK
    rw [f4]
    exact h.step (cw43 (d := d + 1) hnum) hl (fun I1 R1 S1 n1 h1 => ⟨I1, R1, S1, rfl, e193_8 (d := d + 9) (rqV_of (hK I1 R1 S1 n1 h1))⟩)
  · rw [hb1, show ckd 8 = 137 from rfl] at hk
    rw [hk]
    refine ⟨fun c => absurd c (by decide), fun c => absurd c (by decide), fun c => absurd c (by decide), fun c => absurd c (by decide), fun c => absurd c (by decide), fun c => absurd c (by decide), fun c => absurd c (by decide), fun _ => ?_⟩
    have hnum := hok.2.1 (by omega)
    have f4 : ld I q 4 = num := h.2.2.2.2.2.2.2.1.2.2.trans (by show cVal b1 num sec = num; rw [hb1]; exact cVal_8)
    have eb : bdR b1 num sec = [tN num] := by rw [hb1]; rfl
    rw [eb] at hl hK
    rw [f4]
    exact h.step (cw43 (d := d + 1) hnum) hl (fun I1 R1 S1 n1 h1 => ⟨I1, R1, S1, rfl, e193_8 (d := d + 9) (rqV_of (hK I1 R1 S1 n1 h1))⟩)
  · rw [hb1, show ckd 9 = 144 from rfl] at hk
    rw [hk]
    refine ⟨fun c => absurd c (by decide), fun c => absurd c (by decide), fun c => absurd c (by decide), fun c => absurd c (by decide), fun c => absurd c (by decide), fun c => absurd c (by decide), fun _ => ?_, fun c => absurd c (by decide)⟩
    have eb : bdR b1 num sec = [] := by rw [hb1]; rfl
    rw [eb, List.append_nil] at hK
    exact e193_8 (d := d + 9) (rqV_of (hK I R S n h))
  · rw [hb1, show ckd 10 = 138 from rfl] at hk
    rw [hk]
    refine ⟨fun c => absurd c (by decide), fun c => absurd c (by decide), fun c => absurd c (by decide), fun c => absurd c (by decide), fun c => absurd c (by decide), fun c => absurd c (by decide), fun c => absurd c (by decide), fun _ => ?_⟩
    have hnum := hok.2.1 (by omega)
    have f4 : ld I q 4 = num := h.2.2.2.2.2.2.2.1.2.2.trans (by show cVal b1 num sec = num; rw [hb1]; exact cVal_10)
    have eb : bdR b1 num sec = [tN num] := by rw [hb1]; rfl
    rw [eb] at hl hK
    rw [f4]
    exact h.step (cw43 (d := d + 1) hnum) hl (fun I1 R1 S1 n1 h1 => ⟨I1, R1, S1, rfl, e193_8 (d := d + 9) (rqV_of (hK I1 R1 S1 n1 h1))⟩)
  · rw [hb1, show ckd 11 = 139 from rfl] at hk
    rw [hk]
    refine ⟨fun c => absurd c (by decide), fun c => absurd c (by decide), fun c => absurd c (by decide), fun c => absurd c (by decide), fun c => absurd c (by decide), fun c => absurd c (by decide), fun c => absurd c (by decide), fun _ => ?_⟩
    have hnum := hok.2.1 (by omega)
    have f4 : ld I q 4 = num := h.2.2.2.2.2.2.2.1.2.2.trans (by show cVal b1 num sec = num; rw [hb1]; exact cVal_11)
    have eb : bdR b1 num sec = [tN num] := by rw [hb1]; rfl
    rw [eb] at hl hK
    rw [f4]
    exact h.step (cw43 (d := d + 1) hnum) hl (fun I1 R1 S1 n1 h1 => ⟨I1, R1, S1, rfl, e193_8 (d := d + 9) (rqV_of (hK I1 R1 S1 n1 h1))⟩)
  · rw [hb1, show ckd 12 = 140 from rfl] at hk
    rw [hk]
    refine ⟨fun c => absurd c (by decide), fun c => absurd c (by decide), fun c => absurd c (by decide), fun c => absurd c (by decide), fun c => absurd c (by decide), fun c => absurd c (by decide), fun c => absurd c (by decide), fun _ => ?_⟩
    have hnum := hok.2.1 (by omega)
    have f4 : ld I q 4 = num := h.2.2.2.2.2.2.2.1.2.2.trans (by show cVal b1 num sec = num; rw [hb1]; exact cVal_12)
    have eb : bdR b1 num sec = [tN num] := by rw [hb1]; rfl
    rw [eb] at hl hK
    rw [f4]
    exact h.step (cw43 (d := d + 1) hnum) hl (fun I1 R1 S1 n1 h1 => ⟨I1, R1, S1, rfl, e193_8 (d := d + 9) (rqV_of (hK I1 R1 S1 n1 h1))⟩)
  · rw [hb1, show ckd 13 = 141 from rfl] at hk
    rw [hk]
    refine ⟨fun c => absurd c (by decide), fun c => absurd c (by decide), fun c => absurd c (by decide), fun c => absurd c (by decide), fun _ => ?_, fun c => absurd c (by decide), fun c => absurd c (by decide), fun c => absurd c (by decide)⟩
    have e4 : cVal b1 num sec = sec := by rw [hb1]; exact cVal_13
    have hsec := hok.2.2.1 (by omega)
    have f2 : ld I q 2 = num := h.2.2.2.2.2.2.2.1.1.trans (by show cOf b1 num sec = num; rw [hb1]; exact cOf_13)
    have hnum := hok.2.1 (by omega)
    have eb : bdR b1 num sec = [tN num] ++ [tW wIs, tN sec] := by rw [hb1]; rfl
    rw [eb, ← List.append_assoc] at hl hK
    rw [f2]
    refine h.step (cw43 (d := d + 1) hnum) (wl1 hl) (fun I1 R1 S1 n1 h1 => ⟨I1, R1, S1, rfl, h1.2.2.2.1, ?_⟩)
    exact k194 (d := d) (i := 33) (by decide) rfl e4 hsec h1 hl (fun I2 R2 S2 n2 h2 => ⟨I2, R2, S2, rfl, e193_8 (d := d + 9) (rqV_of (hK I2 R2 S2 n2 h2))⟩)
  · rw [hb1, show ckd 14 = 142 from rfl] at hk
    rw [hk]
    refine ⟨fun c => absurd c (by decide), fun c => absurd c (by decide), fun c => absurd c (by decide), fun c => absurd c (by decide), fun c => absurd c (by decide), fun _ => ?_, fun c => absurd c (by decide), fun c => absurd c (by decide)⟩
    have e4 : cVal b1 num sec = sec := by rw [hb1]; exact cVal_14
    have hsec := hok.2.2.1 (by omega)
    have f2 : ld I q 2 = num := h.2.2.2.2.2.2.2.1.1.trans (by show cOf b1 num sec = num; rw [hb1]; exact cOf_14)
    have hnum := hok.2.1 (by omega)
    have eb : bdR b1 num sec = [tN num] ++ [tW wIs, tN sec] := by rw [hb1]; rfl
    rw [eb, ← List.append_assoc] at hl hK
    rw [f2]
    refine h.step (cw43 (d := d + 1) hnum) (wl1 hl) (fun I1 R1 S1 n1 h1 => ⟨I1, R1, S1, rfl, h1.2.2.2.1, ?_⟩)
    exact k194 (d := d) (i := 33) (by decide) rfl e4 hsec h1 hl (fun I2 R2 S2 n2 h2 => ⟨I2, R2, S2, rfl, e193_8 (d := d + 9) (rqV_of (hK I2 R2 S2 n2 h2))⟩)
  · rw [hb1, show ckd 15 = 143 from rfl] at hk
    rw [hk]
    refine ⟨fun c => absurd c (by decide), fun c => absurd c (by decide), fun c => absurd c (by decide), fun c => absurd c (by decide), fun c => absurd c (by decide), fun c => absurd c (by decide), fun c => absurd c (by decide), fun _ => ?_⟩
    have hnum := hok.2.1 (by omega)
    have f4 : ld I q 4 = num := h.2.2.2.2.2.2.2.1.2.2.trans (by show cVal b1 num sec = num; rw [hb1]; exact cVal_15)
    have eb : bdR b1 num sec = [tN num] := by rw [hb1]; rfl
    rw [eb] at hl hK
    rw [f4]
    exact h.step (cw43 (d := d + 1) hnum) hl (fun I1 R1 S1 n1 h1 => ⟨I1, R1, S1, rfl, e193_8 (d := d + 9) (rqV_of (hK I1 R1 S1 n1 h1))⟩)
end
