section
variable {d L : Nat} {I I0 : mI} {R : Nat → Nat → Option Nat} {S : List (Nat × Nat)} {Q : Option Value → mM → Prop} {A : aS} {c day known kind half year subj code : Int}
noncomputable def yhS (A : aS) (c year code std known : Int) (h : Nat) : Int := yrL A c year code std known (h / 2) + (if h % 2 = 1 then qtS A c year (h / 2 : Nat) 0 code std known else 0)
noncomputable def shS (A : aS) (school c year code std known : Int) (h : Nat) : Int := saL A school c year code std known (h / 2) + (if h % 2 = 1 ∧ onS A c (100 * year + (h / 2 : Nat)) known = school then qtS A c year (h / 2 : Nat) 0 code std known else 0)
theorem yhS_succ {std : Int} (h : Nat) : yhS A c year code std known (h + 1) = yhS A c year code std known h + qtS A c year (h / 2 : Nat) (h % 2 : Nat) code std known := by
  unfold yhS
  rcases Nat.mod_two_eq_zero_or_one h with e | e
  · rw [show (h + 1) / 2 = h / 2 by omega, if_pos (by omega), if_neg (by omega), e]
    simp
  · rw [show (h + 1) / 2 = h / 2 + 1 by omega, if_neg (by omega), if_pos e, e]
    show yrL A c year code std known (h / 2) + (qtS A c year (h / 2 : Nat) 0 code std known + qtS A c year (h / 2 : Nat) 1 code std known) + 0 = _
    have : (((1 : Nat)) : Int) = 1 := rfl
    rw [this]; omega
theorem shS_succ {school std : Int} (h : Nat) : shS A school c year code std known (h + 1) = shS A school c year code std known h + (if onS A c (100 * year + (h / 2 : Nat)) known = school then qtS A c year (h / 2 : Nat) (h % 2 : Nat) code std known else 0) := by
  unfold shS
  by_cases o : onS A c (100 * year + (h / 2 : Nat)) known = school
  · rcases Nat.mod_two_eq_zero_or_one h with e | e
    · rw [show (h + 1) / 2 = h / 2 by omega, if_pos ⟨by omega, o⟩, if_neg (by omega), if_pos o, e]
      simp
    · rw [show (h + 1) / 2 = h / 2 + 1 by omega, if_neg (by omega), if_pos ⟨e, o⟩, if_pos o, e]
      have q : saL A school c year code std known (h / 2 + 1) = saL A school c year code std known (h / 2) + (if onS A c (100 * year + (h / 2 : Nat)) known = school then qtS A c year (h / 2 : Nat) 0 code std known + qtS A c year (h / 2 : Nat) 1 code std known else 0) := rfl
      rw [q, if_pos o]
      have : (((1 : Nat)) : Int) = 1 := rfl
      rw [this]; omega
  · rw [if_neg (c := onS A c (100 * year + (h / 2 : Nat)) known = school) o]
    rcases Nat.mod_two_eq_zero_or_one h with e | e
    · rw [show (h + 1) / 2 = h / 2 by omega, if_neg (by rintro ⟨-, b⟩; exact o b), if_neg (by omega)]; omega
    · rw [show (h + 1) / 2 = h / 2 + 1 by omega, if_neg (by omega), if_neg (by rintro ⟨-, b⟩; exact o b)]
      have q : saL A school c year code std known (h / 2 + 1) = saL A school c year code std known (h / 2) + (if onS A c (100 * year + (h / 2 : Nat)) known = school then qtS A c year (h / 2 : Nat) 0 code std known + qtS A c year (h / 2 : Nat) 1 code std known else 0) := rfl
      rw [q, if_neg o]
theorem yhS_in (hC : WfC A) {std : Int} (h : Nat) (hh : h ≤ 200) : 0 ≤ yhS A c year code std known h ∧ yhS A c year code std known h ≤ 402 := by
  unfold yhS
  have h1 := yrL_in hC (c := c) (year := year) (code := code) (std := std) (known := known) (h / 2)
  have h2 := qtS_in hC (y := code) (c := c) (year := year) (d := (h / 2 : Nat)) (half := 0) (std := std) (known := known)
  split <;> omega
def GF (A : aS) (school year code known : Int) (k : Nat) (I : mI) : Prop := PShut A year known I ∧ LinesI I [] ∧ ld I 91 36 = opS A school year known ∧ ld I 91 37 = puL A school year known k ∧ ∀ j : Nat, j < k → ld I 120 j = yvS A school j year code known
theorem GF.fr {school : Int} {k : Nat} {I1 : mI} {ws : List Nat} {os : List (Nat × Nat)} (h : GF A school year code known k I) (hf : Fr ws os I I1) (h1 : ∀ k, (ws.contains 116 || os.contains (116, k)) = false) (h2 : (ws.contains 91 || os.contains (91, 34)) = false) (h3 : (ws.contains 91 || os.contains (91, 39)) = false) (h4 : ∀ k, (ws.contains 117 || os.contains (117, k)) = false) (h5 : ∀ k, (ws.contains 118 || os.contains (118, k)) = false) (h6 : ∀ k, (ws.contains 119 || os.contains (119, k)) = false) (h7 : (ws.contains 91 || os.contains (91, 36)) = false) (h8 : (ws.contains 91 || os.contains (91, 37)) = false) (h9 : ∀ j : Nat, j < k → (ws.contains 120 || os.contains (120, j)) = false) : GF A school year code known k I1 :=
  ⟨h.1.fr hf h1, h.2.1.fr hf h2 h3 h4 h5 h6, (hf.ld h7).trans h.2.2.1, (hf.ld h8).trans h.2.2.2.1, fun j hj => (hf.ld (h9 j hj)).trans (h.2.2.2.2 j hj)⟩
theorem l260_6 {school sum : Int} {k : Nat} (hW : WfA A) (hC : WfC A) (hP : WfP A) (hk : k < (A 91 1).toNat) (hs : inR school) (hy : 0 ≤ year ∧ year ≤ 7) (hcd : 0 ≤ code ∧ code ≤ 7) (hK : ∀ I1 w7 w8 w9, Fr [111, 112, 113, 114, 115, 116, 117, 118, 119, 120, 150, 151] [(91, 34), (91, 35), (91, 36), (91, 37), (91, 38), (91, 39), (91, 87)] I0 I1 → RM I1 A → GF A school year code known (k + 1) I1 → h260_5 (d + 30) L I1 R S Q school year code known (sum + saL A school k year code (stS A k year known) known 100) (k + 1 : Nat) w7 w8 w9) : ∀ (n h : Nat) (I : mI) (w9 : Value), h + n = 200 → RM I A → Fr [111, 112, 113, 114, 115, 116, 117, 118, 119, 120, 150, 151] [(91, 34), (91, 35), (91, 36), (91, 37), (91, 38), (91, 39), (91, 87)] I0 I → GF A school year code known k I → Pnt A k year known I → ld I 120 k = yhS A k year code (stS A k year known) known h → h260_6 (d + 30) L I R S Q school year code known (sum + shS A school k year code (stS A k year known) known h) k (stS A k year known) h w9 := by
  have hW1 := hW.2.1
  have si := stS_in hP (c := k) (year := year) (known := known) (by omega)
  have pul : ∀ j : Nat, 0 ≤ puL A school year known j ∧ puL A school year known j ≤ j := by
    intro j; induction j with
    | zero => unfold puL; omega
    | succ j ih => unfold puL; split <;> omega
  intro n
  induction n with
  | zero =>
    intro h I w9 hn hR hf hG hN h120
    have eh : h = 200 := by omega
    subst eh
    have e111 : ld I 111 99 = onS A k (100 * year + 99) known := (hN.1 99 (by omega)).1
    have e1 : shS A school k year code (stS A k year known) known 200 = saL A school k year code (stS A k year known) known 100 := by unfold shS; simp
    have e2 : yhS A k year code (stS A k year known) known 200 = yrS A k year code (stS A k year known) known := by unfold yhS yrS; simp
    have pk := pul k
    rw [e1]
    refine e260_6 (d := d + 2) hR ⟨inRd rfl, fun h => absurd h (by decide), fun _ => ⟨hs, fun c1 => ?_, fun c1 => ⟨by omega, ?_⟩⟩⟩
    · rw [e111] at c1
      refine hK _ _ _ _ (hf.wr rfl) (hR.scr rfl) ⟨hG.1.fr (fr1 I 91 37 _) (fun _ => rfl), hG.2.1.fr (fr1 I 91 37 _) rfl rfl (fun _ => rfl) (fun _ => rfl) (fun _ => rfl), ((fr1 I 91 37 _).ld rfl).trans hG.2.2.1, ?_, fun j hj => ?_⟩
      · rw [ld_w ⟨by have := hG.2.2.2.1; omega, by have := hG.2.2.2.1; omega⟩, if_pos rfl, hG.2.2.2.1]
        show _ = puL A school year known k + _
        rw [if_pos c1]
      · rw [(fr1 I 91 37 _).ld rfl]
        by_cases ej : j = k
        · subst ej; rw [h120, e2]; unfold yvS; rw [if_pos c1]
        · exact hG.2.2.2.2 j (by omega)
    · rw [e111] at c1
      refine hK _ _ _ _ (hf.wr rfl) (hR.scr rfl) ⟨hG.1.fr (frA I 120 _ _) (fun _ => rfl), hG.2.1.fr (frA I 120 _ _) rfl rfl (fun _ => rfl) (fun _ => rfl) (fun _ => rfl), ((frA I 120 _ _).ld rfl).trans hG.2.2.1, ?_, fun j hj => ?_⟩
      · rw [(frA I 120 _ _).ld rfl, hG.2.2.2.1]
        show _ = puL A school year known k + _
        rw [if_neg c1]; omega
      · rw [Int.toNat_natCast, ld_w (inRd rfl)]
        by_cases ej : j = k
        · subst ej; rw [if_pos rfl]; unfold yvS; rw [if_neg c1]
        · rw [if_neg ej]; exact hG.2.2.2.2 j (by omega)
  | succ n ih =>
    intro h I w9 hn hR hf hG hN h120
    have e2 : Int.tdiv (h : Int) 2 = ((h / 2 : Nat) : Int) := by rw [Int.tdiv_eq_ediv_of_nonneg (by omega)]; omega
    have e3 : (h : Int) - ((h / 2 : Nat) : Int) * 2 = ((h % 2 : Nat) : Int) := by omega
    have hm2 : h % 2 < 2 := Nat.mod_lt _ (by decide)
    have qi := qtS_in hC (y := code) (c := k) (year := year) (d := ((h / 2 : Nat) : Int)) (half := ((h % 2 : Nat) : Int)) (std := stS A k year known) (known := known)
    have yi := yhS_in hC (c := k) (year := year) (code := code) (std := stS A k year known) (known := known) h (by omega)
    refine e260_6 (d := d + 2) hR ?_
    simp only [e2, e3, Int.toNat_natCast]
    refine ⟨⟨by omega, by omega⟩, fun _ => ⟨hW, hC, hP, by omega, hy, by omega, by omega, hcd, ⟨by omega, by omega⟩, known, hG.1, hN, fun I1 hf1 hR1 => ?_⟩, fun h => by exfalso; omega⟩
    have hG1 : GF A school year code known k I1 := hG.fr hf1 (fun _ => rfl) rfl rfl (fun _ => rfl) (fun _ => rfl) (fun _ => rfl) rfl rfl (fun _ _ => rfl)
    have hN1 := hN.fr hf1 hpQ
    have e120 : ld I1 120 k = yhS A k year code (stS A k year known) known h := (hf1.ld rfl).trans h120
    have e111 : ld I1 111 (h / 2) = onS A k (100 * year + (h / 2 : Nat)) known := (hN1.1 (h / 2) (by omega)).1
    rw [e120, e111, ← yhS_succ]
    have yi1 := yhS_in hC (c := k) (year := year) (code := code) (std := stS A k year known) (known := known) (h + 1) (by omega)
    have yir : inR (yhS A k year code (stS A k year known) known (h + 1)) := ⟨by omega, by omega⟩
    have key : ∀ (v : Int) (w9 : Value), v = sum + shS A school k year code (stS A k year known) known (h + 1) → h260_6 (d + 30) L (u2 I1 120 k (oI (yhS A k year code (stS A k year known) known (h + 1)))) R S Q school year code known v k (stS A k year known) ((h : Int) + 1) w9 := by
      intro v w9 hv
      rw [hv]
      refine ih (h + 1) _ w9 (by omega) (hR1.scr rfl) ((hf.trans (hf1.sub rfl rfl)).wr rfl) ?_ (hN1.fr (frA I1 120 _ _) ?_) ?_
      · refine ⟨hG1.1.fr (frA I1 120 _ _) (fun _ => rfl), hG1.2.1.fr (frA I1 120 _ _) rfl rfl (fun _ => rfl) (fun _ => rfl) (fun _ => rfl), ((frA I1 120 _ _).ld rfl).trans hG1.2.2.1, ((frA I1 120 _ _).ld rfl).trans hG1.2.2.2.1, fun j hj => ?_⟩
        rw [ld_w yir, if_neg (by omega)]
        exact hG1.2.2.2.2 j hj
      · intro a q ha
        have : a = 111 ∨ a = 112 ∨ a = 113 ∨ a = 114 ∨ a = 115 := by omega
        rcases this with rfl | rfl | rfl | rfl | rfl <;> rfl
      · rw [ld_w yir, if_pos rfl]
    have ss := shS_succ (A := A) (c := k) (year := year) (code := code) (known := known) (school := school) (std := stS A k year known) h
    refine ⟨by omega, by omega, hs, fun c1 => key _ _ ?_, fun c1 => key _ _ ?_⟩
    · rw [ss, if_pos c1]; omega
    · rw [ss, if_neg c1]; omega
theorem l260_5 {school : Int} (hW : WfA A) (hC : WfC A) (hP : WfP A) (hT : WfT A) (hs : inR school) (hy : 0 ≤ year ∧ year ≤ 7) (hcd : 0 ≤ code ∧ code ≤ 7) (hkn : inR known) (hK : ∀ I1, Fr [111, 112, 113, 114, 115, 116, 117, 118, 119, 120, 150, 151] [(91, 34), (91, 35), (91, 36), (91, 37), (91, 38), (91, 39), (91, 87)] I0 I1 → RM I1 A → LinesI I1 (gtL A school year code known) → ld I1 91 35 = avS A school year code known → ld I1 91 36 = opS A school year known → ld I1 91 37 = puL A school year known (A 91 1).toNat → ld I1 91 38 = sfS A school year code → Q none (bd L I1 R S)) : ∀ (n k : Nat) (I : mI) (w7 w8 w9 : Value), k + n = (A 91 1).toNat → RM I A → Fr [111, 112, 113, 114, 115, 116, 117, 118, 119, 120, 150, 151] [(91, 34), (91, 35), (91, 36), (91, 37), (91, 38), (91, 39), (91, 87)] I0 I → GF A school year code known k I → h260_5 (d + 31) L I R S Q school year code known (suL A school year code known k) k w7 w8 w9 := by
  have hW1 := hW.2.1
  intro n
  induction n with
  | zero =>
    intro k I w7 w8 w9 hk hR hf hG
    have ek : k = (A 91 1).toNat := by omega
    have opi : 0 ≤ opS A school year known ∧ opS A school year known ≤ 100 := opL_in 100
    have avi := avS_in hW hC (school := school) (year := year) (code := code) (known := known)
    have sfi := sfS_in hC hT (school := school) (year := year) (code := code)
    have sui := suL_in hC (school := school) (year := year) (code := code) (known := known) (A 91 1).toNat
    have sub : suL A school year code known (A 91 1).toNat ≤ 4 * 100 * 40 := Int.le_trans sui.2 (Int.mul_le_mul (by omega) (by omega) (by omega) (by omega))
    rw [ek] at hG ⊢
    -- behind the average
    have key : ∀ (av : Int), av = avS A school year code known → ∀ I1, Fr [151] [(91, 87)] (u2 I 91 35 (oI av)) I1 → RM I1 A → ∀ I2, Fr [150] [] (u2 I1 91 38 (oI (sfS A school year code))) I2 → (∀ j : Nat, j < 12 → ld I2 150 j = 0) → ∀ (w1 w5 w8 w9 : Value), ld I2 91 38 = sfS A school year code ∧ ld I2 91 35 = avS A school year code known ∧ h260_16 (d + 31) L (u2 I2 150 3 (oI year)) R S Q w1 year code known w5 (pfS A school year code known) 1 w8 w9 := by
      intro av hav I1 hf1 hR1 I2 hf2 hz2 w1 w5 w8 w9
      have avr : inR av := ⟨by omega, by omega⟩
      have e38 : ld I2 91 38 = sfS A school year code := by rw [hf2.ld rfl, ld_w ⟨by omega, by omega⟩, if_pos rfl]
      have e35 : ld I2 91 35 = avS A school year code known := by rw [hf2.ld rfl, (fr1 I1 91 38 _).ld rfl, hf1.ld rfl, ld_w avr, if_pos rfl, hav]
      have frI : Fr [150, 151] [(91, 35), (91, 38), (91, 87)] I (u2 I2 150 3 (oI year)) := ((((Fr.refl _ _ _).wr rfl).trans (hf1.sub rfl rfl)).trans ((((Fr.refl _ _ _).wr rfl).trans (hf2.sub rfl rfl)))).wr rfl
      refine ⟨e38, e35, ?_⟩
      refine l260_16 (d := d + 1) (school := school) (I0 := u2 I2 150 3 (oI year)) hW hC hP hT hy hcd hkn (fun I3 h1 h2 h3 h4 h5 h6 h7 => hK I3 (hf.trans ((frI.sub rfl rfl).trans h1)) h2 h3 ?_ ?_ ?_ ?_) ?_ ?_ 60 0 _ w1 w5 w8 w9 rfl ((((hR1.scr rfl).fr hf2 rfl rfl (fun _ => rfl))).scr rfl) ((EnvI.zero hz2).put (k := 3) ⟨by omega, by omega⟩) (Fr.refl _ _ _) ?_
      · rw [h4, (frA I2 150 _ _).ld rfl, e35]
      · rw [h5, frI.ld rfl, hG.2.2.1]
      · rw [h6, frI.ld rfl, hG.2.2.2.1]
      · rw [h7, (frA I2 150 _ _).ld rfl, e38]
      · rw [(frA I2 150 _ _).ld rfl, e35]
      · intro j hj; rw [frI.ld rfl]; exact hG.2.2.2.2 j hj
      · exact hG.2.1.fr frI rfl rfl (fun _ => rfl) (fun _ => rfl) (fun _ => rfl)
    have e36 := hG.2.2.1
    refine e260_5 (d := d + 2) hR ⟨⟨by omega, by omega⟩, fun h => by exfalso; omega, fun _ => ?_⟩
    rw [e36]
    refine ⟨fun c0 => ⟨hC, hT, hs, ⟨by omega, by omega⟩, hcd, fun I1 hf1 hR1 I2 hf2 hz2 => ?_⟩, fun c0 => ⟨⟨by omega, by omega⟩, ⟨by omega, by omega⟩, by omega, hC, hT, hs, ⟨by omega, by omega⟩, hcd, fun I1 hf1 hR1 I2 hf2 hz2 => ?_⟩⟩
    · have ea : (0 : Int) = avS A school year code known := by unfold avS; rw [if_pos c0]
      refine ⟨fun c1 => ?_, fun c1 => ?_⟩
      · obtain ⟨k1, k2, k3⟩ := key 0 ea I1 hf1 hR1 I2 hf2 hz2 (.int (oI school)) (.int (oI (suL A school year code known (A 91 1).toNat))) w8 w9
        rw [k2]
        have : pfS A school year code known = avS A school year code known := by unfold pfS; rw [if_pos (by rw [← k1]; exact c1)]
        rw [this] at k3; exact k3
      · obtain ⟨k1, k2, k3⟩ := key 0 ea I1 hf1 hR1 I2 hf2 hz2 (.int (oI school)) (.int (oI (suL A school year code known (A 91 1).toNat))) w8 w9
        rw [k2, k1]
        have : pfS A school year code known = min (avS A school year code known) (sfS A school year code) := by unfold pfS; rw [if_neg (by rw [← k1]; exact c1)]
        rw [this] at k3; exact k3
    · have ea : Int.tdiv (suL A school year code known (A 91 1).toNat) (4 * opS A school year known) = avS A school year code known := by unfold avS; rw [if_neg c0]
      refine ⟨fun c1 => ?_, fun c1 => ?_⟩
      · obtain ⟨k1, k2, k3⟩ := key _ ea I1 hf1 hR1 I2 hf2 hz2 (.int (oI school)) (.int (oI (suL A school year code known (A 91 1).toNat))) w8 w9
        rw [k2]
        have : pfS A school year code known = avS A school year code known := by unfold pfS; rw [if_pos (by rw [← k1]; exact c1)]
        rw [this] at k3; exact k3
      · obtain ⟨k1, k2, k3⟩ := key _ ea I1 hf1 hR1 I2 hf2 hz2 (.int (oI school)) (.int (oI (suL A school year code known (A 91 1).toNat))) w8 w9
        rw [k2, k1]
        have : pfS A school year code known = min (avS A school year code known) (sfS A school year code) := by unfold pfS; rw [if_neg (by rw [← k1]; exact c1)]
        rw [this] at k3; exact k3
  | succ n ih =>
    intro k I w7 w8 w9 hk hR hf hG
    refine e260_5 (d := d + 2) hR ⟨⟨by omega, by omega⟩, fun h => ⟨hW, hC, hP, by omega, hy, hkn, fun I1 hf1 hR1 I2 hf2 hN2 => ⟨by omega, ?_⟩⟩, fun h => by exfalso; omega⟩
    rw [Int.toNat_natCast]
    have hG2 : GF A school year code known k I2 := (hG.fr hf1 (fun _ => rfl) rfl rfl (fun _ => rfl) (fun _ => rfl) (fun _ => rfl) rfl rfl (fun _ _ => rfl)).fr hf2 (fun _ => rfl) rfl rfl (fun _ => rfl) (fun _ => rfl) (fun _ => rfl) rfl rfl (fun _ _ => rfl)
    have q := l260_6 (d := d + 1) (L := L) (R := R) (S := S) (Q := Q) (I0 := I0) (school := school) (sum := suL A school year code known k) (k := k) hW hC hP (by omega) hs hy hcd (fun I3 w7 w8 w9 h1 h2 h3 => ih (k + 1) I3 w7 w8 w9 (by omega) h2 h1 h3) 200 0 (u2 I2 120 k (oI 0)) w9 rfl ((hR1.fr hf2 rfl rfl (fun _ => rfl)).scr rfl) ((hf.trans ((hf1.sub rfl rfl).trans (hf2.sub rfl rfl))).wr rfl) ?_ (hN2.fr (frA I2 120 _ _) ?_) ?_
    · have e0 : shS A school k year code (stS A k year known) known 0 = 0 := by unfold shS saL; simp
      rw [e0, Int.add_zero] at q
      exact q
    · refine ⟨hG2.1.fr (frA I2 120 _ _) (fun _ => rfl), hG2.2.1.fr (frA I2 120 _ _) rfl rfl (fun _ => rfl) (fun _ => rfl) (fun _ => rfl), ((frA I2 120 _ _).ld rfl).trans hG2.2.2.1, ((frA I2 120 _ _).ld rfl).trans hG2.2.2.2.1, fun j hj => ?_⟩
      rw [ld_w (inRd rfl), if_neg (by omega)]
      exact hG2.2.2.2.2 j hj
    · intro a q ha
      have : a = 111 ∨ a = 112 ∨ a = 113 ∨ a = 114 ∨ a = 115 := by omega
      rcases this with rfl | rfl | rfl | rfl | rfl <;> rfl
    · rw [ld_w (inRd rfl), if_pos rfl]; unfold yhS yrL; simp
theorem opL_succ {school : Int} {k : Nat} : opL A school year known (k + 1) = opL A school year known k + (if bI (spS A 1 school (100 * year + k) known) = 0 then 1 else 0) := rfl
theorem l260_1 {school : Int} (hW : WfA A) (hC : WfC A) (hP : WfP A) (hT : WfT A) (hs : 0 ≤ school ∧ school < 6) (hy : 0 ≤ year ∧ year ≤ 7) (hcd : 0 ≤ code ∧ code ≤ 7) (hkn : inR known) (hK : ∀ I1, Fr [111, 112, 113, 114, 115, 116, 117, 118, 119, 120, 150, 151] [(91, 34), (91, 35), (91, 36), (91, 37), (91, 38), (91, 39), (91, 87)] I0 I1 → RM I1 A → LinesI I1 (gtL A school year code known) → ld I1 91 35 = avS A school year code known → ld I1 91 36 = opS A school year known → ld I1 91 37 = puL A school year known (A 91 1).toNat → ld I1 91 38 = sfS A school year code → Q none (bd L I1 R S)) : ∀ (n k : Nat) (I : mI) (w6 w7 w8 w9 : Value), k + n = 100 → RM I A → Fr [111, 112, 113, 114, 115, 116, 117, 118, 119, 120, 150, 151] [(91, 34), (91, 35), (91, 36), (91, 37), (91, 38), (91, 39), (91, 87)] I0 I → PShut A year known I → LinesI I [] → ld I 91 36 = opL A school year known k → ld I 91 37 = 0 → h260_1 (d + 31) L I R S Q school year code known k w6 w7 w8 w9 := by
  intro n
  induction n with
  | zero =>
    intro k I w6 w7 w8 w9 hk hR hf hS hl h36 h37
    refine e260_1 (d := d + 30) hR ⟨⟨by omega, by omega⟩, fun h => by exfalso; omega, fun _ => ?_⟩
    refine l260_5 (d := d) hW hC hP hT ⟨by omega, by omega⟩ hy hcd hkn hK (A 91 1).toNat 0 I _ _ _ (by omega) hR hf ⟨hS, hl, ?_, h37, fun j hj => by omega⟩
    rw [h36, show k = 100 by omega]; rfl
  | succ n ih =>
    intro k I w6 w7 w8 w9 hk hR hf hS hl h36 h37
    have sh := hS school.toNat k (by omega) (by omega)
    rw [show ((school.toNat : Nat) : Int) = school by omega] at sh
    have oi := opL_in (A := A) (year := year) (known := known) (school := school) (k + 1)
    refine e260_1 (d := d + 30) hR ⟨⟨by omega, by omega⟩, fun _ => ⟨by omega, ?_⟩, fun h => by exfalso; omega⟩
    rw [show (100 * school + (k : Int)).toNat = 100 * school.toNat + k by omega, sh, h36, ← opL_succ]
    have ovr : inR (opL A school year known (k + 1)) := ⟨by omega, by omega⟩
    refine ih (k + 1) _ w6 w7 w8 w9 (by omega) (hR.scr rfl) (hf.wr rfl) (hS.fr (fr1 I 91 36 _) (fun _ => rfl)) (hl.fr (fr1 I 91 36 _) rfl rfl (fun _ => rfl) (fun _ => rfl) (fun _ => rfl)) ?_ (((fr1 I 91 36 _).ld rfl).trans h37)
    rw [ld_w ovr, if_pos rfl]
theorem k260 {K : mM → Prop} {school : Int} (hR : RM I A) (hW : WfA A) (hC : WfC A) (hP : WfP A) (hT : WfT A) (hs : 0 ≤ school ∧ school < 6) (hy : 0 ≤ year ∧ year ≤ 7) (hcd : 0 ≤ code ∧ code ≤ 7) (hkn : inR known) (hK : ∀ I1, Fr [111, 112, 113, 114, 115, 116, 117, 118, 119, 120, 150, 151] [(91, 34), (91, 35), (91, 36), (91, 37), (91, 38), (91, 39), (91, 87)] I I1 → RM I1 A → LinesI I1 (gtL A school year code known) → ld I1 91 35 = avS A school year code known → ld I1 91 36 = opS A school year known → ld I1 91 37 = puL A school year known (A 91 1).toNat → ld I1 91 38 = sfS A school year code → K (bd L I1 R S)) : CallV (d + 31) 260 [.ref 91, .int (oI school), .int (oI year), .int (oI code), .int (oI known)] (bd L I R S) K := by
  refine e260 (d := d + 29) hR ⟨hW, hy, hkn, fun I1 hf1 hS1 => ?_⟩
  have frI : Fr [116] [(91, 34), (91, 39), (91, 36), (91, 37)] I I1 := ((((((Fr.refl _ _ _).wr rfl).wr rfl).wr rfl).wr rfl).trans (hf1.sub rfl rfl))
  refine l260_1 (d := d) hW hC hP hT hs hy hcd hkn (fun I2 h1 h2 h3 h4 h5 h6 h7 => rqV_of (hK I2 ((frI.sub rfl rfl).trans h1) h2 h3 h4 h5 h6 h7)) 100 0 I1 _ _ _ _ rfl (hR.fr frI rfl rfl (fun _ => rfl)) (Fr.refl _ _ _) hS1 ⟨?_, by decide, ?_, fun i hi => absurd hi (Nat.not_lt_zero _)⟩ ?_ ?_
  · rw [hf1.ld rfl, (fr1 _ 91 37 _).ld rfl, (fr1 _ 91 36 _).ld rfl, (fr1 _ 91 39 _).ld rfl, ld_w (inRd rfl), if_pos rfl]; rfl
  · rw [hf1 91 39 rfl, (fr1 _ 91 37 _) 91 39 rfl, (fr1 _ 91 36 _) 91 39 rfl, v2_eq]; rfl
  · rw [hf1.ld rfl, (fr1 _ 91 37 _).ld rfl, ld_w (inRd rfl), if_pos rfl]; rfl
  · rw [hf1.ld rfl, ld_w (inRd rfl), if_pos rfl]
end
