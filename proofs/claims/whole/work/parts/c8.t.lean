section
variable {d L : Nat} {I I0 : mI} {R : mR} {S : mSh} {Q : Option Value → mM → Prop} {A : aS} {c day known kind half year subj code : Int}
theorem l178 {hours left : Int} {l : List Nat} {r : Nat} (hC : RC R S I A) (hWC : WfC A) (hl : l.length ≤ 40) (hr : r < l.length) (hh : 0 ≤ left ∧ left ≤ hours ∧ hours ≤ 200) (hm : MbC A year l I) (hH : HrC A year 64 I) (hb : BsC A year hours l 0 I) (hQ : Q (some (.int (oI ((pkS (fun t => hrS A year t) (fun t => woS A (l.getD r 0) year t) ((wsL A year l).drop (r + 1)) left : Nat) : Int)))) (bd L I R S)) : ∀ (n t : Nat) (w : Value), t + n = 64 → pkF (fun t => woS A (l.getD r 0) year t) (fun t => hrS A year t) (mfS (fun t => hrS A year t) ((wsL A year l).drop (r + 1))) left (mfS (fun t => hrS A year t) ((fun t : Nat => woS A (l.getD r 0) year t) :: (wsL A year l).drop (r + 1)) left) n t = pkS (fun t => hrS A year t) (fun t => woS A (l.getD r 0) year t) ((wsL A year l).drop (r + 1)) left → h178_1 d L I R S Q r left t w := by
  have b0 := hb r (by omega) (by omega) left.toNat (by omega)
  rw [show ((left.toNat : Nat) : Int) = left by omega, ws_get hr] at b0
  intro n
  induction n with
  | zero =>
    intro t w ht hp
    have hp : (0 : Nat) = pkS (fun t => hrS A year t) (fun t => woS A (l.getD r 0) year t) ((wsL A year l).drop (r + 1)) left := hp
    rw [← hp] at hQ
    exact e178_1 hC ⟨by unfold inR; omega, fun q => by exfalso; omega, fun _ => hQ⟩
  | succ n ih =>
    intro t w ht hp
    have hi := hrS_in hWC (y := year) (set := (t : Int))
    have bi := brS_in hWC (e := woE A (l.getD r 0) year) (c := ((l.getD r 0 : Nat) : Int)) (year := year) (set := (t : Int))
    have m79 := (hm.2 r hr).2.1
    have m80 := (hm.2 r hr).2.2 t (by omega)
    have m81 := hH t (by omega)
    have ep : pkF (fun t => woS A (l.getD r 0) year t) (fun t => hrS A year t) (mfS (fun t => hrS A year t) ((wsL A year l).drop (r + 1))) left (mfS (fun t => hrS A year t) ((fun t : Nat => woS A (l.getD r 0) year t) :: (wsL A year l).drop (r + 1)) left) (n + 1) t = if ¬ woS A (l.getD r 0) year t = -1 ∧ hrS A year t ≤ left ∧ woS A (l.getD r 0) year t + mfS (fun t => hrS A year t) ((wsL A year l).drop (r + 1)) (left - hrS A year t) = mfS (fun t => hrS A year t) ((fun t : Nat => woS A (l.getD r 0) year t) :: (wsL A year l).drop (r + 1)) left then t else pkF (fun t => woS A (l.getD r 0) year t) (fun t => hrS A year t) (mfS (fun t => hrS A year t) ((wsL A year l).drop (r + 1))) left (mfS (fun t => hrS A year t) ((fun t : Nat => woS A (l.getD r 0) year t) :: (wsL A year l).drop (r + 1)) left) n (t + 1) := rfl
    rw [ep] at hp
    have go : ∀ w, ¬ (¬ woS A (l.getD r 0) year t = -1 ∧ hrS A year t ≤ left ∧ woS A (l.getD r 0) year t + mfS (fun t => hrS A year t) ((wsL A year l).drop (r + 1)) (left - hrS A year t) = mfS (fun t => hrS A year t) ((fun t : Nat => woS A (l.getD r 0) year t) :: (wsL A year l).drop (r + 1)) left) → h178_1 d L I R S Q r left ((t : Int) + 1) w := fun w hn => by
      rw [if_neg hn] at hp
      have := ih (t + 1) w (by omega) hp
      rw [show ((t + 1 : Nat) : Int) = (t : Int) + 1 by omega] at this
      exact this
    refine e178_1 hC ?_
    rw [Int.toNat_natCast, m79, Int.toNat_natCast, m81]
    refine ⟨by unfold inR; omega, fun _ => ⟨by omega, fun q => ⟨by omega, by unfold inR; omega, fun q2 => go _ (fun x => by omega), fun q2 => ?_⟩, fun q => go _ (fun x => x.1 (by unfold woS; rw [if_neg q]))⟩, fun q => by exfalso; omega⟩
    have ew : woS A (l.getD r 0) year t = brS A (woE A (l.getD r 0) year) (l.getD r 0) year t := by unfold woS; rw [if_pos q]
    have b1 := hb (r + 1) (by omega) (by omega) (left - hrS A year t).toNat (by omega)
    rw [show (((left - hrS A year t).toNat : Nat) : Int) = left - hrS A year t by omega] at b1
    have mb := mf_b hWC (year := year) (l := l) (r := r + 1) (h := left - hrS A year t) hl (by omega)
    rw [show ((((r : Int) + 1) * 201 + left) - hrS A year t).toNat = 201 * (r + 1) + (left - hrS A year t).toNat by omega, show ((r : Int) * 64 + t).toNat = 64 * r + t by omega, show ((r : Int) * 201 + left).toNat = 201 * r + left.toNat by omega, b1, m80, b0, ← ew]
    refine ⟨by omega, by omega, by omega, by rw [ew]; unfold inR; omega, fun q3 => ?_, fun q3 => go _ (fun x => q3 x.2.2)⟩
    rw [if_pos ⟨by rw [ew]; omega, by omega, q3⟩] at hp
    rw [← hp] at hQ
    exact hQ
theorem k178 {hours left : Int} {l : List Nat} {r : Nat} {K : Int32 → mM → Prop} (hC : RC R S I A) (hWC : WfC A) (hl : l.length ≤ 40) (hr : r < l.length) (hh : 0 ≤ left ∧ left ≤ hours ∧ hours ≤ 200) (hm : MbC A year l I) (hH : HrC A year 64 I) (hb : BsC A year hours l 0 I) (hK : K (oI ((pkS (fun t => hrS A year t) (fun t => woS A (l.getD r 0) year t) ((wsL A year l).drop (r + 1)) left : Nat) : Int)) (bd L I R S)) : CallI d 178 [.ref 77, .int (oI (r : Int)), .int (oI left)] (bd L I R S) K :=
  e178 hC (l178 hC hWC hl hr hh hm hH hb (rqI_of hK) 64 0 _ rfl rfl)
theorem ck_lt (hWC : WfC A) {hours : Int} {l : List Nat} {r : Nat} (hr : r < l.length) (hh : 0 ≤ hours) : ckP A year hours l r < 64 ∧ hrS A year (ckP A year hours l r : Nat) ≤ lfP A year hours l r := by
  have li := lfP_in hWC (year := year) (hours := hours) (l := l) hh r
  have ws := ws_ok hWC (year := year) (l := l) (r + 1)
  have := pkS_spec (H := fun t => hrS A year t) (M := 599940) (hr_ok hWC) (by omega) (w := fun t => woS A (l.getD r 0) year t) (ws := (wsL A year l).drop (r + 1)) (wo_ok hWC) ws (left := lfP A year hours l r) li.1
  exact ⟨this.1, this.2.2.1⟩
theorem l177 {hours : Int} {l : List Nat} (hWC : WfC A) (hl : l.length ≤ 40) (hq : ∀ q ∈ l, q < 40) (hh : 0 ≤ hours ∧ hours ≤ 200) (hK : ∀ I1, Fr [83] [(77, 11), (77, 12)] I0 I1 → RC R S I1 A → ld I1 77 11 = hours - lfP A year hours l l.length → ld I1 77 12 = (l.length : Int) - enP A year hours l l.length → (∀ c : Nat, c < 40 → ld I1 83 c = stP A year hours l l.length c) → Q none (bd L I1 R S)) : ∀ (n r : Nat) (I : mI) (w3 : Value), r + n = l.length → Fr [83] [(77, 11), (77, 12)] I0 I → RC R S I A → ld I 77 14 = hours → MbC A year l I → HrC A year 64 I → BsC A year hours l 0 I → ld I 77 12 = (r : Int) - enP A year hours l r → (∀ c : Nat, c < 40 → ld I 83 c = stP A year hours l r c) → h177_1 (d + 1) L I R S Q (lfP A year hours l r) r w3 := by
  intro n
  induction n with
  | zero =>
    intro r I w3 hr hf hC h14 hm hH hb h12 hs
    obtain rfl : r = l.length := by omega
    have li := lfP_in hWC (year := year) (hours := hours) (l := l) hh.1 l.length
    have rl : inR (hours - lfP A year hours l l.length) := by unfold inR; omega
    refine e177_1 (d := d) hC ?_
    rw [hm.1, h14]
    refine ⟨by unfold inR; omega, fun q => by exfalso; omega, fun _ => ?_⟩
    refine hK _ (hf.wr rfl) (hC.scr rfl) (by rw [ld_w rl, if_pos rfl]) (by rw [ld_w rl, if_neg (by decide)]; exact h12) (fun c hc => by rw [ld_o (by decide)]; exact hs c hc)
  | succ n ih =>
    intro r I w3 hr hf hC h14 hm hH hb h12 hs
    have li := lfP_in hWC (year := year) (hours := hours) (l := l) hh.1 r
    have ei := enP_in (A := A) (year := year) (hours := hours) (l := l) r
    have ck := ck_lt hWC (year := year) (hours := hours) (l := l) (r := r) (by omega) hh.1
    have m78 := (hm.2 r (by omega)).1
    have hq0 : l.getD r 0 < 40 := by
      refine hq _ ?_
      rw [List.getD_eq_getElem?_getD, List.getElem?_eq_getElem (by omega)]
      exact List.getElem_mem _
    have rk : inR ((ckP A year hours l r : Nat) : Int) := by unfold inR; omega
    have m81 := hH (ckP A year hours l r) ck.1
    refine e177_1 (d := d) hC ?_
    rw [hm.1]
    refine ⟨by unfold inR; omega, fun _ => ?_, fun q => by exfalso; omega⟩
    refine k178 (d := d) (year := year) (hours := hours) (l := l) hC hWC hl (by omega) ⟨li.1, li.2, hh.2⟩ hm hH hb ⟨_, I, rfl, rfl, rk, hC, ?_⟩
    show (0 ≤ (r : Int) ∧ (r : Int) < 40) ∧ (0 ≤ ld I 78 (r : Int).toNat ∧ ld I 78 (r : Int).toNat < 40) ∧ (0 ≤ ((ckP A year hours l r : Nat) : Int) ∧ ((ckP A year hours l r : Nat) : Int) < 64) ∧ h177_1 (d + 1) L (u2 (u2 I 83 (ld I 78 (r : Int).toNat).toNat (oI ((ckP A year hours l r : Nat) : Int))) 77 12 (oI (ld I 77 12 + (if ((ckP A year hours l r : Nat) : Int) = 0 then (1 : Int) else 0)))) R S Q (lfP A year hours l r - ld I 81 ((ckP A year hours l r : Nat) : Int).toNat) ((r : Int) + 1) (.int (oI ((ckP A year hours l r : Nat) : Int)))
    rw [Int.toNat_natCast, Int.toNat_natCast, m78, m81, Int.toNat_natCast, h12]
    refine ⟨by omega, by omega, by omega, ?_⟩
    have e1 : lfP A year hours l (r + 1) = lfP A year hours l r - hrS A year (ckP A year hours l r : Nat) := rfl
    have e2 : enP A year hours l (r + 1) = enP A year hours l r + (if ((ckP A year hours l r : Nat) : Int) = 0 then 0 else 1) := rfl
    have ru : inR ((r : Int) - enP A year hours l r + (if ((ckP A year hours l r : Nat) : Int) = 0 then (1 : Int) else 0)) := by unfold inR; split <;> omega
    have f1 : Fr [83] [(77, 12)] I (u2 (u2 I 83 (l.getD r 0) (oI ((ckP A year hours l r : Nat) : Int))) 77 12 (oI ((r : Int) - enP A year hours l r + (if ((ckP A year hours l r : Nat) : Int) = 0 then (1 : Int) else 0)))) := ((Fr.refl _ _ _).wr rfl).wr rfl
    have := ih (r + 1) _ (.int (oI ((ckP A year hours l r : Nat) : Int))) (by omega) (hf.trans (f1.sub rfl rfl)) (hC.fr f1 rfl) (by rw [f1.ld rfl]; exact h14) (hm.fr f1 rfl (fun _ => ⟨rfl, rfl, rfl⟩)) (hH.fr f1 (fun _ => rfl)) (hb.fr f1 (fun _ => rfl)) (by
      rw [ld_w ru, if_pos rfl, e2]
      split <;> omega) (fun c hc => by
      rw [ld_o (by decide), ld_w rk]
      show _ = if c = l.getD r 0 then ((ckP A year hours l r : Nat) : Int) else stP A year hours l r c
      split
      · rfl
      · exact hs c hc)
    rw [e1, show ((r + 1 : Nat) : Int) = (r : Int) + 1 by omega] at this
    exact this
theorem k177 {hours : Int} {l : List Nat} {K : mM → Prop} (hC : RC R S I A) (hWC : WfC A) (hl : l.length ≤ 40) (hq : ∀ q ∈ l, q < 40) (hh : 0 ≤ hours ∧ hours ≤ 200) (h14 : ld I 77 14 = hours) (hm : MbC A year l I) (hH : HrC A year 64 I) (hb : BsC A year hours l 0 I) (hK : ∀ I1, Fr [83] [(77, 11), (77, 12)] I I1 → RC R S I1 A → ld I1 77 11 = hours - lfP A year hours l l.length → ld I1 77 12 = (l.length : Int) - enP A year hours l l.length → (∀ c : Nat, c < 40 → ld I1 83 c = stP A year hours l l.length c) → K (bd L I1 R S)) : CallV (d + 1) 177 [.ref 77] (bd L I R S) K := by
  refine e177 (d := d) hC (fun I1 f1 z1 => ?_)
  rw [f1.ld rfl, h14]
  have fx : Fr [] [(77, 12)] I1 (u2 I1 77 12 (oI 0)) := fr1 _ _ _ _
  exact l177 (d := d) (I0 := I) (year := year) (hours := hours) (l := l) hWC hl hq hh (fun I2 a b q1 q2 q3 => rqV_of (hK I2 a b q1 q2 q3)) l.length 0 _ _ (by omega) ((f1.sub rfl rfl).wr rfl) ((hC.fr f1 rfl).scr rfl) (by rw [fx.ld rfl, f1.ld rfl]; exact h14) ((hm.fr f1 rfl (fun _ => ⟨rfl, rfl, rfl⟩)).fr fx rfl (fun _ => ⟨rfl, rfl, rfl⟩)) ((hH.fr f1 (fun _ => rfl)).fr fx (fun _ => rfl)) ((hb.fr f1 (fun _ => rfl)).fr fx (fun _ => rfl)) (by rw [ld_w (inRd rfl), if_pos rfl]; rfl) (fun c hc => by rw [fx.ld rfl, z1 c hc]; rfl)
/-- what the choice left behind -/
def EnC (A : aS) (school hours : Int) (I : mI) : Prop := ld I 82 hours.toNat = mfS (fun t => hrS A (yrT A) t) (wsL A (yrT A) (rwN A school)) hours ∧ ld I 77 11 = hours - lfP A (yrT A) hours (rwN A school) (rwN A school).length ∧ ld I 77 12 = ((rwN A school).length : Int) - enP A (yrT A) hours (rwN A school) (rwN A school).length ∧ ∀ c : Nat, c < 40 → ld I 83 c = stP A (yrT A) hours (rwN A school) (rwN A school).length c
def EnK (I : mI) (school hours ch : Int) : Prop := ld I 77 13 = school ∧ ld I 77 14 = hours ∧ ld I 77 15 = ch
theorem l170_2 {sc hours : Int} (hW : WfA A) (hP : WfP A) (hWC : WfC A) (hWE : WfE A) (hh : 0 ≤ hours ∧ hours ≤ 200) (hK : ∀ I1, Fr [60, 61, 62, 63, 64, 65, 66, 67, 69, 78, 79, 80, 82, 83, 84] [(59, 16), (77, 10), (77, 11), (77, 12)] I0 I1 → RC R S I1 A → EnC A sc hours I1 → HrC A (yrT A) 64 I1 → Q none (bd L I1 R S)) : ∀ (n k : Nat) (I : mI) (w1 w2 w4 : Value), k + n = (A 91 1).toNat → Fr [60, 61, 62, 63, 64, 65, 66, 67, 69, 78, 79, 80, 82, 83, 84] [(59, 16), (77, 10), (77, 11), (77, 12)] I0 I → RC R S I A → ld I 77 13 = sc → ld I 77 14 = hours → WnP I (100 * yrT A) (100 * yrT A + 99) (A 91 0) → ShP A I (100 * yrT A) (100 * yrT A + 99) (A 91 0) → MbC A (yrT A) (rwL A sc k) I → HrC A (yrT A) 64 I → h170_2 (d + 29) L I R S Q w1 w2 (A 91 0) w4 (yrT A) k := by
  have h40 := hW.2.1
  have h00 := hW.1
  have td : (0 ≤ yrT A ∧ yrT A ≤ 7) ∧ (0 ≤ A 91 0 - yrT A * 100 ∧ A 91 0 - yrT A * 100 < 100) := td100 h00
  intro n
  induction n with
  | zero =>
    intro k I w1 w2 w4 hk hf hC h13 h14 hw hs hm hH
    have rw9 := rwL_in (A := A) (school := sc) k
    refine e170_2 (d := d + 25) hC ⟨by unfold inR; omega, fun q => by exfalso; omega, fun _ => ?_⟩
    refine k175 (d := d + 27) (year := yrT A) (hours := hours) (l := rwL A sc k) hC hWC (by omega) hh h14 hm hH (fun I1 f1 hC1 hb1 => ⟨I1, rfl, hC1, ?_⟩)
    refine k177 (d := d + 27) (year := yrT A) (hours := hours) (l := rwL A sc k) hC1 hWC (by omega) (fun q hq => by have := rw9.2 q hq; omega) hh (by rw [f1.ld rfl]; exact h14) (hm.fr f1 rfl (fun _ => ⟨rfl, rfl, rfl⟩)) (hH.fr f1 (fun _ => rfl)) hb1 (fun I2 f2 hC2 q1 q2 q3 => ⟨I2, rfl, hC2, hK I2 (hf.trans ((f1.sub rfl rfl).trans (f2.sub rfl rfl))) hC2 ?_ ((hH.fr f1 (fun _ => rfl)).fr f2 (fun _ => rfl))⟩)
    have eN : rwN A sc = rwL A sc k := by unfold rwN; rw [show k = (A 91 1).toNat by omega]
    unfold EnC
    rw [eN]
    refine ⟨?_, q1, q2, q3⟩
    have := hb1 0 (Nat.le_refl _) (Nat.zero_le _) hours.toNat (by omega)
    rw [show ((hours.toNat : Nat) : Int) = hours by omega, Nat.mul_zero, Nat.zero_add] at this
    rw [f2.ld rfl]; exact this
  | succ n ih =>
    intro k I w1 w2 w4 hk hf hC h13 h14 hw hs hm hH
    have rw9 := rwL_in (A := A) (school := sc) k
    have ih := fun I w1 w2 w4 => ih (k + 1) I w1 w2 w4 (by omega)
    rw [rwL_succ, show ((k + 1 : Nat) : Int) = (k : Int) + 1 by omega] at ih
    refine e170_2 (d := d + 25) hC ⟨by unfold inR; omega, fun _ => ⟨hW, by omega, _, _, _, ?_, hw, fun I10 f10 c10 l10 => ?_⟩, fun q => by exfalso; omega⟩
    · unfold WnOk; omega
    · have w10 := hw.fr f10 rfl rfl rfl
      have s10 := hs.fr f10 (fun _ => rfl)
      have k13 : ld I10 77 13 = sc := by rw [f10.ld rfl]; exact h13
      have k14 : ld I10 77 14 = hours := by rw [f10.ld rfl]; exact h14
      have m10 := hm.fr f10 rfl (fun _ => ⟨rfl, rfl, rfl⟩)
      have hh10 := hH.fr f10 (fun _ => rfl)
      have hC10 := hC.fr f10 rfl
      have on := (l10 (A 91 0 - 100 * yrT A).toNat (by omega)).1
      rw [show 100 * yrT A + (((A 91 0 - 100 * yrT A).toNat : Nat) : Int) = A 91 0 by omega] at on
      rw [w10.1, w10.2.1, k13, on, m10.1]
      refine ⟨by unfold inR; omega, fun _ => ⟨by omega, fun q => ⟨by omega, ?_⟩, fun q => ?_⟩, fun q => by exfalso; omega⟩
      · rw [if_pos q] at ih
        have rk : inR (k : Int) := by unfold inR; omega
        have fx : Fr [78] [] I10 (u2 I10 78 (rwL A sc k).length (oI (k : Int))) := frA _ _ _ _
        rw [Int.toNat_natCast]
        refine k172 (d := d) (r := (rwL A sc k).length) (c := (k : Int)) (year := yrT A) (hC10.scr rfl) hW hP hWC hWE (by omega) (by rw [fx.ld rfl]; exact m10.1) (by rw [ld_w rk, if_pos rfl]) (by omega) td.1 (RgP.fr (show RgP A I10 k (100 * yrT A) (100 * yrT A + 99) (A 91 0) from ⟨by unfold WnOk; omega, w10, s10, l10, c10⟩) fx rfl rfl rfl rfl (fun _ => rfl) (fun _ => ⟨rfl, rfl, rfl, rfl, rfl⟩)) (fun I20 f20 hC20 q1 q2 q3 q4 => ⟨I20, rfl, hC20, ?_⟩)
        have k10 : ld I20 77 10 = (rwL A sc k).length := by rw [f20.ld rfl, fx.ld rfl]; exact m10.1
        have rl : inR (((rwL A sc k).length : Int) + 1) := by unfold inR; omega
        rw [k10]
        have f21 : Fr [60, 61, 62, 63, 64, 65, 66, 67, 69, 78, 79, 80, 82, 83, 84] [(59, 16), (77, 10), (77, 11), (77, 12)] I (u2 I20 77 10 (oI (((rwL A sc k).length : Int) + 1))) := ((f10.sub rfl rfl).trans ((fx.sub rfl rfl).trans (f20.sub rfl rfl))).wr rfl
        refine ih _ _ _ _ (hf.trans f21) (hC20.scr rfl) (by rw [ld_w rl, if_neg (by decide), f20.ld rfl, fx.ld rfl]; exact k13) (by rw [ld_w rl, if_neg (by decide), f20.ld rfl, fx.ld rfl]; exact k14) (((w10.fr fx rfl rfl rfl).fr f20 rfl rfl rfl).fr (fr1 _ 77 10 _) rfl rfl rfl) (((s10.fr fx (fun _ => rfl)).fr f20 (fun _ => rfl)).fr (fr1 _ 77 10 _) (fun _ => rfl)) ⟨?_, fun r hr => ?_⟩ (((hh10.fr fx (fun _ => rfl)).fr f20 (fun _ => rfl)).fr (fr1 _ 77 10 _) (fun _ => rfl))
        · rw [ld_w rl, if_pos rfl, List.length_append]; rfl
        · rw [List.length_append] at hr
          have hr : r < (rwL A sc k).length + 1 := hr
          rw [gd_app, ld_o (a := 77) (b := 78) (by decide), ld_o (a := 77) (b := 79) (by decide), f20.ld (a := 78) rfl, ld_w rk]
          by_cases e : r = (rwL A sc k).length
          · subst e
            rw [if_pos rfl, if_neg (by omega), if_pos rfl]
            exact ⟨rfl, q1, fun t ht => by rw [ld_o (by decide)]; exact q3 t ht⟩
          · rw [if_neg e, if_pos (by omega), q2 r e, ld_o (by decide)]
            have m := m10.2 r (by omega)
            exact ⟨m.1, m.2.1, fun t ht => by rw [ld_o (by decide), q4 _ (by omega), ld_o (by decide)]; exact m.2.2 t ht⟩
      · rw [if_neg q] at ih
        exact ih I10 _ _ _ (hf.trans (f10.sub rfl rfl)) hC10 k13 k14 w10 s10 m10 hh10
theorem k170 {sc hours ch : Int} {K : mM → Prop} (hC : RC R S I A) (hW : WfA A) (hP : WfP A) (hWC : WfC A) (hWE : WfE A) (hs : inR sc) (hh : 0 ≤ hours ∧ hours ≤ 200) (hch : inR ch) (h0 : ld I 81 0 = 0) (hm : EnK I sc hours ch → EnC A sc hours I) (hK : ∀ I1, Fr [60, 61, 62, 63, 64, 65, 66, 67, 68, 69, 78, 79, 80, 81, 82, 83, 84] [(59, 13), (59, 14), (59, 15), (59, 16), (77, 10), (77, 11), (77, 12), (77, 13), (77, 14), (77, 15)] I I1 → RC R S I1 A → EnC A sc hours I1 → EnK I1 sc hours ch → ld I1 81 0 = 0 → K (bd L I1 R S)) : CallV (d + 29) 170 [.ref 77, .int (oI sc), .int (oI hours), .int (oI (A 91 0)), .int (oI ch)] (bd L I R S) K := by
  have h00 := hW.1
  have td : (0 ≤ yrT A ∧ yrT A ≤ 7) ∧ (0 ≤ A 91 0 - yrT A * 100 ∧ A 91 0 - yrT A * 100 < 100) := td100 h00
  have rh : inR hours := by unfold inR; omega
  have main : h170_1 (d + 29) L I R S (rqV K) sc hours (A 91 0) ch mUn mUn := by
    have fK : Fr [] [(77, 13), (77, 14), (77, 15)] I (u2 (u2 (u2 I 77 13 (oI sc)) 77 14 (oI hours)) 77 15 (oI ch)) := (((Fr.refl _ _ _).wr rfl).wr rfl).wr rfl
    refine e170_1 (d := d + 25) hC ⟨by unfold inR; omega, ?_⟩
    refine k171 (d := d + 2) (y := yrT A) (hC.fr fK rfl) hWC td.1 (by rw [fK.ld rfl]; exact h0) (fun I2 f2 hC2 q2 => ⟨I2, rfl, hC2, hW, by unfold WnOk; show 0 ≤ yrT A * 100 ∧ yrT A * 100 ≤ yrT A * 100 + 100 - 1 ∧ yrT A * 100 + 100 - 1 ≤ 799 ∧ yrT A * 100 + 100 - 1 ≤ yrT A * 100 + 99 ∧ 0 ≤ A 91 0 ∧ A 91 0 ≤ 799; omega, fun I7 f7 w7 s7 => ?_⟩)
    have e1 : Int.tdiv (A 91 0) 100 * 100 + 100 - 1 = 100 * yrT A + 99 := by show yrT A * 100 + 100 - 1 = _; omega
    have e2 : Int.tdiv (A 91 0) 100 * 100 = 100 * yrT A := by show yrT A * 100 = _; omega
    rw [e1, e2] at w7 s7
    have k13 : ld I7 77 13 = sc := by rw [f7.ld rfl, ld_w (inRd rfl), if_neg (by decide), f2.ld rfl, ld_w hch, if_neg (by decide), ld_w rh, if_neg (by decide), ld_w hs, if_pos rfl]
    have k14 : ld I7 77 14 = hours := by rw [f7.ld rfl, ld_w (inRd rfl), if_neg (by decide), f2.ld rfl, ld_w hch, if_neg (by decide), ld_w rh, if_pos rfl]
    have k15 : ld I7 77 15 = ch := by rw [f7.ld rfl, ld_w (inRd rfl), if_neg (by decide), f2.ld rfl, ld_w hch, if_pos rfl]
    have fA : Fr [60, 61, 62, 63, 64, 65, 66, 67, 68, 69, 78, 79, 80, 81, 82, 83, 84] [(59, 13), (59, 14), (59, 15), (59, 16), (77, 10), (77, 11), (77, 12), (77, 13), (77, 14), (77, 15)] I I7 := (fK.sub rfl rfl).trans (((f2.sub rfl rfl).wr rfl).trans (f7.sub rfl rfl))
    refine l170_2 (d := d) (I0 := I7) (sc := sc) (hours := hours) hW hP hWC hWE hh (fun I1 f1 hC1 e1 hH1 => rqV_of (hK I1 ((fA.sub rfl rfl).trans (f1.sub rfl rfl)) hC1 e1 ⟨by rw [f1.ld rfl]; exact k13, by rw [f1.ld rfl]; exact k14, by rw [f1.ld rfl]; exact k15⟩ (by rw [hH1 0 (by decide)]; exact hrS_0))) (A 91 1).toNat 0 I7 _ _ _ (by omega) (Fr.refl _ _ _) ((hC2.scr rfl).fr f7 rfl) k13 k14 w7 s7 ⟨?_, fun r hr => absurd hr (by show ¬ r < 0; omega)⟩ ((q2.fr (fr1 _ 77 10 _) (fun _ => rfl)).fr f7 (fun _ => rfl))
    rw [f7.ld rfl, ld_w (inRd rfl), if_pos rfl]; rfl
  refine e170 (d := d + 29) hC ⟨hs, fun q1 => ⟨rh, fun q2 => ⟨hch, fun q3 => hK I (Fr.refl _ _ _) hC (hm ⟨q1, q2, q3⟩) ⟨q1, q2, q3⟩ h0, fun _ => main⟩, fun _ => main⟩, fun _ => main⟩
end
