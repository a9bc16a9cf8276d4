/-! the law's run from its entry -/
section
variable {L : Nat} {xs : Nat → Int32}
theorem s0_D : sZ L xs = zcD (sZ L xs) [] := by
  refine Prod.ext ?_ (Prod.ext ?_ ?_)
  · funext a k
    show s0I xs a k = if a < 8 then s0I xs a k else zcI [] (a - 8) k
    by_cases h : a < 8
    · rw [if_pos h]
    · rw [if_neg h]
      unfold s0I
      rw [if_neg (by omega), if_neg (by omega), if_neg (by omega), if_neg (by omega), if_neg (by omega)]
      rfl
  · funext a k
    show s0R a k = if a < 8 then s0R a k else zcR [] (a - 8) k
    by_cases h : a < 8
    · rw [if_pos h]
    · rw [if_neg h]
      unfold s0R
      rw [if_neg (show ¬ a = 2 by omega), if_neg (show ¬ a = 4 by omega)]
      split <;> rfl
  · show s0S L = s0S L ++ []
    rw [List.append_nil]
theorem gbE341 : gb 341 0 = [(58, 0, 0, 13), (13, 0, 0, 0), (100, 0, 1, 337), (9, 1, 0, 0), (58, 0, 14, 14), (13, 0, 0, 0), (100, 207, 1, 338), (9, 2, 0, 0), (0, 0, 0, 0), (7, 3, 0, 0), (79, 341, 1, 0)] := by decide +kernel
theorem mkL341 : mkL 341 [.ref 0] = [.ref 0, mUn, mUn, mUn] := by
  unfold mkL
  rw [show jML.getD 341 0 = 4 by decide +kernel]
  rfl
theorem zSh_sum (L : Nat) : ((zSh L).map Prod.snd).sum ≤ L + 120000 := by
  have e : (((zSh 0).drop 1).map Prod.snd).sum ≤ 120000 := by decide +kernel
  have hz : zSh L = (0, L) :: (zSh 0).drop 1 := rfl
  rw [hz, List.map_cons, List.sum_cons]
  generalize (((zSh 0).drop 1).map Prod.snd).sum = w at e ⊢
  show L + w ≤ _
  omega
theorem law_wp (hL : L ≤ 3584) : Wp 61 (gb 341 0) (mkL 341 [.ref 0]) [] (sZ L xs) (fun v s => v = some (.int (oI 1)) ∧ s.2.2.length ≤ 20155 ∧ sl s ≤ 1200000) := by
  have h8 : (sZ L xs).2.2.length = 8 := rfl
  have hm : (sZ L xs).2.2[1]? = some (0, 7) := rfl
  have hN : zcN zA 8 = 91 := by decide +kernel
  rw [s0_D, gbE341, mkL341]
  refine r_58.mpr ?_
  rw [zNew h8, zlen h8]
  refine r_13_137.mpr (r_100_1.mpr ⟨⟨zrc_s h8 (by decide +kernel), by decide⟩, ⟨6000, none, _, zrun_s h8 hm 6000 60 _ _ _ _ _ zA_r, rfl, ?_⟩⟩)
  refine r_9_1.mpr (r_58.mpr ?_)
  rw [zNew h8, zlen h8, hN]
  refine r_13_137.mpr (r_100_1.mpr ⟨⟨zrc_s h8 (by decide +kernel), by decide⟩, ⟨6000, none, _, zrun_s h8 hm 6000 60 _ _ _ _ _ zB_r, rfl, ?_⟩⟩)
  refine r_9_2.mpr (r_0.mpr (r_7_3.mpr (r_79.mpr ?_)))
  rw [z_bd]
  refine l341 (d := 0) hL (fun I R S h1 h2 => ⟨rfl, ?_, ?_⟩) 513 0 _ _ _ _ rfl zInv
  · rw [bd_len]; omega
  · show ((zSh L ++ S).map Prod.snd).sum ≤ _
    rw [List.map_append, List.sum_append_nat]
    have e1 := zSh_sum L
    have e2 : (S.map Prod.snd).sum ≤ 1000000 := h2
    omega
end
