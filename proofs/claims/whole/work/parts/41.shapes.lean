/-! shapes of the first cells; switches -/
section
variable {d m b L n p : Nat} {blk : List mIns} {ls st : List Value} {σ : mM} {Q : Option Value → mM → Prop} {I : Nat → Nat → Int32} {R : Nat → Nat → Option Nat} {S : List (Nat × Nat)}
theorem xG (h : gb m b = blk) (w : Wp d blk ls st σ Q) : Wp d (gb m b) ls st σ Q := by rw [h]; exact w
theorem inRd {z : Int} (h : decide (-2147483648 ≤ z ∧ z ≤ 2147483647) = true) : inR z := (of_decide_eq_true h : _ ∧ _)
theorem rfN {k : Nat} (h : zRf.getD p [] = []) : (bd L I R S).2.1 p k = R p k := by
  show rfB R p k = _
  unfold rfB zr
  rw [h]
  rfl
def selC (tb : List Nat) (lo : Int) (vs : List Int) : Bool := (List.range (tb.length - 1)).all (fun i => tb.getD (i + 1) 0 == tb.getD 0 0 || vs.contains (lo + i))
theorem mSel_def {tb : List Nat} {x lo : Int} {vs : List Int} {t : Nat} (hc : (selC tb lo vs && tb.getD 0 0 == t) = true) (hv : ∀ v ∈ vs, x ≠ v) : mSel tb (x - lo) = t := by
  simp only [Bool.and_eq_true, beq_iff_eq] at hc
  obtain ⟨hc, rfl⟩ := hc
  unfold mSel
  split
  · rename_i h
    have h9 := List.all_eq_true.mp hc (x - lo).toNat (List.mem_range.mpr (by omega))
    simp only [Bool.or_eq_true, beq_iff_eq, List.contains_iff_mem] at h9
    rcases h9 with h9 | h9
    · exact h9
    · exact absurd (by omega) (hv _ h9)
  · rfl
theorem sh1 : (bd L I R S).2.2[1]? = some (0, 7) := rfl
theorem sh2 : (bd L I R S).2.2[2]? = some (17, 4) := rfl
theorem sh3 : (bd L I R S).2.2[3]? = some (1, 328) := rfl
theorem sh4 : (bd L I R S).2.2[4]? = some (17, 4) := rfl
theorem sh5 : (bd L I R S).2.2[5]? = some (1, 0) := rfl
theorem sh6 : (bd L I R S).2.2[6]? = some (1, 100) := rfl
theorem sh7 : (bd L I R S).2.2[7]? = some (1, 100) := rfl
theorem sh8 : (bd L I R S).2.2[8]? = some (4, 10) := rfl
theorem sh9 : (bd L I R S).2.2[9]? = some (5, 17) := rfl
theorem sh10 : (bd L I R S).2.2[10]? = some (0, 10) := rfl
theorem sh11 : (bd L I R S).2.2[11]? = some (0, 10) := rfl
theorem sh12 : (bd L I R S).2.2[12]? = some (0, 10) := rfl
theorem sh13 : (bd L I R S).2.2[13]? = some (0, 10) := rfl
theorem sh14 : (bd L I R S).2.2[14]? = some (0, 6) := rfl
theorem sh15 : (bd L I R S).2.2[15]? = some (0, 6) := rfl
theorem sh16 : (bd L I R S).2.2[16]? = some (0, 6) := rfl
theorem sh17 : (bd L I R S).2.2[17]? = some (0, 10) := rfl
theorem sh18 : (bd L I R S).2.2[18]? = some (0, 10) := rfl
theorem sh19 : (bd L I R S).2.2[19]? = some (0, 10) := rfl
theorem sh20 : (bd L I R S).2.2[20]? = some (0, 40) := rfl
theorem sh21 : (bd L I R S).2.2[21]? = some (6, 11) := rfl
theorem sh22 : (bd L I R S).2.2[22]? = some (0, 40) := rfl
theorem sh23 : (bd L I R S).2.2[23]? = some (0, 40) := rfl
theorem sh24 : (bd L I R S).2.2[24]? = some (0, 40) := rfl
theorem sh25 : (bd L I R S).2.2[25]? = some (0, 40) := rfl
theorem sh26 : (bd L I R S).2.2[26]? = some (0, 40) := rfl
theorem sh27 : (bd L I R S).2.2[27]? = some (0, 240) := rfl
theorem sh28 : (bd L I R S).2.2[28]? = some (0, 20) := rfl
theorem sh29 : (bd L I R S).2.2[29]? = some (0, 160) := rfl
theorem sh30 : (bd L I R S).2.2[30]? = some (0, 20) := rfl
theorem sh31 : (bd L I R S).2.2[31]? = some (7, 13) := rfl
theorem sh32 : (bd L I R S).2.2[32]? = some (0, 850) := rfl
theorem sh33 : (bd L I R S).2.2[33]? = some (0, 850) := rfl
theorem sh34 : (bd L I R S).2.2[34]? = some (0, 850) := rfl
theorem sh35 : (bd L I R S).2.2[35]? = some (0, 850) := rfl
theorem sh36 : (bd L I R S).2.2[36]? = some (0, 850) := rfl
theorem sh37 : (bd L I R S).2.2[37]? = some (0, 850) := rfl
theorem sh38 : (bd L I R S).2.2[38]? = some (0, 850) := rfl
theorem sh39 : (bd L I R S).2.2[39]? = some (0, 850) := rfl
theorem sh40 : (bd L I R S).2.2[40]? = some (0, 46) := rfl
theorem sh41 : (bd L I R S).2.2[41]? = some (0, 46) := rfl
theorem sh42 : (bd L I R S).2.2[42]? = some (0, 7) := rfl
theorem sh43 : (bd L I R S).2.2[43]? = some (8, 14) := rfl
theorem sh44 : (bd L I R S).2.2[44]? = some (0, 8) := rfl
theorem sh45 : (bd L I R S).2.2[45]? = some (1, 800) := rfl
theorem sh46 : (bd L I R S).2.2[46]? = some (9, 8) := rfl
theorem sh47 : (bd L I R S).2.2[47]? = some (3, 40) := rfl
theorem sh48 : (bd L I R S).2.2[48]? = some (0, 801) := rfl
theorem sh49 : (bd L I R S).2.2[49]? = some (0, 801) := rfl
theorem sh50 : (bd L I R S).2.2[50]? = some (0, 801) := rfl
theorem sh51 : (bd L I R S).2.2[51]? = some (3, 320) := rfl
theorem sh52 : (bd L I R S).2.2[52]? = some (0, 8) := rfl
theorem sh53 : (bd L I R S).2.2[53]? = some (10, 4) := rfl
theorem sh54 : (bd L I R S).2.2[54]? = some (1, 16) := rfl
theorem sh55 : (bd L I R S).2.2[55]? = some (3, 488) := rfl
theorem sh56 : (bd L I R S).2.2[56]? = some (3, 480) := rfl
theorem sh57 : (bd L I R S).2.2[57]? = some (0, 128) := rfl
theorem sh58 : (bd L I R S).2.2[58]? = some (0, 12) := rfl
theorem sh59 : (bd L I R S).2.2[59]? = some (11, 17) := rfl
theorem sh60 : (bd L I R S).2.2[60]? = some (0, 12) := rfl
theorem sh61 : (bd L I R S).2.2[61]? = some (0, 6) := rfl
theorem sh62 : (bd L I R S).2.2[62]? = some (0, 100) := rfl
theorem sh63 : (bd L I R S).2.2[63]? = some (0, 100) := rfl
theorem sh64 : (bd L I R S).2.2[64]? = some (0, 200) := rfl
theorem sh65 : (bd L I R S).2.2[65]? = some (0, 100) := rfl
theorem sh66 : (bd L I R S).2.2[66]? = some (0, 100) := rfl
theorem sh67 : (bd L I R S).2.2[67]? = some (0, 100) := rfl
theorem sh68 : (bd L I R S).2.2[68]? = some (0, 100) := rfl
theorem sh69 : (bd L I R S).2.2[69]? = some (0, 8) := rfl
theorem sh70 : (bd L I R S).2.2[70]? = some (12, 20) := rfl
theorem sh71 : (bd L I R S).2.2[71]? = some (0, 2461) := rfl
theorem sh72 : (bd L I R S).2.2[72]? = some (0, 2461) := rfl
theorem sh73 : (bd L I R S).2.2[73]? = some (0, 2461) := rfl
theorem sh74 : (bd L I R S).2.2[74]? = some (0, 40) := rfl
theorem sh75 : (bd L I R S).2.2[75]? = some (0, 40) := rfl
theorem sh76 : (bd L I R S).2.2[76]? = some (2, 40) := rfl
theorem sh77 : (bd L I R S).2.2[77]? = some (13, 16) := rfl
theorem sh78 : (bd L I R S).2.2[78]? = some (0, 40) := rfl
theorem sh79 : (bd L I R S).2.2[79]? = some (0, 40) := rfl
theorem sh80 : (bd L I R S).2.2[80]? = some (0, 2560) := rfl
theorem sh81 : (bd L I R S).2.2[81]? = some (0, 64) := rfl
theorem sh82 : (bd L I R S).2.2[82]? = some (0, 8241) := rfl
theorem sh83 : (bd L I R S).2.2[83]? = some (0, 40) := rfl
theorem sh84 : (bd L I R S).2.2[84]? = some (0, 42) := rfl
theorem sh85 : (bd L I R S).2.2[85]? = some (14, 8) := rfl
theorem sh86 : (bd L I R S).2.2[86]? = some (0, 10) := rfl
theorem sh87 : (bd L I R S).2.2[87]? = some (0, 10) := rfl
theorem sh88 : (bd L I R S).2.2[88]? = some (0, 10) := rfl
theorem sh89 : (bd L I R S).2.2[89]? = some (0, 600) := rfl
theorem sh90 : (bd L I R S).2.2[90]? = some (0, 60) := rfl
theorem sh91 : (bd L I R S).2.2[91]? = some (18, 94) := rfl
theorem sh92 : (bd L I R S).2.2[92]? = some (0, 40) := rfl
theorem sh93 : (bd L I R S).2.2[93]? = some (0, 40) := rfl
theorem sh94 : (bd L I R S).2.2[94]? = some (0, 40) := rfl
theorem sh95 : (bd L I R S).2.2[95]? = some (0, 40) := rfl
theorem sh96 : (bd L I R S).2.2[96]? = some (0, 40) := rfl
theorem sh97 : (bd L I R S).2.2[97]? = some (0, 240) := rfl
theorem sh98 : (bd L I R S).2.2[98]? = some (0, 6) := rfl
theorem sh99 : (bd L I R S).2.2[99]? = some (0, 6) := rfl
theorem sh100 : (bd L I R S).2.2[100]? = some (0, 6) := rfl
theorem sh101 : (bd L I R S).2.2[101]? = some (0, 10) := rfl
theorem sh102 : (bd L I R S).2.2[102]? = some (0, 10) := rfl
theorem sh103 : (bd L I R S).2.2[103]? = some (0, 850) := rfl
theorem sh104 : (bd L I R S).2.2[104]? = some (0, 850) := rfl
theorem sh105 : (bd L I R S).2.2[105]? = some (0, 850) := rfl
theorem sh106 : (bd L I R S).2.2[106]? = some (0, 850) := rfl
theorem sh107 : (bd L I R S).2.2[107]? = some (0, 850) := rfl
theorem sh108 : (bd L I R S).2.2[108]? = some (0, 850) := rfl
theorem sh109 : (bd L I R S).2.2[109]? = some (0, 850) := rfl
theorem sh110 : (bd L I R S).2.2[110]? = some (0, 7) := rfl
theorem sh111 : (bd L I R S).2.2[111]? = some (0, 100) := rfl
theorem sh112 : (bd L I R S).2.2[112]? = some (0, 200) := rfl
theorem sh113 : (bd L I R S).2.2[113]? = some (0, 100) := rfl
theorem sh114 : (bd L I R S).2.2[114]? = some (2, 100) := rfl
theorem sh115 : (bd L I R S).2.2[115]? = some (2, 100) := rfl
theorem sh116 : (bd L I R S).2.2[116]? = some (2, 600) := rfl
theorem sh117 : (bd L I R S).2.2[117]? = some (0, 2600) := rfl
theorem sh118 : (bd L I R S).2.2[118]? = some (0, 2600) := rfl
theorem sh119 : (bd L I R S).2.2[119]? = some (0, 2600) := rfl
theorem sh120 : (bd L I R S).2.2[120]? = some (0, 40) := rfl
theorem sh121 : (bd L I R S).2.2[121]? = some (0, 20) := rfl
theorem sh122 : (bd L I R S).2.2[122]? = some (0, 20) := rfl
theorem sh123 : (bd L I R S).2.2[123]? = some (0, 160) := rfl
theorem sh124 : (bd L I R S).2.2[124]? = some (0, 40) := rfl
theorem sh125 : (bd L I R S).2.2[125]? = some (0, 2560) := rfl
theorem sh126 : (bd L I R S).2.2[126]? = some (0, 64) := rfl
theorem sh127 : (bd L I R S).2.2[127]? = some (0, 8241) := rfl
theorem sh128 : (bd L I R S).2.2[128]? = some (0, 40) := rfl
theorem sh129 : (bd L I R S).2.2[129]? = some (0, 10) := rfl
theorem sh130 : (bd L I R S).2.2[130]? = some (0, 10) := rfl
theorem sh131 : (bd L I R S).2.2[131]? = some (0, 10) := rfl
theorem sh132 : (bd L I R S).2.2[132]? = some (0, 10) := rfl
theorem sh133 : (bd L I R S).2.2[133]? = some (0, 10) := rfl
theorem sh134 : (bd L I R S).2.2[134]? = some (0, 600) := rfl
theorem sh135 : (bd L I R S).2.2[135]? = some (0, 10) := rfl
theorem sh136 : (bd L I R S).2.2[136]? = some (0, 40) := rfl
theorem sh137 : (bd L I R S).2.2[137]? = some (0, 9) := rfl
theorem sh138 : (bd L I R S).2.2[138]? = some (0, 9) := rfl
theorem sh139 : (bd L I R S).2.2[139]? = some (0, 360) := rfl
theorem sh140 : (bd L I R S).2.2[140]? = some (0, 360) := rfl
theorem sh141 : (bd L I R S).2.2[141]? = some (0, 360) := rfl
theorem sh142 : (bd L I R S).2.2[142]? = some (0, 360) := rfl
theorem sh143 : (bd L I R S).2.2[143]? = some (0, 360) := rfl
theorem sh144 : (bd L I R S).2.2[144]? = some (0, 7200) := rfl
theorem sh145 : (bd L I R S).2.2[145]? = some (0, 7200) := rfl
theorem sh146 : (bd L I R S).2.2[146]? = some (0, 7200) := rfl
theorem sh147 : (bd L I R S).2.2[147]? = some (0, 7200) := rfl
theorem sh148 : (bd L I R S).2.2[148]? = some (0, 7200) := rfl
theorem sh149 : (bd L I R S).2.2[149]? = some (0, 7200) := rfl
theorem sh150 : (bd L I R S).2.2[150]? = some (0, 12) := rfl
theorem sh151 : (bd L I R S).2.2[151]? = some (0, 488) := rfl
theorem sh152 : (bd L I R S).2.2[152]? = some (1, 800) := rfl
theorem sh153 : (bd L I R S).2.2[153]? = some (1, 800) := rfl
theorem sh154 : (bd L I R S).2.2[154]? = some (1, 8000) := rfl
end
