def jMchk (m : Nat) : Bool := decide ((jMn m).cls ≠ "java/lang/invoke/MethodHandle") && decide ((jMn m).cls ≠ "java/lang/invoke/VarHandle") && decide ((parseMethodDescriptor (jMn m).desc).map (fun d => d.parameters.length) = some (jMa m)) && plainFor (jMn m) && decide ((jMn m).cls = jOw (jMo m)) && decide (jML.getD m 0 ≤ 20)
theorem jM_all : (List.range jNm).all jMchk = true := by decide +kernel
theorem jM_ok {m : Nat} (h : m < jNm) : ((jMn m).cls ≠ "java/lang/invoke/MethodHandle" ∧ (jMn m).cls ≠ "java/lang/invoke/VarHandle" ∧ (parseMethodDescriptor (jMn m).desc).map (fun d => d.parameters.length) = some (jMa m)) ∧ plainFor (jMn m) = true ∧ (jMn m).cls = jOw (jMo m) ∧ jML.getD m 0 ≤ 20 := by
  have h1 := List.all_eq_true.mp jM_all m (List.mem_range.mpr h)
  simp only [jMchk, Bool.and_eq_true, decide_eq_true_eq] at h1
  obtain ⟨⟨⟨⟨⟨h1, h2⟩, h3⟩, h4⟩, h5⟩, h6⟩ := h1
  exact ⟨⟨h1, h2, h3⟩, h4, h5, h6⟩
def jCLchk (e : Nat × Nat × Nat × Nat) : Bool := match e.2.2.2 with
  | 0 => decide (4 ≤ jMR.getD e.2.2.1 0) && decide ((jCl.getD (jMR.getD e.2.2.1 0 - 4) ("", jT0, 0)).1 = (jMn e.2.2.1).cls)
  | 1 => decide (jMR.getD e.2.2.1 0 = 0)
  | 4 => decide (jMR.getD e.2.2.1 0 = 0)
  | 2 => decide (jMR.getD e.2.2.1 0 ≠ 0) && decide (jMr e.2.2.1 = none)
  | 3 => decide (jMR.getD e.2.2.1 0 ≠ 0) && decide (jMr e.2.2.1 = none)
  | 8 => decide (4 ≤ jMR.getD e.2.2.1 0) && decide ((jCl.getD (jMR.getD e.2.2.1 0 - 4) ("", jT0, 0)).1 = (jMn e.2.2.1).cls)
  | _ => decide (jMR.getD e.2.2.1 0 = 10)
theorem jCL_chk : jCL.all jCLchk = true := by decide +kernel
theorem jcg0 : ∀ k ∈ ([0, 1, 2, 3, 4, 5, 6, 7, 8, 9, 10, 11, 12, 13, 14, 15, 16, 17, 18, 19, 20, 21, 22, 23, 24, 25, 26, 27, 28, 29, 30, 31, 32, 33, 34, 35, 36, 37, 38, 39] : List Nat), Cond.code (jMn k) (jMb k) (jML.getD k 0) (jMr k) ∈ jT := List.forall_mem_cons.mpr ⟨jc0, List.forall_mem_cons.mpr ⟨jc1, List.forall_mem_cons.mpr ⟨jc2, List.forall_mem_cons.mpr ⟨jc3, List.forall_mem_cons.mpr ⟨jc4, List.forall_mem_cons.mpr ⟨jc5, List.forall_mem_cons.mpr ⟨jc6, List.forall_mem_cons.mpr ⟨jc7, List.forall_mem_cons.mpr ⟨jc8, List.forall_mem_cons.mpr ⟨jc9, List.forall_mem_cons.mpr ⟨jc10, List.forall_mem_cons.mpr ⟨jc11, List.forall_mem_cons.mpr ⟨jc12, List.forall_mem_cons.mpr ⟨jc13, List.forall_mem_cons.mpr ⟨jc14, List.forall_mem_cons.mpr ⟨jc15, List.forall_mem_cons.mpr ⟨jc16, List.forall_mem_cons.mpr ⟨jc17, List.forall_mem_cons.mpr ⟨jc18, List.forall_mem_cons.mpr ⟨jc19, List.forall_mem_cons.mpr ⟨jc20, List.forall_mem_cons.mpr ⟨jc21, List.forall_mem_cons.mpr ⟨jc22, List.forall_mem_cons.mpr ⟨jc23, List.forall_mem_cons.mpr ⟨jc24, List.forall_mem_cons.mpr ⟨jc25, List.forall_mem_cons.mpr ⟨jc26, List.forall_mem_cons.mpr ⟨jc27, List.forall_mem_cons.mpr ⟨jc28, List.forall_mem_cons.mpr ⟨jc29, List.forall_mem_cons.mpr ⟨jc30, List.forall_mem_cons.mpr ⟨jc31, List.forall_mem_cons.mpr ⟨jc32, List.forall_mem_cons.mpr ⟨jc33, List.forall_mem_cons.mpr ⟨jc34, List.forall_mem_cons.mpr ⟨jc35, List.forall_mem_cons.mpr ⟨jc36, List.forall_mem_cons.mpr ⟨jc37, List.forall_mem_cons.mpr ⟨jc38, List.forall_mem_cons.mpr ⟨jc39, fun _ h => absurd h List.not_mem_nil⟩⟩⟩⟩⟩⟩⟩⟩⟩⟩⟩⟩⟩⟩⟩⟩⟩⟩⟩⟩⟩⟩⟩⟩⟩⟩⟩⟩⟩⟩⟩⟩⟩⟩⟩⟩⟩⟩⟩⟩
theorem jcg1 : ∀ k ∈ ([40, 41, 42, 43, 44, 45, 46, 47, 48, 49, 50, 51, 52, 53, 54, 55, 56, 57, 58, 59, 60, 61, 62, 63, 64, 65, 66, 67, 68, 69, 70, 71, 72, 73, 74, 75, 76, 77, 78, 79] : List Nat), Cond.code (jMn k) (jMb k) (jML.getD k 0) (jMr k) ∈ jT := List.forall_mem_cons.mpr ⟨jc40, List.forall_mem_cons.mpr ⟨jc41, List.forall_mem_cons.mpr ⟨jc42, List.forall_mem_cons.mpr ⟨jc43, List.forall_mem_cons.mpr ⟨jc44, List.forall_mem_cons.mpr ⟨jc45, List.forall_mem_cons.mpr ⟨jc46, List.forall_mem_cons.mpr ⟨jc47, List.forall_mem_cons.mpr ⟨jc48, List.forall_mem_cons.mpr ⟨jc49, List.forall_mem_cons.mpr ⟨jc50, List.forall_mem_cons.mpr ⟨jc51, List.forall_mem_cons.mpr ⟨jc52, List.forall_mem_cons.mpr ⟨jc53, List.forall_mem_cons.mpr ⟨jc54, List.forall_mem_cons.mpr ⟨jc55, List.forall_mem_cons.mpr ⟨jc56, List.forall_mem_cons.mpr ⟨jc57, List.forall_mem_cons.mpr ⟨jc58, List.forall_mem_cons.mpr ⟨jc59, List.forall_mem_cons.mpr ⟨jc60, List.forall_mem_cons.mpr ⟨jc61, List.forall_mem_cons.mpr ⟨jc62, List.forall_mem_cons.mpr ⟨jc63, List.forall_mem_cons.mpr ⟨jc64, List.forall_mem_cons.mpr ⟨jc65, List.forall_mem_cons.mpr ⟨jc66, List.forall_mem_cons.mpr ⟨jc67, List.forall_mem_cons.mpr ⟨jc68, List.forall_mem_cons.mpr ⟨jc69, List.forall_mem_cons.mpr ⟨jc70, List.forall_mem_cons.mpr ⟨jc71, List.forall_mem_cons.mpr ⟨jc72, List.forall_mem_cons.mpr ⟨jc73, List.forall_mem_cons.mpr ⟨jc74, List.forall_mem_cons.mpr ⟨jc75, List.forall_mem_cons.mpr ⟨jc76, List.forall_mem_cons.mpr ⟨jc77, List.forall_mem_cons.mpr ⟨jc78, List.forall_mem_cons.mpr ⟨jc79, fun _ h => absurd h List.not_mem_nil⟩⟩⟩⟩⟩⟩⟩⟩⟩⟩⟩⟩⟩⟩⟩⟩⟩⟩⟩⟩⟩⟩⟩⟩⟩⟩⟩⟩⟩⟩⟩⟩⟩⟩⟩⟩⟩⟩⟩⟩
theorem jcg2 : ∀ k ∈ ([80, 81, 82, 83, 84, 85, 86, 87, 88, 89, 90, 91, 92, 93, 94, 95, 96, 97, 98, 99, 100, 101, 102, 103, 104, 105, 106, 107, 108, 109, 110, 111, 112, 113, 114, 115, 116, 117, 118, 119] : List Nat), Cond.code (jMn k) (jMb k) (jML.getD k 0) (jMr k) ∈ jT := List.forall_mem_cons.mpr ⟨jc80, List.forall_mem_cons.mpr ⟨jc81, List.forall_mem_cons.mpr ⟨jc82, List.forall_mem_cons.mpr ⟨jc83, List.forall_mem_cons.mpr ⟨jc84, List.forall_mem_cons.mpr ⟨jc85, List.forall_mem_cons.mpr ⟨jc86, List.forall_mem_cons.mpr ⟨jc87, List.forall_mem_cons.mpr ⟨jc88, List.forall_mem_cons.mpr ⟨jc89, List.forall_mem_cons.mpr ⟨jc90, List.forall_mem_cons.mpr ⟨jc91, List.forall_mem_cons.mpr ⟨jc92, List.forall_mem_cons.mpr ⟨jc93, List.forall_mem_cons.mpr ⟨jc94, List.forall_mem_cons.mpr ⟨jc95, List.forall_mem_cons.mpr ⟨jc96, List.forall_mem_cons.mpr ⟨jc97, List.forall_mem_cons.mpr ⟨jc98, List.forall_mem_cons.mpr ⟨jc99, List.forall_mem_cons.mpr ⟨jc100, List.forall_mem_cons.mpr ⟨jc101, List.forall_mem_cons.mpr ⟨jc102, List.forall_mem_cons.mpr ⟨jc103, List.forall_mem_cons.mpr ⟨jc104, List.forall_mem_cons.mpr ⟨jc105, List.forall_mem_cons.mpr ⟨jc106, List.forall_mem_cons.mpr ⟨jc107, List.forall_mem_cons.mpr ⟨jc108, List.forall_mem_cons.mpr ⟨jc109, List.forall_mem_cons.mpr ⟨jc110, List.forall_mem_cons.mpr ⟨jc111, List.forall_mem_cons.mpr ⟨jc112, List.forall_mem_cons.mpr ⟨jc113, List.forall_mem_cons.mpr ⟨jc114, List.forall_mem_cons.mpr ⟨jc115, List.forall_mem_cons.mpr ⟨jc116, List.forall_mem_cons.mpr ⟨jc117, List.forall_mem_cons.mpr ⟨jc118, List.forall_mem_cons.mpr ⟨jc119, fun _ h => absurd h List.not_mem_nil⟩⟩⟩⟩⟩⟩⟩⟩⟩⟩⟩⟩⟩⟩⟩⟩⟩⟩⟩⟩⟩⟩⟩⟩⟩⟩⟩⟩⟩⟩⟩⟩⟩⟩⟩⟩⟩⟩⟩⟩
theorem jcg3 : ∀ k ∈ ([120, 121, 122, 123, 124, 125, 126, 127, 128, 129, 130, 131, 132, 133, 134, 135, 136, 137, 138, 139, 140, 141, 142, 143, 144, 145, 146, 147, 148, 149, 150, 151, 152, 153, 154, 155, 156, 157, 158, 159] : List Nat), Cond.code (jMn k) (jMb k) (jML.getD k 0) (jMr k) ∈ jT := List.forall_mem_cons.mpr ⟨jc120, List.forall_mem_cons.mpr ⟨jc121, List.forall_mem_cons.mpr ⟨jc122, List.forall_mem_cons.mpr ⟨jc123, List.forall_mem_cons.mpr ⟨jc124, List.forall_mem_cons.mpr ⟨jc125, List.forall_mem_cons.mpr ⟨jc126, List.forall_mem_cons.mpr ⟨jc127, List.forall_mem_cons.mpr ⟨jc128, List.forall_mem_cons.mpr ⟨jc129, List.forall_mem_cons.mpr ⟨jc130, List.forall_mem_cons.mpr ⟨jc131, List.forall_mem_cons.mpr ⟨jc132, List.forall_mem_cons.mpr ⟨jc133, List.forall_mem_cons.mpr ⟨jc134, List.forall_mem_cons.mpr ⟨jc135, List.forall_mem_cons.mpr ⟨jc136, List.forall_mem_cons.mpr ⟨jc137, List.forall_mem_cons.mpr ⟨jc138, List.forall_mem_cons.mpr ⟨jc139, List.forall_mem_cons.mpr ⟨jc140, List.forall_mem_cons.mpr ⟨jc141, List.forall_mem_cons.mpr ⟨jc142, List.forall_mem_cons.mpr ⟨jc143, List.forall_mem_cons.mpr ⟨jc144, List.forall_mem_cons.mpr ⟨jc145, List.forall_mem_cons.mpr ⟨jc146, List.forall_mem_cons.mpr ⟨jc147, List.forall_mem_cons.mpr ⟨jc148, List.forall_mem_cons.mpr ⟨jc149, List.forall_mem_cons.mpr ⟨jc150, List.forall_mem_cons.mpr ⟨jc151, List.forall_mem_cons.mpr ⟨jc152, List.forall_mem_cons.mpr ⟨jc153, List.forall_mem_cons.mpr ⟨jc154, List.forall_mem_cons.mpr ⟨jc155, List.forall_mem_cons.mpr ⟨jc156, List.forall_mem_cons.mpr ⟨jc157, List.forall_mem_cons.mpr ⟨jc158, List.forall_mem_cons.mpr ⟨jc159, fun _ h => absurd h List.not_mem_nil⟩⟩⟩⟩⟩⟩⟩⟩⟩⟩⟩⟩⟩⟩⟩⟩⟩⟩⟩⟩⟩⟩⟩⟩⟩⟩⟩⟩⟩⟩⟩⟩⟩⟩⟩⟩⟩⟩⟩⟩
theorem jcg4 : ∀ k ∈ ([160, 161, 162, 163, 164, 165, 166, 167, 168, 169, 170, 171, 172, 173, 174, 175, 176, 177, 178, 179, 180, 181, 182, 183, 184, 185, 186, 187, 188, 189, 190, 191, 192, 193, 194, 195, 196, 197, 198, 199] : List Nat), Cond.code (jMn k) (jMb k) (jML.getD k 0) (jMr k) ∈ jT := List.forall_mem_cons.mpr ⟨jc160, List.forall_mem_cons.mpr ⟨jc161, List.forall_mem_cons.mpr ⟨jc162, List.forall_mem_cons.mpr ⟨jc163, List.forall_mem_cons.mpr ⟨jc164, List.forall_mem_cons.mpr ⟨jc165, List.forall_mem_cons.mpr ⟨jc166, List.forall_mem_cons.mpr ⟨jc167, List.forall_mem_cons.mpr ⟨jc168, List.forall_mem_cons.mpr ⟨jc169, List.forall_mem_cons.mpr ⟨jc170, List.forall_mem_cons.mpr ⟨jc171, List.forall_mem_cons.mpr ⟨jc172, List.forall_mem_cons.mpr ⟨jc173, List.forall_mem_cons.mpr ⟨jc174, List.forall_mem_cons.mpr ⟨jc175, List.forall_mem_cons.mpr ⟨jc176, List.forall_mem_cons.mpr ⟨jc177, List.forall_mem_cons.mpr ⟨jc178, List.forall_mem_cons.mpr ⟨jc179, List.forall_mem_cons.mpr ⟨jc180, List.forall_mem_cons.mpr ⟨jc181, List.forall_mem_cons.mpr ⟨jc182, List.forall_mem_cons.mpr ⟨jc183, List.forall_mem_cons.mpr ⟨jc184, List.forall_mem_cons.mpr ⟨jc185, List.forall_mem_cons.mpr ⟨jc186, List.forall_mem_cons.mpr ⟨jc187, List.forall_mem_cons.mpr ⟨jc188, List.forall_mem_cons.mpr ⟨jc189, List.forall_mem_cons.mpr ⟨jc190, List.forall_mem_cons.mpr ⟨jc191, List.forall_mem_cons.mpr ⟨jc192, List.forall_mem_cons.mpr ⟨jc193, List.forall_mem_cons.mpr ⟨jc194, List.forall_mem_cons.mpr ⟨jc195, List.forall_mem_cons.mpr ⟨jc196, List.forall_mem_cons.mpr ⟨jc197, List.forall_mem_cons.mpr ⟨jc198, List.forall_mem_cons.mpr ⟨jc199, fun _ h => absurd h List.not_mem_nil⟩⟩⟩⟩⟩⟩⟩⟩⟩⟩⟩⟩⟩⟩⟩⟩⟩⟩⟩⟩⟩⟩⟩⟩⟩⟩⟩⟩⟩⟩⟩⟩⟩⟩⟩⟩⟩⟩⟩⟩
theorem jcg5 : ∀ k ∈ ([200, 201, 202, 203, 204, 205, 206, 207, 208, 209, 210, 211, 212, 213, 214, 215, 216, 217, 218, 219, 220, 221, 222, 223, 224, 225, 226, 227, 228, 229, 230, 231, 232, 233, 234, 235, 236, 237, 238, 239] : List Nat), Cond.code (jMn k) (jMb k) (jML.getD k 0) (jMr k) ∈ jT := List.forall_mem_cons.mpr ⟨jc200, List.forall_mem_cons.mpr ⟨jc201, List.forall_mem_cons.mpr ⟨jc202, List.forall_mem_cons.mpr ⟨jc203, List.forall_mem_cons.mpr ⟨jc204, List.forall_mem_cons.mpr ⟨jc205, List.forall_mem_cons.mpr ⟨jc206, List.forall_mem_cons.mpr ⟨jc207, List.forall_mem_cons.mpr ⟨jc208, List.forall_mem_cons.mpr ⟨jc209, List.forall_mem_cons.mpr ⟨jc210, List.forall_mem_cons.mpr ⟨jc211, List.forall_mem_cons.mpr ⟨jc212, List.forall_mem_cons.mpr ⟨jc213, List.forall_mem_cons.mpr ⟨jc214, List.forall_mem_cons.mpr ⟨jc215, List.forall_mem_cons.mpr ⟨jc216, List.forall_mem_cons.mpr ⟨jc217, List.forall_mem_cons.mpr ⟨jc218, List.forall_mem_cons.mpr ⟨jc219, List.forall_mem_cons.mpr ⟨jc220, List.forall_mem_cons.mpr ⟨jc221, List.forall_mem_cons.mpr ⟨jc222, List.forall_mem_cons.mpr ⟨jc223, List.forall_mem_cons.mpr ⟨jc224, List.forall_mem_cons.mpr ⟨jc225, List.forall_mem_cons.mpr ⟨jc226, List.forall_mem_cons.mpr ⟨jc227, List.forall_mem_cons.mpr ⟨jc228, List.forall_mem_cons.mpr ⟨jc229, List.forall_mem_cons.mpr ⟨jc230, List.forall_mem_cons.mpr ⟨jc231, List.forall_mem_cons.mpr ⟨jc232, List.forall_mem_cons.mpr ⟨jc233, List.forall_mem_cons.mpr ⟨jc234, List.forall_mem_cons.mpr ⟨jc235, List.forall_mem_cons.mpr ⟨jc236, List.forall_mem_cons.mpr ⟨jc237, List.forall_mem_cons.mpr ⟨jc238, List.forall_mem_cons.mpr ⟨jc239, fun _ h => absurd h List.not_mem_nil⟩⟩⟩⟩⟩⟩⟩⟩⟩⟩⟩⟩⟩⟩⟩⟩⟩⟩⟩⟩⟩⟩⟩⟩⟩⟩⟩⟩⟩⟩⟩⟩⟩⟩⟩⟩⟩⟩⟩⟩
theorem jcg6 : ∀ k ∈ ([240, 241, 242, 243, 244, 245, 246, 247, 248, 249, 250, 251, 252, 253, 254, 255, 256, 257, 258, 259, 260, 261, 262, 263, 264, 265, 266, 267, 268, 269, 270, 271, 272, 273, 274, 275, 276, 277, 278, 279] : List Nat), Cond.code (jMn k) (jMb k) (jML.getD k 0) (jMr k) ∈ jT := List.forall_mem_cons.mpr ⟨jc240, List.forall_mem_cons.mpr ⟨jc241, List.forall_mem_cons.mpr ⟨jc242, List.forall_mem_cons.mpr ⟨jc243, List.forall_mem_cons.mpr ⟨jc244, List.forall_mem_cons.mpr ⟨jc245, List.forall_mem_cons.mpr ⟨jc246, List.forall_mem_cons.mpr ⟨jc247, List.forall_mem_cons.mpr ⟨jc248, List.forall_mem_cons.mpr ⟨jc249, List.forall_mem_cons.mpr ⟨jc250, List.forall_mem_cons.mpr ⟨jc251, List.forall_mem_cons.mpr ⟨jc252, List.forall_mem_cons.mpr ⟨jc253, List.forall_mem_cons.mpr ⟨jc254, List.forall_mem_cons.mpr ⟨jc255, List.forall_mem_cons.mpr ⟨jc256, List.forall_mem_cons.mpr ⟨jc257, List.forall_mem_cons.mpr ⟨jc258, List.forall_mem_cons.mpr ⟨jc259, List.forall_mem_cons.mpr ⟨jc260, List.forall_mem_cons.mpr ⟨jc261, List.forall_mem_cons.mpr ⟨jc262, List.forall_mem_cons.mpr ⟨jc263, List.forall_mem_cons.mpr ⟨jc264, List.forall_mem_cons.mpr ⟨jc265, List.forall_mem_cons.mpr ⟨jc266, List.forall_mem_cons.mpr ⟨jc267, List.forall_mem_cons.mpr ⟨jc268, List.forall_mem_cons.mpr ⟨jc269, List.forall_mem_cons.mpr ⟨jc270, List.forall_mem_cons.mpr ⟨jc271, List.forall_mem_cons.mpr ⟨jc272, List.forall_mem_cons.mpr ⟨jc273, List.forall_mem_cons.mpr ⟨jc274, List.forall_mem_cons.mpr ⟨jc275, List.forall_mem_cons.mpr ⟨jc276, List.forall_mem_cons.mpr ⟨jc277, List.forall_mem_cons.mpr ⟨jc278, List.forall_mem_cons.mpr ⟨jc279, fun _ h => absurd h List.not_mem_nil⟩⟩⟩⟩⟩⟩⟩⟩⟩⟩⟩⟩⟩⟩⟩⟩⟩⟩⟩⟩⟩⟩⟩⟩⟩⟩⟩⟩⟩⟩⟩⟩⟩⟩⟩⟩⟩⟩⟩⟩
theorem jcg7 : ∀ k ∈ ([280, 281, 282, 283, 284, 285, 286, 287, 288, 289, 290, 291, 292, 293, 294, 295, 296, 297, 298, 299, 300, 301, 302, 303, 304, 305, 306, 307, 308, 309, 310, 311, 312, 313, 314, 315, 316, 317, 318, 319] : List Nat), Cond.code (jMn k) (jMb k) (jML.getD k 0) (jMr k) ∈ jT := List.forall_mem_cons.mpr ⟨jc280, List.forall_mem_cons.mpr ⟨jc281, List.forall_mem_cons.mpr ⟨jc282, List.forall_mem_cons.mpr ⟨jc283, List.forall_mem_cons.mpr ⟨jc284, List.forall_mem_cons.mpr ⟨jc285, List.forall_mem_cons.mpr ⟨jc286, List.forall_mem_cons.mpr ⟨jc287, List.forall_mem_cons.mpr ⟨jc288, List.forall_mem_cons.mpr ⟨jc289, List.forall_mem_cons.mpr ⟨jc290, List.forall_mem_cons.mpr ⟨jc291, List.forall_mem_cons.mpr ⟨jc292, List.forall_mem_cons.mpr ⟨jc293, List.forall_mem_cons.mpr ⟨jc294, List.forall_mem_cons.mpr ⟨jc295, List.forall_mem_cons.mpr ⟨jc296, List.forall_mem_cons.mpr ⟨jc297, List.forall_mem_cons.mpr ⟨jc298, List.forall_mem_cons.mpr ⟨jc299, List.forall_mem_cons.mpr ⟨jc300, List.forall_mem_cons.mpr ⟨jc301, List.forall_mem_cons.mpr ⟨jc302, List.forall_mem_cons.mpr ⟨jc303, List.forall_mem_cons.mpr ⟨jc304, List.forall_mem_cons.mpr ⟨jc305, List.forall_mem_cons.mpr ⟨jc306, List.forall_mem_cons.mpr ⟨jc307, List.forall_mem_cons.mpr ⟨jc308, List.forall_mem_cons.mpr ⟨jc309, List.forall_mem_cons.mpr ⟨jc310, List.forall_mem_cons.mpr ⟨jc311, List.forall_mem_cons.mpr ⟨jc312, List.forall_mem_cons.mpr ⟨jc313, List.forall_mem_cons.mpr ⟨jc314, List.forall_mem_cons.mpr ⟨jc315, List.forall_mem_cons.mpr ⟨jc316, List.forall_mem_cons.mpr ⟨jc317, List.forall_mem_cons.mpr ⟨jc318, List.forall_mem_cons.mpr ⟨jc319, fun _ h => absurd h List.not_mem_nil⟩⟩⟩⟩⟩⟩⟩⟩⟩⟩⟩⟩⟩⟩⟩⟩⟩⟩⟩⟩⟩⟩⟩⟩⟩⟩⟩⟩⟩⟩⟩⟩⟩⟩⟩⟩⟩⟩⟩⟩
theorem jcg8 : ∀ k ∈ ([320, 321, 322, 323, 324, 325, 326, 327, 328, 329, 330, 331, 332, 333, 334, 335, 336, 337, 338, 339, 340, 342, 343, 344, 345, 346, 347, 348, 349, 350, 351, 352, 353, 354, 355, 356] : List Nat), Cond.code (jMn k) (jMb k) (jML.getD k 0) (jMr k) ∈ jT := List.forall_mem_cons.mpr ⟨jc320, List.forall_mem_cons.mpr ⟨jc321, List.forall_mem_cons.mpr ⟨jc322, List.forall_mem_cons.mpr ⟨jc323, List.forall_mem_cons.mpr ⟨jc324, List.forall_mem_cons.mpr ⟨jc325, List.forall_mem_cons.mpr ⟨jc326, List.forall_mem_cons.mpr ⟨jc327, List.forall_mem_cons.mpr ⟨jc328, List.forall_mem_cons.mpr ⟨jc329, List.forall_mem_cons.mpr ⟨jc330, List.forall_mem_cons.mpr ⟨jc331, List.forall_mem_cons.mpr ⟨jc332, List.forall_mem_cons.mpr ⟨jc333, List.forall_mem_cons.mpr ⟨jc334, List.forall_mem_cons.mpr ⟨jc335, List.forall_mem_cons.mpr ⟨jc336, List.forall_mem_cons.mpr ⟨jc337, List.forall_mem_cons.mpr ⟨jc338, List.forall_mem_cons.mpr ⟨jc339, List.forall_mem_cons.mpr ⟨jc340, List.forall_mem_cons.mpr ⟨jc342, List.forall_mem_cons.mpr ⟨jc343, List.forall_mem_cons.mpr ⟨jc344, List.forall_mem_cons.mpr ⟨jc345, List.forall_mem_cons.mpr ⟨jc346, List.forall_mem_cons.mpr ⟨jc347, List.forall_mem_cons.mpr ⟨jc348, List.forall_mem_cons.mpr ⟨jc349, List.forall_mem_cons.mpr ⟨jc350, List.forall_mem_cons.mpr ⟨jc351, List.forall_mem_cons.mpr ⟨jc352, List.forall_mem_cons.mpr ⟨jc353, List.forall_mem_cons.mpr ⟨jc354, List.forall_mem_cons.mpr ⟨jc355, List.forall_mem_cons.mpr ⟨jc356, fun _ h => absurd h List.not_mem_nil⟩⟩⟩⟩⟩⟩⟩⟩⟩⟩⟩⟩⟩⟩⟩⟩⟩⟩⟩⟩⟩⟩⟩⟩⟩⟩⟩⟩⟩⟩⟩⟩⟩⟩⟩⟩
set_option maxRecDepth 20000 in
theorem jCode {k : Nat} (hk : k < jNm) (hl : k ≠ jLaw) : Cond.code (jMn k) (jMb k) (jML.getD k 0) (jMr k) ∈ jT := by
  have e : (List.range jNm).filter (fun k => k != jLaw) = [0, 1, 2, 3, 4, 5, 6, 7, 8, 9, 10, 11, 12, 13, 14, 15, 16, 17, 18, 19, 20, 21, 22, 23, 24, 25, 26, 27, 28, 29, 30, 31, 32, 33, 34, 35, 36, 37, 38, 39] ++ ([40, 41, 42, 43, 44, 45, 46, 47, 48, 49, 50, 51, 52, 53, 54, 55, 56, 57, 58, 59, 60, 61, 62, 63, 64, 65, 66, 67, 68, 69, 70, 71, 72, 73, 74, 75, 76, 77, 78, 79] ++ ([80, 81, 82, 83, 84, 85, 86, 87, 88, 89, 90, 91, 92, 93, 94, 95, 96, 97, 98, 99, 100, 101, 102, 103, 104, 105, 106, 107, 108, 109, 110, 111, 112, 113, 114, 115, 116, 117, 118, 119] ++ ([120, 121, 122, 123, 124, 125, 126, 127, 128, 129, 130, 131, 132, 133, 134, 135, 136, 137, 138, 139, 140, 141, 142, 143, 144, 145, 146, 147, 148, 149, 150, 151, 152, 153, 154, 155, 156, 157, 158, 159] ++ ([160, 161, 162, 163, 164, 165, 166, 167, 168, 169, 170, 171, 172, 173, 174, 175, 176, 177, 178, 179, 180, 181, 182, 183, 184, 185, 186, 187, 188, 189, 190, 191, 192, 193, 194, 195, 196, 197, 198, 199] ++ ([200, 201, 202, 203, 204, 205, 206, 207, 208, 209, 210, 211, 212, 213, 214, 215, 216, 217, 218, 219, 220, 221, 222, 223, 224, 225, 226, 227, 228, 229, 230, 231, 232, 233, 234, 235, 236, 237, 238, 239] ++ ([240, 241, 242, 243, 244, 245, 246, 247, 248, 249, 250, 251, 252, 253, 254, 255, 256, 257, 258, 259, 260, 261, 262, 263, 264, 265, 266, 267, 268, 269, 270, 271, 272, 273, 274, 275, 276, 277, 278, 279] ++ ([280, 281, 282, 283, 284, 285, 286, 287, 288, 289, 290, 291, 292, 293, 294, 295, 296, 297, 298, 299, 300, 301, 302, 303, 304, 305, 306, 307, 308, 309, 310, 311, 312, 313, 314, 315, 316, 317, 318, 319] ++ ([320, 321, 322, 323, 324, 325, 326, 327, 328, 329, 330, 331, 332, 333, 334, 335, 336, 337, 338, 339, 340, 342, 343, 344, 345, 346, 347, 348, 349, 350, 351, 352, 353, 354, 355, 356])))))))) := by decide +kernel
  have h : k ∈ (List.range jNm).filter (fun k => k != jLaw) := List.mem_filter.mpr ⟨List.mem_range.mpr hk, by simpa using hl⟩
  rw [e] at h
  exact (List.forall_mem_append.mpr ⟨jcg0, List.forall_mem_append.mpr ⟨jcg1, List.forall_mem_append.mpr ⟨jcg2, List.forall_mem_append.mpr ⟨jcg3, List.forall_mem_append.mpr ⟨jcg4, List.forall_mem_append.mpr ⟨jcg5, List.forall_mem_append.mpr ⟨jcg6, List.forall_mem_append.mpr ⟨jcg7, jcg8⟩⟩⟩⟩⟩⟩⟩⟩) k h
theorem gi {w : Cond} (h : w ∈ jT) (hg : goodWord w = true) : w ∈ jT.filter goodWord ∧ ((w.onTables && w.keeps) = true ∨ ∃ ty, w = .arrayClass ty) := ⟨List.mem_filter.mpr ⟨h, hg⟩, good_of_word hg⟩
theorem gi_ws {m : Nat} (h : m < jNm) (hl : m ≠ jLaw) : GoodIn (jT.filter goodWord) (jWs m) := by
  intro w hw
  rcases List.mem_cons.mp hw with rfl | hw
  · exact gi (jCode h hl) rfl
  · exact gi (List.mem_filter.mp hw).1 (List.mem_filter.mp hw).2
theorem mPop_spec : ∀ (n : Nat) (acc st as r : List Value), mPop n acc st = some (as, r) → ∃ t : List Value, as = t.reverse ++ acc ∧ st = t ++ r ∧ t.length = n
  | 0, acc, st, as, r, h => by cases h; exact ⟨[], rfl, rfl, rfl⟩
  | n + 1, acc, v :: st, as, r, h => by
    obtain ⟨t, h1, h2, h3⟩ := mPop_spec n (v :: acc) st as r h
    exact ⟨v :: t, by rw [h1]; simp, by rw [h2]; rfl, by simp [h3]⟩
  | n + 1, acc, [], as, r, h => by cases h
theorem cats {G : mG} (r : List Value) (h : r.length ≤ 4) : ((r.map (gEn G)).map fun v => v.category).sum ≤ 8 := by
  have key : ∀ r : List Value, ((r.map (gEn G)).map fun v => v.category).sum ≤ 2 * r.length := by
    intro r
    induction r with
    | nil => simp
    | cons v r ih =>
      have := lv_cat (gEn G v)
      simp only [List.map_cons, List.sum_cons, List.length_cons]
      omega
  have := key r
  omega
def rmD (d mc ms : Nat) : Room := { frames := d, cells := mc, slots := ms, locals := 40 * d }
section
variable {p : Program} {l : Launch} {e : Env} {R : Room} {s : State} {m : MethodId} {args : Array Value} {below : List Frame} {meth : Method} {c : Code} {H : Heap} {locs : List Loc} {cells slots : Nat} {Q : State → Prop} {G : mG} {k : Nat}
theorem run_go {pc mc ms : Nat} {σ σ1 : mM} {v : Option Value} {lsR : Array Slot} {st rest : List Value} {aa : Array Value} (hr : va_Run p l e R s m args below meth c H locs cells slots mc ms (F0 m pc lsR st) rest (gQc G v σ1 aa) (gA G)) (hR : gR G σ s H) (hS : va_S (gA G) s.heap H locs) (hgr : σ.2.2.length ≤ σ1.2.2.length)
    (kk : ∀ (H1 : Heap) (locs1 : List Loc), gR G σ1 s H1 → va_S (gA G) s.heap H1 locs1 → W p l e R s m args below meth c H1 locs1 (cells + mc) (slots + ms) Q (F0 m (pc + 3) lsR ((v.map (gEn G)).toList ++ rest))) : W p l e R s m args below meth c H locs cells slots Q (F0 m pc lsR st) := by
  intro T hT X
  obtain ⟨v', st₀, t, T', L, h0, X', hL, e1, e2, ⟨hv, hR1, hK1, hq⟩, stp⟩ := hr T hT X
  cases hv
  have hal : t.vm.Alike s.vm := by rw [← e2]; exact X'.warmed.alike.symm
  have hR2 : gR G σ1 s T'.heap := by rw [e1]; exact hR1.moved hal
  have hS2 : va_S (gA G) s.heap T'.heap (locs ++ L) := by
    refine ⟨?_, fun q h1 h2 => ?_, fun q hq2 => ?_⟩
    · have a1 := hR.2.1
      have a2 := hR2.2.1
      have a3 := hS.1
      omega
    · have h3 : q < G.1 := Nat.not_le.mp h2
      rw [e1, hq q h3, h0]
      exact hS.2.1 q h1 h2
    · rcases List.mem_append.mp hq2 with h | h
      · exact hS.2.2 q h
      · exact hL q h
  obtain ⟨t2, a1, b1⟩ := kk T'.heap (locs ++ L) hR2 hS2 T' rfl X'
  exact ⟨t2, stp t2 a1, b1⟩
set_option maxHeartbeats 8000000 in
theorem simD {d pc len mc ms : Nat} {i : mIns} {j : Instr} {st as r : List Value} {σ σ1 : mM} {v : Option Value} {lsR : Array Slot} (hd : decode (jMb k) pc = .ok (j, len)) (hok : okI k pc i j len = true) (h100 : 100 ≤ i.1) (h104 : i.1 < 104) (hc : mcall i st σ = some (as, r)) (C : gCx G k p s m args meth c) (hL : lsR.size = jML.getD k 0)
    (hM : i.2.1 < jNm → i.2.1 ≠ jLaw → (mLay as).length ≤ jML.getD i.2.1 0 → Met l (jMn i.2.1) (jWs i.2.1) (rmD d mc ms) (gPc G σ as) (gQc G v σ1) mc ms (gA G)) (hgr : σ.2.2.length ≤ σ1.2.2.length) (hfr : d + 1 ≤ R.frames) (hlo : 40 * (d + 1) ≤ R.locals) (hrc : cells + mc ≤ R.cells) (hrs : slots + ms ≤ R.slots)
    (hR : gR G σ s H) (hS : va_S (gA G) s.heap H locs)
    (kk : ∀ (H1 : Heap) (locs1 : List Loc), gR G σ1 s H1 → va_S (gA G) s.heap H1 locs1 → W p l e R s m args below meth c H1 locs1 (cells + mc) (slots + ms) Q (F0 m (pc + len) lsR ((v.map (gEn G)).toList ++ r.map (gEn G)))) : W p l e R s m args below meth c H locs cells slots Q (F0 m pc lsR (st.map (gEn G))) := by
  obtain ⟨o, y, n, z⟩ := i
  dsimp only at h100 h104 hM
  unfold mcall at hc
  dsimp only at hc
  split at hc
  case h_2 => cases hc
  rename_i as' r' hpop
  split at hc
  case isFalse => cases hc
  rename_i hcond
  cases hc
  simp only [Bool.and_eq_true, decide_eq_true_eq] at hcond
  obtain ⟨hrcv, hr4⟩ := hcond
  obtain ⟨t, ht1, ht2, ht3⟩ := mPop_spec _ _ _ _ _ hpop
  rw [List.append_nil] at ht1
  have hst : st.map (gEn G) = (as.map (gEn G)).reverse ++ r.map (gEn G) := by rw [ht2, ht1]; simp
  have hasl : as.length = n := by rw [ht1]; simp [ht3]
  unfold mRcv at hrcv
  simp only [Bool.and_eq_true, decide_eq_true_eq] at hrcv
  obtain ⟨hlay, hrcv⟩ := hrcv
  have hblind := gPc_blind G σ as
  have hpre : ∀ U : State, U.heap = H → s.WarmedH U.vm → gPc G σ as (as.map (gEn G)).toArray U := fun U hU hW => ⟨rfl, by rw [hU]; exact hR.moved hW.alike, (C_K C).warm hW⟩
  have S : CallFix p m c (jMb k) (jML.getD k 0) s args (jT.filter goodWord) (jOw (jMo k)) := ⟨C.1, C.2.1, C.2.2.1, C_own C, C_ts C⟩
  have hW8 := fun (st0 : List Value) => lv_room (m := m) (pc := pc) (ls := lsR) (rest := st0) (cats (G := G) r hr4)
  have recv : ∀ kd, jMR.getD y 0 = kd → 4 ≤ kd → ∃ a as', as = .ref a :: as' ∧ ∃ cellB : Cell, H[gAd G a]? = some cellB ∧ cellB.vm.isStatics = false ∧ s.vm.findClass (jCl.getD (kd - 4) ("", jT0, 0)).1 = some cellB.cls ∧ ∃ C0 cC, ClassAt s C0 cC ∧ s.vm.findClass C0 = some cellB.cls := by
    intro kd hkd h4
    obtain ⟨kd', rfl⟩ : ∃ q, kd = q + 1 := ⟨kd - 1, by omega⟩
    rw [hkd] at hrcv
    cases as with
    | nil => cases hrcv
    | cons v0 as' =>
      cases v0 with
      | ref a =>
        simp only [Bool.and_eq_true, Bool.or_eq_true, decide_eq_true_eq, beq_iff_eq] at hrcv
        obtain ⟨ha0, hsh⟩ := hrcv
        obtain ⟨q, hq1, hq2⟩ := Option.map_eq_some_iff.mp hsh
        obtain ⟨q0, nq⟩ := q
        dsimp only at hq2
        subst hq2
        by_cases ha : nSP ≤ a
        case neg =>
          have hk16 : kd' = 16 := by
            rcases ha0 with h | h
            · exact absurd h ha
            · exact h
          subst hk16
          have hq3 : σ.2.2[a]? = some (17, nq) := hq1
          have hsp := hR.2.2.2.1 a (Nat.lt_of_not_le ha)
          unfold gSp at hsp
          rw [hq3] at hsp
          obtain ⟨⟨cell, g1, g2, g3, -⟩, -⟩ := hsp
          have eA : gAd G a = G.2.1 a := if_pos (Nat.lt_of_not_le ha)
          have h2 : jCl[13]? = some (jCl.getD 13 ("", jT0, 0)) := rfl
          have h3 := ((C_K C).1.1 _ _ h2).2
          exact ⟨a, as', rfl, cell, by rw [eA]; exact g1, g2, g3, _, _, h3, g3⟩
        have e4 : kd' + 1 = (kd' - 3) + 4 := by omega
        rw [e4] at hq1
        have hat := hR.1 _ _ (hR.at ha hq1)
        rw [gE_o hq1] at hat
        obtain ⟨r0, h2, cell, g1, g2, g3, -⟩ := hat
        have h3 := ((C_K C).1.1 _ _ h2).2
        refine ⟨a, as', rfl, cell, g1, by rw [g3]; rfl, ?_, r0.1, _, h3, by rw [g2]; exact h3.1⟩
        have e5 : kd' + 1 - 4 = kd' - 3 := by omega
        rw [e5, List.getD_eq_getElem?_getD, h2, g2]
        exact h3.1
      | _ => cases hrcv
  have recv0 : jMR.getD y 0 ≠ 0 → ∃ a as', as = .ref a :: as' := by
    intro h0
    obtain ⟨kd', hk⟩ : ∃ q, jMR.getD y 0 = q + 1 := ⟨jMR.getD y 0 - 1, by omega⟩
    rw [hk] at hrcv
    cases as with
    | nil => cases hrcv
    | cons v0 as' =>
      cases v0 with
      | ref a => exact ⟨a, as', rfl⟩
      | _ => cases hrcv
  have words : ∀ (cp q : Nat) (ks : List Nat) (more : Nat), okC k (o, y, n, z) cp ks more = true → ∃ kd ∈ ks, y < jNm ∧ y ≠ jLaw ∧ n = jMa y + more ∧ CLok (jMo k, cp, y, kd) ∧ jCLchk (jMo k, cp, y, kd) = true := by
    intro cp q ks more hc
    simp only [okC, Bool.and_eq_true, decide_eq_true_eq, List.any_eq_true] at hc
    obtain ⟨⟨⟨⟨⟨-, -⟩, h1⟩, h2⟩, h3⟩, kd, hkd, h4⟩ := hc
    have hm := List.mem_of_getElem? h4
    exact ⟨kd, hkd, h1, h2, h3, jCL_ok _ hm, List.all_eq_true.mp jCL_chk _ hm⟩
  cases j with
  | invokestatic cp =>
    simp only [okI, Bool.and_eq_true, Bool.or_eq_true, decide_eq_true_eq] at hok
    obtain ⟨h0, rfl⟩ := hok
    rcases h0 with h0 | ⟨h0, -⟩
    · obtain ⟨kd, hkd, hy, hyl, hn, hw, hck⟩ := words cp 0 _ _ h0
      have hM := hM hy hyl hlay
      obtain ⟨hmh, -, hcls, hmx⟩ := jM_ok hy
      have hroom : (rmD d mc ms).frames + 1 ≤ R.frames ∧ 8 + (jML.getD y 0 + 11) + (rmD d mc ms).locals ≤ R.locals := ⟨hfr, by simp only [rmD]; omega⟩
      simp only [List.mem_cons, List.not_mem_nil, or_false] at hkd
      rcases hkd with rfl | rfl
      · obtain ⟨w1, w2, w3⟩ := hw
        have hgi : GoodIn (jT.filter goodWord) (va_wsS (jOw (jMo k)) cp (jMn y) (jWs y)) := by
          intro w hw
          rcases List.mem_append.mp hw with hw | hw
          · simp only [List.mem_cons, List.not_mem_nil, or_false] at hw
            rcases hw with rfl | rfl | rfl
            · exact gi w1 rfl
            · exact gi w2 rfl
            · exact gi w3 rfl
          · exact gi_ws hy hyl w hw
        refine run_go (va_runS (As := as.map (gEn G)) (rest := r.map (gEn G)) S hM (va_cwS n (C_ts C) hgi rfl rfl rfl (by rw [hn]; exact hmh) hroom) ⟨hblind, hpre⟩ rfl (by simp [hasl]) hL hst (hW8 _) hd ⟨hrc, hrs⟩) hR hS hgr kk
      · obtain ⟨w1, w2, w3⟩ := hw
        refine run_go (va_runSN (As := as.map (gEn G)) (rest := r.map (gEn G)) S hM ⟨va_cnB n (C_ts C) (gi_ws hy hyl) rfl rfl rfl ((C_K C).2.1 _ _ _ _ w1) (word_of C w3 rfl) (by rw [hn]; exact hmh) hroom, word_of C w2 rfl, trivial⟩ ⟨hblind, hpre⟩ rfl (by simp [hasl]) hL hst (hW8 _) hd ⟨hrc, hrs⟩) hR hS hgr kk
    · omega
  | invokespecial cp =>
    simp only [okI, Bool.and_eq_true, Bool.or_eq_true, decide_eq_true_eq] at hok
    obtain ⟨h0, rfl⟩ := hok
    rcases h0 with h0 | ⟨h0, -⟩
    · obtain ⟨kd, hkd, hy, hyl, hn, hw, hck⟩ := words cp 0 _ _ h0
      have hM := hM hy hyl hlay
      obtain ⟨hmh, -, hcls, hmx⟩ := jM_ok hy
      have hroom : (rmD d mc ms).frames + 1 ≤ R.frames ∧ 8 + (jML.getD y 0 + 11) + (rmD d mc ms).locals ≤ R.locals := ⟨hfr, by simp only [rmD]; omega⟩
      simp only [List.mem_cons, List.not_mem_nil, or_false] at hkd
      rcases hkd with rfl | rfl | rfl
      · obtain ⟨w1, w2, w3, w4⟩ := hw
        simp only [jCLchk, Bool.and_eq_true, decide_eq_true_eq] at hck
        obtain ⟨a, as', rfl⟩ := recv0 hck.1
        have hst' : st.map (gEn G) = (as'.map (gEn G)).reverse ++ .ref (gAd G a) :: r.map (gEn G) := by rw [hst]; simp [gEn]
        have hwsy : jWs y = Cond.code (jMn y) (jMb y) (jML.getD y 0) none :: jT.filter goodWord := by unfold jWs; rw [hck.2]
        refine run_go (va_runI (As := as'.map (gEn G)) (rest := r.map (gEn G)) (b := gAd G a) S hM (cwI (jMa y) (C_ts C) (gi_ws hy hyl) hwsy rfl rfl (word_of C w3 rfl) (word_of C w1 rfl) (word_of C w2 rfl) w4 hmh hroom) ⟨hblind, hpre⟩ rfl (by simp at hasl ⊢; omega) hL hst' (hW8 _) hd ⟨hrc, hrs⟩) hR hS hgr kk
      · obtain ⟨w1, w2, w3, w4⟩ := hw
        simp only [jCLchk, Bool.and_eq_true, decide_eq_true_eq] at hck
        obtain ⟨a, as', rfl⟩ := recv0 hck.1
        have hst' : st.map (gEn G) = (as'.map (gEn G)).reverse ++ .ref (gAd G a) :: r.map (gEn G) := by rw [hst]; simp [gEn]
        have hwsy : jWs y = Cond.code (jMn y) (jMb y) (jML.getD y 0) none :: jT.filter goodWord := by unfold jWs; rw [hck.2]
        refine run_go (va_runIN (As := as'.map (gEn G)) (rest := r.map (gEn G)) (b := gAd G a) S hM ⟨va_cnB (jMa y) (C_ts C) (gi_ws hy hyl) hwsy rfl rfl ((C_K C).2.1 _ _ _ _ w1) (word_of C w3 rfl) hmh hroom, w4, word_of C w2 rfl⟩ ⟨hblind, hpre⟩ rfl (by simp at hasl ⊢; omega) hL hst' (hW8 _) hd ⟨hrc, hrs⟩) hR hS hgr kk
      · obtain ⟨w1, w2, w3, w4, w5, w6⟩ := hw
        simp only [jCLchk, decide_eq_true_eq] at hck
        obtain ⟨a, as', rfl, cellB, c1, c2, -, C0, cC, c4, c5⟩ := recv _ hck (by decide)
        have hst' : st.map (gEn G) = (as'.map (gEn G)).reverse ++ .ref (gAd G a) :: r.map (gEn G) := by rw [hst]; simp [gEn]
        have hgi : GoodIn (jT.filter goodWord) (va_wsSU (jOw (jMo k)) cp (jMn y) (jWs y)) := by
          intro w hw
          rcases List.mem_append.mp hw with hw | hw
          · simp only [List.mem_cons, List.not_mem_nil, or_false] at hw
            rcases hw with rfl | rfl | rfl | rfl | rfl
            · exact gi w1 rfl
            · exact gi w2 rfl
            · exact gi w3 rfl
            · exact gi w4 rfl
            · exact gi w5 rfl
          · exact gi_ws hy hyl w hw
        refine run_go (va_runSU (As := as'.map (gEn G)) (rest := r.map (gEn G)) (b := gAd G a) c4 S hM (va_cwSU (jMa y) (C_ts C) hgi rfl rfl rfl ⟨w6, hmh.2.2⟩ hroom) ⟨hblind, ⟨cellB, c1, c2, c5⟩, hpre⟩ rfl (by simp at hasl ⊢; omega) hL hst' (hW8 _) hd ⟨hrc, hrs⟩) hR hS hgr kk
    · omega
  | invokevirtual cp =>
    simp only [okI, Bool.and_eq_true, Bool.or_eq_true, decide_eq_true_eq] at hok
    obtain ⟨h0, rfl⟩ := hok
    rcases h0 with h0 | ⟨h0, -⟩
    · obtain ⟨kd, hkd, hy, hyl, hn, hw, hck⟩ := words cp 0 _ _ h0
      have hM := hM hy hyl hlay
      obtain ⟨hmh, -, hcls, hmx⟩ := jM_ok hy
      have hroom : (rmD d mc ms).frames + 1 ≤ R.frames ∧ 8 + (jML.getD y 0 + 11) + (rmD d mc ms).locals ≤ R.locals := ⟨hfr, by simp only [rmD]; omega⟩
      simp only [List.mem_cons, List.not_mem_nil, or_false] at hkd
      rcases hkd with rfl | rfl | rfl | rfl
      · obtain ⟨w1, w2, w3, w4⟩ := hw
        simp only [jCLchk, Bool.and_eq_true, decide_eq_true_eq] at hck
        obtain ⟨a, as', rfl, cellB, c1, c2, c3, -⟩ := recv _ rfl hck.1
        rw [hck.2] at c3
        have hst' : st.map (gEn G) = (as'.map (gEn G)).reverse ++ .ref (gAd G a) :: r.map (gEn G) := by rw [hst]; simp [gEn]
        have hgi : GoodIn (jT.filter goodWord) (wsV (jOw (jMo k)) cp (jMn y).cls (jMn y) (jWs y)) := by
          intro w hw
          rcases List.mem_append.mp hw with hw | hw
          · simp only [List.mem_cons, List.not_mem_nil, or_false] at hw
            rcases hw with rfl | rfl | rfl | rfl
            · exact gi w1 rfl
            · exact gi w2 rfl
            · exact gi w3 rfl
            · exact gi w4 rfl
          · exact gi_ws hy hyl w hw
        refine run_go (va_runV (As := as'.map (gEn G)) (rest := r.map (gEn G)) (b := gAd G a) S hM (cwV (jMa y) (C_ts C) hgi rfl rfl rfl ⟨rfl, hmh⟩ hroom) ⟨hblind, ⟨cellB, c1, c2, c3⟩, hpre⟩ rfl (by simp at hasl ⊢; omega) hL hst' (hW8 _) hd ⟨hrc, hrs⟩) hR hS hgr kk
      · obtain ⟨⟨w1, w2, w3, w4, w5⟩, w6⟩ := hw
        simp only [jCLchk, decide_eq_true_eq] at hck
        obtain ⟨a, as', rfl, cellB, c1, c2, c3, -⟩ := recv _ hck (by decide)
        have hst' : st.map (gEn G) = (as'.map (gEn G)).reverse ++ .ref (gAd G a) :: r.map (gEn G) := by rw [hst]; simp [gEn]
        have hgi : GoodIn (jT.filter goodWord) (va_wsU (jOw (jMo k)) cp "java/lang/StringBuilder" "java/lang/AbstractStringBuilder" (jMn y) (jMn y) (jWs y)) := by
          intro w hw
          rcases List.mem_append.mp hw with hw | hw
          · simp only [List.mem_cons, List.not_mem_nil, or_false] at hw
            rcases hw with rfl | rfl | rfl | rfl | rfl
            · exact gi w1 rfl
            · exact gi w2 rfl
            · exact gi w3 rfl
            · exact gi w4 rfl
            · exact gi w5 rfl
          · exact gi_ws hy hyl w hw
        refine run_go (va_runU (As := as'.map (gEn G)) (rest := r.map (gEn G)) (b := gAd G a) S hM (va_cwU (C := "java/lang/StringBuilder") (owner := "java/lang/AbstractStringBuilder") (jMa y) (C_ts C) hgi rfl rfl rfl (by rw [← w6]) ⟨by rw [← w6]; exact hmh.1, by rw [← w6]; exact hmh.2.1, hmh.2.2⟩ hroom) ⟨hblind, ⟨cellB, c1, c2, c3⟩, hpre⟩ rfl (by simp at hasl ⊢; omega) hL hst' (hW8 _) hd ⟨hrc, hrs⟩) hR hS hgr kk
      · obtain ⟨⟨w1, w2, w3, w4, w5, w6⟩, w7, cb, cm, cr, w8⟩ := hw
        simp only [jCLchk, decide_eq_true_eq] at hck
        obtain ⟨a, as', rfl, cellB, c1, c2, c3, -⟩ := recv _ hck (by decide)
        have hst' : st.map (gEn G) = (as'.map (gEn G)).reverse ++ .ref (gAd G a) :: r.map (gEn G) := by rw [hst]; simp [gEn]
        have hgi : GoodIn (jT.filter goodWord) (va_wsO (jOw (jMo k)) cp "java/lang/StringBuilder" "java/lang/AbstractStringBuilder" ⟨"java/lang/AbstractStringBuilder", (jMn y).name, (jMn y).desc⟩ (jMn y) (jWs y)) := by
          intro w hw
          rcases List.mem_append.mp hw with hw | hw
          · simp only [List.mem_cons, List.not_mem_nil, or_false] at hw
            rcases hw with rfl | rfl | rfl | rfl | rfl | rfl
            · exact gi w1 rfl
            · exact gi w2 rfl
            · exact gi w3 rfl
            · exact gi w4 rfl
            · exact gi w5 rfl
            · exact gi w6 rfl
          · exact gi_ws hy hyl w hw
        refine run_go (va_runU (As := as'.map (gEn G)) (rest := r.map (gEn G)) (b := gAd G a) S hM (va_cwO (C := "java/lang/StringBuilder") (owner := "java/lang/AbstractStringBuilder") (x := ⟨"java/lang/AbstractStringBuilder", (jMn y).name, (jMn y).desc⟩) (jMa y) (C_ts C) hgi rfl rfl rfl (List.mem_filter.mpr ⟨w8, rfl⟩) ⟨by decide, by decide, hmh.2.2⟩ hroom) ⟨hblind, ⟨cellB, c1, c2, c3⟩, hpre⟩ rfl (by simp at hasl ⊢; omega) hL hst' (hW8 _) hd ⟨hrc, hrs⟩) hR hS hgr kk
      · obtain ⟨w1, w2, w3, w4⟩ := hw
        simp only [jCLchk, Bool.and_eq_true, decide_eq_true_eq] at hck
        obtain ⟨a, as', rfl, cellB, c1, c2, c3, -⟩ := recv _ rfl hck.1
        rw [hck.2] at c3
        have hst' : st.map (gEn G) = (as'.map (gEn G)).reverse ++ .ref (gAd G a) :: r.map (gEn G) := by rw [hst]; simp [gEn]
        refine run_go (va_runVN (C := (jMn y).cls) (As := as'.map (gEn G)) (rest := r.map (gEn G)) (b := gAd G a) S hM ⟨va_cnB (jMa y) (C_ts C) (gi_ws hy hyl) rfl rfl rfl ((C_K C).2.1 _ _ _ _ w1) (word_of C w4 rfl) hmh hroom, word_of C w2 rfl, word_of C w3 rfl⟩ ⟨hblind, ⟨cellB, c1, c2, c3⟩, hpre⟩ rfl (by simp at hasl ⊢; omega) hL hst' (hW8 _) hd ⟨hrc, hrs⟩) hR hS hgr kk
    · omega
  | if_icmp cd off =>
    cases cd <;> (simp only [okI, okJ, Bool.and_eq_true, decide_eq_true_eq] at hok; omega)
  | ifCond cd off =>
    cases cd <;> (simp only [okI, okJ, Bool.and_eq_true, decide_eq_true_eq] at hok; omega)
  | if_acmp cd off =>
    cases cd <;> first | (cases hok; done) | (simp only [okI, okJ, Bool.and_eq_true, decide_eq_true_eq] at hok; omega)
  | _ => first | (cases hok; done) | (simp only [okI, okJ, okF, Bool.and_eq_true, Bool.or_eq_true, decide_eq_true_eq] at hok; omega)
end
