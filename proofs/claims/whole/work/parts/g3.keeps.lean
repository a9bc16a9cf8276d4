/-! what the calls keep of the acts -/
section
variable {A A1 : aS}
abbrev KoD (A A1 : aS) : Prop := Ko [65, 66, 67] [137, 138, 139, 140, 141, 142, 143, 144, 145, 146, 147, 148, 149] A A1
theorem KoD.c (h : KoD A A1) : KoC A A1 := fun a k hd => h a k (by
  unfold dp at hd ⊢
  by_cases c : a = 91
  · rw [if_pos c] at hd ⊢
    have := List.contains_iff_mem.mp hd
    simp only [List.mem_cons, List.not_mem_nil, or_false] at this
    exact List.contains_iff_mem.mpr (by simp only [List.mem_cons, List.not_mem_nil, or_false]; omega)
  · rw [if_neg c] at hd ⊢; exact hd)
theorem KoD.f (h : KoD A A1) : A1 91 67 ≤ A 91 67 + 20 := by
  have : A1 91 67 = A 91 67 := h.s (k := 67) rfl
  omega
theorem KoD.ite {c : Prop} {hc : Decidable c} {p q : Int × aS} (h1 : KoD A p.2) (h2 : KoD A q.2) : KoD A (if c then p else q).2 := by
  by_cases h : c
  · rw [if_pos h]; exact h1
  · rw [if_neg h]; exact h2
theorem kt208 {x1 : Int} : KoD A (o208 A x1).2 := by
  unfold o208
  repeat' split
  all_goals (repeat (first | exact Ko.refl _ _ _ | refine Ko.set ?_ rfl | refine Ko.fl ?_ (fun _ => rfl) _))
theorem kt209 {x1 x2 x3 : Int} : KoD A (o209 A x1 x2 x3).2 := by
  unfold o209
  repeat' split
  all_goals (repeat (first | exact Ko.refl _ _ _ | refine Ko.set ?_ rfl | refine Ko.fl ?_ (fun _ => rfl) _))
theorem kt211 {x1 x2 x3 : Int} : KoD A (o211 A x1 x2 x3).2 := by
  unfold o211
  repeat' split
  all_goals (repeat (first | exact Ko.refl _ _ _ | refine Ko.set ?_ rfl | refine Ko.fl ?_ (fun _ => rfl) _))
theorem kt213 {x1 x2 x3 : Int} : KoD A (o213 A x1 x2 x3).2 := by
  unfold o213
  repeat' split
  all_goals (repeat (first | exact Ko.refl _ _ _ | refine Ko.set ?_ rfl | refine Ko.fl ?_ (fun _ => rfl) _))
theorem kt214 {x1 x2 : Int} : KoD A (o214 A x1 x2).2 := by
  unfold o214
  repeat' split
  all_goals (repeat (first | exact Ko.refl _ _ _ | refine Ko.set ?_ rfl | refine Ko.fl ?_ (fun _ => rfl) _))
theorem kt216 {x1 x2 x3 : Int} : KoD A (o216 A x1 x2 x3).2 := by
  unfold o216
  repeat' split
  all_goals (repeat (first | exact Ko.refl _ _ _ | refine Ko.set ?_ rfl | refine Ko.fl ?_ (fun _ => rfl) _))
theorem kt229 {x1 x2 x3 : Int} : KoD A (o229 A x1 x2 x3).2 := by
  unfold o229
  repeat' split
  all_goals (repeat (first | exact Ko.refl _ _ _ | refine Ko.set ?_ rfl | refine Ko.fl ?_ (fun _ => rfl) _))
theorem kt231 {x1 x2 x3 x4 x5 x6 : Int} : KoD A (o231 A x1 x2 x3 x4 x5 x6).2 := by
  unfold o231
  repeat' split
  all_goals (repeat (first | exact Ko.refl _ _ _ | refine Ko.set ?_ rfl | refine Ko.fl ?_ (fun _ => rfl) _))
theorem kt232 {x1 x2 x3 x4 x5 : Int} : KoD A (o232 A x1 x2 x3 x4 x5).2 := by
  unfold o232
  repeat' (first | refine KoD.ite ?_ ?_ | exact Ko.refl _ _ _ | refine Ko.set ?_ rfl)
theorem kt242 {x1 x2 x3 x4 : Int} : KoD A (o242 A x1 x2 x3 x4).2 := by
  unfold o242
  repeat' split
  all_goals (repeat (first | exact Ko.refl _ _ _ | refine Ko.set ?_ rfl | refine Ko.fl ?_ (fun _ => rfl) _))
theorem kt243 {x1 : Int} : KoD A (o243 A x1).2 := by
  unfold o243
  repeat' split
  all_goals (repeat (first | exact Ko.refl _ _ _ | refine Ko.set ?_ rfl | refine Ko.fl ?_ (fun _ => rfl) _))
theorem kt269 {x1 x2 : Int} : KoD A (o269 A x1 x2).2 := by
  unfold o269
  repeat' split
  all_goals (repeat (first | exact Ko.refl _ _ _ | refine Ko.set ?_ rfl | refine Ko.fl ?_ (fun _ => rfl) _))
theorem kt272 {x1 x2 x3 : Int} : KoD A (o272 A x1 x2 x3).2 := by
  unfold o272
  repeat' split
  all_goals (repeat (first | exact Ko.refl _ _ _ | refine Ko.set ?_ rfl | refine Ko.fl ?_ (fun _ => rfl) _))
theorem kt275 {x1 x2 x3 : Int} : KoD A (o275 A x1 x2 x3).2 := by
  unfold o275
  repeat' split
  all_goals (repeat (first | exact Ko.refl _ _ _ | refine Ko.set ?_ rfl | refine Ko.fl ?_ (fun _ => rfl) _))
theorem kt283 {x1 x2 : Int} : KoD A (o283 A x1 x2).2 := by
  unfold o283
  repeat' split
  all_goals (repeat (first | exact Ko.refl _ _ _ | refine Ko.set ?_ rfl | refine Ko.fl ?_ (fun _ => rfl) _))
theorem kt287 {x1 : Int} : KoD A (o287 A x1).2 := by
  unfold o287
  repeat' split
  all_goals (repeat (first | exact Ko.refl _ _ _ | refine Ko.set ?_ rfl | refine Ko.fl ?_ (fun _ => rfl) _))
theorem kt288 : KoD A (o288 A ).2 := by
  unfold o288
  repeat' split
  all_goals (repeat (first | exact Ko.refl _ _ _ | refine Ko.set ?_ rfl | refine Ko.fl ?_ (fun _ => rfl) _))
theorem kt289 {x1 x2 x3 : Int} : KoD A (o289 A x1 x2 x3).2 := by
  unfold o289
  repeat' split
  all_goals (repeat (first | exact Ko.refl _ _ _ | refine Ko.set ?_ rfl | refine Ko.fl ?_ (fun _ => rfl) _))
theorem kt295 {x1 : Int} : KoD A (o295 A x1).2 := by
  unfold o295
  repeat' split
  all_goals (repeat (first | exact Ko.refl _ _ _ | refine Ko.set ?_ rfl | refine Ko.fl ?_ (fun _ => rfl) _))
theorem kt271 {x1 : Int} : KoD A (o271 A x1).2 := by
  unfold o271
  repeat' split
  all_goals (repeat (first | exact Ko.refl _ _ _ | refine Ko.set ?_ rfl | refine Ko.fl ?_ (fun _ => rfl) _))
theorem kt286 {x1 : Int} : KoD A (o286 A x1).2 := by
  unfold o286
  repeat' split
  all_goals (repeat (first | exact Ko.refl _ _ _ | refine Ko.set ?_ rfl | refine Ko.fl ?_ (fun _ => rfl) _))
theorem ite2 {c : Prop} {hc : Decidable c} {p q : Int × aS} (h1 : p.2 = A) (h2 : q.2 = A) : (if c then p else q).2 = A := by
  by_cases h : c
  · rw [if_pos h]; exact h1
  · rw [if_neg h]; exact h2
theorem id330 {x1 : Int} : (o330 A x1).2 = A := by
  unfold o330
  exact ite2 rfl (ite2 rfl (ite2 rfl (ite2 rfl (ite2 rfl (ite2 rfl (ite2 rfl (ite2 rfl (ite2 rfl (ite2 rfl (ite2 rfl (ite2 rfl (ite2 rfl (rfl)))))))))))))
theorem id319 : (o319 A ).2 = A := by
  unfold o319
  repeat' split
  all_goals rfl
theorem id244 {x1 x2 : Int} : (o244 A x1 x2).2 = A := by
  unfold o244
  repeat' split
  all_goals rfl
theorem id270 {x1 x2 : Int} : (o270 A x1 x2).2 = A := by
  unfold o270
  repeat' split
  all_goals rfl
theorem id273 {x1 x2 x3 : Int} : (o273 A x1 x2 x3).2 = A := by
  unfold o273
  repeat' split
  all_goals rfl
theorem id245 {x1 x2 x3 : Int} : (o245 A x1 x2 x3).2 = A := by
  unfold o245
  repeat' split
  all_goals rfl
theorem id246 {x1 x2 x3 x4 : Int} : (o246 A x1 x2 x3 x4).2 = A := by
  unfold o246
  repeat' split
  all_goals rfl
theorem id248 {x1 x2 x3 x4 x5 : Int} : (o248 A x1 x2 x3 x4 x5).2 = A := by
  unfold o248
  repeat' split
  all_goals rfl
theorem id255 {x1 x2 x3 x4 : Int} : (o255 A x1 x2 x3 x4).2 = A := by
  unfold o255
  repeat' split
  all_goals rfl
theorem id257 {x1 x2 x3 : Int} : (o257 A x1 x2 x3).2 = A := by
  unfold o257
  repeat' split
  all_goals rfl
theorem id258 {x1 x2 x3 x4 : Int} : (o258 A x1 x2 x3 x4).2 = A := by
  unfold o258
  repeat' split
  all_goals rfl
theorem id259 {x1 x2 x3 x4 x5 : Int} : (o259 A x1 x2 x3 x4 x5).2 = A := by
  unfold o259
  repeat' split
  all_goals rfl
theorem id265 {x1 x2 x3 x4 x5 x6 : Int} : (o265 A x1 x2 x3 x4 x5 x6).2 = A := by
  unfold o265
  repeat' split
  all_goals rfl
theorem id266 {x1 x2 x3 : Int} : (o266 A x1 x2 x3).2 = A := by
  unfold o266
  repeat' split
  all_goals rfl
theorem id276 {x1 x2 x3 : Int} : (o276 A x1 x2 x3).2 = A := by
  unfold o276
  repeat' split
  all_goals rfl
end
