theorem j_selP {y : MethodName} {C : String} {s : State} {args : Array Value} {n : Nat} (hy : y.cls ≠ "java/lang/invoke/MethodHandle" ∧ y.cls ≠ "java/lang/invoke/VarHandle")
    (hins : (Cond.instantiable C n).before args s = true) (hpriv : (Cond.privateMethod y).before args s = true) (hinst : (Cond.instanceMethod y).before args s = true) (hini : (Cond.initialized y.cls).before args s = true) (hk : ∀ c k, s.vm.findClass y.cls = some c → s.vm.classes[c]? = some k → k.isInterface = false) :
    (Cond.selects C y y).before args s = true := by
  obtain ⟨c, k, hc, hk0, -, hniab, -, -⟩ := Cond.instantiable_spec hins
  obtain ⟨mk, methM, hnamed, hmethM, -, -⟩ := Cond.instanceMethod_spec hinst
  have hfound : s.methodFound? y.cls y.name y.desc = some mk := State.methodFound?_of_named hnamed hy
  have hsel : selectMethod {} s.vm c mk = .method mk := selectMethod_private hmethM (Cond.privateMethod_at hpriv mk methM hnamed hmethM)
  obtain ⟨k2, hk2, -⟩ := className_of_methodNamed hnamed
  have hni := hk mk.cls k2 (findClass_of_methodNamed hnamed) hk2
  simp only [Cond.before, Cond.holds, Cond.value, hc, hfound, hnamed, hsel, hk2]
  simp [hni]
def jX : List Cond := [Cond.selects "java/lang/StringBuilder" (⟨"java/lang/AbstractStringBuilder", "ensureCapacityInternal", "(I)V"⟩ : MethodName) (⟨"java/lang/AbstractStringBuilder", "ensureCapacityInternal", "(I)V"⟩ : MethodName), Cond.selects "java/lang/StringBuilder" (⟨"java/lang/AbstractStringBuilder", "newCapacity", "(I)I"⟩ : MethodName) (⟨"java/lang/AbstractStringBuilder", "newCapacity", "(I)I"⟩ : MethodName)]
def jT : List Cond := jX ++ lw_tbl
theorem jm0 {w : Cond} (h : w ∈ tables_1_1) : w ∈ jT := List.mem_append_right _ (List.mem_append_right _ (show w ∈ tables_1 from List.mem_append_left _ h))
theorem jm1 {w : Cond} (h : w ∈ tables_1_2) : w ∈ jT := List.mem_append_right _ (List.mem_append_right _ (show w ∈ tables_1 from List.mem_append_right _ (List.mem_append_left _ h)))
theorem jm2 {w : Cond} (h : w ∈ tables_1_3) : w ∈ jT := List.mem_append_right _ (List.mem_append_right _ (show w ∈ tables_1 from List.mem_append_right _ (List.mem_append_right _ (List.mem_append_left _ h))))
theorem jm3 {w : Cond} (h : w ∈ tables_1_4) : w ∈ jT := List.mem_append_right _ (List.mem_append_right _ (show w ∈ tables_1 from List.mem_append_right _ (List.mem_append_right _ (List.mem_append_right _ (List.mem_append_left _ h)))))
theorem jm4 {w : Cond} (h : w ∈ tables_1_5) : w ∈ jT := List.mem_append_right _ (List.mem_append_right _ (show w ∈ tables_1 from List.mem_append_right _ (List.mem_append_right _ (List.mem_append_right _ (List.mem_append_right _ (List.mem_append_left _ h))))))
theorem jm5 {w : Cond} (h : w ∈ tables_1_6) : w ∈ jT := List.mem_append_right _ (List.mem_append_right _ (show w ∈ tables_1 from List.mem_append_right _ (List.mem_append_right _ (List.mem_append_right _ (List.mem_append_right _ (List.mem_append_right _ (List.mem_append_left _ h)))))))
theorem jm6 {w : Cond} (h : w ∈ tables_1_7) : w ∈ jT := List.mem_append_right _ (List.mem_append_right _ (show w ∈ tables_1 from List.mem_append_right _ (List.mem_append_right _ (List.mem_append_right _ (List.mem_append_right _ (List.mem_append_right _ (List.mem_append_right _ (List.mem_append_left _ h))))))))
theorem jm7 {w : Cond} (h : w ∈ tables_1_8) : w ∈ jT := List.mem_append_right _ (List.mem_append_right _ (show w ∈ tables_1 from List.mem_append_right _ (List.mem_append_right _ (List.mem_append_right _ (List.mem_append_right _ (List.mem_append_right _ (List.mem_append_right _ (List.mem_append_right _ (List.mem_append_left _ h)))))))))
theorem jm8 {w : Cond} (h : w ∈ tables_1_9) : w ∈ jT := List.mem_append_right _ (List.mem_append_right _ (show w ∈ tables_1 from List.mem_append_right _ (List.mem_append_right _ (List.mem_append_right _ (List.mem_append_right _ (List.mem_append_right _ (List.mem_append_right _ (List.mem_append_right _ (List.mem_append_right _ (List.mem_append_left _ h))))))))))
theorem jm9 {w : Cond} (h : w ∈ tables_1_10) : w ∈ jT := List.mem_append_right _ (List.mem_append_right _ (show w ∈ tables_1 from List.mem_append_right _ (List.mem_append_right _ (List.mem_append_right _ (List.mem_append_right _ (List.mem_append_right _ (List.mem_append_right _ (List.mem_append_right _ (List.mem_append_right _ (List.mem_append_right _ (List.mem_append_left _ h)))))))))))
theorem jm10 {w : Cond} (h : w ∈ tables_1_11) : w ∈ jT := List.mem_append_right _ (List.mem_append_right _ (show w ∈ tables_1 from List.mem_append_right _ (List.mem_append_right _ (List.mem_append_right _ (List.mem_append_right _ (List.mem_append_right _ (List.mem_append_right _ (List.mem_append_right _ (List.mem_append_right _ (List.mem_append_right _ (List.mem_append_right _ (h))))))))))))
set_option maxRecDepth 100000 in
theorem jw1 : (Jvm.Cond.initialized "SchoolBoard") ∈ jT := jm0 (List.mem_of_getElem? (i := 1) rfl)
set_option maxRecDepth 100000 in
theorem jw2 : (Jvm.Cond.initialized "SchoolBoard$Town") ∈ jT := jm0 (List.mem_of_getElem? (i := 2) rfl)
set_option maxRecDepth 100000 in
theorem jw3 : (Jvm.Cond.initialized "SchoolBoard$People") ∈ jT := jm0 (List.mem_of_getElem? (i := 3) rfl)
set_option maxRecDepth 100000 in
theorem jw4 : (Jvm.Cond.initialized "java/util/Arrays") ∈ jT := jm0 (List.mem_of_getElem? (i := 4) rfl)
set_option maxRecDepth 100000 in
theorem jw5 : (Jvm.Cond.initialized "SchoolBoard$Book") ∈ jT := jm0 (List.mem_of_getElem? (i := 5) rfl)
set_option maxRecDepth 100000 in
theorem jw6 : (Jvm.Cond.initialized "SchoolBoard$Code") ∈ jT := jm0 (List.mem_of_getElem? (i := 6) rfl)
set_option maxRecDepth 100000 in
theorem jw7 : (Jvm.Cond.initialized "SchoolBoard$Reader") ∈ jT := jm0 (List.mem_of_getElem? (i := 7) rfl)
set_option maxRecDepth 100000 in
theorem jw8 : (Jvm.Cond.initialized "java/lang/AbstractStringBuilder") ∈ jT := jm0 (List.mem_of_getElem? (i := 8) rfl)
set_option maxRecDepth 100000 in
theorem jw9 : (Jvm.Cond.initialized "java/lang/StringBuilder") ∈ jT := jm0 (List.mem_of_getElem? (i := 9) rfl)
set_option maxRecDepth 100000 in
theorem jw10 : (Jvm.Cond.initialized "java/lang/String") ∈ jT := jm0 (List.mem_of_getElem? (i := 10) rfl)
set_option maxRecDepth 100000 in
theorem jw12 : (Jvm.Cond.initialized "SchoolBoard$Register") ∈ jT := jm0 (List.mem_of_getElem? (i := 12) rfl)
set_option maxRecDepth 100000 in
theorem jw13 : (Jvm.Cond.initialized "SchoolBoard$Grants") ∈ jT := jm0 (List.mem_of_getElem? (i := 13) rfl)
set_option maxRecDepth 100000 in
theorem jw14 : (Jvm.Cond.initialized "SchoolBoard$Entering") ∈ jT := jm0 (List.mem_of_getElem? (i := 14) rfl)
set_option maxRecDepth 100000 in
theorem jw15 : (Jvm.Cond.initialized "SchoolBoard$Poll") ∈ jT := jm0 (List.mem_of_getElem? (i := 15) rfl)
set_option maxRecDepth 100000 in
theorem jw16 : (Jvm.Cond.initialized "SchoolBoardModel") ∈ jT := jm0 (List.mem_of_getElem? (i := 16) rfl)
set_option maxRecDepth 100000 in
theorem jw17 : (Jvm.Cond.initialized "SchoolBoard$Node") ∈ jT := jm0 (List.mem_of_getElem? (i := 17) rfl)
set_option maxRecDepth 100000 in
theorem jw18 : (Jvm.Cond.initialized "java/lang/Math") ∈ jT := jm0 (List.mem_of_getElem? (i := 18) rfl)
set_option maxRecDepth 100000 in
theorem jw19 : (Jvm.Cond.initialized "java/lang/Integer") ∈ jT := jm0 (List.mem_of_getElem? (i := 19) rfl)
set_option maxRecDepth 100000 in
theorem jw20 : (Jvm.Cond.initialized "java/lang/StringLatin1") ∈ jT := jm0 (List.mem_of_getElem? (i := 20) rfl)
set_option maxRecDepth 100000 in
theorem jw21 : (Jvm.Cond.initialized "jdk/internal/util/Preconditions") ∈ jT := jm0 (List.mem_of_getElem? (i := 21) rfl)
set_option maxRecDepth 100000 in
theorem jw22 : (Jvm.Cond.initialized "SchoolBoard$Clause") ∈ jT := jm0 (List.mem_of_getElem? (i := 22) rfl)
set_option maxRecDepth 100000 in
theorem jw23 : (Jvm.Cond.initialized "jdk/internal/util/ArraysSupport") ∈ jT := jm0 (List.mem_of_getElem? (i := 23) rfl)
set_option maxRecDepth 100000 in
theorem jw24 : (Jvm.Cond.initialized "java/lang/System") ∈ jT := jm0 (List.mem_of_getElem? (i := 24) rfl)
set_option maxRecDepth 100000 in
theorem jw25 : (Jvm.Cond.classLink "SchoolBoardLaw" (7 : Nat) "SchoolBoard") ∈ jT := jm0 (List.mem_of_getElem? (i := 25) rfl)
set_option maxRecDepth 100000 in
theorem jw26 : (Jvm.Cond.instantiable "SchoolBoard" (10 : Nat)) ∈ jT := jm0 (List.mem_of_getElem? (i := 26) rfl)
set_option maxRecDepth 100000 in
theorem jw27 : (Jvm.Cond.methodLink "SchoolBoardLaw" (9 : Nat) ({ cls := "SchoolBoard", name := "<init>", desc := "()V" } : Jvm.MethodName)) ∈ jT := jm0 (List.mem_of_getElem? (i := 27) rfl)
set_option maxRecDepth 100000 in
theorem jw28 : (Jvm.Cond.instanceMethod ({ cls := "SchoolBoard", name := "<init>", desc := "()V" } : Jvm.MethodName)) ∈ jT := jm0 (List.mem_of_getElem? (i := 28) rfl)
set_option maxRecDepth 100000 in
theorem jw29 : (Jvm.Cond.code ({ cls := "SchoolBoard", name := "<init>", desc := "()V" } : Jvm.MethodName) prog_1_method_1_code (1 : Nat) (Option.none : Option Jvm.ClassFile.FieldType)) ∈ jT := jm0 (List.mem_of_getElem? (i := 29) rfl)
set_option maxRecDepth 100000 in
theorem jw30 : (Jvm.Cond.methodLink "SchoolBoard" (1 : Nat) ({ cls := "java/lang/Object", name := "<init>", desc := "()V" } : Jvm.MethodName)) ∈ jT := jm0 (List.mem_of_getElem? (i := 30) rfl)
set_option maxRecDepth 100000 in
theorem jw31 : (Jvm.Cond.instanceMethod ({ cls := "java/lang/Object", name := "<init>", desc := "()V" } : Jvm.MethodName)) ∈ jT := jm0 (List.mem_of_getElem? (i := 31) rfl)
set_option maxRecDepth 100000 in
theorem jw32 : (Jvm.Cond.code ({ cls := "java/lang/Object", name := "<init>", desc := "()V" } : Jvm.MethodName) object_method_1_code (1 : Nat) (Option.none : Option Jvm.ClassFile.FieldType)) ∈ jT := jm0 (List.mem_of_getElem? (i := 32) rfl)
set_option maxRecDepth 100000 in
theorem jw33 : (Jvm.Cond.classLink "SchoolBoard" (7 : Nat) "SchoolBoard$Town") ∈ jT := jm0 (List.mem_of_getElem? (i := 33) rfl)
set_option maxRecDepth 100000 in
theorem jw34 : (Jvm.Cond.instantiable "SchoolBoard$Town" (17 : Nat)) ∈ jT := jm0 (List.mem_of_getElem? (i := 34) rfl)
set_option maxRecDepth 100000 in
theorem jw35 : (Jvm.Cond.methodLinkNest "SchoolBoard" (9 : Nat) ({ cls := "SchoolBoard$Town", name := "<init>", desc := "()V" } : Jvm.MethodName) "SchoolBoard") ∈ jT := jm0 (List.mem_of_getElem? (i := 35) rfl)
set_option maxRecDepth 100000 in
theorem jw36 : (Jvm.Cond.instanceMethod ({ cls := "SchoolBoard$Town", name := "<init>", desc := "()V" } : Jvm.MethodName)) ∈ jT := jm0 (List.mem_of_getElem? (i := 36) rfl)
set_option maxRecDepth 100000 in
theorem jw37 : (Jvm.Cond.code ({ cls := "SchoolBoard$Town", name := "<init>", desc := "()V" } : Jvm.MethodName) prog_12_method_1_code (1 : Nat) (Option.none : Option Jvm.ClassFile.FieldType)) ∈ jT := jm0 (List.mem_of_getElem? (i := 37) rfl)
set_option maxRecDepth 100000 in
theorem jw38 : (Jvm.Cond.methodLink "SchoolBoard$Town" (3 : Nat) ({ cls := "java/lang/Object", name := "<init>", desc := "()V" } : Jvm.MethodName)) ∈ jT := jm0 (List.mem_of_getElem? (i := 38) rfl)
set_option maxRecDepth 100000 in
theorem jw39 : (Jvm.Cond.fieldLink "SchoolBoard$Town" (9 : Nat) "SchoolBoard$Town" "worth" "[I") ∈ jT := jm0 (List.mem_of_getElem? (i := 39) rfl)
set_option maxRecDepth 100000 in
theorem jw40 : (Jvm.Cond.fieldLink "SchoolBoard" (266 : Nat) "SchoolBoard$Town" "worth" "[I") ∈ jT := jm0 (List.mem_of_getElem? (i := 40) rfl)
set_option maxRecDepth 100000 in
theorem jw41 : (Jvm.Cond.fieldLink "SchoolBoard$Town" (15 : Nat) "SchoolBoard$Town" "heads" "[I") ∈ jT := jm0 (List.mem_of_getElem? (i := 41) rfl)
set_option maxRecDepth 100000 in
theorem jw42 : (Jvm.Cond.fieldLink "SchoolBoard$Town" (18 : Nat) "SchoolBoard$Town" "streetX" "[I") ∈ jT := jm0 (List.mem_of_getElem? (i := 42) rfl)
set_option maxRecDepth 100000 in
theorem jw43 : (Jvm.Cond.fieldLink "SchoolBoard$Town" (21 : Nat) "SchoolBoard$Town" "streetY" "[I") ∈ jT := jm0 (List.mem_of_getElem? (i := 43) rfl)
set_option maxRecDepth 100000 in
theorem jw44 : (Jvm.Cond.fieldLink "SchoolBoard$Town" (24 : Nat) "SchoolBoard$Town" "schoolX" "[I") ∈ jT := jm0 (List.mem_of_getElem? (i := 44) rfl)
set_option maxRecDepth 100000 in
theorem jw45 : (Jvm.Cond.fieldLink "SchoolBoard$Town" (27 : Nat) "SchoolBoard$Town" "schoolY" "[I") ∈ jT := jm0 (List.mem_of_getElem? (i := 45) rfl)
set_option maxRecDepth 100000 in
theorem jw46 : (Jvm.Cond.fieldLink "SchoolBoard$Town" (30 : Nat) "SchoolBoard$Town" "cubic" "[I") ∈ jT := jm0 (List.mem_of_getElem? (i := 46) rfl)
set_option maxRecDepth 100000 in
theorem jw47 : (Jvm.Cond.fieldLink "SchoolBoard$Town" (33 : Nat) "SchoolBoard$Town" "siteX" "[I") ∈ jT := jm0 (List.mem_of_getElem? (i := 47) rfl)
set_option maxRecDepth 100000 in
theorem jw48 : (Jvm.Cond.fieldLink "SchoolBoard$Town" (36 : Nat) "SchoolBoard$Town" "siteY" "[I") ∈ jT := jm0 (List.mem_of_getElem? (i := 48) rfl)
set_option maxRecDepth 100000 in
theorem jw49 : (Jvm.Cond.fieldLink "SchoolBoard$Town" (39 : Nat) "SchoolBoard$Town" "reached" "[I") ∈ jT := jm0 (List.mem_of_getElem? (i := 49) rfl)
set_option maxRecDepth 100000 in
theorem jw50 : (Jvm.Cond.fieldLink "SchoolBoard$Town" (42 : Nat) "SchoolBoard$Town" "values" "[I") ∈ jT := jm0 (List.mem_of_getElem? (i := 50) rfl)
set_option maxRecDepth 100000 in
theorem jw51 : (Jvm.Cond.fieldLink "SchoolBoard$Town" (49 : Nat) "SchoolBoard$Town" "schools" "I") ∈ jT := jm0 (List.mem_of_getElem? (i := 51) rfl)
set_option maxRecDepth 100000 in
theorem jw52 : (Jvm.Cond.fieldLink "SchoolBoard" (91 : Nat) "SchoolBoard$Town" "schools" "I") ∈ jT := jm0 (List.mem_of_getElem? (i := 52) rfl)
set_option maxRecDepth 100000 in
theorem jw53 : (Jvm.Cond.fieldLink "SchoolBoard$Town" (53 : Nat) "SchoolBoard$Town" "sites" "I") ∈ jT := jm0 (List.mem_of_getElem? (i := 53) rfl)
set_option maxRecDepth 100000 in
theorem jw54 : (Jvm.Cond.fieldLink "SchoolBoard" (275 : Nat) "SchoolBoard$Town" "sites" "I") ∈ jT := jm0 (List.mem_of_getElem? (i := 54) rfl)
set_option maxRecDepth 100000 in
theorem jw55 : (Jvm.Cond.fieldLink "SchoolBoard$Town" (56 : Nat) "SchoolBoard$Town" "houses" "I") ∈ jT := jm0 (List.mem_of_getElem? (i := 55) rfl)
set_option maxRecDepth 100000 in
theorem jw56 : (Jvm.Cond.fieldLink "SchoolBoard" (313 : Nat) "SchoolBoard$Town" "houses" "I") ∈ jT := jm0 (List.mem_of_getElem? (i := 56) rfl)
set_option maxRecDepth 100000 in
theorem jw57 : (Jvm.Cond.fieldLink "SchoolBoard$Town" (65 : Nat) "SchoolBoard$Town" "roundSet" "I") ∈ jT := jm0 (List.mem_of_getElem? (i := 57) rfl)
set_option maxRecDepth 100000 in
theorem jw58 : (Jvm.Cond.fieldLink "SchoolBoard$Town" (68 : Nat) "SchoolBoard$Town" "roundWorth" "I") ∈ jT := jm0 (List.mem_of_getElem? (i := 58) rfl)
set_option maxRecDepth 100000 in
theorem jw59 : (Jvm.Cond.fieldLink "SchoolBoard$Town" (71 : Nat) "SchoolBoard$Town" "roundMinutes" "I") ∈ jT := jm0 (List.mem_of_getElem? (i := 59) rfl)
set_option maxRecDepth 100000 in
theorem jw60 : (Jvm.Cond.laysFinal "SchoolBoard$Town" "SchoolBoard$Town" "worth" "[I") ∈ jT := jm0 (List.mem_of_getElem? (i := 60) rfl)
set_option maxRecDepth 100000 in
theorem jw62 : (Jvm.Cond.laysFinal "SchoolBoard$Town" "SchoolBoard$Town" "heads" "[I") ∈ jT := jm0 (List.mem_of_getElem? (i := 62) rfl)
set_option maxRecDepth 100000 in
theorem jw64 : (Jvm.Cond.laysFinal "SchoolBoard$Town" "SchoolBoard$Town" "streetX" "[I") ∈ jT := jm0 (List.mem_of_getElem? (i := 64) rfl)
set_option maxRecDepth 100000 in
theorem jw66 : (Jvm.Cond.laysFinal "SchoolBoard$Town" "SchoolBoard$Town" "streetY" "[I") ∈ jT := jm0 (List.mem_of_getElem? (i := 66) rfl)
set_option maxRecDepth 100000 in
theorem jw68 : (Jvm.Cond.laysFinal "SchoolBoard$Town" "SchoolBoard$Town" "schoolX" "[I") ∈ jT := jm0 (List.mem_of_getElem? (i := 68) rfl)
set_option maxRecDepth 100000 in
theorem jw70 : (Jvm.Cond.laysFinal "SchoolBoard$Town" "SchoolBoard$Town" "schoolY" "[I") ∈ jT := jm0 (List.mem_of_getElem? (i := 70) rfl)
set_option maxRecDepth 100000 in
theorem jw72 : (Jvm.Cond.laysFinal "SchoolBoard$Town" "SchoolBoard$Town" "cubic" "[I") ∈ jT := jm0 (List.mem_of_getElem? (i := 72) rfl)
set_option maxRecDepth 100000 in
theorem jw74 : (Jvm.Cond.laysFinal "SchoolBoard$Town" "SchoolBoard$Town" "siteX" "[I") ∈ jT := jm0 (List.mem_of_getElem? (i := 74) rfl)
set_option maxRecDepth 100000 in
theorem jw76 : (Jvm.Cond.laysFinal "SchoolBoard$Town" "SchoolBoard$Town" "siteY" "[I") ∈ jT := jm0 (List.mem_of_getElem? (i := 76) rfl)
set_option maxRecDepth 100000 in
theorem jw78 : (Jvm.Cond.laysFinal "SchoolBoard$Town" "SchoolBoard$Town" "reached" "[I") ∈ jT := jm0 (List.mem_of_getElem? (i := 78) rfl)
set_option maxRecDepth 100000 in
theorem jw80 : (Jvm.Cond.laysFinal "SchoolBoard$Town" "SchoolBoard$Town" "values" "[I") ∈ jT := jm0 (List.mem_of_getElem? (i := 80) rfl)
set_option maxRecDepth 100000 in
theorem jw82 : (Jvm.Cond.lays "SchoolBoard$Town" "SchoolBoard$Town" "schools" "I") ∈ jT := jm0 (List.mem_of_getElem? (i := 82) rfl)
set_option maxRecDepth 100000 in
theorem jw84 : (Jvm.Cond.lays "SchoolBoard$Town" "SchoolBoard$Town" "sites" "I") ∈ jT := jm0 (List.mem_of_getElem? (i := 84) rfl)
set_option maxRecDepth 100000 in
theorem jw86 : (Jvm.Cond.lays "SchoolBoard$Town" "SchoolBoard$Town" "houses" "I") ∈ jT := jm0 (List.mem_of_getElem? (i := 86) rfl)
set_option maxRecDepth 100000 in
theorem jw88 : (Jvm.Cond.lays "SchoolBoard$Town" "SchoolBoard$Town" "roundSet" "I") ∈ jT := jm0 (List.mem_of_getElem? (i := 88) rfl)
set_option maxRecDepth 100000 in
theorem jw90 : (Jvm.Cond.lays "SchoolBoard$Town" "SchoolBoard$Town" "roundWorth" "I") ∈ jT := jm0 (List.mem_of_getElem? (i := 90) rfl)
set_option maxRecDepth 100000 in
theorem jw92 : (Jvm.Cond.lays "SchoolBoard$Town" "SchoolBoard$Town" "roundMinutes" "I") ∈ jT := jm0 (List.mem_of_getElem? (i := 92) rfl)
set_option maxRecDepth 100000 in
theorem jw95 : (Jvm.Cond.arrayClass Jvm.ClassFile.FieldType.int) ∈ jT := jm0 (List.mem_of_getElem? (i := 95) rfl)
set_option maxRecDepth 100000 in
theorem jw96 : (Jvm.Cond.classLink "SchoolBoard" (16 : Nat) "SchoolBoard$People") ∈ jT := jm0 (List.mem_of_getElem? (i := 96) rfl)
set_option maxRecDepth 100000 in
theorem jw97 : (Jvm.Cond.instantiable "SchoolBoard$People" (11 : Nat)) ∈ jT := jm0 (List.mem_of_getElem? (i := 97) rfl)
set_option maxRecDepth 100000 in
theorem jw98 : (Jvm.Cond.methodLink "SchoolBoard" (18 : Nat) ({ cls := "SchoolBoard$People", name := "<init>", desc := "()V" } : Jvm.MethodName)) ∈ jT := jm0 (List.mem_of_getElem? (i := 98) rfl)
set_option maxRecDepth 100000 in
theorem jw99 : (Jvm.Cond.instanceMethod ({ cls := "SchoolBoard$People", name := "<init>", desc := "()V" } : Jvm.MethodName)) ∈ jT := jm0 (List.mem_of_getElem? (i := 99) rfl)
set_option maxRecDepth 100000 in
theorem jw100 : (Jvm.Cond.code ({ cls := "SchoolBoard$People", name := "<init>", desc := "()V" } : Jvm.MethodName) prog_8_method_1_code (1 : Nat) (Option.none : Option Jvm.ClassFile.FieldType)) ∈ jT := jm0 (List.mem_of_getElem? (i := 100) rfl)
set_option maxRecDepth 100000 in
theorem jw101 : (Jvm.Cond.methodLink "SchoolBoard$People" (3 : Nat) ({ cls := "java/lang/Object", name := "<init>", desc := "()V" } : Jvm.MethodName)) ∈ jT := jm0 (List.mem_of_getElem? (i := 101) rfl)
set_option maxRecDepth 100000 in
theorem jw102 : (Jvm.Cond.methodLink "SchoolBoard$People" (39 : Nat) ({ cls := "java/util/Arrays", name := "fill", desc := "([II)V" } : Jvm.MethodName)) ∈ jT := jm0 (List.mem_of_getElem? (i := 102) rfl)
set_option maxRecDepth 100000 in
theorem jw103 : (Jvm.Cond.static ({ cls := "java/util/Arrays", name := "fill", desc := "([II)V" } : Jvm.MethodName)) ∈ jT := jm0 (List.mem_of_getElem? (i := 103) rfl)
set_option maxRecDepth 100000 in
theorem jw104 : (Jvm.Cond.code ({ cls := "java/util/Arrays", name := "fill", desc := "([II)V" } : Jvm.MethodName) prog_24_method_103_code (4 : Nat) (Option.none : Option Jvm.ClassFile.FieldType)) ∈ jT := jm0 (List.mem_of_getElem? (i := 104) rfl)
set_option maxRecDepth 100000 in
theorem jw105 : (Jvm.Cond.fieldLink "SchoolBoard$People" (9 : Nat) "SchoolBoard$People" "born" "[I") ∈ jT := jm0 (List.mem_of_getElem? (i := 105) rfl)
set_option maxRecDepth 100000 in
theorem jw106 : (Jvm.Cond.fieldLink "SchoolBoard$People" (15 : Nat) "SchoolBoard$People" "lives" "[I") ∈ jT := jm0 (List.mem_of_getElem? (i := 106) rfl)
set_option maxRecDepth 100000 in
theorem jw107 : (Jvm.Cond.fieldLink "SchoolBoard" (106 : Nat) "SchoolBoard$People" "lives" "[I") ∈ jT := jm0 (List.mem_of_getElem? (i := 107) rfl)
set_option maxRecDepth 100000 in
theorem jw108 : (Jvm.Cond.fieldLink "SchoolBoard$People" (18 : Nat) "SchoolBoard$People" "came" "[I") ∈ jT := jm0 (List.mem_of_getElem? (i := 108) rfl)
set_option maxRecDepth 100000 in
theorem jw109 : (Jvm.Cond.fieldLink "SchoolBoard$Register" (177 : Nat) "SchoolBoard$People" "came" "[I") ∈ jT := jm0 (List.mem_of_getElem? (i := 109) rfl)
set_option maxRecDepth 100000 in
theorem jw110 : (Jvm.Cond.fieldLink "SchoolBoard$People" (21 : Nat) "SchoolBoard$People" "cameYear" "[I") ∈ jT := jm0 (List.mem_of_getElem? (i := 110) rfl)
set_option maxRecDepth 100000 in
theorem jw111 : (Jvm.Cond.fieldLink "SchoolBoard$Register" (180 : Nat) "SchoolBoard$People" "cameYear" "[I") ∈ jT := jm0 (List.mem_of_getElem? (i := 111) rfl)
set_option maxRecDepth 100000 in
theorem jw112 : (Jvm.Cond.fieldLink "SchoolBoard$People" (24 : Nat) "SchoolBoard$People" "paid" "[I") ∈ jT := jm0 (List.mem_of_getElem? (i := 112) rfl)
set_option maxRecDepth 100000 in
theorem jw113 : (Jvm.Cond.fieldLink "SchoolBoard" (186 : Nat) "SchoolBoard$People" "paid" "[I") ∈ jT := jm0 (List.mem_of_getElem? (i := 113) rfl)
set_option maxRecDepth 100000 in
theorem jw114 : (Jvm.Cond.fieldLink "SchoolBoard$People" (27 : Nat) "SchoolBoard$People" "estimates" "[I") ∈ jT := jm0 (List.mem_of_getElem? (i := 114) rfl)
set_option maxRecDepth 100000 in
theorem jw115 : (Jvm.Cond.fieldLink "SchoolBoard$Entering" (106 : Nat) "SchoolBoard$People" "estimates" "[I") ∈ jT := jm0 (List.mem_of_getElem? (i := 115) rfl)
set_option maxRecDepth 100000 in
theorem jw116 : (Jvm.Cond.fieldLink "SchoolBoard" (243 : Nat) "SchoolBoard$People" "estimates" "[I") ∈ jT := jm0 (List.mem_of_getElem? (i := 116) rfl)
set_option maxRecDepth 100000 in
theorem jw117 : (Jvm.Cond.fieldLink "SchoolBoard$People" (30 : Nat) "SchoolBoard$People" "teacherFirst" "[I") ∈ jT := jm0 (List.mem_of_getElem? (i := 117) rfl)
set_option maxRecDepth 100000 in
theorem jw118 : (Jvm.Cond.fieldLink "SchoolBoard" (208 : Nat) "SchoolBoard$People" "teacherFirst" "[I") ∈ jT := jm0 (List.mem_of_getElem? (i := 118) rfl)
set_option maxRecDepth 100000 in
theorem jw119 : (Jvm.Cond.fieldLink "SchoolBoard$People" (33 : Nat) "SchoolBoard$People" "proofs" "[I") ∈ jT := jm0 (List.mem_of_getElem? (i := 119) rfl)
set_option maxRecDepth 100000 in
theorem jw120 : (Jvm.Cond.fieldLink "SchoolBoard" (335 : Nat) "SchoolBoard$People" "proofs" "[I") ∈ jT := jm0 (List.mem_of_getElem? (i := 120) rfl)
set_option maxRecDepth 100000 in
theorem jw121 : (Jvm.Cond.fieldLink "SchoolBoard$People" (36 : Nat) "SchoolBoard$People" "teacherSchool" "[I") ∈ jT := jm0 (List.mem_of_getElem? (i := 121) rfl)
set_option maxRecDepth 100000 in
theorem jw122 : (Jvm.Cond.fieldLink "SchoolBoard$People" (45 : Nat) "SchoolBoard$People" "children" "I") ∈ jT := jm0 (List.mem_of_getElem? (i := 122) rfl)
set_option maxRecDepth 100000 in
theorem jw123 : (Jvm.Cond.fieldLink "SchoolBoard$Entering" (68 : Nat) "SchoolBoard$People" "children" "I") ∈ jT := jm0 (List.mem_of_getElem? (i := 123) rfl)
set_option maxRecDepth 100000 in
theorem jw124 : (Jvm.Cond.fieldLink "SchoolBoard$Grants" (86 : Nat) "SchoolBoard$People" "children" "I") ∈ jT := jm0 (List.mem_of_getElem? (i := 124) rfl)
set_option maxRecDepth 100000 in
theorem jw125 : (Jvm.Cond.fieldLink "SchoolBoard" (80 : Nat) "SchoolBoard$People" "children" "I") ∈ jT := jm0 (List.mem_of_getElem? (i := 125) rfl)
set_option maxRecDepth 100000 in
theorem jw126 : (Jvm.Cond.fieldLink "SchoolBoard$People" (49 : Nat) "SchoolBoard$People" "teachers" "I") ∈ jT := jm0 (List.mem_of_getElem? (i := 126) rfl)
set_option maxRecDepth 100000 in
theorem jw127 : (Jvm.Cond.fieldLink "SchoolBoard" (199 : Nat) "SchoolBoard$People" "teachers" "I") ∈ jT := jm0 (List.mem_of_getElem? (i := 127) rfl)
set_option maxRecDepth 100000 in
theorem jw128 : (Jvm.Cond.laysFinal "SchoolBoard$People" "SchoolBoard$People" "born" "[I") ∈ jT := jm0 (List.mem_of_getElem? (i := 128) rfl)
set_option maxRecDepth 100000 in
theorem jw130 : (Jvm.Cond.laysFinal "SchoolBoard$People" "SchoolBoard$People" "lives" "[I") ∈ jT := jm0 (List.mem_of_getElem? (i := 130) rfl)
set_option maxRecDepth 100000 in
theorem jw132 : (Jvm.Cond.laysFinal "SchoolBoard$People" "SchoolBoard$People" "came" "[I") ∈ jT := jm0 (List.mem_of_getElem? (i := 132) rfl)
set_option maxRecDepth 100000 in
theorem jw134 : (Jvm.Cond.laysFinal "SchoolBoard$People" "SchoolBoard$People" "cameYear" "[I") ∈ jT := jm0 (List.mem_of_getElem? (i := 134) rfl)
set_option maxRecDepth 100000 in
theorem jw136 : (Jvm.Cond.laysFinal "SchoolBoard$People" "SchoolBoard$People" "paid" "[I") ∈ jT := jm0 (List.mem_of_getElem? (i := 136) rfl)
set_option maxRecDepth 100000 in
theorem jw138 : (Jvm.Cond.laysFinal "SchoolBoard$People" "SchoolBoard$People" "estimates" "[I") ∈ jT := jm0 (List.mem_of_getElem? (i := 138) rfl)
set_option maxRecDepth 100000 in
theorem jw140 : (Jvm.Cond.laysFinal "SchoolBoard$People" "SchoolBoard$People" "teacherFirst" "[I") ∈ jT := jm0 (List.mem_of_getElem? (i := 140) rfl)
set_option maxRecDepth 100000 in
theorem jw142 : (Jvm.Cond.laysFinal "SchoolBoard$People" "SchoolBoard$People" "proofs" "[I") ∈ jT := jm0 (List.mem_of_getElem? (i := 142) rfl)
set_option maxRecDepth 100000 in
theorem jw144 : (Jvm.Cond.laysFinal "SchoolBoard$People" "SchoolBoard$People" "teacherSchool" "[I") ∈ jT := jm0 (List.mem_of_getElem? (i := 144) rfl)
set_option maxRecDepth 100000 in
theorem jw146 : (Jvm.Cond.lays "SchoolBoard$People" "SchoolBoard$People" "children" "I") ∈ jT := jm0 (List.mem_of_getElem? (i := 146) rfl)
set_option maxRecDepth 100000 in
theorem jw148 : (Jvm.Cond.lays "SchoolBoard$People" "SchoolBoard$People" "teachers" "I") ∈ jT := jm0 (List.mem_of_getElem? (i := 148) rfl)
set_option maxRecDepth 100000 in
theorem jw151 : (Jvm.Cond.classLink "SchoolBoard" (23 : Nat) "SchoolBoard$Book") ∈ jT := jm0 (List.mem_of_getElem? (i := 151) rfl)
set_option maxRecDepth 100000 in
theorem jw152 : (Jvm.Cond.instantiable "SchoolBoard$Book" (13 : Nat)) ∈ jT := jm0 (List.mem_of_getElem? (i := 152) rfl)
set_option maxRecDepth 100000 in
theorem jw153 : (Jvm.Cond.methodLink "SchoolBoard" (25 : Nat) ({ cls := "SchoolBoard$Book", name := "<init>", desc := "()V" } : Jvm.MethodName)) ∈ jT := jm0 (List.mem_of_getElem? (i := 153) rfl)
set_option maxRecDepth 100000 in
theorem jw154 : (Jvm.Cond.instanceMethod ({ cls := "SchoolBoard$Book", name := "<init>", desc := "()V" } : Jvm.MethodName)) ∈ jT := jm0 (List.mem_of_getElem? (i := 154) rfl)
set_option maxRecDepth 100000 in
theorem jw155 : (Jvm.Cond.code ({ cls := "SchoolBoard$Book", name := "<init>", desc := "()V" } : Jvm.MethodName) prog_2_method_1_code (1 : Nat) (Option.none : Option Jvm.ClassFile.FieldType)) ∈ jT := jm0 (List.mem_of_getElem? (i := 155) rfl)
set_option maxRecDepth 100000 in
theorem jw156 : (Jvm.Cond.methodLink "SchoolBoard$Book" (3 : Nat) ({ cls := "java/lang/Object", name := "<init>", desc := "()V" } : Jvm.MethodName)) ∈ jT := jm0 (List.mem_of_getElem? (i := 156) rfl)
set_option maxRecDepth 100000 in
theorem jw157 : (Jvm.Cond.fieldLink "SchoolBoard$Book" (42 : Nat) "SchoolBoard$Book" "MOST" "[I") ∈ jT := jm0 (List.mem_of_getElem? (i := 157) rfl)
set_option maxRecDepth 100000 in
theorem jw159 : (Jvm.Cond.methodLink "SchoolBoard$Book" (48 : Nat) ({ cls := "java/util/Arrays", name := "fill", desc := "([II)V" } : Jvm.MethodName)) ∈ jT := jm0 (List.mem_of_getElem? (i := 159) rfl)
set_option maxRecDepth 100000 in
theorem jw160 : (Jvm.Cond.fieldLink "SchoolBoard$Book" (11 : Nat) "SchoolBoard$Book" "kind" "[I") ∈ jT := jm0 (List.mem_of_getElem? (i := 160) rfl)
set_option maxRecDepth 100000 in
theorem jw161 : (Jvm.Cond.fieldLink "SchoolBoard$Register" (111 : Nat) "SchoolBoard$Book" "kind" "[I") ∈ jT := jm0 (List.mem_of_getElem? (i := 161) rfl)
set_option maxRecDepth 100000 in
theorem jw162 : (Jvm.Cond.fieldLink "SchoolBoard$Book" (15 : Nat) "SchoolBoard$Book" "from" "[I") ∈ jT := jm0 (List.mem_of_getElem? (i := 162) rfl)
set_option maxRecDepth 100000 in
theorem jw163 : (Jvm.Cond.fieldLink "SchoolBoard$Register" (96 : Nat) "SchoolBoard$Book" "from" "[I") ∈ jT := jm0 (List.mem_of_getElem? (i := 163) rfl)
set_option maxRecDepth 100000 in
theorem jw164 : (Jvm.Cond.fieldLink "SchoolBoard$Book" (18 : Nat) "SchoolBoard$Book" "to" "[I") ∈ jT := jm0 (List.mem_of_getElem? (i := 164) rfl)
set_option maxRecDepth 100000 in
theorem jw165 : (Jvm.Cond.fieldLink "SchoolBoard$Register" (94 : Nat) "SchoolBoard$Book" "to" "[I") ∈ jT := jm0 (List.mem_of_getElem? (i := 165) rfl)
set_option maxRecDepth 100000 in
theorem jw166 : (Jvm.Cond.fieldLink "SchoolBoard$Book" (21 : Nat) "SchoolBoard$Book" "value" "[I") ∈ jT := jm0 (List.mem_of_getElem? (i := 166) rfl)
set_option maxRecDepth 100000 in
theorem jw167 : (Jvm.Cond.fieldLink "SchoolBoard$Register" (120 : Nat) "SchoolBoard$Book" "value" "[I") ∈ jT := jm0 (List.mem_of_getElem? (i := 167) rfl)
set_option maxRecDepth 100000 in
theorem jw168 : (Jvm.Cond.fieldLink "SchoolBoard$Book" (24 : Nat) "SchoolBoard$Book" "who" "[I") ∈ jT := jm0 (List.mem_of_getElem? (i := 168) rfl)
set_option maxRecDepth 100000 in
theorem jw169 : (Jvm.Cond.fieldLink "SchoolBoard$Book" (27 : Nat) "SchoolBoard$Book" "toldOn" "[I") ∈ jT := jm0 (List.mem_of_getElem? (i := 169) rfl)
set_option maxRecDepth 100000 in
theorem jw170 : (Jvm.Cond.fieldLink "SchoolBoard$Book" (30 : Nat) "SchoolBoard$Book" "undoneOn" "[I") ∈ jT := jm0 (List.mem_of_getElem? (i := 170) rfl)
set_option maxRecDepth 100000 in
theorem jw171 : (Jvm.Cond.fieldLink "SchoolBoard$Book" (33 : Nat) "SchoolBoard$Book" "next" "[I") ∈ jT := jm0 (List.mem_of_getElem? (i := 171) rfl)
set_option maxRecDepth 100000 in
theorem jw172 : (Jvm.Cond.fieldLink "SchoolBoard$Book" (36 : Nat) "SchoolBoard$Book" "head" "[I") ∈ jT := jm0 (List.mem_of_getElem? (i := 172) rfl)
set_option maxRecDepth 100000 in
theorem jw173 : (Jvm.Cond.fieldLink "SchoolBoard$Book" (39 : Nat) "SchoolBoard$Book" "tail" "[I") ∈ jT := jm0 (List.mem_of_getElem? (i := 173) rfl)
set_option maxRecDepth 100000 in
theorem jw174 : (Jvm.Cond.fieldLink "SchoolBoard$Book" (45 : Nat) "SchoolBoard$Book" "ofKind" "[I") ∈ jT := jm0 (List.mem_of_getElem? (i := 174) rfl)
set_option maxRecDepth 100000 in
theorem jw175 : (Jvm.Cond.fieldLink "SchoolBoard$Book" (54 : Nat) "SchoolBoard$Book" "size" "I") ∈ jT := jm0 (List.mem_of_getElem? (i := 175) rfl)
set_option maxRecDepth 100000 in
theorem jw176 : (Jvm.Cond.fieldLink "SchoolBoard$Register" (80 : Nat) "SchoolBoard$Book" "size" "I") ∈ jT := jm0 (List.mem_of_getElem? (i := 176) rfl)
set_option maxRecDepth 100000 in
theorem jw177 : (Jvm.Cond.fieldLink "SchoolBoard" (329 : Nat) "SchoolBoard$Book" "size" "I") ∈ jT := jm0 (List.mem_of_getElem? (i := 177) rfl)
set_option maxRecDepth 100000 in
theorem jw178 : (Jvm.Cond.fieldLink "SchoolBoard$Book" (66 : Nat) "SchoolBoard$Book" "takenBack" "I") ∈ jT := jm0 (List.mem_of_getElem? (i := 178) rfl)
set_option maxRecDepth 100000 in
theorem jw179 : (Jvm.Cond.fieldLink "SchoolBoard" (332 : Nat) "SchoolBoard$Book" "takenBack" "I") ∈ jT := jm0 (List.mem_of_getElem? (i := 179) rfl)
set_option maxRecDepth 100000 in
theorem jw180 : (Jvm.Cond.laysFinal "SchoolBoard$Book" "SchoolBoard$Book" "kind" "[I") ∈ jT := jm0 (List.mem_of_getElem? (i := 180) rfl)
set_option maxRecDepth 100000 in
theorem jw182 : (Jvm.Cond.laysFinal "SchoolBoard$Book" "SchoolBoard$Book" "from" "[I") ∈ jT := jm0 (List.mem_of_getElem? (i := 182) rfl)
set_option maxRecDepth 100000 in
theorem jw184 : (Jvm.Cond.laysFinal "SchoolBoard$Book" "SchoolBoard$Book" "to" "[I") ∈ jT := jm0 (List.mem_of_getElem? (i := 184) rfl)
set_option maxRecDepth 100000 in
theorem jw186 : (Jvm.Cond.laysFinal "SchoolBoard$Book" "SchoolBoard$Book" "value" "[I") ∈ jT := jm0 (List.mem_of_getElem? (i := 186) rfl)
set_option maxRecDepth 100000 in
theorem jw188 : (Jvm.Cond.laysFinal "SchoolBoard$Book" "SchoolBoard$Book" "who" "[I") ∈ jT := jm0 (List.mem_of_getElem? (i := 188) rfl)
set_option maxRecDepth 100000 in
theorem jw190 : (Jvm.Cond.laysFinal "SchoolBoard$Book" "SchoolBoard$Book" "toldOn" "[I") ∈ jT := jm0 (List.mem_of_getElem? (i := 190) rfl)
set_option maxRecDepth 100000 in
theorem jw192 : (Jvm.Cond.laysFinal "SchoolBoard$Book" "SchoolBoard$Book" "undoneOn" "[I") ∈ jT := jm0 (List.mem_of_getElem? (i := 192) rfl)
set_option maxRecDepth 100000 in
theorem jw194 : (Jvm.Cond.laysFinal "SchoolBoard$Book" "SchoolBoard$Book" "next" "[I") ∈ jT := jm0 (List.mem_of_getElem? (i := 194) rfl)
set_option maxRecDepth 100000 in
theorem jw196 : (Jvm.Cond.laysFinal "SchoolBoard$Book" "SchoolBoard$Book" "head" "[I") ∈ jT := jm0 (List.mem_of_getElem? (i := 196) rfl)
set_option maxRecDepth 100000 in
theorem jw198 : (Jvm.Cond.laysFinal "SchoolBoard$Book" "SchoolBoard$Book" "tail" "[I") ∈ jT := jm0 (List.mem_of_getElem? (i := 198) rfl)
set_option maxRecDepth 100000 in
theorem jw200 : (Jvm.Cond.laysFinal "SchoolBoard$Book" "SchoolBoard$Book" "ofKind" "[I") ∈ jT := jm0 (List.mem_of_getElem? (i := 200) rfl)
set_option maxRecDepth 100000 in
theorem jw202 : (Jvm.Cond.lays "SchoolBoard$Book" "SchoolBoard$Book" "size" "I") ∈ jT := jm0 (List.mem_of_getElem? (i := 202) rfl)
set_option maxRecDepth 100000 in
theorem jw204 : (Jvm.Cond.lays "SchoolBoard$Book" "SchoolBoard$Book" "takenBack" "I") ∈ jT := jm0 (List.mem_of_getElem? (i := 204) rfl)
set_option maxRecDepth 100000 in
theorem jw207 : (Jvm.Cond.classLink "SchoolBoard" (30 : Nat) "SchoolBoard$Code") ∈ jT := jm0 (List.mem_of_getElem? (i := 207) rfl)
set_option maxRecDepth 100000 in
theorem jw208 : (Jvm.Cond.instantiable "SchoolBoard$Code" (14 : Nat)) ∈ jT := jm0 (List.mem_of_getElem? (i := 208) rfl)
set_option maxRecDepth 100000 in
theorem jw209 : (Jvm.Cond.methodLinkNest "SchoolBoard" (32 : Nat) ({ cls := "SchoolBoard$Code", name := "<init>", desc := "()V" } : Jvm.MethodName) "SchoolBoard") ∈ jT := jm0 (List.mem_of_getElem? (i := 209) rfl)
set_option maxRecDepth 100000 in
theorem jw210 : (Jvm.Cond.instanceMethod ({ cls := "SchoolBoard$Code", name := "<init>", desc := "()V" } : Jvm.MethodName)) ∈ jT := jm0 (List.mem_of_getElem? (i := 210) rfl)
set_option maxRecDepth 100000 in
theorem jw211 : (Jvm.Cond.code ({ cls := "SchoolBoard$Code", name := "<init>", desc := "()V" } : Jvm.MethodName) prog_4_method_1_code (1 : Nat) (Option.none : Option Jvm.ClassFile.FieldType)) ∈ jT := jm0 (List.mem_of_getElem? (i := 211) rfl)
set_option maxRecDepth 100000 in
theorem jw212 : (Jvm.Cond.methodLink "SchoolBoard$Code" (5 : Nat) ({ cls := "java/lang/Object", name := "<init>", desc := "()V" } : Jvm.MethodName)) ∈ jT := jm0 (List.mem_of_getElem? (i := 212) rfl)
set_option maxRecDepth 100000 in
theorem jw213 : (Jvm.Cond.classLink "SchoolBoard$Code" (23 : Nat) "SchoolBoard$Reader") ∈ jT := jm0 (List.mem_of_getElem? (i := 213) rfl)
set_option maxRecDepth 100000 in
theorem jw214 : (Jvm.Cond.instantiable "SchoolBoard$Reader" (8 : Nat)) ∈ jT := jm0 (List.mem_of_getElem? (i := 214) rfl)
set_option maxRecDepth 100000 in
theorem jw215 : (Jvm.Cond.methodLinkNest "SchoolBoard$Code" (25 : Nat) ({ cls := "SchoolBoard$Reader", name := "<init>", desc := "()V" } : Jvm.MethodName) "SchoolBoard") ∈ jT := jm0 (List.mem_of_getElem? (i := 215) rfl)
set_option maxRecDepth 100000 in
theorem jw216 : (Jvm.Cond.instanceMethod ({ cls := "SchoolBoard$Reader", name := "<init>", desc := "()V" } : Jvm.MethodName)) ∈ jT := jm0 (List.mem_of_getElem? (i := 216) rfl)
set_option maxRecDepth 100000 in
theorem jw217 : (Jvm.Cond.code ({ cls := "SchoolBoard$Reader", name := "<init>", desc := "()V" } : Jvm.MethodName) prog_10_method_1_code (1 : Nat) (Option.none : Option Jvm.ClassFile.FieldType)) ∈ jT := jm0 (List.mem_of_getElem? (i := 217) rfl)
set_option maxRecDepth 100000 in
theorem jw218 : (Jvm.Cond.methodLink "SchoolBoard$Reader" (3 : Nat) ({ cls := "java/lang/Object", name := "<init>", desc := "()V" } : Jvm.MethodName)) ∈ jT := jm0 (List.mem_of_getElem? (i := 218) rfl)
set_option maxRecDepth 100000 in
theorem jw219 : (Jvm.Cond.classLink "SchoolBoard$Reader" (11 : Nat) "SchoolBoard$Clause") ∈ jT := jm0 (List.mem_of_getElem? (i := 219) rfl)
set_option maxRecDepth 100000 in
theorem jw220 : (Jvm.Cond.arrayOver (Jvm.ClassFile.FieldType.object "SchoolBoard$Clause")) ∈ jT := jm0 (List.mem_of_getElem? (i := 220) rfl)
set_option maxRecDepth 100000 in
theorem jw221 : (Jvm.Cond.fieldLink "SchoolBoard$Reader" (13 : Nat) "SchoolBoard$Reader" "statements" "[LSchoolBoard$Clause;") ∈ jT := jm0 (List.mem_of_getElem? (i := 221) rfl)
set_option maxRecDepth 100000 in
theorem jw222 : (Jvm.Cond.fieldLink "SchoolBoard$Code" (73 : Nat) "SchoolBoard$Reader" "statements" "[LSchoolBoard$Clause;") ∈ jT := jm0 (List.mem_of_getElem? (i := 222) rfl)
set_option maxRecDepth 100000 in
theorem jw223 : (Jvm.Cond.fieldLink "SchoolBoard$Reader" (43 : Nat) "SchoolBoard$Reader" "size" "I") ∈ jT := jm0 (List.mem_of_getElem? (i := 223) rfl)
set_option maxRecDepth 100000 in
theorem jw224 : (Jvm.Cond.fieldLink "SchoolBoard$Code" (72 : Nat) "SchoolBoard$Reader" "size" "I") ∈ jT := jm0 (List.mem_of_getElem? (i := 224) rfl)
set_option maxRecDepth 100000 in
theorem jw225 : (Jvm.Cond.fieldLink "SchoolBoard$Reader" (17 : Nat) "SchoolBoard$Reader" "fault" "I") ∈ jT := jm0 (List.mem_of_getElem? (i := 225) rfl)
set_option maxRecDepth 100000 in
theorem jw226 : (Jvm.Cond.fieldLink "SchoolBoard$Code" (68 : Nat) "SchoolBoard$Reader" "fault" "I") ∈ jT := jm0 (List.mem_of_getElem? (i := 226) rfl)
set_option maxRecDepth 100000 in
theorem jw227 : (Jvm.Cond.fieldLink "SchoolBoard$Reader" (23 : Nat) "SchoolBoard$Reader" "kinds" "[I") ∈ jT := jm0 (List.mem_of_getElem? (i := 227) rfl)
set_option maxRecDepth 100000 in
theorem jw228 : (Jvm.Cond.fieldLink "SchoolBoard$Reader" (27 : Nat) "SchoolBoard$Reader" "values" "[I") ∈ jT := jm0 (List.mem_of_getElem? (i := 228) rfl)
set_option maxRecDepth 100000 in
theorem jw229 : (Jvm.Cond.fieldLink "SchoolBoard$Reader" (30 : Nat) "SchoolBoard$Reader" "places" "[I") ∈ jT := jm0 (List.mem_of_getElem? (i := 229) rfl)
set_option maxRecDepth 100000 in
theorem jw230 : (Jvm.Cond.fieldLink "SchoolBoard$Reader" (56 : Nat) "SchoolBoard$Reader" "tokens" "I") ∈ jT := jm0 (List.mem_of_getElem? (i := 230) rfl)
set_option maxRecDepth 100000 in
theorem jw231 : (Jvm.Cond.fieldLink "SchoolBoard$Reader" (46 : Nat) "SchoolBoard$Reader" "at" "I") ∈ jT := jm0 (List.mem_of_getElem? (i := 231) rfl)
set_option maxRecDepth 100000 in
theorem jw232 : (Jvm.Cond.laysFinal "SchoolBoard$Reader" "SchoolBoard$Reader" "statements" "[LSchoolBoard$Clause;") ∈ jT := jm0 (List.mem_of_getElem? (i := 232) rfl)
set_option maxRecDepth 100000 in
theorem jw234 : (Jvm.Cond.lays "SchoolBoard$Reader" "SchoolBoard$Reader" "size" "I") ∈ jT := jm0 (List.mem_of_getElem? (i := 234) rfl)
set_option maxRecDepth 100000 in
theorem jw236 : (Jvm.Cond.lays "SchoolBoard$Reader" "SchoolBoard$Reader" "fault" "I") ∈ jT := jm0 (List.mem_of_getElem? (i := 236) rfl)
set_option maxRecDepth 100000 in
theorem jw238 : (Jvm.Cond.laysFinal "SchoolBoard$Reader" "SchoolBoard$Reader" "kinds" "[I") ∈ jT := jm0 (List.mem_of_getElem? (i := 238) rfl)
set_option maxRecDepth 100000 in
theorem jw240 : (Jvm.Cond.laysFinal "SchoolBoard$Reader" "SchoolBoard$Reader" "values" "[I") ∈ jT := jm1 (List.mem_of_getElem? (i := 0) rfl)
set_option maxRecDepth 100000 in
theorem jw242 : (Jvm.Cond.laysFinal "SchoolBoard$Reader" "SchoolBoard$Reader" "places" "[I") ∈ jT := jm1 (List.mem_of_getElem? (i := 2) rfl)
set_option maxRecDepth 100000 in
theorem jw244 : (Jvm.Cond.lays "SchoolBoard$Reader" "SchoolBoard$Reader" "tokens" "I") ∈ jT := jm1 (List.mem_of_getElem? (i := 4) rfl)
set_option maxRecDepth 100000 in
theorem jw246 : (Jvm.Cond.lays "SchoolBoard$Reader" "SchoolBoard$Reader" "at" "I") ∈ jT := jm1 (List.mem_of_getElem? (i := 6) rfl)
set_option maxRecDepth 100000 in
theorem jw249 : (Jvm.Cond.arrayClass Jvm.ClassFile.FieldType.byte) ∈ jT := jm1 (List.mem_of_getElem? (i := 9) rfl)
set_option maxRecDepth 100000 in
theorem jw250 : (Jvm.Cond.classLink "SchoolBoard$Code" (30 : Nat) "SchoolBoard$Clause") ∈ jT := jm1 (List.mem_of_getElem? (i := 10) rfl)
set_option maxRecDepth 100000 in
theorem jw251 : (Jvm.Cond.classLink "SchoolBoard$Code" (39 : Nat) "java/lang/StringBuilder") ∈ jT := jm1 (List.mem_of_getElem? (i := 11) rfl)
set_option maxRecDepth 100000 in
theorem jw252 : (Jvm.Cond.instantiable "java/lang/StringBuilder" (4 : Nat)) ∈ jT := jm1 (List.mem_of_getElem? (i := 12) rfl)
set_option maxRecDepth 100000 in
theorem jw253 : (Jvm.Cond.methodLink "SchoolBoard$Code" (41 : Nat) ({ cls := "java/lang/StringBuilder", name := "<init>", desc := "()V" } : Jvm.MethodName)) ∈ jT := jm1 (List.mem_of_getElem? (i := 13) rfl)
set_option maxRecDepth 100000 in
theorem jw254 : (Jvm.Cond.instanceMethod ({ cls := "java/lang/StringBuilder", name := "<init>", desc := "()V" } : Jvm.MethodName)) ∈ jT := jm1 (List.mem_of_getElem? (i := 14) rfl)
set_option maxRecDepth 100000 in
theorem jw255 : (Jvm.Cond.code ({ cls := "java/lang/StringBuilder", name := "<init>", desc := "()V" } : Jvm.MethodName) prog_20_method_1_code (1 : Nat) (Option.none : Option Jvm.ClassFile.FieldType)) ∈ jT := jm1 (List.mem_of_getElem? (i := 15) rfl)
set_option maxRecDepth 100000 in
theorem jw256 : (Jvm.Cond.methodLink "java/lang/StringBuilder" (1 : Nat) ({ cls := "java/lang/AbstractStringBuilder", name := "<init>", desc := "(I)V" } : Jvm.MethodName)) ∈ jT := jm1 (List.mem_of_getElem? (i := 16) rfl)
set_option maxRecDepth 100000 in
theorem jw257 : (Jvm.Cond.instanceMethod ({ cls := "java/lang/AbstractStringBuilder", name := "<init>", desc := "(I)V" } : Jvm.MethodName)) ∈ jT := jm1 (List.mem_of_getElem? (i := 17) rfl)
set_option maxRecDepth 100000 in
theorem jw258 : (Jvm.Cond.code ({ cls := "java/lang/AbstractStringBuilder", name := "<init>", desc := "(I)V" } : Jvm.MethodName) prog_15_method_2_code (2 : Nat) (Option.none : Option Jvm.ClassFile.FieldType)) ∈ jT := jm1 (List.mem_of_getElem? (i := 18) rfl)
set_option maxRecDepth 100000 in
theorem jw259 : (Jvm.Cond.methodLink "java/lang/AbstractStringBuilder" (3 : Nat) ({ cls := "java/lang/Object", name := "<init>", desc := "()V" } : Jvm.MethodName)) ∈ jT := jm1 (List.mem_of_getElem? (i := 19) rfl)
set_option maxRecDepth 100000 in
theorem jw260 : (Jvm.Cond.fieldLink "java/lang/AbstractStringBuilder" (18 : Nat) "java/lang/String" "COMPACT_STRINGS" "Z") ∈ jT := jm1 (List.mem_of_getElem? (i := 20) rfl)
set_option maxRecDepth 100000 in
theorem jw269 : (Jvm.Cond.fieldLink "java/lang/AbstractStringBuilder" (15 : Nat) "java/lang/AbstractStringBuilder" "value" "[B") ∈ jT := jm1 (List.mem_of_getElem? (i := 29) rfl)
set_option maxRecDepth 100000 in
theorem jw270 : (Jvm.Cond.fieldLink "java/lang/AbstractStringBuilder" (22 : Nat) "java/lang/AbstractStringBuilder" "coder" "B") ∈ jT := jm1 (List.mem_of_getElem? (i := 30) rfl)
set_option maxRecDepth 100000 in
theorem jw271 : (Jvm.Cond.fieldLink "java/lang/AbstractStringBuilder" (73 : Nat) "java/lang/AbstractStringBuilder" "maybeLatin1" "Z") ∈ jT := jm1 (List.mem_of_getElem? (i := 31) rfl)
set_option maxRecDepth 100000 in
theorem jw272 : (Jvm.Cond.fieldLink "java/lang/String" (1048 : Nat) "java/lang/AbstractStringBuilder" "maybeLatin1" "Z") ∈ jT := jm1 (List.mem_of_getElem? (i := 32) rfl)
set_option maxRecDepth 100000 in
theorem jw273 : (Jvm.Cond.fieldLink "java/lang/AbstractStringBuilder" (79 : Nat) "java/lang/AbstractStringBuilder" "count" "I") ∈ jT := jm1 (List.mem_of_getElem? (i := 33) rfl)
set_option maxRecDepth 100000 in
theorem jw274 : (Jvm.Cond.lays "java/lang/StringBuilder" "java/lang/AbstractStringBuilder" "value" "[B") ∈ jT := jm1 (List.mem_of_getElem? (i := 34) rfl)
set_option maxRecDepth 100000 in
theorem jw276 : (Jvm.Cond.lays "java/lang/StringBuilder" "java/lang/AbstractStringBuilder" "coder" "B") ∈ jT := jm1 (List.mem_of_getElem? (i := 36) rfl)
set_option maxRecDepth 100000 in
theorem jw278 : (Jvm.Cond.lays "java/lang/StringBuilder" "java/lang/AbstractStringBuilder" "maybeLatin1" "Z") ∈ jT := jm1 (List.mem_of_getElem? (i := 38) rfl)
set_option maxRecDepth 100000 in
theorem jw280 : (Jvm.Cond.lays "java/lang/StringBuilder" "java/lang/AbstractStringBuilder" "count" "I") ∈ jT := jm1 (List.mem_of_getElem? (i := 40) rfl)
set_option maxRecDepth 100000 in
theorem jw282 : (Jvm.Cond.superclass "java/lang/StringBuilder" "java/lang/AbstractStringBuilder") ∈ jT := jm1 (List.mem_of_getElem? (i := 42) rfl)
set_option maxRecDepth 100000 in
theorem jw283 : (Jvm.Cond.fieldLink "SchoolBoard$Code" (11 : Nat) "SchoolBoard$Code" "sizes" "[I") ∈ jT := jm1 (List.mem_of_getElem? (i := 43) rfl)
set_option maxRecDepth 100000 in
theorem jw284 : (Jvm.Cond.fieldLink "SchoolBoard" (238 : Nat) "SchoolBoard$Code" "sizes" "[I") ∈ jT := jm1 (List.mem_of_getElem? (i := 44) rfl)
set_option maxRecDepth 100000 in
theorem jw285 : (Jvm.Cond.fieldLink "SchoolBoard$Code" (58 : Nat) "SchoolBoard$Code" "fed" "I") ∈ jT := jm1 (List.mem_of_getElem? (i := 45) rfl)
set_option maxRecDepth 100000 in
theorem jw286 : (Jvm.Cond.fieldLink "SchoolBoard" (217 : Nat) "SchoolBoard$Code" "fed" "I") ∈ jT := jm1 (List.mem_of_getElem? (i := 46) rfl)
set_option maxRecDepth 100000 in
theorem jw287 : (Jvm.Cond.fieldLink "SchoolBoard$Code" (61 : Nat) "SchoolBoard$Code" "acts" "I") ∈ jT := jm1 (List.mem_of_getElem? (i := 47) rfl)
set_option maxRecDepth 100000 in
theorem jw288 : (Jvm.Cond.fieldLink "SchoolBoard" (223 : Nat) "SchoolBoard$Code" "acts" "I") ∈ jT := jm1 (List.mem_of_getElem? (i := 48) rfl)
set_option maxRecDepth 100000 in
theorem jw289 : (Jvm.Cond.fieldLink "SchoolBoard$Code" (15 : Nat) "SchoolBoard$Code" "fault" "I") ∈ jT := jm1 (List.mem_of_getElem? (i := 49) rfl)
set_option maxRecDepth 100000 in
theorem jw290 : (Jvm.Cond.fieldLink "SchoolBoard" (229 : Nat) "SchoolBoard$Code" "fault" "I") ∈ jT := jm1 (List.mem_of_getElem? (i := 50) rfl)
set_option maxRecDepth 100000 in
theorem jw291 : (Jvm.Cond.fieldLink "SchoolBoard$Code" (19 : Nat) "SchoolBoard$Code" "tape" "[B") ∈ jT := jm1 (List.mem_of_getElem? (i := 51) rfl)
set_option maxRecDepth 100000 in
theorem jw292 : (Jvm.Cond.fieldLink "SchoolBoard$Code" (26 : Nat) "SchoolBoard$Code" "reader" "LSchoolBoard$Reader;") ∈ jT := jm1 (List.mem_of_getElem? (i := 52) rfl)
set_option maxRecDepth 100000 in
theorem jw293 : (Jvm.Cond.fieldLink "SchoolBoard$Code" (32 : Nat) "SchoolBoard$Code" "statements" "[LSchoolBoard$Clause;") ∈ jT := jm1 (List.mem_of_getElem? (i := 53) rfl)
set_option maxRecDepth 100000 in
theorem jw294 : (Jvm.Cond.fieldLink "SchoolBoard$Code" (69 : Nat) "SchoolBoard$Code" "size" "I") ∈ jT := jm1 (List.mem_of_getElem? (i := 54) rfl)
set_option maxRecDepth 100000 in
theorem jw295 : (Jvm.Cond.fieldLink "SchoolBoard$Code" (36 : Nat) "SchoolBoard$Code" "actYears" "[I") ∈ jT := jm1 (List.mem_of_getElem? (i := 55) rfl)
set_option maxRecDepth 100000 in
theorem jw296 : (Jvm.Cond.fieldLink "SchoolBoard$Code" (42 : Nat) "SchoolBoard$Code" "pen" "Ljava/lang/StringBuilder;") ∈ jT := jm1 (List.mem_of_getElem? (i := 56) rfl)
set_option maxRecDepth 100000 in
theorem jw297 : (Jvm.Cond.fieldLink "SchoolBoard$Code" (46 : Nat) "SchoolBoard$Code" "rows" "[LSchoolBoard$Clause;") ∈ jT := jm1 (List.mem_of_getElem? (i := 57) rfl)
set_option maxRecDepth 100000 in
theorem jw298 : (Jvm.Cond.fieldLink "SchoolBoard$Code" (49 : Nat) "SchoolBoard$Code" "ordered" "[LSchoolBoard$Clause;") ∈ jT := jm1 (List.mem_of_getElem? (i := 58) rfl)
set_option maxRecDepth 100000 in
theorem jw299 : (Jvm.Cond.fieldLink "SchoolBoard$Grants" (147 : Nat) "SchoolBoard$Code" "ordered" "[LSchoolBoard$Clause;") ∈ jT := jm1 (List.mem_of_getElem? (i := 59) rfl)
set_option maxRecDepth 100000 in
theorem jw300 : (Jvm.Cond.fieldLink "SchoolBoard$Entering" (131 : Nat) "SchoolBoard$Code" "ordered" "[LSchoolBoard$Clause;") ∈ jT := jm1 (List.mem_of_getElem? (i := 60) rfl)
set_option maxRecDepth 100000 in
theorem jw301 : (Jvm.Cond.fieldLink "SchoolBoard$Code" (52 : Nat) "SchoolBoard$Code" "starts" "[I") ∈ jT := jm1 (List.mem_of_getElem? (i := 61) rfl)
set_option maxRecDepth 100000 in
theorem jw302 : (Jvm.Cond.fieldLink "SchoolBoard$Code" (55 : Nat) "SchoolBoard$Code" "nothingAsked" "[I") ∈ jT := jm1 (List.mem_of_getElem? (i := 62) rfl)
set_option maxRecDepth 100000 in
theorem jw303 : (Jvm.Cond.laysFinal "SchoolBoard$Code" "SchoolBoard$Code" "sizes" "[I") ∈ jT := jm1 (List.mem_of_getElem? (i := 63) rfl)
set_option maxRecDepth 100000 in
theorem jw305 : (Jvm.Cond.lays "SchoolBoard$Code" "SchoolBoard$Code" "fed" "I") ∈ jT := jm1 (List.mem_of_getElem? (i := 65) rfl)
set_option maxRecDepth 100000 in
theorem jw307 : (Jvm.Cond.lays "SchoolBoard$Code" "SchoolBoard$Code" "acts" "I") ∈ jT := jm1 (List.mem_of_getElem? (i := 67) rfl)
set_option maxRecDepth 100000 in
theorem jw309 : (Jvm.Cond.lays "SchoolBoard$Code" "SchoolBoard$Code" "fault" "I") ∈ jT := jm1 (List.mem_of_getElem? (i := 69) rfl)
set_option maxRecDepth 100000 in
theorem jw311 : (Jvm.Cond.laysFinal "SchoolBoard$Code" "SchoolBoard$Code" "tape" "[B") ∈ jT := jm1 (List.mem_of_getElem? (i := 71) rfl)
set_option maxRecDepth 100000 in
theorem jw313 : (Jvm.Cond.laysFinal "SchoolBoard$Code" "SchoolBoard$Code" "reader" "LSchoolBoard$Reader;") ∈ jT := jm1 (List.mem_of_getElem? (i := 73) rfl)
set_option maxRecDepth 100000 in
theorem jw315 : (Jvm.Cond.laysFinal "SchoolBoard$Code" "SchoolBoard$Code" "statements" "[LSchoolBoard$Clause;") ∈ jT := jm1 (List.mem_of_getElem? (i := 75) rfl)
set_option maxRecDepth 100000 in
theorem jw317 : (Jvm.Cond.lays "SchoolBoard$Code" "SchoolBoard$Code" "size" "I") ∈ jT := jm1 (List.mem_of_getElem? (i := 77) rfl)
set_option maxRecDepth 100000 in
theorem jw319 : (Jvm.Cond.laysFinal "SchoolBoard$Code" "SchoolBoard$Code" "actYears" "[I") ∈ jT := jm1 (List.mem_of_getElem? (i := 79) rfl)
set_option maxRecDepth 100000 in
theorem jw321 : (Jvm.Cond.laysFinal "SchoolBoard$Code" "SchoolBoard$Code" "pen" "Ljava/lang/StringBuilder;") ∈ jT := jm1 (List.mem_of_getElem? (i := 81) rfl)
set_option maxRecDepth 100000 in
theorem jw323 : (Jvm.Cond.laysFinal "SchoolBoard$Code" "SchoolBoard$Code" "rows" "[LSchoolBoard$Clause;") ∈ jT := jm1 (List.mem_of_getElem? (i := 83) rfl)
set_option maxRecDepth 100000 in
theorem jw325 : (Jvm.Cond.laysFinal "SchoolBoard$Code" "SchoolBoard$Code" "ordered" "[LSchoolBoard$Clause;") ∈ jT := jm1 (List.mem_of_getElem? (i := 85) rfl)
set_option maxRecDepth 100000 in
theorem jw327 : (Jvm.Cond.laysFinal "SchoolBoard$Code" "SchoolBoard$Code" "starts" "[I") ∈ jT := jm1 (List.mem_of_getElem? (i := 87) rfl)
set_option maxRecDepth 100000 in
theorem jw329 : (Jvm.Cond.laysFinal "SchoolBoard$Code" "SchoolBoard$Code" "nothingAsked" "[I") ∈ jT := jm1 (List.mem_of_getElem? (i := 89) rfl)
set_option maxRecDepth 100000 in
theorem jw332 : (Jvm.Cond.classLink "SchoolBoard" (37 : Nat) "SchoolBoard$Register") ∈ jT := jm1 (List.mem_of_getElem? (i := 92) rfl)
set_option maxRecDepth 100000 in
theorem jw333 : (Jvm.Cond.instantiable "SchoolBoard$Register" (17 : Nat)) ∈ jT := jm1 (List.mem_of_getElem? (i := 93) rfl)
set_option maxRecDepth 100000 in
theorem jw334 : (Jvm.Cond.methodLink "SchoolBoard" (39 : Nat) ({ cls := "SchoolBoard$Register", name := "<init>", desc := "(LSchoolBoard$Book;LSchoolBoard$People;LSchoolBoard$Code;)V" } : Jvm.MethodName)) ∈ jT := jm1 (List.mem_of_getElem? (i := 94) rfl)
set_option maxRecDepth 100000 in
theorem jw335 : (Jvm.Cond.instanceMethod ({ cls := "SchoolBoard$Register", name := "<init>", desc := "(LSchoolBoard$Book;LSchoolBoard$People;LSchoolBoard$Code;)V" } : Jvm.MethodName)) ∈ jT := jm1 (List.mem_of_getElem? (i := 95) rfl)
set_option maxRecDepth 100000 in
theorem jw336 : (Jvm.Cond.code ({ cls := "SchoolBoard$Register", name := "<init>", desc := "(LSchoolBoard$Book;LSchoolBoard$People;LSchoolBoard$Code;)V" } : Jvm.MethodName) prog_11_method_1_code (4 : Nat) (Option.none : Option Jvm.ClassFile.FieldType)) ∈ jT := jm1 (List.mem_of_getElem? (i := 96) rfl)
set_option maxRecDepth 100000 in
theorem jw337 : (Jvm.Cond.methodLink "SchoolBoard$Register" (3 : Nat) ({ cls := "java/lang/Object", name := "<init>", desc := "()V" } : Jvm.MethodName)) ∈ jT := jm1 (List.mem_of_getElem? (i := 97) rfl)
set_option maxRecDepth 100000 in
theorem jw338 : (Jvm.Cond.fieldLink "SchoolBoard$Register" (9 : Nat) "SchoolBoard$Register" "asked" "[I") ∈ jT := jm1 (List.mem_of_getElem? (i := 98) rfl)
set_option maxRecDepth 100000 in
theorem jw339 : (Jvm.Cond.fieldLink "SchoolBoard$Grants" (127 : Nat) "SchoolBoard$Register" "asked" "[I") ∈ jT := jm1 (List.mem_of_getElem? (i := 99) rfl)
set_option maxRecDepth 100000 in
theorem jw340 : (Jvm.Cond.fieldLink "SchoolBoard$Entering" (113 : Nat) "SchoolBoard$Register" "asked" "[I") ∈ jT := jm1 (List.mem_of_getElem? (i := 100) rfl)
set_option maxRecDepth 100000 in
theorem jw341 : (Jvm.Cond.fieldLink "SchoolBoard$Register" (15 : Nat) "SchoolBoard$Register" "marksIn" "[I") ∈ jT := jm1 (List.mem_of_getElem? (i := 101) rfl)
set_option maxRecDepth 100000 in
theorem jw342 : (Jvm.Cond.fieldLink "SchoolBoard$Grants" (189 : Nat) "SchoolBoard$Register" "marksIn" "[I") ∈ jT := jm1 (List.mem_of_getElem? (i := 102) rfl)
set_option maxRecDepth 100000 in
theorem jw343 : (Jvm.Cond.fieldLink "SchoolBoard$Register" (42 : Nat) "SchoolBoard$Register" "book" "LSchoolBoard$Book;") ∈ jT := jm1 (List.mem_of_getElem? (i := 103) rfl)
set_option maxRecDepth 100000 in
theorem jw344 : (Jvm.Cond.fieldLink "SchoolBoard$Register" (46 : Nat) "SchoolBoard$Register" "people" "LSchoolBoard$People;") ∈ jT := jm1 (List.mem_of_getElem? (i := 104) rfl)
set_option maxRecDepth 100000 in
theorem jw345 : (Jvm.Cond.fieldLink "SchoolBoard$Register" (50 : Nat) "SchoolBoard$Register" "code" "LSchoolBoard$Code;") ∈ jT := jm1 (List.mem_of_getElem? (i := 105) rfl)
set_option maxRecDepth 100000 in
theorem jw346 : (Jvm.Cond.fieldLink "SchoolBoard$Register" (18 : Nat) "SchoolBoard$Register" "place" "[I") ∈ jT := jm1 (List.mem_of_getElem? (i := 106) rfl)
set_option maxRecDepth 100000 in
theorem jw347 : (Jvm.Cond.fieldLink "SchoolBoard$Register" (21 : Nat) "SchoolBoard$Register" "since" "[I") ∈ jT := jm1 (List.mem_of_getElem? (i := 107) rfl)
set_option maxRecDepth 100000 in
theorem jw348 : (Jvm.Cond.fieldLink "SchoolBoard$Register" (24 : Nat) "SchoolBoard$Register" "halves" "[I") ∈ jT := jm1 (List.mem_of_getElem? (i := 108) rfl)
set_option maxRecDepth 100000 in
theorem jw349 : (Jvm.Cond.fieldLink "SchoolBoard$Register" (27 : Nat) "SchoolBoard$Register" "excuses" "[I") ∈ jT := jm1 (List.mem_of_getElem? (i := 109) rfl)
set_option maxRecDepth 100000 in
theorem jw350 : (Jvm.Cond.fieldLink "SchoolBoard$Register" (30 : Nat) "SchoolBoard$Register" "timers" "[I") ∈ jT := jm1 (List.mem_of_getElem? (i := 110) rfl)
set_option maxRecDepth 100000 in
theorem jw351 : (Jvm.Cond.fieldLink "SchoolBoard$Register" (33 : Nat) "SchoolBoard$Register" "letOffs" "[I") ∈ jT := jm1 (List.mem_of_getElem? (i := 111) rfl)
set_option maxRecDepth 100000 in
theorem jw352 : (Jvm.Cond.fieldLink "SchoolBoard$Register" (36 : Nat) "SchoolBoard$Register" "shutSchools" "[I") ∈ jT := jm1 (List.mem_of_getElem? (i := 112) rfl)
set_option maxRecDepth 100000 in
theorem jw353 : (Jvm.Cond.fieldLink "SchoolBoard$Register" (39 : Nat) "SchoolBoard$Register" "standards" "[I") ∈ jT := jm1 (List.mem_of_getElem? (i := 113) rfl)
set_option maxRecDepth 100000 in
theorem jw354 : (Jvm.Cond.fieldLink "SchoolBoard$Register" (58 : Nat) "SchoolBoard$Register" "from" "I") ∈ jT := jm1 (List.mem_of_getElem? (i := 114) rfl)
set_option maxRecDepth 100000 in
theorem jw355 : (Jvm.Cond.fieldLink "SchoolBoard$Register" (68 : Nat) "SchoolBoard$Register" "to" "I") ∈ jT := jm1 (List.mem_of_getElem? (i := 115) rfl)
set_option maxRecDepth 100000 in
theorem jw356 : (Jvm.Cond.fieldLink "SchoolBoard$Register" (71 : Nat) "SchoolBoard$Register" "known" "I") ∈ jT := jm1 (List.mem_of_getElem? (i := 116) rfl)
set_option maxRecDepth 100000 in
theorem jw357 : (Jvm.Cond.fieldLink "SchoolBoard$Register" (101 : Nat) "SchoolBoard$Register" "child" "I") ∈ jT := jm1 (List.mem_of_getElem? (i := 117) rfl)
set_option maxRecDepth 100000 in
theorem jw358 : (Jvm.Cond.laysFinal "SchoolBoard$Register" "SchoolBoard$Register" "asked" "[I") ∈ jT := jm1 (List.mem_of_getElem? (i := 118) rfl)
set_option maxRecDepth 100000 in
theorem jw360 : (Jvm.Cond.laysFinal "SchoolBoard$Register" "SchoolBoard$Register" "marksIn" "[I") ∈ jT := jm1 (List.mem_of_getElem? (i := 120) rfl)
set_option maxRecDepth 100000 in
theorem jw362 : (Jvm.Cond.laysFinal "SchoolBoard$Register" "SchoolBoard$Register" "book" "LSchoolBoard$Book;") ∈ jT := jm1 (List.mem_of_getElem? (i := 122) rfl)
set_option maxRecDepth 100000 in
theorem jw364 : (Jvm.Cond.laysFinal "SchoolBoard$Register" "SchoolBoard$Register" "people" "LSchoolBoard$People;") ∈ jT := jm1 (List.mem_of_getElem? (i := 124) rfl)
set_option maxRecDepth 100000 in
theorem jw366 : (Jvm.Cond.laysFinal "SchoolBoard$Register" "SchoolBoard$Register" "code" "LSchoolBoard$Code;") ∈ jT := jm1 (List.mem_of_getElem? (i := 126) rfl)
set_option maxRecDepth 100000 in
theorem jw368 : (Jvm.Cond.laysFinal "SchoolBoard$Register" "SchoolBoard$Register" "place" "[I") ∈ jT := jm1 (List.mem_of_getElem? (i := 128) rfl)
set_option maxRecDepth 100000 in
theorem jw370 : (Jvm.Cond.laysFinal "SchoolBoard$Register" "SchoolBoard$Register" "since" "[I") ∈ jT := jm1 (List.mem_of_getElem? (i := 130) rfl)
set_option maxRecDepth 100000 in
theorem jw372 : (Jvm.Cond.laysFinal "SchoolBoard$Register" "SchoolBoard$Register" "halves" "[I") ∈ jT := jm1 (List.mem_of_getElem? (i := 132) rfl)
set_option maxRecDepth 100000 in
theorem jw374 : (Jvm.Cond.laysFinal "SchoolBoard$Register" "SchoolBoard$Register" "excuses" "[I") ∈ jT := jm1 (List.mem_of_getElem? (i := 134) rfl)
set_option maxRecDepth 100000 in
theorem jw376 : (Jvm.Cond.laysFinal "SchoolBoard$Register" "SchoolBoard$Register" "timers" "[I") ∈ jT := jm1 (List.mem_of_getElem? (i := 136) rfl)
set_option maxRecDepth 100000 in
theorem jw378 : (Jvm.Cond.laysFinal "SchoolBoard$Register" "SchoolBoard$Register" "letOffs" "[I") ∈ jT := jm1 (List.mem_of_getElem? (i := 138) rfl)
set_option maxRecDepth 100000 in
theorem jw380 : (Jvm.Cond.laysFinal "SchoolBoard$Register" "SchoolBoard$Register" "shutSchools" "[I") ∈ jT := jm1 (List.mem_of_getElem? (i := 140) rfl)
set_option maxRecDepth 100000 in
theorem jw382 : (Jvm.Cond.laysFinal "SchoolBoard$Register" "SchoolBoard$Register" "standards" "[I") ∈ jT := jm1 (List.mem_of_getElem? (i := 142) rfl)
set_option maxRecDepth 100000 in
theorem jw384 : (Jvm.Cond.lays "SchoolBoard$Register" "SchoolBoard$Register" "from" "I") ∈ jT := jm1 (List.mem_of_getElem? (i := 144) rfl)
set_option maxRecDepth 100000 in
theorem jw386 : (Jvm.Cond.lays "SchoolBoard$Register" "SchoolBoard$Register" "to" "I") ∈ jT := jm1 (List.mem_of_getElem? (i := 146) rfl)
set_option maxRecDepth 100000 in
theorem jw388 : (Jvm.Cond.lays "SchoolBoard$Register" "SchoolBoard$Register" "known" "I") ∈ jT := jm1 (List.mem_of_getElem? (i := 148) rfl)
set_option maxRecDepth 100000 in
theorem jw390 : (Jvm.Cond.lays "SchoolBoard$Register" "SchoolBoard$Register" "child" "I") ∈ jT := jm1 (List.mem_of_getElem? (i := 150) rfl)
set_option maxRecDepth 100000 in
theorem jw393 : (Jvm.Cond.classLink "SchoolBoard" (46 : Nat) "SchoolBoard$Grants") ∈ jT := jm1 (List.mem_of_getElem? (i := 153) rfl)
set_option maxRecDepth 100000 in
theorem jw394 : (Jvm.Cond.instantiable "SchoolBoard$Grants" (20 : Nat)) ∈ jT := jm1 (List.mem_of_getElem? (i := 154) rfl)
set_option maxRecDepth 100000 in
theorem jw395 : (Jvm.Cond.methodLink "SchoolBoard" (48 : Nat) ({ cls := "SchoolBoard$Grants", name := "<init>", desc := "(LSchoolBoard$People;LSchoolBoard$Code;LSchoolBoard$Register;)V" } : Jvm.MethodName)) ∈ jT := jm1 (List.mem_of_getElem? (i := 155) rfl)
set_option maxRecDepth 100000 in
theorem jw396 : (Jvm.Cond.instanceMethod ({ cls := "SchoolBoard$Grants", name := "<init>", desc := "(LSchoolBoard$People;LSchoolBoard$Code;LSchoolBoard$Register;)V" } : Jvm.MethodName)) ∈ jT := jm1 (List.mem_of_getElem? (i := 156) rfl)
set_option maxRecDepth 100000 in
theorem jw397 : (Jvm.Cond.code ({ cls := "SchoolBoard$Grants", name := "<init>", desc := "(LSchoolBoard$People;LSchoolBoard$Code;LSchoolBoard$Register;)V" } : Jvm.MethodName) prog_6_method_1_code (4 : Nat) (Option.none : Option Jvm.ClassFile.FieldType)) ∈ jT := jm1 (List.mem_of_getElem? (i := 157) rfl)
set_option maxRecDepth 100000 in
theorem jw398 : (Jvm.Cond.methodLink "SchoolBoard$Grants" (5 : Nat) ({ cls := "java/lang/Object", name := "<init>", desc := "()V" } : Jvm.MethodName)) ∈ jT := jm1 (List.mem_of_getElem? (i := 158) rfl)
set_option maxRecDepth 100000 in
theorem jw399 : (Jvm.Cond.fieldLink "SchoolBoard$Grants" (37 : Nat) "SchoolBoard$Grants" "people" "LSchoolBoard$People;") ∈ jT := jm1 (List.mem_of_getElem? (i := 159) rfl)
set_option maxRecDepth 100000 in
theorem jw400 : (Jvm.Cond.fieldLink "SchoolBoard$Grants" (41 : Nat) "SchoolBoard$Grants" "code" "LSchoolBoard$Code;") ∈ jT := jm1 (List.mem_of_getElem? (i := 160) rfl)
set_option maxRecDepth 100000 in
theorem jw401 : (Jvm.Cond.fieldLink "SchoolBoard$Grants" (45 : Nat) "SchoolBoard$Grants" "register" "LSchoolBoard$Register;") ∈ jT := jm1 (List.mem_of_getElem? (i := 161) rfl)
set_option maxRecDepth 100000 in
theorem jw402 : (Jvm.Cond.fieldLink "SchoolBoard$Grants" (13 : Nat) "SchoolBoard$Grants" "lineChild" "[I") ∈ jT := jm1 (List.mem_of_getElem? (i := 162) rfl)
set_option maxRecDepth 100000 in
theorem jw403 : (Jvm.Cond.fieldLink "SchoolBoard$Grants" (17 : Nat) "SchoolBoard$Grants" "lineClause" "[I") ∈ jT := jm1 (List.mem_of_getElem? (i := 163) rfl)
set_option maxRecDepth 100000 in
theorem jw404 : (Jvm.Cond.fieldLink "SchoolBoard$Grants" (20 : Nat) "SchoolBoard$Grants" "linePence" "[I") ∈ jT := jm1 (List.mem_of_getElem? (i := 164) rfl)
set_option maxRecDepth 100000 in
theorem jw405 : (Jvm.Cond.fieldLink "SchoolBoard$Grants" (23 : Nat) "SchoolBoard$Grants" "quarterSums" "[I") ∈ jT := jm1 (List.mem_of_getElem? (i := 165) rfl)
set_option maxRecDepth 100000 in
theorem jw406 : (Jvm.Cond.fieldLink "SchoolBoard$Grants" (26 : Nat) "SchoolBoard$Grants" "standards" "[I") ∈ jT := jm1 (List.mem_of_getElem? (i := 166) rfl)
set_option maxRecDepth 100000 in
theorem jw407 : (Jvm.Cond.fieldLink "SchoolBoard$Grants" (29 : Nat) "SchoolBoard$Grants" "isThere" "[Z") ∈ jT := jm1 (List.mem_of_getElem? (i := 167) rfl)
set_option maxRecDepth 100000 in
theorem jw408 : (Jvm.Cond.fieldLink "SchoolBoard$Grants" (61 : Nat) "SchoolBoard$Grants" "lines" "I") ∈ jT := jm1 (List.mem_of_getElem? (i := 168) rfl)
set_option maxRecDepth 100000 in
theorem jw409 : (Jvm.Cond.fieldLink "SchoolBoard$Grants" (124 : Nat) "SchoolBoard$Grants" "average" "I") ∈ jT := jm1 (List.mem_of_getElem? (i := 169) rfl)
set_option maxRecDepth 100000 in
theorem jw410 : (Jvm.Cond.fieldLink "SchoolBoard$Grants" (106 : Nat) "SchoolBoard$Grants" "daysOpen" "I") ∈ jT := jm1 (List.mem_of_getElem? (i := 170) rfl)
set_option maxRecDepth 100000 in
theorem jw411 : (Jvm.Cond.fieldLink "SchoolBoard$Grants" (108 : Nat) "SchoolBoard$Grants" "children" "I") ∈ jT := jm1 (List.mem_of_getElem? (i := 171) rfl)
set_option maxRecDepth 100000 in
theorem jw412 : (Jvm.Cond.fieldLink "SchoolBoard$Grants" (80 : Nat) "SchoolBoard$Grants" "covered" "I") ∈ jT := jm1 (List.mem_of_getElem? (i := 172) rfl)
set_option maxRecDepth 100000 in
theorem jw413 : (Jvm.Cond.fieldLink "SchoolBoard$Grants" (64 : Nat) "SchoolBoard$Grants" "sum" "I") ∈ jT := jm1 (List.mem_of_getElem? (i := 173) rfl)
set_option maxRecDepth 100000 in
theorem jw414 : (Jvm.Cond.fieldLink "SchoolBoard$Grants" (33 : Nat) "SchoolBoard$Grants" "school" "I") ∈ jT := jm1 (List.mem_of_getElem? (i := 174) rfl)
set_option maxRecDepth 100000 in
theorem jw415 : (Jvm.Cond.fieldLink "SchoolBoard$Grants" (49 : Nat) "SchoolBoard$Grants" "year" "I") ∈ jT := jm1 (List.mem_of_getElem? (i := 175) rfl)
set_option maxRecDepth 100000 in
theorem jw416 : (Jvm.Cond.fieldLink "SchoolBoard$Grants" (52 : Nat) "SchoolBoard$Grants" "codeYear" "I") ∈ jT := jm1 (List.mem_of_getElem? (i := 176) rfl)
set_option maxRecDepth 100000 in
theorem jw417 : (Jvm.Cond.fieldLink "SchoolBoard$Grants" (55 : Nat) "SchoolBoard$Grants" "known" "I") ∈ jT := jm1 (List.mem_of_getElem? (i := 177) rfl)
set_option maxRecDepth 100000 in
theorem jw418 : (Jvm.Cond.fieldLink "SchoolBoard$Grants" (58 : Nat) "SchoolBoard$Grants" "changes" "I") ∈ jT := jm1 (List.mem_of_getElem? (i := 178) rfl)
set_option maxRecDepth 100000 in
theorem jw419 : (Jvm.Cond.laysFinal "SchoolBoard$Grants" "SchoolBoard$Grants" "people" "LSchoolBoard$People;") ∈ jT := jm1 (List.mem_of_getElem? (i := 179) rfl)
set_option maxRecDepth 100000 in
theorem jw421 : (Jvm.Cond.laysFinal "SchoolBoard$Grants" "SchoolBoard$Grants" "code" "LSchoolBoard$Code;") ∈ jT := jm1 (List.mem_of_getElem? (i := 181) rfl)
set_option maxRecDepth 100000 in
theorem jw423 : (Jvm.Cond.laysFinal "SchoolBoard$Grants" "SchoolBoard$Grants" "register" "LSchoolBoard$Register;") ∈ jT := jm1 (List.mem_of_getElem? (i := 183) rfl)
set_option maxRecDepth 100000 in
theorem jw425 : (Jvm.Cond.laysFinal "SchoolBoard$Grants" "SchoolBoard$Grants" "lineChild" "[I") ∈ jT := jm1 (List.mem_of_getElem? (i := 185) rfl)
set_option maxRecDepth 100000 in
theorem jw427 : (Jvm.Cond.laysFinal "SchoolBoard$Grants" "SchoolBoard$Grants" "lineClause" "[I") ∈ jT := jm1 (List.mem_of_getElem? (i := 187) rfl)
set_option maxRecDepth 100000 in
theorem jw429 : (Jvm.Cond.laysFinal "SchoolBoard$Grants" "SchoolBoard$Grants" "linePence" "[I") ∈ jT := jm1 (List.mem_of_getElem? (i := 189) rfl)
set_option maxRecDepth 100000 in
theorem jw431 : (Jvm.Cond.laysFinal "SchoolBoard$Grants" "SchoolBoard$Grants" "quarterSums" "[I") ∈ jT := jm1 (List.mem_of_getElem? (i := 191) rfl)
set_option maxRecDepth 100000 in
theorem jw433 : (Jvm.Cond.laysFinal "SchoolBoard$Grants" "SchoolBoard$Grants" "standards" "[I") ∈ jT := jm1 (List.mem_of_getElem? (i := 193) rfl)
set_option maxRecDepth 100000 in
theorem jw435 : (Jvm.Cond.laysFinal "SchoolBoard$Grants" "SchoolBoard$Grants" "isThere" "[Z") ∈ jT := jm1 (List.mem_of_getElem? (i := 195) rfl)
set_option maxRecDepth 100000 in
theorem jw437 : (Jvm.Cond.lays "SchoolBoard$Grants" "SchoolBoard$Grants" "lines" "I") ∈ jT := jm1 (List.mem_of_getElem? (i := 197) rfl)
set_option maxRecDepth 100000 in
theorem jw439 : (Jvm.Cond.lays "SchoolBoard$Grants" "SchoolBoard$Grants" "average" "I") ∈ jT := jm1 (List.mem_of_getElem? (i := 199) rfl)
set_option maxRecDepth 100000 in
theorem jw441 : (Jvm.Cond.lays "SchoolBoard$Grants" "SchoolBoard$Grants" "daysOpen" "I") ∈ jT := jm1 (List.mem_of_getElem? (i := 201) rfl)
set_option maxRecDepth 100000 in
theorem jw443 : (Jvm.Cond.lays "SchoolBoard$Grants" "SchoolBoard$Grants" "children" "I") ∈ jT := jm1 (List.mem_of_getElem? (i := 203) rfl)
set_option maxRecDepth 100000 in
theorem jw445 : (Jvm.Cond.lays "SchoolBoard$Grants" "SchoolBoard$Grants" "covered" "I") ∈ jT := jm1 (List.mem_of_getElem? (i := 205) rfl)
set_option maxRecDepth 100000 in
theorem jw447 : (Jvm.Cond.lays "SchoolBoard$Grants" "SchoolBoard$Grants" "sum" "I") ∈ jT := jm1 (List.mem_of_getElem? (i := 207) rfl)
set_option maxRecDepth 100000 in
theorem jw449 : (Jvm.Cond.lays "SchoolBoard$Grants" "SchoolBoard$Grants" "school" "I") ∈ jT := jm1 (List.mem_of_getElem? (i := 209) rfl)
set_option maxRecDepth 100000 in
theorem jw451 : (Jvm.Cond.lays "SchoolBoard$Grants" "SchoolBoard$Grants" "year" "I") ∈ jT := jm1 (List.mem_of_getElem? (i := 211) rfl)
set_option maxRecDepth 100000 in
theorem jw453 : (Jvm.Cond.lays "SchoolBoard$Grants" "SchoolBoard$Grants" "codeYear" "I") ∈ jT := jm1 (List.mem_of_getElem? (i := 213) rfl)
set_option maxRecDepth 100000 in
theorem jw455 : (Jvm.Cond.lays "SchoolBoard$Grants" "SchoolBoard$Grants" "known" "I") ∈ jT := jm1 (List.mem_of_getElem? (i := 215) rfl)
set_option maxRecDepth 100000 in
theorem jw457 : (Jvm.Cond.lays "SchoolBoard$Grants" "SchoolBoard$Grants" "changes" "I") ∈ jT := jm1 (List.mem_of_getElem? (i := 217) rfl)
set_option maxRecDepth 100000 in
theorem jw460 : (Jvm.Cond.arrayClass Jvm.ClassFile.FieldType.boolean) ∈ jT := jm1 (List.mem_of_getElem? (i := 220) rfl)
set_option maxRecDepth 100000 in
theorem jw461 : (Jvm.Cond.classLink "SchoolBoard" (55 : Nat) "SchoolBoard$Entering") ∈ jT := jm1 (List.mem_of_getElem? (i := 221) rfl)
set_option maxRecDepth 100000 in
theorem jw462 : (Jvm.Cond.instantiable "SchoolBoard$Entering" (16 : Nat)) ∈ jT := jm1 (List.mem_of_getElem? (i := 222) rfl)
set_option maxRecDepth 100000 in
theorem jw463 : (Jvm.Cond.methodLink "SchoolBoard" (57 : Nat) ({ cls := "SchoolBoard$Entering", name := "<init>", desc := "(LSchoolBoard$People;LSchoolBoard$Code;LSchoolBoard$Register;)V" } : Jvm.MethodName)) ∈ jT := jm1 (List.mem_of_getElem? (i := 223) rfl)
set_option maxRecDepth 100000 in
theorem jw464 : (Jvm.Cond.instanceMethod ({ cls := "SchoolBoard$Entering", name := "<init>", desc := "(LSchoolBoard$People;LSchoolBoard$Code;LSchoolBoard$Register;)V" } : Jvm.MethodName)) ∈ jT := jm1 (List.mem_of_getElem? (i := 224) rfl)
set_option maxRecDepth 100000 in
theorem jw465 : (Jvm.Cond.code ({ cls := "SchoolBoard$Entering", name := "<init>", desc := "(LSchoolBoard$People;LSchoolBoard$Code;LSchoolBoard$Register;)V" } : Jvm.MethodName) prog_5_method_1_code (4 : Nat) (Option.none : Option Jvm.ClassFile.FieldType)) ∈ jT := jm1 (List.mem_of_getElem? (i := 225) rfl)
set_option maxRecDepth 100000 in
theorem jw466 : (Jvm.Cond.methodLink "SchoolBoard$Entering" (5 : Nat) ({ cls := "java/lang/Object", name := "<init>", desc := "()V" } : Jvm.MethodName)) ∈ jT := jm1 (List.mem_of_getElem? (i := 226) rfl)
set_option maxRecDepth 100000 in
theorem jw467 : (Jvm.Cond.fieldLink "SchoolBoard$Entering" (37 : Nat) "SchoolBoard$Entering" "people" "LSchoolBoard$People;") ∈ jT := jm1 (List.mem_of_getElem? (i := 227) rfl)
set_option maxRecDepth 100000 in
theorem jw468 : (Jvm.Cond.fieldLink "SchoolBoard$Entering" (41 : Nat) "SchoolBoard$Entering" "code" "LSchoolBoard$Code;") ∈ jT := jm1 (List.mem_of_getElem? (i := 228) rfl)
set_option maxRecDepth 100000 in
theorem jw469 : (Jvm.Cond.fieldLink "SchoolBoard$Entering" (45 : Nat) "SchoolBoard$Entering" "register" "LSchoolBoard$Register;") ∈ jT := jm1 (List.mem_of_getElem? (i := 229) rfl)
set_option maxRecDepth 100000 in
theorem jw470 : (Jvm.Cond.fieldLink "SchoolBoard$Entering" (11 : Nat) "SchoolBoard$Entering" "members" "[I") ∈ jT := jm1 (List.mem_of_getElem? (i := 230) rfl)
set_option maxRecDepth 100000 in
theorem jw471 : (Jvm.Cond.fieldLink "SchoolBoard$Entering" (15 : Nat) "SchoolBoard$Entering" "passable" "[I") ∈ jT := jm1 (List.mem_of_getElem? (i := 231) rfl)
set_option maxRecDepth 100000 in
theorem jw472 : (Jvm.Cond.fieldLink "SchoolBoard$Entering" (18 : Nat) "SchoolBoard$Entering" "pence" "[I") ∈ jT := jm1 (List.mem_of_getElem? (i := 232) rfl)
set_option maxRecDepth 100000 in
theorem jw473 : (Jvm.Cond.fieldLink "SchoolBoard$Entering" (21 : Nat) "SchoolBoard$Entering" "hoursOf" "[I") ∈ jT := jm1 (List.mem_of_getElem? (i := 233) rfl)
set_option maxRecDepth 100000 in
theorem jw474 : (Jvm.Cond.fieldLink "SchoolBoard$Entering" (24 : Nat) "SchoolBoard$Entering" "best" "[I") ∈ jT := jm1 (List.mem_of_getElem? (i := 234) rfl)
set_option maxRecDepth 100000 in
theorem jw475 : (Jvm.Cond.fieldLink "SchoolBoard$Entering" (27 : Nat) "SchoolBoard$Entering" "sets" "[I") ∈ jT := jm1 (List.mem_of_getElem? (i := 235) rfl)
set_option maxRecDepth 100000 in
theorem jw476 : (Jvm.Cond.fieldLink "SchoolBoard$Entering" (30 : Nat) "SchoolBoard$Entering" "gains" "[I") ∈ jT := jm1 (List.mem_of_getElem? (i := 236) rfl)
set_option maxRecDepth 100000 in
theorem jw477 : (Jvm.Cond.fieldLink "SchoolBoard$Entering" (59 : Nat) "SchoolBoard$Entering" "size" "I") ∈ jT := jm1 (List.mem_of_getElem? (i := 237) rfl)
set_option maxRecDepth 100000 in
theorem jw478 : (Jvm.Cond.fieldLink "SchoolBoard$Entering" (170 : Nat) "SchoolBoard$Entering" "hoursTaken" "I") ∈ jT := jm1 (List.mem_of_getElem? (i := 238) rfl)
set_option maxRecDepth 100000 in
theorem jw479 : (Jvm.Cond.fieldLink "SchoolBoard$Entering" (164 : Nat) "SchoolBoard$Entering" "untaught" "I") ∈ jT := jm1 (List.mem_of_getElem? (i := 239) rfl)
set_option maxRecDepth 100000 in
theorem jw480 : (Jvm.Cond.fieldLink "SchoolBoard$Entering" (33 : Nat) "SchoolBoard$Entering" "school" "I") ∈ jT := jm2 (List.mem_of_getElem? (i := 0) rfl)
set_option maxRecDepth 100000 in
theorem jw481 : (Jvm.Cond.fieldLink "SchoolBoard$Entering" (49 : Nat) "SchoolBoard$Entering" "hours" "I") ∈ jT := jm2 (List.mem_of_getElem? (i := 1) rfl)
set_option maxRecDepth 100000 in
theorem jw482 : (Jvm.Cond.fieldLink "SchoolBoard$Entering" (52 : Nat) "SchoolBoard$Entering" "changes" "I") ∈ jT := jm2 (List.mem_of_getElem? (i := 2) rfl)
set_option maxRecDepth 100000 in
theorem jw483 : (Jvm.Cond.laysFinal "SchoolBoard$Entering" "SchoolBoard$Entering" "people" "LSchoolBoard$People;") ∈ jT := jm2 (List.mem_of_getElem? (i := 3) rfl)
set_option maxRecDepth 100000 in
theorem jw485 : (Jvm.Cond.laysFinal "SchoolBoard$Entering" "SchoolBoard$Entering" "code" "LSchoolBoard$Code;") ∈ jT := jm2 (List.mem_of_getElem? (i := 5) rfl)
set_option maxRecDepth 100000 in
theorem jw487 : (Jvm.Cond.laysFinal "SchoolBoard$Entering" "SchoolBoard$Entering" "register" "LSchoolBoard$Register;") ∈ jT := jm2 (List.mem_of_getElem? (i := 7) rfl)
set_option maxRecDepth 100000 in
theorem jw489 : (Jvm.Cond.laysFinal "SchoolBoard$Entering" "SchoolBoard$Entering" "members" "[I") ∈ jT := jm2 (List.mem_of_getElem? (i := 9) rfl)
set_option maxRecDepth 100000 in
theorem jw491 : (Jvm.Cond.laysFinal "SchoolBoard$Entering" "SchoolBoard$Entering" "passable" "[I") ∈ jT := jm2 (List.mem_of_getElem? (i := 11) rfl)
set_option maxRecDepth 100000 in
theorem jw493 : (Jvm.Cond.laysFinal "SchoolBoard$Entering" "SchoolBoard$Entering" "pence" "[I") ∈ jT := jm2 (List.mem_of_getElem? (i := 13) rfl)
set_option maxRecDepth 100000 in
theorem jw495 : (Jvm.Cond.laysFinal "SchoolBoard$Entering" "SchoolBoard$Entering" "hoursOf" "[I") ∈ jT := jm2 (List.mem_of_getElem? (i := 15) rfl)
set_option maxRecDepth 100000 in
theorem jw497 : (Jvm.Cond.laysFinal "SchoolBoard$Entering" "SchoolBoard$Entering" "best" "[I") ∈ jT := jm2 (List.mem_of_getElem? (i := 17) rfl)
set_option maxRecDepth 100000 in
theorem jw499 : (Jvm.Cond.laysFinal "SchoolBoard$Entering" "SchoolBoard$Entering" "sets" "[I") ∈ jT := jm2 (List.mem_of_getElem? (i := 19) rfl)
set_option maxRecDepth 100000 in
theorem jw501 : (Jvm.Cond.laysFinal "SchoolBoard$Entering" "SchoolBoard$Entering" "gains" "[I") ∈ jT := jm2 (List.mem_of_getElem? (i := 21) rfl)
set_option maxRecDepth 100000 in
theorem jw503 : (Jvm.Cond.lays "SchoolBoard$Entering" "SchoolBoard$Entering" "size" "I") ∈ jT := jm2 (List.mem_of_getElem? (i := 23) rfl)
set_option maxRecDepth 100000 in
theorem jw505 : (Jvm.Cond.lays "SchoolBoard$Entering" "SchoolBoard$Entering" "hoursTaken" "I") ∈ jT := jm2 (List.mem_of_getElem? (i := 25) rfl)
set_option maxRecDepth 100000 in
theorem jw507 : (Jvm.Cond.lays "SchoolBoard$Entering" "SchoolBoard$Entering" "untaught" "I") ∈ jT := jm2 (List.mem_of_getElem? (i := 27) rfl)
set_option maxRecDepth 100000 in
theorem jw509 : (Jvm.Cond.lays "SchoolBoard$Entering" "SchoolBoard$Entering" "school" "I") ∈ jT := jm2 (List.mem_of_getElem? (i := 29) rfl)
set_option maxRecDepth 100000 in
theorem jw511 : (Jvm.Cond.lays "SchoolBoard$Entering" "SchoolBoard$Entering" "hours" "I") ∈ jT := jm2 (List.mem_of_getElem? (i := 31) rfl)
set_option maxRecDepth 100000 in
theorem jw513 : (Jvm.Cond.lays "SchoolBoard$Entering" "SchoolBoard$Entering" "changes" "I") ∈ jT := jm2 (List.mem_of_getElem? (i := 33) rfl)
set_option maxRecDepth 100000 in
theorem jw516 : (Jvm.Cond.classLink "SchoolBoard" (62 : Nat) "SchoolBoard$Poll") ∈ jT := jm2 (List.mem_of_getElem? (i := 36) rfl)
set_option maxRecDepth 100000 in
theorem jw517 : (Jvm.Cond.instantiable "SchoolBoard$Poll" (8 : Nat)) ∈ jT := jm2 (List.mem_of_getElem? (i := 37) rfl)
set_option maxRecDepth 100000 in
theorem jw518 : (Jvm.Cond.methodLinkNest "SchoolBoard" (64 : Nat) ({ cls := "SchoolBoard$Poll", name := "<init>", desc := "()V" } : Jvm.MethodName) "SchoolBoard") ∈ jT := jm2 (List.mem_of_getElem? (i := 38) rfl)
set_option maxRecDepth 100000 in
theorem jw519 : (Jvm.Cond.instanceMethod ({ cls := "SchoolBoard$Poll", name := "<init>", desc := "()V" } : Jvm.MethodName)) ∈ jT := jm2 (List.mem_of_getElem? (i := 39) rfl)
set_option maxRecDepth 100000 in
theorem jw520 : (Jvm.Cond.code ({ cls := "SchoolBoard$Poll", name := "<init>", desc := "()V" } : Jvm.MethodName) prog_9_method_1_code (1 : Nat) (Option.none : Option Jvm.ClassFile.FieldType)) ∈ jT := jm2 (List.mem_of_getElem? (i := 40) rfl)
set_option maxRecDepth 100000 in
theorem jw521 : (Jvm.Cond.methodLink "SchoolBoard$Poll" (3 : Nat) ({ cls := "java/lang/Object", name := "<init>", desc := "()V" } : Jvm.MethodName)) ∈ jT := jm2 (List.mem_of_getElem? (i := 41) rfl)
set_option maxRecDepth 100000 in
theorem jw522 : (Jvm.Cond.fieldLink "SchoolBoard$Poll" (27 : Nat) "SchoolBoard$Poll" "seats" "I") ∈ jT := jm2 (List.mem_of_getElem? (i := 42) rfl)
set_option maxRecDepth 100000 in
theorem jw523 : (Jvm.Cond.fieldLink "SchoolBoard" (292 : Nat) "SchoolBoard$Poll" "seats" "I") ∈ jT := jm2 (List.mem_of_getElem? (i := 43) rfl)
set_option maxRecDepth 100000 in
theorem jw524 : (Jvm.Cond.fieldLink "SchoolBoard$Poll" (31 : Nat) "SchoolBoard$Poll" "candidates" "I") ∈ jT := jm2 (List.mem_of_getElem? (i := 44) rfl)
set_option maxRecDepth 100000 in
theorem jw525 : (Jvm.Cond.fieldLink "SchoolBoard" (295 : Nat) "SchoolBoard$Poll" "candidates" "I") ∈ jT := jm2 (List.mem_of_getElem? (i := 45) rfl)
set_option maxRecDepth 100000 in
theorem jw526 : (Jvm.Cond.fieldLink "SchoolBoard$Poll" (34 : Nat) "SchoolBoard$Poll" "ballots" "I") ∈ jT := jm2 (List.mem_of_getElem? (i := 46) rfl)
set_option maxRecDepth 100000 in
theorem jw527 : (Jvm.Cond.fieldLink "SchoolBoard" (301 : Nat) "SchoolBoard$Poll" "ballots" "I") ∈ jT := jm2 (List.mem_of_getElem? (i := 47) rfl)
set_option maxRecDepth 100000 in
theorem jw528 : (Jvm.Cond.fieldLink "SchoolBoard$Poll" (11 : Nat) "SchoolBoard$Poll" "parties" "[I") ∈ jT := jm2 (List.mem_of_getElem? (i := 48) rfl)
set_option maxRecDepth 100000 in
theorem jw529 : (Jvm.Cond.fieldLink "SchoolBoard$Poll" (15 : Nat) "SchoolBoard$Poll" "sums" "[I") ∈ jT := jm2 (List.mem_of_getElem? (i := 49) rfl)
set_option maxRecDepth 100000 in
theorem jw530 : (Jvm.Cond.fieldLink "SchoolBoard$Poll" (18 : Nat) "SchoolBoard$Poll" "tried" "[I") ∈ jT := jm2 (List.mem_of_getElem? (i := 50) rfl)
set_option maxRecDepth 100000 in
theorem jw531 : (Jvm.Cond.fieldLink "SchoolBoard$Poll" (21 : Nat) "SchoolBoard$Poll" "heaps" "[I") ∈ jT := jm2 (List.mem_of_getElem? (i := 51) rfl)
set_option maxRecDepth 100000 in
theorem jw532 : (Jvm.Cond.fieldLink "SchoolBoard$Poll" (24 : Nat) "SchoolBoard$Poll" "given" "[I") ∈ jT := jm2 (List.mem_of_getElem? (i := 52) rfl)
set_option maxRecDepth 100000 in
theorem jw533 : (Jvm.Cond.lays "SchoolBoard$Poll" "SchoolBoard$Poll" "seats" "I") ∈ jT := jm2 (List.mem_of_getElem? (i := 53) rfl)
set_option maxRecDepth 100000 in
theorem jw535 : (Jvm.Cond.lays "SchoolBoard$Poll" "SchoolBoard$Poll" "candidates" "I") ∈ jT := jm2 (List.mem_of_getElem? (i := 55) rfl)
set_option maxRecDepth 100000 in
theorem jw537 : (Jvm.Cond.lays "SchoolBoard$Poll" "SchoolBoard$Poll" "ballots" "I") ∈ jT := jm2 (List.mem_of_getElem? (i := 57) rfl)
set_option maxRecDepth 100000 in
theorem jw539 : (Jvm.Cond.laysFinal "SchoolBoard$Poll" "SchoolBoard$Poll" "parties" "[I") ∈ jT := jm2 (List.mem_of_getElem? (i := 59) rfl)
set_option maxRecDepth 100000 in
theorem jw541 : (Jvm.Cond.laysFinal "SchoolBoard$Poll" "SchoolBoard$Poll" "sums" "[I") ∈ jT := jm2 (List.mem_of_getElem? (i := 61) rfl)
set_option maxRecDepth 100000 in
theorem jw543 : (Jvm.Cond.laysFinal "SchoolBoard$Poll" "SchoolBoard$Poll" "tried" "[I") ∈ jT := jm2 (List.mem_of_getElem? (i := 63) rfl)
set_option maxRecDepth 100000 in
theorem jw545 : (Jvm.Cond.laysFinal "SchoolBoard$Poll" "SchoolBoard$Poll" "heaps" "[I") ∈ jT := jm2 (List.mem_of_getElem? (i := 65) rfl)
set_option maxRecDepth 100000 in
theorem jw547 : (Jvm.Cond.laysFinal "SchoolBoard$Poll" "SchoolBoard$Poll" "given" "[I") ∈ jT := jm2 (List.mem_of_getElem? (i := 67) rfl)
set_option maxRecDepth 100000 in
theorem jw550 : (Jvm.Cond.fieldLink "SchoolBoard" (10 : Nat) "SchoolBoard" "town" "LSchoolBoard$Town;") ∈ jT := jm2 (List.mem_of_getElem? (i := 70) rfl)
set_option maxRecDepth 100000 in
theorem jw551 : (Jvm.Cond.fieldLink "SchoolBoard" (19 : Nat) "SchoolBoard" "people" "LSchoolBoard$People;") ∈ jT := jm2 (List.mem_of_getElem? (i := 71) rfl)
set_option maxRecDepth 100000 in
theorem jw552 : (Jvm.Cond.fieldLink "SchoolBoard" (26 : Nat) "SchoolBoard" "told" "LSchoolBoard$Book;") ∈ jT := jm2 (List.mem_of_getElem? (i := 72) rfl)
set_option maxRecDepth 100000 in
theorem jw553 : (Jvm.Cond.fieldLink "SchoolBoard" (33 : Nat) "SchoolBoard" "code" "LSchoolBoard$Code;") ∈ jT := jm2 (List.mem_of_getElem? (i := 73) rfl)
set_option maxRecDepth 100000 in
theorem jw554 : (Jvm.Cond.fieldLink "SchoolBoard" (42 : Nat) "SchoolBoard" "register" "LSchoolBoard$Register;") ∈ jT := jm2 (List.mem_of_getElem? (i := 74) rfl)
set_option maxRecDepth 100000 in
theorem jw555 : (Jvm.Cond.fieldLink "SchoolBoard" (51 : Nat) "SchoolBoard" "grants" "LSchoolBoard$Grants;") ∈ jT := jm2 (List.mem_of_getElem? (i := 75) rfl)
set_option maxRecDepth 100000 in
theorem jw556 : (Jvm.Cond.fieldLink "SchoolBoard" (58 : Nat) "SchoolBoard" "entered" "LSchoolBoard$Entering;") ∈ jT := jm2 (List.mem_of_getElem? (i := 76) rfl)
set_option maxRecDepth 100000 in
theorem jw557 : (Jvm.Cond.fieldLink "SchoolBoard" (65 : Nat) "SchoolBoard" "votes" "LSchoolBoard$Poll;") ∈ jT := jm2 (List.mem_of_getElem? (i := 77) rfl)
set_option maxRecDepth 100000 in
theorem jw558 : (Jvm.Cond.fieldLink "SchoolBoard" (69 : Nat) "SchoolBoard" "today" "I") ∈ jT := jm2 (List.mem_of_getElem? (i := 78) rfl)
set_option maxRecDepth 100000 in
theorem jw559 : (Jvm.Cond.fieldLink "SchoolBoard" (73 : Nat) "SchoolBoard" "changes" "I") ∈ jT := jm2 (List.mem_of_getElem? (i := 79) rfl)
set_option maxRecDepth 100000 in
theorem jw560 : (Jvm.Cond.laysFinal "SchoolBoard" "SchoolBoard" "town" "LSchoolBoard$Town;") ∈ jT := jm2 (List.mem_of_getElem? (i := 80) rfl)
set_option maxRecDepth 100000 in
theorem jw562 : (Jvm.Cond.laysFinal "SchoolBoard" "SchoolBoard" "people" "LSchoolBoard$People;") ∈ jT := jm2 (List.mem_of_getElem? (i := 82) rfl)
set_option maxRecDepth 100000 in
theorem jw564 : (Jvm.Cond.laysFinal "SchoolBoard" "SchoolBoard" "told" "LSchoolBoard$Book;") ∈ jT := jm2 (List.mem_of_getElem? (i := 84) rfl)
set_option maxRecDepth 100000 in
theorem jw566 : (Jvm.Cond.laysFinal "SchoolBoard" "SchoolBoard" "code" "LSchoolBoard$Code;") ∈ jT := jm2 (List.mem_of_getElem? (i := 86) rfl)
set_option maxRecDepth 100000 in
theorem jw568 : (Jvm.Cond.laysFinal "SchoolBoard" "SchoolBoard" "register" "LSchoolBoard$Register;") ∈ jT := jm2 (List.mem_of_getElem? (i := 88) rfl)
set_option maxRecDepth 100000 in
theorem jw570 : (Jvm.Cond.laysFinal "SchoolBoard" "SchoolBoard" "grants" "LSchoolBoard$Grants;") ∈ jT := jm2 (List.mem_of_getElem? (i := 90) rfl)
set_option maxRecDepth 100000 in
theorem jw572 : (Jvm.Cond.laysFinal "SchoolBoard" "SchoolBoard" "entered" "LSchoolBoard$Entering;") ∈ jT := jm2 (List.mem_of_getElem? (i := 92) rfl)
set_option maxRecDepth 100000 in
theorem jw574 : (Jvm.Cond.laysFinal "SchoolBoard" "SchoolBoard" "votes" "LSchoolBoard$Poll;") ∈ jT := jm2 (List.mem_of_getElem? (i := 94) rfl)
set_option maxRecDepth 100000 in
theorem jw576 : (Jvm.Cond.lays "SchoolBoard" "SchoolBoard" "today" "I") ∈ jT := jm2 (List.mem_of_getElem? (i := 96) rfl)
set_option maxRecDepth 100000 in
theorem jw578 : (Jvm.Cond.lays "SchoolBoard" "SchoolBoard" "changes" "I") ∈ jT := jm2 (List.mem_of_getElem? (i := 98) rfl)
set_option maxRecDepth 100000 in
theorem jw581 : (Jvm.Cond.methodLink "SchoolBoardLaw" (13 : Nat) ({ cls := "SchoolBoard", name := "day", desc := "(I)Z" } : Jvm.MethodName)) ∈ jT := jm2 (List.mem_of_getElem? (i := 101) rfl)
set_option maxRecDepth 100000 in
theorem jw582 : (Jvm.Cond.instanceMethod ({ cls := "SchoolBoard", name := "day", desc := "(I)Z" } : Jvm.MethodName)) ∈ jT := jm2 (List.mem_of_getElem? (i := 102) rfl)
set_option maxRecDepth 100000 in
theorem jw583 : (Jvm.Cond.selects "SchoolBoard" ({ cls := "SchoolBoard", name := "day", desc := "(I)Z" } : Jvm.MethodName) ({ cls := "SchoolBoard", name := "day", desc := "(I)Z" } : Jvm.MethodName)) ∈ jT := jm2 (List.mem_of_getElem? (i := 103) rfl)
set_option maxRecDepth 100000 in
theorem jw584 : (Jvm.Cond.code ({ cls := "SchoolBoard", name := "day", desc := "(I)Z" } : Jvm.MethodName) prog_1_method_2_code (2 : Nat) (Option.some Jvm.ClassFile.FieldType.boolean)) ∈ jT := jm2 (List.mem_of_getElem? (i := 104) rfl)
set_option maxRecDepth 100000 in
theorem jw585 : (Jvm.Cond.methodLink "SchoolBoardLaw" (18 : Nat) ({ cls := "SchoolBoard", name := "child", desc := "(III)I" } : Jvm.MethodName)) ∈ jT := jm2 (List.mem_of_getElem? (i := 105) rfl)
set_option maxRecDepth 100000 in
theorem jw586 : (Jvm.Cond.instanceMethod ({ cls := "SchoolBoard", name := "child", desc := "(III)I" } : Jvm.MethodName)) ∈ jT := jm2 (List.mem_of_getElem? (i := 106) rfl)
set_option maxRecDepth 100000 in
theorem jw587 : (Jvm.Cond.selects "SchoolBoard" ({ cls := "SchoolBoard", name := "child", desc := "(III)I" } : Jvm.MethodName) ({ cls := "SchoolBoard", name := "child", desc := "(III)I" } : Jvm.MethodName)) ∈ jT := jm2 (List.mem_of_getElem? (i := 107) rfl)
set_option maxRecDepth 100000 in
theorem jw588 : (Jvm.Cond.code ({ cls := "SchoolBoard", name := "child", desc := "(III)I" } : Jvm.MethodName) prog_1_method_3_code (5 : Nat) (Option.some Jvm.ClassFile.FieldType.int)) ∈ jT := jm2 (List.mem_of_getElem? (i := 108) rfl)
set_option maxRecDepth 100000 in
theorem jw589 : (Jvm.Cond.methodLink "SchoolBoard" (76 : Nat) ({ cls := "SchoolBoard", name := "within", desc := "(III)Z" } : Jvm.MethodName)) ∈ jT := jm2 (List.mem_of_getElem? (i := 109) rfl)
set_option maxRecDepth 100000 in
theorem jw590 : (Jvm.Cond.static ({ cls := "SchoolBoard", name := "within", desc := "(III)Z" } : Jvm.MethodName)) ∈ jT := jm2 (List.mem_of_getElem? (i := 110) rfl)
set_option maxRecDepth 100000 in
theorem jw591 : (Jvm.Cond.code ({ cls := "SchoolBoard", name := "within", desc := "(III)Z" } : Jvm.MethodName) prog_1_method_47_code (3 : Nat) (Option.some Jvm.ClassFile.FieldType.boolean)) ∈ jT := jm2 (List.mem_of_getElem? (i := 111) rfl)
set_option maxRecDepth 100000 in
theorem jw592 : (Jvm.Cond.methodLink "SchoolBoard" (83 : Nat) ({ cls := "SchoolBoard$People", name := "addChild", desc := "(IIII)I" } : Jvm.MethodName)) ∈ jT := jm2 (List.mem_of_getElem? (i := 112) rfl)
set_option maxRecDepth 100000 in
theorem jw593 : (Jvm.Cond.instanceMethod ({ cls := "SchoolBoard$People", name := "addChild", desc := "(IIII)I" } : Jvm.MethodName)) ∈ jT := jm2 (List.mem_of_getElem? (i := 113) rfl)
set_option maxRecDepth 100000 in
theorem jw594 : (Jvm.Cond.selects "SchoolBoard$People" ({ cls := "SchoolBoard$People", name := "addChild", desc := "(IIII)I" } : Jvm.MethodName) ({ cls := "SchoolBoard$People", name := "addChild", desc := "(IIII)I" } : Jvm.MethodName)) ∈ jT := jm2 (List.mem_of_getElem? (i := 114) rfl)
set_option maxRecDepth 100000 in
theorem jw595 : (Jvm.Cond.code ({ cls := "SchoolBoard$People", name := "addChild", desc := "(IIII)I" } : Jvm.MethodName) prog_8_method_2_code (5 : Nat) (Option.some Jvm.ClassFile.FieldType.int)) ∈ jT := jm2 (List.mem_of_getElem? (i := 115) rfl)
set_option maxRecDepth 100000 in
theorem jw596 : (Jvm.Cond.methodLink "SchoolBoardLaw" (23 : Nat) ({ cls := "SchoolBoard", name := "school", desc := "(III)I" } : Jvm.MethodName)) ∈ jT := jm2 (List.mem_of_getElem? (i := 116) rfl)
set_option maxRecDepth 100000 in
theorem jw597 : (Jvm.Cond.instanceMethod ({ cls := "SchoolBoard", name := "school", desc := "(III)I" } : Jvm.MethodName)) ∈ jT := jm2 (List.mem_of_getElem? (i := 117) rfl)
set_option maxRecDepth 100000 in
theorem jw598 : (Jvm.Cond.selects "SchoolBoard" ({ cls := "SchoolBoard", name := "school", desc := "(III)I" } : Jvm.MethodName) ({ cls := "SchoolBoard", name := "school", desc := "(III)I" } : Jvm.MethodName)) ∈ jT := jm2 (List.mem_of_getElem? (i := 118) rfl)
set_option maxRecDepth 100000 in
theorem jw599 : (Jvm.Cond.code ({ cls := "SchoolBoard", name := "school", desc := "(III)I" } : Jvm.MethodName) prog_1_method_4_code (5 : Nat) (Option.some Jvm.ClassFile.FieldType.int)) ∈ jT := jm2 (List.mem_of_getElem? (i := 119) rfl)
set_option maxRecDepth 100000 in
theorem jw600 : (Jvm.Cond.methodLink "SchoolBoard" (87 : Nat) ({ cls := "SchoolBoard$Town", name := "isPlace", desc := "(II)Z" } : Jvm.MethodName)) ∈ jT := jm2 (List.mem_of_getElem? (i := 120) rfl)
set_option maxRecDepth 100000 in
theorem jw601 : (Jvm.Cond.instanceMethod ({ cls := "SchoolBoard$Town", name := "isPlace", desc := "(II)Z" } : Jvm.MethodName)) ∈ jT := jm2 (List.mem_of_getElem? (i := 121) rfl)
set_option maxRecDepth 100000 in
theorem jw602 : (Jvm.Cond.selects "SchoolBoard$Town" ({ cls := "SchoolBoard$Town", name := "isPlace", desc := "(II)Z" } : Jvm.MethodName) ({ cls := "SchoolBoard$Town", name := "isPlace", desc := "(II)Z" } : Jvm.MethodName)) ∈ jT := jm2 (List.mem_of_getElem? (i := 122) rfl)
set_option maxRecDepth 100000 in
theorem jw603 : (Jvm.Cond.code ({ cls := "SchoolBoard$Town", name := "isPlace", desc := "(II)Z" } : Jvm.MethodName) prog_12_method_2_code (3 : Nat) (Option.some Jvm.ClassFile.FieldType.boolean)) ∈ jT := jm2 (List.mem_of_getElem? (i := 123) rfl)
set_option maxRecDepth 100000 in
theorem jw604 : (Jvm.Cond.methodLinkNest "SchoolBoard$Town" (45 : Nat) ({ cls := "SchoolBoard", name := "within", desc := "(III)Z" } : Jvm.MethodName) "SchoolBoard") ∈ jT := jm2 (List.mem_of_getElem? (i := 124) rfl)
set_option maxRecDepth 100000 in
theorem jw605 : (Jvm.Cond.methodLink "SchoolBoard" (94 : Nat) ({ cls := "SchoolBoard$Town", name := "addSchool", desc := "(III)I" } : Jvm.MethodName)) ∈ jT := jm2 (List.mem_of_getElem? (i := 125) rfl)
set_option maxRecDepth 100000 in
theorem jw606 : (Jvm.Cond.instanceMethod ({ cls := "SchoolBoard$Town", name := "addSchool", desc := "(III)I" } : Jvm.MethodName)) ∈ jT := jm2 (List.mem_of_getElem? (i := 126) rfl)
set_option maxRecDepth 100000 in
theorem jw607 : (Jvm.Cond.selects "SchoolBoard$Town" ({ cls := "SchoolBoard$Town", name := "addSchool", desc := "(III)I" } : Jvm.MethodName) ({ cls := "SchoolBoard$Town", name := "addSchool", desc := "(III)I" } : Jvm.MethodName)) ∈ jT := jm2 (List.mem_of_getElem? (i := 127) rfl)
set_option maxRecDepth 100000 in
theorem jw608 : (Jvm.Cond.code ({ cls := "SchoolBoard$Town", name := "addSchool", desc := "(III)I" } : Jvm.MethodName) prog_12_method_3_code (4 : Nat) (Option.some Jvm.ClassFile.FieldType.int)) ∈ jT := jm2 (List.mem_of_getElem? (i := 128) rfl)
set_option maxRecDepth 100000 in
theorem jw609 : (Jvm.Cond.methodLink "SchoolBoardLaw" (27 : Nat) ({ cls := "SchoolBoard", name := "street", desc := "(III)Z" } : Jvm.MethodName)) ∈ jT := jm2 (List.mem_of_getElem? (i := 129) rfl)
set_option maxRecDepth 100000 in
theorem jw610 : (Jvm.Cond.instanceMethod ({ cls := "SchoolBoard", name := "street", desc := "(III)Z" } : Jvm.MethodName)) ∈ jT := jm2 (List.mem_of_getElem? (i := 130) rfl)
set_option maxRecDepth 100000 in
theorem jw611 : (Jvm.Cond.selects "SchoolBoard" ({ cls := "SchoolBoard", name := "street", desc := "(III)Z" } : Jvm.MethodName) ({ cls := "SchoolBoard", name := "street", desc := "(III)Z" } : Jvm.MethodName)) ∈ jT := jm2 (List.mem_of_getElem? (i := 131) rfl)
set_option maxRecDepth 100000 in
theorem jw612 : (Jvm.Cond.code ({ cls := "SchoolBoard", name := "street", desc := "(III)Z" } : Jvm.MethodName) prog_1_method_5_code (4 : Nat) (Option.some Jvm.ClassFile.FieldType.boolean)) ∈ jT := jm2 (List.mem_of_getElem? (i := 132) rfl)
set_option maxRecDepth 100000 in
theorem jw613 : (Jvm.Cond.methodLink "SchoolBoard" (98 : Nat) ({ cls := "SchoolBoard$Town", name := "placeStreet", desc := "(III)V" } : Jvm.MethodName)) ∈ jT := jm2 (List.mem_of_getElem? (i := 133) rfl)
set_option maxRecDepth 100000 in
theorem jw614 : (Jvm.Cond.instanceMethod ({ cls := "SchoolBoard$Town", name := "placeStreet", desc := "(III)V" } : Jvm.MethodName)) ∈ jT := jm2 (List.mem_of_getElem? (i := 134) rfl)
set_option maxRecDepth 100000 in
theorem jw615 : (Jvm.Cond.selects "SchoolBoard$Town" ({ cls := "SchoolBoard$Town", name := "placeStreet", desc := "(III)V" } : Jvm.MethodName) ({ cls := "SchoolBoard$Town", name := "placeStreet", desc := "(III)V" } : Jvm.MethodName)) ∈ jT := jm2 (List.mem_of_getElem? (i := 135) rfl)
set_option maxRecDepth 100000 in
theorem jw616 : (Jvm.Cond.code ({ cls := "SchoolBoard$Town", name := "placeStreet", desc := "(III)V" } : Jvm.MethodName) prog_12_method_6_code (4 : Nat) (Option.none : Option Jvm.ClassFile.FieldType)) ∈ jT := jm2 (List.mem_of_getElem? (i := 136) rfl)
set_option maxRecDepth 100000 in
theorem jw617 : (Jvm.Cond.methodLink "SchoolBoardLaw" (32 : Nat) ({ cls := "SchoolBoard", name := "moves", desc := "(II)Z" } : Jvm.MethodName)) ∈ jT := jm2 (List.mem_of_getElem? (i := 137) rfl)
set_option maxRecDepth 100000 in
theorem jw618 : (Jvm.Cond.instanceMethod ({ cls := "SchoolBoard", name := "moves", desc := "(II)Z" } : Jvm.MethodName)) ∈ jT := jm2 (List.mem_of_getElem? (i := 138) rfl)
set_option maxRecDepth 100000 in
theorem jw619 : (Jvm.Cond.selects "SchoolBoard" ({ cls := "SchoolBoard", name := "moves", desc := "(II)Z" } : Jvm.MethodName) ({ cls := "SchoolBoard", name := "moves", desc := "(II)Z" } : Jvm.MethodName)) ∈ jT := jm2 (List.mem_of_getElem? (i := 139) rfl)
set_option maxRecDepth 100000 in
theorem jw620 : (Jvm.Cond.code ({ cls := "SchoolBoard", name := "moves", desc := "(II)Z" } : Jvm.MethodName) prog_1_method_6_code (3 : Nat) (Option.some Jvm.ClassFile.FieldType.boolean)) ∈ jT := jm2 (List.mem_of_getElem? (i := 140) rfl)
set_option maxRecDepth 100000 in
theorem jw621 : (Jvm.Cond.methodLink "SchoolBoard" (102 : Nat) ({ cls := "SchoolBoard", name := "isChild", desc := "(I)Z" } : Jvm.MethodName)) ∈ jT := jm2 (List.mem_of_getElem? (i := 141) rfl)
set_option maxRecDepth 100000 in
theorem jw623 : (Jvm.Cond.instanceMethod ({ cls := "SchoolBoard", name := "isChild", desc := "(I)Z" } : Jvm.MethodName)) ∈ jT := jm2 (List.mem_of_getElem? (i := 143) rfl)
set_option maxRecDepth 100000 in
theorem jw624 : (Jvm.Cond.code ({ cls := "SchoolBoard", name := "isChild", desc := "(I)Z" } : Jvm.MethodName) prog_1_method_51_code (2 : Nat) (Option.some Jvm.ClassFile.FieldType.boolean)) ∈ jT := jm2 (List.mem_of_getElem? (i := 144) rfl)
set_option maxRecDepth 100000 in
theorem jw625 : (Jvm.Cond.methodLink "SchoolBoardLaw" (37 : Nat) ({ cls := "SchoolBoard", name := "enter", desc := "(III)I" } : Jvm.MethodName)) ∈ jT := jm2 (List.mem_of_getElem? (i := 145) rfl)
set_option maxRecDepth 100000 in
theorem jw626 : (Jvm.Cond.instanceMethod ({ cls := "SchoolBoard", name := "enter", desc := "(III)I" } : Jvm.MethodName)) ∈ jT := jm2 (List.mem_of_getElem? (i := 146) rfl)
set_option maxRecDepth 100000 in
theorem jw627 : (Jvm.Cond.selects "SchoolBoard" ({ cls := "SchoolBoard", name := "enter", desc := "(III)I" } : Jvm.MethodName) ({ cls := "SchoolBoard", name := "enter", desc := "(III)I" } : Jvm.MethodName)) ∈ jT := jm2 (List.mem_of_getElem? (i := 147) rfl)
set_option maxRecDepth 100000 in
theorem jw628 : (Jvm.Cond.code ({ cls := "SchoolBoard", name := "enter", desc := "(III)I" } : Jvm.MethodName) prog_1_method_7_code (5 : Nat) (Option.some Jvm.ClassFile.FieldType.int)) ∈ jT := jm2 (List.mem_of_getElem? (i := 148) rfl)
set_option maxRecDepth 100000 in
theorem jw629 : (Jvm.Cond.methodLink "SchoolBoard" (110 : Nat) ({ cls := "SchoolBoard", name := "isSchool", desc := "(I)Z" } : Jvm.MethodName)) ∈ jT := jm2 (List.mem_of_getElem? (i := 149) rfl)
set_option maxRecDepth 100000 in
theorem jw631 : (Jvm.Cond.instanceMethod ({ cls := "SchoolBoard", name := "isSchool", desc := "(I)Z" } : Jvm.MethodName)) ∈ jT := jm2 (List.mem_of_getElem? (i := 151) rfl)
set_option maxRecDepth 100000 in
theorem jw632 : (Jvm.Cond.code ({ cls := "SchoolBoard", name := "isSchool", desc := "(I)Z" } : Jvm.MethodName) prog_1_method_52_code (2 : Nat) (Option.some Jvm.ClassFile.FieldType.boolean)) ∈ jT := jm2 (List.mem_of_getElem? (i := 152) rfl)
set_option maxRecDepth 100000 in
theorem jw633 : (Jvm.Cond.methodLink "SchoolBoard" (113 : Nat) ({ cls := "SchoolBoard$Book", name := "isFilled", desc := "(I)Z" } : Jvm.MethodName)) ∈ jT := jm2 (List.mem_of_getElem? (i := 153) rfl)
set_option maxRecDepth 100000 in
theorem jw634 : (Jvm.Cond.instanceMethod ({ cls := "SchoolBoard$Book", name := "isFilled", desc := "(I)Z" } : Jvm.MethodName)) ∈ jT := jm2 (List.mem_of_getElem? (i := 154) rfl)
set_option maxRecDepth 100000 in
theorem jw635 : (Jvm.Cond.selects "SchoolBoard$Book" ({ cls := "SchoolBoard$Book", name := "isFilled", desc := "(I)Z" } : Jvm.MethodName) ({ cls := "SchoolBoard$Book", name := "isFilled", desc := "(I)Z" } : Jvm.MethodName)) ∈ jT := jm2 (List.mem_of_getElem? (i := 155) rfl)
set_option maxRecDepth 100000 in
theorem jw636 : (Jvm.Cond.code ({ cls := "SchoolBoard$Book", name := "isFilled", desc := "(I)Z" } : Jvm.MethodName) prog_2_method_2_code (2 : Nat) (Option.some Jvm.ClassFile.FieldType.boolean)) ∈ jT := jm2 (List.mem_of_getElem? (i := 156) rfl)
set_option maxRecDepth 100000 in
theorem jw637 : (Jvm.Cond.methodLink "SchoolBoard" (116 : Nat) ({ cls := "SchoolBoard", name := "isFull", desc := "(III)Z" } : Jvm.MethodName)) ∈ jT := jm2 (List.mem_of_getElem? (i := 157) rfl)
set_option maxRecDepth 100000 in
theorem jw639 : (Jvm.Cond.instanceMethod ({ cls := "SchoolBoard", name := "isFull", desc := "(III)Z" } : Jvm.MethodName)) ∈ jT := jm2 (List.mem_of_getElem? (i := 159) rfl)
set_option maxRecDepth 100000 in
theorem jw640 : (Jvm.Cond.code ({ cls := "SchoolBoard", name := "isFull", desc := "(III)Z" } : Jvm.MethodName) prog_1_method_55_code (7 : Nat) (Option.some Jvm.ClassFile.FieldType.boolean)) ∈ jT := jm2 (List.mem_of_getElem? (i := 160) rfl)
set_option maxRecDepth 100000 in
theorem jw641 : (Jvm.Cond.methodLink "SchoolBoard" (193 : Nat) ({ cls := "SchoolBoard$Code", name := "least", desc := "(IIII)I" } : Jvm.MethodName)) ∈ jT := jm2 (List.mem_of_getElem? (i := 161) rfl)
set_option maxRecDepth 100000 in
theorem jw642 : (Jvm.Cond.instanceMethod ({ cls := "SchoolBoard$Code", name := "least", desc := "(IIII)I" } : Jvm.MethodName)) ∈ jT := jm2 (List.mem_of_getElem? (i := 162) rfl)
set_option maxRecDepth 100000 in
theorem jw643 : (Jvm.Cond.selects "SchoolBoard$Code" ({ cls := "SchoolBoard$Code", name := "least", desc := "(IIII)I" } : Jvm.MethodName) ({ cls := "SchoolBoard$Code", name := "least", desc := "(IIII)I" } : Jvm.MethodName)) ∈ jT := jm2 (List.mem_of_getElem? (i := 163) rfl)
set_option maxRecDepth 100000 in
theorem jw644 : (Jvm.Cond.code ({ cls := "SchoolBoard$Code", name := "least", desc := "(IIII)I" } : Jvm.MethodName) prog_4_method_9_code (5 : Nat) (Option.some Jvm.ClassFile.FieldType.int)) ∈ jT := jm2 (List.mem_of_getElem? (i := 164) rfl)
set_option maxRecDepth 100000 in
theorem jw645 : (Jvm.Cond.methodLink "SchoolBoard$Code" (118 : Nat) ({ cls := "SchoolBoard$Code", name := "tells", desc := "(III[II)I" } : Jvm.MethodName)) ∈ jT := jm2 (List.mem_of_getElem? (i := 165) rfl)
set_option maxRecDepth 100000 in
theorem jw646 : (Jvm.Cond.instanceMethod ({ cls := "SchoolBoard$Code", name := "tells", desc := "(III[II)I" } : Jvm.MethodName)) ∈ jT := jm2 (List.mem_of_getElem? (i := 166) rfl)
set_option maxRecDepth 100000 in
theorem jw647 : (Jvm.Cond.selects "SchoolBoard$Code" ({ cls := "SchoolBoard$Code", name := "tells", desc := "(III[II)I" } : Jvm.MethodName) ({ cls := "SchoolBoard$Code", name := "tells", desc := "(III[II)I" } : Jvm.MethodName)) ∈ jT := jm2 (List.mem_of_getElem? (i := 167) rfl)
set_option maxRecDepth 100000 in
theorem jw648 : (Jvm.Cond.code ({ cls := "SchoolBoard$Code", name := "tells", desc := "(III[II)I" } : Jvm.MethodName) prog_4_method_8_code (9 : Nat) (Option.some Jvm.ClassFile.FieldType.int)) ∈ jT := jm2 (List.mem_of_getElem? (i := 168) rfl)
set_option maxRecDepth 100000 in
theorem jw649 : (Jvm.Cond.methodLink "SchoolBoard$Code" (94 : Nat) ({ cls := "SchoolBoard$Code", name := "endOf", desc := "(II)I" } : Jvm.MethodName)) ∈ jT := jm2 (List.mem_of_getElem? (i := 169) rfl)
set_option maxRecDepth 100000 in
theorem jw650 : (Jvm.Cond.instanceMethod ({ cls := "SchoolBoard$Code", name := "endOf", desc := "(II)I" } : Jvm.MethodName)) ∈ jT := jm2 (List.mem_of_getElem? (i := 170) rfl)
set_option maxRecDepth 100000 in
theorem jw651 : (Jvm.Cond.selects "SchoolBoard$Code" ({ cls := "SchoolBoard$Code", name := "endOf", desc := "(II)I" } : Jvm.MethodName) ({ cls := "SchoolBoard$Code", name := "endOf", desc := "(II)I" } : Jvm.MethodName)) ∈ jT := jm2 (List.mem_of_getElem? (i := 171) rfl)
set_option maxRecDepth 100000 in
theorem jw652 : (Jvm.Cond.code ({ cls := "SchoolBoard$Code", name := "endOf", desc := "(II)I" } : Jvm.MethodName) prog_4_method_7_code (3 : Nat) (Option.some Jvm.ClassFile.FieldType.int)) ∈ jT := jm2 (List.mem_of_getElem? (i := 172) rfl)
set_option maxRecDepth 100000 in
theorem jw653 : (Jvm.Cond.methodLink "SchoolBoard$Code" (98 : Nat) ({ cls := "SchoolBoard$Code", name := "firstOf", desc := "(II)I" } : Jvm.MethodName)) ∈ jT := jm2 (List.mem_of_getElem? (i := 173) rfl)
set_option maxRecDepth 100000 in
theorem jw654 : (Jvm.Cond.instanceMethod ({ cls := "SchoolBoard$Code", name := "firstOf", desc := "(II)I" } : Jvm.MethodName)) ∈ jT := jm2 (List.mem_of_getElem? (i := 174) rfl)
set_option maxRecDepth 100000 in
theorem jw655 : (Jvm.Cond.selects "SchoolBoard$Code" ({ cls := "SchoolBoard$Code", name := "firstOf", desc := "(II)I" } : Jvm.MethodName) ({ cls := "SchoolBoard$Code", name := "firstOf", desc := "(II)I" } : Jvm.MethodName)) ∈ jT := jm2 (List.mem_of_getElem? (i := 175) rfl)
set_option maxRecDepth 100000 in
theorem jw656 : (Jvm.Cond.code ({ cls := "SchoolBoard$Code", name := "firstOf", desc := "(II)I" } : Jvm.MethodName) prog_4_method_6_code (3 : Nat) (Option.some Jvm.ClassFile.FieldType.int)) ∈ jT := jm2 (List.mem_of_getElem? (i := 176) rfl)
set_option maxRecDepth 100000 in
theorem jw657 : (Jvm.Cond.methodLink "SchoolBoard$Code" (101 : Nat) ({ cls := "SchoolBoard$Clause", name := "isFor", desc := "(I)Z" } : Jvm.MethodName)) ∈ jT := jm2 (List.mem_of_getElem? (i := 177) rfl)
set_option maxRecDepth 100000 in
theorem jw658 : (Jvm.Cond.instanceMethod ({ cls := "SchoolBoard$Clause", name := "isFor", desc := "(I)Z" } : Jvm.MethodName)) ∈ jT := jm2 (List.mem_of_getElem? (i := 178) rfl)
set_option maxRecDepth 100000 in
theorem jw659 : (Jvm.Cond.selects "SchoolBoard$Clause" ({ cls := "SchoolBoard$Clause", name := "isFor", desc := "(I)Z" } : Jvm.MethodName) ({ cls := "SchoolBoard$Clause", name := "isFor", desc := "(I)Z" } : Jvm.MethodName)) ∈ jT := jm2 (List.mem_of_getElem? (i := 179) rfl)
set_option maxRecDepth 100000 in
theorem jw660 : (Jvm.Cond.code ({ cls := "SchoolBoard$Clause", name := "isFor", desc := "(I)Z" } : Jvm.MethodName) prog_3_method_2_code (2 : Nat) (Option.some Jvm.ClassFile.FieldType.boolean)) ∈ jT := jm2 (List.mem_of_getElem? (i := 180) rfl)
set_option maxRecDepth 100000 in
theorem jw661 : (Jvm.Cond.methodLinkNest "SchoolBoard$Code" (109 : Nat) ({ cls := "SchoolBoard$Node", name := "isTrue", desc := "(LSchoolBoard$Node;[II)Z" } : Jvm.MethodName) "SchoolBoard") ∈ jT := jm2 (List.mem_of_getElem? (i := 181) rfl)
set_option maxRecDepth 100000 in
theorem jw662 : (Jvm.Cond.static ({ cls := "SchoolBoard$Node", name := "isTrue", desc := "(LSchoolBoard$Node;[II)Z" } : Jvm.MethodName)) ∈ jT := jm2 (List.mem_of_getElem? (i := 182) rfl)
set_option maxRecDepth 100000 in
theorem jw663 : (Jvm.Cond.code ({ cls := "SchoolBoard$Node", name := "isTrue", desc := "(LSchoolBoard$Node;[II)Z" } : Jvm.MethodName) prog_7_method_3_code (5 : Nat) (Option.some Jvm.ClassFile.FieldType.boolean)) ∈ jT := jm2 (List.mem_of_getElem? (i := 183) rfl)
set_option maxRecDepth 100000 in
theorem jw664 : (Jvm.Cond.methodLink "SchoolBoard$Node" (28 : Nat) ({ cls := "SchoolBoard$Node", name := "isTrue", desc := "(LSchoolBoard$Node;[II)Z" } : Jvm.MethodName)) ∈ jT := jm2 (List.mem_of_getElem? (i := 184) rfl)
set_option maxRecDepth 100000 in
theorem jw665 : (Jvm.Cond.methodLink "SchoolBoard" (196 : Nat) ({ cls := "SchoolBoard$Town", name := "roomIn", desc := "(II)I" } : Jvm.MethodName)) ∈ jT := jm2 (List.mem_of_getElem? (i := 185) rfl)
set_option maxRecDepth 100000 in
theorem jw666 : (Jvm.Cond.instanceMethod ({ cls := "SchoolBoard$Town", name := "roomIn", desc := "(II)I" } : Jvm.MethodName)) ∈ jT := jm2 (List.mem_of_getElem? (i := 186) rfl)
set_option maxRecDepth 100000 in
theorem jw667 : (Jvm.Cond.selects "SchoolBoard$Town" ({ cls := "SchoolBoard$Town", name := "roomIn", desc := "(II)I" } : Jvm.MethodName) ({ cls := "SchoolBoard$Town", name := "roomIn", desc := "(II)I" } : Jvm.MethodName)) ∈ jT := jm2 (List.mem_of_getElem? (i := 187) rfl)
set_option maxRecDepth 100000 in
theorem jw668 : (Jvm.Cond.code ({ cls := "SchoolBoard$Town", name := "roomIn", desc := "(II)I" } : Jvm.MethodName) prog_12_method_7_code (3 : Nat) (Option.some Jvm.ClassFile.FieldType.int)) ∈ jT := jm2 (List.mem_of_getElem? (i := 188) rfl)
set_option maxRecDepth 100000 in
theorem jw669 : (Jvm.Cond.methodLink "SchoolBoard" (139 : Nat) ({ cls := "SchoolBoard$Register", name := "open", desc := "(III)V" } : Jvm.MethodName)) ∈ jT := jm2 (List.mem_of_getElem? (i := 189) rfl)
set_option maxRecDepth 100000 in
theorem jw670 : (Jvm.Cond.instanceMethod ({ cls := "SchoolBoard$Register", name := "open", desc := "(III)V" } : Jvm.MethodName)) ∈ jT := jm2 (List.mem_of_getElem? (i := 190) rfl)
set_option maxRecDepth 100000 in
theorem jw671 : (Jvm.Cond.selects "SchoolBoard$Register" ({ cls := "SchoolBoard$Register", name := "open", desc := "(III)V" } : Jvm.MethodName) ({ cls := "SchoolBoard$Register", name := "open", desc := "(III)V" } : Jvm.MethodName)) ∈ jT := jm2 (List.mem_of_getElem? (i := 191) rfl)
set_option maxRecDepth 100000 in
theorem jw672 : (Jvm.Cond.code ({ cls := "SchoolBoard$Register", name := "open", desc := "(III)V" } : Jvm.MethodName) prog_11_method_3_code (7 : Nat) (Option.none : Option Jvm.ClassFile.FieldType)) ∈ jT := jm2 (List.mem_of_getElem? (i := 192) rfl)
set_option maxRecDepth 100000 in
theorem jw673 : (Jvm.Cond.methodLink "SchoolBoard$Register" (62 : Nat) ({ cls := "java/lang/Math", name := "min", desc := "(II)I" } : Jvm.MethodName)) ∈ jT := jm2 (List.mem_of_getElem? (i := 193) rfl)
set_option maxRecDepth 100000 in
theorem jw674 : (Jvm.Cond.static ({ cls := "java/lang/Math", name := "min", desc := "(II)I" } : Jvm.MethodName)) ∈ jT := jm2 (List.mem_of_getElem? (i := 194) rfl)
set_option maxRecDepth 100000 in
theorem jw675 : (Jvm.Cond.code ({ cls := "java/lang/Math", name := "min", desc := "(II)I" } : Jvm.MethodName) prog_18_method_69_code (2 : Nat) (Option.some Jvm.ClassFile.FieldType.int)) ∈ jT := jm2 (List.mem_of_getElem? (i := 195) rfl)
set_option maxRecDepth 100000 in
theorem jw676 : (Jvm.Cond.methodLink "SchoolBoard$Register" (74 : Nat) ({ cls := "SchoolBoard$Book", name := "firstOfSchool", desc := "(I)I" } : Jvm.MethodName)) ∈ jT := jm2 (List.mem_of_getElem? (i := 196) rfl)
set_option maxRecDepth 100000 in
theorem jw677 : (Jvm.Cond.instanceMethod ({ cls := "SchoolBoard$Book", name := "firstOfSchool", desc := "(I)I" } : Jvm.MethodName)) ∈ jT := jm2 (List.mem_of_getElem? (i := 197) rfl)
set_option maxRecDepth 100000 in
theorem jw678 : (Jvm.Cond.selects "SchoolBoard$Book" ({ cls := "SchoolBoard$Book", name := "firstOfSchool", desc := "(I)I" } : Jvm.MethodName) ({ cls := "SchoolBoard$Book", name := "firstOfSchool", desc := "(I)I" } : Jvm.MethodName)) ∈ jT := jm2 (List.mem_of_getElem? (i := 198) rfl)
set_option maxRecDepth 100000 in
theorem jw679 : (Jvm.Cond.code ({ cls := "SchoolBoard$Book", name := "firstOfSchool", desc := "(I)I" } : Jvm.MethodName) prog_2_method_8_code (2 : Nat) (Option.some Jvm.ClassFile.FieldType.int)) ∈ jT := jm2 (List.mem_of_getElem? (i := 199) rfl)
set_option maxRecDepth 100000 in
theorem jw680 : (Jvm.Cond.methodLink "SchoolBoard$Register" (83 : Nat) ({ cls := "SchoolBoard$Book", name := "isKnown", desc := "(II)Z" } : Jvm.MethodName)) ∈ jT := jm2 (List.mem_of_getElem? (i := 200) rfl)
set_option maxRecDepth 100000 in
theorem jw681 : (Jvm.Cond.instanceMethod ({ cls := "SchoolBoard$Book", name := "isKnown", desc := "(II)Z" } : Jvm.MethodName)) ∈ jT := jm2 (List.mem_of_getElem? (i := 201) rfl)
set_option maxRecDepth 100000 in
theorem jw682 : (Jvm.Cond.selects "SchoolBoard$Book" ({ cls := "SchoolBoard$Book", name := "isKnown", desc := "(II)Z" } : Jvm.MethodName) ({ cls := "SchoolBoard$Book", name := "isKnown", desc := "(II)Z" } : Jvm.MethodName)) ∈ jT := jm2 (List.mem_of_getElem? (i := 202) rfl)
set_option maxRecDepth 100000 in
theorem jw683 : (Jvm.Cond.code ({ cls := "SchoolBoard$Book", name := "isKnown", desc := "(II)Z" } : Jvm.MethodName) prog_2_method_10_code (3 : Nat) (Option.some Jvm.ClassFile.FieldType.boolean)) ∈ jT := jm2 (List.mem_of_getElem? (i := 203) rfl)
set_option maxRecDepth 100000 in
theorem jw684 : (Jvm.Cond.methodLink "SchoolBoard$Register" (87 : Nat) ({ cls := "SchoolBoard$Register", name := "layBits", desc := "([III)V" } : Jvm.MethodName)) ∈ jT := jm2 (List.mem_of_getElem? (i := 204) rfl)
set_option maxRecDepth 100000 in
theorem jw686 : (Jvm.Cond.instanceMethod ({ cls := "SchoolBoard$Register", name := "layBits", desc := "([III)V" } : Jvm.MethodName)) ∈ jT := jm2 (List.mem_of_getElem? (i := 206) rfl)
set_option maxRecDepth 100000 in
theorem jw687 : (Jvm.Cond.code ({ cls := "SchoolBoard$Register", name := "layBits", desc := "([III)V" } : Jvm.MethodName) prog_11_method_4_code (6 : Nat) (Option.none : Option Jvm.ClassFile.FieldType)) ∈ jT := jm2 (List.mem_of_getElem? (i := 207) rfl)
set_option maxRecDepth 100000 in
theorem jw688 : (Jvm.Cond.methodLink "SchoolBoard$Register" (98 : Nat) ({ cls := "java/lang/Math", name := "max", desc := "(II)I" } : Jvm.MethodName)) ∈ jT := jm2 (List.mem_of_getElem? (i := 208) rfl)
set_option maxRecDepth 100000 in
theorem jw689 : (Jvm.Cond.static ({ cls := "java/lang/Math", name := "max", desc := "(II)I" } : Jvm.MethodName)) ∈ jT := jm2 (List.mem_of_getElem? (i := 209) rfl)
set_option maxRecDepth 100000 in
theorem jw690 : (Jvm.Cond.code ({ cls := "java/lang/Math", name := "max", desc := "(II)I" } : Jvm.MethodName) prog_18_method_65_code (2 : Nat) (Option.some Jvm.ClassFile.FieldType.int)) ∈ jT := jm2 (List.mem_of_getElem? (i := 210) rfl)
set_option maxRecDepth 100000 in
theorem jw691 : (Jvm.Cond.methodLink "SchoolBoard$Register" (91 : Nat) ({ cls := "SchoolBoard$Book", name := "after", desc := "(I)I" } : Jvm.MethodName)) ∈ jT := jm2 (List.mem_of_getElem? (i := 211) rfl)
set_option maxRecDepth 100000 in
theorem jw692 : (Jvm.Cond.instanceMethod ({ cls := "SchoolBoard$Book", name := "after", desc := "(I)I" } : Jvm.MethodName)) ∈ jT := jm2 (List.mem_of_getElem? (i := 212) rfl)
set_option maxRecDepth 100000 in
theorem jw693 : (Jvm.Cond.selects "SchoolBoard$Book" ({ cls := "SchoolBoard$Book", name := "after", desc := "(I)I" } : Jvm.MethodName) ({ cls := "SchoolBoard$Book", name := "after", desc := "(I)I" } : Jvm.MethodName)) ∈ jT := jm2 (List.mem_of_getElem? (i := 213) rfl)
set_option maxRecDepth 100000 in
theorem jw694 : (Jvm.Cond.code ({ cls := "SchoolBoard$Book", name := "after", desc := "(I)I" } : Jvm.MethodName) prog_2_method_9_code (2 : Nat) (Option.some Jvm.ClassFile.FieldType.int)) ∈ jT := jm2 (List.mem_of_getElem? (i := 214) rfl)
set_option maxRecDepth 100000 in
theorem jw695 : (Jvm.Cond.methodLink "SchoolBoard" (142 : Nat) ({ cls := "SchoolBoard$Register", name := "lay", desc := "(I)V" } : Jvm.MethodName)) ∈ jT := jm2 (List.mem_of_getElem? (i := 215) rfl)
set_option maxRecDepth 100000 in
theorem jw696 : (Jvm.Cond.instanceMethod ({ cls := "SchoolBoard$Register", name := "lay", desc := "(I)V" } : Jvm.MethodName)) ∈ jT := jm2 (List.mem_of_getElem? (i := 216) rfl)
set_option maxRecDepth 100000 in
theorem jw697 : (Jvm.Cond.selects "SchoolBoard$Register" ({ cls := "SchoolBoard$Register", name := "lay", desc := "(I)V" } : Jvm.MethodName) ({ cls := "SchoolBoard$Register", name := "lay", desc := "(I)V" } : Jvm.MethodName)) ∈ jT := jm2 (List.mem_of_getElem? (i := 217) rfl)
set_option maxRecDepth 100000 in
theorem jw698 : (Jvm.Cond.code ({ cls := "SchoolBoard$Register", name := "lay", desc := "(I)V" } : Jvm.MethodName) prog_11_method_5_code (4 : Nat) (Option.none : Option Jvm.ClassFile.FieldType)) ∈ jT := jm2 (List.mem_of_getElem? (i := 218) rfl)
set_option maxRecDepth 100000 in
theorem jw699 : (Jvm.Cond.methodLink "SchoolBoard$Register" (104 : Nat) ({ cls := "SchoolBoard$Book", name := "firstOfChild", desc := "(I)I" } : Jvm.MethodName)) ∈ jT := jm2 (List.mem_of_getElem? (i := 219) rfl)
set_option maxRecDepth 100000 in
theorem jw700 : (Jvm.Cond.instanceMethod ({ cls := "SchoolBoard$Book", name := "firstOfChild", desc := "(I)I" } : Jvm.MethodName)) ∈ jT := jm2 (List.mem_of_getElem? (i := 220) rfl)
set_option maxRecDepth 100000 in
theorem jw701 : (Jvm.Cond.selects "SchoolBoard$Book" ({ cls := "SchoolBoard$Book", name := "firstOfChild", desc := "(I)I" } : Jvm.MethodName) ({ cls := "SchoolBoard$Book", name := "firstOfChild", desc := "(I)I" } : Jvm.MethodName)) ∈ jT := jm2 (List.mem_of_getElem? (i := 221) rfl)
set_option maxRecDepth 100000 in
theorem jw702 : (Jvm.Cond.code ({ cls := "SchoolBoard$Book", name := "firstOfChild", desc := "(I)I" } : Jvm.MethodName) prog_2_method_7_code (2 : Nat) (Option.some Jvm.ClassFile.FieldType.int)) ∈ jT := jm2 (List.mem_of_getElem? (i := 222) rfl)
set_option maxRecDepth 100000 in
theorem jw703 : (Jvm.Cond.methodLink "SchoolBoard$Register" (107 : Nat) ({ cls := "SchoolBoard$Register", name := "layNumber", desc := "(I)V" } : Jvm.MethodName)) ∈ jT := jm2 (List.mem_of_getElem? (i := 223) rfl)
set_option maxRecDepth 100000 in
theorem jw705 : (Jvm.Cond.instanceMethod ({ cls := "SchoolBoard$Register", name := "layNumber", desc := "(I)V" } : Jvm.MethodName)) ∈ jT := jm2 (List.mem_of_getElem? (i := 225) rfl)
set_option maxRecDepth 100000 in
theorem jw706 : (Jvm.Cond.code ({ cls := "SchoolBoard$Register", name := "layNumber", desc := "(I)V" } : Jvm.MethodName) prog_11_method_6_code (2 : Nat) (Option.none : Option Jvm.ClassFile.FieldType)) ∈ jT := jm2 (List.mem_of_getElem? (i := 226) rfl)
set_option maxRecDepth 100000 in
theorem jw707 : (Jvm.Cond.methodLink "SchoolBoard$Register" (114 : Nat) ({ cls := "SchoolBoard$Register", name := "layEntry", desc := "(I)V" } : Jvm.MethodName)) ∈ jT := jm2 (List.mem_of_getElem? (i := 227) rfl)
set_option maxRecDepth 100000 in
theorem jw709 : (Jvm.Cond.instanceMethod ({ cls := "SchoolBoard$Register", name := "layEntry", desc := "(I)V" } : Jvm.MethodName)) ∈ jT := jm2 (List.mem_of_getElem? (i := 229) rfl)
set_option maxRecDepth 100000 in
theorem jw710 : (Jvm.Cond.code ({ cls := "SchoolBoard$Register", name := "layEntry", desc := "(I)V" } : Jvm.MethodName) prog_11_method_7_code (4 : Nat) (Option.none : Option Jvm.ClassFile.FieldType)) ∈ jT := jm2 (List.mem_of_getElem? (i := 230) rfl)
set_option maxRecDepth 100000 in
theorem jw711 : (Jvm.Cond.methodLink "SchoolBoard$Register" (117 : Nat) ({ cls := "SchoolBoard$Register", name := "layMarks", desc := "(I)V" } : Jvm.MethodName)) ∈ jT := jm2 (List.mem_of_getElem? (i := 231) rfl)
set_option maxRecDepth 100000 in
theorem jw713 : (Jvm.Cond.instanceMethod ({ cls := "SchoolBoard$Register", name := "layMarks", desc := "(I)V" } : Jvm.MethodName)) ∈ jT := jm2 (List.mem_of_getElem? (i := 233) rfl)
set_option maxRecDepth 100000 in
theorem jw714 : (Jvm.Cond.code ({ cls := "SchoolBoard$Register", name := "layMarks", desc := "(I)V" } : Jvm.MethodName) prog_11_method_8_code (4 : Nat) (Option.none : Option Jvm.ClassFile.FieldType)) ∈ jT := jm2 (List.mem_of_getElem? (i := 234) rfl)
set_option maxRecDepth 100000 in
theorem jw715 : (Jvm.Cond.methodLink "SchoolBoard" (146 : Nat) ({ cls := "SchoolBoard$Register", name := "placeOn", desc := "(I)I" } : Jvm.MethodName)) ∈ jT := jm2 (List.mem_of_getElem? (i := 235) rfl)
set_option maxRecDepth 100000 in
theorem jw716 : (Jvm.Cond.instanceMethod ({ cls := "SchoolBoard$Register", name := "placeOn", desc := "(I)I" } : Jvm.MethodName)) ∈ jT := jm2 (List.mem_of_getElem? (i := 236) rfl)
set_option maxRecDepth 100000 in
theorem jw717 : (Jvm.Cond.selects "SchoolBoard$Register" ({ cls := "SchoolBoard$Register", name := "placeOn", desc := "(I)I" } : Jvm.MethodName) ({ cls := "SchoolBoard$Register", name := "placeOn", desc := "(I)I" } : Jvm.MethodName)) ∈ jT := jm2 (List.mem_of_getElem? (i := 237) rfl)
set_option maxRecDepth 100000 in
theorem jw718 : (Jvm.Cond.code ({ cls := "SchoolBoard$Register", name := "placeOn", desc := "(I)I" } : Jvm.MethodName) prog_11_method_9_code (2 : Nat) (Option.some Jvm.ClassFile.FieldType.int)) ∈ jT := jm2 (List.mem_of_getElem? (i := 238) rfl)
set_option maxRecDepth 100000 in
theorem jw719 : (Jvm.Cond.methodLinkNest "SchoolBoard$Register" (123 : Nat) ({ cls := "SchoolBoard", name := "within", desc := "(III)Z" } : Jvm.MethodName) "SchoolBoard") ∈ jT := jm2 (List.mem_of_getElem? (i := 239) rfl)
set_option maxRecDepth 100000 in
theorem jw720 : (Jvm.Cond.methodLink "SchoolBoard" (119 : Nat) ({ cls := "SchoolBoard$Book", name := "tell", desc := "(IIIIII)I" } : Jvm.MethodName)) ∈ jT := jm3 (List.mem_of_getElem? (i := 0) rfl)
set_option maxRecDepth 100000 in
theorem jw721 : (Jvm.Cond.instanceMethod ({ cls := "SchoolBoard$Book", name := "tell", desc := "(IIIIII)I" } : Jvm.MethodName)) ∈ jT := jm3 (List.mem_of_getElem? (i := 1) rfl)
set_option maxRecDepth 100000 in
theorem jw722 : (Jvm.Cond.selects "SchoolBoard$Book" ({ cls := "SchoolBoard$Book", name := "tell", desc := "(IIIIII)I" } : Jvm.MethodName) ({ cls := "SchoolBoard$Book", name := "tell", desc := "(IIIIII)I" } : Jvm.MethodName)) ∈ jT := jm3 (List.mem_of_getElem? (i := 2) rfl)
set_option maxRecDepth 100000 in
theorem jw723 : (Jvm.Cond.code ({ cls := "SchoolBoard$Book", name := "tell", desc := "(IIIIII)I" } : Jvm.MethodName) prog_2_method_3_code (8 : Nat) (Option.some Jvm.ClassFile.FieldType.int)) ∈ jT := jm3 (List.mem_of_getElem? (i := 3) rfl)
set_option maxRecDepth 100000 in
theorem jw724 : (Jvm.Cond.methodLink "SchoolBoard$Book" (58 : Nat) ({ cls := "SchoolBoard$Book", name := "chain", desc := "(II)V" } : Jvm.MethodName)) ∈ jT := jm3 (List.mem_of_getElem? (i := 4) rfl)
set_option maxRecDepth 100000 in
theorem jw726 : (Jvm.Cond.instanceMethod ({ cls := "SchoolBoard$Book", name := "chain", desc := "(II)V" } : Jvm.MethodName)) ∈ jT := jm3 (List.mem_of_getElem? (i := 6) rfl)
set_option maxRecDepth 100000 in
theorem jw727 : (Jvm.Cond.code ({ cls := "SchoolBoard$Book", name := "chain", desc := "(II)V" } : Jvm.MethodName) prog_2_method_4_code (3 : Nat) (Option.none : Option Jvm.ClassFile.FieldType)) ∈ jT := jm3 (List.mem_of_getElem? (i := 7) rfl)
set_option maxRecDepth 100000 in
theorem jw728 : (Jvm.Cond.methodLink "SchoolBoardLaw" (41 : Nat) ({ cls := "SchoolBoard", name := "shut", desc := "(III)I" } : Jvm.MethodName)) ∈ jT := jm3 (List.mem_of_getElem? (i := 8) rfl)
set_option maxRecDepth 100000 in
theorem jw729 : (Jvm.Cond.instanceMethod ({ cls := "SchoolBoard", name := "shut", desc := "(III)I" } : Jvm.MethodName)) ∈ jT := jm3 (List.mem_of_getElem? (i := 9) rfl)
set_option maxRecDepth 100000 in
theorem jw730 : (Jvm.Cond.selects "SchoolBoard" ({ cls := "SchoolBoard", name := "shut", desc := "(III)I" } : Jvm.MethodName) ({ cls := "SchoolBoard", name := "shut", desc := "(III)I" } : Jvm.MethodName)) ∈ jT := jm3 (List.mem_of_getElem? (i := 10) rfl)
set_option maxRecDepth 100000 in
theorem jw731 : (Jvm.Cond.code ({ cls := "SchoolBoard", name := "shut", desc := "(III)I" } : Jvm.MethodName) prog_1_method_8_code (4 : Nat) (Option.some Jvm.ClassFile.FieldType.int)) ∈ jT := jm3 (List.mem_of_getElem? (i := 11) rfl)
set_option maxRecDepth 100000 in
theorem jw732 : (Jvm.Cond.methodLink "SchoolBoard" (123 : Nat) ({ cls := "SchoolBoard", name := "isSpan", desc := "(II)Z" } : Jvm.MethodName)) ∈ jT := jm3 (List.mem_of_getElem? (i := 12) rfl)
set_option maxRecDepth 100000 in
theorem jw733 : (Jvm.Cond.static ({ cls := "SchoolBoard", name := "isSpan", desc := "(II)Z" } : Jvm.MethodName)) ∈ jT := jm3 (List.mem_of_getElem? (i := 13) rfl)
set_option maxRecDepth 100000 in
theorem jw734 : (Jvm.Cond.code ({ cls := "SchoolBoard", name := "isSpan", desc := "(II)Z" } : Jvm.MethodName) prog_1_method_50_code (2 : Nat) (Option.some Jvm.ClassFile.FieldType.boolean)) ∈ jT := jm3 (List.mem_of_getElem? (i := 14) rfl)
set_option maxRecDepth 100000 in
theorem jw735 : (Jvm.Cond.methodLink "SchoolBoard" (136 : Nat) ({ cls := "SchoolBoard", name := "isDay", desc := "(I)Z" } : Jvm.MethodName)) ∈ jT := jm3 (List.mem_of_getElem? (i := 15) rfl)
set_option maxRecDepth 100000 in
theorem jw736 : (Jvm.Cond.static ({ cls := "SchoolBoard", name := "isDay", desc := "(I)Z" } : Jvm.MethodName)) ∈ jT := jm3 (List.mem_of_getElem? (i := 16) rfl)
set_option maxRecDepth 100000 in
theorem jw737 : (Jvm.Cond.code ({ cls := "SchoolBoard", name := "isDay", desc := "(I)Z" } : Jvm.MethodName) prog_1_method_48_code (1 : Nat) (Option.some Jvm.ClassFile.FieldType.boolean)) ∈ jT := jm3 (List.mem_of_getElem? (i := 17) rfl)
set_option maxRecDepth 100000 in
theorem jw738 : (Jvm.Cond.methodLink "SchoolBoardLaw" (45 : Nat) ({ cls := "SchoolBoard", name := "mark", desc := "(IIIIII)I" } : Jvm.MethodName)) ∈ jT := jm3 (List.mem_of_getElem? (i := 18) rfl)
set_option maxRecDepth 100000 in
theorem jw739 : (Jvm.Cond.instanceMethod ({ cls := "SchoolBoard", name := "mark", desc := "(IIIIII)I" } : Jvm.MethodName)) ∈ jT := jm3 (List.mem_of_getElem? (i := 19) rfl)
set_option maxRecDepth 100000 in
theorem jw740 : (Jvm.Cond.selects "SchoolBoard" ({ cls := "SchoolBoard", name := "mark", desc := "(IIIIII)I" } : Jvm.MethodName) ({ cls := "SchoolBoard", name := "mark", desc := "(IIIIII)I" } : Jvm.MethodName)) ∈ jT := jm3 (List.mem_of_getElem? (i := 20) rfl)
set_option maxRecDepth 100000 in
theorem jw741 : (Jvm.Cond.code ({ cls := "SchoolBoard", name := "mark", desc := "(IIIIII)I" } : Jvm.MethodName) prog_1_method_9_code (8 : Nat) (Option.some Jvm.ClassFile.FieldType.int)) ∈ jT := jm3 (List.mem_of_getElem? (i := 21) rfl)
set_option maxRecDepth 100000 in
theorem jw742 : (Jvm.Cond.methodLink "SchoolBoardLaw" (50 : Nat) ({ cls := "SchoolBoard", name := "grantSpan", desc := "(IIIII)I" } : Jvm.MethodName)) ∈ jT := jm3 (List.mem_of_getElem? (i := 22) rfl)
set_option maxRecDepth 100000 in
theorem jw743 : (Jvm.Cond.instanceMethod ({ cls := "SchoolBoard", name := "grantSpan", desc := "(IIIII)I" } : Jvm.MethodName)) ∈ jT := jm3 (List.mem_of_getElem? (i := 23) rfl)
set_option maxRecDepth 100000 in
theorem jw744 : (Jvm.Cond.selects "SchoolBoard" ({ cls := "SchoolBoard", name := "grantSpan", desc := "(IIIII)I" } : Jvm.MethodName) ({ cls := "SchoolBoard", name := "grantSpan", desc := "(IIIII)I" } : Jvm.MethodName)) ∈ jT := jm3 (List.mem_of_getElem? (i := 24) rfl)
set_option maxRecDepth 100000 in
theorem jw745 : (Jvm.Cond.code ({ cls := "SchoolBoard", name := "grantSpan", desc := "(IIIII)I" } : Jvm.MethodName) prog_1_method_10_code (6 : Nat) (Option.some Jvm.ClassFile.FieldType.int)) ∈ jT := jm3 (List.mem_of_getElem? (i := 25) rfl)
set_option maxRecDepth 100000 in
theorem jw746 : (Jvm.Cond.methodLink "SchoolBoard" (126 : Nat) ({ cls := "SchoolBoard$Register", name := "mayWorkHalf", desc := "(III)Z" } : Jvm.MethodName)) ∈ jT := jm3 (List.mem_of_getElem? (i := 26) rfl)
set_option maxRecDepth 100000 in
theorem jw747 : (Jvm.Cond.instanceMethod ({ cls := "SchoolBoard$Register", name := "mayWorkHalf", desc := "(III)Z" } : Jvm.MethodName)) ∈ jT := jm3 (List.mem_of_getElem? (i := 27) rfl)
set_option maxRecDepth 100000 in
theorem jw748 : (Jvm.Cond.selects "SchoolBoard$Register" ({ cls := "SchoolBoard$Register", name := "mayWorkHalf", desc := "(III)Z" } : Jvm.MethodName) ({ cls := "SchoolBoard$Register", name := "mayWorkHalf", desc := "(III)Z" } : Jvm.MethodName)) ∈ jT := jm3 (List.mem_of_getElem? (i := 28) rfl)
set_option maxRecDepth 100000 in
theorem jw749 : (Jvm.Cond.code ({ cls := "SchoolBoard$Register", name := "mayWorkHalf", desc := "(III)Z" } : Jvm.MethodName) prog_11_method_25_code (6 : Nat) (Option.some Jvm.ClassFile.FieldType.boolean)) ∈ jT := jm3 (List.mem_of_getElem? (i := 29) rfl)
set_option maxRecDepth 100000 in
theorem jw750 : (Jvm.Cond.methodLink "SchoolBoard$Register" (54 : Nat) ({ cls := "SchoolBoard$Register", name := "open", desc := "(III)V" } : Jvm.MethodName)) ∈ jT := jm3 (List.mem_of_getElem? (i := 30) rfl)
set_option maxRecDepth 100000 in
theorem jw751 : (Jvm.Cond.methodLink "SchoolBoard$Register" (192 : Nat) ({ cls := "SchoolBoard$Register", name := "standardIn", desc := "(II)I" } : Jvm.MethodName)) ∈ jT := jm3 (List.mem_of_getElem? (i := 31) rfl)
set_option maxRecDepth 100000 in
theorem jw752 : (Jvm.Cond.instanceMethod ({ cls := "SchoolBoard$Register", name := "standardIn", desc := "(II)I" } : Jvm.MethodName)) ∈ jT := jm3 (List.mem_of_getElem? (i := 32) rfl)
set_option maxRecDepth 100000 in
theorem jw753 : (Jvm.Cond.selects "SchoolBoard$Register" ({ cls := "SchoolBoard$Register", name := "standardIn", desc := "(II)I" } : Jvm.MethodName) ({ cls := "SchoolBoard$Register", name := "standardIn", desc := "(II)I" } : Jvm.MethodName)) ∈ jT := jm3 (List.mem_of_getElem? (i := 33) rfl)
set_option maxRecDepth 100000 in
theorem jw754 : (Jvm.Cond.code ({ cls := "SchoolBoard$Register", name := "standardIn", desc := "(II)I" } : Jvm.MethodName) prog_11_method_24_code (6 : Nat) (Option.some Jvm.ClassFile.FieldType.int)) ∈ jT := jm3 (List.mem_of_getElem? (i := 34) rfl)
set_option maxRecDepth 100000 in
theorem jw755 : (Jvm.Cond.methodLink "SchoolBoard$Register" (183 : Nat) ({ cls := "SchoolBoard$Register", name := "passBits", desc := "(IIII)I" } : Jvm.MethodName)) ∈ jT := jm3 (List.mem_of_getElem? (i := 35) rfl)
set_option maxRecDepth 100000 in
theorem jw756 : (Jvm.Cond.instanceMethod ({ cls := "SchoolBoard$Register", name := "passBits", desc := "(IIII)I" } : Jvm.MethodName)) ∈ jT := jm3 (List.mem_of_getElem? (i := 36) rfl)
set_option maxRecDepth 100000 in
theorem jw757 : (Jvm.Cond.selects "SchoolBoard$Register" ({ cls := "SchoolBoard$Register", name := "passBits", desc := "(IIII)I" } : Jvm.MethodName) ({ cls := "SchoolBoard$Register", name := "passBits", desc := "(IIII)I" } : Jvm.MethodName)) ∈ jT := jm3 (List.mem_of_getElem? (i := 37) rfl)
set_option maxRecDepth 100000 in
theorem jw758 : (Jvm.Cond.code ({ cls := "SchoolBoard$Register", name := "passBits", desc := "(IIII)I" } : Jvm.MethodName) prog_11_method_21_code (8 : Nat) (Option.some Jvm.ClassFile.FieldType.int)) ∈ jT := jm3 (List.mem_of_getElem? (i := 38) rfl)
set_option maxRecDepth 100000 in
theorem jw759 : (Jvm.Cond.methodLink "SchoolBoard$Register" (149 : Nat) ({ cls := "java/util/Arrays", name := "fill", desc := "([II)V" } : Jvm.MethodName)) ∈ jT := jm3 (List.mem_of_getElem? (i := 39) rfl)
set_option maxRecDepth 100000 in
theorem jw760 : (Jvm.Cond.methodLink "SchoolBoard$Register" (167 : Nat) ({ cls := "SchoolBoard$Register", name := "askYear", desc := "(III)V" } : Jvm.MethodName)) ∈ jT := jm3 (List.mem_of_getElem? (i := 40) rfl)
set_option maxRecDepth 100000 in
theorem jw761 : (Jvm.Cond.instanceMethod ({ cls := "SchoolBoard$Register", name := "askYear", desc := "(III)V" } : Jvm.MethodName)) ∈ jT := jm3 (List.mem_of_getElem? (i := 41) rfl)
set_option maxRecDepth 100000 in
theorem jw762 : (Jvm.Cond.selects "SchoolBoard$Register" ({ cls := "SchoolBoard$Register", name := "askYear", desc := "(III)V" } : Jvm.MethodName) ({ cls := "SchoolBoard$Register", name := "askYear", desc := "(III)V" } : Jvm.MethodName)) ∈ jT := jm3 (List.mem_of_getElem? (i := 42) rfl)
set_option maxRecDepth 100000 in
theorem jw763 : (Jvm.Cond.code ({ cls := "SchoolBoard$Register", name := "askYear", desc := "(III)V" } : Jvm.MethodName) prog_11_method_19_code (5 : Nat) (Option.none : Option Jvm.ClassFile.FieldType)) ∈ jT := jm3 (List.mem_of_getElem? (i := 43) rfl)
set_option maxRecDepth 100000 in
theorem jw764 : (Jvm.Cond.methodLink "SchoolBoard$Register" (155 : Nat) ({ cls := "SchoolBoard$People", name := "ageOn", desc := "(II)I" } : Jvm.MethodName)) ∈ jT := jm3 (List.mem_of_getElem? (i := 44) rfl)
set_option maxRecDepth 100000 in
theorem jw765 : (Jvm.Cond.instanceMethod ({ cls := "SchoolBoard$People", name := "ageOn", desc := "(II)I" } : Jvm.MethodName)) ∈ jT := jm3 (List.mem_of_getElem? (i := 45) rfl)
set_option maxRecDepth 100000 in
theorem jw766 : (Jvm.Cond.selects "SchoolBoard$People" ({ cls := "SchoolBoard$People", name := "ageOn", desc := "(II)I" } : Jvm.MethodName) ({ cls := "SchoolBoard$People", name := "ageOn", desc := "(II)I" } : Jvm.MethodName)) ∈ jT := jm3 (List.mem_of_getElem? (i := 46) rfl)
set_option maxRecDepth 100000 in
theorem jw767 : (Jvm.Cond.code ({ cls := "SchoolBoard$People", name := "ageOn", desc := "(II)I" } : Jvm.MethodName) prog_8_method_5_code (3 : Nat) (Option.some Jvm.ClassFile.FieldType.int)) ∈ jT := jm3 (List.mem_of_getElem? (i := 47) rfl)
set_option maxRecDepth 100000 in
theorem jw768 : (Jvm.Cond.methodLink "SchoolBoard$People" (52 : Nat) ({ cls := "java/lang/Math", name := "max", desc := "(II)I" } : Jvm.MethodName)) ∈ jT := jm3 (List.mem_of_getElem? (i := 48) rfl)
set_option maxRecDepth 100000 in
theorem jw769 : (Jvm.Cond.methodLink "SchoolBoard$Register" (164 : Nat) ({ cls := "SchoolBoard$Register", name := "isSpanned", desc := "(III)Z" } : Jvm.MethodName)) ∈ jT := jm3 (List.mem_of_getElem? (i := 49) rfl)
set_option maxRecDepth 100000 in
theorem jw771 : (Jvm.Cond.instanceMethod ({ cls := "SchoolBoard$Register", name := "isSpanned", desc := "(III)Z" } : Jvm.MethodName)) ∈ jT := jm3 (List.mem_of_getElem? (i := 51) rfl)
set_option maxRecDepth 100000 in
theorem jw772 : (Jvm.Cond.code ({ cls := "SchoolBoard$Register", name := "isSpanned", desc := "(III)Z" } : Jvm.MethodName) prog_11_method_20_code (6 : Nat) (Option.some Jvm.ClassFile.FieldType.boolean)) ∈ jT := jm3 (List.mem_of_getElem? (i := 52) rfl)
set_option maxRecDepth 100000 in
theorem jw773 : (Jvm.Cond.methodLink "SchoolBoard$Register" (170 : Nat) ({ cls := "SchoolBoard$Register", name := "isPass", desc := "(III)Z" } : Jvm.MethodName)) ∈ jT := jm3 (List.mem_of_getElem? (i := 53) rfl)
set_option maxRecDepth 100000 in
theorem jw774 : (Jvm.Cond.instanceMethod ({ cls := "SchoolBoard$Register", name := "isPass", desc := "(III)Z" } : Jvm.MethodName)) ∈ jT := jm3 (List.mem_of_getElem? (i := 54) rfl)
set_option maxRecDepth 100000 in
theorem jw775 : (Jvm.Cond.selects "SchoolBoard$Register" ({ cls := "SchoolBoard$Register", name := "isPass", desc := "(III)Z" } : Jvm.MethodName) ({ cls := "SchoolBoard$Register", name := "isPass", desc := "(III)Z" } : Jvm.MethodName)) ∈ jT := jm3 (List.mem_of_getElem? (i := 55) rfl)
set_option maxRecDepth 100000 in
theorem jw776 : (Jvm.Cond.code ({ cls := "SchoolBoard$Register", name := "isPass", desc := "(III)Z" } : Jvm.MethodName) prog_11_method_22_code (5 : Nat) (Option.some Jvm.ClassFile.FieldType.boolean)) ∈ jT := jm3 (List.mem_of_getElem? (i := 56) rfl)
set_option maxRecDepth 100000 in
theorem jw777 : (Jvm.Cond.methodLink "SchoolBoard$Register" (173 : Nat) ({ cls := "SchoolBoard$Register", name := "askSubject", desc := "(II)V" } : Jvm.MethodName)) ∈ jT := jm3 (List.mem_of_getElem? (i := 57) rfl)
set_option maxRecDepth 100000 in
theorem jw778 : (Jvm.Cond.instanceMethod ({ cls := "SchoolBoard$Register", name := "askSubject", desc := "(II)V" } : Jvm.MethodName)) ∈ jT := jm3 (List.mem_of_getElem? (i := 58) rfl)
set_option maxRecDepth 100000 in
theorem jw779 : (Jvm.Cond.selects "SchoolBoard$Register" ({ cls := "SchoolBoard$Register", name := "askSubject", desc := "(II)V" } : Jvm.MethodName) ({ cls := "SchoolBoard$Register", name := "askSubject", desc := "(II)V" } : Jvm.MethodName)) ∈ jT := jm3 (List.mem_of_getElem? (i := 59) rfl)
set_option maxRecDepth 100000 in
theorem jw780 : (Jvm.Cond.code ({ cls := "SchoolBoard$Register", name := "askSubject", desc := "(II)V" } : Jvm.MethodName) prog_11_method_23_code (3 : Nat) (Option.none : Option Jvm.ClassFile.FieldType)) ∈ jT := jm3 (List.mem_of_getElem? (i := 60) rfl)
set_option maxRecDepth 100000 in
theorem jw781 : (Jvm.Cond.methodLink "SchoolBoard$Register" (143 : Nat) ({ cls := "SchoolBoard$Code", name := "tells", desc := "(III[II)I" } : Jvm.MethodName)) ∈ jT := jm3 (List.mem_of_getElem? (i := 61) rfl)
set_option maxRecDepth 100000 in
theorem jw782 : (Jvm.Cond.methodLink "SchoolBoard$Register" (187 : Nat) ({ cls := "java/lang/Integer", name := "bitCount", desc := "(I)I" } : Jvm.MethodName)) ∈ jT := jm3 (List.mem_of_getElem? (i := 62) rfl)
set_option maxRecDepth 100000 in
theorem jw783 : (Jvm.Cond.static ({ cls := "java/lang/Integer", name := "bitCount", desc := "(I)I" } : Jvm.MethodName)) ∈ jT := jm3 (List.mem_of_getElem? (i := 63) rfl)
set_option maxRecDepth 100000 in
theorem jw784 : (Jvm.Cond.code ({ cls := "java/lang/Integer", name := "bitCount", desc := "(I)I" } : Jvm.MethodName) prog_17_method_49_code (1 : Nat) (Option.some Jvm.ClassFile.FieldType.int)) ∈ jT := jm3 (List.mem_of_getElem? (i := 64) rfl)
set_option maxRecDepth 100000 in
theorem jw785 : (Jvm.Cond.constant "java/lang/Integer" (265 : Nat) (1431655765 : Int32)) ∈ jT := jm3 (List.mem_of_getElem? (i := 65) rfl)
set_option maxRecDepth 100000 in
theorem jw786 : (Jvm.Cond.constant "java/lang/Integer" (266 : Nat) (858993459 : Int32)) ∈ jT := jm3 (List.mem_of_getElem? (i := 66) rfl)
set_option maxRecDepth 100000 in
theorem jw787 : (Jvm.Cond.constant "java/lang/Integer" (267 : Nat) (252645135 : Int32)) ∈ jT := jm3 (List.mem_of_getElem? (i := 67) rfl)
set_option maxRecDepth 100000 in
theorem jw788 : (Jvm.Cond.methodLink "SchoolBoardLaw" (55 : Nat) ({ cls := "SchoolBoard", name := "result", desc := "(IIII)I" } : Jvm.MethodName)) ∈ jT := jm3 (List.mem_of_getElem? (i := 68) rfl)
set_option maxRecDepth 100000 in
theorem jw789 : (Jvm.Cond.instanceMethod ({ cls := "SchoolBoard", name := "result", desc := "(IIII)I" } : Jvm.MethodName)) ∈ jT := jm3 (List.mem_of_getElem? (i := 69) rfl)
set_option maxRecDepth 100000 in
theorem jw790 : (Jvm.Cond.selects "SchoolBoard" ({ cls := "SchoolBoard", name := "result", desc := "(IIII)I" } : Jvm.MethodName) ({ cls := "SchoolBoard", name := "result", desc := "(IIII)I" } : Jvm.MethodName)) ∈ jT := jm3 (List.mem_of_getElem? (i := 70) rfl)
set_option maxRecDepth 100000 in
theorem jw791 : (Jvm.Cond.code ({ cls := "SchoolBoard", name := "result", desc := "(IIII)I" } : Jvm.MethodName) prog_1_method_11_code (6 : Nat) (Option.some Jvm.ClassFile.FieldType.int)) ∈ jT := jm3 (List.mem_of_getElem? (i := 71) rfl)
set_option maxRecDepth 100000 in
theorem jw792 : (Jvm.Cond.methodLink "SchoolBoardLaw" (60 : Nat) ({ cls := "SchoolBoard", name := "undo", desc := "(I)Z" } : Jvm.MethodName)) ∈ jT := jm3 (List.mem_of_getElem? (i := 72) rfl)
set_option maxRecDepth 100000 in
theorem jw793 : (Jvm.Cond.instanceMethod ({ cls := "SchoolBoard", name := "undo", desc := "(I)Z" } : Jvm.MethodName)) ∈ jT := jm3 (List.mem_of_getElem? (i := 73) rfl)
set_option maxRecDepth 100000 in
theorem jw794 : (Jvm.Cond.selects "SchoolBoard" ({ cls := "SchoolBoard", name := "undo", desc := "(I)Z" } : Jvm.MethodName) ({ cls := "SchoolBoard", name := "undo", desc := "(I)Z" } : Jvm.MethodName)) ∈ jT := jm3 (List.mem_of_getElem? (i := 74) rfl)
set_option maxRecDepth 100000 in
theorem jw795 : (Jvm.Cond.code ({ cls := "SchoolBoard", name := "undo", desc := "(I)Z" } : Jvm.MethodName) prog_1_method_12_code (2 : Nat) (Option.some Jvm.ClassFile.FieldType.boolean)) ∈ jT := jm3 (List.mem_of_getElem? (i := 75) rfl)
set_option maxRecDepth 100000 in
theorem jw796 : (Jvm.Cond.methodLink "SchoolBoard" (129 : Nat) ({ cls := "SchoolBoard$Book", name := "takeBack", desc := "(II)Z" } : Jvm.MethodName)) ∈ jT := jm3 (List.mem_of_getElem? (i := 76) rfl)
set_option maxRecDepth 100000 in
theorem jw797 : (Jvm.Cond.instanceMethod ({ cls := "SchoolBoard$Book", name := "takeBack", desc := "(II)Z" } : Jvm.MethodName)) ∈ jT := jm3 (List.mem_of_getElem? (i := 77) rfl)
set_option maxRecDepth 100000 in
theorem jw798 : (Jvm.Cond.selects "SchoolBoard$Book" ({ cls := "SchoolBoard$Book", name := "takeBack", desc := "(II)Z" } : Jvm.MethodName) ({ cls := "SchoolBoard$Book", name := "takeBack", desc := "(II)Z" } : Jvm.MethodName)) ∈ jT := jm3 (List.mem_of_getElem? (i := 78) rfl)
set_option maxRecDepth 100000 in
theorem jw799 : (Jvm.Cond.code ({ cls := "SchoolBoard$Book", name := "takeBack", desc := "(II)Z" } : Jvm.MethodName) prog_2_method_5_code (3 : Nat) (Option.some Jvm.ClassFile.FieldType.boolean)) ∈ jT := jm3 (List.mem_of_getElem? (i := 79) rfl)
set_option maxRecDepth 100000 in
theorem jw800 : (Jvm.Cond.methodLinkNest "SchoolBoard$Book" (62 : Nat) ({ cls := "SchoolBoard", name := "within", desc := "(III)Z" } : Jvm.MethodName) "SchoolBoard") ∈ jT := jm3 (List.mem_of_getElem? (i := 80) rfl)
set_option maxRecDepth 100000 in
theorem jw801 : (Jvm.Cond.methodLink "SchoolBoardLaw" (64 : Nat) ({ cls := "SchoolBoard", name := "book", desc := "(II)I" } : Jvm.MethodName)) ∈ jT := jm3 (List.mem_of_getElem? (i := 81) rfl)
set_option maxRecDepth 100000 in
theorem jw802 : (Jvm.Cond.instanceMethod ({ cls := "SchoolBoard", name := "book", desc := "(II)I" } : Jvm.MethodName)) ∈ jT := jm3 (List.mem_of_getElem? (i := 82) rfl)
set_option maxRecDepth 100000 in
theorem jw803 : (Jvm.Cond.selects "SchoolBoard" ({ cls := "SchoolBoard", name := "book", desc := "(II)I" } : Jvm.MethodName) ({ cls := "SchoolBoard", name := "book", desc := "(II)I" } : Jvm.MethodName)) ∈ jT := jm3 (List.mem_of_getElem? (i := 83) rfl)
set_option maxRecDepth 100000 in
theorem jw804 : (Jvm.Cond.code ({ cls := "SchoolBoard", name := "book", desc := "(II)I" } : Jvm.MethodName) prog_1_method_13_code (3 : Nat) (Option.some Jvm.ClassFile.FieldType.int)) ∈ jT := jm3 (List.mem_of_getElem? (i := 84) rfl)
set_option maxRecDepth 100000 in
theorem jw805 : (Jvm.Cond.methodLink "SchoolBoard" (132 : Nat) ({ cls := "SchoolBoard$Book", name := "look", desc := "(II)I" } : Jvm.MethodName)) ∈ jT := jm3 (List.mem_of_getElem? (i := 85) rfl)
set_option maxRecDepth 100000 in
theorem jw806 : (Jvm.Cond.instanceMethod ({ cls := "SchoolBoard$Book", name := "look", desc := "(II)I" } : Jvm.MethodName)) ∈ jT := jm3 (List.mem_of_getElem? (i := 86) rfl)
set_option maxRecDepth 100000 in
theorem jw807 : (Jvm.Cond.selects "SchoolBoard$Book" ({ cls := "SchoolBoard$Book", name := "look", desc := "(II)I" } : Jvm.MethodName) ({ cls := "SchoolBoard$Book", name := "look", desc := "(II)I" } : Jvm.MethodName)) ∈ jT := jm3 (List.mem_of_getElem? (i := 87) rfl)
set_option maxRecDepth 100000 in
theorem jw808 : (Jvm.Cond.code ({ cls := "SchoolBoard$Book", name := "look", desc := "(II)I" } : Jvm.MethodName) prog_2_method_6_code (3 : Nat) (Option.some Jvm.ClassFile.FieldType.int)) ∈ jT := jm3 (List.mem_of_getElem? (i := 88) rfl)
set_option maxRecDepth 100000 in
theorem jw809 : (Jvm.Cond.methodLink "SchoolBoardLaw" (69 : Nat) ({ cls := "SchoolBoard", name := "on", desc := "(III)I" } : Jvm.MethodName)) ∈ jT := jm3 (List.mem_of_getElem? (i := 89) rfl)
set_option maxRecDepth 100000 in
theorem jw810 : (Jvm.Cond.instanceMethod ({ cls := "SchoolBoard", name := "on", desc := "(III)I" } : Jvm.MethodName)) ∈ jT := jm3 (List.mem_of_getElem? (i := 90) rfl)
set_option maxRecDepth 100000 in
theorem jw811 : (Jvm.Cond.selects "SchoolBoard" ({ cls := "SchoolBoard", name := "on", desc := "(III)I" } : Jvm.MethodName) ({ cls := "SchoolBoard", name := "on", desc := "(III)I" } : Jvm.MethodName)) ∈ jT := jm3 (List.mem_of_getElem? (i := 91) rfl)
set_option maxRecDepth 100000 in
theorem jw812 : (Jvm.Cond.code ({ cls := "SchoolBoard", name := "on", desc := "(III)I" } : Jvm.MethodName) prog_1_method_14_code (4 : Nat) (Option.some Jvm.ClassFile.FieldType.int)) ∈ jT := jm3 (List.mem_of_getElem? (i := 92) rfl)
set_option maxRecDepth 100000 in
theorem jw813 : (Jvm.Cond.methodLink "SchoolBoardLaw" (73 : Nat) ({ cls := "SchoolBoard", name := "marked", desc := "(IIII)I" } : Jvm.MethodName)) ∈ jT := jm3 (List.mem_of_getElem? (i := 93) rfl)
set_option maxRecDepth 100000 in
theorem jw814 : (Jvm.Cond.instanceMethod ({ cls := "SchoolBoard", name := "marked", desc := "(IIII)I" } : Jvm.MethodName)) ∈ jT := jm3 (List.mem_of_getElem? (i := 94) rfl)
set_option maxRecDepth 100000 in
theorem jw815 : (Jvm.Cond.selects "SchoolBoard" ({ cls := "SchoolBoard", name := "marked", desc := "(IIII)I" } : Jvm.MethodName) ({ cls := "SchoolBoard", name := "marked", desc := "(IIII)I" } : Jvm.MethodName)) ∈ jT := jm3 (List.mem_of_getElem? (i := 95) rfl)
set_option maxRecDepth 100000 in
theorem jw816 : (Jvm.Cond.code ({ cls := "SchoolBoard", name := "marked", desc := "(IIII)I" } : Jvm.MethodName) prog_1_method_15_code (5 : Nat) (Option.some Jvm.ClassFile.FieldType.int)) ∈ jT := jm3 (List.mem_of_getElem? (i := 96) rfl)
set_option maxRecDepth 100000 in
theorem jw817 : (Jvm.Cond.methodLink "SchoolBoard" (150 : Nat) ({ cls := "SchoolBoard$Register", name := "markOf", desc := "(II)I" } : Jvm.MethodName)) ∈ jT := jm3 (List.mem_of_getElem? (i := 97) rfl)
set_option maxRecDepth 100000 in
theorem jw818 : (Jvm.Cond.instanceMethod ({ cls := "SchoolBoard$Register", name := "markOf", desc := "(II)I" } : Jvm.MethodName)) ∈ jT := jm3 (List.mem_of_getElem? (i := 98) rfl)
set_option maxRecDepth 100000 in
theorem jw819 : (Jvm.Cond.selects "SchoolBoard$Register" ({ cls := "SchoolBoard$Register", name := "markOf", desc := "(II)I" } : Jvm.MethodName) ({ cls := "SchoolBoard$Register", name := "markOf", desc := "(II)I" } : Jvm.MethodName)) ∈ jT := jm3 (List.mem_of_getElem? (i := 99) rfl)
set_option maxRecDepth 100000 in
theorem jw820 : (Jvm.Cond.code ({ cls := "SchoolBoard$Register", name := "markOf", desc := "(II)I" } : Jvm.MethodName) prog_11_method_10_code (3 : Nat) (Option.some Jvm.ClassFile.FieldType.int)) ∈ jT := jm3 (List.mem_of_getElem? (i := 100) rfl)
set_option maxRecDepth 100000 in
theorem jw821 : (Jvm.Cond.methodLink "SchoolBoardLaw" (77 : Nat) ({ cls := "SchoolBoard", name := "quarters", desc := "(IIIII)I" } : Jvm.MethodName)) ∈ jT := jm3 (List.mem_of_getElem? (i := 101) rfl)
set_option maxRecDepth 100000 in
theorem jw822 : (Jvm.Cond.instanceMethod ({ cls := "SchoolBoard", name := "quarters", desc := "(IIIII)I" } : Jvm.MethodName)) ∈ jT := jm3 (List.mem_of_getElem? (i := 102) rfl)
set_option maxRecDepth 100000 in
theorem jw823 : (Jvm.Cond.selects "SchoolBoard" ({ cls := "SchoolBoard", name := "quarters", desc := "(IIIII)I" } : Jvm.MethodName) ({ cls := "SchoolBoard", name := "quarters", desc := "(IIIII)I" } : Jvm.MethodName)) ∈ jT := jm3 (List.mem_of_getElem? (i := 103) rfl)
set_option maxRecDepth 100000 in
theorem jw824 : (Jvm.Cond.code ({ cls := "SchoolBoard", name := "quarters", desc := "(IIIII)I" } : Jvm.MethodName) prog_1_method_16_code (7 : Nat) (Option.some Jvm.ClassFile.FieldType.int)) ∈ jT := jm3 (List.mem_of_getElem? (i := 104) rfl)
set_option maxRecDepth 100000 in
theorem jw825 : (Jvm.Cond.methodLink "SchoolBoard" (153 : Nat) ({ cls := "SchoolBoard", name := "isYear", desc := "(I)Z" } : Jvm.MethodName)) ∈ jT := jm3 (List.mem_of_getElem? (i := 105) rfl)
set_option maxRecDepth 100000 in
theorem jw826 : (Jvm.Cond.static ({ cls := "SchoolBoard", name := "isYear", desc := "(I)Z" } : Jvm.MethodName)) ∈ jT := jm3 (List.mem_of_getElem? (i := 106) rfl)
set_option maxRecDepth 100000 in
theorem jw827 : (Jvm.Cond.code ({ cls := "SchoolBoard", name := "isYear", desc := "(I)Z" } : Jvm.MethodName) prog_1_method_49_code (1 : Nat) (Option.some Jvm.ClassFile.FieldType.boolean)) ∈ jT := jm3 (List.mem_of_getElem? (i := 107) rfl)
set_option maxRecDepth 100000 in
theorem jw828 : (Jvm.Cond.methodLink "SchoolBoard" (156 : Nat) ({ cls := "SchoolBoard$Register", name := "standardIn", desc := "(II)I" } : Jvm.MethodName)) ∈ jT := jm3 (List.mem_of_getElem? (i := 108) rfl)
set_option maxRecDepth 100000 in
theorem jw829 : (Jvm.Cond.methodLink "SchoolBoard" (159 : Nat) ({ cls := "SchoolBoard$Register", name := "quartersOf", desc := "(III)I" } : Jvm.MethodName)) ∈ jT := jm3 (List.mem_of_getElem? (i := 109) rfl)
set_option maxRecDepth 100000 in
theorem jw830 : (Jvm.Cond.instanceMethod ({ cls := "SchoolBoard$Register", name := "quartersOf", desc := "(III)I" } : Jvm.MethodName)) ∈ jT := jm3 (List.mem_of_getElem? (i := 110) rfl)
set_option maxRecDepth 100000 in
theorem jw831 : (Jvm.Cond.selects "SchoolBoard$Register" ({ cls := "SchoolBoard$Register", name := "quartersOf", desc := "(III)I" } : Jvm.MethodName) ({ cls := "SchoolBoard$Register", name := "quartersOf", desc := "(III)I" } : Jvm.MethodName)) ∈ jT := jm3 (List.mem_of_getElem? (i := 111) rfl)
set_option maxRecDepth 100000 in
theorem jw832 : (Jvm.Cond.code ({ cls := "SchoolBoard$Register", name := "quartersOf", desc := "(III)I" } : Jvm.MethodName) prog_11_method_14_code (6 : Nat) (Option.some Jvm.ClassFile.FieldType.int)) ∈ jT := jm3 (List.mem_of_getElem? (i := 112) rfl)
set_option maxRecDepth 100000 in
theorem jw833 : (Jvm.Cond.methodLink "SchoolBoard$Register" (133 : Nat) ({ cls := "SchoolBoard$Register", name := "isTaught", desc := "(I)Z" } : Jvm.MethodName)) ∈ jT := jm3 (List.mem_of_getElem? (i := 113) rfl)
set_option maxRecDepth 100000 in
theorem jw835 : (Jvm.Cond.instanceMethod ({ cls := "SchoolBoard$Register", name := "isTaught", desc := "(I)Z" } : Jvm.MethodName)) ∈ jT := jm3 (List.mem_of_getElem? (i := 115) rfl)
set_option maxRecDepth 100000 in
theorem jw836 : (Jvm.Cond.code ({ cls := "SchoolBoard$Register", name := "isTaught", desc := "(I)Z" } : Jvm.MethodName) prog_11_method_13_code (3 : Nat) (Option.some Jvm.ClassFile.FieldType.boolean)) ∈ jT := jm3 (List.mem_of_getElem? (i := 116) rfl)
set_option maxRecDepth 100000 in
theorem jw837 : (Jvm.Cond.methodLink "SchoolBoard$Register" (130 : Nat) ({ cls := "SchoolBoard$Register", name := "placeOn", desc := "(I)I" } : Jvm.MethodName)) ∈ jT := jm3 (List.mem_of_getElem? (i := 117) rfl)
set_option maxRecDepth 100000 in
theorem jw838 : (Jvm.Cond.methodLink "SchoolBoard$Register" (127 : Nat) ({ cls := "SchoolBoard$Register", name := "isShut", desc := "(II)Z" } : Jvm.MethodName)) ∈ jT := jm3 (List.mem_of_getElem? (i := 118) rfl)
set_option maxRecDepth 100000 in
theorem jw840 : (Jvm.Cond.instanceMethod ({ cls := "SchoolBoard$Register", name := "isShut", desc := "(II)Z" } : Jvm.MethodName)) ∈ jT := jm3 (List.mem_of_getElem? (i := 120) rfl)
set_option maxRecDepth 100000 in
theorem jw841 : (Jvm.Cond.code ({ cls := "SchoolBoard$Register", name := "isShut", desc := "(II)Z" } : Jvm.MethodName) prog_11_method_12_code (3 : Nat) (Option.some Jvm.ClassFile.FieldType.boolean)) ∈ jT := jm3 (List.mem_of_getElem? (i := 121) rfl)
set_option maxRecDepth 100000 in
theorem jw842 : (Jvm.Cond.methodLink "SchoolBoard$Register" (137 : Nat) ({ cls := "SchoolBoard$Register", name := "markOf", desc := "(II)I" } : Jvm.MethodName)) ∈ jT := jm3 (List.mem_of_getElem? (i := 122) rfl)
set_option maxRecDepth 100000 in
theorem jw843 : (Jvm.Cond.methodLink "SchoolBoard$Register" (140 : Nat) ({ cls := "SchoolBoard$Register", name := "askDay", desc := "(I)V" } : Jvm.MethodName)) ∈ jT := jm3 (List.mem_of_getElem? (i := 123) rfl)
set_option maxRecDepth 100000 in
theorem jw845 : (Jvm.Cond.instanceMethod ({ cls := "SchoolBoard$Register", name := "askDay", desc := "(I)V" } : Jvm.MethodName)) ∈ jT := jm3 (List.mem_of_getElem? (i := 125) rfl)
set_option maxRecDepth 100000 in
theorem jw846 : (Jvm.Cond.code ({ cls := "SchoolBoard$Register", name := "askDay", desc := "(I)V" } : Jvm.MethodName) prog_11_method_15_code (3 : Nat) (Option.none : Option Jvm.ClassFile.FieldType)) ∈ jT := jm3 (List.mem_of_getElem? (i := 126) rfl)
set_option maxRecDepth 100000 in
theorem jw847 : (Jvm.Cond.methodLink "SchoolBoardLaw" (81 : Nat) ({ cls := "SchoolBoard", name := "yearly", desc := "(IIII)I" } : Jvm.MethodName)) ∈ jT := jm3 (List.mem_of_getElem? (i := 127) rfl)
set_option maxRecDepth 100000 in
theorem jw848 : (Jvm.Cond.instanceMethod ({ cls := "SchoolBoard", name := "yearly", desc := "(IIII)I" } : Jvm.MethodName)) ∈ jT := jm3 (List.mem_of_getElem? (i := 128) rfl)
set_option maxRecDepth 100000 in
theorem jw849 : (Jvm.Cond.selects "SchoolBoard" ({ cls := "SchoolBoard", name := "yearly", desc := "(IIII)I" } : Jvm.MethodName) ({ cls := "SchoolBoard", name := "yearly", desc := "(IIII)I" } : Jvm.MethodName)) ∈ jT := jm3 (List.mem_of_getElem? (i := 129) rfl)
set_option maxRecDepth 100000 in
theorem jw850 : (Jvm.Cond.code ({ cls := "SchoolBoard", name := "yearly", desc := "(IIII)I" } : Jvm.MethodName) prog_1_method_17_code (5 : Nat) (Option.some Jvm.ClassFile.FieldType.int)) ∈ jT := jm3 (List.mem_of_getElem? (i := 130) rfl)
set_option maxRecDepth 100000 in
theorem jw851 : (Jvm.Cond.methodLink "SchoolBoard" (162 : Nat) ({ cls := "SchoolBoard$Register", name := "openYear", desc := "(II)V" } : Jvm.MethodName)) ∈ jT := jm3 (List.mem_of_getElem? (i := 131) rfl)
set_option maxRecDepth 100000 in
theorem jw852 : (Jvm.Cond.instanceMethod ({ cls := "SchoolBoard$Register", name := "openYear", desc := "(II)V" } : Jvm.MethodName)) ∈ jT := jm3 (List.mem_of_getElem? (i := 132) rfl)
set_option maxRecDepth 100000 in
theorem jw853 : (Jvm.Cond.selects "SchoolBoard$Register" ({ cls := "SchoolBoard$Register", name := "openYear", desc := "(II)V" } : Jvm.MethodName) ({ cls := "SchoolBoard$Register", name := "openYear", desc := "(II)V" } : Jvm.MethodName)) ∈ jT := jm3 (List.mem_of_getElem? (i := 133) rfl)
set_option maxRecDepth 100000 in
theorem jw854 : (Jvm.Cond.code ({ cls := "SchoolBoard$Register", name := "openYear", desc := "(II)V" } : Jvm.MethodName) prog_11_method_2_code (3 : Nat) (Option.none : Option Jvm.ClassFile.FieldType)) ∈ jT := jm3 (List.mem_of_getElem? (i := 134) rfl)
set_option maxRecDepth 100000 in
theorem jw855 : (Jvm.Cond.methodLink "SchoolBoard" (166 : Nat) ({ cls := "SchoolBoard$Register", name := "quartersLaid", desc := "(I)I" } : Jvm.MethodName)) ∈ jT := jm3 (List.mem_of_getElem? (i := 135) rfl)
set_option maxRecDepth 100000 in
theorem jw856 : (Jvm.Cond.instanceMethod ({ cls := "SchoolBoard$Register", name := "quartersLaid", desc := "(I)I" } : Jvm.MethodName)) ∈ jT := jm3 (List.mem_of_getElem? (i := 136) rfl)
set_option maxRecDepth 100000 in
theorem jw857 : (Jvm.Cond.selects "SchoolBoard$Register" ({ cls := "SchoolBoard$Register", name := "quartersLaid", desc := "(I)I" } : Jvm.MethodName) ({ cls := "SchoolBoard$Register", name := "quartersLaid", desc := "(I)I" } : Jvm.MethodName)) ∈ jT := jm3 (List.mem_of_getElem? (i := 137) rfl)
set_option maxRecDepth 100000 in
theorem jw858 : (Jvm.Cond.code ({ cls := "SchoolBoard$Register", name := "quartersLaid", desc := "(I)I" } : Jvm.MethodName) prog_11_method_16_code (4 : Nat) (Option.some Jvm.ClassFile.FieldType.int)) ∈ jT := jm3 (List.mem_of_getElem? (i := 138) rfl)
set_option maxRecDepth 100000 in
theorem jw859 : (Jvm.Cond.methodLink "SchoolBoard$Register" (160 : Nat) ({ cls := "SchoolBoard$Register", name := "quartersOf", desc := "(III)I" } : Jvm.MethodName)) ∈ jT := jm3 (List.mem_of_getElem? (i := 139) rfl)
set_option maxRecDepth 100000 in
theorem jw860 : (Jvm.Cond.methodLink "SchoolBoardLaw" (85 : Nat) ({ cls := "SchoolBoard", name := "standard", desc := "(III)I" } : Jvm.MethodName)) ∈ jT := jm3 (List.mem_of_getElem? (i := 140) rfl)
set_option maxRecDepth 100000 in
theorem jw861 : (Jvm.Cond.instanceMethod ({ cls := "SchoolBoard", name := "standard", desc := "(III)I" } : Jvm.MethodName)) ∈ jT := jm3 (List.mem_of_getElem? (i := 141) rfl)
set_option maxRecDepth 100000 in
theorem jw862 : (Jvm.Cond.selects "SchoolBoard" ({ cls := "SchoolBoard", name := "standard", desc := "(III)I" } : Jvm.MethodName) ({ cls := "SchoolBoard", name := "standard", desc := "(III)I" } : Jvm.MethodName)) ∈ jT := jm3 (List.mem_of_getElem? (i := 142) rfl)
set_option maxRecDepth 100000 in
theorem jw863 : (Jvm.Cond.code ({ cls := "SchoolBoard", name := "standard", desc := "(III)I" } : Jvm.MethodName) prog_1_method_18_code (4 : Nat) (Option.some Jvm.ClassFile.FieldType.int)) ∈ jT := jm3 (List.mem_of_getElem? (i := 143) rfl)
set_option maxRecDepth 100000 in
theorem jw864 : (Jvm.Cond.methodLink "SchoolBoardLaw" (89 : Nat) ({ cls := "SchoolBoard", name := "passes", desc := "(IIII)I" } : Jvm.MethodName)) ∈ jT := jm3 (List.mem_of_getElem? (i := 144) rfl)
set_option maxRecDepth 100000 in
theorem jw865 : (Jvm.Cond.instanceMethod ({ cls := "SchoolBoard", name := "passes", desc := "(IIII)I" } : Jvm.MethodName)) ∈ jT := jm3 (List.mem_of_getElem? (i := 145) rfl)
set_option maxRecDepth 100000 in
theorem jw866 : (Jvm.Cond.selects "SchoolBoard" ({ cls := "SchoolBoard", name := "passes", desc := "(IIII)I" } : Jvm.MethodName) ({ cls := "SchoolBoard", name := "passes", desc := "(IIII)I" } : Jvm.MethodName)) ∈ jT := jm3 (List.mem_of_getElem? (i := 146) rfl)
set_option maxRecDepth 100000 in
theorem jw867 : (Jvm.Cond.code ({ cls := "SchoolBoard", name := "passes", desc := "(IIII)I" } : Jvm.MethodName) prog_1_method_19_code (5 : Nat) (Option.some Jvm.ClassFile.FieldType.int)) ∈ jT := jm3 (List.mem_of_getElem? (i := 147) rfl)
set_option maxRecDepth 100000 in
theorem jw868 : (Jvm.Cond.methodLink "SchoolBoard" (169 : Nat) ({ cls := "SchoolBoard$Register", name := "passBits", desc := "(IIII)I" } : Jvm.MethodName)) ∈ jT := jm3 (List.mem_of_getElem? (i := 148) rfl)
set_option maxRecDepth 100000 in
theorem jw869 : (Jvm.Cond.methodLink "SchoolBoardLaw" (93 : Nat) ({ cls := "SchoolBoard", name := "grant", desc := "(IIIII)I" } : Jvm.MethodName)) ∈ jT := jm3 (List.mem_of_getElem? (i := 149) rfl)
set_option maxRecDepth 100000 in
theorem jw870 : (Jvm.Cond.instanceMethod ({ cls := "SchoolBoard", name := "grant", desc := "(IIIII)I" } : Jvm.MethodName)) ∈ jT := jm3 (List.mem_of_getElem? (i := 150) rfl)
set_option maxRecDepth 100000 in
theorem jw871 : (Jvm.Cond.selects "SchoolBoard" ({ cls := "SchoolBoard", name := "grant", desc := "(IIIII)I" } : Jvm.MethodName) ({ cls := "SchoolBoard", name := "grant", desc := "(IIIII)I" } : Jvm.MethodName)) ∈ jT := jm3 (List.mem_of_getElem? (i := 151) rfl)
set_option maxRecDepth 100000 in
theorem jw872 : (Jvm.Cond.code ({ cls := "SchoolBoard", name := "grant", desc := "(IIIII)I" } : Jvm.MethodName) prog_1_method_20_code (6 : Nat) (Option.some Jvm.ClassFile.FieldType.int)) ∈ jT := jm3 (List.mem_of_getElem? (i := 152) rfl)
set_option maxRecDepth 100000 in
theorem jw873 : (Jvm.Cond.methodLink "SchoolBoard" (172 : Nat) ({ cls := "SchoolBoard", name := "isGrant", desc := "(IIII)Z" } : Jvm.MethodName)) ∈ jT := jm3 (List.mem_of_getElem? (i := 153) rfl)
set_option maxRecDepth 100000 in
theorem jw875 : (Jvm.Cond.instanceMethod ({ cls := "SchoolBoard", name := "isGrant", desc := "(IIII)Z" } : Jvm.MethodName)) ∈ jT := jm3 (List.mem_of_getElem? (i := 155) rfl)
set_option maxRecDepth 100000 in
theorem jw876 : (Jvm.Cond.code ({ cls := "SchoolBoard", name := "isGrant", desc := "(IIII)Z" } : Jvm.MethodName) prog_1_method_54_code (5 : Nat) (Option.some Jvm.ClassFile.FieldType.boolean)) ∈ jT := jm3 (List.mem_of_getElem? (i := 156) rfl)
set_option maxRecDepth 100000 in
theorem jw877 : (Jvm.Cond.methodLink "SchoolBoard" (176 : Nat) ({ cls := "SchoolBoard$Grants", name := "reckon", desc := "(IIIII)V" } : Jvm.MethodName)) ∈ jT := jm3 (List.mem_of_getElem? (i := 157) rfl)
set_option maxRecDepth 100000 in
theorem jw878 : (Jvm.Cond.instanceMethod ({ cls := "SchoolBoard$Grants", name := "reckon", desc := "(IIIII)V" } : Jvm.MethodName)) ∈ jT := jm3 (List.mem_of_getElem? (i := 158) rfl)
set_option maxRecDepth 100000 in
theorem jw879 : (Jvm.Cond.selects "SchoolBoard$Grants" ({ cls := "SchoolBoard$Grants", name := "reckon", desc := "(IIIII)V" } : Jvm.MethodName) ({ cls := "SchoolBoard$Grants", name := "reckon", desc := "(IIIII)V" } : Jvm.MethodName)) ∈ jT := jm3 (List.mem_of_getElem? (i := 159) rfl)
set_option maxRecDepth 100000 in
theorem jw880 : (Jvm.Cond.code ({ cls := "SchoolBoard$Grants", name := "reckon", desc := "(IIIII)V" } : Jvm.MethodName) prog_6_method_2_code (9 : Nat) (Option.none : Option Jvm.ClassFile.FieldType)) ∈ jT := jm3 (List.mem_of_getElem? (i := 160) rfl)
set_option maxRecDepth 100000 in
theorem jw881 : (Jvm.Cond.methodLink "SchoolBoard$Grants" (67 : Nat) ({ cls := "SchoolBoard$Grants", name := "reckonAverage", desc := "()V" } : Jvm.MethodName)) ∈ jT := jm3 (List.mem_of_getElem? (i := 161) rfl)
set_option maxRecDepth 100000 in
theorem jw883 : (Jvm.Cond.instanceMethod ({ cls := "SchoolBoard$Grants", name := "reckonAverage", desc := "()V" } : Jvm.MethodName)) ∈ jT := jm3 (List.mem_of_getElem? (i := 163) rfl)
set_option maxRecDepth 100000 in
theorem jw884 : (Jvm.Cond.code ({ cls := "SchoolBoard$Grants", name := "reckonAverage", desc := "()V" } : Jvm.MethodName) prog_6_method_3_code (3 : Nat) (Option.none : Option Jvm.ClassFile.FieldType)) ∈ jT := jm3 (List.mem_of_getElem? (i := 164) rfl)
set_option maxRecDepth 100000 in
theorem jw885 : (Jvm.Cond.methodLink "SchoolBoard$Grants" (96 : Nat) ({ cls := "SchoolBoard$Register", name := "openYear", desc := "(II)V" } : Jvm.MethodName)) ∈ jT := jm3 (List.mem_of_getElem? (i := 165) rfl)
set_option maxRecDepth 100000 in
theorem jw886 : (Jvm.Cond.methodLink "SchoolBoard$Grants" (102 : Nat) ({ cls := "SchoolBoard$Register", name := "daysOpen", desc := "(I)I" } : Jvm.MethodName)) ∈ jT := jm3 (List.mem_of_getElem? (i := 166) rfl)
set_option maxRecDepth 100000 in
theorem jw887 : (Jvm.Cond.instanceMethod ({ cls := "SchoolBoard$Register", name := "daysOpen", desc := "(I)I" } : Jvm.MethodName)) ∈ jT := jm3 (List.mem_of_getElem? (i := 167) rfl)
set_option maxRecDepth 100000 in
theorem jw888 : (Jvm.Cond.selects "SchoolBoard$Register" ({ cls := "SchoolBoard$Register", name := "daysOpen", desc := "(I)I" } : Jvm.MethodName) ({ cls := "SchoolBoard$Register", name := "daysOpen", desc := "(I)I" } : Jvm.MethodName)) ∈ jT := jm3 (List.mem_of_getElem? (i := 168) rfl)
set_option maxRecDepth 100000 in
theorem jw889 : (Jvm.Cond.code ({ cls := "SchoolBoard$Register", name := "daysOpen", desc := "(I)I" } : Jvm.MethodName) prog_11_method_11_code (4 : Nat) (Option.some Jvm.ClassFile.FieldType.int)) ∈ jT := jm3 (List.mem_of_getElem? (i := 169) rfl)
set_option maxRecDepth 100000 in
theorem jw890 : (Jvm.Cond.methodLink "SchoolBoard$Grants" (109 : Nat) ({ cls := "SchoolBoard$Register", name := "standardIn", desc := "(II)I" } : Jvm.MethodName)) ∈ jT := jm3 (List.mem_of_getElem? (i := 170) rfl)
set_option maxRecDepth 100000 in
theorem jw891 : (Jvm.Cond.methodLink "SchoolBoard$Grants" (112 : Nat) ({ cls := "SchoolBoard$Register", name := "lay", desc := "(I)V" } : Jvm.MethodName)) ∈ jT := jm3 (List.mem_of_getElem? (i := 171) rfl)
set_option maxRecDepth 100000 in
theorem jw892 : (Jvm.Cond.methodLink "SchoolBoard$Grants" (115 : Nat) ({ cls := "SchoolBoard$Register", name := "placeOn", desc := "(I)I" } : Jvm.MethodName)) ∈ jT := jm3 (List.mem_of_getElem? (i := 172) rfl)
set_option maxRecDepth 100000 in
theorem jw893 : (Jvm.Cond.methodLink "SchoolBoard$Grants" (118 : Nat) ({ cls := "SchoolBoard$Register", name := "quartersLaidAt", desc := "(II)I" } : Jvm.MethodName)) ∈ jT := jm3 (List.mem_of_getElem? (i := 173) rfl)
set_option maxRecDepth 100000 in
theorem jw894 : (Jvm.Cond.instanceMethod ({ cls := "SchoolBoard$Register", name := "quartersLaidAt", desc := "(II)I" } : Jvm.MethodName)) ∈ jT := jm3 (List.mem_of_getElem? (i := 174) rfl)
set_option maxRecDepth 100000 in
theorem jw895 : (Jvm.Cond.selects "SchoolBoard$Register" ({ cls := "SchoolBoard$Register", name := "quartersLaidAt", desc := "(II)I" } : Jvm.MethodName) ({ cls := "SchoolBoard$Register", name := "quartersLaidAt", desc := "(II)I" } : Jvm.MethodName)) ∈ jT := jm3 (List.mem_of_getElem? (i := 175) rfl)
set_option maxRecDepth 100000 in
theorem jw896 : (Jvm.Cond.code ({ cls := "SchoolBoard$Register", name := "quartersLaidAt", desc := "(II)I" } : Jvm.MethodName) prog_11_method_17_code (5 : Nat) (Option.some Jvm.ClassFile.FieldType.int)) ∈ jT := jm3 (List.mem_of_getElem? (i := 176) rfl)
set_option maxRecDepth 100000 in
theorem jw897 : (Jvm.Cond.methodLink "SchoolBoard$Grants" (121 : Nat) ({ cls := "SchoolBoard$Register", name := "quartersLaid", desc := "(I)I" } : Jvm.MethodName)) ∈ jT := jm3 (List.mem_of_getElem? (i := 177) rfl)
set_option maxRecDepth 100000 in
theorem jw898 : (Jvm.Cond.methodLink "SchoolBoard$Grants" (70 : Nat) ({ cls := "SchoolBoard$Code", name := "least", desc := "(IIII)I" } : Jvm.MethodName)) ∈ jT := jm3 (List.mem_of_getElem? (i := 178) rfl)
set_option maxRecDepth 100000 in
theorem jw899 : (Jvm.Cond.methodLink "SchoolBoard$Grants" (74 : Nat) ({ cls := "SchoolBoard$People", name := "teachersAt", desc := "(II)I" } : Jvm.MethodName)) ∈ jT := jm3 (List.mem_of_getElem? (i := 179) rfl)
set_option maxRecDepth 100000 in
theorem jw900 : (Jvm.Cond.instanceMethod ({ cls := "SchoolBoard$People", name := "teachersAt", desc := "(II)I" } : Jvm.MethodName)) ∈ jT := jm3 (List.mem_of_getElem? (i := 180) rfl)
set_option maxRecDepth 100000 in
theorem jw901 : (Jvm.Cond.selects "SchoolBoard$People" ({ cls := "SchoolBoard$People", name := "teachersAt", desc := "(II)I" } : Jvm.MethodName) ({ cls := "SchoolBoard$People", name := "teachersAt", desc := "(II)I" } : Jvm.MethodName)) ∈ jT := jm3 (List.mem_of_getElem? (i := 181) rfl)
set_option maxRecDepth 100000 in
theorem jw902 : (Jvm.Cond.code ({ cls := "SchoolBoard$People", name := "teachersAt", desc := "(II)I" } : Jvm.MethodName) prog_8_method_6_code (5 : Nat) (Option.some Jvm.ClassFile.FieldType.int)) ∈ jT := jm3 (List.mem_of_getElem? (i := 182) rfl)
set_option maxRecDepth 100000 in
theorem jw903 : (Jvm.Cond.methodLink "SchoolBoard$Grants" (83 : Nat) ({ cls := "SchoolBoard$Grants", name := "addHeads", desc := "()V" } : Jvm.MethodName)) ∈ jT := jm3 (List.mem_of_getElem? (i := 183) rfl)
set_option maxRecDepth 100000 in
theorem jw905 : (Jvm.Cond.instanceMethod ({ cls := "SchoolBoard$Grants", name := "addHeads", desc := "()V" } : Jvm.MethodName)) ∈ jT := jm3 (List.mem_of_getElem? (i := 185) rfl)
set_option maxRecDepth 100000 in
theorem jw906 : (Jvm.Cond.code ({ cls := "SchoolBoard$Grants", name := "addHeads", desc := "()V" } : Jvm.MethodName) prog_6_method_4_code (6 : Nat) (Option.none : Option Jvm.ClassFile.FieldType)) ∈ jT := jm3 (List.mem_of_getElem? (i := 186) rfl)
set_option maxRecDepth 100000 in
theorem jw907 : (Jvm.Cond.methodLink "SchoolBoard$Grants" (130 : Nat) ({ cls := "java/util/Arrays", name := "fill", desc := "([II)V" } : Jvm.MethodName)) ∈ jT := jm3 (List.mem_of_getElem? (i := 187) rfl)
set_option maxRecDepth 100000 in
theorem jw908 : (Jvm.Cond.methodLink "SchoolBoard$Grants" (136 : Nat) ({ cls := "java/lang/Math", name := "min", desc := "(II)I" } : Jvm.MethodName)) ∈ jT := jm3 (List.mem_of_getElem? (i := 188) rfl)
set_option maxRecDepth 100000 in
theorem jw909 : (Jvm.Cond.methodLink "SchoolBoard$Grants" (141 : Nat) ({ cls := "SchoolBoard$Code", name := "endOf", desc := "(II)I" } : Jvm.MethodName)) ∈ jT := jm3 (List.mem_of_getElem? (i := 189) rfl)
set_option maxRecDepth 100000 in
theorem jw910 : (Jvm.Cond.methodLink "SchoolBoard$Grants" (144 : Nat) ({ cls := "SchoolBoard$Code", name := "firstOf", desc := "(II)I" } : Jvm.MethodName)) ∈ jT := jm3 (List.mem_of_getElem? (i := 190) rfl)
set_option maxRecDepth 100000 in
theorem jw911 : (Jvm.Cond.methodLink "SchoolBoard$Grants" (156 : Nat) ({ cls := "SchoolBoard$Clause", name := "isMet", desc := "([I)Z" } : Jvm.MethodName)) ∈ jT := jm3 (List.mem_of_getElem? (i := 191) rfl)
set_option maxRecDepth 100000 in
theorem jw912 : (Jvm.Cond.instanceMethod ({ cls := "SchoolBoard$Clause", name := "isMet", desc := "([I)Z" } : Jvm.MethodName)) ∈ jT := jm3 (List.mem_of_getElem? (i := 192) rfl)
set_option maxRecDepth 100000 in
theorem jw913 : (Jvm.Cond.selects "SchoolBoard$Clause" ({ cls := "SchoolBoard$Clause", name := "isMet", desc := "([I)Z" } : Jvm.MethodName) ({ cls := "SchoolBoard$Clause", name := "isMet", desc := "([I)Z" } : Jvm.MethodName)) ∈ jT := jm3 (List.mem_of_getElem? (i := 193) rfl)
set_option maxRecDepth 100000 in
theorem jw914 : (Jvm.Cond.code ({ cls := "SchoolBoard$Clause", name := "isMet", desc := "([I)Z" } : Jvm.MethodName) prog_3_method_3_code (2 : Nat) (Option.some Jvm.ClassFile.FieldType.boolean)) ∈ jT := jm3 (List.mem_of_getElem? (i := 194) rfl)
set_option maxRecDepth 100000 in
theorem jw915 : (Jvm.Cond.methodLinkNest "SchoolBoard$Clause" (31 : Nat) ({ cls := "SchoolBoard$Node", name := "isTrue", desc := "(LSchoolBoard$Node;[II)Z" } : Jvm.MethodName) "SchoolBoard") ∈ jT := jm3 (List.mem_of_getElem? (i := 195) rfl)
set_option maxRecDepth 100000 in
theorem jw916 : (Jvm.Cond.methodLink "SchoolBoard$Grants" (166 : Nat) ({ cls := "SchoolBoard$Grants", name := "add", desc := "(III)V" } : Jvm.MethodName)) ∈ jT := jm3 (List.mem_of_getElem? (i := 196) rfl)
set_option maxRecDepth 100000 in
theorem jw918 : (Jvm.Cond.instanceMethod ({ cls := "SchoolBoard$Grants", name := "add", desc := "(III)V" } : Jvm.MethodName)) ∈ jT := jm3 (List.mem_of_getElem? (i := 198) rfl)
set_option maxRecDepth 100000 in
theorem jw919 : (Jvm.Cond.code ({ cls := "SchoolBoard$Grants", name := "add", desc := "(III)V" } : Jvm.MethodName) prog_6_method_7_code (4 : Nat) (Option.none : Option Jvm.ClassFile.FieldType)) ∈ jT := jm3 (List.mem_of_getElem? (i := 199) rfl)
set_option maxRecDepth 100000 in
theorem jw920 : (Jvm.Cond.methodLink "SchoolBoard$Grants" (89 : Nat) ({ cls := "SchoolBoard$Grants", name := "addChildsLines", desc := "(I)V" } : Jvm.MethodName)) ∈ jT := jm3 (List.mem_of_getElem? (i := 200) rfl)
set_option maxRecDepth 100000 in
theorem jw922 : (Jvm.Cond.instanceMethod ({ cls := "SchoolBoard$Grants", name := "addChildsLines", desc := "(I)V" } : Jvm.MethodName)) ∈ jT := jm3 (List.mem_of_getElem? (i := 202) rfl)
set_option maxRecDepth 100000 in
theorem jw923 : (Jvm.Cond.code ({ cls := "SchoolBoard$Grants", name := "addChildsLines", desc := "(I)V" } : Jvm.MethodName) prog_6_method_5_code (7 : Nat) (Option.none : Option Jvm.ClassFile.FieldType)) ∈ jT := jm3 (List.mem_of_getElem? (i := 203) rfl)
set_option maxRecDepth 100000 in
theorem jw924 : (Jvm.Cond.methodLink "SchoolBoard$Grants" (170 : Nat) ({ cls := "SchoolBoard$Register", name := "passBits", desc := "(IIII)I" } : Jvm.MethodName)) ∈ jT := jm3 (List.mem_of_getElem? (i := 204) rfl)
set_option maxRecDepth 100000 in
theorem jw925 : (Jvm.Cond.methodLink "SchoolBoard$Grants" (173 : Nat) ({ cls := "java/lang/Integer", name := "bitCount", desc := "(I)I" } : Jvm.MethodName)) ∈ jT := jm3 (List.mem_of_getElem? (i := 205) rfl)
set_option maxRecDepth 100000 in
theorem jw926 : (Jvm.Cond.methodLink "SchoolBoard$Grants" (178 : Nat) ({ cls := "SchoolBoard$Code", name := "tells", desc := "(III[II)I" } : Jvm.MethodName)) ∈ jT := jm3 (List.mem_of_getElem? (i := 206) rfl)
set_option maxRecDepth 100000 in
theorem jw927 : (Jvm.Cond.methodLink "SchoolBoard$Grants" (182 : Nat) ({ cls := "SchoolBoard$Clause", name := "isFor", desc := "(I)Z" } : Jvm.MethodName)) ∈ jT := jm3 (List.mem_of_getElem? (i := 207) rfl)
set_option maxRecDepth 100000 in
theorem jw928 : (Jvm.Cond.methodLink "SchoolBoard$Grants" (192 : Nat) ({ cls := "SchoolBoard$Register", name := "askSubject", desc := "(II)V" } : Jvm.MethodName)) ∈ jT := jm3 (List.mem_of_getElem? (i := 208) rfl)
set_option maxRecDepth 100000 in
theorem jw929 : (Jvm.Cond.methodLink "SchoolBoard$Grants" (93 : Nat) ({ cls := "SchoolBoard$Grants", name := "addCap", desc := "()V" } : Jvm.MethodName)) ∈ jT := jm3 (List.mem_of_getElem? (i := 209) rfl)
set_option maxRecDepth 100000 in
theorem jw931 : (Jvm.Cond.instanceMethod ({ cls := "SchoolBoard$Grants", name := "addCap", desc := "()V" } : Jvm.MethodName)) ∈ jT := jm3 (List.mem_of_getElem? (i := 211) rfl)
set_option maxRecDepth 100000 in
theorem jw932 : (Jvm.Cond.code ({ cls := "SchoolBoard$Grants", name := "addCap", desc := "()V" } : Jvm.MethodName) prog_6_method_6_code (3 : Nat) (Option.none : Option Jvm.ClassFile.FieldType)) ∈ jT := jm3 (List.mem_of_getElem? (i := 212) rfl)
set_option maxRecDepth 100000 in
theorem jw933 : (Jvm.Cond.methodLink "SchoolBoard" (180 : Nat) ({ cls := "SchoolBoard$Grants", name := "look", desc := "(I)I" } : Jvm.MethodName)) ∈ jT := jm3 (List.mem_of_getElem? (i := 213) rfl)
set_option maxRecDepth 100000 in
theorem jw934 : (Jvm.Cond.instanceMethod ({ cls := "SchoolBoard$Grants", name := "look", desc := "(I)I" } : Jvm.MethodName)) ∈ jT := jm3 (List.mem_of_getElem? (i := 214) rfl)
set_option maxRecDepth 100000 in
theorem jw935 : (Jvm.Cond.selects "SchoolBoard$Grants" ({ cls := "SchoolBoard$Grants", name := "look", desc := "(I)I" } : Jvm.MethodName) ({ cls := "SchoolBoard$Grants", name := "look", desc := "(I)I" } : Jvm.MethodName)) ∈ jT := jm3 (List.mem_of_getElem? (i := 215) rfl)
set_option maxRecDepth 100000 in
theorem jw936 : (Jvm.Cond.code ({ cls := "SchoolBoard$Grants", name := "look", desc := "(I)I" } : Jvm.MethodName) prog_6_method_8_code (2 : Nat) (Option.some Jvm.ClassFile.FieldType.int)) ∈ jT := jm3 (List.mem_of_getElem? (i := 216) rfl)
set_option maxRecDepth 100000 in
theorem jw937 : (Jvm.Cond.methodLink "SchoolBoardLaw" (97 : Nat) ({ cls := "SchoolBoard", name := "line", desc := "(IIIIII)I" } : Jvm.MethodName)) ∈ jT := jm3 (List.mem_of_getElem? (i := 217) rfl)
set_option maxRecDepth 100000 in
theorem jw938 : (Jvm.Cond.instanceMethod ({ cls := "SchoolBoard", name := "line", desc := "(IIIIII)I" } : Jvm.MethodName)) ∈ jT := jm3 (List.mem_of_getElem? (i := 218) rfl)
set_option maxRecDepth 100000 in
theorem jw939 : (Jvm.Cond.selects "SchoolBoard" ({ cls := "SchoolBoard", name := "line", desc := "(IIIIII)I" } : Jvm.MethodName) ({ cls := "SchoolBoard", name := "line", desc := "(IIIIII)I" } : Jvm.MethodName)) ∈ jT := jm3 (List.mem_of_getElem? (i := 219) rfl)
set_option maxRecDepth 100000 in
theorem jw940 : (Jvm.Cond.code ({ cls := "SchoolBoard", name := "line", desc := "(IIIIII)I" } : Jvm.MethodName) prog_1_method_21_code (7 : Nat) (Option.some Jvm.ClassFile.FieldType.int)) ∈ jT := jm3 (List.mem_of_getElem? (i := 220) rfl)
set_option maxRecDepth 100000 in
theorem jw941 : (Jvm.Cond.constant "SchoolBoard" (182 : Nat) (-1000000 : Int32)) ∈ jT := jm3 (List.mem_of_getElem? (i := 221) rfl)
set_option maxRecDepth 100000 in
theorem jw942 : (Jvm.Cond.methodLink "SchoolBoard" (183 : Nat) ({ cls := "SchoolBoard$Grants", name := "lookLine", desc := "(II)I" } : Jvm.MethodName)) ∈ jT := jm3 (List.mem_of_getElem? (i := 222) rfl)
set_option maxRecDepth 100000 in
theorem jw943 : (Jvm.Cond.instanceMethod ({ cls := "SchoolBoard$Grants", name := "lookLine", desc := "(II)I" } : Jvm.MethodName)) ∈ jT := jm3 (List.mem_of_getElem? (i := 223) rfl)
set_option maxRecDepth 100000 in
theorem jw944 : (Jvm.Cond.selects "SchoolBoard$Grants" ({ cls := "SchoolBoard$Grants", name := "lookLine", desc := "(II)I" } : Jvm.MethodName) ({ cls := "SchoolBoard$Grants", name := "lookLine", desc := "(II)I" } : Jvm.MethodName)) ∈ jT := jm3 (List.mem_of_getElem? (i := 224) rfl)
set_option maxRecDepth 100000 in
theorem jw945 : (Jvm.Cond.code ({ cls := "SchoolBoard$Grants", name := "lookLine", desc := "(II)I" } : Jvm.MethodName) prog_6_method_9_code (3 : Nat) (Option.some Jvm.ClassFile.FieldType.int)) ∈ jT := jm3 (List.mem_of_getElem? (i := 225) rfl)
set_option maxRecDepth 100000 in
theorem jw946 : (Jvm.Cond.methodLinkNest "SchoolBoard$Grants" (195 : Nat) ({ cls := "SchoolBoard", name := "within", desc := "(III)Z" } : Jvm.MethodName) "SchoolBoard") ∈ jT := jm3 (List.mem_of_getElem? (i := 226) rfl)
set_option maxRecDepth 100000 in
theorem jw947 : (Jvm.Cond.constant "SchoolBoard$Grants" (199 : Nat) (-1000000 : Int32)) ∈ jT := jm3 (List.mem_of_getElem? (i := 227) rfl)
set_option maxRecDepth 100000 in
theorem jw948 : (Jvm.Cond.methodLink "SchoolBoardLaw" (101 : Nat) ({ cls := "SchoolBoard", name := "fees", desc := "(III)I" } : Jvm.MethodName)) ∈ jT := jm3 (List.mem_of_getElem? (i := 228) rfl)
set_option maxRecDepth 100000 in
theorem jw949 : (Jvm.Cond.instanceMethod ({ cls := "SchoolBoard", name := "fees", desc := "(III)I" } : Jvm.MethodName)) ∈ jT := jm3 (List.mem_of_getElem? (i := 229) rfl)
set_option maxRecDepth 100000 in
theorem jw950 : (Jvm.Cond.selects "SchoolBoard" ({ cls := "SchoolBoard", name := "fees", desc := "(III)I" } : Jvm.MethodName) ({ cls := "SchoolBoard", name := "fees", desc := "(III)I" } : Jvm.MethodName)) ∈ jT := jm3 (List.mem_of_getElem? (i := 230) rfl)
set_option maxRecDepth 100000 in
theorem jw951 : (Jvm.Cond.code ({ cls := "SchoolBoard", name := "fees", desc := "(III)I" } : Jvm.MethodName) prog_1_method_22_code (5 : Nat) (Option.some Jvm.ClassFile.FieldType.int)) ∈ jT := jm3 (List.mem_of_getElem? (i := 231) rfl)
set_option maxRecDepth 100000 in
theorem jw952 : (Jvm.Cond.methodLink "SchoolBoard" (189 : Nat) ({ cls := "SchoolBoard$Register", name := "feesUpTo", desc := "(III)I" } : Jvm.MethodName)) ∈ jT := jm3 (List.mem_of_getElem? (i := 232) rfl)
set_option maxRecDepth 100000 in
theorem jw953 : (Jvm.Cond.instanceMethod ({ cls := "SchoolBoard$Register", name := "feesUpTo", desc := "(III)I" } : Jvm.MethodName)) ∈ jT := jm3 (List.mem_of_getElem? (i := 233) rfl)
set_option maxRecDepth 100000 in
theorem jw954 : (Jvm.Cond.selects "SchoolBoard$Register" ({ cls := "SchoolBoard$Register", name := "feesUpTo", desc := "(III)I" } : Jvm.MethodName) ({ cls := "SchoolBoard$Register", name := "feesUpTo", desc := "(III)I" } : Jvm.MethodName)) ∈ jT := jm3 (List.mem_of_getElem? (i := 234) rfl)
set_option maxRecDepth 100000 in
theorem jw955 : (Jvm.Cond.code ({ cls := "SchoolBoard$Register", name := "feesUpTo", desc := "(III)I" } : Jvm.MethodName) prog_11_method_26_code (7 : Nat) (Option.some Jvm.ClassFile.FieldType.int)) ∈ jT := jm3 (List.mem_of_getElem? (i := 235) rfl)
set_option maxRecDepth 100000 in
theorem jw956 : (Jvm.Cond.methodLink "SchoolBoard$Register" (195 : Nat) ({ cls := "SchoolBoard$Register", name := "lay", desc := "(I)V" } : Jvm.MethodName)) ∈ jT := jm3 (List.mem_of_getElem? (i := 236) rfl)
set_option maxRecDepth 100000 in
theorem jw957 : (Jvm.Cond.methodLink "SchoolBoard$Register" (198 : Nat) ({ cls := "SchoolBoard$Register", name := "feeFor", desc := "(I)I" } : Jvm.MethodName)) ∈ jT := jm3 (List.mem_of_getElem? (i := 237) rfl)
set_option maxRecDepth 100000 in
theorem jw959 : (Jvm.Cond.instanceMethod ({ cls := "SchoolBoard$Register", name := "feeFor", desc := "(I)I" } : Jvm.MethodName)) ∈ jT := jm3 (List.mem_of_getElem? (i := 239) rfl)
set_option maxRecDepth 100000 in
theorem jw960 : (Jvm.Cond.code ({ cls := "SchoolBoard$Register", name := "feeFor", desc := "(I)I" } : Jvm.MethodName) prog_11_method_27_code (2 : Nat) (Option.some Jvm.ClassFile.FieldType.int)) ∈ jT := jm4 (List.mem_of_getElem? (i := 0) rfl)
set_option maxRecDepth 100000 in
theorem jw961 : (Jvm.Cond.methodLink "SchoolBoardLaw" (105 : Nat) ({ cls := "SchoolBoard", name := "pay", desc := "(II)I" } : Jvm.MethodName)) ∈ jT := jm4 (List.mem_of_getElem? (i := 1) rfl)
set_option maxRecDepth 100000 in
theorem jw962 : (Jvm.Cond.instanceMethod ({ cls := "SchoolBoard", name := "pay", desc := "(II)I" } : Jvm.MethodName)) ∈ jT := jm4 (List.mem_of_getElem? (i := 2) rfl)
set_option maxRecDepth 100000 in
theorem jw963 : (Jvm.Cond.selects "SchoolBoard" ({ cls := "SchoolBoard", name := "pay", desc := "(II)I" } : Jvm.MethodName) ({ cls := "SchoolBoard", name := "pay", desc := "(II)I" } : Jvm.MethodName)) ∈ jT := jm4 (List.mem_of_getElem? (i := 3) rfl)
set_option maxRecDepth 100000 in
theorem jw964 : (Jvm.Cond.code ({ cls := "SchoolBoard", name := "pay", desc := "(II)I" } : Jvm.MethodName) prog_1_method_23_code (3 : Nat) (Option.some Jvm.ClassFile.FieldType.int)) ∈ jT := jm4 (List.mem_of_getElem? (i := 4) rfl)
set_option maxRecDepth 100000 in
theorem jw965 : (Jvm.Cond.constant "SchoolBoard" (192 : Nat) (999999 : Int32)) ∈ jT := jm4 (List.mem_of_getElem? (i := 5) rfl)
set_option maxRecDepth 100000 in
theorem jw966 : (Jvm.Cond.methodLink "SchoolBoardLaw" (109 : Nat) ({ cls := "SchoolBoard", name := "holds", desc := "(II)I" } : Jvm.MethodName)) ∈ jT := jm4 (List.mem_of_getElem? (i := 6) rfl)
set_option maxRecDepth 100000 in
theorem jw967 : (Jvm.Cond.instanceMethod ({ cls := "SchoolBoard", name := "holds", desc := "(II)I" } : Jvm.MethodName)) ∈ jT := jm4 (List.mem_of_getElem? (i := 7) rfl)
set_option maxRecDepth 100000 in
theorem jw968 : (Jvm.Cond.selects "SchoolBoard" ({ cls := "SchoolBoard", name := "holds", desc := "(II)I" } : Jvm.MethodName) ({ cls := "SchoolBoard", name := "holds", desc := "(II)I" } : Jvm.MethodName)) ∈ jT := jm4 (List.mem_of_getElem? (i := 8) rfl)
set_option maxRecDepth 100000 in
theorem jw969 : (Jvm.Cond.code ({ cls := "SchoolBoard", name := "holds", desc := "(II)I" } : Jvm.MethodName) prog_1_method_24_code (3 : Nat) (Option.some Jvm.ClassFile.FieldType.int)) ∈ jT := jm4 (List.mem_of_getElem? (i := 9) rfl)
set_option maxRecDepth 100000 in
theorem jw970 : (Jvm.Cond.methodLink "SchoolBoardLaw" (113 : Nat) ({ cls := "SchoolBoard", name := "teacher", desc := "(I)I" } : Jvm.MethodName)) ∈ jT := jm4 (List.mem_of_getElem? (i := 10) rfl)
set_option maxRecDepth 100000 in
theorem jw971 : (Jvm.Cond.instanceMethod ({ cls := "SchoolBoard", name := "teacher", desc := "(I)I" } : Jvm.MethodName)) ∈ jT := jm4 (List.mem_of_getElem? (i := 11) rfl)
set_option maxRecDepth 100000 in
theorem jw972 : (Jvm.Cond.selects "SchoolBoard" ({ cls := "SchoolBoard", name := "teacher", desc := "(I)I" } : Jvm.MethodName) ({ cls := "SchoolBoard", name := "teacher", desc := "(I)I" } : Jvm.MethodName)) ∈ jT := jm4 (List.mem_of_getElem? (i := 12) rfl)
set_option maxRecDepth 100000 in
theorem jw973 : (Jvm.Cond.code ({ cls := "SchoolBoard", name := "teacher", desc := "(I)I" } : Jvm.MethodName) prog_1_method_25_code (2 : Nat) (Option.some Jvm.ClassFile.FieldType.int)) ∈ jT := jm4 (List.mem_of_getElem? (i := 13) rfl)
set_option maxRecDepth 100000 in
theorem jw974 : (Jvm.Cond.methodLink "SchoolBoard" (202 : Nat) ({ cls := "SchoolBoard$People", name := "addTeacher", desc := "(II)I" } : Jvm.MethodName)) ∈ jT := jm4 (List.mem_of_getElem? (i := 14) rfl)
set_option maxRecDepth 100000 in
theorem jw975 : (Jvm.Cond.instanceMethod ({ cls := "SchoolBoard$People", name := "addTeacher", desc := "(II)I" } : Jvm.MethodName)) ∈ jT := jm4 (List.mem_of_getElem? (i := 15) rfl)
set_option maxRecDepth 100000 in
theorem jw976 : (Jvm.Cond.selects "SchoolBoard$People" ({ cls := "SchoolBoard$People", name := "addTeacher", desc := "(II)I" } : Jvm.MethodName) ({ cls := "SchoolBoard$People", name := "addTeacher", desc := "(II)I" } : Jvm.MethodName)) ∈ jT := jm4 (List.mem_of_getElem? (i := 16) rfl)
set_option maxRecDepth 100000 in
theorem jw977 : (Jvm.Cond.code ({ cls := "SchoolBoard$People", name := "addTeacher", desc := "(II)I" } : Jvm.MethodName) prog_8_method_3_code (3 : Nat) (Option.some Jvm.ClassFile.FieldType.int)) ∈ jT := jm4 (List.mem_of_getElem? (i := 17) rfl)
set_option maxRecDepth 100000 in
theorem jw978 : (Jvm.Cond.methodLink "SchoolBoardLaw" (118 : Nat) ({ cls := "SchoolBoard", name := "proof", desc := "(III)Z" } : Jvm.MethodName)) ∈ jT := jm4 (List.mem_of_getElem? (i := 18) rfl)
set_option maxRecDepth 100000 in
theorem jw979 : (Jvm.Cond.instanceMethod ({ cls := "SchoolBoard", name := "proof", desc := "(III)Z" } : Jvm.MethodName)) ∈ jT := jm4 (List.mem_of_getElem? (i := 19) rfl)
set_option maxRecDepth 100000 in
theorem jw980 : (Jvm.Cond.selects "SchoolBoard" ({ cls := "SchoolBoard", name := "proof", desc := "(III)Z" } : Jvm.MethodName) ({ cls := "SchoolBoard", name := "proof", desc := "(III)Z" } : Jvm.MethodName)) ∈ jT := jm4 (List.mem_of_getElem? (i := 20) rfl)
set_option maxRecDepth 100000 in
theorem jw981 : (Jvm.Cond.code ({ cls := "SchoolBoard", name := "proof", desc := "(III)Z" } : Jvm.MethodName) prog_1_method_26_code (5 : Nat) (Option.some Jvm.ClassFile.FieldType.boolean)) ∈ jT := jm4 (List.mem_of_getElem? (i := 21) rfl)
set_option maxRecDepth 100000 in
theorem jw982 : (Jvm.Cond.methodLink "SchoolBoard" (205 : Nat) ({ cls := "SchoolBoard", name := "isTeacher", desc := "(I)Z" } : Jvm.MethodName)) ∈ jT := jm4 (List.mem_of_getElem? (i := 22) rfl)
set_option maxRecDepth 100000 in
theorem jw984 : (Jvm.Cond.instanceMethod ({ cls := "SchoolBoard", name := "isTeacher", desc := "(I)Z" } : Jvm.MethodName)) ∈ jT := jm4 (List.mem_of_getElem? (i := 24) rfl)
set_option maxRecDepth 100000 in
theorem jw985 : (Jvm.Cond.code ({ cls := "SchoolBoard", name := "isTeacher", desc := "(I)Z" } : Jvm.MethodName) prog_1_method_53_code (2 : Nat) (Option.some Jvm.ClassFile.FieldType.boolean)) ∈ jT := jm4 (List.mem_of_getElem? (i := 25) rfl)
set_option maxRecDepth 100000 in
theorem jw986 : (Jvm.Cond.methodLink "SchoolBoard" (211 : Nat) ({ cls := "SchoolBoard$People", name := "prove", desc := "(III)V" } : Jvm.MethodName)) ∈ jT := jm4 (List.mem_of_getElem? (i := 26) rfl)
set_option maxRecDepth 100000 in
theorem jw987 : (Jvm.Cond.instanceMethod ({ cls := "SchoolBoard$People", name := "prove", desc := "(III)V" } : Jvm.MethodName)) ∈ jT := jm4 (List.mem_of_getElem? (i := 27) rfl)
set_option maxRecDepth 100000 in
theorem jw988 : (Jvm.Cond.selects "SchoolBoard$People" ({ cls := "SchoolBoard$People", name := "prove", desc := "(III)V" } : Jvm.MethodName) ({ cls := "SchoolBoard$People", name := "prove", desc := "(III)V" } : Jvm.MethodName)) ∈ jT := jm4 (List.mem_of_getElem? (i := 28) rfl)
set_option maxRecDepth 100000 in
theorem jw989 : (Jvm.Cond.code ({ cls := "SchoolBoard$People", name := "prove", desc := "(III)V" } : Jvm.MethodName) prog_8_method_4_code (5 : Nat) (Option.none : Option Jvm.ClassFile.FieldType)) ∈ jT := jm4 (List.mem_of_getElem? (i := 29) rfl)
set_option maxRecDepth 100000 in
theorem jw990 : (Jvm.Cond.methodLink "SchoolBoardLaw" (122 : Nat) ({ cls := "SchoolBoard", name := "teacherOf", desc := "(III)I" } : Jvm.MethodName)) ∈ jT := jm4 (List.mem_of_getElem? (i := 30) rfl)
set_option maxRecDepth 100000 in
theorem jw991 : (Jvm.Cond.instanceMethod ({ cls := "SchoolBoard", name := "teacherOf", desc := "(III)I" } : Jvm.MethodName)) ∈ jT := jm4 (List.mem_of_getElem? (i := 31) rfl)
set_option maxRecDepth 100000 in
theorem jw992 : (Jvm.Cond.selects "SchoolBoard" ({ cls := "SchoolBoard", name := "teacherOf", desc := "(III)I" } : Jvm.MethodName) ({ cls := "SchoolBoard", name := "teacherOf", desc := "(III)I" } : Jvm.MethodName)) ∈ jT := jm4 (List.mem_of_getElem? (i := 32) rfl)
set_option maxRecDepth 100000 in
theorem jw993 : (Jvm.Cond.code ({ cls := "SchoolBoard", name := "teacherOf", desc := "(III)I" } : Jvm.MethodName) prog_1_method_27_code (6 : Nat) (Option.some Jvm.ClassFile.FieldType.int)) ∈ jT := jm4 (List.mem_of_getElem? (i := 33) rfl)
set_option maxRecDepth 100000 in
theorem jw994 : (Jvm.Cond.methodLink "SchoolBoard" (214 : Nat) ({ cls := "SchoolBoard", name := "stepOf", desc := "(II)I" } : Jvm.MethodName)) ∈ jT := jm4 (List.mem_of_getElem? (i := 34) rfl)
set_option maxRecDepth 100000 in
theorem jw996 : (Jvm.Cond.instanceMethod ({ cls := "SchoolBoard", name := "stepOf", desc := "(II)I" } : Jvm.MethodName)) ∈ jT := jm4 (List.mem_of_getElem? (i := 36) rfl)
set_option maxRecDepth 100000 in
theorem jw997 : (Jvm.Cond.code ({ cls := "SchoolBoard", name := "stepOf", desc := "(II)I" } : Jvm.MethodName) prog_1_method_56_code (6 : Nat) (Option.some Jvm.ClassFile.FieldType.int)) ∈ jT := jm4 (List.mem_of_getElem? (i := 37) rfl)
set_option maxRecDepth 100000 in
theorem jw998 : (Jvm.Cond.methodLink "SchoolBoard" (338 : Nat) ({ cls := "java/lang/Math", name := "min", desc := "(II)I" } : Jvm.MethodName)) ∈ jT := jm4 (List.mem_of_getElem? (i := 38) rfl)
set_option maxRecDepth 100000 in
theorem jw999 : (Jvm.Cond.methodLink "SchoolBoardLaw" (126 : Nat) ({ cls := "SchoolBoard", name := "feed", desc := "(IIIII)I" } : Jvm.MethodName)) ∈ jT := jm4 (List.mem_of_getElem? (i := 39) rfl)
set_option maxRecDepth 100000 in
theorem jw1000 : (Jvm.Cond.instanceMethod ({ cls := "SchoolBoard", name := "feed", desc := "(IIIII)I" } : Jvm.MethodName)) ∈ jT := jm4 (List.mem_of_getElem? (i := 40) rfl)
set_option maxRecDepth 100000 in
theorem jw1001 : (Jvm.Cond.selects "SchoolBoard" ({ cls := "SchoolBoard", name := "feed", desc := "(IIIII)I" } : Jvm.MethodName) ({ cls := "SchoolBoard", name := "feed", desc := "(IIIII)I" } : Jvm.MethodName)) ∈ jT := jm4 (List.mem_of_getElem? (i := 41) rfl)
set_option maxRecDepth 100000 in
theorem jw1002 : (Jvm.Cond.code ({ cls := "SchoolBoard", name := "feed", desc := "(IIIII)I" } : Jvm.MethodName) prog_1_method_28_code (6 : Nat) (Option.some Jvm.ClassFile.FieldType.int)) ∈ jT := jm4 (List.mem_of_getElem? (i := 42) rfl)
set_option maxRecDepth 100000 in
theorem jw1003 : (Jvm.Cond.methodLink "SchoolBoard" (220 : Nat) ({ cls := "SchoolBoard$Code", name := "put", desc := "(I)V" } : Jvm.MethodName)) ∈ jT := jm4 (List.mem_of_getElem? (i := 43) rfl)
set_option maxRecDepth 100000 in
theorem jw1004 : (Jvm.Cond.instanceMethod ({ cls := "SchoolBoard$Code", name := "put", desc := "(I)V" } : Jvm.MethodName)) ∈ jT := jm4 (List.mem_of_getElem? (i := 44) rfl)
set_option maxRecDepth 100000 in
theorem jw1005 : (Jvm.Cond.selects "SchoolBoard$Code" ({ cls := "SchoolBoard$Code", name := "put", desc := "(I)V" } : Jvm.MethodName) ({ cls := "SchoolBoard$Code", name := "put", desc := "(I)V" } : Jvm.MethodName)) ∈ jT := jm4 (List.mem_of_getElem? (i := 45) rfl)
set_option maxRecDepth 100000 in
theorem jw1006 : (Jvm.Cond.code ({ cls := "SchoolBoard$Code", name := "put", desc := "(I)V" } : Jvm.MethodName) prog_4_method_2_code (3 : Nat) (Option.none : Option Jvm.ClassFile.FieldType)) ∈ jT := jm4 (List.mem_of_getElem? (i := 46) rfl)
set_option maxRecDepth 100000 in
theorem jw1007 : (Jvm.Cond.methodLink "SchoolBoardLaw" (130 : Nat) ({ cls := "SchoolBoard", name := "act", desc := "(II)I" } : Jvm.MethodName)) ∈ jT := jm4 (List.mem_of_getElem? (i := 47) rfl)
set_option maxRecDepth 100000 in
theorem jw1008 : (Jvm.Cond.instanceMethod ({ cls := "SchoolBoard", name := "act", desc := "(II)I" } : Jvm.MethodName)) ∈ jT := jm4 (List.mem_of_getElem? (i := 48) rfl)
set_option maxRecDepth 100000 in
theorem jw1009 : (Jvm.Cond.selects "SchoolBoard" ({ cls := "SchoolBoard", name := "act", desc := "(II)I" } : Jvm.MethodName) ({ cls := "SchoolBoard", name := "act", desc := "(II)I" } : Jvm.MethodName)) ∈ jT := jm4 (List.mem_of_getElem? (i := 49) rfl)
set_option maxRecDepth 100000 in
theorem jw1010 : (Jvm.Cond.code ({ cls := "SchoolBoard", name := "act", desc := "(II)I" } : Jvm.MethodName) prog_1_method_29_code (3 : Nat) (Option.some Jvm.ClassFile.FieldType.int)) ∈ jT := jm4 (List.mem_of_getElem? (i := 50) rfl)
set_option maxRecDepth 100000 in
theorem jw1011 : (Jvm.Cond.methodLink "SchoolBoard" (226 : Nat) ({ cls := "SchoolBoard$Code", name := "take", desc := "(II)I" } : Jvm.MethodName)) ∈ jT := jm4 (List.mem_of_getElem? (i := 51) rfl)
set_option maxRecDepth 100000 in
theorem jw1012 : (Jvm.Cond.instanceMethod ({ cls := "SchoolBoard$Code", name := "take", desc := "(II)I" } : Jvm.MethodName)) ∈ jT := jm4 (List.mem_of_getElem? (i := 52) rfl)
set_option maxRecDepth 100000 in
theorem jw1013 : (Jvm.Cond.selects "SchoolBoard$Code" ({ cls := "SchoolBoard$Code", name := "take", desc := "(II)I" } : Jvm.MethodName) ({ cls := "SchoolBoard$Code", name := "take", desc := "(II)I" } : Jvm.MethodName)) ∈ jT := jm4 (List.mem_of_getElem? (i := 53) rfl)
set_option maxRecDepth 100000 in
theorem jw1014 : (Jvm.Cond.code ({ cls := "SchoolBoard$Code", name := "take", desc := "(II)I" } : Jvm.MethodName) prog_4_method_3_code (5 : Nat) (Option.some Jvm.ClassFile.FieldType.int)) ∈ jT := jm4 (List.mem_of_getElem? (i := 54) rfl)
set_option maxRecDepth 100000 in
theorem jw1015 : (Jvm.Cond.methodLink "SchoolBoard$Code" (64 : Nat) ({ cls := "SchoolBoard$Reader", name := "read", desc := "([BII)V" } : Jvm.MethodName)) ∈ jT := jm4 (List.mem_of_getElem? (i := 55) rfl)
set_option maxRecDepth 100000 in
theorem jw1016 : (Jvm.Cond.instanceMethod ({ cls := "SchoolBoard$Reader", name := "read", desc := "([BII)V" } : Jvm.MethodName)) ∈ jT := jm4 (List.mem_of_getElem? (i := 56) rfl)
set_option maxRecDepth 100000 in
theorem jw1017 : (Jvm.Cond.selects "SchoolBoard$Reader" ({ cls := "SchoolBoard$Reader", name := "read", desc := "([BII)V" } : Jvm.MethodName) ({ cls := "SchoolBoard$Reader", name := "read", desc := "([BII)V" } : Jvm.MethodName)) ∈ jT := jm4 (List.mem_of_getElem? (i := 57) rfl)
set_option maxRecDepth 100000 in
theorem jw1018 : (Jvm.Cond.code ({ cls := "SchoolBoard$Reader", name := "read", desc := "([BII)V" } : Jvm.MethodName) prog_10_method_2_code (5 : Nat) (Option.none : Option Jvm.ClassFile.FieldType)) ∈ jT := jm4 (List.mem_of_getElem? (i := 58) rfl)
set_option maxRecDepth 100000 in
theorem jw1019 : (Jvm.Cond.methodLink "SchoolBoard$Reader" (33 : Nat) ({ cls := "java/lang/Math", name := "min", desc := "(II)I" } : Jvm.MethodName)) ∈ jT := jm4 (List.mem_of_getElem? (i := 59) rfl)
set_option maxRecDepth 100000 in
theorem jw1020 : (Jvm.Cond.methodLink "SchoolBoard$Reader" (39 : Nat) ({ cls := "SchoolBoard$Reader", name := "scan", desc := "([BI)V" } : Jvm.MethodName)) ∈ jT := jm4 (List.mem_of_getElem? (i := 60) rfl)
set_option maxRecDepth 100000 in
theorem jw1022 : (Jvm.Cond.instanceMethod ({ cls := "SchoolBoard$Reader", name := "scan", desc := "([BI)V" } : Jvm.MethodName)) ∈ jT := jm4 (List.mem_of_getElem? (i := 62) rfl)
set_option maxRecDepth 100000 in
theorem jw1023 : (Jvm.Cond.code ({ cls := "SchoolBoard$Reader", name := "scan", desc := "([BI)V" } : Jvm.MethodName) prog_10_method_3_code (5 : Nat) (Option.none : Option Jvm.ClassFile.FieldType)) ∈ jT := jm4 (List.mem_of_getElem? (i := 63) rfl)
set_option maxRecDepth 100000 in
theorem jw1024 : (Jvm.Cond.methodLinkNest "SchoolBoard$Reader" (59 : Nat) ({ cls := "SchoolBoard", name := "isLetter", desc := "(I)Z" } : Jvm.MethodName) "SchoolBoard") ∈ jT := jm4 (List.mem_of_getElem? (i := 64) rfl)
set_option maxRecDepth 100000 in
theorem jw1025 : (Jvm.Cond.static ({ cls := "SchoolBoard", name := "isLetter", desc := "(I)Z" } : Jvm.MethodName)) ∈ jT := jm4 (List.mem_of_getElem? (i := 65) rfl)
set_option maxRecDepth 100000 in
theorem jw1026 : (Jvm.Cond.code ({ cls := "SchoolBoard", name := "isLetter", desc := "(I)Z" } : Jvm.MethodName) prog_1_method_60_code (1 : Nat) (Option.some Jvm.ClassFile.FieldType.boolean)) ∈ jT := jm4 (List.mem_of_getElem? (i := 66) rfl)
set_option maxRecDepth 100000 in
theorem jw1027 : (Jvm.Cond.methodLink "SchoolBoard$Reader" (63 : Nat) ({ cls := "SchoolBoard$Reader", name := "wordOf", desc := "([BII)I" } : Jvm.MethodName)) ∈ jT := jm4 (List.mem_of_getElem? (i := 67) rfl)
set_option maxRecDepth 100000 in
theorem jw1028 : (Jvm.Cond.static ({ cls := "SchoolBoard$Reader", name := "wordOf", desc := "([BII)I" } : Jvm.MethodName)) ∈ jT := jm4 (List.mem_of_getElem? (i := 68) rfl)
set_option maxRecDepth 100000 in
theorem jw1029 : (Jvm.Cond.code ({ cls := "SchoolBoard$Reader", name := "wordOf", desc := "([BII)I" } : Jvm.MethodName) prog_10_method_7_code (6 : Nat) (Option.some Jvm.ClassFile.FieldType.int)) ∈ jT := jm4 (List.mem_of_getElem? (i := 69) rfl)
set_option maxRecDepth 100000 in
theorem jw1031 : (Jvm.Cond.methodLink "SchoolBoard$Reader" (83 : Nat) ({ cls := "java/lang/String", name := "length", desc := "()I" } : Jvm.MethodName)) ∈ jT := jm4 (List.mem_of_getElem? (i := 71) rfl)
set_option maxRecDepth 100000 in
theorem jw1032 : (Jvm.Cond.instanceMethod ({ cls := "java/lang/String", name := "length", desc := "()I" } : Jvm.MethodName)) ∈ jT := jm4 (List.mem_of_getElem? (i := 72) rfl)
set_option maxRecDepth 100000 in
theorem jw1033 : (Jvm.Cond.selects "java/lang/String" ({ cls := "java/lang/String", name := "length", desc := "()I" } : Jvm.MethodName) ({ cls := "java/lang/String", name := "length", desc := "()I" } : Jvm.MethodName)) ∈ jT := jm4 (List.mem_of_getElem? (i := 73) rfl)
set_option maxRecDepth 100000 in
theorem jw1034 : (Jvm.Cond.code ({ cls := "java/lang/String", name := "length", desc := "()I" } : Jvm.MethodName) prog_19_method_54_code (1 : Nat) (Option.some Jvm.ClassFile.FieldType.int)) ∈ jT := jm4 (List.mem_of_getElem? (i := 74) rfl)
set_option maxRecDepth 100000 in
theorem jw1035 : (Jvm.Cond.methodLink "java/lang/String" (335 : Nat) ({ cls := "java/lang/String", name := "coder", desc := "()B" } : Jvm.MethodName)) ∈ jT := jm4 (List.mem_of_getElem? (i := 75) rfl)
set_option maxRecDepth 100000 in
theorem jw1036 : (Jvm.Cond.instanceMethod ({ cls := "java/lang/String", name := "coder", desc := "()B" } : Jvm.MethodName)) ∈ jT := jm4 (List.mem_of_getElem? (i := 76) rfl)
set_option maxRecDepth 100000 in
theorem jw1037 : (Jvm.Cond.selects "java/lang/String" ({ cls := "java/lang/String", name := "coder", desc := "()B" } : Jvm.MethodName) ({ cls := "java/lang/String", name := "coder", desc := "()B" } : Jvm.MethodName)) ∈ jT := jm4 (List.mem_of_getElem? (i := 77) rfl)
set_option maxRecDepth 100000 in
theorem jw1038 : (Jvm.Cond.code ({ cls := "java/lang/String", name := "coder", desc := "()B" } : Jvm.MethodName) prog_19_method_152_code (1 : Nat) (Option.some Jvm.ClassFile.FieldType.byte)) ∈ jT := jm4 (List.mem_of_getElem? (i := 78) rfl)
set_option maxRecDepth 100000 in
theorem jw1039 : (Jvm.Cond.fieldLink "java/lang/String" (38 : Nat) "java/lang/String" "COMPACT_STRINGS" "Z") ∈ jT := jm4 (List.mem_of_getElem? (i := 79) rfl)
set_option maxRecDepth 100000 in
theorem jw1040 : (Jvm.Cond.methodLink "SchoolBoard$Reader" (89 : Nat) ({ cls := "java/lang/String", name := "charAt", desc := "(I)C" } : Jvm.MethodName)) ∈ jT := jm4 (List.mem_of_getElem? (i := 80) rfl)
set_option maxRecDepth 100000 in
theorem jw1041 : (Jvm.Cond.instanceMethod ({ cls := "java/lang/String", name := "charAt", desc := "(I)C" } : Jvm.MethodName)) ∈ jT := jm4 (List.mem_of_getElem? (i := 81) rfl)
set_option maxRecDepth 100000 in
theorem jw1042 : (Jvm.Cond.selects "java/lang/String" ({ cls := "java/lang/String", name := "charAt", desc := "(I)C" } : Jvm.MethodName) ({ cls := "java/lang/String", name := "charAt", desc := "(I)C" } : Jvm.MethodName)) ∈ jT := jm4 (List.mem_of_getElem? (i := 82) rfl)
set_option maxRecDepth 100000 in
theorem jw1043 : (Jvm.Cond.code ({ cls := "java/lang/String", name := "charAt", desc := "(I)C" } : Jvm.MethodName) prog_19_method_56_code (2 : Nat) (Option.some Jvm.ClassFile.FieldType.char)) ∈ jT := jm4 (List.mem_of_getElem? (i := 83) rfl)
set_option maxRecDepth 100000 in
theorem jw1044 : (Jvm.Cond.methodLink "java/lang/String" (492 : Nat) ({ cls := "java/lang/String", name := "isLatin1", desc := "()Z" } : Jvm.MethodName)) ∈ jT := jm4 (List.mem_of_getElem? (i := 84) rfl)
set_option maxRecDepth 100000 in
theorem jw1045 : (Jvm.Cond.instanceMethod ({ cls := "java/lang/String", name := "isLatin1", desc := "()Z" } : Jvm.MethodName)) ∈ jT := jm4 (List.mem_of_getElem? (i := 85) rfl)
set_option maxRecDepth 100000 in
theorem jw1046 : (Jvm.Cond.selects "java/lang/String" ({ cls := "java/lang/String", name := "isLatin1", desc := "()Z" } : Jvm.MethodName) ({ cls := "java/lang/String", name := "isLatin1", desc := "()Z" } : Jvm.MethodName)) ∈ jT := jm4 (List.mem_of_getElem? (i := 86) rfl)
set_option maxRecDepth 100000 in
theorem jw1047 : (Jvm.Cond.code ({ cls := "java/lang/String", name := "isLatin1", desc := "()Z" } : Jvm.MethodName) prog_19_method_154_code (1 : Nat) (Option.some Jvm.ClassFile.FieldType.boolean)) ∈ jT := jm4 (List.mem_of_getElem? (i := 87) rfl)
set_option maxRecDepth 100000 in
theorem jw1048 : (Jvm.Cond.methodLink "java/lang/String" (495 : Nat) ({ cls := "java/lang/StringLatin1", name := "charAt", desc := "([BI)C" } : Jvm.MethodName)) ∈ jT := jm4 (List.mem_of_getElem? (i := 88) rfl)
set_option maxRecDepth 100000 in
theorem jw1049 : (Jvm.Cond.static ({ cls := "java/lang/StringLatin1", name := "charAt", desc := "([BI)C" } : Jvm.MethodName)) ∈ jT := jm4 (List.mem_of_getElem? (i := 89) rfl)
set_option maxRecDepth 100000 in
theorem jw1050 : (Jvm.Cond.code ({ cls := "java/lang/StringLatin1", name := "charAt", desc := "([BI)C" } : Jvm.MethodName) prog_21_method_2_code (2 : Nat) (Option.some Jvm.ClassFile.FieldType.char)) ∈ jT := jm4 (List.mem_of_getElem? (i := 90) rfl)
set_option maxRecDepth 100000 in
theorem jw1051 : (Jvm.Cond.methodLink "java/lang/StringLatin1" (9 : Nat) ({ cls := "java/lang/String", name := "checkIndex", desc := "(II)V" } : Jvm.MethodName)) ∈ jT := jm4 (List.mem_of_getElem? (i := 91) rfl)
set_option maxRecDepth 100000 in
theorem jw1052 : (Jvm.Cond.static ({ cls := "java/lang/String", name := "checkIndex", desc := "(II)V" } : Jvm.MethodName)) ∈ jT := jm4 (List.mem_of_getElem? (i := 92) rfl)
set_option maxRecDepth 100000 in
theorem jw1053 : (Jvm.Cond.code ({ cls := "java/lang/String", name := "checkIndex", desc := "(II)V" } : Jvm.MethodName) prog_19_method_155_code (2 : Nat) (Option.none : Option Jvm.ClassFile.FieldType)) ∈ jT := jm4 (List.mem_of_getElem? (i := 93) rfl)
set_option maxRecDepth 100000 in
theorem jw1054 : (Jvm.Cond.fieldLink "java/lang/String" (1053 : Nat) "jdk/internal/util/Preconditions" "SIOOBE_FORMATTER" "Ljava/util/function/BiFunction;") ∈ jT := jm4 (List.mem_of_getElem? (i := 94) rfl)
set_option maxRecDepth 100000 in
theorem jw1056 : (Jvm.Cond.methodLink "java/lang/String" (1059 : Nat) ({ cls := "jdk/internal/util/Preconditions", name := "checkIndex", desc := "(IILjava/util/function/BiFunction;)I" } : Jvm.MethodName)) ∈ jT := jm4 (List.mem_of_getElem? (i := 96) rfl)
set_option maxRecDepth 100000 in
theorem jw1057 : (Jvm.Cond.static ({ cls := "jdk/internal/util/Preconditions", name := "checkIndex", desc := "(IILjava/util/function/BiFunction;)I" } : Jvm.MethodName)) ∈ jT := jm4 (List.mem_of_getElem? (i := 97) rfl)
set_option maxRecDepth 100000 in
theorem jw1058 : (Jvm.Cond.code ({ cls := "jdk/internal/util/Preconditions", name := "checkIndex", desc := "(IILjava/util/function/BiFunction;)I" } : Jvm.MethodName) prog_26_method_11_code (3 : Nat) (Option.some Jvm.ClassFile.FieldType.int)) ∈ jT := jm4 (List.mem_of_getElem? (i := 98) rfl)
set_option maxRecDepth 100000 in
theorem jw1078 : (Jvm.Cond.methodLink "SchoolBoard$Reader" (67 : Nat) ({ cls := "SchoolBoard$Reader", name := "keep", desc := "(III)V" } : Jvm.MethodName)) ∈ jT := jm4 (List.mem_of_getElem? (i := 118) rfl)
set_option maxRecDepth 100000 in
theorem jw1080 : (Jvm.Cond.instanceMethod ({ cls := "SchoolBoard$Reader", name := "keep", desc := "(III)V" } : Jvm.MethodName)) ∈ jT := jm4 (List.mem_of_getElem? (i := 120) rfl)
set_option maxRecDepth 100000 in
theorem jw1081 : (Jvm.Cond.code ({ cls := "SchoolBoard$Reader", name := "keep", desc := "(III)V" } : Jvm.MethodName) prog_10_method_4_code (4 : Nat) (Option.none : Option Jvm.ClassFile.FieldType)) ∈ jT := jm4 (List.mem_of_getElem? (i := 121) rfl)
set_option maxRecDepth 100000 in
theorem jw1082 : (Jvm.Cond.methodLinkNest "SchoolBoard$Reader" (71 : Nat) ({ cls := "SchoolBoard", name := "isDigit", desc := "(I)Z" } : Jvm.MethodName) "SchoolBoard") ∈ jT := jm4 (List.mem_of_getElem? (i := 122) rfl)
set_option maxRecDepth 100000 in
theorem jw1083 : (Jvm.Cond.static ({ cls := "SchoolBoard", name := "isDigit", desc := "(I)Z" } : Jvm.MethodName)) ∈ jT := jm4 (List.mem_of_getElem? (i := 123) rfl)
set_option maxRecDepth 100000 in
theorem jw1084 : (Jvm.Cond.code ({ cls := "SchoolBoard", name := "isDigit", desc := "(I)Z" } : Jvm.MethodName) prog_1_method_61_code (1 : Nat) (Option.some Jvm.ClassFile.FieldType.boolean)) ∈ jT := jm4 (List.mem_of_getElem? (i := 124) rfl)
set_option maxRecDepth 100000 in
theorem jw1085 : (Jvm.Cond.methodLink "SchoolBoard$Reader" (74 : Nat) ({ cls := "SchoolBoard$Reader", name := "keepNumber", desc := "([BII)V" } : Jvm.MethodName)) ∈ jT := jm4 (List.mem_of_getElem? (i := 125) rfl)
set_option maxRecDepth 100000 in
theorem jw1087 : (Jvm.Cond.instanceMethod ({ cls := "SchoolBoard$Reader", name := "keepNumber", desc := "([BII)V" } : Jvm.MethodName)) ∈ jT := jm4 (List.mem_of_getElem? (i := 127) rfl)
set_option maxRecDepth 100000 in
theorem jw1088 : (Jvm.Cond.code ({ cls := "SchoolBoard$Reader", name := "keepNumber", desc := "([BII)V" } : Jvm.MethodName) prog_10_method_5_code (6 : Nat) (Option.none : Option Jvm.ClassFile.FieldType)) ∈ jT := jm4 (List.mem_of_getElem? (i := 128) rfl)
set_option maxRecDepth 100000 in
theorem jw1089 : (Jvm.Cond.methodLink "SchoolBoard$Reader" (78 : Nat) ({ cls := "SchoolBoard$Reader", name := "isSign", desc := "(I)Z" } : Jvm.MethodName)) ∈ jT := jm4 (List.mem_of_getElem? (i := 129) rfl)
set_option maxRecDepth 100000 in
theorem jw1090 : (Jvm.Cond.static ({ cls := "SchoolBoard$Reader", name := "isSign", desc := "(I)Z" } : Jvm.MethodName)) ∈ jT := jm4 (List.mem_of_getElem? (i := 130) rfl)
set_option maxRecDepth 100000 in
theorem jw1091 : (Jvm.Cond.code ({ cls := "SchoolBoard$Reader", name := "isSign", desc := "(I)Z" } : Jvm.MethodName) prog_10_method_6_code (1 : Nat) (Option.some Jvm.ClassFile.FieldType.boolean)) ∈ jT := jm4 (List.mem_of_getElem? (i := 131) rfl)
set_option maxRecDepth 100000 in
theorem jw1092 : (Jvm.Cond.methodLink "SchoolBoard$Reader" (49 : Nat) ({ cls := "SchoolBoard$Reader", name := "refuse", desc := "()V" } : Jvm.MethodName)) ∈ jT := jm4 (List.mem_of_getElem? (i := 132) rfl)
set_option maxRecDepth 100000 in
theorem jw1094 : (Jvm.Cond.instanceMethod ({ cls := "SchoolBoard$Reader", name := "refuse", desc := "()V" } : Jvm.MethodName)) ∈ jT := jm4 (List.mem_of_getElem? (i := 134) rfl)
set_option maxRecDepth 100000 in
theorem jw1095 : (Jvm.Cond.code ({ cls := "SchoolBoard$Reader", name := "refuse", desc := "()V" } : Jvm.MethodName) prog_10_method_8_code (1 : Nat) (Option.none : Option Jvm.ClassFile.FieldType)) ∈ jT := jm4 (List.mem_of_getElem? (i := 135) rfl)
set_option maxRecDepth 100000 in
theorem jw1096 : (Jvm.Cond.methodLink "SchoolBoard$Reader" (52 : Nat) ({ cls := "SchoolBoard$Reader", name := "statement", desc := "(I)V" } : Jvm.MethodName)) ∈ jT := jm4 (List.mem_of_getElem? (i := 136) rfl)
set_option maxRecDepth 100000 in
theorem jw1098 : (Jvm.Cond.instanceMethod ({ cls := "SchoolBoard$Reader", name := "statement", desc := "(I)V" } : Jvm.MethodName)) ∈ jT := jm4 (List.mem_of_getElem? (i := 138) rfl)
set_option maxRecDepth 100000 in
theorem jw1099 : (Jvm.Cond.code ({ cls := "SchoolBoard$Reader", name := "statement", desc := "(I)V" } : Jvm.MethodName) prog_10_method_11_code (5 : Nat) (Option.none : Option Jvm.ClassFile.FieldType)) ∈ jT := jm4 (List.mem_of_getElem? (i := 139) rfl)
set_option maxRecDepth 100000 in
theorem jw1100 : (Jvm.Cond.methodLink "SchoolBoard$Reader" (93 : Nat) ({ cls := "SchoolBoard$Reader", name := "number", desc := "(II)I" } : Jvm.MethodName)) ∈ jT := jm4 (List.mem_of_getElem? (i := 140) rfl)
set_option maxRecDepth 100000 in
theorem jw1102 : (Jvm.Cond.instanceMethod ({ cls := "SchoolBoard$Reader", name := "number", desc := "(II)I" } : Jvm.MethodName)) ∈ jT := jm4 (List.mem_of_getElem? (i := 142) rfl)
set_option maxRecDepth 100000 in
theorem jw1103 : (Jvm.Cond.code ({ cls := "SchoolBoard$Reader", name := "number", desc := "(II)I" } : Jvm.MethodName) prog_10_method_10_code (4 : Nat) (Option.some Jvm.ClassFile.FieldType.int)) ∈ jT := jm4 (List.mem_of_getElem? (i := 143) rfl)
set_option maxRecDepth 100000 in
theorem jw1104 : (Jvm.Cond.instantiable "SchoolBoard$Clause" (8 : Nat)) ∈ jT := jm4 (List.mem_of_getElem? (i := 144) rfl)
set_option maxRecDepth 100000 in
theorem jw1105 : (Jvm.Cond.methodLink "SchoolBoard$Reader" (96 : Nat) ({ cls := "SchoolBoard$Reader", name := "kindOfBody", desc := "()I" } : Jvm.MethodName)) ∈ jT := jm4 (List.mem_of_getElem? (i := 145) rfl)
set_option maxRecDepth 100000 in
theorem jw1107 : (Jvm.Cond.instanceMethod ({ cls := "SchoolBoard$Reader", name := "kindOfBody", desc := "()I" } : Jvm.MethodName)) ∈ jT := jm4 (List.mem_of_getElem? (i := 147) rfl)
set_option maxRecDepth 100000 in
theorem jw1108 : (Jvm.Cond.code ({ cls := "SchoolBoard$Reader", name := "kindOfBody", desc := "()I" } : Jvm.MethodName) prog_10_method_12_code (2 : Nat) (Option.some Jvm.ClassFile.FieldType.int)) ∈ jT := jm4 (List.mem_of_getElem? (i := 148) rfl)
set_option maxRecDepth 100000 in
theorem jw1109 : (Jvm.Cond.methodLink "SchoolBoard$Reader" (115 : Nat) ({ cls := "SchoolBoard$Reader", name := "take", desc := "(I)Z" } : Jvm.MethodName)) ∈ jT := jm4 (List.mem_of_getElem? (i := 149) rfl)
set_option maxRecDepth 100000 in
theorem jw1111 : (Jvm.Cond.instanceMethod ({ cls := "SchoolBoard$Reader", name := "take", desc := "(I)Z" } : Jvm.MethodName)) ∈ jT := jm4 (List.mem_of_getElem? (i := 151) rfl)
set_option maxRecDepth 100000 in
theorem jw1112 : (Jvm.Cond.code ({ cls := "SchoolBoard$Reader", name := "take", desc := "(I)Z" } : Jvm.MethodName) prog_10_method_9_code (2 : Nat) (Option.some Jvm.ClassFile.FieldType.boolean)) ∈ jT := jm4 (List.mem_of_getElem? (i := 152) rfl)
set_option maxRecDepth 100000 in
theorem jw1113 : (Jvm.Cond.methodLink "SchoolBoard$Reader" (99 : Nat) ({ cls := "SchoolBoard$Clause", name := "<init>", desc := "(II)V" } : Jvm.MethodName)) ∈ jT := jm4 (List.mem_of_getElem? (i := 153) rfl)
set_option maxRecDepth 100000 in
theorem jw1114 : (Jvm.Cond.instanceMethod ({ cls := "SchoolBoard$Clause", name := "<init>", desc := "(II)V" } : Jvm.MethodName)) ∈ jT := jm4 (List.mem_of_getElem? (i := 154) rfl)
set_option maxRecDepth 100000 in
theorem jw1115 : (Jvm.Cond.code ({ cls := "SchoolBoard$Clause", name := "<init>", desc := "(II)V" } : Jvm.MethodName) prog_3_method_1_code (3 : Nat) (Option.none : Option Jvm.ClassFile.FieldType)) ∈ jT := jm4 (List.mem_of_getElem? (i := 155) rfl)
set_option maxRecDepth 100000 in
theorem jw1116 : (Jvm.Cond.methodLink "SchoolBoard$Clause" (3 : Nat) ({ cls := "java/lang/Object", name := "<init>", desc := "()V" } : Jvm.MethodName)) ∈ jT := jm4 (List.mem_of_getElem? (i := 156) rfl)
set_option maxRecDepth 100000 in
theorem jw1118 : (Jvm.Cond.fieldLink "SchoolBoard$Clause" (17 : Nat) "SchoolBoard$Clause" "number" "I") ∈ jT := jm4 (List.mem_of_getElem? (i := 158) rfl)
set_option maxRecDepth 100000 in
theorem jw1119 : (Jvm.Cond.fieldLink "SchoolBoard$Code" (85 : Nat) "SchoolBoard$Clause" "number" "I") ∈ jT := jm4 (List.mem_of_getElem? (i := 159) rfl)
set_option maxRecDepth 100000 in
theorem jw1120 : (Jvm.Cond.fieldLink "SchoolBoard$Grants" (160 : Nat) "SchoolBoard$Clause" "number" "I") ∈ jT := jm4 (List.mem_of_getElem? (i := 160) rfl)
set_option maxRecDepth 100000 in
theorem jw1121 : (Jvm.Cond.fieldLink "SchoolBoard$Clause" (21 : Nat) "SchoolBoard$Clause" "kind" "I") ∈ jT := jm4 (List.mem_of_getElem? (i := 161) rfl)
set_option maxRecDepth 100000 in
theorem jw1122 : (Jvm.Cond.fieldLink "SchoolBoard$Code" (88 : Nat) "SchoolBoard$Clause" "kind" "I") ∈ jT := jm4 (List.mem_of_getElem? (i := 162) rfl)
set_option maxRecDepth 100000 in
theorem jw1123 : (Jvm.Cond.fieldLink "SchoolBoard$Reader" (109 : Nat) "SchoolBoard$Clause" "kind" "I") ∈ jT := jm4 (List.mem_of_getElem? (i := 163) rfl)
set_option maxRecDepth 100000 in
theorem jw1124 : (Jvm.Cond.fieldLink "SchoolBoard$Clause" (24 : Nat) "SchoolBoard$Clause" "of" "I") ∈ jT := jm4 (List.mem_of_getElem? (i := 164) rfl)
set_option maxRecDepth 100000 in
theorem jw1125 : (Jvm.Cond.fieldLink "SchoolBoard$Entering" (140 : Nat) "SchoolBoard$Clause" "of" "I") ∈ jT := jm4 (List.mem_of_getElem? (i := 165) rfl)
set_option maxRecDepth 100000 in
theorem jw1126 : (Jvm.Cond.fieldLink "SchoolBoard$Grants" (186 : Nat) "SchoolBoard$Clause" "of" "I") ∈ jT := jm4 (List.mem_of_getElem? (i := 166) rfl)
set_option maxRecDepth 100000 in
theorem jw1127 : (Jvm.Cond.fieldLink "SchoolBoard$Reader" (129 : Nat) "SchoolBoard$Clause" "of" "I") ∈ jT := jm4 (List.mem_of_getElem? (i := 167) rfl)
set_option maxRecDepth 100000 in
theorem jw1128 : (Jvm.Cond.fieldLink "SchoolBoard$Grants" (151 : Nat) "SchoolBoard$Clause" "per" "I") ∈ jT := jm4 (List.mem_of_getElem? (i := 168) rfl)
set_option maxRecDepth 100000 in
theorem jw1129 : (Jvm.Cond.fieldLink "SchoolBoard$Entering" (135 : Nat) "SchoolBoard$Clause" "per" "I") ∈ jT := jm4 (List.mem_of_getElem? (i := 169) rfl)
set_option maxRecDepth 100000 in
theorem jw1130 : (Jvm.Cond.fieldLink "SchoolBoard$Clause" (71 : Nat) "SchoolBoard$Clause" "per" "I") ∈ jT := jm4 (List.mem_of_getElem? (i := 170) rfl)
set_option maxRecDepth 100000 in
theorem jw1131 : (Jvm.Cond.fieldLink "SchoolBoard$Reader" (138 : Nat) "SchoolBoard$Clause" "per" "I") ∈ jT := jm4 (List.mem_of_getElem? (i := 171) rfl)
set_option maxRecDepth 100000 in
theorem jw1132 : (Jvm.Cond.fieldLink "SchoolBoard$Grants" (163 : Nat) "SchoolBoard$Clause" "value" "I") ∈ jT := jm4 (List.mem_of_getElem? (i := 172) rfl)
set_option maxRecDepth 100000 in
theorem jw1133 : (Jvm.Cond.fieldLink "SchoolBoard$Entering" (147 : Nat) "SchoolBoard$Clause" "value" "I") ∈ jT := jm4 (List.mem_of_getElem? (i := 173) rfl)
set_option maxRecDepth 100000 in
theorem jw1134 : (Jvm.Cond.fieldLink "SchoolBoard$Clause" (68 : Nat) "SchoolBoard$Clause" "value" "I") ∈ jT := jm4 (List.mem_of_getElem? (i := 174) rfl)
set_option maxRecDepth 100000 in
theorem jw1135 : (Jvm.Cond.fieldLink "SchoolBoard$Code" (115 : Nat) "SchoolBoard$Clause" "value" "I") ∈ jT := jm4 (List.mem_of_getElem? (i := 175) rfl)
set_option maxRecDepth 100000 in
theorem jw1136 : (Jvm.Cond.fieldLink "SchoolBoard$Reader" (132 : Nat) "SchoolBoard$Clause" "value" "I") ∈ jT := jm4 (List.mem_of_getElem? (i := 176) rfl)
set_option maxRecDepth 100000 in
theorem jw1137 : (Jvm.Cond.fieldLink "SchoolBoard$Code" (82 : Nat) "SchoolBoard$Clause" "act" "I") ∈ jT := jm4 (List.mem_of_getElem? (i := 177) rfl)
set_option maxRecDepth 100000 in
theorem jw1138 : (Jvm.Cond.fieldLink "SchoolBoard$Reader" (102 : Nat) "SchoolBoard$Clause" "act" "I") ∈ jT := jm4 (List.mem_of_getElem? (i := 178) rfl)
set_option maxRecDepth 100000 in
theorem jw1139 : (Jvm.Cond.fieldLink "SchoolBoard$Clause" (27 : Nat) "SchoolBoard$Clause" "when" "LSchoolBoard$Node;") ∈ jT := jm4 (List.mem_of_getElem? (i := 179) rfl)
set_option maxRecDepth 100000 in
theorem jw1140 : (Jvm.Cond.fieldLink "SchoolBoard$Code" (105 : Nat) "SchoolBoard$Clause" "when" "LSchoolBoard$Node;") ∈ jT := jm4 (List.mem_of_getElem? (i := 180) rfl)
set_option maxRecDepth 100000 in
theorem jw1141 : (Jvm.Cond.fieldLink "SchoolBoard$Reader" (122 : Nat) "SchoolBoard$Clause" "when" "LSchoolBoard$Node;") ∈ jT := jm4 (List.mem_of_getElem? (i := 181) rfl)
set_option maxRecDepth 100000 in
theorem jw1142 : (Jvm.Cond.fieldLink "SchoolBoard$Clause" (11 : Nat) "SchoolBoard$Clause" "text" "Ljava/lang/String;") ∈ jT := jm4 (List.mem_of_getElem? (i := 182) rfl)
set_option maxRecDepth 100000 in
theorem jw1143 : (Jvm.Cond.fieldLink "SchoolBoard$Code" (122 : Nat) "SchoolBoard$Clause" "text" "Ljava/lang/String;") ∈ jT := jm4 (List.mem_of_getElem? (i := 183) rfl)
set_option maxRecDepth 100000 in
theorem jw1144 : (Jvm.Cond.laysFinal "SchoolBoard$Clause" "SchoolBoard$Clause" "number" "I") ∈ jT := jm4 (List.mem_of_getElem? (i := 184) rfl)
set_option maxRecDepth 100000 in
theorem jw1146 : (Jvm.Cond.laysFinal "SchoolBoard$Clause" "SchoolBoard$Clause" "kind" "I") ∈ jT := jm4 (List.mem_of_getElem? (i := 186) rfl)
set_option maxRecDepth 100000 in
theorem jw1148 : (Jvm.Cond.lays "SchoolBoard$Clause" "SchoolBoard$Clause" "of" "I") ∈ jT := jm4 (List.mem_of_getElem? (i := 188) rfl)
set_option maxRecDepth 100000 in
theorem jw1150 : (Jvm.Cond.lays "SchoolBoard$Clause" "SchoolBoard$Clause" "per" "I") ∈ jT := jm4 (List.mem_of_getElem? (i := 190) rfl)
set_option maxRecDepth 100000 in
theorem jw1152 : (Jvm.Cond.lays "SchoolBoard$Clause" "SchoolBoard$Clause" "value" "I") ∈ jT := jm4 (List.mem_of_getElem? (i := 192) rfl)
set_option maxRecDepth 100000 in
theorem jw1154 : (Jvm.Cond.lays "SchoolBoard$Clause" "SchoolBoard$Clause" "act" "I") ∈ jT := jm4 (List.mem_of_getElem? (i := 194) rfl)
set_option maxRecDepth 100000 in
theorem jw1156 : (Jvm.Cond.lays "SchoolBoard$Clause" "SchoolBoard$Clause" "when" "LSchoolBoard$Node;") ∈ jT := jm4 (List.mem_of_getElem? (i := 196) rfl)
set_option maxRecDepth 100000 in
theorem jw1158 : (Jvm.Cond.lays "SchoolBoard$Clause" "SchoolBoard$Clause" "text" "Ljava/lang/String;") ∈ jT := jm4 (List.mem_of_getElem? (i := 198) rfl)
set_option maxRecDepth 100000 in
theorem jw1161 : (Jvm.Cond.methodLink "SchoolBoard$Reader" (105 : Nat) ({ cls := "SchoolBoard$Reader", name := "readTold", desc := "(LSchoolBoard$Clause;)V" } : Jvm.MethodName)) ∈ jT := jm4 (List.mem_of_getElem? (i := 201) rfl)
set_option maxRecDepth 100000 in
theorem jw1163 : (Jvm.Cond.instanceMethod ({ cls := "SchoolBoard$Reader", name := "readTold", desc := "(LSchoolBoard$Clause;)V" } : Jvm.MethodName)) ∈ jT := jm4 (List.mem_of_getElem? (i := 203) rfl)
set_option maxRecDepth 100000 in
theorem jw1164 : (Jvm.Cond.code ({ cls := "SchoolBoard$Reader", name := "readTold", desc := "(LSchoolBoard$Clause;)V" } : Jvm.MethodName) prog_10_method_14_code (2 : Nat) (Option.none : Option Jvm.ClassFile.FieldType)) ∈ jT := jm4 (List.mem_of_getElem? (i := 204) rfl)
set_option maxRecDepth 100000 in
theorem jw1165 : (Jvm.Cond.methodLink "SchoolBoard$Reader" (126 : Nat) ({ cls := "SchoolBoard$Reader", name := "markWord", desc := "()I" } : Jvm.MethodName)) ∈ jT := jm4 (List.mem_of_getElem? (i := 205) rfl)
set_option maxRecDepth 100000 in
theorem jw1167 : (Jvm.Cond.instanceMethod ({ cls := "SchoolBoard$Reader", name := "markWord", desc := "()I" } : Jvm.MethodName)) ∈ jT := jm4 (List.mem_of_getElem? (i := 207) rfl)
set_option maxRecDepth 100000 in
theorem jw1168 : (Jvm.Cond.code ({ cls := "SchoolBoard$Reader", name := "markWord", desc := "()I" } : Jvm.MethodName) prog_10_method_15_code (2 : Nat) (Option.some Jvm.ClassFile.FieldType.int)) ∈ jT := jm4 (List.mem_of_getElem? (i := 208) rfl)
set_option maxRecDepth 100000 in
theorem jw1169 : (Jvm.Cond.methodLink "SchoolBoard$Reader" (135 : Nat) ({ cls := "SchoolBoard$Reader", name := "readPer", desc := "(LSchoolBoard$Clause;)V" } : Jvm.MethodName)) ∈ jT := jm4 (List.mem_of_getElem? (i := 209) rfl)
set_option maxRecDepth 100000 in
theorem jw1171 : (Jvm.Cond.instanceMethod ({ cls := "SchoolBoard$Reader", name := "readPer", desc := "(LSchoolBoard$Clause;)V" } : Jvm.MethodName)) ∈ jT := jm4 (List.mem_of_getElem? (i := 211) rfl)
set_option maxRecDepth 100000 in
theorem jw1172 : (Jvm.Cond.code ({ cls := "SchoolBoard$Reader", name := "readPer", desc := "(LSchoolBoard$Clause;)V" } : Jvm.MethodName) prog_10_method_16_code (3 : Nat) (Option.none : Option Jvm.ClassFile.FieldType)) ∈ jT := jm4 (List.mem_of_getElem? (i := 212) rfl)
set_option maxRecDepth 100000 in
theorem jw1173 : (Jvm.Cond.methodLink "SchoolBoard$Reader" (112 : Nat) ({ cls := "SchoolBoard$Reader", name := "mayAsk", desc := "(I)Z" } : Jvm.MethodName)) ∈ jT := jm4 (List.mem_of_getElem? (i := 213) rfl)
set_option maxRecDepth 100000 in
theorem jw1174 : (Jvm.Cond.static ({ cls := "SchoolBoard$Reader", name := "mayAsk", desc := "(I)Z" } : Jvm.MethodName)) ∈ jT := jm4 (List.mem_of_getElem? (i := 214) rfl)
set_option maxRecDepth 100000 in
theorem jw1175 : (Jvm.Cond.code ({ cls := "SchoolBoard$Reader", name := "mayAsk", desc := "(I)Z" } : Jvm.MethodName) prog_10_method_13_code (1 : Nat) (Option.some Jvm.ClassFile.FieldType.boolean)) ∈ jT := jm4 (List.mem_of_getElem? (i := 215) rfl)
set_option maxRecDepth 100000 in
theorem jw1176 : (Jvm.Cond.methodLink "SchoolBoard$Reader" (118 : Nat) ({ cls := "SchoolBoard$Reader", name := "joined", desc := "(II)LSchoolBoard$Node;" } : Jvm.MethodName)) ∈ jT := jm4 (List.mem_of_getElem? (i := 216) rfl)
set_option maxRecDepth 100000 in
theorem jw1178 : (Jvm.Cond.instanceMethod ({ cls := "SchoolBoard$Reader", name := "joined", desc := "(II)LSchoolBoard$Node;" } : Jvm.MethodName)) ∈ jT := jm4 (List.mem_of_getElem? (i := 218) rfl)
set_option maxRecDepth 100000 in
theorem jw1179 : (Jvm.Cond.code ({ cls := "SchoolBoard$Reader", name := "joined", desc := "(II)LSchoolBoard$Node;" } : Jvm.MethodName) prog_10_method_17_code (7 : Nat) (Option.some (Jvm.ClassFile.FieldType.object "SchoolBoard$Node"))) ∈ jT := jm4 (List.mem_of_getElem? (i := 219) rfl)
set_option maxRecDepth 100000 in
theorem jw1180 : (Jvm.Cond.methodLink "SchoolBoard$Reader" (141 : Nat) ({ cls := "SchoolBoard$Reader", name := "one", desc := "(I)LSchoolBoard$Node;" } : Jvm.MethodName)) ∈ jT := jm4 (List.mem_of_getElem? (i := 220) rfl)
set_option maxRecDepth 100000 in
theorem jw1182 : (Jvm.Cond.instanceMethod ({ cls := "SchoolBoard$Reader", name := "one", desc := "(I)LSchoolBoard$Node;" } : Jvm.MethodName)) ∈ jT := jm4 (List.mem_of_getElem? (i := 222) rfl)
set_option maxRecDepth 100000 in
theorem jw1183 : (Jvm.Cond.code ({ cls := "SchoolBoard$Reader", name := "one", desc := "(I)LSchoolBoard$Node;" } : Jvm.MethodName) prog_10_method_18_code (5 : Nat) (Option.some (Jvm.ClassFile.FieldType.object "SchoolBoard$Node"))) ∈ jT := jm4 (List.mem_of_getElem? (i := 223) rfl)
set_option maxRecDepth 100000 in
theorem jw1184 : (Jvm.Cond.methodLink "SchoolBoard$Reader" (153 : Nat) ({ cls := "SchoolBoard$Reader", name := "comparison", desc := "()LSchoolBoard$Node;" } : Jvm.MethodName)) ∈ jT := jm4 (List.mem_of_getElem? (i := 224) rfl)
set_option maxRecDepth 100000 in
theorem jw1186 : (Jvm.Cond.instanceMethod ({ cls := "SchoolBoard$Reader", name := "comparison", desc := "()LSchoolBoard$Node;" } : Jvm.MethodName)) ∈ jT := jm4 (List.mem_of_getElem? (i := 226) rfl)
set_option maxRecDepth 100000 in
theorem jw1187 : (Jvm.Cond.code ({ cls := "SchoolBoard$Reader", name := "comparison", desc := "()LSchoolBoard$Node;" } : Jvm.MethodName) prog_10_method_19_code (4 : Nat) (Option.some (Jvm.ClassFile.FieldType.object "SchoolBoard$Node"))) ∈ jT := jm4 (List.mem_of_getElem? (i := 227) rfl)
set_option maxRecDepth 100000 in
theorem jw1188 : (Jvm.Cond.classLink "SchoolBoard$Reader" (145 : Nat) "SchoolBoard$Node") ∈ jT := jm4 (List.mem_of_getElem? (i := 228) rfl)
set_option maxRecDepth 100000 in
theorem jw1189 : (Jvm.Cond.instantiable "SchoolBoard$Node" (5 : Nat)) ∈ jT := jm4 (List.mem_of_getElem? (i := 229) rfl)
set_option maxRecDepth 100000 in
theorem jw1190 : (Jvm.Cond.methodLink "SchoolBoard$Reader" (147 : Nat) ({ cls := "SchoolBoard$Node", name := "<init>", desc := "(III)V" } : Jvm.MethodName)) ∈ jT := jm4 (List.mem_of_getElem? (i := 230) rfl)
set_option maxRecDepth 100000 in
theorem jw1191 : (Jvm.Cond.instanceMethod ({ cls := "SchoolBoard$Node", name := "<init>", desc := "(III)V" } : Jvm.MethodName)) ∈ jT := jm4 (List.mem_of_getElem? (i := 231) rfl)
set_option maxRecDepth 100000 in
theorem jw1192 : (Jvm.Cond.code ({ cls := "SchoolBoard$Node", name := "<init>", desc := "(III)V" } : Jvm.MethodName) prog_7_method_1_code (4 : Nat) (Option.none : Option Jvm.ClassFile.FieldType)) ∈ jT := jm4 (List.mem_of_getElem? (i := 232) rfl)
set_option maxRecDepth 100000 in
theorem jw1193 : (Jvm.Cond.methodLink "SchoolBoard$Node" (3 : Nat) ({ cls := "java/lang/Object", name := "<init>", desc := "()V" } : Jvm.MethodName)) ∈ jT := jm4 (List.mem_of_getElem? (i := 233) rfl)
set_option maxRecDepth 100000 in
theorem jw1194 : (Jvm.Cond.fieldLink "SchoolBoard$Node" (9 : Nat) "SchoolBoard$Node" "kind" "I") ∈ jT := jm4 (List.mem_of_getElem? (i := 234) rfl)
set_option maxRecDepth 100000 in
theorem jw1195 : (Jvm.Cond.fieldLink "SchoolBoard$Node" (15 : Nat) "SchoolBoard$Node" "sign" "I") ∈ jT := jm4 (List.mem_of_getElem? (i := 235) rfl)
set_option maxRecDepth 100000 in
theorem jw1196 : (Jvm.Cond.fieldLink "SchoolBoard$Node" (18 : Nat) "SchoolBoard$Node" "value" "I") ∈ jT := jm4 (List.mem_of_getElem? (i := 236) rfl)
set_option maxRecDepth 100000 in
theorem jw1197 : (Jvm.Cond.fieldLink "SchoolBoard$Node" (21 : Nat) "SchoolBoard$Node" "first" "LSchoolBoard$Node;") ∈ jT := jm4 (List.mem_of_getElem? (i := 237) rfl)
set_option maxRecDepth 100000 in
theorem jw1198 : (Jvm.Cond.fieldLink "SchoolBoard$Node" (25 : Nat) "SchoolBoard$Node" "after" "LSchoolBoard$Node;") ∈ jT := jm4 (List.mem_of_getElem? (i := 238) rfl)
set_option maxRecDepth 100000 in
theorem jw1199 : (Jvm.Cond.laysFinal "SchoolBoard$Node" "SchoolBoard$Node" "kind" "I") ∈ jT := jm4 (List.mem_of_getElem? (i := 239) rfl)
set_option maxRecDepth 100000 in
theorem jw1201 : (Jvm.Cond.laysFinal "SchoolBoard$Node" "SchoolBoard$Node" "sign" "I") ∈ jT := jm5 (List.mem_of_getElem? (i := 1) rfl)
set_option maxRecDepth 100000 in
theorem jw1203 : (Jvm.Cond.laysFinal "SchoolBoard$Node" "SchoolBoard$Node" "value" "I") ∈ jT := jm5 (List.mem_of_getElem? (i := 3) rfl)
set_option maxRecDepth 100000 in
theorem jw1205 : (Jvm.Cond.lays "SchoolBoard$Node" "SchoolBoard$Node" "first" "LSchoolBoard$Node;") ∈ jT := jm5 (List.mem_of_getElem? (i := 5) rfl)
set_option maxRecDepth 100000 in
theorem jw1207 : (Jvm.Cond.lays "SchoolBoard$Node" "SchoolBoard$Node" "after" "LSchoolBoard$Node;") ∈ jT := jm5 (List.mem_of_getElem? (i := 7) rfl)
set_option maxRecDepth 100000 in
theorem jw1210 : (Jvm.Cond.methodLink "SchoolBoard$Reader" (149 : Nat) ({ cls := "SchoolBoard$Node", name := "join", desc := "(LSchoolBoard$Node;LSchoolBoard$Node;)V" } : Jvm.MethodName)) ∈ jT := jm5 (List.mem_of_getElem? (i := 10) rfl)
set_option maxRecDepth 100000 in
theorem jw1211 : (Jvm.Cond.instanceMethod ({ cls := "SchoolBoard$Node", name := "join", desc := "(LSchoolBoard$Node;LSchoolBoard$Node;)V" } : Jvm.MethodName)) ∈ jT := jm5 (List.mem_of_getElem? (i := 11) rfl)
set_option maxRecDepth 100000 in
theorem jw1212 : (Jvm.Cond.selects "SchoolBoard$Node" ({ cls := "SchoolBoard$Node", name := "join", desc := "(LSchoolBoard$Node;LSchoolBoard$Node;)V" } : Jvm.MethodName) ({ cls := "SchoolBoard$Node", name := "join", desc := "(LSchoolBoard$Node;LSchoolBoard$Node;)V" } : Jvm.MethodName)) ∈ jT := jm5 (List.mem_of_getElem? (i := 12) rfl)
set_option maxRecDepth 100000 in
theorem jw1213 : (Jvm.Cond.code ({ cls := "SchoolBoard$Node", name := "join", desc := "(LSchoolBoard$Node;LSchoolBoard$Node;)V" } : Jvm.MethodName) prog_7_method_2_code (3 : Nat) (Option.none : Option Jvm.ClassFile.FieldType)) ∈ jT := jm5 (List.mem_of_getElem? (i := 13) rfl)
set_option maxRecDepth 100000 in
theorem jw1214 : (Jvm.Cond.methodLink "SchoolBoard$Code" (74 : Nat) ({ cls := "SchoolBoard$Clause", name := "write", desc := "(Ljava/lang/StringBuilder;)V" } : Jvm.MethodName)) ∈ jT := jm5 (List.mem_of_getElem? (i := 14) rfl)
set_option maxRecDepth 100000 in
theorem jw1215 : (Jvm.Cond.instanceMethod ({ cls := "SchoolBoard$Clause", name := "write", desc := "(Ljava/lang/StringBuilder;)V" } : Jvm.MethodName)) ∈ jT := jm5 (List.mem_of_getElem? (i := 15) rfl)
set_option maxRecDepth 100000 in
theorem jw1216 : (Jvm.Cond.selects "SchoolBoard$Clause" ({ cls := "SchoolBoard$Clause", name := "write", desc := "(Ljava/lang/StringBuilder;)V" } : Jvm.MethodName) ({ cls := "SchoolBoard$Clause", name := "write", desc := "(Ljava/lang/StringBuilder;)V" } : Jvm.MethodName)) ∈ jT := jm5 (List.mem_of_getElem? (i := 16) rfl)
set_option maxRecDepth 100000 in
theorem jw1217 : (Jvm.Cond.code ({ cls := "SchoolBoard$Clause", name := "write", desc := "(Ljava/lang/StringBuilder;)V" } : Jvm.MethodName) prog_3_method_4_code (2 : Nat) (Option.none : Option Jvm.ClassFile.FieldType)) ∈ jT := jm5 (List.mem_of_getElem? (i := 17) rfl)
set_option maxRecDepth 100000 in
theorem jw1218 : (Jvm.Cond.methodLink "SchoolBoard$Clause" (37 : Nat) ({ cls := "java/lang/StringBuilder", name := "setLength", desc := "(I)V" } : Jvm.MethodName)) ∈ jT := jm5 (List.mem_of_getElem? (i := 18) rfl)
set_option maxRecDepth 100000 in
theorem jw1219 : (Jvm.Cond.instanceMethod ({ cls := "java/lang/StringBuilder", name := "setLength", desc := "(I)V" } : Jvm.MethodName)) ∈ jT := jm5 (List.mem_of_getElem? (i := 19) rfl)
set_option maxRecDepth 100000 in
theorem jw1220 : (Jvm.Cond.selects "java/lang/StringBuilder" ({ cls := "java/lang/StringBuilder", name := "setLength", desc := "(I)V" } : Jvm.MethodName) ({ cls := "java/lang/StringBuilder", name := "setLength", desc := "(I)V" } : Jvm.MethodName)) ∈ jT := jm5 (List.mem_of_getElem? (i := 20) rfl)
set_option maxRecDepth 100000 in
theorem jw1221 : (Jvm.Cond.code ({ cls := "java/lang/StringBuilder", name := "setLength", desc := "(I)V" } : Jvm.MethodName) prog_20_method_89_code (2 : Nat) (Option.none : Option Jvm.ClassFile.FieldType)) ∈ jT := jm5 (List.mem_of_getElem? (i := 21) rfl)
set_option maxRecDepth 100000 in
theorem jw1222 : (Jvm.Cond.methodLink "java/lang/StringBuilder" (333 : Nat) ({ cls := "java/lang/AbstractStringBuilder", name := "setLength", desc := "(I)V" } : Jvm.MethodName)) ∈ jT := jm5 (List.mem_of_getElem? (i := 22) rfl)
set_option maxRecDepth 100000 in
theorem jw1223 : (Jvm.Cond.instanceMethod ({ cls := "java/lang/AbstractStringBuilder", name := "setLength", desc := "(I)V" } : Jvm.MethodName)) ∈ jT := jm5 (List.mem_of_getElem? (i := 23) rfl)
set_option maxRecDepth 100000 in
theorem jw1224 : (Jvm.Cond.code ({ cls := "java/lang/AbstractStringBuilder", name := "setLength", desc := "(I)V" } : Jvm.MethodName) prog_15_method_13_code (2 : Nat) (Option.none : Option Jvm.ClassFile.FieldType)) ∈ jT := jm5 (List.mem_of_getElem? (i := 24) rfl)
set_option maxRecDepth 100000 in
theorem jw1225 : (Jvm.Cond.methodLink "java/lang/AbstractStringBuilder" (100 : Nat) ({ cls := "java/lang/AbstractStringBuilder", name := "ensureCapacityInternal", desc := "(I)V" } : Jvm.MethodName)) ∈ jT := jm5 (List.mem_of_getElem? (i := 25) rfl)
set_option maxRecDepth 100000 in
theorem jw1226 : (Jvm.Cond.privateMethod ({ cls := "java/lang/AbstractStringBuilder", name := "ensureCapacityInternal", desc := "(I)V" } : Jvm.MethodName)) ∈ jT := jm5 (List.mem_of_getElem? (i := 26) rfl)
set_option maxRecDepth 100000 in
theorem jw1227 : (Jvm.Cond.instanceMethod ({ cls := "java/lang/AbstractStringBuilder", name := "ensureCapacityInternal", desc := "(I)V" } : Jvm.MethodName)) ∈ jT := jm5 (List.mem_of_getElem? (i := 27) rfl)
set_option maxRecDepth 100000 in
theorem jw1228 : (Jvm.Cond.code ({ cls := "java/lang/AbstractStringBuilder", name := "ensureCapacityInternal", desc := "(I)V" } : Jvm.MethodName) prog_15_method_9_code (3 : Nat) (Option.none : Option Jvm.ClassFile.FieldType)) ∈ jT := jm5 (List.mem_of_getElem? (i := 28) rfl)
set_option maxRecDepth 100000 in
theorem jw1229 : (Jvm.Cond.methodLink "java/lang/AbstractStringBuilder" (104 : Nat) ({ cls := "java/lang/AbstractStringBuilder", name := "newCapacity", desc := "(I)I" } : Jvm.MethodName)) ∈ jT := jm5 (List.mem_of_getElem? (i := 29) rfl)
set_option maxRecDepth 100000 in
theorem jw1230 : (Jvm.Cond.privateMethod ({ cls := "java/lang/AbstractStringBuilder", name := "newCapacity", desc := "(I)I" } : Jvm.MethodName)) ∈ jT := jm5 (List.mem_of_getElem? (i := 30) rfl)
set_option maxRecDepth 100000 in
theorem jw1231 : (Jvm.Cond.instanceMethod ({ cls := "java/lang/AbstractStringBuilder", name := "newCapacity", desc := "(I)I" } : Jvm.MethodName)) ∈ jT := jm5 (List.mem_of_getElem? (i := 31) rfl)
set_option maxRecDepth 100000 in
theorem jw1232 : (Jvm.Cond.code ({ cls := "java/lang/AbstractStringBuilder", name := "newCapacity", desc := "(I)I" } : Jvm.MethodName) prog_15_method_10_code (6 : Nat) (Option.some Jvm.ClassFile.FieldType.int)) ∈ jT := jm5 (List.mem_of_getElem? (i := 32) rfl)
set_option maxRecDepth 100000 in
theorem jw1233 : (Jvm.Cond.methodLink "java/lang/AbstractStringBuilder" (114 : Nat) ({ cls := "jdk/internal/util/ArraysSupport", name := "newLength", desc := "(III)I" } : Jvm.MethodName)) ∈ jT := jm5 (List.mem_of_getElem? (i := 33) rfl)
set_option maxRecDepth 100000 in
theorem jw1234 : (Jvm.Cond.static ({ cls := "jdk/internal/util/ArraysSupport", name := "newLength", desc := "(III)I" } : Jvm.MethodName)) ∈ jT := jm5 (List.mem_of_getElem? (i := 34) rfl)
set_option maxRecDepth 100000 in
theorem jw1235 : (Jvm.Cond.code ({ cls := "jdk/internal/util/ArraysSupport", name := "newLength", desc := "(III)I" } : Jvm.MethodName) prog_25_method_27_code (4 : Nat) (Option.some Jvm.ClassFile.FieldType.int)) ∈ jT := jm5 (List.mem_of_getElem? (i := 35) rfl)
set_option maxRecDepth 100000 in
theorem jw1236 : (Jvm.Cond.methodLink "jdk/internal/util/ArraysSupport" (194 : Nat) ({ cls := "java/lang/Math", name := "max", desc := "(II)I" } : Jvm.MethodName)) ∈ jT := jm5 (List.mem_of_getElem? (i := 36) rfl)
set_option maxRecDepth 100000 in
theorem jw1237 : (Jvm.Cond.constant "jdk/internal/util/ArraysSupport" (200 : Nat) (2147483639 : Int32)) ∈ jT := jm5 (List.mem_of_getElem? (i := 37) rfl)
set_option maxRecDepth 100000 in
theorem jw1241 : (Jvm.Cond.constant "java/lang/AbstractStringBuilder" (39 : Nat) (2147483647 : Int32)) ∈ jT := jm5 (List.mem_of_getElem? (i := 41) rfl)
set_option maxRecDepth 100000 in
theorem jw1242 : (Jvm.Cond.methodLink "java/lang/AbstractStringBuilder" (108 : Nat) ({ cls := "java/util/Arrays", name := "copyOf", desc := "([BI)[B" } : Jvm.MethodName)) ∈ jT := jm5 (List.mem_of_getElem? (i := 42) rfl)
set_option maxRecDepth 100000 in
theorem jw1243 : (Jvm.Cond.static ({ cls := "java/util/Arrays", name := "copyOf", desc := "([BI)[B" } : Jvm.MethodName)) ∈ jT := jm5 (List.mem_of_getElem? (i := 43) rfl)
set_option maxRecDepth 100000 in
theorem jw1244 : (Jvm.Cond.code ({ cls := "java/util/Arrays", name := "copyOf", desc := "([BI)[B" } : Jvm.MethodName) prog_24_method_121_code (3 : Nat) (Option.some (Jvm.ClassFile.FieldType.array Jvm.ClassFile.FieldType.byte))) ∈ jT := jm5 (List.mem_of_getElem? (i := 44) rfl)
set_option maxRecDepth 100000 in
theorem jw1245 : (Jvm.Cond.methodLink "java/util/Arrays" (310 : Nat) ({ cls := "[B", name := "clone", desc := "()Ljava/lang/Object;" } : Jvm.MethodName)) ∈ jT := jm5 (List.mem_of_getElem? (i := 45) rfl)
set_option maxRecDepth 100000 in
theorem jw1246 : (Jvm.Cond.sameMethod "[B" "java/lang/Object" "clone" "()Ljava/lang/Object;") ∈ jT := jm5 (List.mem_of_getElem? (i := 46) rfl)
set_option maxRecDepth 100000 in
theorem jw1247 : (Jvm.Cond.native ({ cls := "java/lang/Object", name := "clone", desc := "()Ljava/lang/Object;" } : Jvm.MethodName)) ∈ jT := jm5 (List.mem_of_getElem? (i := 47) rfl)
set_option maxRecDepth 100000 in
theorem jw1248 : (Jvm.Cond.instanceMethod ({ cls := "java/lang/Object", name := "clone", desc := "()Ljava/lang/Object;" } : Jvm.MethodName)) ∈ jT := jm5 (List.mem_of_getElem? (i := 48) rfl)
set_option maxRecDepth 100000 in
theorem jw1249 : (Jvm.Cond.selects "[B" ({ cls := "[B", name := "clone", desc := "()Ljava/lang/Object;" } : Jvm.MethodName) ({ cls := "java/lang/Object", name := "clone", desc := "()Ljava/lang/Object;" } : Jvm.MethodName)) ∈ jT := jm5 (List.mem_of_getElem? (i := 49) rfl)
set_option maxRecDepth 100000 in
theorem jw1250 : (Jvm.Cond.castable "[B" "java/lang/Cloneable") ∈ jT := jm5 (List.mem_of_getElem? (i := 50) rfl)
set_option maxRecDepth 100000 in
theorem jw1251 : (Jvm.Cond.classLink "java/util/Arrays" (311 : Nat) "[B") ∈ jT := jm5 (List.mem_of_getElem? (i := 51) rfl)
set_option maxRecDepth 100000 in
theorem jw1252 : (Jvm.Cond.methodLink "java/util/Arrays" (304 : Nat) ({ cls := "java/lang/Math", name := "min", desc := "(II)I" } : Jvm.MethodName)) ∈ jT := jm5 (List.mem_of_getElem? (i := 52) rfl)
set_option maxRecDepth 100000 in
theorem jw1253 : (Jvm.Cond.methodLink "java/util/Arrays" (150 : Nat) ({ cls := "java/lang/System", name := "arraycopy", desc := "(Ljava/lang/Object;ILjava/lang/Object;II)V" } : Jvm.MethodName)) ∈ jT := jm5 (List.mem_of_getElem? (i := 53) rfl)
set_option maxRecDepth 100000 in
theorem jw1254 : (Jvm.Cond.static ({ cls := "java/lang/System", name := "arraycopy", desc := "(Ljava/lang/Object;ILjava/lang/Object;II)V" } : Jvm.MethodName)) ∈ jT := jm5 (List.mem_of_getElem? (i := 54) rfl)
set_option maxRecDepth 100000 in
theorem jw1255 : (Jvm.Cond.native ({ cls := "java/lang/System", name := "arraycopy", desc := "(Ljava/lang/Object;ILjava/lang/Object;II)V" } : Jvm.MethodName)) ∈ jT := jm5 (List.mem_of_getElem? (i := 55) rfl)
set_option maxRecDepth 100000 in
theorem jw1256 : (Jvm.Cond.methodLink "java/lang/AbstractStringBuilder" (83 : Nat) ({ cls := "java/lang/AbstractStringBuilder", name := "isLatin1", desc := "()Z" } : Jvm.MethodName)) ∈ jT := jm5 (List.mem_of_getElem? (i := 56) rfl)
set_option maxRecDepth 100000 in
theorem jw1257 : (Jvm.Cond.instanceMethod ({ cls := "java/lang/AbstractStringBuilder", name := "isLatin1", desc := "()Z" } : Jvm.MethodName)) ∈ jT := jm5 (List.mem_of_getElem? (i := 57) rfl)
set_option maxRecDepth 100000 in
theorem jw1258 : (Jvm.Cond.sameMethod "java/lang/AbstractStringBuilder" "java/lang/AbstractStringBuilder" "isLatin1" "()Z") ∈ jT := jm5 (List.mem_of_getElem? (i := 58) rfl)
set_option maxRecDepth 100000 in
theorem jw1259 : (Jvm.Cond.selects "java/lang/StringBuilder" ({ cls := "java/lang/AbstractStringBuilder", name := "isLatin1", desc := "()Z" } : Jvm.MethodName) ({ cls := "java/lang/AbstractStringBuilder", name := "isLatin1", desc := "()Z" } : Jvm.MethodName)) ∈ jT := jm5 (List.mem_of_getElem? (i := 59) rfl)
set_option maxRecDepth 100000 in
theorem jw1260 : (Jvm.Cond.code ({ cls := "java/lang/AbstractStringBuilder", name := "isLatin1", desc := "()Z" } : Jvm.MethodName) prog_15_method_68_code (1 : Nat) (Option.some Jvm.ClassFile.FieldType.boolean)) ∈ jT := jm5 (List.mem_of_getElem? (i := 60) rfl)
set_option maxRecDepth 100000 in
theorem jw1274 : (Jvm.Cond.methodLinkNest "SchoolBoard$Clause" (43 : Nat) ({ cls := "SchoolBoard", name := "writeWord", desc := "(Ljava/lang/StringBuilder;I)V" } : Jvm.MethodName) "SchoolBoard") ∈ jT := jm5 (List.mem_of_getElem? (i := 74) rfl)
set_option maxRecDepth 100000 in
theorem jw1275 : (Jvm.Cond.static ({ cls := "SchoolBoard", name := "writeWord", desc := "(Ljava/lang/StringBuilder;I)V" } : Jvm.MethodName)) ∈ jT := jm5 (List.mem_of_getElem? (i := 75) rfl)
set_option maxRecDepth 100000 in
theorem jw1276 : (Jvm.Cond.code ({ cls := "SchoolBoard", name := "writeWord", desc := "(Ljava/lang/StringBuilder;I)V" } : Jvm.MethodName) prog_1_method_57_code (4 : Nat) (Option.none : Option Jvm.ClassFile.FieldType)) ∈ jT := jm5 (List.mem_of_getElem? (i := 76) rfl)
set_option maxRecDepth 100000 in
theorem jw1277 : (Jvm.Cond.methodLink "SchoolBoard" (341 : Nat) ({ cls := "SchoolBoard", name := "writeGap", desc := "(Ljava/lang/StringBuilder;)V" } : Jvm.MethodName)) ∈ jT := jm5 (List.mem_of_getElem? (i := 77) rfl)
set_option maxRecDepth 100000 in
theorem jw1278 : (Jvm.Cond.static ({ cls := "SchoolBoard", name := "writeGap", desc := "(Ljava/lang/StringBuilder;)V" } : Jvm.MethodName)) ∈ jT := jm5 (List.mem_of_getElem? (i := 78) rfl)
set_option maxRecDepth 100000 in
theorem jw1279 : (Jvm.Cond.code ({ cls := "SchoolBoard", name := "writeGap", desc := "(Ljava/lang/StringBuilder;)V" } : Jvm.MethodName) prog_1_method_59_code (2 : Nat) (Option.none : Option Jvm.ClassFile.FieldType)) ∈ jT := jm5 (List.mem_of_getElem? (i := 79) rfl)
set_option maxRecDepth 100000 in
theorem jw1280 : (Jvm.Cond.methodLink "SchoolBoard" (364 : Nat) ({ cls := "java/lang/StringBuilder", name := "length", desc := "()I" } : Jvm.MethodName)) ∈ jT := jm5 (List.mem_of_getElem? (i := 80) rfl)
set_option maxRecDepth 100000 in
theorem jw1281 : (Jvm.Cond.instanceMethod ({ cls := "java/lang/StringBuilder", name := "length", desc := "()I" } : Jvm.MethodName)) ∈ jT := jm5 (List.mem_of_getElem? (i := 81) rfl)
set_option maxRecDepth 100000 in
theorem jw1282 : (Jvm.Cond.selects "java/lang/StringBuilder" ({ cls := "java/lang/StringBuilder", name := "length", desc := "()I" } : Jvm.MethodName) ({ cls := "java/lang/StringBuilder", name := "length", desc := "()I" } : Jvm.MethodName)) ∈ jT := jm5 (List.mem_of_getElem? (i := 82) rfl)
set_option maxRecDepth 100000 in
theorem jw1283 : (Jvm.Cond.code ({ cls := "java/lang/StringBuilder", name := "length", desc := "()I" } : Jvm.MethodName) prog_20_method_93_code (1 : Nat) (Option.some Jvm.ClassFile.FieldType.int)) ∈ jT := jm5 (List.mem_of_getElem? (i := 83) rfl)
set_option maxRecDepth 100000 in
theorem jw1284 : (Jvm.Cond.methodLink "java/lang/StringBuilder" (343 : Nat) ({ cls := "java/lang/AbstractStringBuilder", name := "length", desc := "()I" } : Jvm.MethodName)) ∈ jT := jm5 (List.mem_of_getElem? (i := 84) rfl)
set_option maxRecDepth 100000 in
theorem jw1285 : (Jvm.Cond.instanceMethod ({ cls := "java/lang/AbstractStringBuilder", name := "length", desc := "()I" } : Jvm.MethodName)) ∈ jT := jm5 (List.mem_of_getElem? (i := 85) rfl)
set_option maxRecDepth 100000 in
theorem jw1286 : (Jvm.Cond.code ({ cls := "java/lang/AbstractStringBuilder", name := "length", desc := "()I" } : Jvm.MethodName) prog_15_method_6_code (1 : Nat) (Option.some Jvm.ClassFile.FieldType.int)) ∈ jT := jm5 (List.mem_of_getElem? (i := 86) rfl)
set_option maxRecDepth 100000 in
theorem jw1287 : (Jvm.Cond.methodLink "SchoolBoard" (365 : Nat) ({ cls := "java/lang/StringBuilder", name := "charAt", desc := "(I)C" } : Jvm.MethodName)) ∈ jT := jm5 (List.mem_of_getElem? (i := 87) rfl)
set_option maxRecDepth 100000 in
theorem jw1288 : (Jvm.Cond.instanceMethod ({ cls := "java/lang/StringBuilder", name := "charAt", desc := "(I)C" } : Jvm.MethodName)) ∈ jT := jm5 (List.mem_of_getElem? (i := 88) rfl)
set_option maxRecDepth 100000 in
theorem jw1289 : (Jvm.Cond.selects "java/lang/StringBuilder" ({ cls := "java/lang/StringBuilder", name := "charAt", desc := "(I)C" } : Jvm.MethodName) ({ cls := "java/lang/StringBuilder", name := "charAt", desc := "(I)C" } : Jvm.MethodName)) ∈ jT := jm5 (List.mem_of_getElem? (i := 89) rfl)
set_option maxRecDepth 100000 in
theorem jw1290 : (Jvm.Cond.code ({ cls := "java/lang/StringBuilder", name := "charAt", desc := "(I)C" } : Jvm.MethodName) prog_20_method_88_code (2 : Nat) (Option.some Jvm.ClassFile.FieldType.char)) ∈ jT := jm5 (List.mem_of_getElem? (i := 90) rfl)
set_option maxRecDepth 100000 in
theorem jw1291 : (Jvm.Cond.methodLink "java/lang/StringBuilder" (329 : Nat) ({ cls := "java/lang/AbstractStringBuilder", name := "charAt", desc := "(I)C" } : Jvm.MethodName)) ∈ jT := jm5 (List.mem_of_getElem? (i := 91) rfl)
set_option maxRecDepth 100000 in
theorem jw1292 : (Jvm.Cond.instanceMethod ({ cls := "java/lang/AbstractStringBuilder", name := "charAt", desc := "(I)C" } : Jvm.MethodName)) ∈ jT := jm5 (List.mem_of_getElem? (i := 92) rfl)
set_option maxRecDepth 100000 in
theorem jw1293 : (Jvm.Cond.code ({ cls := "java/lang/AbstractStringBuilder", name := "charAt", desc := "(I)C" } : Jvm.MethodName) prog_15_method_14_code (5 : Nat) (Option.some Jvm.ClassFile.FieldType.char)) ∈ jT := jm5 (List.mem_of_getElem? (i := 93) rfl)
set_option maxRecDepth 100000 in
theorem jw1294 : (Jvm.Cond.methodLink "java/lang/AbstractStringBuilder" (138 : Nat) ({ cls := "java/lang/Math", name := "min", desc := "(II)I" } : Jvm.MethodName)) ∈ jT := jm5 (List.mem_of_getElem? (i := 94) rfl)
set_option maxRecDepth 100000 in
theorem jw1295 : (Jvm.Cond.methodLink "java/lang/AbstractStringBuilder" (144 : Nat) ({ cls := "java/lang/String", name := "checkIndex", desc := "(II)V" } : Jvm.MethodName)) ∈ jT := jm5 (List.mem_of_getElem? (i := 95) rfl)
set_option maxRecDepth 100000 in
theorem jw1297 : (Jvm.Cond.methodLink "SchoolBoard" (366 : Nat) ({ cls := "SchoolBoard", name := "isLetter", desc := "(I)Z" } : Jvm.MethodName)) ∈ jT := jm5 (List.mem_of_getElem? (i := 97) rfl)
set_option maxRecDepth 100000 in
theorem jw1298 : (Jvm.Cond.methodLink "SchoolBoard" (369 : Nat) ({ cls := "SchoolBoard", name := "isDigit", desc := "(I)Z" } : Jvm.MethodName)) ∈ jT := jm5 (List.mem_of_getElem? (i := 98) rfl)
set_option maxRecDepth 100000 in
theorem jw1299 : (Jvm.Cond.methodLink "SchoolBoard" (355 : Nat) ({ cls := "java/lang/StringBuilder", name := "append", desc := "(C)Ljava/lang/StringBuilder;" } : Jvm.MethodName)) ∈ jT := jm5 (List.mem_of_getElem? (i := 99) rfl)
set_option maxRecDepth 100000 in
theorem jw1300 : (Jvm.Cond.instanceMethod ({ cls := "java/lang/StringBuilder", name := "append", desc := "(C)Ljava/lang/StringBuilder;" } : Jvm.MethodName)) ∈ jT := jm5 (List.mem_of_getElem? (i := 100) rfl)
set_option maxRecDepth 100000 in
theorem jw1301 : (Jvm.Cond.selects "java/lang/StringBuilder" ({ cls := "java/lang/StringBuilder", name := "append", desc := "(C)Ljava/lang/StringBuilder;" } : Jvm.MethodName) ({ cls := "java/lang/StringBuilder", name := "append", desc := "(C)Ljava/lang/StringBuilder;" } : Jvm.MethodName)) ∈ jT := jm5 (List.mem_of_getElem? (i := 101) rfl)
set_option maxRecDepth 100000 in
theorem jw1302 : (Jvm.Cond.code ({ cls := "java/lang/StringBuilder", name := "append", desc := "(C)Ljava/lang/StringBuilder;" } : Jvm.MethodName) prog_20_method_14_code (2 : Nat) (Option.some (Jvm.ClassFile.FieldType.object "java/lang/StringBuilder"))) ∈ jT := jm5 (List.mem_of_getElem? (i := 102) rfl)
set_option maxRecDepth 100000 in
theorem jw1303 : (Jvm.Cond.methodLink "java/lang/StringBuilder" (50 : Nat) ({ cls := "java/lang/AbstractStringBuilder", name := "append", desc := "(C)Ljava/lang/AbstractStringBuilder;" } : Jvm.MethodName)) ∈ jT := jm5 (List.mem_of_getElem? (i := 103) rfl)
set_option maxRecDepth 100000 in
theorem jw1304 : (Jvm.Cond.instanceMethod ({ cls := "java/lang/AbstractStringBuilder", name := "append", desc := "(C)Ljava/lang/AbstractStringBuilder;" } : Jvm.MethodName)) ∈ jT := jm5 (List.mem_of_getElem? (i := 104) rfl)
set_option maxRecDepth 100000 in
theorem jw1305 : (Jvm.Cond.code ({ cls := "java/lang/AbstractStringBuilder", name := "append", desc := "(C)Ljava/lang/AbstractStringBuilder;" } : Jvm.MethodName) prog_15_method_31_code (2 : Nat) (Option.some (Jvm.ClassFile.FieldType.object "java/lang/AbstractStringBuilder"))) ∈ jT := jm5 (List.mem_of_getElem? (i := 105) rfl)
set_option maxRecDepth 100000 in
theorem jw1306 : (Jvm.Cond.methodLink "java/lang/AbstractStringBuilder" (191 : Nat) ({ cls := "java/lang/StringLatin1", name := "canEncode", desc := "(C)Z" } : Jvm.MethodName)) ∈ jT := jm5 (List.mem_of_getElem? (i := 106) rfl)
set_option maxRecDepth 100000 in
theorem jw1307 : (Jvm.Cond.static ({ cls := "java/lang/StringLatin1", name := "canEncode", desc := "(C)Z" } : Jvm.MethodName)) ∈ jT := jm5 (List.mem_of_getElem? (i := 107) rfl)
set_option maxRecDepth 100000 in
theorem jw1308 : (Jvm.Cond.code ({ cls := "java/lang/StringLatin1", name := "canEncode", desc := "(C)Z" } : Jvm.MethodName) prog_21_method_3_code (1 : Nat) (Option.some Jvm.ClassFile.FieldType.boolean)) ∈ jT := jm5 (List.mem_of_getElem? (i := 108) rfl)
set_option maxRecDepth 100000 in
theorem jw1335 : (Jvm.Cond.methodLink "SchoolBoard" (347 : Nat) ({ cls := "java/lang/String", name := "length", desc := "()I" } : Jvm.MethodName)) ∈ jT := jm5 (List.mem_of_getElem? (i := 135) rfl)
set_option maxRecDepth 100000 in
theorem jw1336 : (Jvm.Cond.methodLink "SchoolBoard" (351 : Nat) ({ cls := "java/lang/String", name := "charAt", desc := "(I)C" } : Jvm.MethodName)) ∈ jT := jm5 (List.mem_of_getElem? (i := 136) rfl)
set_option maxRecDepth 100000 in
theorem jw1337 : (Jvm.Cond.methodLinkNest "SchoolBoard$Clause" (47 : Nat) ({ cls := "SchoolBoard", name := "writeNumber", desc := "(Ljava/lang/StringBuilder;I)V" } : Jvm.MethodName) "SchoolBoard") ∈ jT := jm5 (List.mem_of_getElem? (i := 137) rfl)
set_option maxRecDepth 100000 in
theorem jw1338 : (Jvm.Cond.static ({ cls := "SchoolBoard", name := "writeNumber", desc := "(Ljava/lang/StringBuilder;I)V" } : Jvm.MethodName)) ∈ jT := jm5 (List.mem_of_getElem? (i := 138) rfl)
set_option maxRecDepth 100000 in
theorem jw1339 : (Jvm.Cond.code ({ cls := "SchoolBoard", name := "writeNumber", desc := "(Ljava/lang/StringBuilder;I)V" } : Jvm.MethodName) prog_1_method_58_code (2 : Nat) (Option.none : Option Jvm.ClassFile.FieldType)) ∈ jT := jm5 (List.mem_of_getElem? (i := 139) rfl)
set_option maxRecDepth 100000 in
theorem jw1340 : (Jvm.Cond.methodLink "SchoolBoard" (361 : Nat) ({ cls := "java/lang/StringBuilder", name := "append", desc := "(I)Ljava/lang/StringBuilder;" } : Jvm.MethodName)) ∈ jT := jm5 (List.mem_of_getElem? (i := 140) rfl)
set_option maxRecDepth 100000 in
theorem jw1341 : (Jvm.Cond.instanceMethod ({ cls := "java/lang/StringBuilder", name := "append", desc := "(I)Ljava/lang/StringBuilder;" } : Jvm.MethodName)) ∈ jT := jm5 (List.mem_of_getElem? (i := 141) rfl)
set_option maxRecDepth 100000 in
theorem jw1342 : (Jvm.Cond.selects "java/lang/StringBuilder" ({ cls := "java/lang/StringBuilder", name := "append", desc := "(I)Ljava/lang/StringBuilder;" } : Jvm.MethodName) ({ cls := "java/lang/StringBuilder", name := "append", desc := "(I)Ljava/lang/StringBuilder;" } : Jvm.MethodName)) ∈ jT := jm5 (List.mem_of_getElem? (i := 142) rfl)
set_option maxRecDepth 100000 in
theorem jw1343 : (Jvm.Cond.code ({ cls := "java/lang/StringBuilder", name := "append", desc := "(I)Ljava/lang/StringBuilder;" } : Jvm.MethodName) prog_20_method_15_code (2 : Nat) (Option.some (Jvm.ClassFile.FieldType.object "java/lang/StringBuilder"))) ∈ jT := jm5 (List.mem_of_getElem? (i := 143) rfl)
set_option maxRecDepth 100000 in
theorem jw1344 : (Jvm.Cond.methodLink "java/lang/StringBuilder" (53 : Nat) ({ cls := "java/lang/AbstractStringBuilder", name := "append", desc := "(I)Ljava/lang/AbstractStringBuilder;" } : Jvm.MethodName)) ∈ jT := jm5 (List.mem_of_getElem? (i := 144) rfl)
set_option maxRecDepth 100000 in
theorem jw1345 : (Jvm.Cond.instanceMethod ({ cls := "java/lang/AbstractStringBuilder", name := "append", desc := "(I)Ljava/lang/AbstractStringBuilder;" } : Jvm.MethodName)) ∈ jT := jm5 (List.mem_of_getElem? (i := 145) rfl)
set_option maxRecDepth 100000 in
theorem jw1346 : (Jvm.Cond.code ({ cls := "java/lang/AbstractStringBuilder", name := "append", desc := "(I)Ljava/lang/AbstractStringBuilder;" } : Jvm.MethodName) prog_15_method_32_code (4 : Nat) (Option.some (Jvm.ClassFile.FieldType.object "java/lang/AbstractStringBuilder"))) ∈ jT := jm5 (List.mem_of_getElem? (i := 146) rfl)
set_option maxRecDepth 100000 in
theorem jw1347 : (Jvm.Cond.methodLink "java/lang/AbstractStringBuilder" (245 : Nat) ({ cls := "java/lang/Integer", name := "stringSize", desc := "(I)I" } : Jvm.MethodName)) ∈ jT := jm5 (List.mem_of_getElem? (i := 147) rfl)
set_option maxRecDepth 100000 in
theorem jw1348 : (Jvm.Cond.static ({ cls := "java/lang/Integer", name := "stringSize", desc := "(I)I" } : Jvm.MethodName)) ∈ jT := jm5 (List.mem_of_getElem? (i := 148) rfl)
set_option maxRecDepth 100000 in
theorem jw1349 : (Jvm.Cond.code ({ cls := "java/lang/Integer", name := "stringSize", desc := "(I)I" } : Jvm.MethodName) prog_17_method_13_code (4 : Nat) (Option.some Jvm.ClassFile.FieldType.int)) ∈ jT := jm5 (List.mem_of_getElem? (i := 149) rfl)
set_option maxRecDepth 100000 in
theorem jw1350 : (Jvm.Cond.methodLink "java/lang/AbstractStringBuilder" (248 : Nat) ({ cls := "java/lang/Integer", name := "getChars", desc := "(II[B)I" } : Jvm.MethodName)) ∈ jT := jm5 (List.mem_of_getElem? (i := 150) rfl)
set_option maxRecDepth 100000 in
theorem jw1351 : (Jvm.Cond.static ({ cls := "java/lang/Integer", name := "getChars", desc := "(II[B)I" } : Jvm.MethodName)) ∈ jT := jm5 (List.mem_of_getElem? (i := 151) rfl)
set_option maxRecDepth 100000 in
theorem jw1352 : (Jvm.Cond.code ({ cls := "java/lang/Integer", name := "getChars", desc := "(II[B)I" } : Jvm.MethodName) prog_17_method_12_code (7 : Nat) (Option.some Jvm.ClassFile.FieldType.int)) ∈ jT := jm5 (List.mem_of_getElem? (i := 152) rfl)
set_option maxRecDepth 100000 in
theorem jw1353 : (Jvm.Cond.fieldLink "java/lang/Integer" (83 : Nat) "java/lang/Integer" "DigitOnes" "[B") ∈ jT := jm5 (List.mem_of_getElem? (i := 153) rfl)
set_option maxRecDepth 100000 in
theorem jw1355 : (Jvm.Cond.fieldLink "java/lang/Integer" (87 : Nat) "java/lang/Integer" "DigitTens" "[B") ∈ jT := jm5 (List.mem_of_getElem? (i := 155) rfl)
set_option maxRecDepth 100000 in
theorem jw1374 : (Jvm.Cond.methodLink "SchoolBoard$Clause" (50 : Nat) ({ cls := "java/lang/StringBuilder", name := "append", desc := "(C)Ljava/lang/StringBuilder;" } : Jvm.MethodName)) ∈ jT := jm5 (List.mem_of_getElem? (i := 174) rfl)
set_option maxRecDepth 100000 in
theorem jw1375 : (Jvm.Cond.methodLink "SchoolBoard$Clause" (54 : Nat) ({ cls := "SchoolBoard$Clause", name := "writeBody", desc := "(Ljava/lang/StringBuilder;)V" } : Jvm.MethodName)) ∈ jT := jm5 (List.mem_of_getElem? (i := 175) rfl)
set_option maxRecDepth 100000 in
theorem jw1377 : (Jvm.Cond.instanceMethod ({ cls := "SchoolBoard$Clause", name := "writeBody", desc := "(Ljava/lang/StringBuilder;)V" } : Jvm.MethodName)) ∈ jT := jm5 (List.mem_of_getElem? (i := 177) rfl)
set_option maxRecDepth 100000 in
theorem jw1378 : (Jvm.Cond.code ({ cls := "SchoolBoard$Clause", name := "writeBody", desc := "(Ljava/lang/StringBuilder;)V" } : Jvm.MethodName) prog_3_method_5_code (2 : Nat) (Option.none : Option Jvm.ClassFile.FieldType)) ∈ jT := jm5 (List.mem_of_getElem? (i := 178) rfl)
set_option maxRecDepth 100000 in
theorem jw1379 : (Jvm.Cond.methodLink "SchoolBoard$Clause" (65 : Nat) ({ cls := "SchoolBoard$Clause", name := "writeTold", desc := "(Ljava/lang/StringBuilder;I)V" } : Jvm.MethodName)) ∈ jT := jm5 (List.mem_of_getElem? (i := 179) rfl)
set_option maxRecDepth 100000 in
theorem jw1381 : (Jvm.Cond.instanceMethod ({ cls := "SchoolBoard$Clause", name := "writeTold", desc := "(Ljava/lang/StringBuilder;I)V" } : Jvm.MethodName)) ∈ jT := jm5 (List.mem_of_getElem? (i := 181) rfl)
set_option maxRecDepth 100000 in
theorem jw1382 : (Jvm.Cond.code ({ cls := "SchoolBoard$Clause", name := "writeTold", desc := "(Ljava/lang/StringBuilder;I)V" } : Jvm.MethodName) prog_3_method_6_code (3 : Nat) (Option.none : Option Jvm.ClassFile.FieldType)) ∈ jT := jm5 (List.mem_of_getElem? (i := 182) rfl)
set_option maxRecDepth 100000 in
theorem jw1383 : (Jvm.Cond.methodLinkNest "SchoolBoard$Clause" (58 : Nat) ({ cls := "SchoolBoard$Node", name := "writeTo", desc := "(Ljava/lang/StringBuilder;I)V" } : Jvm.MethodName) "SchoolBoard") ∈ jT := jm5 (List.mem_of_getElem? (i := 183) rfl)
set_option maxRecDepth 100000 in
theorem jw1385 : (Jvm.Cond.instanceMethod ({ cls := "SchoolBoard$Node", name := "writeTo", desc := "(Ljava/lang/StringBuilder;I)V" } : Jvm.MethodName)) ∈ jT := jm5 (List.mem_of_getElem? (i := 185) rfl)
set_option maxRecDepth 100000 in
theorem jw1386 : (Jvm.Cond.code ({ cls := "SchoolBoard$Node", name := "writeTo", desc := "(Ljava/lang/StringBuilder;I)V" } : Jvm.MethodName) prog_7_method_4_code (4 : Nat) (Option.none : Option Jvm.ClassFile.FieldType)) ∈ jT := jm5 (List.mem_of_getElem? (i := 186) rfl)
set_option maxRecDepth 100000 in
theorem jw1387 : (Jvm.Cond.methodLinkNest "SchoolBoard$Node" (32 : Nat) ({ cls := "SchoolBoard", name := "writeWord", desc := "(Ljava/lang/StringBuilder;I)V" } : Jvm.MethodName) "SchoolBoard") ∈ jT := jm5 (List.mem_of_getElem? (i := 187) rfl)
set_option maxRecDepth 100000 in
theorem jw1388 : (Jvm.Cond.methodLink "SchoolBoard$Node" (36 : Nat) ({ cls := "SchoolBoard$Node", name := "writeIn", desc := "(LSchoolBoard$Node;Ljava/lang/StringBuilder;I)V" } : Jvm.MethodName)) ∈ jT := jm5 (List.mem_of_getElem? (i := 188) rfl)
set_option maxRecDepth 100000 in
theorem jw1390 : (Jvm.Cond.instanceMethod ({ cls := "SchoolBoard$Node", name := "writeIn", desc := "(LSchoolBoard$Node;Ljava/lang/StringBuilder;I)V" } : Jvm.MethodName)) ∈ jT := jm5 (List.mem_of_getElem? (i := 190) rfl)
set_option maxRecDepth 100000 in
theorem jw1391 : (Jvm.Cond.code ({ cls := "SchoolBoard$Node", name := "writeIn", desc := "(LSchoolBoard$Node;Ljava/lang/StringBuilder;I)V" } : Jvm.MethodName) prog_7_method_5_code (5 : Nat) (Option.none : Option Jvm.ClassFile.FieldType)) ∈ jT := jm5 (List.mem_of_getElem? (i := 191) rfl)
set_option maxRecDepth 100000 in
theorem jw1392 : (Jvm.Cond.methodLink "SchoolBoard$Node" (40 : Nat) ({ cls := "java/lang/StringBuilder", name := "append", desc := "(C)Ljava/lang/StringBuilder;" } : Jvm.MethodName)) ∈ jT := jm5 (List.mem_of_getElem? (i := 192) rfl)
set_option maxRecDepth 100000 in
theorem jw1393 : (Jvm.Cond.methodLink "SchoolBoard$Node" (49 : Nat) ({ cls := "SchoolBoard$Node", name := "writeTo", desc := "(Ljava/lang/StringBuilder;I)V" } : Jvm.MethodName)) ∈ jT := jm5 (List.mem_of_getElem? (i := 193) rfl)
set_option maxRecDepth 100000 in
theorem jw1394 : (Jvm.Cond.methodLinkNest "SchoolBoard$Node" (46 : Nat) ({ cls := "SchoolBoard", name := "writeNumber", desc := "(Ljava/lang/StringBuilder;I)V" } : Jvm.MethodName) "SchoolBoard") ∈ jT := jm5 (List.mem_of_getElem? (i := 194) rfl)
set_option maxRecDepth 100000 in
theorem jw1395 : (Jvm.Cond.methodLink "SchoolBoard$Clause" (61 : Nat) ({ cls := "java/lang/StringBuilder", name := "toString", desc := "()Ljava/lang/String;" } : Jvm.MethodName)) ∈ jT := jm5 (List.mem_of_getElem? (i := 195) rfl)
set_option maxRecDepth 100000 in
theorem jw1396 : (Jvm.Cond.instanceMethod ({ cls := "java/lang/StringBuilder", name := "toString", desc := "()Ljava/lang/String;" } : Jvm.MethodName)) ∈ jT := jm5 (List.mem_of_getElem? (i := 196) rfl)
set_option maxRecDepth 100000 in
theorem jw1397 : (Jvm.Cond.selects "java/lang/StringBuilder" ({ cls := "java/lang/StringBuilder", name := "toString", desc := "()Ljava/lang/String;" } : Jvm.MethodName) ({ cls := "java/lang/StringBuilder", name := "toString", desc := "()Ljava/lang/String;" } : Jvm.MethodName)) ∈ jT := jm5 (List.mem_of_getElem? (i := 197) rfl)
set_option maxRecDepth 100000 in
theorem jw1398 : (Jvm.Cond.code ({ cls := "java/lang/StringBuilder", name := "toString", desc := "()Ljava/lang/String;" } : Jvm.MethodName) prog_20_method_42_code (1 : Nat) (Option.some (Jvm.ClassFile.FieldType.object "java/lang/String"))) ∈ jT := jm5 (List.mem_of_getElem? (i := 198) rfl)
set_option maxRecDepth 100000 in
theorem jw1399 : (Jvm.Cond.classLink "java/lang/StringBuilder" (18 : Nat) "java/lang/String") ∈ jT := jm5 (List.mem_of_getElem? (i := 199) rfl)
set_option maxRecDepth 100000 in
theorem jw1400 : (Jvm.Cond.instantiable "java/lang/String" (4 : Nat)) ∈ jT := jm5 (List.mem_of_getElem? (i := 200) rfl)
set_option maxRecDepth 100000 in
theorem jw1401 : (Jvm.Cond.methodLink "java/lang/StringBuilder" (137 : Nat) ({ cls := "java/lang/String", name := "<init>", desc := "(Ljava/lang/StringBuilder;)V" } : Jvm.MethodName)) ∈ jT := jm5 (List.mem_of_getElem? (i := 201) rfl)
set_option maxRecDepth 100000 in
theorem jw1402 : (Jvm.Cond.instanceMethod ({ cls := "java/lang/String", name := "<init>", desc := "(Ljava/lang/StringBuilder;)V" } : Jvm.MethodName)) ∈ jT := jm5 (List.mem_of_getElem? (i := 202) rfl)
set_option maxRecDepth 100000 in
theorem jw1403 : (Jvm.Cond.code ({ cls := "java/lang/String", name := "<init>", desc := "(Ljava/lang/StringBuilder;)V" } : Jvm.MethodName) prog_19_method_53_code (2 : Nat) (Option.none : Option Jvm.ClassFile.FieldType)) ∈ jT := jm5 (List.mem_of_getElem? (i := 203) rfl)
set_option maxRecDepth 100000 in
theorem jw1404 : (Jvm.Cond.methodLink "java/lang/String" (489 : Nat) ({ cls := "java/lang/String", name := "<init>", desc := "(Ljava/lang/AbstractStringBuilder;Ljava/lang/Void;)V" } : Jvm.MethodName)) ∈ jT := jm5 (List.mem_of_getElem? (i := 204) rfl)
set_option maxRecDepth 100000 in
theorem jw1405 : (Jvm.Cond.instanceMethod ({ cls := "java/lang/String", name := "<init>", desc := "(Ljava/lang/AbstractStringBuilder;Ljava/lang/Void;)V" } : Jvm.MethodName)) ∈ jT := jm5 (List.mem_of_getElem? (i := 205) rfl)
set_option maxRecDepth 100000 in
theorem jw1406 : (Jvm.Cond.code ({ cls := "java/lang/String", name := "<init>", desc := "(Ljava/lang/AbstractStringBuilder;Ljava/lang/Void;)V" } : Jvm.MethodName) prog_19_method_150_code (5 : Nat) (Option.none : Option Jvm.ClassFile.FieldType)) ∈ jT := jm5 (List.mem_of_getElem? (i := 206) rfl)
set_option maxRecDepth 100000 in
theorem jw1407 : (Jvm.Cond.methodLink "java/lang/String" (1 : Nat) ({ cls := "java/lang/Object", name := "<init>", desc := "()V" } : Jvm.MethodName)) ∈ jT := jm5 (List.mem_of_getElem? (i := 207) rfl)
set_option maxRecDepth 100000 in
theorem jw1408 : (Jvm.Cond.methodLink "java/lang/String" (552 : Nat) ({ cls := "java/lang/AbstractStringBuilder", name := "getValue", desc := "()[B" } : Jvm.MethodName)) ∈ jT := jm5 (List.mem_of_getElem? (i := 208) rfl)
set_option maxRecDepth 100000 in
theorem jw1409 : (Jvm.Cond.instanceMethod ({ cls := "java/lang/AbstractStringBuilder", name := "getValue", desc := "()[B" } : Jvm.MethodName)) ∈ jT := jm5 (List.mem_of_getElem? (i := 209) rfl)
set_option maxRecDepth 100000 in
theorem jw1410 : (Jvm.Cond.sameMethod "java/lang/AbstractStringBuilder" "java/lang/AbstractStringBuilder" "getValue" "()[B") ∈ jT := jm5 (List.mem_of_getElem? (i := 210) rfl)
set_option maxRecDepth 100000 in
theorem jw1411 : (Jvm.Cond.selects "java/lang/StringBuilder" ({ cls := "java/lang/AbstractStringBuilder", name := "getValue", desc := "()[B" } : Jvm.MethodName) ({ cls := "java/lang/AbstractStringBuilder", name := "getValue", desc := "()[B" } : Jvm.MethodName)) ∈ jT := jm5 (List.mem_of_getElem? (i := 211) rfl)
set_option maxRecDepth 100000 in
theorem jw1412 : (Jvm.Cond.code ({ cls := "java/lang/AbstractStringBuilder", name := "getValue", desc := "()[B" } : Jvm.MethodName) prog_15_method_64_code (1 : Nat) (Option.some (Jvm.ClassFile.FieldType.array Jvm.ClassFile.FieldType.byte))) ∈ jT := jm5 (List.mem_of_getElem? (i := 212) rfl)
set_option maxRecDepth 100000 in
theorem jw1413 : (Jvm.Cond.methodLink "java/lang/String" (549 : Nat) ({ cls := "java/lang/AbstractStringBuilder", name := "length", desc := "()I" } : Jvm.MethodName)) ∈ jT := jm5 (List.mem_of_getElem? (i := 213) rfl)
set_option maxRecDepth 100000 in
theorem jw1414 : (Jvm.Cond.methodLink "java/lang/String" (1047 : Nat) ({ cls := "java/lang/AbstractStringBuilder", name := "isLatin1", desc := "()Z" } : Jvm.MethodName)) ∈ jT := jm5 (List.mem_of_getElem? (i := 214) rfl)
set_option maxRecDepth 100000 in
theorem jw1415 : (Jvm.Cond.methodLink "java/lang/String" (54 : Nat) ({ cls := "java/util/Arrays", name := "copyOfRange", desc := "([BII)[B" } : Jvm.MethodName)) ∈ jT := jm5 (List.mem_of_getElem? (i := 215) rfl)
set_option maxRecDepth 100000 in
theorem jw1416 : (Jvm.Cond.static ({ cls := "java/util/Arrays", name := "copyOfRange", desc := "([BII)[B" } : Jvm.MethodName)) ∈ jT := jm5 (List.mem_of_getElem? (i := 216) rfl)
set_option maxRecDepth 100000 in
theorem jw1417 : (Jvm.Cond.code ({ cls := "java/util/Arrays", name := "copyOfRange", desc := "([BII)[B" } : Jvm.MethodName) prog_24_method_132_code (3 : Nat) (Option.some (Jvm.ClassFile.FieldType.array Jvm.ClassFile.FieldType.byte))) ∈ jT := jm5 (List.mem_of_getElem? (i := 217) rfl)
set_option maxRecDepth 100000 in
theorem jw1418 : (Jvm.Cond.methodLink "java/util/Arrays" (339 : Nat) ({ cls := "java/util/Arrays", name := "copyOfRangeByte", desc := "([BII)[B" } : Jvm.MethodName)) ∈ jT := jm5 (List.mem_of_getElem? (i := 218) rfl)
set_option maxRecDepth 100000 in
theorem jw1419 : (Jvm.Cond.static ({ cls := "java/util/Arrays", name := "copyOfRangeByte", desc := "([BII)[B" } : Jvm.MethodName)) ∈ jT := jm5 (List.mem_of_getElem? (i := 219) rfl)
set_option maxRecDepth 100000 in
theorem jw1420 : (Jvm.Cond.code ({ cls := "java/util/Arrays", name := "copyOfRangeByte", desc := "([BII)[B" } : Jvm.MethodName) prog_24_method_133_code (5 : Nat) (Option.some (Jvm.ClassFile.FieldType.array Jvm.ClassFile.FieldType.byte))) ∈ jT := jm5 (List.mem_of_getElem? (i := 220) rfl)
set_option maxRecDepth 100000 in
theorem jw1421 : (Jvm.Cond.methodLink "java/util/Arrays" (343 : Nat) ({ cls := "java/util/Arrays", name := "checkLength", desc := "(II)V" } : Jvm.MethodName)) ∈ jT := jm5 (List.mem_of_getElem? (i := 221) rfl)
set_option maxRecDepth 100000 in
theorem jw1422 : (Jvm.Cond.static ({ cls := "java/util/Arrays", name := "checkLength", desc := "(II)V" } : Jvm.MethodName)) ∈ jT := jm5 (List.mem_of_getElem? (i := 222) rfl)
set_option maxRecDepth 100000 in
theorem jw1423 : (Jvm.Cond.code ({ cls := "java/util/Arrays", name := "checkLength", desc := "(II)V" } : Jvm.MethodName) prog_24_method_131_code (2 : Nat) (Option.none : Option Jvm.ClassFile.FieldType)) ∈ jT := jm5 (List.mem_of_getElem? (i := 223) rfl)
set_option maxRecDepth 100000 in
theorem jw1434 : (Jvm.Cond.fieldLink "java/lang/String" (9 : Nat) "java/lang/String" "value" "[B") ∈ jT := jm5 (List.mem_of_getElem? (i := 234) rfl)
set_option maxRecDepth 100000 in
theorem jw1435 : (Jvm.Cond.fieldLink "java/lang/String" (15 : Nat) "java/lang/String" "coder" "B") ∈ jT := jm5 (List.mem_of_getElem? (i := 235) rfl)
set_option maxRecDepth 100000 in
theorem jw1436 : (Jvm.Cond.laysFinal "java/lang/String" "java/lang/String" "value" "[B") ∈ jT := jm5 (List.mem_of_getElem? (i := 236) rfl)
set_option maxRecDepth 100000 in
theorem jw1438 : (Jvm.Cond.laysFinal "java/lang/String" "java/lang/String" "coder" "B") ∈ jT := jm5 (List.mem_of_getElem? (i := 238) rfl)
set_option maxRecDepth 100000 in
theorem jw1440 : (Jvm.Cond.lays "java/lang/String" "java/lang/String" "hash" "I") ∈ jT := jm6 (List.mem_of_getElem? (i := 0) rfl)
set_option maxRecDepth 100000 in
theorem jw1442 : (Jvm.Cond.lays "java/lang/String" "java/lang/String" "hashIsZero" "Z") ∈ jT := jm6 (List.mem_of_getElem? (i := 2) rfl)
set_option maxRecDepth 100000 in
theorem jw1445 : (Jvm.Cond.methodLink "SchoolBoard$Code" (78 : Nat) ({ cls := "SchoolBoard$Code", name := "tellYear", desc := "(I)V" } : Jvm.MethodName)) ∈ jT := jm6 (List.mem_of_getElem? (i := 5) rfl)
set_option maxRecDepth 100000 in
theorem jw1447 : (Jvm.Cond.instanceMethod ({ cls := "SchoolBoard$Code", name := "tellYear", desc := "(I)V" } : Jvm.MethodName)) ∈ jT := jm6 (List.mem_of_getElem? (i := 7) rfl)
set_option maxRecDepth 100000 in
theorem jw1448 : (Jvm.Cond.code ({ cls := "SchoolBoard$Code", name := "tellYear", desc := "(I)V" } : Jvm.MethodName) prog_4_method_4_code (5 : Nat) (Option.none : Option Jvm.ClassFile.FieldType)) ∈ jT := jm6 (List.mem_of_getElem? (i := 8) rfl)
set_option maxRecDepth 100000 in
theorem jw1449 : (Jvm.Cond.methodLink "SchoolBoard$Code" (91 : Nat) ({ cls := "SchoolBoard$Code", name := "orderKinds", desc := "(I)V" } : Jvm.MethodName)) ∈ jT := jm6 (List.mem_of_getElem? (i := 9) rfl)
set_option maxRecDepth 100000 in
theorem jw1451 : (Jvm.Cond.instanceMethod ({ cls := "SchoolBoard$Code", name := "orderKinds", desc := "(I)V" } : Jvm.MethodName)) ∈ jT := jm6 (List.mem_of_getElem? (i := 11) rfl)
set_option maxRecDepth 100000 in
theorem jw1452 : (Jvm.Cond.code ({ cls := "SchoolBoard$Code", name := "orderKinds", desc := "(I)V" } : Jvm.MethodName) prog_4_method_5_code (6 : Nat) (Option.none : Option Jvm.ClassFile.FieldType)) ∈ jT := jm6 (List.mem_of_getElem? (i := 12) rfl)
set_option maxRecDepth 100000 in
theorem jw1453 : (Jvm.Cond.methodLink "SchoolBoardLaw" (134 : Nat) ({ cls := "SchoolBoard", name := "fault", desc := "()I" } : Jvm.MethodName)) ∈ jT := jm6 (List.mem_of_getElem? (i := 13) rfl)
set_option maxRecDepth 100000 in
theorem jw1454 : (Jvm.Cond.instanceMethod ({ cls := "SchoolBoard", name := "fault", desc := "()I" } : Jvm.MethodName)) ∈ jT := jm6 (List.mem_of_getElem? (i := 14) rfl)
set_option maxRecDepth 100000 in
theorem jw1455 : (Jvm.Cond.selects "SchoolBoard" ({ cls := "SchoolBoard", name := "fault", desc := "()I" } : Jvm.MethodName) ({ cls := "SchoolBoard", name := "fault", desc := "()I" } : Jvm.MethodName)) ∈ jT := jm6 (List.mem_of_getElem? (i := 15) rfl)
set_option maxRecDepth 100000 in
theorem jw1456 : (Jvm.Cond.code ({ cls := "SchoolBoard", name := "fault", desc := "()I" } : Jvm.MethodName) prog_1_method_30_code (1 : Nat) (Option.some Jvm.ClassFile.FieldType.int)) ∈ jT := jm6 (List.mem_of_getElem? (i := 16) rfl)
set_option maxRecDepth 100000 in
theorem jw1457 : (Jvm.Cond.methodLink "SchoolBoardLaw" (139 : Nat) ({ cls := "SchoolBoard", name := "written", desc := "(II)I" } : Jvm.MethodName)) ∈ jT := jm6 (List.mem_of_getElem? (i := 17) rfl)
set_option maxRecDepth 100000 in
theorem jw1458 : (Jvm.Cond.instanceMethod ({ cls := "SchoolBoard", name := "written", desc := "(II)I" } : Jvm.MethodName)) ∈ jT := jm6 (List.mem_of_getElem? (i := 18) rfl)
set_option maxRecDepth 100000 in
theorem jw1459 : (Jvm.Cond.selects "SchoolBoard" ({ cls := "SchoolBoard", name := "written", desc := "(II)I" } : Jvm.MethodName) ({ cls := "SchoolBoard", name := "written", desc := "(II)I" } : Jvm.MethodName)) ∈ jT := jm6 (List.mem_of_getElem? (i := 19) rfl)
set_option maxRecDepth 100000 in
theorem jw1460 : (Jvm.Cond.code ({ cls := "SchoolBoard", name := "written", desc := "(II)I" } : Jvm.MethodName) prog_1_method_31_code (3 : Nat) (Option.some Jvm.ClassFile.FieldType.int)) ∈ jT := jm6 (List.mem_of_getElem? (i := 20) rfl)
set_option maxRecDepth 100000 in
theorem jw1461 : (Jvm.Cond.methodLink "SchoolBoard" (232 : Nat) ({ cls := "SchoolBoard$Code", name := "length", desc := "(I)I" } : Jvm.MethodName)) ∈ jT := jm6 (List.mem_of_getElem? (i := 21) rfl)
set_option maxRecDepth 100000 in
theorem jw1462 : (Jvm.Cond.instanceMethod ({ cls := "SchoolBoard$Code", name := "length", desc := "(I)I" } : Jvm.MethodName)) ∈ jT := jm6 (List.mem_of_getElem? (i := 22) rfl)
set_option maxRecDepth 100000 in
theorem jw1463 : (Jvm.Cond.selects "SchoolBoard$Code" ({ cls := "SchoolBoard$Code", name := "length", desc := "(I)I" } : Jvm.MethodName) ({ cls := "SchoolBoard$Code", name := "length", desc := "(I)I" } : Jvm.MethodName)) ∈ jT := jm6 (List.mem_of_getElem? (i := 23) rfl)
set_option maxRecDepth 100000 in
theorem jw1464 : (Jvm.Cond.code ({ cls := "SchoolBoard$Code", name := "length", desc := "(I)I" } : Jvm.MethodName) prog_4_method_10_code (5 : Nat) (Option.some Jvm.ClassFile.FieldType.int)) ∈ jT := jm6 (List.mem_of_getElem? (i := 24) rfl)
set_option maxRecDepth 100000 in
theorem jw1465 : (Jvm.Cond.methodLink "SchoolBoard$Code" (126 : Nat) ({ cls := "java/lang/String", name := "length", desc := "()I" } : Jvm.MethodName)) ∈ jT := jm6 (List.mem_of_getElem? (i := 25) rfl)
set_option maxRecDepth 100000 in
theorem jw1466 : (Jvm.Cond.methodLink "SchoolBoard" (235 : Nat) ({ cls := "SchoolBoard$Code", name := "letter", desc := "(II)I" } : Jvm.MethodName)) ∈ jT := jm6 (List.mem_of_getElem? (i := 26) rfl)
set_option maxRecDepth 100000 in
theorem jw1467 : (Jvm.Cond.instanceMethod ({ cls := "SchoolBoard$Code", name := "letter", desc := "(II)I" } : Jvm.MethodName)) ∈ jT := jm6 (List.mem_of_getElem? (i := 27) rfl)
set_option maxRecDepth 100000 in
theorem jw1468 : (Jvm.Cond.selects "SchoolBoard$Code" ({ cls := "SchoolBoard$Code", name := "letter", desc := "(II)I" } : Jvm.MethodName) ({ cls := "SchoolBoard$Code", name := "letter", desc := "(II)I" } : Jvm.MethodName)) ∈ jT := jm6 (List.mem_of_getElem? (i := 28) rfl)
set_option maxRecDepth 100000 in
theorem jw1469 : (Jvm.Cond.code ({ cls := "SchoolBoard$Code", name := "letter", desc := "(II)I" } : Jvm.MethodName) prog_4_method_11_code (6 : Nat) (Option.some Jvm.ClassFile.FieldType.int)) ∈ jT := jm6 (List.mem_of_getElem? (i := 29) rfl)
set_option maxRecDepth 100000 in
theorem jw1470 : (Jvm.Cond.methodLink "SchoolBoard$Code" (132 : Nat) ({ cls := "java/lang/String", name := "charAt", desc := "(I)C" } : Jvm.MethodName)) ∈ jT := jm6 (List.mem_of_getElem? (i := 30) rfl)
set_option maxRecDepth 100000 in
theorem jw1471 : (Jvm.Cond.methodLink "SchoolBoardLaw" (143 : Nat) ({ cls := "SchoolBoard", name := "clause", desc := "(III)I" } : Jvm.MethodName)) ∈ jT := jm6 (List.mem_of_getElem? (i := 31) rfl)
set_option maxRecDepth 100000 in
theorem jw1472 : (Jvm.Cond.instanceMethod ({ cls := "SchoolBoard", name := "clause", desc := "(III)I" } : Jvm.MethodName)) ∈ jT := jm6 (List.mem_of_getElem? (i := 32) rfl)
set_option maxRecDepth 100000 in
theorem jw1473 : (Jvm.Cond.selects "SchoolBoard" ({ cls := "SchoolBoard", name := "clause", desc := "(III)I" } : Jvm.MethodName) ({ cls := "SchoolBoard", name := "clause", desc := "(III)I" } : Jvm.MethodName)) ∈ jT := jm6 (List.mem_of_getElem? (i := 33) rfl)
set_option maxRecDepth 100000 in
theorem jw1474 : (Jvm.Cond.code ({ cls := "SchoolBoard", name := "clause", desc := "(III)I" } : Jvm.MethodName) prog_1_method_32_code (4 : Nat) (Option.some Jvm.ClassFile.FieldType.int)) ∈ jT := jm6 (List.mem_of_getElem? (i := 34) rfl)
set_option maxRecDepth 100000 in
theorem jw1475 : (Jvm.Cond.methodLink "SchoolBoard" (241 : Nat) ({ cls := "SchoolBoard$Code", name := "look", desc := "(III)I" } : Jvm.MethodName)) ∈ jT := jm6 (List.mem_of_getElem? (i := 35) rfl)
set_option maxRecDepth 100000 in
theorem jw1476 : (Jvm.Cond.instanceMethod ({ cls := "SchoolBoard$Code", name := "look", desc := "(III)I" } : Jvm.MethodName)) ∈ jT := jm6 (List.mem_of_getElem? (i := 36) rfl)
set_option maxRecDepth 100000 in
theorem jw1477 : (Jvm.Cond.selects "SchoolBoard$Code" ({ cls := "SchoolBoard$Code", name := "look", desc := "(III)I" } : Jvm.MethodName) ({ cls := "SchoolBoard$Code", name := "look", desc := "(III)I" } : Jvm.MethodName)) ∈ jT := jm6 (List.mem_of_getElem? (i := 37) rfl)
set_option maxRecDepth 100000 in
theorem jw1478 : (Jvm.Cond.code ({ cls := "SchoolBoard$Code", name := "look", desc := "(III)I" } : Jvm.MethodName) prog_4_method_12_code (7 : Nat) (Option.some Jvm.ClassFile.FieldType.int)) ∈ jT := jm6 (List.mem_of_getElem? (i := 38) rfl)
set_option maxRecDepth 100000 in
theorem jw1479 : (Jvm.Cond.methodLink "SchoolBoardLaw" (147 : Nat) ({ cls := "SchoolBoard", name := "estimate", desc := "(III)Z" } : Jvm.MethodName)) ∈ jT := jm6 (List.mem_of_getElem? (i := 39) rfl)
set_option maxRecDepth 100000 in
theorem jw1480 : (Jvm.Cond.instanceMethod ({ cls := "SchoolBoard", name := "estimate", desc := "(III)Z" } : Jvm.MethodName)) ∈ jT := jm6 (List.mem_of_getElem? (i := 40) rfl)
set_option maxRecDepth 100000 in
theorem jw1481 : (Jvm.Cond.selects "SchoolBoard" ({ cls := "SchoolBoard", name := "estimate", desc := "(III)Z" } : Jvm.MethodName) ({ cls := "SchoolBoard", name := "estimate", desc := "(III)Z" } : Jvm.MethodName)) ∈ jT := jm6 (List.mem_of_getElem? (i := 41) rfl)
set_option maxRecDepth 100000 in
theorem jw1482 : (Jvm.Cond.code ({ cls := "SchoolBoard", name := "estimate", desc := "(III)Z" } : Jvm.MethodName) prog_1_method_33_code (5 : Nat) (Option.some Jvm.ClassFile.FieldType.boolean)) ∈ jT := jm6 (List.mem_of_getElem? (i := 42) rfl)
set_option maxRecDepth 100000 in
theorem jw1483 : (Jvm.Cond.methodLink "SchoolBoardLaw" (151 : Nat) ({ cls := "SchoolBoard", name := "entering", desc := "(III)I" } : Jvm.MethodName)) ∈ jT := jm6 (List.mem_of_getElem? (i := 43) rfl)
set_option maxRecDepth 100000 in
theorem jw1484 : (Jvm.Cond.instanceMethod ({ cls := "SchoolBoard", name := "entering", desc := "(III)I" } : Jvm.MethodName)) ∈ jT := jm6 (List.mem_of_getElem? (i := 44) rfl)
set_option maxRecDepth 100000 in
theorem jw1485 : (Jvm.Cond.selects "SchoolBoard" ({ cls := "SchoolBoard", name := "entering", desc := "(III)I" } : Jvm.MethodName) ({ cls := "SchoolBoard", name := "entering", desc := "(III)I" } : Jvm.MethodName)) ∈ jT := jm6 (List.mem_of_getElem? (i := 45) rfl)
set_option maxRecDepth 100000 in
theorem jw1486 : (Jvm.Cond.code ({ cls := "SchoolBoard", name := "entering", desc := "(III)I" } : Jvm.MethodName) prog_1_method_34_code (5 : Nat) (Option.some Jvm.ClassFile.FieldType.int)) ∈ jT := jm6 (List.mem_of_getElem? (i := 46) rfl)
set_option maxRecDepth 100000 in
theorem jw1487 : (Jvm.Cond.methodLink "SchoolBoard" (246 : Nat) ({ cls := "SchoolBoard$Entering", name := "choose", desc := "(IIII)V" } : Jvm.MethodName)) ∈ jT := jm6 (List.mem_of_getElem? (i := 47) rfl)
set_option maxRecDepth 100000 in
theorem jw1488 : (Jvm.Cond.instanceMethod ({ cls := "SchoolBoard$Entering", name := "choose", desc := "(IIII)V" } : Jvm.MethodName)) ∈ jT := jm6 (List.mem_of_getElem? (i := 48) rfl)
set_option maxRecDepth 100000 in
theorem jw1489 : (Jvm.Cond.selects "SchoolBoard$Entering" ({ cls := "SchoolBoard$Entering", name := "choose", desc := "(IIII)V" } : Jvm.MethodName) ({ cls := "SchoolBoard$Entering", name := "choose", desc := "(IIII)V" } : Jvm.MethodName)) ∈ jT := jm6 (List.mem_of_getElem? (i := 49) rfl)
set_option maxRecDepth 100000 in
theorem jw1490 : (Jvm.Cond.code ({ cls := "SchoolBoard$Entering", name := "choose", desc := "(IIII)V" } : Jvm.MethodName) prog_5_method_2_code (7 : Nat) (Option.none : Option Jvm.ClassFile.FieldType)) ∈ jT := jm6 (List.mem_of_getElem? (i := 50) rfl)
set_option maxRecDepth 100000 in
theorem jw1491 : (Jvm.Cond.methodLink "SchoolBoard$Entering" (55 : Nat) ({ cls := "SchoolBoard$Entering", name := "reckonHours", desc := "(I)V" } : Jvm.MethodName)) ∈ jT := jm6 (List.mem_of_getElem? (i := 51) rfl)
set_option maxRecDepth 100000 in
theorem jw1493 : (Jvm.Cond.instanceMethod ({ cls := "SchoolBoard$Entering", name := "reckonHours", desc := "(I)V" } : Jvm.MethodName)) ∈ jT := jm6 (List.mem_of_getElem? (i := 53) rfl)
set_option maxRecDepth 100000 in
theorem jw1494 : (Jvm.Cond.code ({ cls := "SchoolBoard$Entering", name := "reckonHours", desc := "(I)V" } : Jvm.MethodName) prog_5_method_3_code (6 : Nat) (Option.none : Option Jvm.ClassFile.FieldType)) ∈ jT := jm6 (List.mem_of_getElem? (i := 54) rfl)
set_option maxRecDepth 100000 in
theorem jw1495 : (Jvm.Cond.methodLink "SchoolBoard$Entering" (89 : Nat) ({ cls := "SchoolBoard$Code", name := "least", desc := "(IIII)I" } : Jvm.MethodName)) ∈ jT := jm6 (List.mem_of_getElem? (i := 55) rfl)
set_option maxRecDepth 100000 in
theorem jw1496 : (Jvm.Cond.methodLink "SchoolBoard$Entering" (62 : Nat) ({ cls := "SchoolBoard$Register", name := "openYear", desc := "(II)V" } : Jvm.MethodName)) ∈ jT := jm6 (List.mem_of_getElem? (i := 56) rfl)
set_option maxRecDepth 100000 in
theorem jw1497 : (Jvm.Cond.methodLink "SchoolBoard$Entering" (73 : Nat) ({ cls := "SchoolBoard$Register", name := "lay", desc := "(I)V" } : Jvm.MethodName)) ∈ jT := jm6 (List.mem_of_getElem? (i := 57) rfl)
set_option maxRecDepth 100000 in
theorem jw1498 : (Jvm.Cond.methodLink "SchoolBoard$Entering" (76 : Nat) ({ cls := "SchoolBoard$Register", name := "placeOn", desc := "(I)I" } : Jvm.MethodName)) ∈ jT := jm6 (List.mem_of_getElem? (i := 58) rfl)
set_option maxRecDepth 100000 in
theorem jw1499 : (Jvm.Cond.methodLink "SchoolBoard$Entering" (80 : Nat) ({ cls := "SchoolBoard$Entering", name := "reckonMember", desc := "(I)V" } : Jvm.MethodName)) ∈ jT := jm6 (List.mem_of_getElem? (i := 59) rfl)
set_option maxRecDepth 100000 in
theorem jw1501 : (Jvm.Cond.instanceMethod ({ cls := "SchoolBoard$Entering", name := "reckonMember", desc := "(I)V" } : Jvm.MethodName)) ∈ jT := jm6 (List.mem_of_getElem? (i := 61) rfl)
set_option maxRecDepth 100000 in
theorem jw1502 : (Jvm.Cond.code ({ cls := "SchoolBoard$Entering", name := "reckonMember", desc := "(I)V" } : Jvm.MethodName) prog_5_method_4_code (8 : Nat) (Option.none : Option Jvm.ClassFile.FieldType)) ∈ jT := jm6 (List.mem_of_getElem? (i := 62) rfl)
set_option maxRecDepth 100000 in
theorem jw1503 : (Jvm.Cond.methodLink "SchoolBoard$Entering" (95 : Nat) ({ cls := "SchoolBoard$Register", name := "standardIn", desc := "(II)I" } : Jvm.MethodName)) ∈ jT := jm6 (List.mem_of_getElem? (i := 63) rfl)
set_option maxRecDepth 100000 in
theorem jw1504 : (Jvm.Cond.methodLink "SchoolBoard$Entering" (99 : Nat) ({ cls := "SchoolBoard$Register", name := "quartersLaid", desc := "(I)I" } : Jvm.MethodName)) ∈ jT := jm6 (List.mem_of_getElem? (i := 64) rfl)
set_option maxRecDepth 100000 in
theorem jw1505 : (Jvm.Cond.methodLink "SchoolBoard$Entering" (102 : Nat) ({ cls := "SchoolBoard$Register", name := "askYear", desc := "(III)V" } : Jvm.MethodName)) ∈ jT := jm6 (List.mem_of_getElem? (i := 65) rfl)
set_option maxRecDepth 100000 in
theorem jw1506 : (Jvm.Cond.methodLink "SchoolBoard$Entering" (109 : Nat) ({ cls := "SchoolBoard$Register", name := "isPass", desc := "(III)Z" } : Jvm.MethodName)) ∈ jT := jm6 (List.mem_of_getElem? (i := 66) rfl)
set_option maxRecDepth 100000 in
theorem jw1507 : (Jvm.Cond.methodLink "SchoolBoard$Entering" (116 : Nat) ({ cls := "SchoolBoard$Register", name := "askSubject", desc := "(II)V" } : Jvm.MethodName)) ∈ jT := jm6 (List.mem_of_getElem? (i := 67) rfl)
set_option maxRecDepth 100000 in
theorem jw1508 : (Jvm.Cond.methodLink "SchoolBoard$Entering" (119 : Nat) ({ cls := "SchoolBoard$Entering", name := "reckonGains", desc := "(II)V" } : Jvm.MethodName)) ∈ jT := jm6 (List.mem_of_getElem? (i := 68) rfl)
set_option maxRecDepth 100000 in
theorem jw1510 : (Jvm.Cond.instanceMethod ({ cls := "SchoolBoard$Entering", name := "reckonGains", desc := "(II)V" } : Jvm.MethodName)) ∈ jT := jm6 (List.mem_of_getElem? (i := 70) rfl)
set_option maxRecDepth 100000 in
theorem jw1511 : (Jvm.Cond.code ({ cls := "SchoolBoard$Entering", name := "reckonGains", desc := "(II)V" } : Jvm.MethodName) prog_5_method_5_code (8 : Nat) (Option.none : Option Jvm.ClassFile.FieldType)) ∈ jT := jm6 (List.mem_of_getElem? (i := 71) rfl)
set_option maxRecDepth 100000 in
theorem jw1512 : (Jvm.Cond.methodLink "SchoolBoard$Entering" (125 : Nat) ({ cls := "SchoolBoard$Code", name := "endOf", desc := "(II)I" } : Jvm.MethodName)) ∈ jT := jm6 (List.mem_of_getElem? (i := 72) rfl)
set_option maxRecDepth 100000 in
theorem jw1513 : (Jvm.Cond.methodLink "SchoolBoard$Entering" (128 : Nat) ({ cls := "SchoolBoard$Code", name := "firstOf", desc := "(II)I" } : Jvm.MethodName)) ∈ jT := jm6 (List.mem_of_getElem? (i := 73) rfl)
set_option maxRecDepth 100000 in
theorem jw1514 : (Jvm.Cond.methodLink "SchoolBoard$Entering" (143 : Nat) ({ cls := "SchoolBoard$Clause", name := "isMet", desc := "([I)Z" } : Jvm.MethodName)) ∈ jT := jm6 (List.mem_of_getElem? (i := 74) rfl)
set_option maxRecDepth 100000 in
theorem jw1515 : (Jvm.Cond.methodLink "SchoolBoard$Entering" (122 : Nat) ({ cls := "SchoolBoard$Entering", name := "penceOf", desc := "(I)I" } : Jvm.MethodName)) ∈ jT := jm6 (List.mem_of_getElem? (i := 75) rfl)
set_option maxRecDepth 100000 in
theorem jw1517 : (Jvm.Cond.instanceMethod ({ cls := "SchoolBoard$Entering", name := "penceOf", desc := "(I)I" } : Jvm.MethodName)) ∈ jT := jm6 (List.mem_of_getElem? (i := 77) rfl)
set_option maxRecDepth 100000 in
theorem jw1518 : (Jvm.Cond.code ({ cls := "SchoolBoard$Entering", name := "penceOf", desc := "(I)I" } : Jvm.MethodName) prog_5_method_6_code (5 : Nat) (Option.some Jvm.ClassFile.FieldType.int)) ∈ jT := jm6 (List.mem_of_getElem? (i := 78) rfl)
set_option maxRecDepth 100000 in
theorem jw1519 : (Jvm.Cond.methodLink "SchoolBoard$Entering" (150 : Nat) ({ cls := "java/lang/Integer", name := "bitCount", desc := "(I)I" } : Jvm.MethodName)) ∈ jT := jm6 (List.mem_of_getElem? (i := 79) rfl)
set_option maxRecDepth 100000 in
theorem jw1520 : (Jvm.Cond.methodLink "SchoolBoard$Entering" (83 : Nat) ({ cls := "SchoolBoard$Entering", name := "fillBest", desc := "()V" } : Jvm.MethodName)) ∈ jT := jm6 (List.mem_of_getElem? (i := 80) rfl)
set_option maxRecDepth 100000 in
theorem jw1522 : (Jvm.Cond.instanceMethod ({ cls := "SchoolBoard$Entering", name := "fillBest", desc := "()V" } : Jvm.MethodName)) ∈ jT := jm6 (List.mem_of_getElem? (i := 82) rfl)
set_option maxRecDepth 100000 in
theorem jw1523 : (Jvm.Cond.code ({ cls := "SchoolBoard$Entering", name := "fillBest", desc := "()V" } : Jvm.MethodName) prog_5_method_7_code (3 : Nat) (Option.none : Option Jvm.ClassFile.FieldType)) ∈ jT := jm6 (List.mem_of_getElem? (i := 83) rfl)
set_option maxRecDepth 100000 in
theorem jw1524 : (Jvm.Cond.methodLink "SchoolBoard$Entering" (155 : Nat) ({ cls := "SchoolBoard$Entering", name := "tryAll", desc := "(II)V" } : Jvm.MethodName)) ∈ jT := jm6 (List.mem_of_getElem? (i := 84) rfl)
set_option maxRecDepth 100000 in
theorem jw1526 : (Jvm.Cond.instanceMethod ({ cls := "SchoolBoard$Entering", name := "tryAll", desc := "(II)V" } : Jvm.MethodName)) ∈ jT := jm6 (List.mem_of_getElem? (i := 86) rfl)
set_option maxRecDepth 100000 in
theorem jw1527 : (Jvm.Cond.code ({ cls := "SchoolBoard$Entering", name := "tryAll", desc := "(II)V" } : Jvm.MethodName) prog_5_method_8_code (7 : Nat) (Option.none : Option Jvm.ClassFile.FieldType)) ∈ jT := jm6 (List.mem_of_getElem? (i := 87) rfl)
set_option maxRecDepth 100000 in
theorem jw1528 : (Jvm.Cond.methodLink "SchoolBoard$Entering" (86 : Nat) ({ cls := "SchoolBoard$Entering", name := "pickSets", desc := "()V" } : Jvm.MethodName)) ∈ jT := jm6 (List.mem_of_getElem? (i := 88) rfl)
set_option maxRecDepth 100000 in
theorem jw1530 : (Jvm.Cond.instanceMethod ({ cls := "SchoolBoard$Entering", name := "pickSets", desc := "()V" } : Jvm.MethodName)) ∈ jT := jm6 (List.mem_of_getElem? (i := 90) rfl)
set_option maxRecDepth 100000 in
theorem jw1531 : (Jvm.Cond.code ({ cls := "SchoolBoard$Entering", name := "pickSets", desc := "()V" } : Jvm.MethodName) prog_5_method_9_code (4 : Nat) (Option.none : Option Jvm.ClassFile.FieldType)) ∈ jT := jm6 (List.mem_of_getElem? (i := 91) rfl)
set_option maxRecDepth 100000 in
theorem jw1532 : (Jvm.Cond.methodLink "SchoolBoard$Entering" (158 : Nat) ({ cls := "java/util/Arrays", name := "fill", desc := "([II)V" } : Jvm.MethodName)) ∈ jT := jm6 (List.mem_of_getElem? (i := 92) rfl)
set_option maxRecDepth 100000 in
theorem jw1533 : (Jvm.Cond.methodLink "SchoolBoard$Entering" (167 : Nat) ({ cls := "SchoolBoard$Entering", name := "leastSet", desc := "(II)I" } : Jvm.MethodName)) ∈ jT := jm6 (List.mem_of_getElem? (i := 93) rfl)
set_option maxRecDepth 100000 in
theorem jw1535 : (Jvm.Cond.instanceMethod ({ cls := "SchoolBoard$Entering", name := "leastSet", desc := "(II)I" } : Jvm.MethodName)) ∈ jT := jm6 (List.mem_of_getElem? (i := 95) rfl)
set_option maxRecDepth 100000 in
theorem jw1536 : (Jvm.Cond.code ({ cls := "SchoolBoard$Entering", name := "leastSet", desc := "(II)I" } : Jvm.MethodName) prog_5_method_10_code (5 : Nat) (Option.some Jvm.ClassFile.FieldType.int)) ∈ jT := jm6 (List.mem_of_getElem? (i := 96) rfl)
set_option maxRecDepth 100000 in
theorem jw1537 : (Jvm.Cond.methodLink "SchoolBoard" (250 : Nat) ({ cls := "SchoolBoard$Entering", name := "look", desc := "(I)I" } : Jvm.MethodName)) ∈ jT := jm6 (List.mem_of_getElem? (i := 97) rfl)
set_option maxRecDepth 100000 in
theorem jw1538 : (Jvm.Cond.instanceMethod ({ cls := "SchoolBoard$Entering", name := "look", desc := "(I)I" } : Jvm.MethodName)) ∈ jT := jm6 (List.mem_of_getElem? (i := 98) rfl)
set_option maxRecDepth 100000 in
theorem jw1539 : (Jvm.Cond.selects "SchoolBoard$Entering" ({ cls := "SchoolBoard$Entering", name := "look", desc := "(I)I" } : Jvm.MethodName) ({ cls := "SchoolBoard$Entering", name := "look", desc := "(I)I" } : Jvm.MethodName)) ∈ jT := jm6 (List.mem_of_getElem? (i := 99) rfl)
set_option maxRecDepth 100000 in
theorem jw1540 : (Jvm.Cond.code ({ cls := "SchoolBoard$Entering", name := "look", desc := "(I)I" } : Jvm.MethodName) prog_5_method_11_code (2 : Nat) (Option.some Jvm.ClassFile.FieldType.int)) ∈ jT := jm6 (List.mem_of_getElem? (i := 100) rfl)
set_option maxRecDepth 100000 in
theorem jw1541 : (Jvm.Cond.methodLinkNest "SchoolBoard$Entering" (173 : Nat) ({ cls := "SchoolBoard", name := "within", desc := "(III)Z" } : Jvm.MethodName) "SchoolBoard") ∈ jT := jm6 (List.mem_of_getElem? (i := 101) rfl)
set_option maxRecDepth 100000 in
theorem jw1542 : (Jvm.Cond.methodLink "SchoolBoardLaw" (155 : Nat) ({ cls := "SchoolBoard", name := "officer", desc := "(II)I" } : Jvm.MethodName)) ∈ jT := jm6 (List.mem_of_getElem? (i := 102) rfl)
set_option maxRecDepth 100000 in
theorem jw1543 : (Jvm.Cond.instanceMethod ({ cls := "SchoolBoard", name := "officer", desc := "(II)I" } : Jvm.MethodName)) ∈ jT := jm6 (List.mem_of_getElem? (i := 103) rfl)
set_option maxRecDepth 100000 in
theorem jw1544 : (Jvm.Cond.selects "SchoolBoard" ({ cls := "SchoolBoard", name := "officer", desc := "(II)I" } : Jvm.MethodName) ({ cls := "SchoolBoard", name := "officer", desc := "(II)I" } : Jvm.MethodName)) ∈ jT := jm6 (List.mem_of_getElem? (i := 104) rfl)
set_option maxRecDepth 100000 in
theorem jw1545 : (Jvm.Cond.code ({ cls := "SchoolBoard", name := "officer", desc := "(II)I" } : Jvm.MethodName) prog_1_method_35_code (5 : Nat) (Option.some Jvm.ClassFile.FieldType.int)) ∈ jT := jm6 (List.mem_of_getElem? (i := 105) rfl)
set_option maxRecDepth 100000 in
theorem jw1546 : (Jvm.Cond.methodLink "SchoolBoard" (251 : Nat) ({ cls := "SchoolBoard$Town", name := "leaveStreets", desc := "()V" } : Jvm.MethodName)) ∈ jT := jm6 (List.mem_of_getElem? (i := 106) rfl)
set_option maxRecDepth 100000 in
theorem jw1547 : (Jvm.Cond.instanceMethod ({ cls := "SchoolBoard$Town", name := "leaveStreets", desc := "()V" } : Jvm.MethodName)) ∈ jT := jm6 (List.mem_of_getElem? (i := 107) rfl)
set_option maxRecDepth 100000 in
theorem jw1548 : (Jvm.Cond.selects "SchoolBoard$Town" ({ cls := "SchoolBoard$Town", name := "leaveStreets", desc := "()V" } : Jvm.MethodName) ({ cls := "SchoolBoard$Town", name := "leaveStreets", desc := "()V" } : Jvm.MethodName)) ∈ jT := jm6 (List.mem_of_getElem? (i := 108) rfl)
set_option maxRecDepth 100000 in
theorem jw1549 : (Jvm.Cond.code ({ cls := "SchoolBoard$Town", name := "leaveStreets", desc := "()V" } : Jvm.MethodName) prog_12_method_8_code (1 : Nat) (Option.none : Option Jvm.ClassFile.FieldType)) ∈ jT := jm6 (List.mem_of_getElem? (i := 109) rfl)
set_option maxRecDepth 100000 in
theorem jw1550 : (Jvm.Cond.methodLink "SchoolBoard$Town" (59 : Nat) ({ cls := "java/util/Arrays", name := "fill", desc := "([II)V" } : Jvm.MethodName)) ∈ jT := jm6 (List.mem_of_getElem? (i := 110) rfl)
set_option maxRecDepth 100000 in
theorem jw1551 : (Jvm.Cond.methodLink "SchoolBoard" (254 : Nat) ({ cls := "java/lang/Math", name := "max", desc := "(II)I" } : Jvm.MethodName)) ∈ jT := jm6 (List.mem_of_getElem? (i := 111) rfl)
set_option maxRecDepth 100000 in
theorem jw1552 : (Jvm.Cond.methodLink "SchoolBoard" (259 : Nat) ({ cls := "SchoolBoard$Register", name := "quartersLacking", desc := "()I" } : Jvm.MethodName)) ∈ jT := jm6 (List.mem_of_getElem? (i := 112) rfl)
set_option maxRecDepth 100000 in
theorem jw1553 : (Jvm.Cond.instanceMethod ({ cls := "SchoolBoard$Register", name := "quartersLacking", desc := "()I" } : Jvm.MethodName)) ∈ jT := jm6 (List.mem_of_getElem? (i := 113) rfl)
set_option maxRecDepth 100000 in
theorem jw1554 : (Jvm.Cond.selects "SchoolBoard$Register" ({ cls := "SchoolBoard$Register", name := "quartersLacking", desc := "()I" } : Jvm.MethodName) ({ cls := "SchoolBoard$Register", name := "quartersLacking", desc := "()I" } : Jvm.MethodName)) ∈ jT := jm6 (List.mem_of_getElem? (i := 114) rfl)
set_option maxRecDepth 100000 in
theorem jw1555 : (Jvm.Cond.code ({ cls := "SchoolBoard$Register", name := "quartersLacking", desc := "()I" } : Jvm.MethodName) prog_11_method_18_code (4 : Nat) (Option.some Jvm.ClassFile.FieldType.int)) ∈ jT := jm6 (List.mem_of_getElem? (i := 115) rfl)
set_option maxRecDepth 100000 in
theorem jw1556 : (Jvm.Cond.methodLink "SchoolBoard" (263 : Nat) ({ cls := "SchoolBoard$Town", name := "liveAt", desc := "(II)V" } : Jvm.MethodName)) ∈ jT := jm6 (List.mem_of_getElem? (i := 116) rfl)
set_option maxRecDepth 100000 in
theorem jw1557 : (Jvm.Cond.instanceMethod ({ cls := "SchoolBoard$Town", name := "liveAt", desc := "(II)V" } : Jvm.MethodName)) ∈ jT := jm6 (List.mem_of_getElem? (i := 117) rfl)
set_option maxRecDepth 100000 in
theorem jw1558 : (Jvm.Cond.selects "SchoolBoard$Town" ({ cls := "SchoolBoard$Town", name := "liveAt", desc := "(II)V" } : Jvm.MethodName) ({ cls := "SchoolBoard$Town", name := "liveAt", desc := "(II)V" } : Jvm.MethodName)) ∈ jT := jm6 (List.mem_of_getElem? (i := 118) rfl)
set_option maxRecDepth 100000 in
theorem jw1559 : (Jvm.Cond.code ({ cls := "SchoolBoard$Town", name := "liveAt", desc := "(II)V" } : Jvm.MethodName) prog_12_method_9_code (3 : Nat) (Option.none : Option Jvm.ClassFile.FieldType)) ∈ jT := jm6 (List.mem_of_getElem? (i := 119) rfl)
set_option maxRecDepth 100000 in
theorem jw1560 : (Jvm.Cond.methodLink "SchoolBoard" (269 : Nat) ({ cls := "SchoolBoard$Town", name := "chooseRound", desc := "(I)V" } : Jvm.MethodName)) ∈ jT := jm6 (List.mem_of_getElem? (i := 120) rfl)
set_option maxRecDepth 100000 in
theorem jw1561 : (Jvm.Cond.instanceMethod ({ cls := "SchoolBoard$Town", name := "chooseRound", desc := "(I)V" } : Jvm.MethodName)) ∈ jT := jm6 (List.mem_of_getElem? (i := 121) rfl)
set_option maxRecDepth 100000 in
theorem jw1562 : (Jvm.Cond.selects "SchoolBoard$Town" ({ cls := "SchoolBoard$Town", name := "chooseRound", desc := "(I)V" } : Jvm.MethodName) ({ cls := "SchoolBoard$Town", name := "chooseRound", desc := "(I)V" } : Jvm.MethodName)) ∈ jT := jm6 (List.mem_of_getElem? (i := 122) rfl)
set_option maxRecDepth 100000 in
theorem jw1563 : (Jvm.Cond.code ({ cls := "SchoolBoard$Town", name := "chooseRound", desc := "(I)V" } : Jvm.MethodName) prog_12_method_10_code (3 : Nat) (Option.none : Option Jvm.ClassFile.FieldType)) ∈ jT := jm6 (List.mem_of_getElem? (i := 123) rfl)
set_option maxRecDepth 100000 in
theorem jw1564 : (Jvm.Cond.methodLink "SchoolBoard$Town" (74 : Nat) ({ cls := "SchoolBoard$Town", name := "tryRound", desc := "(II)V" } : Jvm.MethodName)) ∈ jT := jm6 (List.mem_of_getElem? (i := 124) rfl)
set_option maxRecDepth 100000 in
theorem jw1566 : (Jvm.Cond.instanceMethod ({ cls := "SchoolBoard$Town", name := "tryRound", desc := "(II)V" } : Jvm.MethodName)) ∈ jT := jm6 (List.mem_of_getElem? (i := 126) rfl)
set_option maxRecDepth 100000 in
theorem jw1567 : (Jvm.Cond.code ({ cls := "SchoolBoard$Town", name := "tryRound", desc := "(II)V" } : Jvm.MethodName) prog_12_method_11_code (7 : Nat) (Option.none : Option Jvm.ClassFile.FieldType)) ∈ jT := jm6 (List.mem_of_getElem? (i := 127) rfl)
set_option maxRecDepth 100000 in
theorem jw1568 : (Jvm.Cond.methodLink "SchoolBoard$Town" (78 : Nat) ({ cls := "java/lang/Math", name := "max", desc := "(II)I" } : Jvm.MethodName)) ∈ jT := jm6 (List.mem_of_getElem? (i := 128) rfl)
set_option maxRecDepth 100000 in
theorem jw1569 : (Jvm.Cond.methodLink "SchoolBoard" (272 : Nat) ({ cls := "SchoolBoard$Town", name := "lookRound", desc := "(I)I" } : Jvm.MethodName)) ∈ jT := jm6 (List.mem_of_getElem? (i := 129) rfl)
set_option maxRecDepth 100000 in
theorem jw1570 : (Jvm.Cond.instanceMethod ({ cls := "SchoolBoard$Town", name := "lookRound", desc := "(I)I" } : Jvm.MethodName)) ∈ jT := jm6 (List.mem_of_getElem? (i := 130) rfl)
set_option maxRecDepth 100000 in
theorem jw1571 : (Jvm.Cond.selects "SchoolBoard$Town" ({ cls := "SchoolBoard$Town", name := "lookRound", desc := "(I)I" } : Jvm.MethodName) ({ cls := "SchoolBoard$Town", name := "lookRound", desc := "(I)I" } : Jvm.MethodName)) ∈ jT := jm6 (List.mem_of_getElem? (i := 131) rfl)
set_option maxRecDepth 100000 in
theorem jw1572 : (Jvm.Cond.code ({ cls := "SchoolBoard$Town", name := "lookRound", desc := "(I)I" } : Jvm.MethodName) prog_12_method_12_code (2 : Nat) (Option.some Jvm.ClassFile.FieldType.int)) ∈ jT := jm6 (List.mem_of_getElem? (i := 132) rfl)
set_option maxRecDepth 100000 in
theorem jw1573 : (Jvm.Cond.methodLink "SchoolBoardLaw" (159 : Nat) ({ cls := "SchoolBoard", name := "site", desc := "(II)I" } : Jvm.MethodName)) ∈ jT := jm6 (List.mem_of_getElem? (i := 133) rfl)
set_option maxRecDepth 100000 in
theorem jw1574 : (Jvm.Cond.instanceMethod ({ cls := "SchoolBoard", name := "site", desc := "(II)I" } : Jvm.MethodName)) ∈ jT := jm6 (List.mem_of_getElem? (i := 134) rfl)
set_option maxRecDepth 100000 in
theorem jw1575 : (Jvm.Cond.selects "SchoolBoard" ({ cls := "SchoolBoard", name := "site", desc := "(II)I" } : Jvm.MethodName) ({ cls := "SchoolBoard", name := "site", desc := "(II)I" } : Jvm.MethodName)) ∈ jT := jm6 (List.mem_of_getElem? (i := 135) rfl)
set_option maxRecDepth 100000 in
theorem jw1576 : (Jvm.Cond.code ({ cls := "SchoolBoard", name := "site", desc := "(II)I" } : Jvm.MethodName) prog_1_method_36_code (3 : Nat) (Option.some Jvm.ClassFile.FieldType.int)) ∈ jT := jm6 (List.mem_of_getElem? (i := 136) rfl)
set_option maxRecDepth 100000 in
theorem jw1577 : (Jvm.Cond.methodLink "SchoolBoard" (278 : Nat) ({ cls := "SchoolBoard$Town", name := "addSite", desc := "(II)I" } : Jvm.MethodName)) ∈ jT := jm6 (List.mem_of_getElem? (i := 137) rfl)
set_option maxRecDepth 100000 in
theorem jw1578 : (Jvm.Cond.instanceMethod ({ cls := "SchoolBoard$Town", name := "addSite", desc := "(II)I" } : Jvm.MethodName)) ∈ jT := jm6 (List.mem_of_getElem? (i := 138) rfl)
set_option maxRecDepth 100000 in
theorem jw1579 : (Jvm.Cond.selects "SchoolBoard$Town" ({ cls := "SchoolBoard$Town", name := "addSite", desc := "(II)I" } : Jvm.MethodName) ({ cls := "SchoolBoard$Town", name := "addSite", desc := "(II)I" } : Jvm.MethodName)) ∈ jT := jm6 (List.mem_of_getElem? (i := 139) rfl)
set_option maxRecDepth 100000 in
theorem jw1580 : (Jvm.Cond.code ({ cls := "SchoolBoard$Town", name := "addSite", desc := "(II)I" } : Jvm.MethodName) prog_12_method_4_code (3 : Nat) (Option.some Jvm.ClassFile.FieldType.int)) ∈ jT := jm6 (List.mem_of_getElem? (i := 140) rfl)
set_option maxRecDepth 100000 in
theorem jw1581 : (Jvm.Cond.methodLink "SchoolBoardLaw" (163 : Nat) ({ cls := "SchoolBoard", name := "sites", desc := "(II)I" } : Jvm.MethodName)) ∈ jT := jm6 (List.mem_of_getElem? (i := 141) rfl)
set_option maxRecDepth 100000 in
theorem jw1582 : (Jvm.Cond.instanceMethod ({ cls := "SchoolBoard", name := "sites", desc := "(II)I" } : Jvm.MethodName)) ∈ jT := jm6 (List.mem_of_getElem? (i := 142) rfl)
set_option maxRecDepth 100000 in
theorem jw1583 : (Jvm.Cond.selects "SchoolBoard" ({ cls := "SchoolBoard", name := "sites", desc := "(II)I" } : Jvm.MethodName) ({ cls := "SchoolBoard", name := "sites", desc := "(II)I" } : Jvm.MethodName)) ∈ jT := jm6 (List.mem_of_getElem? (i := 143) rfl)
set_option maxRecDepth 100000 in
theorem jw1584 : (Jvm.Cond.code ({ cls := "SchoolBoard", name := "sites", desc := "(II)I" } : Jvm.MethodName) prog_1_method_37_code (5 : Nat) (Option.some Jvm.ClassFile.FieldType.int)) ∈ jT := jm6 (List.mem_of_getElem? (i := 144) rfl)
set_option maxRecDepth 100000 in
theorem jw1585 : (Jvm.Cond.methodLink "SchoolBoard" (281 : Nat) ({ cls := "SchoolBoard$Town", name := "fewestSites", desc := "(II)I" } : Jvm.MethodName)) ∈ jT := jm6 (List.mem_of_getElem? (i := 145) rfl)
set_option maxRecDepth 100000 in
theorem jw1586 : (Jvm.Cond.instanceMethod ({ cls := "SchoolBoard$Town", name := "fewestSites", desc := "(II)I" } : Jvm.MethodName)) ∈ jT := jm6 (List.mem_of_getElem? (i := 146) rfl)
set_option maxRecDepth 100000 in
theorem jw1587 : (Jvm.Cond.selects "SchoolBoard$Town" ({ cls := "SchoolBoard$Town", name := "fewestSites", desc := "(II)I" } : Jvm.MethodName) ({ cls := "SchoolBoard$Town", name := "fewestSites", desc := "(II)I" } : Jvm.MethodName)) ∈ jT := jm6 (List.mem_of_getElem? (i := 147) rfl)
set_option maxRecDepth 100000 in
theorem jw1588 : (Jvm.Cond.code ({ cls := "SchoolBoard$Town", name := "fewestSites", desc := "(II)I" } : Jvm.MethodName) prog_12_method_13_code (7 : Nat) (Option.some Jvm.ClassFile.FieldType.int)) ∈ jT := jm6 (List.mem_of_getElem? (i := 148) rfl)
set_option maxRecDepth 100000 in
theorem jw1589 : (Jvm.Cond.methodLink "SchoolBoard$Town" (84 : Nat) ({ cls := "SchoolBoard$Town", name := "streetsNear", desc := "(III)I" } : Jvm.MethodName)) ∈ jT := jm6 (List.mem_of_getElem? (i := 149) rfl)
set_option maxRecDepth 100000 in
theorem jw1591 : (Jvm.Cond.instanceMethod ({ cls := "SchoolBoard$Town", name := "streetsNear", desc := "(III)I" } : Jvm.MethodName)) ∈ jT := jm6 (List.mem_of_getElem? (i := 151) rfl)
set_option maxRecDepth 100000 in
theorem jw1592 : (Jvm.Cond.code ({ cls := "SchoolBoard$Town", name := "streetsNear", desc := "(III)I" } : Jvm.MethodName) prog_12_method_15_code (6 : Nat) (Option.some Jvm.ClassFile.FieldType.int)) ∈ jT := jm6 (List.mem_of_getElem? (i := 152) rfl)
set_option maxRecDepth 100000 in
theorem jw1593 : (Jvm.Cond.methodLink "SchoolBoard$Town" (97 : Nat) ({ cls := "java/lang/Math", name := "abs", desc := "(I)I" } : Jvm.MethodName)) ∈ jT := jm6 (List.mem_of_getElem? (i := 153) rfl)
set_option maxRecDepth 100000 in
theorem jw1594 : (Jvm.Cond.static ({ cls := "java/lang/Math", name := "abs", desc := "(I)I" } : Jvm.MethodName)) ∈ jT := jm6 (List.mem_of_getElem? (i := 154) rfl)
set_option maxRecDepth 100000 in
theorem jw1595 : (Jvm.Cond.code ({ cls := "java/lang/Math", name := "abs", desc := "(I)I" } : Jvm.MethodName) prog_18_method_59_code (1 : Nat) (Option.some Jvm.ClassFile.FieldType.int)) ∈ jT := jm6 (List.mem_of_getElem? (i := 155) rfl)
set_option maxRecDepth 100000 in
theorem jw1596 : (Jvm.Cond.methodLink "SchoolBoard$Town" (88 : Nat) ({ cls := "java/lang/Integer", name := "bitCount", desc := "(I)I" } : Jvm.MethodName)) ∈ jT := jm6 (List.mem_of_getElem? (i := 156) rfl)
set_option maxRecDepth 100000 in
theorem jw1597 : (Jvm.Cond.methodLink "SchoolBoard$Town" (94 : Nat) ({ cls := "SchoolBoard$Town", name := "reachedBy", desc := "(I)I" } : Jvm.MethodName)) ∈ jT := jm6 (List.mem_of_getElem? (i := 157) rfl)
set_option maxRecDepth 100000 in
theorem jw1599 : (Jvm.Cond.instanceMethod ({ cls := "SchoolBoard$Town", name := "reachedBy", desc := "(I)I" } : Jvm.MethodName)) ∈ jT := jm6 (List.mem_of_getElem? (i := 159) rfl)
set_option maxRecDepth 100000 in
theorem jw1600 : (Jvm.Cond.code ({ cls := "SchoolBoard$Town", name := "reachedBy", desc := "(I)I" } : Jvm.MethodName) prog_12_method_14_code (4 : Nat) (Option.some Jvm.ClassFile.FieldType.int)) ∈ jT := jm6 (List.mem_of_getElem? (i := 160) rfl)
set_option maxRecDepth 100000 in
theorem jw1601 : (Jvm.Cond.methodLink "SchoolBoard" (284 : Nat) ({ cls := "java/lang/Integer", name := "bitCount", desc := "(I)I" } : Jvm.MethodName)) ∈ jT := jm6 (List.mem_of_getElem? (i := 161) rfl)
set_option maxRecDepth 100000 in
theorem jw1602 : (Jvm.Cond.methodLink "SchoolBoardLaw" (167 : Nat) ({ cls := "SchoolBoard", name := "poll", desc := "(I)Z" } : Jvm.MethodName)) ∈ jT := jm6 (List.mem_of_getElem? (i := 162) rfl)
set_option maxRecDepth 100000 in
theorem jw1603 : (Jvm.Cond.instanceMethod ({ cls := "SchoolBoard", name := "poll", desc := "(I)Z" } : Jvm.MethodName)) ∈ jT := jm6 (List.mem_of_getElem? (i := 163) rfl)
set_option maxRecDepth 100000 in
theorem jw1604 : (Jvm.Cond.selects "SchoolBoard" ({ cls := "SchoolBoard", name := "poll", desc := "(I)Z" } : Jvm.MethodName) ({ cls := "SchoolBoard", name := "poll", desc := "(I)Z" } : Jvm.MethodName)) ∈ jT := jm6 (List.mem_of_getElem? (i := 164) rfl)
set_option maxRecDepth 100000 in
theorem jw1605 : (Jvm.Cond.code ({ cls := "SchoolBoard", name := "poll", desc := "(I)Z" } : Jvm.MethodName) prog_1_method_38_code (2 : Nat) (Option.some Jvm.ClassFile.FieldType.boolean)) ∈ jT := jm6 (List.mem_of_getElem? (i := 165) rfl)
set_option maxRecDepth 100000 in
theorem jw1606 : (Jvm.Cond.methodLink "SchoolBoard" (289 : Nat) ({ cls := "SchoolBoard$Poll", name := "begin", desc := "(I)V" } : Jvm.MethodName)) ∈ jT := jm6 (List.mem_of_getElem? (i := 166) rfl)
set_option maxRecDepth 100000 in
theorem jw1607 : (Jvm.Cond.instanceMethod ({ cls := "SchoolBoard$Poll", name := "begin", desc := "(I)V" } : Jvm.MethodName)) ∈ jT := jm6 (List.mem_of_getElem? (i := 167) rfl)
set_option maxRecDepth 100000 in
theorem jw1608 : (Jvm.Cond.selects "SchoolBoard$Poll" ({ cls := "SchoolBoard$Poll", name := "begin", desc := "(I)V" } : Jvm.MethodName) ({ cls := "SchoolBoard$Poll", name := "begin", desc := "(I)V" } : Jvm.MethodName)) ∈ jT := jm6 (List.mem_of_getElem? (i := 168) rfl)
set_option maxRecDepth 100000 in
theorem jw1609 : (Jvm.Cond.code ({ cls := "SchoolBoard$Poll", name := "begin", desc := "(I)V" } : Jvm.MethodName) prog_9_method_2_code (2 : Nat) (Option.none : Option Jvm.ClassFile.FieldType)) ∈ jT := jm6 (List.mem_of_getElem? (i := 169) rfl)
set_option maxRecDepth 100000 in
theorem jw1610 : (Jvm.Cond.methodLink "SchoolBoard$Poll" (37 : Nat) ({ cls := "java/util/Arrays", name := "fill", desc := "([II)V" } : Jvm.MethodName)) ∈ jT := jm6 (List.mem_of_getElem? (i := 170) rfl)
set_option maxRecDepth 100000 in
theorem jw1611 : (Jvm.Cond.methodLink "SchoolBoardLaw" (171 : Nat) ({ cls := "SchoolBoard", name := "candidate", desc := "(I)I" } : Jvm.MethodName)) ∈ jT := jm6 (List.mem_of_getElem? (i := 171) rfl)
set_option maxRecDepth 100000 in
theorem jw1612 : (Jvm.Cond.instanceMethod ({ cls := "SchoolBoard", name := "candidate", desc := "(I)I" } : Jvm.MethodName)) ∈ jT := jm6 (List.mem_of_getElem? (i := 172) rfl)
set_option maxRecDepth 100000 in
theorem jw1613 : (Jvm.Cond.selects "SchoolBoard" ({ cls := "SchoolBoard", name := "candidate", desc := "(I)I" } : Jvm.MethodName) ({ cls := "SchoolBoard", name := "candidate", desc := "(I)I" } : Jvm.MethodName)) ∈ jT := jm6 (List.mem_of_getElem? (i := 173) rfl)
set_option maxRecDepth 100000 in
theorem jw1614 : (Jvm.Cond.code ({ cls := "SchoolBoard", name := "candidate", desc := "(I)I" } : Jvm.MethodName) prog_1_method_39_code (2 : Nat) (Option.some Jvm.ClassFile.FieldType.int)) ∈ jT := jm6 (List.mem_of_getElem? (i := 174) rfl)
set_option maxRecDepth 100000 in
theorem jw1615 : (Jvm.Cond.methodLink "SchoolBoard" (298 : Nat) ({ cls := "SchoolBoard$Poll", name := "stand", desc := "(I)I" } : Jvm.MethodName)) ∈ jT := jm6 (List.mem_of_getElem? (i := 175) rfl)
set_option maxRecDepth 100000 in
theorem jw1616 : (Jvm.Cond.instanceMethod ({ cls := "SchoolBoard$Poll", name := "stand", desc := "(I)I" } : Jvm.MethodName)) ∈ jT := jm6 (List.mem_of_getElem? (i := 176) rfl)
set_option maxRecDepth 100000 in
theorem jw1617 : (Jvm.Cond.selects "SchoolBoard$Poll" ({ cls := "SchoolBoard$Poll", name := "stand", desc := "(I)I" } : Jvm.MethodName) ({ cls := "SchoolBoard$Poll", name := "stand", desc := "(I)I" } : Jvm.MethodName)) ∈ jT := jm6 (List.mem_of_getElem? (i := 177) rfl)
set_option maxRecDepth 100000 in
theorem jw1618 : (Jvm.Cond.code ({ cls := "SchoolBoard$Poll", name := "stand", desc := "(I)I" } : Jvm.MethodName) prog_9_method_3_code (2 : Nat) (Option.some Jvm.ClassFile.FieldType.int)) ∈ jT := jm6 (List.mem_of_getElem? (i := 178) rfl)
set_option maxRecDepth 100000 in
theorem jw1619 : (Jvm.Cond.methodLink "SchoolBoardLaw" (175 : Nat) ({ cls := "SchoolBoard", name := "ballot", desc := "()I" } : Jvm.MethodName)) ∈ jT := jm6 (List.mem_of_getElem? (i := 179) rfl)
set_option maxRecDepth 100000 in
theorem jw1620 : (Jvm.Cond.instanceMethod ({ cls := "SchoolBoard", name := "ballot", desc := "()I" } : Jvm.MethodName)) ∈ jT := jm6 (List.mem_of_getElem? (i := 180) rfl)
set_option maxRecDepth 100000 in
theorem jw1621 : (Jvm.Cond.selects "SchoolBoard" ({ cls := "SchoolBoard", name := "ballot", desc := "()I" } : Jvm.MethodName) ({ cls := "SchoolBoard", name := "ballot", desc := "()I" } : Jvm.MethodName)) ∈ jT := jm6 (List.mem_of_getElem? (i := 181) rfl)
set_option maxRecDepth 100000 in
theorem jw1622 : (Jvm.Cond.code ({ cls := "SchoolBoard", name := "ballot", desc := "()I" } : Jvm.MethodName) prog_1_method_40_code (1 : Nat) (Option.some Jvm.ClassFile.FieldType.int)) ∈ jT := jm6 (List.mem_of_getElem? (i := 182) rfl)
set_option maxRecDepth 100000 in
theorem jw1623 : (Jvm.Cond.methodLink "SchoolBoard" (304 : Nat) ({ cls := "SchoolBoard$Poll", name := "cast", desc := "()I" } : Jvm.MethodName)) ∈ jT := jm6 (List.mem_of_getElem? (i := 183) rfl)
set_option maxRecDepth 100000 in
theorem jw1624 : (Jvm.Cond.instanceMethod ({ cls := "SchoolBoard$Poll", name := "cast", desc := "()I" } : Jvm.MethodName)) ∈ jT := jm6 (List.mem_of_getElem? (i := 184) rfl)
set_option maxRecDepth 100000 in
theorem jw1625 : (Jvm.Cond.selects "SchoolBoard$Poll" ({ cls := "SchoolBoard$Poll", name := "cast", desc := "()I" } : Jvm.MethodName) ({ cls := "SchoolBoard$Poll", name := "cast", desc := "()I" } : Jvm.MethodName)) ∈ jT := jm6 (List.mem_of_getElem? (i := 185) rfl)
set_option maxRecDepth 100000 in
theorem jw1626 : (Jvm.Cond.code ({ cls := "SchoolBoard$Poll", name := "cast", desc := "()I" } : Jvm.MethodName) prog_9_method_4_code (1 : Nat) (Option.some Jvm.ClassFile.FieldType.int)) ∈ jT := jm6 (List.mem_of_getElem? (i := 186) rfl)
set_option maxRecDepth 100000 in
theorem jw1627 : (Jvm.Cond.methodLink "SchoolBoardLaw" (179 : Nat) ({ cls := "SchoolBoard", name := "heap", desc := "(III)I" } : Jvm.MethodName)) ∈ jT := jm6 (List.mem_of_getElem? (i := 187) rfl)
set_option maxRecDepth 100000 in
theorem jw1628 : (Jvm.Cond.instanceMethod ({ cls := "SchoolBoard", name := "heap", desc := "(III)I" } : Jvm.MethodName)) ∈ jT := jm6 (List.mem_of_getElem? (i := 188) rfl)
set_option maxRecDepth 100000 in
theorem jw1629 : (Jvm.Cond.selects "SchoolBoard" ({ cls := "SchoolBoard", name := "heap", desc := "(III)I" } : Jvm.MethodName) ({ cls := "SchoolBoard", name := "heap", desc := "(III)I" } : Jvm.MethodName)) ∈ jT := jm6 (List.mem_of_getElem? (i := 189) rfl)
set_option maxRecDepth 100000 in
theorem jw1630 : (Jvm.Cond.code ({ cls := "SchoolBoard", name := "heap", desc := "(III)I" } : Jvm.MethodName) prog_1_method_41_code (5 : Nat) (Option.some Jvm.ClassFile.FieldType.int)) ∈ jT := jm6 (List.mem_of_getElem? (i := 190) rfl)
set_option maxRecDepth 100000 in
theorem jw1631 : (Jvm.Cond.methodLink "SchoolBoard" (307 : Nat) ({ cls := "SchoolBoard$Poll", name := "lay", desc := "(III)I" } : Jvm.MethodName)) ∈ jT := jm6 (List.mem_of_getElem? (i := 191) rfl)
set_option maxRecDepth 100000 in
theorem jw1632 : (Jvm.Cond.instanceMethod ({ cls := "SchoolBoard$Poll", name := "lay", desc := "(III)I" } : Jvm.MethodName)) ∈ jT := jm6 (List.mem_of_getElem? (i := 192) rfl)
set_option maxRecDepth 100000 in
theorem jw1633 : (Jvm.Cond.selects "SchoolBoard$Poll" ({ cls := "SchoolBoard$Poll", name := "lay", desc := "(III)I" } : Jvm.MethodName) ({ cls := "SchoolBoard$Poll", name := "lay", desc := "(III)I" } : Jvm.MethodName)) ∈ jT := jm6 (List.mem_of_getElem? (i := 193) rfl)
set_option maxRecDepth 100000 in
theorem jw1634 : (Jvm.Cond.code ({ cls := "SchoolBoard$Poll", name := "lay", desc := "(III)I" } : Jvm.MethodName) prog_9_method_5_code (6 : Nat) (Option.some Jvm.ClassFile.FieldType.int)) ∈ jT := jm6 (List.mem_of_getElem? (i := 194) rfl)
set_option maxRecDepth 100000 in
theorem jw1635 : (Jvm.Cond.methodLink "SchoolBoardLaw" (183 : Nat) ({ cls := "SchoolBoard", name := "candidateOf", desc := "(II)I" } : Jvm.MethodName)) ∈ jT := jm6 (List.mem_of_getElem? (i := 195) rfl)
set_option maxRecDepth 100000 in
theorem jw1636 : (Jvm.Cond.instanceMethod ({ cls := "SchoolBoard", name := "candidateOf", desc := "(II)I" } : Jvm.MethodName)) ∈ jT := jm6 (List.mem_of_getElem? (i := 196) rfl)
set_option maxRecDepth 100000 in
theorem jw1637 : (Jvm.Cond.selects "SchoolBoard" ({ cls := "SchoolBoard", name := "candidateOf", desc := "(II)I" } : Jvm.MethodName) ({ cls := "SchoolBoard", name := "candidateOf", desc := "(II)I" } : Jvm.MethodName)) ∈ jT := jm6 (List.mem_of_getElem? (i := 197) rfl)
set_option maxRecDepth 100000 in
theorem jw1638 : (Jvm.Cond.code ({ cls := "SchoolBoard", name := "candidateOf", desc := "(II)I" } : Jvm.MethodName) prog_1_method_42_code (3 : Nat) (Option.some Jvm.ClassFile.FieldType.int)) ∈ jT := jm6 (List.mem_of_getElem? (i := 198) rfl)
set_option maxRecDepth 100000 in
theorem jw1639 : (Jvm.Cond.methodLink "SchoolBoard" (309 : Nat) ({ cls := "SchoolBoard$Poll", name := "look", desc := "(II)I" } : Jvm.MethodName)) ∈ jT := jm6 (List.mem_of_getElem? (i := 199) rfl)
set_option maxRecDepth 100000 in
theorem jw1640 : (Jvm.Cond.instanceMethod ({ cls := "SchoolBoard$Poll", name := "look", desc := "(II)I" } : Jvm.MethodName)) ∈ jT := jm6 (List.mem_of_getElem? (i := 200) rfl)
set_option maxRecDepth 100000 in
theorem jw1641 : (Jvm.Cond.selects "SchoolBoard$Poll" ({ cls := "SchoolBoard$Poll", name := "look", desc := "(II)I" } : Jvm.MethodName) ({ cls := "SchoolBoard$Poll", name := "look", desc := "(II)I" } : Jvm.MethodName)) ∈ jT := jm6 (List.mem_of_getElem? (i := 201) rfl)
set_option maxRecDepth 100000 in
theorem jw1642 : (Jvm.Cond.code ({ cls := "SchoolBoard$Poll", name := "look", desc := "(II)I" } : Jvm.MethodName) prog_9_method_6_code (4 : Nat) (Option.some Jvm.ClassFile.FieldType.int)) ∈ jT := jm6 (List.mem_of_getElem? (i := 202) rfl)
set_option maxRecDepth 100000 in
theorem jw1643 : (Jvm.Cond.methodLink "SchoolBoard$Poll" (43 : Nat) ({ cls := "SchoolBoard$Poll", name := "rankOf", desc := "(I[I)I" } : Jvm.MethodName)) ∈ jT := jm6 (List.mem_of_getElem? (i := 203) rfl)
set_option maxRecDepth 100000 in
theorem jw1645 : (Jvm.Cond.instanceMethod ({ cls := "SchoolBoard$Poll", name := "rankOf", desc := "(I[I)I" } : Jvm.MethodName)) ∈ jT := jm6 (List.mem_of_getElem? (i := 205) rfl)
set_option maxRecDepth 100000 in
theorem jw1646 : (Jvm.Cond.code ({ cls := "SchoolBoard$Poll", name := "rankOf", desc := "(I[I)I" } : Jvm.MethodName) prog_9_method_7_code (6 : Nat) (Option.some Jvm.ClassFile.FieldType.int)) ∈ jT := jm6 (List.mem_of_getElem? (i := 206) rfl)
set_option maxRecDepth 100000 in
theorem jw1647 : (Jvm.Cond.methodLink "SchoolBoardLaw" (187 : Nat) ({ cls := "SchoolBoard", name := "sure", desc := "(I)I" } : Jvm.MethodName)) ∈ jT := jm6 (List.mem_of_getElem? (i := 207) rfl)
set_option maxRecDepth 100000 in
theorem jw1648 : (Jvm.Cond.instanceMethod ({ cls := "SchoolBoard", name := "sure", desc := "(I)I" } : Jvm.MethodName)) ∈ jT := jm6 (List.mem_of_getElem? (i := 208) rfl)
set_option maxRecDepth 100000 in
theorem jw1649 : (Jvm.Cond.selects "SchoolBoard" ({ cls := "SchoolBoard", name := "sure", desc := "(I)I" } : Jvm.MethodName) ({ cls := "SchoolBoard", name := "sure", desc := "(I)I" } : Jvm.MethodName)) ∈ jT := jm6 (List.mem_of_getElem? (i := 209) rfl)
set_option maxRecDepth 100000 in
theorem jw1650 : (Jvm.Cond.code ({ cls := "SchoolBoard", name := "sure", desc := "(I)I" } : Jvm.MethodName) prog_1_method_43_code (2 : Nat) (Option.some Jvm.ClassFile.FieldType.int)) ∈ jT := jm6 (List.mem_of_getElem? (i := 210) rfl)
set_option maxRecDepth 100000 in
theorem jw1651 : (Jvm.Cond.methodLink "SchoolBoard" (310 : Nat) ({ cls := "SchoolBoard$Poll", name := "sureOf", desc := "(I)I" } : Jvm.MethodName)) ∈ jT := jm6 (List.mem_of_getElem? (i := 211) rfl)
set_option maxRecDepth 100000 in
theorem jw1652 : (Jvm.Cond.instanceMethod ({ cls := "SchoolBoard$Poll", name := "sureOf", desc := "(I)I" } : Jvm.MethodName)) ∈ jT := jm6 (List.mem_of_getElem? (i := 212) rfl)
set_option maxRecDepth 100000 in
theorem jw1653 : (Jvm.Cond.selects "SchoolBoard$Poll" ({ cls := "SchoolBoard$Poll", name := "sureOf", desc := "(I)I" } : Jvm.MethodName) ({ cls := "SchoolBoard$Poll", name := "sureOf", desc := "(I)I" } : Jvm.MethodName)) ∈ jT := jm6 (List.mem_of_getElem? (i := 213) rfl)
set_option maxRecDepth 100000 in
theorem jw1654 : (Jvm.Cond.code ({ cls := "SchoolBoard$Poll", name := "sureOf", desc := "(I)I" } : Jvm.MethodName) prog_9_method_8_code (5 : Nat) (Option.some Jvm.ClassFile.FieldType.int)) ∈ jT := jm6 (List.mem_of_getElem? (i := 214) rfl)
set_option maxRecDepth 100000 in
theorem jw1655 : (Jvm.Cond.methodLink "SchoolBoard$Poll" (47 : Nat) ({ cls := "java/lang/Math", name := "min", desc := "(II)I" } : Jvm.MethodName)) ∈ jT := jm6 (List.mem_of_getElem? (i := 215) rfl)
set_option maxRecDepth 100000 in
theorem jw1656 : (Jvm.Cond.methodLink "SchoolBoard$Poll" (53 : Nat) ({ cls := "SchoolBoard$Poll", name := "areElected", desc := "(III)Z" } : Jvm.MethodName)) ∈ jT := jm6 (List.mem_of_getElem? (i := 216) rfl)
set_option maxRecDepth 100000 in
theorem jw1658 : (Jvm.Cond.instanceMethod ({ cls := "SchoolBoard$Poll", name := "areElected", desc := "(III)Z" } : Jvm.MethodName)) ∈ jT := jm6 (List.mem_of_getElem? (i := 218) rfl)
set_option maxRecDepth 100000 in
theorem jw1659 : (Jvm.Cond.code ({ cls := "SchoolBoard$Poll", name := "areElected", desc := "(III)Z" } : Jvm.MethodName) prog_9_method_9_code (6 : Nat) (Option.some Jvm.ClassFile.FieldType.boolean)) ∈ jT := jm6 (List.mem_of_getElem? (i := 219) rfl)
set_option maxRecDepth 100000 in
theorem jw1660 : (Jvm.Cond.methodLink "SchoolBoardLaw" (191 : Nat) ({ cls := "SchoolBoard", name := "house", desc := "(I)I" } : Jvm.MethodName)) ∈ jT := jm6 (List.mem_of_getElem? (i := 220) rfl)
set_option maxRecDepth 100000 in
theorem jw1661 : (Jvm.Cond.instanceMethod ({ cls := "SchoolBoard", name := "house", desc := "(I)I" } : Jvm.MethodName)) ∈ jT := jm6 (List.mem_of_getElem? (i := 221) rfl)
set_option maxRecDepth 100000 in
theorem jw1662 : (Jvm.Cond.selects "SchoolBoard" ({ cls := "SchoolBoard", name := "house", desc := "(I)I" } : Jvm.MethodName) ({ cls := "SchoolBoard", name := "house", desc := "(I)I" } : Jvm.MethodName)) ∈ jT := jm6 (List.mem_of_getElem? (i := 222) rfl)
set_option maxRecDepth 100000 in
theorem jw1663 : (Jvm.Cond.code ({ cls := "SchoolBoard", name := "house", desc := "(I)I" } : Jvm.MethodName) prog_1_method_44_code (2 : Nat) (Option.some Jvm.ClassFile.FieldType.int)) ∈ jT := jm6 (List.mem_of_getElem? (i := 223) rfl)
set_option maxRecDepth 100000 in
theorem jw1664 : (Jvm.Cond.methodLink "SchoolBoard" (316 : Nat) ({ cls := "SchoolBoard$Town", name := "addHouse", desc := "(I)I" } : Jvm.MethodName)) ∈ jT := jm6 (List.mem_of_getElem? (i := 224) rfl)
set_option maxRecDepth 100000 in
theorem jw1665 : (Jvm.Cond.instanceMethod ({ cls := "SchoolBoard$Town", name := "addHouse", desc := "(I)I" } : Jvm.MethodName)) ∈ jT := jm6 (List.mem_of_getElem? (i := 225) rfl)
set_option maxRecDepth 100000 in
theorem jw1666 : (Jvm.Cond.selects "SchoolBoard$Town" ({ cls := "SchoolBoard$Town", name := "addHouse", desc := "(I)I" } : Jvm.MethodName) ({ cls := "SchoolBoard$Town", name := "addHouse", desc := "(I)I" } : Jvm.MethodName)) ∈ jT := jm6 (List.mem_of_getElem? (i := 226) rfl)
set_option maxRecDepth 100000 in
theorem jw1667 : (Jvm.Cond.code ({ cls := "SchoolBoard$Town", name := "addHouse", desc := "(I)I" } : Jvm.MethodName) prog_12_method_5_code (2 : Nat) (Option.some Jvm.ClassFile.FieldType.int)) ∈ jT := jm6 (List.mem_of_getElem? (i := 227) rfl)
set_option maxRecDepth 100000 in
theorem jw1668 : (Jvm.Cond.methodLink "SchoolBoardLaw" (195 : Nat) ({ cls := "SchoolBoard", name := "rate", desc := "(II)I" } : Jvm.MethodName)) ∈ jT := jm6 (List.mem_of_getElem? (i := 228) rfl)
set_option maxRecDepth 100000 in
theorem jw1669 : (Jvm.Cond.instanceMethod ({ cls := "SchoolBoard", name := "rate", desc := "(II)I" } : Jvm.MethodName)) ∈ jT := jm6 (List.mem_of_getElem? (i := 229) rfl)
set_option maxRecDepth 100000 in
theorem jw1670 : (Jvm.Cond.selects "SchoolBoard" ({ cls := "SchoolBoard", name := "rate", desc := "(II)I" } : Jvm.MethodName) ({ cls := "SchoolBoard", name := "rate", desc := "(II)I" } : Jvm.MethodName)) ∈ jT := jm6 (List.mem_of_getElem? (i := 230) rfl)
set_option maxRecDepth 100000 in
theorem jw1671 : (Jvm.Cond.code ({ cls := "SchoolBoard", name := "rate", desc := "(II)I" } : Jvm.MethodName) prog_1_method_45_code (6 : Nat) (Option.some Jvm.ClassFile.FieldType.int)) ∈ jT := jm6 (List.mem_of_getElem? (i := 231) rfl)
set_option maxRecDepth 100000 in
theorem jw1672 : (Jvm.Cond.constant "SchoolBoard" (319 : Nat) (9999999 : Int32)) ∈ jT := jm6 (List.mem_of_getElem? (i := 232) rfl)
set_option maxRecDepth 100000 in
theorem jw1673 : (Jvm.Cond.methodLink "SchoolBoard" (320 : Nat) ({ cls := "SchoolBoard$Town", name := "leastRate", desc := "(II)I" } : Jvm.MethodName)) ∈ jT := jm6 (List.mem_of_getElem? (i := 233) rfl)
set_option maxRecDepth 100000 in
theorem jw1674 : (Jvm.Cond.instanceMethod ({ cls := "SchoolBoard$Town", name := "leastRate", desc := "(II)I" } : Jvm.MethodName)) ∈ jT := jm6 (List.mem_of_getElem? (i := 234) rfl)
set_option maxRecDepth 100000 in
theorem jw1675 : (Jvm.Cond.selects "SchoolBoard$Town" ({ cls := "SchoolBoard$Town", name := "leastRate", desc := "(II)I" } : Jvm.MethodName) ({ cls := "SchoolBoard$Town", name := "leastRate", desc := "(II)I" } : Jvm.MethodName)) ∈ jT := jm6 (List.mem_of_getElem? (i := 235) rfl)
set_option maxRecDepth 100000 in
theorem jw1676 : (Jvm.Cond.code ({ cls := "SchoolBoard$Town", name := "leastRate", desc := "(II)I" } : Jvm.MethodName) prog_12_method_18_code (6 : Nat) (Option.some Jvm.ClassFile.FieldType.int)) ∈ jT := jm6 (List.mem_of_getElem? (i := 236) rfl)
set_option maxRecDepth 100000 in
theorem jw1677 : (Jvm.Cond.methodLink "SchoolBoard$Town" (103 : Nat) ({ cls := "SchoolBoard$Town", name := "comesAt", desc := "(II)I" } : Jvm.MethodName)) ∈ jT := jm6 (List.mem_of_getElem? (i := 237) rfl)
set_option maxRecDepth 100000 in
theorem jw1678 : (Jvm.Cond.instanceMethod ({ cls := "SchoolBoard$Town", name := "comesAt", desc := "(II)I" } : Jvm.MethodName)) ∈ jT := jm6 (List.mem_of_getElem? (i := 238) rfl)
set_option maxRecDepth 100000 in
theorem jw1679 : (Jvm.Cond.selects "SchoolBoard$Town" ({ cls := "SchoolBoard$Town", name := "comesAt", desc := "(II)I" } : Jvm.MethodName) ({ cls := "SchoolBoard$Town", name := "comesAt", desc := "(II)I" } : Jvm.MethodName)) ∈ jT := jm6 (List.mem_of_getElem? (i := 239) rfl)
set_option maxRecDepth 100000 in
theorem jw1680 : (Jvm.Cond.code ({ cls := "SchoolBoard$Town", name := "comesAt", desc := "(II)I" } : Jvm.MethodName) prog_12_method_17_code (5 : Nat) (Option.some Jvm.ClassFile.FieldType.int)) ∈ jT := jm7 (List.mem_of_getElem? (i := 0) rfl)
set_option maxRecDepth 100000 in
theorem jw1681 : (Jvm.Cond.methodLink "SchoolBoard$Town" (100 : Nat) ({ cls := "SchoolBoard$Town", name := "paysAt", desc := "(III)I" } : Jvm.MethodName)) ∈ jT := jm7 (List.mem_of_getElem? (i := 1) rfl)
set_option maxRecDepth 100000 in
theorem jw1682 : (Jvm.Cond.instanceMethod ({ cls := "SchoolBoard$Town", name := "paysAt", desc := "(III)I" } : Jvm.MethodName)) ∈ jT := jm7 (List.mem_of_getElem? (i := 2) rfl)
set_option maxRecDepth 100000 in
theorem jw1683 : (Jvm.Cond.selects "SchoolBoard$Town" ({ cls := "SchoolBoard$Town", name := "paysAt", desc := "(III)I" } : Jvm.MethodName) ({ cls := "SchoolBoard$Town", name := "paysAt", desc := "(III)I" } : Jvm.MethodName)) ∈ jT := jm7 (List.mem_of_getElem? (i := 3) rfl)
set_option maxRecDepth 100000 in
theorem jw1684 : (Jvm.Cond.code ({ cls := "SchoolBoard$Town", name := "paysAt", desc := "(III)I" } : Jvm.MethodName) prog_12_method_16_code (5 : Nat) (Option.some Jvm.ClassFile.FieldType.int)) ∈ jT := jm7 (List.mem_of_getElem? (i := 4) rfl)
set_option maxRecDepth 100000 in
theorem jw1685 : (Jvm.Cond.methodLink "SchoolBoard" (323 : Nat) ({ cls := "SchoolBoard$Town", name := "comesAt", desc := "(II)I" } : Jvm.MethodName)) ∈ jT := jm7 (List.mem_of_getElem? (i := 5) rfl)
set_option maxRecDepth 100000 in
theorem jw1686 : (Jvm.Cond.methodLink "SchoolBoard" (326 : Nat) ({ cls := "SchoolBoard$Town", name := "paysAt", desc := "(III)I" } : Jvm.MethodName)) ∈ jT := jm7 (List.mem_of_getElem? (i := 6) rfl)
set_option maxRecDepth 100000 in
theorem jw1687 : (Jvm.Cond.methodLink "SchoolBoardLaw" (199 : Nat) ({ cls := "SchoolBoard", name := "count", desc := "(I)I" } : Jvm.MethodName)) ∈ jT := jm7 (List.mem_of_getElem? (i := 7) rfl)
set_option maxRecDepth 100000 in
theorem jw1688 : (Jvm.Cond.instanceMethod ({ cls := "SchoolBoard", name := "count", desc := "(I)I" } : Jvm.MethodName)) ∈ jT := jm7 (List.mem_of_getElem? (i := 8) rfl)
set_option maxRecDepth 100000 in
theorem jw1689 : (Jvm.Cond.selects "SchoolBoard" ({ cls := "SchoolBoard", name := "count", desc := "(I)I" } : Jvm.MethodName) ({ cls := "SchoolBoard", name := "count", desc := "(I)I" } : Jvm.MethodName)) ∈ jT := jm7 (List.mem_of_getElem? (i := 9) rfl)
set_option maxRecDepth 100000 in
theorem jw1690 : (Jvm.Cond.code ({ cls := "SchoolBoard", name := "count", desc := "(I)I" } : Jvm.MethodName) prog_1_method_46_code (2 : Nat) (Option.some Jvm.ClassFile.FieldType.int)) ∈ jT := jm7 (List.mem_of_getElem? (i := 10) rfl)
set_option maxRecDepth 100000 in
theorem jw1691 : (Jvm.Cond.classLink "SchoolBoardLaw" (10 : Nat) "SchoolBoardModel") ∈ jT := jm7 (List.mem_of_getElem? (i := 11) rfl)
set_option maxRecDepth 100000 in
theorem jw1692 : (Jvm.Cond.instantiable "SchoolBoardModel" (94 : Nat)) ∈ jT := jm7 (List.mem_of_getElem? (i := 12) rfl)
set_option maxRecDepth 100000 in
theorem jw1693 : (Jvm.Cond.methodLink "SchoolBoardLaw" (12 : Nat) ({ cls := "SchoolBoardModel", name := "<init>", desc := "()V" } : Jvm.MethodName)) ∈ jT := jm7 (List.mem_of_getElem? (i := 13) rfl)
set_option maxRecDepth 100000 in
theorem jw1694 : (Jvm.Cond.instanceMethod ({ cls := "SchoolBoardModel", name := "<init>", desc := "()V" } : Jvm.MethodName)) ∈ jT := jm7 (List.mem_of_getElem? (i := 14) rfl)
set_option maxRecDepth 100000 in
theorem jw1695 : (Jvm.Cond.code ({ cls := "SchoolBoardModel", name := "<init>", desc := "()V" } : Jvm.MethodName) prog_14_method_1_code (2 : Nat) (Option.none : Option Jvm.ClassFile.FieldType)) ∈ jT := jm7 (List.mem_of_getElem? (i := 15) rfl)
set_option maxRecDepth 100000 in
theorem jw1696 : (Jvm.Cond.methodLink "SchoolBoardModel" (1 : Nat) ({ cls := "java/lang/Object", name := "<init>", desc := "()V" } : Jvm.MethodName)) ∈ jT := jm7 (List.mem_of_getElem? (i := 16) rfl)
set_option maxRecDepth 100000 in
theorem jw1697 : (Jvm.Cond.fieldLink "SchoolBoardModel" (215 : Nat) "SchoolBoardModel" "today" "I") ∈ jT := jm7 (List.mem_of_getElem? (i := 17) rfl)
set_option maxRecDepth 100000 in
theorem jw1698 : (Jvm.Cond.fieldLink "SchoolBoardModel" (209 : Nat) "SchoolBoardModel" "children" "I") ∈ jT := jm7 (List.mem_of_getElem? (i := 18) rfl)
set_option maxRecDepth 100000 in
theorem jw1699 : (Jvm.Cond.fieldLink "SchoolBoardModel" (212 : Nat) "SchoolBoardModel" "schools" "I") ∈ jT := jm7 (List.mem_of_getElem? (i := 19) rfl)
set_option maxRecDepth 100000 in
theorem jw1700 : (Jvm.Cond.fieldLink "SchoolBoardModel" (226 : Nat) "SchoolBoardModel" "notes" "I") ∈ jT := jm7 (List.mem_of_getElem? (i := 20) rfl)
set_option maxRecDepth 100000 in
theorem jw1701 : (Jvm.Cond.fieldLink "SchoolBoardModel" (262 : Nat) "SchoolBoardModel" "undone" "I") ∈ jT := jm7 (List.mem_of_getElem? (i := 21) rfl)
set_option maxRecDepth 100000 in
theorem jw1702 : (Jvm.Cond.fieldLink "SchoolBoardModel" (7 : Nat) "SchoolBoardModel" "born" "[I") ∈ jT := jm7 (List.mem_of_getElem? (i := 22) rfl)
set_option maxRecDepth 100000 in
theorem jw1703 : (Jvm.Cond.fieldLink "SchoolBoardModel" (13 : Nat) "SchoolBoardModel" "street" "[I") ∈ jT := jm7 (List.mem_of_getElem? (i := 23) rfl)
set_option maxRecDepth 100000 in
theorem jw1704 : (Jvm.Cond.fieldLink "SchoolBoardModel" (16 : Nat) "SchoolBoardModel" "came" "[I") ∈ jT := jm7 (List.mem_of_getElem? (i := 24) rfl)
set_option maxRecDepth 100000 in
theorem jw1705 : (Jvm.Cond.fieldLink "SchoolBoardModel" (19 : Nat) "SchoolBoardModel" "standard" "[I") ∈ jT := jm7 (List.mem_of_getElem? (i := 25) rfl)
set_option maxRecDepth 100000 in
theorem jw1706 : (Jvm.Cond.fieldLink "SchoolBoardModel" (22 : Nat) "SchoolBoardModel" "paid" "[I") ∈ jT := jm7 (List.mem_of_getElem? (i := 26) rfl)
set_option maxRecDepth 100000 in
theorem jw1707 : (Jvm.Cond.fieldLink "SchoolBoardModel" (25 : Nat) "SchoolBoardModel" "estimates" "[I") ∈ jT := jm7 (List.mem_of_getElem? (i := 27) rfl)
set_option maxRecDepth 100000 in
theorem jw1708 : (Jvm.Cond.fieldLink "SchoolBoardModel" (28 : Nat) "SchoolBoardModel" "schoolX" "[I") ∈ jT := jm7 (List.mem_of_getElem? (i := 28) rfl)
set_option maxRecDepth 100000 in
theorem jw1709 : (Jvm.Cond.fieldLink "SchoolBoardModel" (31 : Nat) "SchoolBoardModel" "schoolY" "[I") ∈ jT := jm7 (List.mem_of_getElem? (i := 29) rfl)
set_option maxRecDepth 100000 in
theorem jw1710 : (Jvm.Cond.fieldLink "SchoolBoardModel" (34 : Nat) "SchoolBoardModel" "cubic" "[I") ∈ jT := jm7 (List.mem_of_getElem? (i := 30) rfl)
set_option maxRecDepth 100000 in
theorem jw1711 : (Jvm.Cond.fieldLink "SchoolBoardModel" (37 : Nat) "SchoolBoardModel" "streetX" "[I") ∈ jT := jm7 (List.mem_of_getElem? (i := 31) rfl)
set_option maxRecDepth 100000 in
theorem jw1712 : (Jvm.Cond.fieldLink "SchoolBoardModel" (40 : Nat) "SchoolBoardModel" "streetY" "[I") ∈ jT := jm7 (List.mem_of_getElem? (i := 32) rfl)
set_option maxRecDepth 100000 in
theorem jw1713 : (Jvm.Cond.fieldLink "SchoolBoardModel" (43 : Nat) "SchoolBoardModel" "what" "[I") ∈ jT := jm7 (List.mem_of_getElem? (i := 33) rfl)
set_option maxRecDepth 100000 in
theorem jw1714 : (Jvm.Cond.fieldLink "SchoolBoardModel" (46 : Nat) "SchoolBoardModel" "who" "[I") ∈ jT := jm7 (List.mem_of_getElem? (i := 34) rfl)
set_option maxRecDepth 100000 in
theorem jw1715 : (Jvm.Cond.fieldLink "SchoolBoardModel" (49 : Nat) "SchoolBoardModel" "one" "[I") ∈ jT := jm7 (List.mem_of_getElem? (i := 35) rfl)
set_option maxRecDepth 100000 in
theorem jw1716 : (Jvm.Cond.fieldLink "SchoolBoardModel" (52 : Nat) "SchoolBoardModel" "two" "[I") ∈ jT := jm7 (List.mem_of_getElem? (i := 36) rfl)
set_option maxRecDepth 100000 in
theorem jw1717 : (Jvm.Cond.fieldLink "SchoolBoardModel" (55 : Nat) "SchoolBoardModel" "three" "[I") ∈ jT := jm7 (List.mem_of_getElem? (i := 37) rfl)
set_option maxRecDepth 100000 in
theorem jw1718 : (Jvm.Cond.fieldLink "SchoolBoardModel" (58 : Nat) "SchoolBoardModel" "told" "[I") ∈ jT := jm7 (List.mem_of_getElem? (i := 38) rfl)
set_option maxRecDepth 100000 in
theorem jw1719 : (Jvm.Cond.fieldLink "SchoolBoardModel" (61 : Nat) "SchoolBoardModel" "undoneOn" "[I") ∈ jT := jm7 (List.mem_of_getElem? (i := 39) rfl)
set_option maxRecDepth 100000 in
theorem jw1720 : (Jvm.Cond.fieldLink "SchoolBoardModel" (64 : Nat) "SchoolBoardModel" "many" "[I") ∈ jT := jm7 (List.mem_of_getElem? (i := 40) rfl)
set_option maxRecDepth 100000 in
theorem jw1721 : (Jvm.Cond.fieldLink "SchoolBoardModel" (67 : Nat) "SchoolBoardModel" "onAt" "[I") ∈ jT := jm7 (List.mem_of_getElem? (i := 41) rfl)
set_option maxRecDepth 100000 in
theorem jw1722 : (Jvm.Cond.fieldLink "SchoolBoardModel" (70 : Nat) "SchoolBoardModel" "markAt" "[I") ∈ jT := jm7 (List.mem_of_getElem? (i := 42) rfl)
set_option maxRecDepth 100000 in
theorem jw1723 : (Jvm.Cond.fieldLink "SchoolBoardModel" (73 : Nat) "SchoolBoardModel" "kindsAt" "[I") ∈ jT := jm7 (List.mem_of_getElem? (i := 43) rfl)
set_option maxRecDepth 100000 in
theorem jw1724 : (Jvm.Cond.fieldLink "SchoolBoardModel" (76 : Nat) "SchoolBoardModel" "timerAt" "[Z") ∈ jT := jm7 (List.mem_of_getElem? (i := 44) rfl)
set_option maxRecDepth 100000 in
theorem jw1725 : (Jvm.Cond.fieldLink "SchoolBoardModel" (80 : Nat) "SchoolBoardModel" "poorAt" "[Z") ∈ jT := jm7 (List.mem_of_getElem? (i := 45) rfl)
set_option maxRecDepth 100000 in
theorem jw1726 : (Jvm.Cond.fieldLink "SchoolBoardModel" (83 : Nat) "SchoolBoardModel" "shutAt" "[Z") ∈ jT := jm7 (List.mem_of_getElem? (i := 46) rfl)
set_option maxRecDepth 100000 in
theorem jw1727 : (Jvm.Cond.fieldLink "SchoolBoardModel" (86 : Nat) "SchoolBoardModel" "lineChild" "[I") ∈ jT := jm7 (List.mem_of_getElem? (i := 47) rfl)
set_option maxRecDepth 100000 in
theorem jw1728 : (Jvm.Cond.fieldLink "SchoolBoardModel" (89 : Nat) "SchoolBoardModel" "lineClause" "[I") ∈ jT := jm7 (List.mem_of_getElem? (i := 48) rfl)
set_option maxRecDepth 100000 in
theorem jw1729 : (Jvm.Cond.fieldLink "SchoolBoardModel" (92 : Nat) "SchoolBoardModel" "linePence" "[I") ∈ jT := jm7 (List.mem_of_getElem? (i := 49) rfl)
set_option maxRecDepth 100000 in
theorem jw1730 : (Jvm.Cond.fieldLink "SchoolBoardModel" (95 : Nat) "SchoolBoardModel" "yearly" "[I") ∈ jT := jm7 (List.mem_of_getElem? (i := 50) rfl)
set_option maxRecDepth 100000 in
theorem jw1731 : (Jvm.Cond.fieldLink "SchoolBoardModel" (331 : Nat) "SchoolBoardModel" "lines" "I") ∈ jT := jm7 (List.mem_of_getElem? (i := 51) rfl)
set_option maxRecDepth 100000 in
theorem jw1732 : (Jvm.Cond.fieldLink "SchoolBoardModel" (349 : Nat) "SchoolBoardModel" "average" "I") ∈ jT := jm7 (List.mem_of_getElem? (i := 52) rfl)
set_option maxRecDepth 100000 in
theorem jw1733 : (Jvm.Cond.fieldLink "SchoolBoardModel" (343 : Nat) "SchoolBoardModel" "openDays" "I") ∈ jT := jm7 (List.mem_of_getElem? (i := 53) rfl)
set_option maxRecDepth 100000 in
theorem jw1734 : (Jvm.Cond.fieldLink "SchoolBoardModel" (346 : Nat) "SchoolBoardModel" "pupils" "I") ∈ jT := jm7 (List.mem_of_getElem? (i := 54) rfl)
set_option maxRecDepth 100000 in
theorem jw1735 : (Jvm.Cond.fieldLink "SchoolBoardModel" (355 : Nat) "SchoolBoardModel" "covers" "I") ∈ jT := jm7 (List.mem_of_getElem? (i := 55) rfl)
set_option maxRecDepth 100000 in
theorem jw1736 : (Jvm.Cond.fieldLink "SchoolBoardModel" (334 : Nat) "SchoolBoardModel" "all" "I") ∈ jT := jm7 (List.mem_of_getElem? (i := 56) rfl)
set_option maxRecDepth 100000 in
theorem jw1737 : (Jvm.Cond.fieldLink "SchoolBoardModel" (340 : Nat) "SchoolBoardModel" "teachers" "I") ∈ jT := jm7 (List.mem_of_getElem? (i := 57) rfl)
set_option maxRecDepth 100000 in
theorem jw1738 : (Jvm.Cond.fieldLink "SchoolBoardModel" (98 : Nat) "SchoolBoardModel" "teacherAt" "[I") ∈ jT := jm7 (List.mem_of_getElem? (i := 58) rfl)
set_option maxRecDepth 100000 in
theorem jw1739 : (Jvm.Cond.fieldLink "SchoolBoardModel" (101 : Nat) "SchoolBoardModel" "teacherFrom" "[I") ∈ jT := jm7 (List.mem_of_getElem? (i := 59) rfl)
set_option maxRecDepth 100000 in
theorem jw1740 : (Jvm.Cond.fieldLink "SchoolBoardModel" (104 : Nat) "SchoolBoardModel" "proofs" "[I") ∈ jT := jm7 (List.mem_of_getElem? (i := 60) rfl)
set_option maxRecDepth 100000 in
theorem jw1741 : (Jvm.Cond.fieldLink "SchoolBoardModel" (107 : Nat) "SchoolBoardModel" "rows" "[I") ∈ jT := jm7 (List.mem_of_getElem? (i := 61) rfl)
set_option maxRecDepth 100000 in
theorem jw1742 : (Jvm.Cond.fieldLink "SchoolBoardModel" (110 : Nat) "SchoolBoardModel" "worth" "[I") ∈ jT := jm7 (List.mem_of_getElem? (i := 62) rfl)
set_option maxRecDepth 100000 in
theorem jw1743 : (Jvm.Cond.fieldLink "SchoolBoardModel" (113 : Nat) "SchoolBoardModel" "hoursOf" "[I") ∈ jT := jm7 (List.mem_of_getElem? (i := 63) rfl)
set_option maxRecDepth 100000 in
theorem jw1744 : (Jvm.Cond.fieldLink "SchoolBoardModel" (116 : Nat) "SchoolBoardModel" "mostFrom" "[I") ∈ jT := jm7 (List.mem_of_getElem? (i := 64) rfl)
set_option maxRecDepth 100000 in
theorem jw1745 : (Jvm.Cond.fieldLink "SchoolBoardModel" (119 : Nat) "SchoolBoardModel" "sets" "[I") ∈ jT := jm7 (List.mem_of_getElem? (i := 65) rfl)
set_option maxRecDepth 100000 in
theorem jw1746 : (Jvm.Cond.fieldLink "SchoolBoardModel" (386 : Nat) "SchoolBoardModel" "rowMany" "I") ∈ jT := jm7 (List.mem_of_getElem? (i := 66) rfl)
set_option maxRecDepth 100000 in
theorem jw1747 : (Jvm.Cond.fieldLink "SchoolBoardModel" (392 : Nat) "SchoolBoardModel" "entered" "I") ∈ jT := jm7 (List.mem_of_getElem? (i := 67) rfl)
set_option maxRecDepth 100000 in
theorem jw1748 : (Jvm.Cond.fieldLink "SchoolBoardModel" (395 : Nat) "SchoolBoardModel" "hoursTaken" "I") ∈ jT := jm7 (List.mem_of_getElem? (i := 68) rfl)
set_option maxRecDepth 100000 in
theorem jw1749 : (Jvm.Cond.fieldLink "SchoolBoardModel" (122 : Nat) "SchoolBoardModel" "lacks" "[I") ∈ jT := jm7 (List.mem_of_getElem? (i := 69) rfl)
set_option maxRecDepth 100000 in
theorem jw1750 : (Jvm.Cond.fieldLink "SchoolBoardModel" (125 : Nat) "SchoolBoardModel" "livesAt" "[I") ∈ jT := jm7 (List.mem_of_getElem? (i := 70) rfl)
set_option maxRecDepth 100000 in
theorem jw1751 : (Jvm.Cond.fieldLink "SchoolBoardModel" (404 : Nat) "SchoolBoardModel" "sites" "I") ∈ jT := jm7 (List.mem_of_getElem? (i := 71) rfl)
set_option maxRecDepth 100000 in
theorem jw1752 : (Jvm.Cond.fieldLink "SchoolBoardModel" (128 : Nat) "SchoolBoardModel" "siteX" "[I") ∈ jT := jm7 (List.mem_of_getElem? (i := 72) rfl)
set_option maxRecDepth 100000 in
theorem jw1753 : (Jvm.Cond.fieldLink "SchoolBoardModel" (131 : Nat) "SchoolBoardModel" "siteY" "[I") ∈ jT := jm7 (List.mem_of_getElem? (i := 73) rfl)
set_option maxRecDepth 100000 in
theorem jw1754 : (Jvm.Cond.fieldLink "SchoolBoardModel" (413 : Nat) "SchoolBoardModel" "seats" "I") ∈ jT := jm7 (List.mem_of_getElem? (i := 74) rfl)
set_option maxRecDepth 100000 in
theorem jw1755 : (Jvm.Cond.fieldLink "SchoolBoardModel" (416 : Nat) "SchoolBoardModel" "candidates" "I") ∈ jT := jm7 (List.mem_of_getElem? (i := 75) rfl)
set_option maxRecDepth 100000 in
theorem jw1756 : (Jvm.Cond.fieldLink "SchoolBoardModel" (419 : Nat) "SchoolBoardModel" "ballots" "I") ∈ jT := jm7 (List.mem_of_getElem? (i := 76) rfl)
set_option maxRecDepth 100000 in
theorem jw1757 : (Jvm.Cond.fieldLink "SchoolBoardModel" (134 : Nat) "SchoolBoardModel" "party" "[I") ∈ jT := jm7 (List.mem_of_getElem? (i := 77) rfl)
set_option maxRecDepth 100000 in
theorem jw1758 : (Jvm.Cond.fieldLink "SchoolBoardModel" (137 : Nat) "SchoolBoardModel" "heaps" "[I") ∈ jT := jm7 (List.mem_of_getElem? (i := 78) rfl)
set_option maxRecDepth 100000 in
theorem jw1759 : (Jvm.Cond.fieldLink "SchoolBoardModel" (140 : Nat) "SchoolBoardModel" "votes" "[I") ∈ jT := jm7 (List.mem_of_getElem? (i := 79) rfl)
set_option maxRecDepth 100000 in
theorem jw1760 : (Jvm.Cond.fieldLink "SchoolBoardModel" (431 : Nat) "SchoolBoardModel" "houses" "I") ∈ jT := jm7 (List.mem_of_getElem? (i := 80) rfl)
set_option maxRecDepth 100000 in
theorem jw1761 : (Jvm.Cond.fieldLink "SchoolBoardModel" (143 : Nat) "SchoolBoardModel" "value" "[I") ∈ jT := jm7 (List.mem_of_getElem? (i := 81) rfl)
set_option maxRecDepth 100000 in
theorem jw1762 : (Jvm.Cond.fieldLink "SchoolBoardModel" (594 : Nat) "SchoolBoardModel" "acts" "I") ∈ jT := jm7 (List.mem_of_getElem? (i := 82) rfl)
set_option maxRecDepth 100000 in
theorem jw1763 : (Jvm.Cond.fieldLink "SchoolBoardModel" (463 : Nat) "SchoolBoardModel" "nodes" "I") ∈ jT := jm7 (List.mem_of_getElem? (i := 83) rfl)
set_option maxRecDepth 100000 in
theorem jw1764 : (Jvm.Cond.fieldLink "SchoolBoardModel" (441 : Nat) "SchoolBoardModel" "taped" "I") ∈ jT := jm7 (List.mem_of_getElem? (i := 84) rfl)
set_option maxRecDepth 100000 in
theorem jw1765 : (Jvm.Cond.fieldLink "SchoolBoardModel" (451 : Nat) "SchoolBoardModel" "size" "I") ∈ jT := jm7 (List.mem_of_getElem? (i := 85) rfl)
set_option maxRecDepth 100000 in
theorem jw1766 : (Jvm.Cond.fieldLink "SchoolBoardModel" (448 : Nat) "SchoolBoardModel" "at" "I") ∈ jT := jm7 (List.mem_of_getElem? (i := 86) rfl)
set_option maxRecDepth 100000 in
theorem jw1767 : (Jvm.Cond.fieldLink "SchoolBoardModel" (509 : Nat) "SchoolBoardModel" "deep" "I") ∈ jT := jm7 (List.mem_of_getElem? (i := 87) rfl)
set_option maxRecDepth 100000 in
theorem jw1768 : (Jvm.Cond.fieldLink "SchoolBoardModel" (146 : Nat) "SchoolBoardModel" "fault" "I") ∈ jT := jm7 (List.mem_of_getElem? (i := 88) rfl)
set_option maxRecDepth 100000 in
theorem jw1769 : (Jvm.Cond.fieldLink "SchoolBoardModel" (150 : Nat) "SchoolBoardModel" "statements" "[I") ∈ jT := jm7 (List.mem_of_getElem? (i := 89) rfl)
set_option maxRecDepth 100000 in
theorem jw1770 : (Jvm.Cond.fieldLink "SchoolBoardModel" (153 : Nat) "SchoolBoardModel" "fromYear" "[I") ∈ jT := jm7 (List.mem_of_getElem? (i := 90) rfl)
set_option maxRecDepth 100000 in
theorem jw1771 : (Jvm.Cond.fieldLink "SchoolBoardModel" (156 : Nat) "SchoolBoardModel" "clause" "[I") ∈ jT := jm7 (List.mem_of_getElem? (i := 91) rfl)
set_option maxRecDepth 100000 in
theorem jw1772 : (Jvm.Cond.fieldLink "SchoolBoardModel" (159 : Nat) "SchoolBoardModel" "body" "[I") ∈ jT := jm7 (List.mem_of_getElem? (i := 92) rfl)
set_option maxRecDepth 100000 in
theorem jw1773 : (Jvm.Cond.fieldLink "SchoolBoardModel" (162 : Nat) "SchoolBoardModel" "number" "[I") ∈ jT := jm7 (List.mem_of_getElem? (i := 93) rfl)
set_option maxRecDepth 100000 in
theorem jw1774 : (Jvm.Cond.fieldLink "SchoolBoardModel" (165 : Nat) "SchoolBoardModel" "second" "[I") ∈ jT := jm7 (List.mem_of_getElem? (i := 94) rfl)
set_option maxRecDepth 100000 in
theorem jw1775 : (Jvm.Cond.fieldLink "SchoolBoardModel" (168 : Nat) "SchoolBoardModel" "when" "[I") ∈ jT := jm7 (List.mem_of_getElem? (i := 95) rfl)
set_option maxRecDepth 100000 in
theorem jw1776 : (Jvm.Cond.fieldLink "SchoolBoardModel" (171 : Nat) "SchoolBoardModel" "nodeKind" "[I") ∈ jT := jm7 (List.mem_of_getElem? (i := 96) rfl)
set_option maxRecDepth 100000 in
theorem jw1777 : (Jvm.Cond.fieldLink "SchoolBoardModel" (174 : Nat) "SchoolBoardModel" "nodeFirst" "[I") ∈ jT := jm7 (List.mem_of_getElem? (i := 97) rfl)
set_option maxRecDepth 100000 in
theorem jw1778 : (Jvm.Cond.fieldLink "SchoolBoardModel" (177 : Nat) "SchoolBoardModel" "nodeNext" "[I") ∈ jT := jm7 (List.mem_of_getElem? (i := 98) rfl)
set_option maxRecDepth 100000 in
theorem jw1779 : (Jvm.Cond.fieldLink "SchoolBoardModel" (180 : Nat) "SchoolBoardModel" "nodeName" "[I") ∈ jT := jm7 (List.mem_of_getElem? (i := 99) rfl)
set_option maxRecDepth 100000 in
theorem jw1780 : (Jvm.Cond.fieldLink "SchoolBoardModel" (183 : Nat) "SchoolBoardModel" "nodeSign" "[I") ∈ jT := jm7 (List.mem_of_getElem? (i := 100) rfl)
set_option maxRecDepth 100000 in
theorem jw1781 : (Jvm.Cond.fieldLink "SchoolBoardModel" (186 : Nat) "SchoolBoardModel" "nodeNumber" "[I") ∈ jT := jm7 (List.mem_of_getElem? (i := 101) rfl)
set_option maxRecDepth 100000 in
theorem jw1782 : (Jvm.Cond.fieldLink "SchoolBoardModel" (189 : Nat) "SchoolBoardModel" "here" "[I") ∈ jT := jm7 (List.mem_of_getElem? (i := 102) rfl)
set_option maxRecDepth 100000 in
theorem jw1783 : (Jvm.Cond.fieldLink "SchoolBoardModel" (192 : Nat) "SchoolBoardModel" "codes" "[I") ∈ jT := jm7 (List.mem_of_getElem? (i := 103) rfl)
set_option maxRecDepth 100000 in
theorem jw1784 : (Jvm.Cond.fieldLink "SchoolBoardModel" (600 : Nat) "SchoolBoardModel" "hasCodes" "Z") ∈ jT := jm7 (List.mem_of_getElem? (i := 104) rfl)
set_option maxRecDepth 100000 in
theorem jw1785 : (Jvm.Cond.fieldLink "SchoolBoardModel" (195 : Nat) "SchoolBoardModel" "tape" "[B") ∈ jT := jm7 (List.mem_of_getElem? (i := 105) rfl)
set_option maxRecDepth 100000 in
theorem jw1786 : (Jvm.Cond.fieldLink "SchoolBoardModel" (199 : Nat) "SchoolBoardModel" "text" "[B") ∈ jT := jm7 (List.mem_of_getElem? (i := 106) rfl)
set_option maxRecDepth 100000 in
theorem jw1787 : (Jvm.Cond.fieldLink "SchoolBoardModel" (457 : Nat) "SchoolBoardModel" "read" "I") ∈ jT := jm7 (List.mem_of_getElem? (i := 107) rfl)
set_option maxRecDepth 100000 in
theorem jw1788 : (Jvm.Cond.fieldLink "SchoolBoardModel" (202 : Nat) "SchoolBoardModel" "written" "[B") ∈ jT := jm7 (List.mem_of_getElem? (i := 108) rfl)
set_option maxRecDepth 100000 in
theorem jw1789 : (Jvm.Cond.fieldLink "SchoolBoardModel" (609 : Nat) "SchoolBoardModel" "writtenMany" "I") ∈ jT := jm7 (List.mem_of_getElem? (i := 109) rfl)
set_option maxRecDepth 100000 in
theorem jw1790 : (Jvm.Cond.fieldLink "SchoolBoardModel" (612 : Nat) "SchoolBoardModel" "inWord" "Z") ∈ jT := jm7 (List.mem_of_getElem? (i := 110) rfl)
set_option maxRecDepth 100000 in
theorem jw1791 : (Jvm.Cond.lays "SchoolBoardModel" "SchoolBoardModel" "today" "I") ∈ jT := jm7 (List.mem_of_getElem? (i := 111) rfl)
set_option maxRecDepth 100000 in
theorem jw1793 : (Jvm.Cond.lays "SchoolBoardModel" "SchoolBoardModel" "children" "I") ∈ jT := jm7 (List.mem_of_getElem? (i := 113) rfl)
set_option maxRecDepth 100000 in
theorem jw1795 : (Jvm.Cond.lays "SchoolBoardModel" "SchoolBoardModel" "schools" "I") ∈ jT := jm7 (List.mem_of_getElem? (i := 115) rfl)
set_option maxRecDepth 100000 in
theorem jw1797 : (Jvm.Cond.lays "SchoolBoardModel" "SchoolBoardModel" "notes" "I") ∈ jT := jm7 (List.mem_of_getElem? (i := 117) rfl)
set_option maxRecDepth 100000 in
theorem jw1799 : (Jvm.Cond.lays "SchoolBoardModel" "SchoolBoardModel" "undone" "I") ∈ jT := jm7 (List.mem_of_getElem? (i := 119) rfl)
set_option maxRecDepth 100000 in
theorem jw1801 : (Jvm.Cond.laysFinal "SchoolBoardModel" "SchoolBoardModel" "born" "[I") ∈ jT := jm7 (List.mem_of_getElem? (i := 121) rfl)
set_option maxRecDepth 100000 in
theorem jw1803 : (Jvm.Cond.laysFinal "SchoolBoardModel" "SchoolBoardModel" "street" "[I") ∈ jT := jm7 (List.mem_of_getElem? (i := 123) rfl)
set_option maxRecDepth 100000 in
theorem jw1805 : (Jvm.Cond.laysFinal "SchoolBoardModel" "SchoolBoardModel" "came" "[I") ∈ jT := jm7 (List.mem_of_getElem? (i := 125) rfl)
set_option maxRecDepth 100000 in
theorem jw1807 : (Jvm.Cond.laysFinal "SchoolBoardModel" "SchoolBoardModel" "standard" "[I") ∈ jT := jm7 (List.mem_of_getElem? (i := 127) rfl)
set_option maxRecDepth 100000 in
theorem jw1809 : (Jvm.Cond.laysFinal "SchoolBoardModel" "SchoolBoardModel" "paid" "[I") ∈ jT := jm7 (List.mem_of_getElem? (i := 129) rfl)
set_option maxRecDepth 100000 in
theorem jw1811 : (Jvm.Cond.laysFinal "SchoolBoardModel" "SchoolBoardModel" "estimates" "[I") ∈ jT := jm7 (List.mem_of_getElem? (i := 131) rfl)
set_option maxRecDepth 100000 in
theorem jw1813 : (Jvm.Cond.laysFinal "SchoolBoardModel" "SchoolBoardModel" "schoolX" "[I") ∈ jT := jm7 (List.mem_of_getElem? (i := 133) rfl)
set_option maxRecDepth 100000 in
theorem jw1815 : (Jvm.Cond.laysFinal "SchoolBoardModel" "SchoolBoardModel" "schoolY" "[I") ∈ jT := jm7 (List.mem_of_getElem? (i := 135) rfl)
set_option maxRecDepth 100000 in
theorem jw1817 : (Jvm.Cond.laysFinal "SchoolBoardModel" "SchoolBoardModel" "cubic" "[I") ∈ jT := jm7 (List.mem_of_getElem? (i := 137) rfl)
set_option maxRecDepth 100000 in
theorem jw1819 : (Jvm.Cond.laysFinal "SchoolBoardModel" "SchoolBoardModel" "streetX" "[I") ∈ jT := jm7 (List.mem_of_getElem? (i := 139) rfl)
set_option maxRecDepth 100000 in
theorem jw1821 : (Jvm.Cond.laysFinal "SchoolBoardModel" "SchoolBoardModel" "streetY" "[I") ∈ jT := jm7 (List.mem_of_getElem? (i := 141) rfl)
set_option maxRecDepth 100000 in
theorem jw1823 : (Jvm.Cond.laysFinal "SchoolBoardModel" "SchoolBoardModel" "what" "[I") ∈ jT := jm7 (List.mem_of_getElem? (i := 143) rfl)
set_option maxRecDepth 100000 in
theorem jw1825 : (Jvm.Cond.laysFinal "SchoolBoardModel" "SchoolBoardModel" "who" "[I") ∈ jT := jm7 (List.mem_of_getElem? (i := 145) rfl)
set_option maxRecDepth 100000 in
theorem jw1827 : (Jvm.Cond.laysFinal "SchoolBoardModel" "SchoolBoardModel" "one" "[I") ∈ jT := jm7 (List.mem_of_getElem? (i := 147) rfl)
set_option maxRecDepth 100000 in
theorem jw1829 : (Jvm.Cond.laysFinal "SchoolBoardModel" "SchoolBoardModel" "two" "[I") ∈ jT := jm7 (List.mem_of_getElem? (i := 149) rfl)
set_option maxRecDepth 100000 in
theorem jw1831 : (Jvm.Cond.laysFinal "SchoolBoardModel" "SchoolBoardModel" "three" "[I") ∈ jT := jm7 (List.mem_of_getElem? (i := 151) rfl)
set_option maxRecDepth 100000 in
theorem jw1833 : (Jvm.Cond.laysFinal "SchoolBoardModel" "SchoolBoardModel" "told" "[I") ∈ jT := jm7 (List.mem_of_getElem? (i := 153) rfl)
set_option maxRecDepth 100000 in
theorem jw1835 : (Jvm.Cond.laysFinal "SchoolBoardModel" "SchoolBoardModel" "undoneOn" "[I") ∈ jT := jm7 (List.mem_of_getElem? (i := 155) rfl)
set_option maxRecDepth 100000 in
theorem jw1837 : (Jvm.Cond.laysFinal "SchoolBoardModel" "SchoolBoardModel" "many" "[I") ∈ jT := jm7 (List.mem_of_getElem? (i := 157) rfl)
set_option maxRecDepth 100000 in
theorem jw1839 : (Jvm.Cond.laysFinal "SchoolBoardModel" "SchoolBoardModel" "onAt" "[I") ∈ jT := jm7 (List.mem_of_getElem? (i := 159) rfl)
set_option maxRecDepth 100000 in
theorem jw1841 : (Jvm.Cond.laysFinal "SchoolBoardModel" "SchoolBoardModel" "markAt" "[I") ∈ jT := jm7 (List.mem_of_getElem? (i := 161) rfl)
set_option maxRecDepth 100000 in
theorem jw1843 : (Jvm.Cond.laysFinal "SchoolBoardModel" "SchoolBoardModel" "kindsAt" "[I") ∈ jT := jm7 (List.mem_of_getElem? (i := 163) rfl)
set_option maxRecDepth 100000 in
theorem jw1845 : (Jvm.Cond.laysFinal "SchoolBoardModel" "SchoolBoardModel" "timerAt" "[Z") ∈ jT := jm7 (List.mem_of_getElem? (i := 165) rfl)
set_option maxRecDepth 100000 in
theorem jw1847 : (Jvm.Cond.laysFinal "SchoolBoardModel" "SchoolBoardModel" "poorAt" "[Z") ∈ jT := jm7 (List.mem_of_getElem? (i := 167) rfl)
set_option maxRecDepth 100000 in
theorem jw1849 : (Jvm.Cond.laysFinal "SchoolBoardModel" "SchoolBoardModel" "shutAt" "[Z") ∈ jT := jm7 (List.mem_of_getElem? (i := 169) rfl)
set_option maxRecDepth 100000 in
theorem jw1851 : (Jvm.Cond.laysFinal "SchoolBoardModel" "SchoolBoardModel" "lineChild" "[I") ∈ jT := jm7 (List.mem_of_getElem? (i := 171) rfl)
set_option maxRecDepth 100000 in
theorem jw1853 : (Jvm.Cond.laysFinal "SchoolBoardModel" "SchoolBoardModel" "lineClause" "[I") ∈ jT := jm7 (List.mem_of_getElem? (i := 173) rfl)
set_option maxRecDepth 100000 in
theorem jw1855 : (Jvm.Cond.laysFinal "SchoolBoardModel" "SchoolBoardModel" "linePence" "[I") ∈ jT := jm7 (List.mem_of_getElem? (i := 175) rfl)
set_option maxRecDepth 100000 in
theorem jw1857 : (Jvm.Cond.laysFinal "SchoolBoardModel" "SchoolBoardModel" "yearly" "[I") ∈ jT := jm7 (List.mem_of_getElem? (i := 177) rfl)
set_option maxRecDepth 100000 in
theorem jw1859 : (Jvm.Cond.lays "SchoolBoardModel" "SchoolBoardModel" "lines" "I") ∈ jT := jm7 (List.mem_of_getElem? (i := 179) rfl)
set_option maxRecDepth 100000 in
theorem jw1861 : (Jvm.Cond.lays "SchoolBoardModel" "SchoolBoardModel" "average" "I") ∈ jT := jm7 (List.mem_of_getElem? (i := 181) rfl)
set_option maxRecDepth 100000 in
theorem jw1863 : (Jvm.Cond.lays "SchoolBoardModel" "SchoolBoardModel" "openDays" "I") ∈ jT := jm7 (List.mem_of_getElem? (i := 183) rfl)
set_option maxRecDepth 100000 in
theorem jw1865 : (Jvm.Cond.lays "SchoolBoardModel" "SchoolBoardModel" "pupils" "I") ∈ jT := jm7 (List.mem_of_getElem? (i := 185) rfl)
set_option maxRecDepth 100000 in
theorem jw1867 : (Jvm.Cond.lays "SchoolBoardModel" "SchoolBoardModel" "covers" "I") ∈ jT := jm7 (List.mem_of_getElem? (i := 187) rfl)
set_option maxRecDepth 100000 in
theorem jw1869 : (Jvm.Cond.lays "SchoolBoardModel" "SchoolBoardModel" "all" "I") ∈ jT := jm7 (List.mem_of_getElem? (i := 189) rfl)
set_option maxRecDepth 100000 in
theorem jw1871 : (Jvm.Cond.lays "SchoolBoardModel" "SchoolBoardModel" "teachers" "I") ∈ jT := jm7 (List.mem_of_getElem? (i := 191) rfl)
set_option maxRecDepth 100000 in
theorem jw1873 : (Jvm.Cond.laysFinal "SchoolBoardModel" "SchoolBoardModel" "teacherAt" "[I") ∈ jT := jm7 (List.mem_of_getElem? (i := 193) rfl)
set_option maxRecDepth 100000 in
theorem jw1875 : (Jvm.Cond.laysFinal "SchoolBoardModel" "SchoolBoardModel" "teacherFrom" "[I") ∈ jT := jm7 (List.mem_of_getElem? (i := 195) rfl)
set_option maxRecDepth 100000 in
theorem jw1877 : (Jvm.Cond.laysFinal "SchoolBoardModel" "SchoolBoardModel" "proofs" "[I") ∈ jT := jm7 (List.mem_of_getElem? (i := 197) rfl)
set_option maxRecDepth 100000 in
theorem jw1879 : (Jvm.Cond.laysFinal "SchoolBoardModel" "SchoolBoardModel" "rows" "[I") ∈ jT := jm7 (List.mem_of_getElem? (i := 199) rfl)
set_option maxRecDepth 100000 in
theorem jw1881 : (Jvm.Cond.laysFinal "SchoolBoardModel" "SchoolBoardModel" "worth" "[I") ∈ jT := jm7 (List.mem_of_getElem? (i := 201) rfl)
set_option maxRecDepth 100000 in
theorem jw1883 : (Jvm.Cond.laysFinal "SchoolBoardModel" "SchoolBoardModel" "hoursOf" "[I") ∈ jT := jm7 (List.mem_of_getElem? (i := 203) rfl)
set_option maxRecDepth 100000 in
theorem jw1885 : (Jvm.Cond.laysFinal "SchoolBoardModel" "SchoolBoardModel" "mostFrom" "[I") ∈ jT := jm7 (List.mem_of_getElem? (i := 205) rfl)
set_option maxRecDepth 100000 in
theorem jw1887 : (Jvm.Cond.laysFinal "SchoolBoardModel" "SchoolBoardModel" "sets" "[I") ∈ jT := jm7 (List.mem_of_getElem? (i := 207) rfl)
set_option maxRecDepth 100000 in
theorem jw1889 : (Jvm.Cond.lays "SchoolBoardModel" "SchoolBoardModel" "rowMany" "I") ∈ jT := jm7 (List.mem_of_getElem? (i := 209) rfl)
set_option maxRecDepth 100000 in
theorem jw1891 : (Jvm.Cond.lays "SchoolBoardModel" "SchoolBoardModel" "entered" "I") ∈ jT := jm7 (List.mem_of_getElem? (i := 211) rfl)
set_option maxRecDepth 100000 in
theorem jw1893 : (Jvm.Cond.lays "SchoolBoardModel" "SchoolBoardModel" "hoursTaken" "I") ∈ jT := jm7 (List.mem_of_getElem? (i := 213) rfl)
set_option maxRecDepth 100000 in
theorem jw1895 : (Jvm.Cond.laysFinal "SchoolBoardModel" "SchoolBoardModel" "lacks" "[I") ∈ jT := jm7 (List.mem_of_getElem? (i := 215) rfl)
set_option maxRecDepth 100000 in
theorem jw1897 : (Jvm.Cond.laysFinal "SchoolBoardModel" "SchoolBoardModel" "livesAt" "[I") ∈ jT := jm7 (List.mem_of_getElem? (i := 217) rfl)
set_option maxRecDepth 100000 in
theorem jw1899 : (Jvm.Cond.lays "SchoolBoardModel" "SchoolBoardModel" "sites" "I") ∈ jT := jm7 (List.mem_of_getElem? (i := 219) rfl)
set_option maxRecDepth 100000 in
theorem jw1901 : (Jvm.Cond.laysFinal "SchoolBoardModel" "SchoolBoardModel" "siteX" "[I") ∈ jT := jm7 (List.mem_of_getElem? (i := 221) rfl)
set_option maxRecDepth 100000 in
theorem jw1903 : (Jvm.Cond.laysFinal "SchoolBoardModel" "SchoolBoardModel" "siteY" "[I") ∈ jT := jm7 (List.mem_of_getElem? (i := 223) rfl)
set_option maxRecDepth 100000 in
theorem jw1905 : (Jvm.Cond.lays "SchoolBoardModel" "SchoolBoardModel" "seats" "I") ∈ jT := jm7 (List.mem_of_getElem? (i := 225) rfl)
set_option maxRecDepth 100000 in
theorem jw1907 : (Jvm.Cond.lays "SchoolBoardModel" "SchoolBoardModel" "candidates" "I") ∈ jT := jm7 (List.mem_of_getElem? (i := 227) rfl)
set_option maxRecDepth 100000 in
theorem jw1909 : (Jvm.Cond.lays "SchoolBoardModel" "SchoolBoardModel" "ballots" "I") ∈ jT := jm7 (List.mem_of_getElem? (i := 229) rfl)
set_option maxRecDepth 100000 in
theorem jw1911 : (Jvm.Cond.laysFinal "SchoolBoardModel" "SchoolBoardModel" "party" "[I") ∈ jT := jm7 (List.mem_of_getElem? (i := 231) rfl)
set_option maxRecDepth 100000 in
theorem jw1913 : (Jvm.Cond.laysFinal "SchoolBoardModel" "SchoolBoardModel" "heaps" "[I") ∈ jT := jm7 (List.mem_of_getElem? (i := 233) rfl)
set_option maxRecDepth 100000 in
theorem jw1915 : (Jvm.Cond.laysFinal "SchoolBoardModel" "SchoolBoardModel" "votes" "[I") ∈ jT := jm7 (List.mem_of_getElem? (i := 235) rfl)
set_option maxRecDepth 100000 in
theorem jw1917 : (Jvm.Cond.lays "SchoolBoardModel" "SchoolBoardModel" "houses" "I") ∈ jT := jm7 (List.mem_of_getElem? (i := 237) rfl)
set_option maxRecDepth 100000 in
theorem jw1919 : (Jvm.Cond.laysFinal "SchoolBoardModel" "SchoolBoardModel" "value" "[I") ∈ jT := jm7 (List.mem_of_getElem? (i := 239) rfl)
set_option maxRecDepth 100000 in
theorem jw1921 : (Jvm.Cond.lays "SchoolBoardModel" "SchoolBoardModel" "acts" "I") ∈ jT := jm8 (List.mem_of_getElem? (i := 1) rfl)
set_option maxRecDepth 100000 in
theorem jw1923 : (Jvm.Cond.lays "SchoolBoardModel" "SchoolBoardModel" "nodes" "I") ∈ jT := jm8 (List.mem_of_getElem? (i := 3) rfl)
set_option maxRecDepth 100000 in
theorem jw1925 : (Jvm.Cond.lays "SchoolBoardModel" "SchoolBoardModel" "taped" "I") ∈ jT := jm8 (List.mem_of_getElem? (i := 5) rfl)
set_option maxRecDepth 100000 in
theorem jw1927 : (Jvm.Cond.lays "SchoolBoardModel" "SchoolBoardModel" "size" "I") ∈ jT := jm8 (List.mem_of_getElem? (i := 7) rfl)
set_option maxRecDepth 100000 in
theorem jw1929 : (Jvm.Cond.lays "SchoolBoardModel" "SchoolBoardModel" "at" "I") ∈ jT := jm8 (List.mem_of_getElem? (i := 9) rfl)
set_option maxRecDepth 100000 in
theorem jw1931 : (Jvm.Cond.lays "SchoolBoardModel" "SchoolBoardModel" "deep" "I") ∈ jT := jm8 (List.mem_of_getElem? (i := 11) rfl)
set_option maxRecDepth 100000 in
theorem jw1933 : (Jvm.Cond.lays "SchoolBoardModel" "SchoolBoardModel" "fault" "I") ∈ jT := jm8 (List.mem_of_getElem? (i := 13) rfl)
set_option maxRecDepth 100000 in
theorem jw1935 : (Jvm.Cond.laysFinal "SchoolBoardModel" "SchoolBoardModel" "statements" "[I") ∈ jT := jm8 (List.mem_of_getElem? (i := 15) rfl)
set_option maxRecDepth 100000 in
theorem jw1937 : (Jvm.Cond.laysFinal "SchoolBoardModel" "SchoolBoardModel" "fromYear" "[I") ∈ jT := jm8 (List.mem_of_getElem? (i := 17) rfl)
set_option maxRecDepth 100000 in
theorem jw1939 : (Jvm.Cond.laysFinal "SchoolBoardModel" "SchoolBoardModel" "clause" "[I") ∈ jT := jm8 (List.mem_of_getElem? (i := 19) rfl)
set_option maxRecDepth 100000 in
theorem jw1941 : (Jvm.Cond.laysFinal "SchoolBoardModel" "SchoolBoardModel" "body" "[I") ∈ jT := jm8 (List.mem_of_getElem? (i := 21) rfl)
set_option maxRecDepth 100000 in
theorem jw1943 : (Jvm.Cond.laysFinal "SchoolBoardModel" "SchoolBoardModel" "number" "[I") ∈ jT := jm8 (List.mem_of_getElem? (i := 23) rfl)
set_option maxRecDepth 100000 in
theorem jw1945 : (Jvm.Cond.laysFinal "SchoolBoardModel" "SchoolBoardModel" "second" "[I") ∈ jT := jm8 (List.mem_of_getElem? (i := 25) rfl)
set_option maxRecDepth 100000 in
theorem jw1947 : (Jvm.Cond.laysFinal "SchoolBoardModel" "SchoolBoardModel" "when" "[I") ∈ jT := jm8 (List.mem_of_getElem? (i := 27) rfl)
set_option maxRecDepth 100000 in
theorem jw1949 : (Jvm.Cond.laysFinal "SchoolBoardModel" "SchoolBoardModel" "nodeKind" "[I") ∈ jT := jm8 (List.mem_of_getElem? (i := 29) rfl)
set_option maxRecDepth 100000 in
theorem jw1951 : (Jvm.Cond.laysFinal "SchoolBoardModel" "SchoolBoardModel" "nodeFirst" "[I") ∈ jT := jm8 (List.mem_of_getElem? (i := 31) rfl)
set_option maxRecDepth 100000 in
theorem jw1953 : (Jvm.Cond.laysFinal "SchoolBoardModel" "SchoolBoardModel" "nodeNext" "[I") ∈ jT := jm8 (List.mem_of_getElem? (i := 33) rfl)
set_option maxRecDepth 100000 in
theorem jw1955 : (Jvm.Cond.laysFinal "SchoolBoardModel" "SchoolBoardModel" "nodeName" "[I") ∈ jT := jm8 (List.mem_of_getElem? (i := 35) rfl)
set_option maxRecDepth 100000 in
theorem jw1957 : (Jvm.Cond.laysFinal "SchoolBoardModel" "SchoolBoardModel" "nodeSign" "[I") ∈ jT := jm8 (List.mem_of_getElem? (i := 37) rfl)
set_option maxRecDepth 100000 in
theorem jw1959 : (Jvm.Cond.laysFinal "SchoolBoardModel" "SchoolBoardModel" "nodeNumber" "[I") ∈ jT := jm8 (List.mem_of_getElem? (i := 39) rfl)
set_option maxRecDepth 100000 in
theorem jw1961 : (Jvm.Cond.laysFinal "SchoolBoardModel" "SchoolBoardModel" "here" "[I") ∈ jT := jm8 (List.mem_of_getElem? (i := 41) rfl)
set_option maxRecDepth 100000 in
theorem jw1963 : (Jvm.Cond.laysFinal "SchoolBoardModel" "SchoolBoardModel" "codes" "[I") ∈ jT := jm8 (List.mem_of_getElem? (i := 43) rfl)
set_option maxRecDepth 100000 in
theorem jw1965 : (Jvm.Cond.lays "SchoolBoardModel" "SchoolBoardModel" "hasCodes" "Z") ∈ jT := jm8 (List.mem_of_getElem? (i := 45) rfl)
set_option maxRecDepth 100000 in
theorem jw1967 : (Jvm.Cond.laysFinal "SchoolBoardModel" "SchoolBoardModel" "tape" "[B") ∈ jT := jm8 (List.mem_of_getElem? (i := 47) rfl)
set_option maxRecDepth 100000 in
theorem jw1969 : (Jvm.Cond.laysFinal "SchoolBoardModel" "SchoolBoardModel" "text" "[B") ∈ jT := jm8 (List.mem_of_getElem? (i := 49) rfl)
set_option maxRecDepth 100000 in
theorem jw1971 : (Jvm.Cond.lays "SchoolBoardModel" "SchoolBoardModel" "read" "I") ∈ jT := jm8 (List.mem_of_getElem? (i := 51) rfl)
set_option maxRecDepth 100000 in
theorem jw1973 : (Jvm.Cond.laysFinal "SchoolBoardModel" "SchoolBoardModel" "written" "[B") ∈ jT := jm8 (List.mem_of_getElem? (i := 53) rfl)
set_option maxRecDepth 100000 in
theorem jw1975 : (Jvm.Cond.lays "SchoolBoardModel" "SchoolBoardModel" "writtenMany" "I") ∈ jT := jm8 (List.mem_of_getElem? (i := 55) rfl)
set_option maxRecDepth 100000 in
theorem jw1977 : (Jvm.Cond.lays "SchoolBoardModel" "SchoolBoardModel" "inWord" "Z") ∈ jT := jm8 (List.mem_of_getElem? (i := 57) rfl)
set_option maxRecDepth 100000 in
theorem jw1980 : (Jvm.Cond.methodLink "SchoolBoardLaw" (17 : Nat) ({ cls := "SchoolBoardModel", name := "day", desc := "(I)Z" } : Jvm.MethodName)) ∈ jT := jm8 (List.mem_of_getElem? (i := 60) rfl)
set_option maxRecDepth 100000 in
theorem jw1981 : (Jvm.Cond.instanceMethod ({ cls := "SchoolBoardModel", name := "day", desc := "(I)Z" } : Jvm.MethodName)) ∈ jT := jm8 (List.mem_of_getElem? (i := 61) rfl)
set_option maxRecDepth 100000 in
theorem jw1982 : (Jvm.Cond.selects "SchoolBoardModel" ({ cls := "SchoolBoardModel", name := "day", desc := "(I)Z" } : Jvm.MethodName) ({ cls := "SchoolBoardModel", name := "day", desc := "(I)Z" } : Jvm.MethodName)) ∈ jT := jm8 (List.mem_of_getElem? (i := 62) rfl)
set_option maxRecDepth 100000 in
theorem jw1983 : (Jvm.Cond.code ({ cls := "SchoolBoardModel", name := "day", desc := "(I)Z" } : Jvm.MethodName) prog_14_method_8_code (2 : Nat) (Option.some Jvm.ClassFile.FieldType.boolean)) ∈ jT := jm8 (List.mem_of_getElem? (i := 63) rfl)
set_option maxRecDepth 100000 in
theorem jw1984 : (Jvm.Cond.methodLink "SchoolBoardLaw" (22 : Nat) ({ cls := "SchoolBoardModel", name := "child", desc := "(III)I" } : Jvm.MethodName)) ∈ jT := jm8 (List.mem_of_getElem? (i := 64) rfl)
set_option maxRecDepth 100000 in
theorem jw1985 : (Jvm.Cond.instanceMethod ({ cls := "SchoolBoardModel", name := "child", desc := "(III)I" } : Jvm.MethodName)) ∈ jT := jm8 (List.mem_of_getElem? (i := 65) rfl)
set_option maxRecDepth 100000 in
theorem jw1986 : (Jvm.Cond.selects "SchoolBoardModel" ({ cls := "SchoolBoardModel", name := "child", desc := "(III)I" } : Jvm.MethodName) ({ cls := "SchoolBoardModel", name := "child", desc := "(III)I" } : Jvm.MethodName)) ∈ jT := jm8 (List.mem_of_getElem? (i := 66) rfl)
set_option maxRecDepth 100000 in
theorem jw1987 : (Jvm.Cond.code ({ cls := "SchoolBoardModel", name := "child", desc := "(III)I" } : Jvm.MethodName) prog_14_method_9_code (4 : Nat) (Option.some Jvm.ClassFile.FieldType.int)) ∈ jT := jm8 (List.mem_of_getElem? (i := 67) rfl)
set_option maxRecDepth 100000 in
theorem jw1988 : (Jvm.Cond.methodLink "SchoolBoardModel" (205 : Nat) ({ cls := "SchoolBoardModel", name := "isIn", desc := "(III)Z" } : Jvm.MethodName)) ∈ jT := jm8 (List.mem_of_getElem? (i := 68) rfl)
set_option maxRecDepth 100000 in
theorem jw1989 : (Jvm.Cond.static ({ cls := "SchoolBoardModel", name := "isIn", desc := "(III)Z" } : Jvm.MethodName)) ∈ jT := jm8 (List.mem_of_getElem? (i := 69) rfl)
set_option maxRecDepth 100000 in
theorem jw1990 : (Jvm.Cond.code ({ cls := "SchoolBoardModel", name := "isIn", desc := "(III)Z" } : Jvm.MethodName) prog_14_method_2_code (3 : Nat) (Option.some Jvm.ClassFile.FieldType.boolean)) ∈ jT := jm8 (List.mem_of_getElem? (i := 70) rfl)
set_option maxRecDepth 100000 in
theorem jw1991 : (Jvm.Cond.methodLink "SchoolBoardLaw" (26 : Nat) ({ cls := "SchoolBoardModel", name := "school", desc := "(III)I" } : Jvm.MethodName)) ∈ jT := jm8 (List.mem_of_getElem? (i := 71) rfl)
set_option maxRecDepth 100000 in
theorem jw1992 : (Jvm.Cond.instanceMethod ({ cls := "SchoolBoardModel", name := "school", desc := "(III)I" } : Jvm.MethodName)) ∈ jT := jm8 (List.mem_of_getElem? (i := 72) rfl)
set_option maxRecDepth 100000 in
theorem jw1993 : (Jvm.Cond.selects "SchoolBoardModel" ({ cls := "SchoolBoardModel", name := "school", desc := "(III)I" } : Jvm.MethodName) ({ cls := "SchoolBoardModel", name := "school", desc := "(III)I" } : Jvm.MethodName)) ∈ jT := jm8 (List.mem_of_getElem? (i := 73) rfl)
set_option maxRecDepth 100000 in
theorem jw1994 : (Jvm.Cond.code ({ cls := "SchoolBoardModel", name := "school", desc := "(III)I" } : Jvm.MethodName) prog_14_method_11_code (4 : Nat) (Option.some Jvm.ClassFile.FieldType.int)) ∈ jT := jm8 (List.mem_of_getElem? (i := 74) rfl)
set_option maxRecDepth 100000 in
theorem jw1995 : (Jvm.Cond.methodLink "SchoolBoardModel" (218 : Nat) ({ cls := "SchoolBoardModel", name := "isSpot", desc := "(II)Z" } : Jvm.MethodName)) ∈ jT := jm8 (List.mem_of_getElem? (i := 75) rfl)
set_option maxRecDepth 100000 in
theorem jw1996 : (Jvm.Cond.static ({ cls := "SchoolBoardModel", name := "isSpot", desc := "(II)Z" } : Jvm.MethodName)) ∈ jT := jm8 (List.mem_of_getElem? (i := 76) rfl)
set_option maxRecDepth 100000 in
theorem jw1997 : (Jvm.Cond.code ({ cls := "SchoolBoardModel", name := "isSpot", desc := "(II)Z" } : Jvm.MethodName) prog_14_method_10_code (2 : Nat) (Option.some Jvm.ClassFile.FieldType.boolean)) ∈ jT := jm8 (List.mem_of_getElem? (i := 77) rfl)
set_option maxRecDepth 100000 in
theorem jw1998 : (Jvm.Cond.methodLink "SchoolBoardLaw" (31 : Nat) ({ cls := "SchoolBoardModel", name := "street", desc := "(III)Z" } : Jvm.MethodName)) ∈ jT := jm8 (List.mem_of_getElem? (i := 78) rfl)
set_option maxRecDepth 100000 in
theorem jw1999 : (Jvm.Cond.instanceMethod ({ cls := "SchoolBoardModel", name := "street", desc := "(III)Z" } : Jvm.MethodName)) ∈ jT := jm8 (List.mem_of_getElem? (i := 79) rfl)
set_option maxRecDepth 100000 in
theorem jw2000 : (Jvm.Cond.selects "SchoolBoardModel" ({ cls := "SchoolBoardModel", name := "street", desc := "(III)Z" } : Jvm.MethodName) ({ cls := "SchoolBoardModel", name := "street", desc := "(III)Z" } : Jvm.MethodName)) ∈ jT := jm8 (List.mem_of_getElem? (i := 80) rfl)
set_option maxRecDepth 100000 in
theorem jw2001 : (Jvm.Cond.code ({ cls := "SchoolBoardModel", name := "street", desc := "(III)Z" } : Jvm.MethodName) prog_14_method_12_code (4 : Nat) (Option.some Jvm.ClassFile.FieldType.boolean)) ∈ jT := jm8 (List.mem_of_getElem? (i := 81) rfl)
set_option maxRecDepth 100000 in
theorem jw2002 : (Jvm.Cond.methodLink "SchoolBoardLaw" (36 : Nat) ({ cls := "SchoolBoardModel", name := "moves", desc := "(II)Z" } : Jvm.MethodName)) ∈ jT := jm8 (List.mem_of_getElem? (i := 82) rfl)
set_option maxRecDepth 100000 in
theorem jw2003 : (Jvm.Cond.instanceMethod ({ cls := "SchoolBoardModel", name := "moves", desc := "(II)Z" } : Jvm.MethodName)) ∈ jT := jm8 (List.mem_of_getElem? (i := 83) rfl)
set_option maxRecDepth 100000 in
theorem jw2004 : (Jvm.Cond.selects "SchoolBoardModel" ({ cls := "SchoolBoardModel", name := "moves", desc := "(II)Z" } : Jvm.MethodName) ({ cls := "SchoolBoardModel", name := "moves", desc := "(II)Z" } : Jvm.MethodName)) ∈ jT := jm8 (List.mem_of_getElem? (i := 84) rfl)
set_option maxRecDepth 100000 in
theorem jw2005 : (Jvm.Cond.code ({ cls := "SchoolBoardModel", name := "moves", desc := "(II)Z" } : Jvm.MethodName) prog_14_method_13_code (3 : Nat) (Option.some Jvm.ClassFile.FieldType.boolean)) ∈ jT := jm8 (List.mem_of_getElem? (i := 85) rfl)
set_option maxRecDepth 100000 in
theorem jw2006 : (Jvm.Cond.methodLink "SchoolBoardModel" (222 : Nat) ({ cls := "SchoolBoardModel", name := "isChild", desc := "(I)Z" } : Jvm.MethodName)) ∈ jT := jm8 (List.mem_of_getElem? (i := 86) rfl)
set_option maxRecDepth 100000 in
theorem jw2008 : (Jvm.Cond.instanceMethod ({ cls := "SchoolBoardModel", name := "isChild", desc := "(I)Z" } : Jvm.MethodName)) ∈ jT := jm8 (List.mem_of_getElem? (i := 88) rfl)
set_option maxRecDepth 100000 in
theorem jw2009 : (Jvm.Cond.code ({ cls := "SchoolBoardModel", name := "isChild", desc := "(I)Z" } : Jvm.MethodName) prog_14_method_6_code (2 : Nat) (Option.some Jvm.ClassFile.FieldType.boolean)) ∈ jT := jm8 (List.mem_of_getElem? (i := 89) rfl)
set_option maxRecDepth 100000 in
theorem jw2010 : (Jvm.Cond.methodLink "SchoolBoardLaw" (40 : Nat) ({ cls := "SchoolBoardModel", name := "enter", desc := "(III)I" } : Jvm.MethodName)) ∈ jT := jm8 (List.mem_of_getElem? (i := 90) rfl)
set_option maxRecDepth 100000 in
theorem jw2011 : (Jvm.Cond.instanceMethod ({ cls := "SchoolBoardModel", name := "enter", desc := "(III)I" } : Jvm.MethodName)) ∈ jT := jm8 (List.mem_of_getElem? (i := 91) rfl)
set_option maxRecDepth 100000 in
theorem jw2012 : (Jvm.Cond.selects "SchoolBoardModel" ({ cls := "SchoolBoardModel", name := "enter", desc := "(III)I" } : Jvm.MethodName) ({ cls := "SchoolBoardModel", name := "enter", desc := "(III)I" } : Jvm.MethodName)) ∈ jT := jm8 (List.mem_of_getElem? (i := 92) rfl)
set_option maxRecDepth 100000 in
theorem jw2013 : (Jvm.Cond.code ({ cls := "SchoolBoardModel", name := "enter", desc := "(III)I" } : Jvm.MethodName) prog_14_method_16_code (7 : Nat) (Option.some Jvm.ClassFile.FieldType.int)) ∈ jT := jm8 (List.mem_of_getElem? (i := 93) rfl)
set_option maxRecDepth 100000 in
theorem jw2014 : (Jvm.Cond.methodLink "SchoolBoardModel" (229 : Nat) ({ cls := "SchoolBoardModel", name := "isSchool", desc := "(I)Z" } : Jvm.MethodName)) ∈ jT := jm8 (List.mem_of_getElem? (i := 94) rfl)
set_option maxRecDepth 100000 in
theorem jw2016 : (Jvm.Cond.instanceMethod ({ cls := "SchoolBoardModel", name := "isSchool", desc := "(I)Z" } : Jvm.MethodName)) ∈ jT := jm8 (List.mem_of_getElem? (i := 96) rfl)
set_option maxRecDepth 100000 in
theorem jw2017 : (Jvm.Cond.code ({ cls := "SchoolBoardModel", name := "isSchool", desc := "(I)Z" } : Jvm.MethodName) prog_14_method_7_code (2 : Nat) (Option.some Jvm.ClassFile.FieldType.boolean)) ∈ jT := jm8 (List.mem_of_getElem? (i := 97) rfl)
set_option maxRecDepth 100000 in
theorem jw2018 : (Jvm.Cond.methodLink "SchoolBoardModel" (232 : Nat) ({ cls := "SchoolBoardModel", name := "holdsIn", desc := "(II)I" } : Jvm.MethodName)) ∈ jT := jm8 (List.mem_of_getElem? (i := 98) rfl)
set_option maxRecDepth 100000 in
theorem jw2020 : (Jvm.Cond.instanceMethod ({ cls := "SchoolBoardModel", name := "holdsIn", desc := "(II)I" } : Jvm.MethodName)) ∈ jT := jm8 (List.mem_of_getElem? (i := 100) rfl)
set_option maxRecDepth 100000 in
theorem jw2021 : (Jvm.Cond.code ({ cls := "SchoolBoardModel", name := "holdsIn", desc := "(II)I" } : Jvm.MethodName) prog_14_method_56_code (5 : Nat) (Option.some Jvm.ClassFile.FieldType.int)) ∈ jT := jm8 (List.mem_of_getElem? (i := 101) rfl)
set_option maxRecDepth 100000 in
theorem jw2022 : (Jvm.Cond.methodLink "SchoolBoardModel" (337 : Nat) ({ cls := "SchoolBoardModel", name := "least", desc := "(II)I" } : Jvm.MethodName)) ∈ jT := jm8 (List.mem_of_getElem? (i := 102) rfl)
set_option maxRecDepth 100000 in
theorem jw2024 : (Jvm.Cond.instanceMethod ({ cls := "SchoolBoardModel", name := "least", desc := "(II)I" } : Jvm.MethodName)) ∈ jT := jm8 (List.mem_of_getElem? (i := 104) rfl)
set_option maxRecDepth 100000 in
theorem jw2025 : (Jvm.Cond.code ({ cls := "SchoolBoardModel", name := "least", desc := "(II)I" } : Jvm.MethodName) prog_14_method_111_code (3 : Nat) (Option.some Jvm.ClassFile.FieldType.int)) ∈ jT := jm8 (List.mem_of_getElem? (i := 105) rfl)
set_option maxRecDepth 100000 in
theorem jw2026 : (Jvm.Cond.methodLink "SchoolBoardModel" (259 : Nat) ({ cls := "SchoolBoardModel", name := "first", desc := "(III)I" } : Jvm.MethodName)) ∈ jT := jm8 (List.mem_of_getElem? (i := 106) rfl)
set_option maxRecDepth 100000 in
theorem jw2028 : (Jvm.Cond.instanceMethod ({ cls := "SchoolBoardModel", name := "first", desc := "(III)I" } : Jvm.MethodName)) ∈ jT := jm8 (List.mem_of_getElem? (i := 108) rfl)
set_option maxRecDepth 100000 in
theorem jw2029 : (Jvm.Cond.code ({ cls := "SchoolBoardModel", name := "first", desc := "(III)I" } : Jvm.MethodName) prog_14_method_110_code (6 : Nat) (Option.some Jvm.ClassFile.FieldType.int)) ∈ jT := jm8 (List.mem_of_getElem? (i := 109) rfl)
set_option maxRecDepth 100000 in
theorem jw2030 : (Jvm.Cond.methodLink "SchoolBoardModel" (282 : Nat) ({ cls := "SchoolBoardModel", name := "statementAt", desc := "(II)I" } : Jvm.MethodName)) ∈ jT := jm8 (List.mem_of_getElem? (i := 110) rfl)
set_option maxRecDepth 100000 in
theorem jw2032 : (Jvm.Cond.instanceMethod ({ cls := "SchoolBoardModel", name := "statementAt", desc := "(II)I" } : Jvm.MethodName)) ∈ jT := jm8 (List.mem_of_getElem? (i := 112) rfl)
set_option maxRecDepth 100000 in
theorem jw2033 : (Jvm.Cond.code ({ cls := "SchoolBoardModel", name := "statementAt", desc := "(II)I" } : Jvm.MethodName) prog_14_method_109_code (3 : Nat) (Option.some Jvm.ClassFile.FieldType.int)) ∈ jT := jm8 (List.mem_of_getElem? (i := 113) rfl)
set_option maxRecDepth 100000 in
theorem jw2034 : (Jvm.Cond.methodLink "SchoolBoardModel" (604 : Nat) ({ cls := "SchoolBoardModel", name := "codes", desc := "()V" } : Jvm.MethodName)) ∈ jT := jm8 (List.mem_of_getElem? (i := 114) rfl)
set_option maxRecDepth 100000 in
theorem jw2036 : (Jvm.Cond.instanceMethod ({ cls := "SchoolBoardModel", name := "codes", desc := "()V" } : Jvm.MethodName)) ∈ jT := jm8 (List.mem_of_getElem? (i := 116) rfl)
set_option maxRecDepth 100000 in
theorem jw2037 : (Jvm.Cond.code ({ cls := "SchoolBoardModel", name := "codes", desc := "()V" } : Jvm.MethodName) prog_14_method_108_code (5 : Nat) (Option.none : Option Jvm.ClassFile.FieldType)) ∈ jT := jm8 (List.mem_of_getElem? (i := 117) rfl)
set_option maxRecDepth 100000 in
theorem jw2038 : (Jvm.Cond.methodLink "SchoolBoardModel" (285 : Nat) ({ cls := "SchoolBoardModel", name := "holds", desc := "(I)Z" } : Jvm.MethodName)) ∈ jT := jm8 (List.mem_of_getElem? (i := 118) rfl)
set_option maxRecDepth 100000 in
theorem jw2040 : (Jvm.Cond.instanceMethod ({ cls := "SchoolBoardModel", name := "holds", desc := "(I)Z" } : Jvm.MethodName)) ∈ jT := jm8 (List.mem_of_getElem? (i := 120) rfl)
set_option maxRecDepth 100000 in
theorem jw2041 : (Jvm.Cond.code ({ cls := "SchoolBoardModel", name := "holds", desc := "(I)Z" } : Jvm.MethodName) prog_14_method_112_code (2 : Nat) (Option.some Jvm.ClassFile.FieldType.boolean)) ∈ jT := jm8 (List.mem_of_getElem? (i := 121) rfl)
set_option maxRecDepth 100000 in
theorem jw2042 : (Jvm.Cond.methodLink "SchoolBoardModel" (606 : Nat) ({ cls := "SchoolBoardModel", name := "isTrue", desc := "(I)Z" } : Jvm.MethodName)) ∈ jT := jm8 (List.mem_of_getElem? (i := 122) rfl)
set_option maxRecDepth 100000 in
theorem jw2044 : (Jvm.Cond.instanceMethod ({ cls := "SchoolBoardModel", name := "isTrue", desc := "(I)Z" } : Jvm.MethodName)) ∈ jT := jm8 (List.mem_of_getElem? (i := 124) rfl)
set_option maxRecDepth 100000 in
theorem jw2045 : (Jvm.Cond.code ({ cls := "SchoolBoardModel", name := "isTrue", desc := "(I)Z" } : Jvm.MethodName) prog_14_method_113_code (3 : Nat) (Option.some Jvm.ClassFile.FieldType.boolean)) ∈ jT := jm8 (List.mem_of_getElem? (i := 125) rfl)
set_option maxRecDepth 100000 in
theorem jw2046 : (Jvm.Cond.methodLink "SchoolBoardModel" (236 : Nat) ({ cls := "SchoolBoardModel", name := "onOf", desc := "(III)I" } : Jvm.MethodName)) ∈ jT := jm8 (List.mem_of_getElem? (i := 126) rfl)
set_option maxRecDepth 100000 in
theorem jw2048 : (Jvm.Cond.instanceMethod ({ cls := "SchoolBoardModel", name := "onOf", desc := "(III)I" } : Jvm.MethodName)) ∈ jT := jm8 (List.mem_of_getElem? (i := 128) rfl)
set_option maxRecDepth 100000 in
theorem jw2049 : (Jvm.Cond.code ({ cls := "SchoolBoardModel", name := "onOf", desc := "(III)I" } : Jvm.MethodName) prog_14_method_23_code (7 : Nat) (Option.some Jvm.ClassFile.FieldType.int)) ∈ jT := jm8 (List.mem_of_getElem? (i := 129) rfl)
set_option maxRecDepth 100000 in
theorem jw2050 : (Jvm.Cond.methodLink "SchoolBoardModel" (265 : Nat) ({ cls := "SchoolBoardModel", name := "isKnown", desc := "(II)Z" } : Jvm.MethodName)) ∈ jT := jm8 (List.mem_of_getElem? (i := 130) rfl)
set_option maxRecDepth 100000 in
theorem jw2052 : (Jvm.Cond.instanceMethod ({ cls := "SchoolBoardModel", name := "isKnown", desc := "(II)Z" } : Jvm.MethodName)) ∈ jT := jm8 (List.mem_of_getElem? (i := 132) rfl)
set_option maxRecDepth 100000 in
theorem jw2053 : (Jvm.Cond.code ({ cls := "SchoolBoardModel", name := "isKnown", desc := "(II)Z" } : Jvm.MethodName) prog_14_method_15_code (3 : Nat) (Option.some Jvm.ClassFile.FieldType.boolean)) ∈ jT := jm8 (List.mem_of_getElem? (i := 133) rfl)
set_option maxRecDepth 100000 in
theorem jw2054 : (Jvm.Cond.methodLink "SchoolBoardModel" (240 : Nat) ({ cls := "SchoolBoardModel", name := "oneOf", desc := "(Z)I" } : Jvm.MethodName)) ∈ jT := jm8 (List.mem_of_getElem? (i := 134) rfl)
set_option maxRecDepth 100000 in
theorem jw2055 : (Jvm.Cond.static ({ cls := "SchoolBoardModel", name := "oneOf", desc := "(Z)I" } : Jvm.MethodName)) ∈ jT := jm8 (List.mem_of_getElem? (i := 135) rfl)
set_option maxRecDepth 100000 in
theorem jw2056 : (Jvm.Cond.code ({ cls := "SchoolBoardModel", name := "oneOf", desc := "(Z)I" } : Jvm.MethodName) prog_14_method_3_code (1 : Nat) (Option.some Jvm.ClassFile.FieldType.int)) ∈ jT := jm8 (List.mem_of_getElem? (i := 136) rfl)
set_option maxRecDepth 100000 in
theorem jw2057 : (Jvm.Cond.methodLink "SchoolBoardModel" (244 : Nat) ({ cls := "SchoolBoardModel", name := "notes", desc := "(IIIII)I" } : Jvm.MethodName)) ∈ jT := jm8 (List.mem_of_getElem? (i := 137) rfl)
set_option maxRecDepth 100000 in
theorem jw2059 : (Jvm.Cond.instanceMethod ({ cls := "SchoolBoardModel", name := "notes", desc := "(IIIII)I" } : Jvm.MethodName)) ∈ jT := jm8 (List.mem_of_getElem? (i := 139) rfl)
set_option maxRecDepth 100000 in
theorem jw2060 : (Jvm.Cond.code ({ cls := "SchoolBoardModel", name := "notes", desc := "(IIIII)I" } : Jvm.MethodName) prog_14_method_14_code (6 : Nat) (Option.some Jvm.ClassFile.FieldType.int)) ∈ jT := jm8 (List.mem_of_getElem? (i := 140) rfl)
set_option maxRecDepth 100000 in
theorem jw2061 : (Jvm.Cond.methodLink "SchoolBoardLaw" (44 : Nat) ({ cls := "SchoolBoardModel", name := "shut", desc := "(III)I" } : Jvm.MethodName)) ∈ jT := jm8 (List.mem_of_getElem? (i := 141) rfl)
set_option maxRecDepth 100000 in
theorem jw2062 : (Jvm.Cond.instanceMethod ({ cls := "SchoolBoardModel", name := "shut", desc := "(III)I" } : Jvm.MethodName)) ∈ jT := jm8 (List.mem_of_getElem? (i := 142) rfl)
set_option maxRecDepth 100000 in
theorem jw2063 : (Jvm.Cond.selects "SchoolBoardModel" ({ cls := "SchoolBoardModel", name := "shut", desc := "(III)I" } : Jvm.MethodName) ({ cls := "SchoolBoardModel", name := "shut", desc := "(III)I" } : Jvm.MethodName)) ∈ jT := jm8 (List.mem_of_getElem? (i := 143) rfl)
set_option maxRecDepth 100000 in
theorem jw2064 : (Jvm.Cond.code ({ cls := "SchoolBoardModel", name := "shut", desc := "(III)I" } : Jvm.MethodName) prog_14_method_17_code (4 : Nat) (Option.some Jvm.ClassFile.FieldType.int)) ∈ jT := jm8 (List.mem_of_getElem? (i := 144) rfl)
set_option maxRecDepth 100000 in
theorem jw2065 : (Jvm.Cond.methodLink "SchoolBoardModel" (247 : Nat) ({ cls := "SchoolBoardModel", name := "isDay", desc := "(I)Z" } : Jvm.MethodName)) ∈ jT := jm8 (List.mem_of_getElem? (i := 145) rfl)
set_option maxRecDepth 100000 in
theorem jw2066 : (Jvm.Cond.static ({ cls := "SchoolBoardModel", name := "isDay", desc := "(I)Z" } : Jvm.MethodName)) ∈ jT := jm8 (List.mem_of_getElem? (i := 146) rfl)
set_option maxRecDepth 100000 in
theorem jw2067 : (Jvm.Cond.code ({ cls := "SchoolBoardModel", name := "isDay", desc := "(I)Z" } : Jvm.MethodName) prog_14_method_4_code (1 : Nat) (Option.some Jvm.ClassFile.FieldType.boolean)) ∈ jT := jm8 (List.mem_of_getElem? (i := 147) rfl)
set_option maxRecDepth 100000 in
theorem jw2068 : (Jvm.Cond.methodLink "SchoolBoardLaw" (49 : Nat) ({ cls := "SchoolBoardModel", name := "mark", desc := "(IIIIII)I" } : Jvm.MethodName)) ∈ jT := jm8 (List.mem_of_getElem? (i := 148) rfl)
set_option maxRecDepth 100000 in
theorem jw2069 : (Jvm.Cond.instanceMethod ({ cls := "SchoolBoardModel", name := "mark", desc := "(IIIIII)I" } : Jvm.MethodName)) ∈ jT := jm8 (List.mem_of_getElem? (i := 149) rfl)
set_option maxRecDepth 100000 in
theorem jw2070 : (Jvm.Cond.selects "SchoolBoardModel" ({ cls := "SchoolBoardModel", name := "mark", desc := "(IIIIII)I" } : Jvm.MethodName) ({ cls := "SchoolBoardModel", name := "mark", desc := "(IIIIII)I" } : Jvm.MethodName)) ∈ jT := jm8 (List.mem_of_getElem? (i := 150) rfl)
set_option maxRecDepth 100000 in
theorem jw2071 : (Jvm.Cond.code ({ cls := "SchoolBoardModel", name := "mark", desc := "(IIIIII)I" } : Jvm.MethodName) prog_14_method_18_code (7 : Nat) (Option.some Jvm.ClassFile.FieldType.int)) ∈ jT := jm8 (List.mem_of_getElem? (i := 151) rfl)
set_option maxRecDepth 100000 in
theorem jw2072 : (Jvm.Cond.methodLink "SchoolBoardLaw" (54 : Nat) ({ cls := "SchoolBoardModel", name := "grantSpan", desc := "(IIIII)I" } : Jvm.MethodName)) ∈ jT := jm8 (List.mem_of_getElem? (i := 152) rfl)
set_option maxRecDepth 100000 in
theorem jw2073 : (Jvm.Cond.instanceMethod ({ cls := "SchoolBoardModel", name := "grantSpan", desc := "(IIIII)I" } : Jvm.MethodName)) ∈ jT := jm8 (List.mem_of_getElem? (i := 153) rfl)
set_option maxRecDepth 100000 in
theorem jw2074 : (Jvm.Cond.selects "SchoolBoardModel" ({ cls := "SchoolBoardModel", name := "grantSpan", desc := "(IIIII)I" } : Jvm.MethodName) ({ cls := "SchoolBoardModel", name := "grantSpan", desc := "(IIIII)I" } : Jvm.MethodName)) ∈ jT := jm8 (List.mem_of_getElem? (i := 154) rfl)
set_option maxRecDepth 100000 in
theorem jw2075 : (Jvm.Cond.code ({ cls := "SchoolBoardModel", name := "grantSpan", desc := "(IIIII)I" } : Jvm.MethodName) prog_14_method_19_code (7 : Nat) (Option.some Jvm.ClassFile.FieldType.int)) ∈ jT := jm8 (List.mem_of_getElem? (i := 155) rfl)
set_option maxRecDepth 100000 in
theorem jw2076 : (Jvm.Cond.methodLink "SchoolBoardModel" (250 : Nat) ({ cls := "SchoolBoardModel", name := "standardOf", desc := "(III)I" } : Jvm.MethodName)) ∈ jT := jm8 (List.mem_of_getElem? (i := 156) rfl)
set_option maxRecDepth 100000 in
theorem jw2078 : (Jvm.Cond.instanceMethod ({ cls := "SchoolBoardModel", name := "standardOf", desc := "(III)I" } : Jvm.MethodName)) ∈ jT := jm8 (List.mem_of_getElem? (i := 158) rfl)
set_option maxRecDepth 100000 in
theorem jw2079 : (Jvm.Cond.code ({ cls := "SchoolBoardModel", name := "standardOf", desc := "(III)I" } : Jvm.MethodName) prog_14_method_43_code (8 : Nat) (Option.some Jvm.ClassFile.FieldType.int)) ∈ jT := jm8 (List.mem_of_getElem? (i := 159) rfl)
set_option maxRecDepth 100000 in
theorem jw2080 : (Jvm.Cond.methodLink "SchoolBoardModel" (324 : Nat) ({ cls := "SchoolBoardModel", name := "passesOf", desc := "(IIIII)I" } : Jvm.MethodName)) ∈ jT := jm8 (List.mem_of_getElem? (i := 160) rfl)
set_option maxRecDepth 100000 in
theorem jw2082 : (Jvm.Cond.instanceMethod ({ cls := "SchoolBoardModel", name := "passesOf", desc := "(IIIII)I" } : Jvm.MethodName)) ∈ jT := jm8 (List.mem_of_getElem? (i := 162) rfl)
set_option maxRecDepth 100000 in
theorem jw2083 : (Jvm.Cond.code ({ cls := "SchoolBoardModel", name := "passesOf", desc := "(IIIII)I" } : Jvm.MethodName) prog_14_method_41_code (9 : Nat) (Option.some Jvm.ClassFile.FieldType.int)) ∈ jT := jm8 (List.mem_of_getElem? (i := 163) rfl)
set_option maxRecDepth 100000 in
theorem jw2084 : (Jvm.Cond.methodLink "SchoolBoardModel" (314 : Nat) ({ cls := "SchoolBoardModel", name := "lastDay", desc := "(IIII)V" } : Jvm.MethodName)) ∈ jT := jm8 (List.mem_of_getElem? (i := 164) rfl)
set_option maxRecDepth 100000 in
theorem jw2086 : (Jvm.Cond.instanceMethod ({ cls := "SchoolBoardModel", name := "lastDay", desc := "(IIII)V" } : Jvm.MethodName)) ∈ jT := jm8 (List.mem_of_getElem? (i := 166) rfl)
set_option maxRecDepth 100000 in
theorem jw2087 : (Jvm.Cond.code ({ cls := "SchoolBoardModel", name := "lastDay", desc := "(IIII)V" } : Jvm.MethodName) prog_14_method_39_code (6 : Nat) (Option.none : Option Jvm.ClassFile.FieldType)) ∈ jT := jm8 (List.mem_of_getElem? (i := 167) rfl)
set_option maxRecDepth 100000 in
theorem jw2088 : (Jvm.Cond.methodLink "SchoolBoardModel" (253 : Nat) ({ cls := "SchoolBoardModel", name := "nothing", desc := "()V" } : Jvm.MethodName)) ∈ jT := jm8 (List.mem_of_getElem? (i := 168) rfl)
set_option maxRecDepth 100000 in
theorem jw2090 : (Jvm.Cond.instanceMethod ({ cls := "SchoolBoardModel", name := "nothing", desc := "()V" } : Jvm.MethodName)) ∈ jT := jm8 (List.mem_of_getElem? (i := 170) rfl)
set_option maxRecDepth 100000 in
theorem jw2091 : (Jvm.Cond.code ({ cls := "SchoolBoardModel", name := "nothing", desc := "()V" } : Jvm.MethodName) prog_14_method_86_code (2 : Nat) (Option.none : Option Jvm.ClassFile.FieldType)) ∈ jT := jm8 (List.mem_of_getElem? (i := 171) rfl)
set_option maxRecDepth 100000 in
theorem jw2092 : (Jvm.Cond.methodLink "SchoolBoardModel" (256 : Nat) ({ cls := "SchoolBoardModel", name := "ageOn", desc := "(II)I" } : Jvm.MethodName)) ∈ jT := jm8 (List.mem_of_getElem? (i := 172) rfl)
set_option maxRecDepth 100000 in
theorem jw2094 : (Jvm.Cond.instanceMethod ({ cls := "SchoolBoardModel", name := "ageOn", desc := "(II)I" } : Jvm.MethodName)) ∈ jT := jm8 (List.mem_of_getElem? (i := 174) rfl)
set_option maxRecDepth 100000 in
theorem jw2095 : (Jvm.Cond.code ({ cls := "SchoolBoardModel", name := "ageOn", desc := "(II)I" } : Jvm.MethodName) prog_14_method_28_code (3 : Nat) (Option.some Jvm.ClassFile.FieldType.int)) ∈ jT := jm8 (List.mem_of_getElem? (i := 175) rfl)
set_option maxRecDepth 100000 in
theorem jw2096 : (Jvm.Cond.methodLink "SchoolBoardModel" (268 : Nat) ({ cls := "java/lang/Math", name := "max", desc := "(II)I" } : Jvm.MethodName)) ∈ jT := jm8 (List.mem_of_getElem? (i := 176) rfl)
set_option maxRecDepth 100000 in
theorem jw2097 : (Jvm.Cond.methodLink "SchoolBoardModel" (310 : Nat) ({ cls := "SchoolBoardModel", name := "has", desc := "(IIII)Z" } : Jvm.MethodName)) ∈ jT := jm8 (List.mem_of_getElem? (i := 177) rfl)
set_option maxRecDepth 100000 in
theorem jw2099 : (Jvm.Cond.instanceMethod ({ cls := "SchoolBoardModel", name := "has", desc := "(IIII)Z" } : Jvm.MethodName)) ∈ jT := jm8 (List.mem_of_getElem? (i := 179) rfl)
set_option maxRecDepth 100000 in
theorem jw2100 : (Jvm.Cond.code ({ cls := "SchoolBoardModel", name := "has", desc := "(IIII)Z" } : Jvm.MethodName) prog_14_method_26_code (7 : Nat) (Option.some Jvm.ClassFile.FieldType.boolean)) ∈ jT := jm8 (List.mem_of_getElem? (i := 180) rfl)
set_option maxRecDepth 100000 in
theorem jw2101 : (Jvm.Cond.methodLink "SchoolBoardModel" (318 : Nat) ({ cls := "SchoolBoardModel", name := "resultOf", desc := "(IIII)I" } : Jvm.MethodName)) ∈ jT := jm8 (List.mem_of_getElem? (i := 181) rfl)
set_option maxRecDepth 100000 in
theorem jw2103 : (Jvm.Cond.instanceMethod ({ cls := "SchoolBoardModel", name := "resultOf", desc := "(IIII)I" } : Jvm.MethodName)) ∈ jT := jm8 (List.mem_of_getElem? (i := 183) rfl)
set_option maxRecDepth 100000 in
theorem jw2104 : (Jvm.Cond.code ({ cls := "SchoolBoardModel", name := "resultOf", desc := "(IIII)I" } : Jvm.MethodName) prog_14_method_27_code (7 : Nat) (Option.some Jvm.ClassFile.FieldType.int)) ∈ jT := jm8 (List.mem_of_getElem? (i := 184) rfl)
set_option maxRecDepth 100000 in
theorem jw2105 : (Jvm.Cond.methodLink "SchoolBoardModel" (321 : Nat) ({ cls := "SchoolBoardModel", name := "wouldPass", desc := "(III)Z" } : Jvm.MethodName)) ∈ jT := jm8 (List.mem_of_getElem? (i := 185) rfl)
set_option maxRecDepth 100000 in
theorem jw2107 : (Jvm.Cond.instanceMethod ({ cls := "SchoolBoardModel", name := "wouldPass", desc := "(III)Z" } : Jvm.MethodName)) ∈ jT := jm8 (List.mem_of_getElem? (i := 187) rfl)
set_option maxRecDepth 100000 in
theorem jw2108 : (Jvm.Cond.code ({ cls := "SchoolBoardModel", name := "wouldPass", desc := "(III)Z" } : Jvm.MethodName) prog_14_method_40_code (5 : Nat) (Option.some Jvm.ClassFile.FieldType.boolean)) ∈ jT := jm8 (List.mem_of_getElem? (i := 188) rfl)
set_option maxRecDepth 100000 in
theorem jw2109 : (Jvm.Cond.methodLink "SchoolBoardModel" (327 : Nat) ({ cls := "SchoolBoardModel", name := "bits", desc := "(I)I" } : Jvm.MethodName)) ∈ jT := jm8 (List.mem_of_getElem? (i := 189) rfl)
set_option maxRecDepth 100000 in
theorem jw2110 : (Jvm.Cond.static ({ cls := "SchoolBoardModel", name := "bits", desc := "(I)I" } : Jvm.MethodName)) ∈ jT := jm8 (List.mem_of_getElem? (i := 190) rfl)
set_option maxRecDepth 100000 in
theorem jw2111 : (Jvm.Cond.code ({ cls := "SchoolBoardModel", name := "bits", desc := "(I)I" } : Jvm.MethodName) prog_14_method_42_code (3 : Nat) (Option.some Jvm.ClassFile.FieldType.int)) ∈ jT := jm8 (List.mem_of_getElem? (i := 191) rfl)
set_option maxRecDepth 100000 in
theorem jw2112 : (Jvm.Cond.methodLink "SchoolBoardModel" (276 : Nat) ({ cls := "java/lang/Math", name := "min", desc := "(II)I" } : Jvm.MethodName)) ∈ jT := jm8 (List.mem_of_getElem? (i := 192) rfl)
set_option maxRecDepth 100000 in
theorem jw2113 : (Jvm.Cond.methodLink "SchoolBoardLaw" (59 : Nat) ({ cls := "SchoolBoardModel", name := "result", desc := "(IIII)I" } : Jvm.MethodName)) ∈ jT := jm8 (List.mem_of_getElem? (i := 193) rfl)
set_option maxRecDepth 100000 in
theorem jw2114 : (Jvm.Cond.instanceMethod ({ cls := "SchoolBoardModel", name := "result", desc := "(IIII)I" } : Jvm.MethodName)) ∈ jT := jm8 (List.mem_of_getElem? (i := 194) rfl)
set_option maxRecDepth 100000 in
theorem jw2115 : (Jvm.Cond.selects "SchoolBoardModel" ({ cls := "SchoolBoardModel", name := "result", desc := "(IIII)I" } : Jvm.MethodName) ({ cls := "SchoolBoardModel", name := "result", desc := "(IIII)I" } : Jvm.MethodName)) ∈ jT := jm8 (List.mem_of_getElem? (i := 195) rfl)
set_option maxRecDepth 100000 in
theorem jw2116 : (Jvm.Cond.code ({ cls := "SchoolBoardModel", name := "result", desc := "(IIII)I" } : Jvm.MethodName) prog_14_method_20_code (5 : Nat) (Option.some Jvm.ClassFile.FieldType.int)) ∈ jT := jm8 (List.mem_of_getElem? (i := 196) rfl)
set_option maxRecDepth 100000 in
theorem jw2117 : (Jvm.Cond.methodLink "SchoolBoardLaw" (63 : Nat) ({ cls := "SchoolBoardModel", name := "undo", desc := "(I)Z" } : Jvm.MethodName)) ∈ jT := jm8 (List.mem_of_getElem? (i := 197) rfl)
set_option maxRecDepth 100000 in
theorem jw2118 : (Jvm.Cond.instanceMethod ({ cls := "SchoolBoardModel", name := "undo", desc := "(I)Z" } : Jvm.MethodName)) ∈ jT := jm8 (List.mem_of_getElem? (i := 198) rfl)
set_option maxRecDepth 100000 in
theorem jw2119 : (Jvm.Cond.selects "SchoolBoardModel" ({ cls := "SchoolBoardModel", name := "undo", desc := "(I)Z" } : Jvm.MethodName) ({ cls := "SchoolBoardModel", name := "undo", desc := "(I)Z" } : Jvm.MethodName)) ∈ jT := jm8 (List.mem_of_getElem? (i := 199) rfl)
set_option maxRecDepth 100000 in
theorem jw2120 : (Jvm.Cond.code ({ cls := "SchoolBoardModel", name := "undo", desc := "(I)Z" } : Jvm.MethodName) prog_14_method_21_code (2 : Nat) (Option.some Jvm.ClassFile.FieldType.boolean)) ∈ jT := jm8 (List.mem_of_getElem? (i := 200) rfl)
set_option maxRecDepth 100000 in
theorem jw2121 : (Jvm.Cond.methodLink "SchoolBoardLaw" (68 : Nat) ({ cls := "SchoolBoardModel", name := "book", desc := "(II)I" } : Jvm.MethodName)) ∈ jT := jm8 (List.mem_of_getElem? (i := 201) rfl)
set_option maxRecDepth 100000 in
theorem jw2122 : (Jvm.Cond.instanceMethod ({ cls := "SchoolBoardModel", name := "book", desc := "(II)I" } : Jvm.MethodName)) ∈ jT := jm8 (List.mem_of_getElem? (i := 202) rfl)
set_option maxRecDepth 100000 in
theorem jw2123 : (Jvm.Cond.selects "SchoolBoardModel" ({ cls := "SchoolBoardModel", name := "book", desc := "(II)I" } : Jvm.MethodName) ({ cls := "SchoolBoardModel", name := "book", desc := "(II)I" } : Jvm.MethodName)) ∈ jT := jm8 (List.mem_of_getElem? (i := 203) rfl)
set_option maxRecDepth 100000 in
theorem jw2124 : (Jvm.Cond.code ({ cls := "SchoolBoardModel", name := "book", desc := "(II)I" } : Jvm.MethodName) prog_14_method_22_code (3 : Nat) (Option.some Jvm.ClassFile.FieldType.int)) ∈ jT := jm8 (List.mem_of_getElem? (i := 204) rfl)
set_option maxRecDepth 100000 in
theorem jw2125 : (Jvm.Cond.methodLink "SchoolBoardLaw" (72 : Nat) ({ cls := "SchoolBoardModel", name := "on", desc := "(III)I" } : Jvm.MethodName)) ∈ jT := jm8 (List.mem_of_getElem? (i := 205) rfl)
set_option maxRecDepth 100000 in
theorem jw2126 : (Jvm.Cond.instanceMethod ({ cls := "SchoolBoardModel", name := "on", desc := "(III)I" } : Jvm.MethodName)) ∈ jT := jm8 (List.mem_of_getElem? (i := 206) rfl)
set_option maxRecDepth 100000 in
theorem jw2127 : (Jvm.Cond.selects "SchoolBoardModel" ({ cls := "SchoolBoardModel", name := "on", desc := "(III)I" } : Jvm.MethodName) ({ cls := "SchoolBoardModel", name := "on", desc := "(III)I" } : Jvm.MethodName)) ∈ jT := jm8 (List.mem_of_getElem? (i := 207) rfl)
set_option maxRecDepth 100000 in
theorem jw2128 : (Jvm.Cond.code ({ cls := "SchoolBoardModel", name := "on", desc := "(III)I" } : Jvm.MethodName) prog_14_method_29_code (4 : Nat) (Option.some Jvm.ClassFile.FieldType.int)) ∈ jT := jm8 (List.mem_of_getElem? (i := 208) rfl)
set_option maxRecDepth 100000 in
theorem jw2129 : (Jvm.Cond.methodLink "SchoolBoardLaw" (76 : Nat) ({ cls := "SchoolBoardModel", name := "marked", desc := "(IIII)I" } : Jvm.MethodName)) ∈ jT := jm8 (List.mem_of_getElem? (i := 209) rfl)
set_option maxRecDepth 100000 in
theorem jw2130 : (Jvm.Cond.instanceMethod ({ cls := "SchoolBoardModel", name := "marked", desc := "(IIII)I" } : Jvm.MethodName)) ∈ jT := jm8 (List.mem_of_getElem? (i := 210) rfl)
set_option maxRecDepth 100000 in
theorem jw2131 : (Jvm.Cond.selects "SchoolBoardModel" ({ cls := "SchoolBoardModel", name := "marked", desc := "(IIII)I" } : Jvm.MethodName) ({ cls := "SchoolBoardModel", name := "marked", desc := "(IIII)I" } : Jvm.MethodName)) ∈ jT := jm8 (List.mem_of_getElem? (i := 211) rfl)
set_option maxRecDepth 100000 in
theorem jw2132 : (Jvm.Cond.code ({ cls := "SchoolBoardModel", name := "marked", desc := "(IIII)I" } : Jvm.MethodName) prog_14_method_30_code (5 : Nat) (Option.some Jvm.ClassFile.FieldType.int)) ∈ jT := jm8 (List.mem_of_getElem? (i := 212) rfl)
set_option maxRecDepth 100000 in
theorem jw2133 : (Jvm.Cond.methodLink "SchoolBoardModel" (273 : Nat) ({ cls := "SchoolBoardModel", name := "markOf", desc := "(III)I" } : Jvm.MethodName)) ∈ jT := jm8 (List.mem_of_getElem? (i := 213) rfl)
set_option maxRecDepth 100000 in
theorem jw2135 : (Jvm.Cond.instanceMethod ({ cls := "SchoolBoardModel", name := "markOf", desc := "(III)I" } : Jvm.MethodName)) ∈ jT := jm8 (List.mem_of_getElem? (i := 215) rfl)
set_option maxRecDepth 100000 in
theorem jw2136 : (Jvm.Cond.code ({ cls := "SchoolBoardModel", name := "markOf", desc := "(III)I" } : Jvm.MethodName) prog_14_method_25_code (6 : Nat) (Option.some Jvm.ClassFile.FieldType.int)) ∈ jT := jm8 (List.mem_of_getElem? (i := 216) rfl)
set_option maxRecDepth 100000 in
theorem jw2137 : (Jvm.Cond.methodLink "SchoolBoardLaw" (80 : Nat) ({ cls := "SchoolBoardModel", name := "quarters", desc := "(IIIII)I" } : Jvm.MethodName)) ∈ jT := jm8 (List.mem_of_getElem? (i := 217) rfl)
set_option maxRecDepth 100000 in
theorem jw2138 : (Jvm.Cond.instanceMethod ({ cls := "SchoolBoardModel", name := "quarters", desc := "(IIIII)I" } : Jvm.MethodName)) ∈ jT := jm8 (List.mem_of_getElem? (i := 218) rfl)
set_option maxRecDepth 100000 in
theorem jw2139 : (Jvm.Cond.selects "SchoolBoardModel" ({ cls := "SchoolBoardModel", name := "quarters", desc := "(IIIII)I" } : Jvm.MethodName) ({ cls := "SchoolBoardModel", name := "quarters", desc := "(IIIII)I" } : Jvm.MethodName)) ∈ jT := jm8 (List.mem_of_getElem? (i := 219) rfl)
set_option maxRecDepth 100000 in
theorem jw2140 : (Jvm.Cond.code ({ cls := "SchoolBoardModel", name := "quarters", desc := "(IIIII)I" } : Jvm.MethodName) prog_14_method_37_code (8 : Nat) (Option.some Jvm.ClassFile.FieldType.int)) ∈ jT := jm8 (List.mem_of_getElem? (i := 220) rfl)
set_option maxRecDepth 100000 in
theorem jw2141 : (Jvm.Cond.methodLink "SchoolBoardModel" (295 : Nat) ({ cls := "SchoolBoardModel", name := "isAsked", desc := "(III)Z" } : Jvm.MethodName)) ∈ jT := jm8 (List.mem_of_getElem? (i := 221) rfl)
set_option maxRecDepth 100000 in
theorem jw2142 : (Jvm.Cond.static ({ cls := "SchoolBoardModel", name := "isAsked", desc := "(III)Z" } : Jvm.MethodName)) ∈ jT := jm8 (List.mem_of_getElem? (i := 222) rfl)
set_option maxRecDepth 100000 in
theorem jw2143 : (Jvm.Cond.code ({ cls := "SchoolBoardModel", name := "isAsked", desc := "(III)Z" } : Jvm.MethodName) prog_14_method_36_code (3 : Nat) (Option.some Jvm.ClassFile.FieldType.boolean)) ∈ jT := jm8 (List.mem_of_getElem? (i := 223) rfl)
set_option maxRecDepth 100000 in
theorem jw2144 : (Jvm.Cond.methodLink "SchoolBoardModel" (292 : Nat) ({ cls := "SchoolBoardModel", name := "isYear", desc := "(I)Z" } : Jvm.MethodName)) ∈ jT := jm8 (List.mem_of_getElem? (i := 224) rfl)
set_option maxRecDepth 100000 in
theorem jw2145 : (Jvm.Cond.static ({ cls := "SchoolBoardModel", name := "isYear", desc := "(I)Z" } : Jvm.MethodName)) ∈ jT := jm8 (List.mem_of_getElem? (i := 225) rfl)
set_option maxRecDepth 100000 in
theorem jw2146 : (Jvm.Cond.code ({ cls := "SchoolBoardModel", name := "isYear", desc := "(I)Z" } : Jvm.MethodName) prog_14_method_5_code (1 : Nat) (Option.some Jvm.ClassFile.FieldType.boolean)) ∈ jT := jm8 (List.mem_of_getElem? (i := 226) rfl)
set_option maxRecDepth 100000 in
theorem jw2147 : (Jvm.Cond.methodLink "SchoolBoardModel" (298 : Nat) ({ cls := "SchoolBoardModel", name := "paintsShut", desc := "(II)V" } : Jvm.MethodName)) ∈ jT := jm8 (List.mem_of_getElem? (i := 227) rfl)
set_option maxRecDepth 100000 in
theorem jw2149 : (Jvm.Cond.instanceMethod ({ cls := "SchoolBoardModel", name := "paintsShut", desc := "(II)V" } : Jvm.MethodName)) ∈ jT := jm8 (List.mem_of_getElem? (i := 229) rfl)
set_option maxRecDepth 100000 in
theorem jw2150 : (Jvm.Cond.code ({ cls := "SchoolBoardModel", name := "paintsShut", desc := "(II)V" } : Jvm.MethodName) prog_14_method_31_code (5 : Nat) (Option.none : Option Jvm.ClassFile.FieldType)) ∈ jT := jm8 (List.mem_of_getElem? (i := 230) rfl)
set_option maxRecDepth 100000 in
theorem jw2151 : (Jvm.Cond.methodLink "SchoolBoardModel" (302 : Nat) ({ cls := "SchoolBoardModel", name := "paints", desc := "(III)V" } : Jvm.MethodName)) ∈ jT := jm8 (List.mem_of_getElem? (i := 231) rfl)
set_option maxRecDepth 100000 in
theorem jw2153 : (Jvm.Cond.instanceMethod ({ cls := "SchoolBoardModel", name := "paints", desc := "(III)V" } : Jvm.MethodName)) ∈ jT := jm8 (List.mem_of_getElem? (i := 233) rfl)
set_option maxRecDepth 100000 in
theorem jw2154 : (Jvm.Cond.code ({ cls := "SchoolBoardModel", name := "paints", desc := "(III)V" } : Jvm.MethodName) prog_14_method_32_code (8 : Nat) (Option.none : Option Jvm.ClassFile.FieldType)) ∈ jT := jm8 (List.mem_of_getElem? (i := 234) rfl)
set_option maxRecDepth 100000 in
theorem jw2155 : (Jvm.Cond.methodLink "SchoolBoardModel" (288 : Nat) ({ cls := "SchoolBoardModel", name := "quartersAt", desc := "(IIIIII)I" } : Jvm.MethodName)) ∈ jT := jm8 (List.mem_of_getElem? (i := 235) rfl)
set_option maxRecDepth 100000 in
theorem jw2157 : (Jvm.Cond.instanceMethod ({ cls := "SchoolBoardModel", name := "quartersAt", desc := "(IIIIII)I" } : Jvm.MethodName)) ∈ jT := jm8 (List.mem_of_getElem? (i := 237) rfl)
set_option maxRecDepth 100000 in
theorem jw2158 : (Jvm.Cond.code ({ cls := "SchoolBoardModel", name := "quartersAt", desc := "(IIIIII)I" } : Jvm.MethodName) prog_14_method_33_code (9 : Nat) (Option.some Jvm.ClassFile.FieldType.int)) ∈ jT := jm8 (List.mem_of_getElem? (i := 238) rfl)
set_option maxRecDepth 100000 in
theorem jw2159 : (Jvm.Cond.methodLink "SchoolBoardModel" (279 : Nat) ({ cls := "SchoolBoardModel", name := "firstExcuse", desc := "(II)I" } : Jvm.MethodName)) ∈ jT := jm8 (List.mem_of_getElem? (i := 239) rfl)
set_option maxRecDepth 100000 in
theorem jw2161 : (Jvm.Cond.instanceMethod ({ cls := "SchoolBoardModel", name := "firstExcuse", desc := "(II)I" } : Jvm.MethodName)) ∈ jT := jm9 (List.mem_of_getElem? (i := 1) rfl)
set_option maxRecDepth 100000 in
theorem jw2162 : (Jvm.Cond.code ({ cls := "SchoolBoardModel", name := "firstExcuse", desc := "(II)I" } : Jvm.MethodName) prog_14_method_34_code (5 : Nat) (Option.some Jvm.ClassFile.FieldType.int)) ∈ jT := jm9 (List.mem_of_getElem? (i := 2) rfl)
set_option maxRecDepth 100000 in
theorem jw2163 : (Jvm.Cond.methodLink "SchoolBoardLaw" (84 : Nat) ({ cls := "SchoolBoardModel", name := "yearly", desc := "(IIII)I" } : Jvm.MethodName)) ∈ jT := jm9 (List.mem_of_getElem? (i := 3) rfl)
set_option maxRecDepth 100000 in
theorem jw2164 : (Jvm.Cond.instanceMethod ({ cls := "SchoolBoardModel", name := "yearly", desc := "(IIII)I" } : Jvm.MethodName)) ∈ jT := jm9 (List.mem_of_getElem? (i := 4) rfl)
set_option maxRecDepth 100000 in
theorem jw2165 : (Jvm.Cond.selects "SchoolBoardModel" ({ cls := "SchoolBoardModel", name := "yearly", desc := "(IIII)I" } : Jvm.MethodName) ({ cls := "SchoolBoardModel", name := "yearly", desc := "(IIII)I" } : Jvm.MethodName)) ∈ jT := jm9 (List.mem_of_getElem? (i := 5) rfl)
set_option maxRecDepth 100000 in
theorem jw2166 : (Jvm.Cond.code ({ cls := "SchoolBoardModel", name := "yearly", desc := "(IIII)I" } : Jvm.MethodName) prog_14_method_38_code (6 : Nat) (Option.some Jvm.ClassFile.FieldType.int)) ∈ jT := jm9 (List.mem_of_getElem? (i := 6) rfl)
set_option maxRecDepth 100000 in
theorem jw2167 : (Jvm.Cond.methodLink "SchoolBoardModel" (306 : Nat) ({ cls := "SchoolBoardModel", name := "yearOf", desc := "(IIII)I" } : Jvm.MethodName)) ∈ jT := jm9 (List.mem_of_getElem? (i := 7) rfl)
set_option maxRecDepth 100000 in
theorem jw2169 : (Jvm.Cond.instanceMethod ({ cls := "SchoolBoardModel", name := "yearOf", desc := "(IIII)I" } : Jvm.MethodName)) ∈ jT := jm9 (List.mem_of_getElem? (i := 9) rfl)
set_option maxRecDepth 100000 in
theorem jw2170 : (Jvm.Cond.code ({ cls := "SchoolBoardModel", name := "yearOf", desc := "(IIII)I" } : Jvm.MethodName) prog_14_method_35_code (7 : Nat) (Option.some Jvm.ClassFile.FieldType.int)) ∈ jT := jm9 (List.mem_of_getElem? (i := 10) rfl)
set_option maxRecDepth 100000 in
theorem jw2171 : (Jvm.Cond.methodLink "SchoolBoardLaw" (88 : Nat) ({ cls := "SchoolBoardModel", name := "standard", desc := "(III)I" } : Jvm.MethodName)) ∈ jT := jm9 (List.mem_of_getElem? (i := 11) rfl)
set_option maxRecDepth 100000 in
theorem jw2172 : (Jvm.Cond.instanceMethod ({ cls := "SchoolBoardModel", name := "standard", desc := "(III)I" } : Jvm.MethodName)) ∈ jT := jm9 (List.mem_of_getElem? (i := 12) rfl)
set_option maxRecDepth 100000 in
theorem jw2173 : (Jvm.Cond.selects "SchoolBoardModel" ({ cls := "SchoolBoardModel", name := "standard", desc := "(III)I" } : Jvm.MethodName) ({ cls := "SchoolBoardModel", name := "standard", desc := "(III)I" } : Jvm.MethodName)) ∈ jT := jm9 (List.mem_of_getElem? (i := 13) rfl)
set_option maxRecDepth 100000 in
theorem jw2174 : (Jvm.Cond.code ({ cls := "SchoolBoardModel", name := "standard", desc := "(III)I" } : Jvm.MethodName) prog_14_method_44_code (4 : Nat) (Option.some Jvm.ClassFile.FieldType.int)) ∈ jT := jm9 (List.mem_of_getElem? (i := 14) rfl)
set_option maxRecDepth 100000 in
theorem jw2175 : (Jvm.Cond.methodLink "SchoolBoardLaw" (92 : Nat) ({ cls := "SchoolBoardModel", name := "passes", desc := "(IIII)I" } : Jvm.MethodName)) ∈ jT := jm9 (List.mem_of_getElem? (i := 15) rfl)
set_option maxRecDepth 100000 in
theorem jw2176 : (Jvm.Cond.instanceMethod ({ cls := "SchoolBoardModel", name := "passes", desc := "(IIII)I" } : Jvm.MethodName)) ∈ jT := jm9 (List.mem_of_getElem? (i := 16) rfl)
set_option maxRecDepth 100000 in
theorem jw2177 : (Jvm.Cond.selects "SchoolBoardModel" ({ cls := "SchoolBoardModel", name := "passes", desc := "(IIII)I" } : Jvm.MethodName) ({ cls := "SchoolBoardModel", name := "passes", desc := "(IIII)I" } : Jvm.MethodName)) ∈ jT := jm9 (List.mem_of_getElem? (i := 17) rfl)
set_option maxRecDepth 100000 in
theorem jw2178 : (Jvm.Cond.code ({ cls := "SchoolBoardModel", name := "passes", desc := "(IIII)I" } : Jvm.MethodName) prog_14_method_45_code (5 : Nat) (Option.some Jvm.ClassFile.FieldType.int)) ∈ jT := jm9 (List.mem_of_getElem? (i := 18) rfl)
set_option maxRecDepth 100000 in
theorem jw2179 : (Jvm.Cond.methodLink "SchoolBoardLaw" (96 : Nat) ({ cls := "SchoolBoardModel", name := "grant", desc := "(IIIII)I" } : Jvm.MethodName)) ∈ jT := jm9 (List.mem_of_getElem? (i := 19) rfl)
set_option maxRecDepth 100000 in
theorem jw2180 : (Jvm.Cond.instanceMethod ({ cls := "SchoolBoardModel", name := "grant", desc := "(IIIII)I" } : Jvm.MethodName)) ∈ jT := jm9 (List.mem_of_getElem? (i := 20) rfl)
set_option maxRecDepth 100000 in
theorem jw2181 : (Jvm.Cond.selects "SchoolBoardModel" ({ cls := "SchoolBoardModel", name := "grant", desc := "(IIIII)I" } : Jvm.MethodName) ({ cls := "SchoolBoardModel", name := "grant", desc := "(IIIII)I" } : Jvm.MethodName)) ∈ jT := jm9 (List.mem_of_getElem? (i := 21) rfl)
set_option maxRecDepth 100000 in
theorem jw2182 : (Jvm.Cond.code ({ cls := "SchoolBoardModel", name := "grant", desc := "(IIIII)I" } : Jvm.MethodName) prog_14_method_51_code (6 : Nat) (Option.some Jvm.ClassFile.FieldType.int)) ∈ jT := jm9 (List.mem_of_getElem? (i := 22) rfl)
set_option maxRecDepth 100000 in
theorem jw2183 : (Jvm.Cond.methodLink "SchoolBoardModel" (367 : Nat) ({ cls := "SchoolBoardModel", name := "grants", desc := "(IIII)V" } : Jvm.MethodName)) ∈ jT := jm9 (List.mem_of_getElem? (i := 23) rfl)
set_option maxRecDepth 100000 in
theorem jw2185 : (Jvm.Cond.instanceMethod ({ cls := "SchoolBoardModel", name := "grants", desc := "(IIII)V" } : Jvm.MethodName)) ∈ jT := jm9 (List.mem_of_getElem? (i := 25) rfl)
set_option maxRecDepth 100000 in
theorem jw2186 : (Jvm.Cond.code ({ cls := "SchoolBoardModel", name := "grants", desc := "(IIII)V" } : Jvm.MethodName) prog_14_method_49_code (10 : Nat) (Option.none : Option Jvm.ClassFile.FieldType)) ∈ jT := jm9 (List.mem_of_getElem? (i := 26) rfl)
set_option maxRecDepth 100000 in
theorem jw2187 : (Jvm.Cond.methodLink "SchoolBoardModel" (352 : Nat) ({ cls := "SchoolBoardModel", name := "staffed", desc := "(III)I" } : Jvm.MethodName)) ∈ jT := jm9 (List.mem_of_getElem? (i := 27) rfl)
set_option maxRecDepth 100000 in
theorem jw2189 : (Jvm.Cond.instanceMethod ({ cls := "SchoolBoardModel", name := "staffed", desc := "(III)I" } : Jvm.MethodName)) ∈ jT := jm9 (List.mem_of_getElem? (i := 29) rfl)
set_option maxRecDepth 100000 in
theorem jw2190 : (Jvm.Cond.code ({ cls := "SchoolBoardModel", name := "staffed", desc := "(III)I" } : Jvm.MethodName) prog_14_method_48_code (7 : Nat) (Option.some Jvm.ClassFile.FieldType.int)) ∈ jT := jm9 (List.mem_of_getElem? (i := 30) rfl)
set_option maxRecDepth 100000 in
theorem jw2191 : (Jvm.Cond.methodLink "SchoolBoardModel" (358 : Nat) ({ cls := "SchoolBoardModel", name := "isGrant", desc := "(III)Z" } : Jvm.MethodName)) ∈ jT := jm9 (List.mem_of_getElem? (i := 31) rfl)
set_option maxRecDepth 100000 in
theorem jw2193 : (Jvm.Cond.instanceMethod ({ cls := "SchoolBoardModel", name := "isGrant", desc := "(III)Z" } : Jvm.MethodName)) ∈ jT := jm9 (List.mem_of_getElem? (i := 33) rfl)
set_option maxRecDepth 100000 in
theorem jw2194 : (Jvm.Cond.code ({ cls := "SchoolBoardModel", name := "isGrant", desc := "(III)Z" } : Jvm.MethodName) prog_14_method_47_code (5 : Nat) (Option.some Jvm.ClassFile.FieldType.boolean)) ∈ jT := jm9 (List.mem_of_getElem? (i := 34) rfl)
set_option maxRecDepth 100000 in
theorem jw2195 : (Jvm.Cond.methodLink "SchoolBoardModel" (361 : Nat) ({ cls := "SchoolBoardModel", name := "line", desc := "(III)V" } : Jvm.MethodName)) ∈ jT := jm9 (List.mem_of_getElem? (i := 35) rfl)
set_option maxRecDepth 100000 in
theorem jw2197 : (Jvm.Cond.instanceMethod ({ cls := "SchoolBoardModel", name := "line", desc := "(III)V" } : Jvm.MethodName)) ∈ jT := jm9 (List.mem_of_getElem? (i := 37) rfl)
set_option maxRecDepth 100000 in
theorem jw2198 : (Jvm.Cond.code ({ cls := "SchoolBoardModel", name := "line", desc := "(III)V" } : Jvm.MethodName) prog_14_method_46_code (4 : Nat) (Option.none : Option Jvm.ClassFile.FieldType)) ∈ jT := jm9 (List.mem_of_getElem? (i := 38) rfl)
set_option maxRecDepth 100000 in
theorem jw2199 : (Jvm.Cond.methodLink "SchoolBoardModel" (364 : Nat) ({ cls := "SchoolBoardModel", name := "ofChild", desc := "(IIII)V" } : Jvm.MethodName)) ∈ jT := jm9 (List.mem_of_getElem? (i := 39) rfl)
set_option maxRecDepth 100000 in
theorem jw2201 : (Jvm.Cond.instanceMethod ({ cls := "SchoolBoardModel", name := "ofChild", desc := "(IIII)V" } : Jvm.MethodName)) ∈ jT := jm9 (List.mem_of_getElem? (i := 41) rfl)
set_option maxRecDepth 100000 in
theorem jw2202 : (Jvm.Cond.code ({ cls := "SchoolBoardModel", name := "ofChild", desc := "(IIII)V" } : Jvm.MethodName) prog_14_method_50_code (11 : Nat) (Option.none : Option Jvm.ClassFile.FieldType)) ∈ jT := jm9 (List.mem_of_getElem? (i := 42) rfl)
set_option maxRecDepth 100000 in
theorem jw2203 : (Jvm.Cond.methodLink "SchoolBoardLaw" (100 : Nat) ({ cls := "SchoolBoardModel", name := "line", desc := "(IIIIII)I" } : Jvm.MethodName)) ∈ jT := jm9 (List.mem_of_getElem? (i := 43) rfl)
set_option maxRecDepth 100000 in
theorem jw2204 : (Jvm.Cond.instanceMethod ({ cls := "SchoolBoardModel", name := "line", desc := "(IIIIII)I" } : Jvm.MethodName)) ∈ jT := jm9 (List.mem_of_getElem? (i := 44) rfl)
set_option maxRecDepth 100000 in
theorem jw2205 : (Jvm.Cond.selects "SchoolBoardModel" ({ cls := "SchoolBoardModel", name := "line", desc := "(IIIIII)I" } : Jvm.MethodName) ({ cls := "SchoolBoardModel", name := "line", desc := "(IIIIII)I" } : Jvm.MethodName)) ∈ jT := jm9 (List.mem_of_getElem? (i := 45) rfl)
set_option maxRecDepth 100000 in
theorem jw2206 : (Jvm.Cond.code ({ cls := "SchoolBoardModel", name := "line", desc := "(IIIIII)I" } : Jvm.MethodName) prog_14_method_52_code (7 : Nat) (Option.some Jvm.ClassFile.FieldType.int)) ∈ jT := jm9 (List.mem_of_getElem? (i := 46) rfl)
set_option maxRecDepth 100000 in
theorem jw2207 : (Jvm.Cond.constant "SchoolBoardModel" (370 : Nat) (-1000000 : Int32)) ∈ jT := jm9 (List.mem_of_getElem? (i := 47) rfl)
set_option maxRecDepth 100000 in
theorem jw2208 : (Jvm.Cond.methodLink "SchoolBoardLaw" (104 : Nat) ({ cls := "SchoolBoardModel", name := "fees", desc := "(III)I" } : Jvm.MethodName)) ∈ jT := jm9 (List.mem_of_getElem? (i := 48) rfl)
set_option maxRecDepth 100000 in
theorem jw2209 : (Jvm.Cond.instanceMethod ({ cls := "SchoolBoardModel", name := "fees", desc := "(III)I" } : Jvm.MethodName)) ∈ jT := jm9 (List.mem_of_getElem? (i := 49) rfl)
set_option maxRecDepth 100000 in
theorem jw2210 : (Jvm.Cond.selects "SchoolBoardModel" ({ cls := "SchoolBoardModel", name := "fees", desc := "(III)I" } : Jvm.MethodName) ({ cls := "SchoolBoardModel", name := "fees", desc := "(III)I" } : Jvm.MethodName)) ∈ jT := jm9 (List.mem_of_getElem? (i := 50) rfl)
set_option maxRecDepth 100000 in
theorem jw2211 : (Jvm.Cond.code ({ cls := "SchoolBoardModel", name := "fees", desc := "(III)I" } : Jvm.MethodName) prog_14_method_54_code (4 : Nat) (Option.some Jvm.ClassFile.FieldType.int)) ∈ jT := jm9 (List.mem_of_getElem? (i := 51) rfl)
set_option maxRecDepth 100000 in
theorem jw2212 : (Jvm.Cond.methodLink "SchoolBoardModel" (374 : Nat) ({ cls := "SchoolBoardModel", name := "feesOf", desc := "(II)I" } : Jvm.MethodName)) ∈ jT := jm9 (List.mem_of_getElem? (i := 52) rfl)
set_option maxRecDepth 100000 in
theorem jw2214 : (Jvm.Cond.instanceMethod ({ cls := "SchoolBoardModel", name := "feesOf", desc := "(II)I" } : Jvm.MethodName)) ∈ jT := jm9 (List.mem_of_getElem? (i := 54) rfl)
set_option maxRecDepth 100000 in
theorem jw2215 : (Jvm.Cond.code ({ cls := "SchoolBoardModel", name := "feesOf", desc := "(II)I" } : Jvm.MethodName) prog_14_method_53_code (8 : Nat) (Option.some Jvm.ClassFile.FieldType.int)) ∈ jT := jm9 (List.mem_of_getElem? (i := 55) rfl)
set_option maxRecDepth 100000 in
theorem jw2216 : (Jvm.Cond.methodLink "SchoolBoardModel" (371 : Nat) ({ cls := "SchoolBoardModel", name := "isShut", desc := "(III)Z" } : Jvm.MethodName)) ∈ jT := jm9 (List.mem_of_getElem? (i := 56) rfl)
set_option maxRecDepth 100000 in
theorem jw2218 : (Jvm.Cond.instanceMethod ({ cls := "SchoolBoardModel", name := "isShut", desc := "(III)Z" } : Jvm.MethodName)) ∈ jT := jm9 (List.mem_of_getElem? (i := 58) rfl)
set_option maxRecDepth 100000 in
theorem jw2219 : (Jvm.Cond.code ({ cls := "SchoolBoardModel", name := "isShut", desc := "(III)Z" } : Jvm.MethodName) prog_14_method_24_code (6 : Nat) (Option.some Jvm.ClassFile.FieldType.boolean)) ∈ jT := jm9 (List.mem_of_getElem? (i := 59) rfl)
set_option maxRecDepth 100000 in
theorem jw2220 : (Jvm.Cond.methodLink "SchoolBoardLaw" (108 : Nat) ({ cls := "SchoolBoardModel", name := "pay", desc := "(II)I" } : Jvm.MethodName)) ∈ jT := jm9 (List.mem_of_getElem? (i := 60) rfl)
set_option maxRecDepth 100000 in
theorem jw2221 : (Jvm.Cond.instanceMethod ({ cls := "SchoolBoardModel", name := "pay", desc := "(II)I" } : Jvm.MethodName)) ∈ jT := jm9 (List.mem_of_getElem? (i := 61) rfl)
set_option maxRecDepth 100000 in
theorem jw2222 : (Jvm.Cond.selects "SchoolBoardModel" ({ cls := "SchoolBoardModel", name := "pay", desc := "(II)I" } : Jvm.MethodName) ({ cls := "SchoolBoardModel", name := "pay", desc := "(II)I" } : Jvm.MethodName)) ∈ jT := jm9 (List.mem_of_getElem? (i := 62) rfl)
set_option maxRecDepth 100000 in
theorem jw2223 : (Jvm.Cond.code ({ cls := "SchoolBoardModel", name := "pay", desc := "(II)I" } : Jvm.MethodName) prog_14_method_55_code (3 : Nat) (Option.some Jvm.ClassFile.FieldType.int)) ∈ jT := jm9 (List.mem_of_getElem? (i := 63) rfl)
set_option maxRecDepth 100000 in
theorem jw2224 : (Jvm.Cond.constant "SchoolBoardModel" (377 : Nat) (999999 : Int32)) ∈ jT := jm9 (List.mem_of_getElem? (i := 64) rfl)
set_option maxRecDepth 100000 in
theorem jw2225 : (Jvm.Cond.methodLink "SchoolBoardLaw" (112 : Nat) ({ cls := "SchoolBoardModel", name := "holds", desc := "(II)I" } : Jvm.MethodName)) ∈ jT := jm9 (List.mem_of_getElem? (i := 65) rfl)
set_option maxRecDepth 100000 in
theorem jw2226 : (Jvm.Cond.instanceMethod ({ cls := "SchoolBoardModel", name := "holds", desc := "(II)I" } : Jvm.MethodName)) ∈ jT := jm9 (List.mem_of_getElem? (i := 66) rfl)
set_option maxRecDepth 100000 in
theorem jw2227 : (Jvm.Cond.selects "SchoolBoardModel" ({ cls := "SchoolBoardModel", name := "holds", desc := "(II)I" } : Jvm.MethodName) ({ cls := "SchoolBoardModel", name := "holds", desc := "(II)I" } : Jvm.MethodName)) ∈ jT := jm9 (List.mem_of_getElem? (i := 67) rfl)
set_option maxRecDepth 100000 in
theorem jw2228 : (Jvm.Cond.code ({ cls := "SchoolBoardModel", name := "holds", desc := "(II)I" } : Jvm.MethodName) prog_14_method_57_code (3 : Nat) (Option.some Jvm.ClassFile.FieldType.int)) ∈ jT := jm9 (List.mem_of_getElem? (i := 68) rfl)
set_option maxRecDepth 100000 in
theorem jw2229 : (Jvm.Cond.methodLink "SchoolBoardLaw" (117 : Nat) ({ cls := "SchoolBoardModel", name := "teacher", desc := "(I)I" } : Jvm.MethodName)) ∈ jT := jm9 (List.mem_of_getElem? (i := 69) rfl)
set_option maxRecDepth 100000 in
theorem jw2230 : (Jvm.Cond.instanceMethod ({ cls := "SchoolBoardModel", name := "teacher", desc := "(I)I" } : Jvm.MethodName)) ∈ jT := jm9 (List.mem_of_getElem? (i := 70) rfl)
set_option maxRecDepth 100000 in
theorem jw2231 : (Jvm.Cond.selects "SchoolBoardModel" ({ cls := "SchoolBoardModel", name := "teacher", desc := "(I)I" } : Jvm.MethodName) ({ cls := "SchoolBoardModel", name := "teacher", desc := "(I)I" } : Jvm.MethodName)) ∈ jT := jm9 (List.mem_of_getElem? (i := 71) rfl)
set_option maxRecDepth 100000 in
theorem jw2232 : (Jvm.Cond.code ({ cls := "SchoolBoardModel", name := "teacher", desc := "(I)I" } : Jvm.MethodName) prog_14_method_58_code (3 : Nat) (Option.some Jvm.ClassFile.FieldType.int)) ∈ jT := jm9 (List.mem_of_getElem? (i := 72) rfl)
set_option maxRecDepth 100000 in
theorem jw2233 : (Jvm.Cond.methodLink "SchoolBoardLaw" (121 : Nat) ({ cls := "SchoolBoardModel", name := "proof", desc := "(III)Z" } : Jvm.MethodName)) ∈ jT := jm9 (List.mem_of_getElem? (i := 73) rfl)
set_option maxRecDepth 100000 in
theorem jw2234 : (Jvm.Cond.instanceMethod ({ cls := "SchoolBoardModel", name := "proof", desc := "(III)Z" } : Jvm.MethodName)) ∈ jT := jm9 (List.mem_of_getElem? (i := 74) rfl)
set_option maxRecDepth 100000 in
theorem jw2235 : (Jvm.Cond.selects "SchoolBoardModel" ({ cls := "SchoolBoardModel", name := "proof", desc := "(III)Z" } : Jvm.MethodName) ({ cls := "SchoolBoardModel", name := "proof", desc := "(III)Z" } : Jvm.MethodName)) ∈ jT := jm9 (List.mem_of_getElem? (i := 75) rfl)
set_option maxRecDepth 100000 in
theorem jw2236 : (Jvm.Cond.code ({ cls := "SchoolBoardModel", name := "proof", desc := "(III)Z" } : Jvm.MethodName) prog_14_method_59_code (4 : Nat) (Option.some Jvm.ClassFile.FieldType.boolean)) ∈ jT := jm9 (List.mem_of_getElem? (i := 76) rfl)
set_option maxRecDepth 100000 in
theorem jw2237 : (Jvm.Cond.methodLink "SchoolBoardLaw" (125 : Nat) ({ cls := "SchoolBoardModel", name := "teacherOf", desc := "(III)I" } : Jvm.MethodName)) ∈ jT := jm9 (List.mem_of_getElem? (i := 77) rfl)
set_option maxRecDepth 100000 in
theorem jw2238 : (Jvm.Cond.instanceMethod ({ cls := "SchoolBoardModel", name := "teacherOf", desc := "(III)I" } : Jvm.MethodName)) ∈ jT := jm9 (List.mem_of_getElem? (i := 78) rfl)
set_option maxRecDepth 100000 in
theorem jw2239 : (Jvm.Cond.selects "SchoolBoardModel" ({ cls := "SchoolBoardModel", name := "teacherOf", desc := "(III)I" } : Jvm.MethodName) ({ cls := "SchoolBoardModel", name := "teacherOf", desc := "(III)I" } : Jvm.MethodName)) ∈ jT := jm9 (List.mem_of_getElem? (i := 79) rfl)
set_option maxRecDepth 100000 in
theorem jw2240 : (Jvm.Cond.code ({ cls := "SchoolBoardModel", name := "teacherOf", desc := "(III)I" } : Jvm.MethodName) prog_14_method_61_code (6 : Nat) (Option.some Jvm.ClassFile.FieldType.int)) ∈ jT := jm9 (List.mem_of_getElem? (i := 80) rfl)
set_option maxRecDepth 100000 in
theorem jw2241 : (Jvm.Cond.methodLink "SchoolBoardModel" (378 : Nat) ({ cls := "SchoolBoardModel", name := "stepOf", desc := "(II)I" } : Jvm.MethodName)) ∈ jT := jm9 (List.mem_of_getElem? (i := 81) rfl)
set_option maxRecDepth 100000 in
theorem jw2243 : (Jvm.Cond.instanceMethod ({ cls := "SchoolBoardModel", name := "stepOf", desc := "(II)I" } : Jvm.MethodName)) ∈ jT := jm9 (List.mem_of_getElem? (i := 83) rfl)
set_option maxRecDepth 100000 in
theorem jw2244 : (Jvm.Cond.code ({ cls := "SchoolBoardModel", name := "stepOf", desc := "(II)I" } : Jvm.MethodName) prog_14_method_60_code (8 : Nat) (Option.some Jvm.ClassFile.FieldType.int)) ∈ jT := jm9 (List.mem_of_getElem? (i := 84) rfl)
set_option maxRecDepth 100000 in
theorem jw2245 : (Jvm.Cond.methodLink "SchoolBoardLaw" (150 : Nat) ({ cls := "SchoolBoardModel", name := "estimate", desc := "(III)Z" } : Jvm.MethodName)) ∈ jT := jm9 (List.mem_of_getElem? (i := 85) rfl)
set_option maxRecDepth 100000 in
theorem jw2246 : (Jvm.Cond.instanceMethod ({ cls := "SchoolBoardModel", name := "estimate", desc := "(III)Z" } : Jvm.MethodName)) ∈ jT := jm9 (List.mem_of_getElem? (i := 86) rfl)
set_option maxRecDepth 100000 in
theorem jw2247 : (Jvm.Cond.selects "SchoolBoardModel" ({ cls := "SchoolBoardModel", name := "estimate", desc := "(III)Z" } : Jvm.MethodName) ({ cls := "SchoolBoardModel", name := "estimate", desc := "(III)Z" } : Jvm.MethodName)) ∈ jT := jm9 (List.mem_of_getElem? (i := 87) rfl)
set_option maxRecDepth 100000 in
theorem jw2248 : (Jvm.Cond.code ({ cls := "SchoolBoardModel", name := "estimate", desc := "(III)Z" } : Jvm.MethodName) prog_14_method_66_code (4 : Nat) (Option.some Jvm.ClassFile.FieldType.boolean)) ∈ jT := jm9 (List.mem_of_getElem? (i := 88) rfl)
set_option maxRecDepth 100000 in
theorem jw2249 : (Jvm.Cond.methodLink "SchoolBoardLaw" (154 : Nat) ({ cls := "SchoolBoardModel", name := "entering", desc := "(III)I" } : Jvm.MethodName)) ∈ jT := jm9 (List.mem_of_getElem? (i := 89) rfl)
set_option maxRecDepth 100000 in
theorem jw2250 : (Jvm.Cond.instanceMethod ({ cls := "SchoolBoardModel", name := "entering", desc := "(III)I" } : Jvm.MethodName)) ∈ jT := jm9 (List.mem_of_getElem? (i := 90) rfl)
set_option maxRecDepth 100000 in
theorem jw2251 : (Jvm.Cond.selects "SchoolBoardModel" ({ cls := "SchoolBoardModel", name := "entering", desc := "(III)I" } : Jvm.MethodName) ({ cls := "SchoolBoardModel", name := "entering", desc := "(III)I" } : Jvm.MethodName)) ∈ jT := jm9 (List.mem_of_getElem? (i := 91) rfl)
set_option maxRecDepth 100000 in
theorem jw2252 : (Jvm.Cond.code ({ cls := "SchoolBoardModel", name := "entering", desc := "(III)I" } : Jvm.MethodName) prog_14_method_67_code (4 : Nat) (Option.some Jvm.ClassFile.FieldType.int)) ∈ jT := jm9 (List.mem_of_getElem? (i := 92) rfl)
set_option maxRecDepth 100000 in
theorem jw2253 : (Jvm.Cond.methodLink "SchoolBoardModel" (398 : Nat) ({ cls := "SchoolBoardModel", name := "enters", desc := "(II)V" } : Jvm.MethodName)) ∈ jT := jm9 (List.mem_of_getElem? (i := 93) rfl)
set_option maxRecDepth 100000 in
theorem jw2255 : (Jvm.Cond.instanceMethod ({ cls := "SchoolBoardModel", name := "enters", desc := "(II)V" } : Jvm.MethodName)) ∈ jT := jm9 (List.mem_of_getElem? (i := 95) rfl)
set_option maxRecDepth 100000 in
theorem jw2256 : (Jvm.Cond.code ({ cls := "SchoolBoardModel", name := "enters", desc := "(II)V" } : Jvm.MethodName) prog_14_method_65_code (8 : Nat) (Option.none : Option Jvm.ClassFile.FieldType)) ∈ jT := jm9 (List.mem_of_getElem? (i := 96) rfl)
set_option maxRecDepth 100000 in
theorem jw2257 : (Jvm.Cond.methodLink "SchoolBoardModel" (384 : Nat) ({ cls := "SchoolBoardModel", name := "hoursOf", desc := "(II)I" } : Jvm.MethodName)) ∈ jT := jm9 (List.mem_of_getElem? (i := 97) rfl)
set_option maxRecDepth 100000 in
theorem jw2259 : (Jvm.Cond.instanceMethod ({ cls := "SchoolBoardModel", name := "hoursOf", desc := "(II)I" } : Jvm.MethodName)) ∈ jT := jm9 (List.mem_of_getElem? (i := 99) rfl)
set_option maxRecDepth 100000 in
theorem jw2260 : (Jvm.Cond.code ({ cls := "SchoolBoardModel", name := "hoursOf", desc := "(II)I" } : Jvm.MethodName) prog_14_method_62_code (6 : Nat) (Option.some Jvm.ClassFile.FieldType.int)) ∈ jT := jm9 (List.mem_of_getElem? (i := 100) rfl)
set_option maxRecDepth 100000 in
theorem jw2261 : (Jvm.Cond.methodLink "SchoolBoardModel" (389 : Nat) ({ cls := "SchoolBoardModel", name := "worths", desc := "(III)V" } : Jvm.MethodName)) ∈ jT := jm9 (List.mem_of_getElem? (i := 101) rfl)
set_option maxRecDepth 100000 in
theorem jw2263 : (Jvm.Cond.instanceMethod ({ cls := "SchoolBoardModel", name := "worths", desc := "(III)V" } : Jvm.MethodName)) ∈ jT := jm9 (List.mem_of_getElem? (i := 103) rfl)
set_option maxRecDepth 100000 in
theorem jw2264 : (Jvm.Cond.code ({ cls := "SchoolBoardModel", name := "worths", desc := "(III)V" } : Jvm.MethodName) prog_14_method_63_code (8 : Nat) (Option.none : Option Jvm.ClassFile.FieldType)) ∈ jT := jm9 (List.mem_of_getElem? (i := 104) rfl)
set_option maxRecDepth 100000 in
theorem jw2265 : (Jvm.Cond.methodLink "SchoolBoardModel" (381 : Nat) ({ cls := "SchoolBoardModel", name := "brings", desc := "(III)I" } : Jvm.MethodName)) ∈ jT := jm9 (List.mem_of_getElem? (i := 105) rfl)
set_option maxRecDepth 100000 in
theorem jw2267 : (Jvm.Cond.instanceMethod ({ cls := "SchoolBoardModel", name := "brings", desc := "(III)I" } : Jvm.MethodName)) ∈ jT := jm9 (List.mem_of_getElem? (i := 107) rfl)
set_option maxRecDepth 100000 in
theorem jw2268 : (Jvm.Cond.code ({ cls := "SchoolBoardModel", name := "brings", desc := "(III)I" } : Jvm.MethodName) prog_14_method_64_code (7 : Nat) (Option.some Jvm.ClassFile.FieldType.int)) ∈ jT := jm9 (List.mem_of_getElem? (i := 108) rfl)
set_option maxRecDepth 100000 in
theorem jw2269 : (Jvm.Cond.methodLink "SchoolBoardLaw" (158 : Nat) ({ cls := "SchoolBoardModel", name := "officer", desc := "(II)I" } : Jvm.MethodName)) ∈ jT := jm9 (List.mem_of_getElem? (i := 109) rfl)
set_option maxRecDepth 100000 in
theorem jw2270 : (Jvm.Cond.instanceMethod ({ cls := "SchoolBoardModel", name := "officer", desc := "(II)I" } : Jvm.MethodName)) ∈ jT := jm9 (List.mem_of_getElem? (i := 110) rfl)
set_option maxRecDepth 100000 in
theorem jw2271 : (Jvm.Cond.selects "SchoolBoardModel" ({ cls := "SchoolBoardModel", name := "officer", desc := "(II)I" } : Jvm.MethodName) ({ cls := "SchoolBoardModel", name := "officer", desc := "(II)I" } : Jvm.MethodName)) ∈ jT := jm9 (List.mem_of_getElem? (i := 111) rfl)
set_option maxRecDepth 100000 in
theorem jw2272 : (Jvm.Cond.code ({ cls := "SchoolBoardModel", name := "officer", desc := "(II)I" } : Jvm.MethodName) prog_14_method_69_code (12 : Nat) (Option.some Jvm.ClassFile.FieldType.int)) ∈ jT := jm9 (List.mem_of_getElem? (i := 112) rfl)
set_option maxRecDepth 100000 in
theorem jw2273 : (Jvm.Cond.methodLink "SchoolBoardModel" (401 : Nat) ({ cls := "SchoolBoardModel", name := "looks", desc := "()V" } : Jvm.MethodName)) ∈ jT := jm9 (List.mem_of_getElem? (i := 113) rfl)
set_option maxRecDepth 100000 in
theorem jw2275 : (Jvm.Cond.instanceMethod ({ cls := "SchoolBoardModel", name := "looks", desc := "()V" } : Jvm.MethodName)) ∈ jT := jm9 (List.mem_of_getElem? (i := 115) rfl)
set_option maxRecDepth 100000 in
theorem jw2276 : (Jvm.Cond.code ({ cls := "SchoolBoardModel", name := "looks", desc := "()V" } : Jvm.MethodName) prog_14_method_68_code (6 : Nat) (Option.none : Option Jvm.ClassFile.FieldType)) ∈ jT := jm9 (List.mem_of_getElem? (i := 116) rfl)
set_option maxRecDepth 100000 in
theorem jw2277 : (Jvm.Cond.methodLink "SchoolBoardLaw" (162 : Nat) ({ cls := "SchoolBoardModel", name := "site", desc := "(II)I" } : Jvm.MethodName)) ∈ jT := jm9 (List.mem_of_getElem? (i := 117) rfl)
set_option maxRecDepth 100000 in
theorem jw2278 : (Jvm.Cond.instanceMethod ({ cls := "SchoolBoardModel", name := "site", desc := "(II)I" } : Jvm.MethodName)) ∈ jT := jm9 (List.mem_of_getElem? (i := 118) rfl)
set_option maxRecDepth 100000 in
theorem jw2279 : (Jvm.Cond.selects "SchoolBoardModel" ({ cls := "SchoolBoardModel", name := "site", desc := "(II)I" } : Jvm.MethodName) ({ cls := "SchoolBoardModel", name := "site", desc := "(II)I" } : Jvm.MethodName)) ∈ jT := jm9 (List.mem_of_getElem? (i := 119) rfl)
set_option maxRecDepth 100000 in
theorem jw2280 : (Jvm.Cond.code ({ cls := "SchoolBoardModel", name := "site", desc := "(II)I" } : Jvm.MethodName) prog_14_method_70_code (3 : Nat) (Option.some Jvm.ClassFile.FieldType.int)) ∈ jT := jm9 (List.mem_of_getElem? (i := 120) rfl)
set_option maxRecDepth 100000 in
theorem jw2281 : (Jvm.Cond.methodLink "SchoolBoardLaw" (166 : Nat) ({ cls := "SchoolBoardModel", name := "sites", desc := "(II)I" } : Jvm.MethodName)) ∈ jT := jm9 (List.mem_of_getElem? (i := 121) rfl)
set_option maxRecDepth 100000 in
theorem jw2282 : (Jvm.Cond.instanceMethod ({ cls := "SchoolBoardModel", name := "sites", desc := "(II)I" } : Jvm.MethodName)) ∈ jT := jm9 (List.mem_of_getElem? (i := 122) rfl)
set_option maxRecDepth 100000 in
theorem jw2283 : (Jvm.Cond.selects "SchoolBoardModel" ({ cls := "SchoolBoardModel", name := "sites", desc := "(II)I" } : Jvm.MethodName) ({ cls := "SchoolBoardModel", name := "sites", desc := "(II)I" } : Jvm.MethodName)) ∈ jT := jm9 (List.mem_of_getElem? (i := 123) rfl)
set_option maxRecDepth 100000 in
theorem jw2284 : (Jvm.Cond.code ({ cls := "SchoolBoardModel", name := "sites", desc := "(II)I" } : Jvm.MethodName) prog_14_method_72_code (5 : Nat) (Option.some Jvm.ClassFile.FieldType.int)) ∈ jT := jm9 (List.mem_of_getElem? (i := 124) rfl)
set_option maxRecDepth 100000 in
theorem jw2285 : (Jvm.Cond.methodLink "SchoolBoardModel" (410 : Nat) ({ cls := "SchoolBoardModel", name := "reaches", desc := "(II)Z" } : Jvm.MethodName)) ∈ jT := jm9 (List.mem_of_getElem? (i := 125) rfl)
set_option maxRecDepth 100000 in
theorem jw2287 : (Jvm.Cond.instanceMethod ({ cls := "SchoolBoardModel", name := "reaches", desc := "(II)Z" } : Jvm.MethodName)) ∈ jT := jm9 (List.mem_of_getElem? (i := 127) rfl)
set_option maxRecDepth 100000 in
theorem jw2288 : (Jvm.Cond.code ({ cls := "SchoolBoardModel", name := "reaches", desc := "(II)Z" } : Jvm.MethodName) prog_14_method_71_code (9 : Nat) (Option.some Jvm.ClassFile.FieldType.boolean)) ∈ jT := jm9 (List.mem_of_getElem? (i := 128) rfl)
set_option maxRecDepth 100000 in
theorem jw2289 : (Jvm.Cond.methodLink "SchoolBoardModel" (407 : Nat) ({ cls := "java/lang/Math", name := "abs", desc := "(I)I" } : Jvm.MethodName)) ∈ jT := jm9 (List.mem_of_getElem? (i := 129) rfl)
set_option maxRecDepth 100000 in
theorem jw2290 : (Jvm.Cond.methodLink "SchoolBoardLaw" (170 : Nat) ({ cls := "SchoolBoardModel", name := "poll", desc := "(I)Z" } : Jvm.MethodName)) ∈ jT := jm9 (List.mem_of_getElem? (i := 130) rfl)
set_option maxRecDepth 100000 in
theorem jw2291 : (Jvm.Cond.instanceMethod ({ cls := "SchoolBoardModel", name := "poll", desc := "(I)Z" } : Jvm.MethodName)) ∈ jT := jm9 (List.mem_of_getElem? (i := 131) rfl)
set_option maxRecDepth 100000 in
theorem jw2292 : (Jvm.Cond.selects "SchoolBoardModel" ({ cls := "SchoolBoardModel", name := "poll", desc := "(I)Z" } : Jvm.MethodName) ({ cls := "SchoolBoardModel", name := "poll", desc := "(I)Z" } : Jvm.MethodName)) ∈ jT := jm9 (List.mem_of_getElem? (i := 132) rfl)
set_option maxRecDepth 100000 in
theorem jw2293 : (Jvm.Cond.code ({ cls := "SchoolBoardModel", name := "poll", desc := "(I)Z" } : Jvm.MethodName) prog_14_method_73_code (3 : Nat) (Option.some Jvm.ClassFile.FieldType.boolean)) ∈ jT := jm9 (List.mem_of_getElem? (i := 133) rfl)
set_option maxRecDepth 100000 in
theorem jw2294 : (Jvm.Cond.methodLink "SchoolBoardLaw" (174 : Nat) ({ cls := "SchoolBoardModel", name := "candidate", desc := "(I)I" } : Jvm.MethodName)) ∈ jT := jm9 (List.mem_of_getElem? (i := 134) rfl)
set_option maxRecDepth 100000 in
theorem jw2295 : (Jvm.Cond.instanceMethod ({ cls := "SchoolBoardModel", name := "candidate", desc := "(I)I" } : Jvm.MethodName)) ∈ jT := jm9 (List.mem_of_getElem? (i := 135) rfl)
set_option maxRecDepth 100000 in
theorem jw2296 : (Jvm.Cond.selects "SchoolBoardModel" ({ cls := "SchoolBoardModel", name := "candidate", desc := "(I)I" } : Jvm.MethodName) ({ cls := "SchoolBoardModel", name := "candidate", desc := "(I)I" } : Jvm.MethodName)) ∈ jT := jm9 (List.mem_of_getElem? (i := 136) rfl)
set_option maxRecDepth 100000 in
theorem jw2297 : (Jvm.Cond.code ({ cls := "SchoolBoardModel", name := "candidate", desc := "(I)I" } : Jvm.MethodName) prog_14_method_74_code (2 : Nat) (Option.some Jvm.ClassFile.FieldType.int)) ∈ jT := jm9 (List.mem_of_getElem? (i := 137) rfl)
set_option maxRecDepth 100000 in
theorem jw2298 : (Jvm.Cond.methodLink "SchoolBoardLaw" (178 : Nat) ({ cls := "SchoolBoardModel", name := "ballot", desc := "()I" } : Jvm.MethodName)) ∈ jT := jm9 (List.mem_of_getElem? (i := 138) rfl)
set_option maxRecDepth 100000 in
theorem jw2299 : (Jvm.Cond.instanceMethod ({ cls := "SchoolBoardModel", name := "ballot", desc := "()I" } : Jvm.MethodName)) ∈ jT := jm9 (List.mem_of_getElem? (i := 139) rfl)
set_option maxRecDepth 100000 in
theorem jw2300 : (Jvm.Cond.selects "SchoolBoardModel" ({ cls := "SchoolBoardModel", name := "ballot", desc := "()I" } : Jvm.MethodName) ({ cls := "SchoolBoardModel", name := "ballot", desc := "()I" } : Jvm.MethodName)) ∈ jT := jm9 (List.mem_of_getElem? (i := 140) rfl)
set_option maxRecDepth 100000 in
theorem jw2301 : (Jvm.Cond.code ({ cls := "SchoolBoardModel", name := "ballot", desc := "()I" } : Jvm.MethodName) prog_14_method_75_code (1 : Nat) (Option.some Jvm.ClassFile.FieldType.int)) ∈ jT := jm9 (List.mem_of_getElem? (i := 141) rfl)
set_option maxRecDepth 100000 in
theorem jw2302 : (Jvm.Cond.methodLink "SchoolBoardLaw" (182 : Nat) ({ cls := "SchoolBoardModel", name := "heap", desc := "(III)I" } : Jvm.MethodName)) ∈ jT := jm9 (List.mem_of_getElem? (i := 142) rfl)
set_option maxRecDepth 100000 in
theorem jw2303 : (Jvm.Cond.instanceMethod ({ cls := "SchoolBoardModel", name := "heap", desc := "(III)I" } : Jvm.MethodName)) ∈ jT := jm9 (List.mem_of_getElem? (i := 143) rfl)
set_option maxRecDepth 100000 in
theorem jw2304 : (Jvm.Cond.selects "SchoolBoardModel" ({ cls := "SchoolBoardModel", name := "heap", desc := "(III)I" } : Jvm.MethodName) ({ cls := "SchoolBoardModel", name := "heap", desc := "(III)I" } : Jvm.MethodName)) ∈ jT := jm9 (List.mem_of_getElem? (i := 144) rfl)
set_option maxRecDepth 100000 in
theorem jw2305 : (Jvm.Cond.code ({ cls := "SchoolBoardModel", name := "heap", desc := "(III)I" } : Jvm.MethodName) prog_14_method_76_code (6 : Nat) (Option.some Jvm.ClassFile.FieldType.int)) ∈ jT := jm9 (List.mem_of_getElem? (i := 145) rfl)
set_option maxRecDepth 100000 in
theorem jw2306 : (Jvm.Cond.methodLink "SchoolBoardLaw" (186 : Nat) ({ cls := "SchoolBoardModel", name := "candidateOf", desc := "(II)I" } : Jvm.MethodName)) ∈ jT := jm9 (List.mem_of_getElem? (i := 146) rfl)
set_option maxRecDepth 100000 in
theorem jw2307 : (Jvm.Cond.instanceMethod ({ cls := "SchoolBoardModel", name := "candidateOf", desc := "(II)I" } : Jvm.MethodName)) ∈ jT := jm9 (List.mem_of_getElem? (i := 147) rfl)
set_option maxRecDepth 100000 in
theorem jw2308 : (Jvm.Cond.selects "SchoolBoardModel" ({ cls := "SchoolBoardModel", name := "candidateOf", desc := "(II)I" } : Jvm.MethodName) ({ cls := "SchoolBoardModel", name := "candidateOf", desc := "(II)I" } : Jvm.MethodName)) ∈ jT := jm9 (List.mem_of_getElem? (i := 148) rfl)
set_option maxRecDepth 100000 in
theorem jw2309 : (Jvm.Cond.code ({ cls := "SchoolBoardModel", name := "candidateOf", desc := "(II)I" } : Jvm.MethodName) prog_14_method_79_code (3 : Nat) (Option.some Jvm.ClassFile.FieldType.int)) ∈ jT := jm9 (List.mem_of_getElem? (i := 149) rfl)
set_option maxRecDepth 100000 in
theorem jw2310 : (Jvm.Cond.methodLink "SchoolBoardModel" (422 : Nat) ({ cls := "SchoolBoardModel", name := "counts", desc := "()V" } : Jvm.MethodName)) ∈ jT := jm9 (List.mem_of_getElem? (i := 150) rfl)
set_option maxRecDepth 100000 in
theorem jw2312 : (Jvm.Cond.instanceMethod ({ cls := "SchoolBoardModel", name := "counts", desc := "()V" } : Jvm.MethodName)) ∈ jT := jm9 (List.mem_of_getElem? (i := 152) rfl)
set_option maxRecDepth 100000 in
theorem jw2313 : (Jvm.Cond.code ({ cls := "SchoolBoardModel", name := "counts", desc := "()V" } : Jvm.MethodName) prog_14_method_77_code (3 : Nat) (Option.none : Option Jvm.ClassFile.FieldType)) ∈ jT := jm9 (List.mem_of_getElem? (i := 153) rfl)
set_option maxRecDepth 100000 in
theorem jw2314 : (Jvm.Cond.methodLink "SchoolBoardModel" (425 : Nat) ({ cls := "SchoolBoardModel", name := "ahead", desc := "(I)I" } : Jvm.MethodName)) ∈ jT := jm9 (List.mem_of_getElem? (i := 154) rfl)
set_option maxRecDepth 100000 in
theorem jw2316 : (Jvm.Cond.instanceMethod ({ cls := "SchoolBoardModel", name := "ahead", desc := "(I)I" } : Jvm.MethodName)) ∈ jT := jm9 (List.mem_of_getElem? (i := 156) rfl)
set_option maxRecDepth 100000 in
theorem jw2317 : (Jvm.Cond.code ({ cls := "SchoolBoardModel", name := "ahead", desc := "(I)I" } : Jvm.MethodName) prog_14_method_78_code (4 : Nat) (Option.some Jvm.ClassFile.FieldType.int)) ∈ jT := jm9 (List.mem_of_getElem? (i := 157) rfl)
set_option maxRecDepth 100000 in
theorem jw2318 : (Jvm.Cond.methodLink "SchoolBoardLaw" (190 : Nat) ({ cls := "SchoolBoardModel", name := "sure", desc := "(I)I" } : Jvm.MethodName)) ∈ jT := jm9 (List.mem_of_getElem? (i := 158) rfl)
set_option maxRecDepth 100000 in
theorem jw2319 : (Jvm.Cond.instanceMethod ({ cls := "SchoolBoardModel", name := "sure", desc := "(I)I" } : Jvm.MethodName)) ∈ jT := jm9 (List.mem_of_getElem? (i := 159) rfl)
set_option maxRecDepth 100000 in
theorem jw2320 : (Jvm.Cond.selects "SchoolBoardModel" ({ cls := "SchoolBoardModel", name := "sure", desc := "(I)I" } : Jvm.MethodName) ({ cls := "SchoolBoardModel", name := "sure", desc := "(I)I" } : Jvm.MethodName)) ∈ jT := jm9 (List.mem_of_getElem? (i := 160) rfl)
set_option maxRecDepth 100000 in
theorem jw2321 : (Jvm.Cond.code ({ cls := "SchoolBoardModel", name := "sure", desc := "(I)I" } : Jvm.MethodName) prog_14_method_81_code (4 : Nat) (Option.some Jvm.ClassFile.FieldType.int)) ∈ jT := jm9 (List.mem_of_getElem? (i := 161) rfl)
set_option maxRecDepth 100000 in
theorem jw2322 : (Jvm.Cond.methodLink "SchoolBoardModel" (428 : Nat) ({ cls := "SchoolBoardModel", name := "isSure", desc := "(II)Z" } : Jvm.MethodName)) ∈ jT := jm9 (List.mem_of_getElem? (i := 162) rfl)
set_option maxRecDepth 100000 in
theorem jw2324 : (Jvm.Cond.instanceMethod ({ cls := "SchoolBoardModel", name := "isSure", desc := "(II)Z" } : Jvm.MethodName)) ∈ jT := jm9 (List.mem_of_getElem? (i := 164) rfl)
set_option maxRecDepth 100000 in
theorem jw2325 : (Jvm.Cond.code ({ cls := "SchoolBoardModel", name := "isSure", desc := "(II)Z" } : Jvm.MethodName) prog_14_method_80_code (7 : Nat) (Option.some Jvm.ClassFile.FieldType.boolean)) ∈ jT := jm9 (List.mem_of_getElem? (i := 165) rfl)
set_option maxRecDepth 100000 in
theorem jw2326 : (Jvm.Cond.methodLink "SchoolBoardLaw" (194 : Nat) ({ cls := "SchoolBoardModel", name := "house", desc := "(I)I" } : Jvm.MethodName)) ∈ jT := jm9 (List.mem_of_getElem? (i := 166) rfl)
set_option maxRecDepth 100000 in
theorem jw2327 : (Jvm.Cond.instanceMethod ({ cls := "SchoolBoardModel", name := "house", desc := "(I)I" } : Jvm.MethodName)) ∈ jT := jm9 (List.mem_of_getElem? (i := 167) rfl)
set_option maxRecDepth 100000 in
theorem jw2328 : (Jvm.Cond.selects "SchoolBoardModel" ({ cls := "SchoolBoardModel", name := "house", desc := "(I)I" } : Jvm.MethodName) ({ cls := "SchoolBoardModel", name := "house", desc := "(I)I" } : Jvm.MethodName)) ∈ jT := jm9 (List.mem_of_getElem? (i := 168) rfl)
set_option maxRecDepth 100000 in
theorem jw2329 : (Jvm.Cond.code ({ cls := "SchoolBoardModel", name := "house", desc := "(I)I" } : Jvm.MethodName) prog_14_method_82_code (2 : Nat) (Option.some Jvm.ClassFile.FieldType.int)) ∈ jT := jm9 (List.mem_of_getElem? (i := 169) rfl)
set_option maxRecDepth 100000 in
theorem jw2330 : (Jvm.Cond.methodLink "SchoolBoardLaw" (198 : Nat) ({ cls := "SchoolBoardModel", name := "rate", desc := "(II)I" } : Jvm.MethodName)) ∈ jT := jm9 (List.mem_of_getElem? (i := 170) rfl)
set_option maxRecDepth 100000 in
theorem jw2331 : (Jvm.Cond.instanceMethod ({ cls := "SchoolBoardModel", name := "rate", desc := "(II)I" } : Jvm.MethodName)) ∈ jT := jm9 (List.mem_of_getElem? (i := 171) rfl)
set_option maxRecDepth 100000 in
theorem jw2332 : (Jvm.Cond.selects "SchoolBoardModel" ({ cls := "SchoolBoardModel", name := "rate", desc := "(II)I" } : Jvm.MethodName) ({ cls := "SchoolBoardModel", name := "rate", desc := "(II)I" } : Jvm.MethodName)) ∈ jT := jm9 (List.mem_of_getElem? (i := 172) rfl)
set_option maxRecDepth 100000 in
theorem jw2333 : (Jvm.Cond.code ({ cls := "SchoolBoardModel", name := "rate", desc := "(II)I" } : Jvm.MethodName) prog_14_method_85_code (4 : Nat) (Option.some Jvm.ClassFile.FieldType.int)) ∈ jT := jm9 (List.mem_of_getElem? (i := 173) rfl)
set_option maxRecDepth 100000 in
theorem jw2334 : (Jvm.Cond.constant "SchoolBoardModel" (437 : Nat) (9999999 : Int32)) ∈ jT := jm9 (List.mem_of_getElem? (i := 174) rfl)
set_option maxRecDepth 100000 in
theorem jw2335 : (Jvm.Cond.methodLink "SchoolBoardModel" (438 : Nat) ({ cls := "SchoolBoardModel", name := "comes", desc := "(I)I" } : Jvm.MethodName)) ∈ jT := jm9 (List.mem_of_getElem? (i := 175) rfl)
set_option maxRecDepth 100000 in
theorem jw2337 : (Jvm.Cond.instanceMethod ({ cls := "SchoolBoardModel", name := "comes", desc := "(I)I" } : Jvm.MethodName)) ∈ jT := jm9 (List.mem_of_getElem? (i := 177) rfl)
set_option maxRecDepth 100000 in
theorem jw2338 : (Jvm.Cond.code ({ cls := "SchoolBoardModel", name := "comes", desc := "(I)I" } : Jvm.MethodName) prog_14_method_84_code (4 : Nat) (Option.some Jvm.ClassFile.FieldType.int)) ∈ jT := jm9 (List.mem_of_getElem? (i := 178) rfl)
set_option maxRecDepth 100000 in
theorem jw2339 : (Jvm.Cond.methodLink "SchoolBoardModel" (434 : Nat) ({ cls := "SchoolBoardModel", name := "pays", desc := "(II)I" } : Jvm.MethodName)) ∈ jT := jm9 (List.mem_of_getElem? (i := 179) rfl)
set_option maxRecDepth 100000 in
theorem jw2341 : (Jvm.Cond.instanceMethod ({ cls := "SchoolBoardModel", name := "pays", desc := "(II)I" } : Jvm.MethodName)) ∈ jT := jm9 (List.mem_of_getElem? (i := 181) rfl)
set_option maxRecDepth 100000 in
theorem jw2342 : (Jvm.Cond.code ({ cls := "SchoolBoardModel", name := "pays", desc := "(II)I" } : Jvm.MethodName) prog_14_method_83_code (5 : Nat) (Option.some Jvm.ClassFile.FieldType.int)) ∈ jT := jm9 (List.mem_of_getElem? (i := 182) rfl)
set_option maxRecDepth 100000 in
theorem jw2343 : (Jvm.Cond.methodLink "SchoolBoardLaw" (129 : Nat) ({ cls := "SchoolBoardModel", name := "feed", desc := "(IIIII)I" } : Jvm.MethodName)) ∈ jT := jm9 (List.mem_of_getElem? (i := 183) rfl)
set_option maxRecDepth 100000 in
theorem jw2344 : (Jvm.Cond.instanceMethod ({ cls := "SchoolBoardModel", name := "feed", desc := "(IIIII)I" } : Jvm.MethodName)) ∈ jT := jm9 (List.mem_of_getElem? (i := 184) rfl)
set_option maxRecDepth 100000 in
theorem jw2345 : (Jvm.Cond.selects "SchoolBoardModel" ({ cls := "SchoolBoardModel", name := "feed", desc := "(IIIII)I" } : Jvm.MethodName) ({ cls := "SchoolBoardModel", name := "feed", desc := "(IIIII)I" } : Jvm.MethodName)) ∈ jT := jm9 (List.mem_of_getElem? (i := 185) rfl)
set_option maxRecDepth 100000 in
theorem jw2346 : (Jvm.Cond.code ({ cls := "SchoolBoardModel", name := "feed", desc := "(IIIII)I" } : Jvm.MethodName) prog_14_method_87_code (6 : Nat) (Option.some Jvm.ClassFile.FieldType.int)) ∈ jT := jm9 (List.mem_of_getElem? (i := 186) rfl)
set_option maxRecDepth 100000 in
theorem jw2347 : (Jvm.Cond.methodLink "SchoolBoardModel" (444 : Nat) ({ cls := "SchoolBoardModel", name := "four", desc := "(I)V" } : Jvm.MethodName)) ∈ jT := jm9 (List.mem_of_getElem? (i := 187) rfl)
set_option maxRecDepth 100000 in
theorem jw2349 : (Jvm.Cond.instanceMethod ({ cls := "SchoolBoardModel", name := "four", desc := "(I)V" } : Jvm.MethodName)) ∈ jT := jm9 (List.mem_of_getElem? (i := 189) rfl)
set_option maxRecDepth 100000 in
theorem jw2350 : (Jvm.Cond.code ({ cls := "SchoolBoardModel", name := "four", desc := "(I)V" } : Jvm.MethodName) prog_14_method_88_code (3 : Nat) (Option.none : Option Jvm.ClassFile.FieldType)) ∈ jT := jm9 (List.mem_of_getElem? (i := 190) rfl)
set_option maxRecDepth 100000 in
theorem jw2351 : (Jvm.Cond.methodLink "SchoolBoardLaw" (133 : Nat) ({ cls := "SchoolBoardModel", name := "act", desc := "(II)I" } : Jvm.MethodName)) ∈ jT := jm9 (List.mem_of_getElem? (i := 191) rfl)
set_option maxRecDepth 100000 in
theorem jw2352 : (Jvm.Cond.instanceMethod ({ cls := "SchoolBoardModel", name := "act", desc := "(II)I" } : Jvm.MethodName)) ∈ jT := jm9 (List.mem_of_getElem? (i := 192) rfl)
set_option maxRecDepth 100000 in
theorem jw2353 : (Jvm.Cond.selects "SchoolBoardModel" ({ cls := "SchoolBoardModel", name := "act", desc := "(II)I" } : Jvm.MethodName) ({ cls := "SchoolBoardModel", name := "act", desc := "(II)I" } : Jvm.MethodName)) ∈ jT := jm9 (List.mem_of_getElem? (i := 193) rfl)
set_option maxRecDepth 100000 in
theorem jw2354 : (Jvm.Cond.code ({ cls := "SchoolBoardModel", name := "act", desc := "(II)I" } : Jvm.MethodName) prog_14_method_106_code (5 : Nat) (Option.some Jvm.ClassFile.FieldType.int)) ∈ jT := jm9 (List.mem_of_getElem? (i := 194) rfl)
set_option maxRecDepth 100000 in
theorem jw2355 : (Jvm.Cond.methodLink "SchoolBoardModel" (454 : Nat) ({ cls := "SchoolBoardModel", name := "blanks", desc := "()V" } : Jvm.MethodName)) ∈ jT := jm9 (List.mem_of_getElem? (i := 195) rfl)
set_option maxRecDepth 100000 in
theorem jw2357 : (Jvm.Cond.instanceMethod ({ cls := "SchoolBoardModel", name := "blanks", desc := "()V" } : Jvm.MethodName)) ∈ jT := jm9 (List.mem_of_getElem? (i := 197) rfl)
set_option maxRecDepth 100000 in
theorem jw2358 : (Jvm.Cond.code ({ cls := "SchoolBoardModel", name := "blanks", desc := "()V" } : Jvm.MethodName) prog_14_method_89_code (1 : Nat) (Option.none : Option Jvm.ClassFile.FieldType)) ∈ jT := jm9 (List.mem_of_getElem? (i := 198) rfl)
set_option maxRecDepth 100000 in
theorem jw2359 : (Jvm.Cond.methodLink "SchoolBoardModel" (597 : Nat) ({ cls := "SchoolBoardModel", name := "statement", desc := "(I)Z" } : Jvm.MethodName)) ∈ jT := jm9 (List.mem_of_getElem? (i := 199) rfl)
set_option maxRecDepth 100000 in
theorem jw2361 : (Jvm.Cond.instanceMethod ({ cls := "SchoolBoardModel", name := "statement", desc := "(I)Z" } : Jvm.MethodName)) ∈ jT := jm9 (List.mem_of_getElem? (i := 201) rfl)
set_option maxRecDepth 100000 in
theorem jw2362 : (Jvm.Cond.code ({ cls := "SchoolBoardModel", name := "statement", desc := "(I)Z" } : Jvm.MethodName) prog_14_method_105_code (3 : Nat) (Option.some Jvm.ClassFile.FieldType.boolean)) ∈ jT := jm9 (List.mem_of_getElem? (i := 202) rfl)
set_option maxRecDepth 100000 in
theorem jw2363 : (Jvm.Cond.constantLong "SchoolBoardModel" (587 : Nat) (1869441396 : Int64)) ∈ jT := jm9 (List.mem_of_getElem? (i := 203) rfl)
set_option maxRecDepth 100000 in
theorem jw2364 : (Jvm.Cond.methodLink "SchoolBoardModel" (474 : Nat) ({ cls := "SchoolBoardModel", name := "takes", desc := "(J)Z" } : Jvm.MethodName)) ∈ jT := jm9 (List.mem_of_getElem? (i := 204) rfl)
set_option maxRecDepth 100000 in
theorem jw2366 : (Jvm.Cond.instanceMethod ({ cls := "SchoolBoardModel", name := "takes", desc := "(J)Z" } : Jvm.MethodName)) ∈ jT := jm9 (List.mem_of_getElem? (i := 206) rfl)
set_option maxRecDepth 100000 in
theorem jw2367 : (Jvm.Cond.code ({ cls := "SchoolBoardModel", name := "takes", desc := "(J)Z" } : Jvm.MethodName) prog_14_method_90_code (6 : Nat) (Option.some Jvm.ClassFile.FieldType.boolean)) ∈ jT := jm9 (List.mem_of_getElem? (i := 207) rfl)
set_option maxRecDepth 100000 in
theorem jw2368 : (Jvm.Cond.constantLong "SchoolBoardModel" (589 : Nat) (109317142704997 : Int64)) ∈ jT := jm9 (List.mem_of_getElem? (i := 208) rfl)
set_option maxRecDepth 100000 in
theorem jw2369 : (Jvm.Cond.methodLink "SchoolBoardModel" (460 : Nat) ({ cls := "SchoolBoardModel", name := "takesNumber", desc := "(II)Z" } : Jvm.MethodName)) ∈ jT := jm9 (List.mem_of_getElem? (i := 209) rfl)
set_option maxRecDepth 100000 in
theorem jw2371 : (Jvm.Cond.instanceMethod ({ cls := "SchoolBoardModel", name := "takesNumber", desc := "(II)Z" } : Jvm.MethodName)) ∈ jT := jm9 (List.mem_of_getElem? (i := 211) rfl)
set_option maxRecDepth 100000 in
theorem jw2372 : (Jvm.Cond.code ({ cls := "SchoolBoardModel", name := "takesNumber", desc := "(II)Z" } : Jvm.MethodName) prog_14_method_92_code (4 : Nat) (Option.some Jvm.ClassFile.FieldType.boolean)) ∈ jT := jm9 (List.mem_of_getElem? (i := 212) rfl)
set_option maxRecDepth 100000 in
theorem jw2373 : (Jvm.Cond.methodLink "SchoolBoardModel" (512 : Nat) ({ cls := "SchoolBoardModel", name := "takesSign", desc := "(I)Z" } : Jvm.MethodName)) ∈ jT := jm9 (List.mem_of_getElem? (i := 213) rfl)
set_option maxRecDepth 100000 in
theorem jw2375 : (Jvm.Cond.instanceMethod ({ cls := "SchoolBoardModel", name := "takesSign", desc := "(I)Z" } : Jvm.MethodName)) ∈ jT := jm9 (List.mem_of_getElem? (i := 215) rfl)
set_option maxRecDepth 100000 in
theorem jw2376 : (Jvm.Cond.code ({ cls := "SchoolBoardModel", name := "takesSign", desc := "(I)Z" } : Jvm.MethodName) prog_14_method_91_code (2 : Nat) (Option.some Jvm.ClassFile.FieldType.boolean)) ∈ jT := jm9 (List.mem_of_getElem? (i := 216) rfl)
set_option maxRecDepth 100000 in
theorem jw2377 : (Jvm.Cond.methodLink "SchoolBoardModel" (591 : Nat) ({ cls := "SchoolBoardModel", name := "reads", desc := "(I)Z" } : Jvm.MethodName)) ∈ jT := jm9 (List.mem_of_getElem? (i := 217) rfl)
set_option maxRecDepth 100000 in
theorem jw2379 : (Jvm.Cond.instanceMethod ({ cls := "SchoolBoardModel", name := "reads", desc := "(I)Z" } : Jvm.MethodName)) ∈ jT := jm9 (List.mem_of_getElem? (i := 219) rfl)
set_option maxRecDepth 100000 in
theorem jw2380 : (Jvm.Cond.code ({ cls := "SchoolBoardModel", name := "reads", desc := "(I)Z" } : Jvm.MethodName) prog_14_method_104_code (4 : Nat) (Option.some Jvm.ClassFile.FieldType.boolean)) ∈ jT := jm9 (List.mem_of_getElem? (i := 220) rfl)
set_option maxRecDepth 100000 in
theorem jw2381 : (Jvm.Cond.constantLong "SchoolBoardModel" (546 : Nat) (6513008 : Int64)) ∈ jT := jm9 (List.mem_of_getElem? (i := 221) rfl)
set_option maxRecDepth 100000 in
theorem jw2382 : (Jvm.Cond.methodLink "SchoolBoardModel" (535 : Nat) ({ cls := "SchoolBoardModel", name := "plain", desc := "(II)Z" } : Jvm.MethodName)) ∈ jT := jm9 (List.mem_of_getElem? (i := 222) rfl)
set_option maxRecDepth 100000 in
theorem jw2384 : (Jvm.Cond.instanceMethod ({ cls := "SchoolBoardModel", name := "plain", desc := "(II)Z" } : Jvm.MethodName)) ∈ jT := jm9 (List.mem_of_getElem? (i := 224) rfl)
set_option maxRecDepth 100000 in
theorem jw2385 : (Jvm.Cond.code ({ cls := "SchoolBoardModel", name := "plain", desc := "(II)Z" } : Jvm.MethodName) prog_14_method_101_code (3 : Nat) (Option.some Jvm.ClassFile.FieldType.boolean)) ∈ jT := jm9 (List.mem_of_getElem? (i := 225) rfl)
set_option maxRecDepth 100000 in
theorem jw2386 : (Jvm.Cond.methodLink "SchoolBoardModel" (521 : Nat) ({ cls := "SchoolBoardModel", name := "takesPlain", desc := "()Z" } : Jvm.MethodName)) ∈ jT := jm9 (List.mem_of_getElem? (i := 226) rfl)
set_option maxRecDepth 100000 in
theorem jw2388 : (Jvm.Cond.instanceMethod ({ cls := "SchoolBoardModel", name := "takesPlain", desc := "()Z" } : Jvm.MethodName)) ∈ jT := jm9 (List.mem_of_getElem? (i := 228) rfl)
set_option maxRecDepth 100000 in
theorem jw2389 : (Jvm.Cond.code ({ cls := "SchoolBoardModel", name := "takesPlain", desc := "()Z" } : Jvm.MethodName) prog_14_method_93_code (1 : Nat) (Option.some Jvm.ClassFile.FieldType.boolean)) ∈ jT := jm9 (List.mem_of_getElem? (i := 229) rfl)
set_option maxRecDepth 100000 in
theorem jw2390 : (Jvm.Cond.constantLong "SchoolBoardModel" (548 : Nat) (1919905645 : Int64)) ∈ jT := jm9 (List.mem_of_getElem? (i := 230) rfl)
set_option maxRecDepth 100000 in
theorem jw2391 : (Jvm.Cond.constantLong "SchoolBoardModel" (550 : Nat) (495873779302 : Int64)) ∈ jT := jm9 (List.mem_of_getElem? (i := 231) rfl)
set_option maxRecDepth 100000 in
theorem jw2392 : (Jvm.Cond.constantLong "SchoolBoardModel" (552 : Nat) (1937007984 : Int64)) ∈ jT := jm9 (List.mem_of_getElem? (i := 232) rfl)
set_option maxRecDepth 100000 in
theorem jw2393 : (Jvm.Cond.constantLong "SchoolBoardModel" (554 : Nat) (495756340332 : Int64)) ∈ jT := jm9 (List.mem_of_getElem? (i := 233) rfl)
set_option maxRecDepth 100000 in
theorem jw2394 : (Jvm.Cond.constantLong "SchoolBoardModel" (556 : Nat) (7364985 : Int64)) ∈ jT := jm9 (List.mem_of_getElem? (i := 234) rfl)
set_option maxRecDepth 100000 in
theorem jw2395 : (Jvm.Cond.constantLong "SchoolBoardModel" (558 : Nat) (26995 : Int64)) ∈ jT := jm9 (List.mem_of_getElem? (i := 235) rfl)
set_option maxRecDepth 100000 in
theorem jw2396 : (Jvm.Cond.methodLink "SchoolBoardModel" (560 : Nat) ({ cls := "SchoolBoardModel", name := "pair", desc := "(IIIJI)Z" } : Jvm.MethodName)) ∈ jT := jm9 (List.mem_of_getElem? (i := 236) rfl)
set_option maxRecDepth 100000 in
theorem jw2398 : (Jvm.Cond.instanceMethod ({ cls := "SchoolBoardModel", name := "pair", desc := "(IIIJI)Z" } : Jvm.MethodName)) ∈ jT := jm9 (List.mem_of_getElem? (i := 238) rfl)
set_option maxRecDepth 100000 in
theorem jw2399 : (Jvm.Cond.code ({ cls := "SchoolBoardModel", name := "pair", desc := "(IIIJI)Z" } : Jvm.MethodName) prog_14_method_100_code (7 : Nat) (Option.some Jvm.ClassFile.FieldType.boolean)) ∈ jT := jm9 (List.mem_of_getElem? (i := 239) rfl)
set_option maxRecDepth 100000 in
theorem jw2400 : (Jvm.Cond.constantLong "SchoolBoardModel" (564 : Nat) (499917087592 : Int64)) ∈ jT := jm10 (List.mem_of_getElem? (i := 0) rfl)
set_option maxRecDepth 100000 in
theorem jw2401 : (Jvm.Cond.constantLong "SchoolBoardModel" (566 : Nat) (427071729268 : Int64)) ∈ jT := jm10 (List.mem_of_getElem? (i := 1) rfl)
set_option maxRecDepth 100000 in
theorem jw2402 : (Jvm.Cond.methodLink "SchoolBoardModel" (568 : Nat) ({ cls := "SchoolBoardModel", name := "counts", desc := "(I)Z" } : Jvm.MethodName)) ∈ jT := jm10 (List.mem_of_getElem? (i := 2) rfl)
set_option maxRecDepth 100000 in
theorem jw2404 : (Jvm.Cond.instanceMethod ({ cls := "SchoolBoardModel", name := "counts", desc := "(I)Z" } : Jvm.MethodName)) ∈ jT := jm10 (List.mem_of_getElem? (i := 4) rfl)
set_option maxRecDepth 100000 in
theorem jw2405 : (Jvm.Cond.code ({ cls := "SchoolBoardModel", name := "counts", desc := "(I)Z" } : Jvm.MethodName) prog_14_method_102_code (2 : Nat) (Option.some Jvm.ClassFile.FieldType.boolean)) ∈ jT := jm10 (List.mem_of_getElem? (i := 5) rfl)
set_option maxRecDepth 100000 in
theorem jw2406 : (Jvm.Cond.constantLong "SchoolBoardModel" (527 : Nat) (31650977444884084 : Int64)) ∈ jT := jm10 (List.mem_of_getElem? (i := 6) rfl)
set_option maxRecDepth 100000 in
theorem jw2407 : (Jvm.Cond.constantLong "SchoolBoardModel" (529 : Nat) (1818326117 : Int64)) ∈ jT := jm10 (List.mem_of_getElem? (i := 7) rfl)
set_option maxRecDepth 100000 in
theorem jw2408 : (Jvm.Cond.constantLong "SchoolBoardModel" (531 : Nat) (2003792491 : Int64)) ∈ jT := jm10 (List.mem_of_getElem? (i := 8) rfl)
set_option maxRecDepth 100000 in
theorem jw2409 : (Jvm.Cond.constantLong "SchoolBoardModel" (533 : Nat) (24947 : Int64)) ∈ jT := jm10 (List.mem_of_getElem? (i := 9) rfl)
set_option maxRecDepth 100000 in
theorem jw2410 : (Jvm.Cond.constantLong "SchoolBoardModel" (570 : Nat) (111567739122533 : Int64)) ∈ jT := jm10 (List.mem_of_getElem? (i := 10) rfl)
set_option maxRecDepth 100000 in
theorem jw2411 : (Jvm.Cond.constantLong "SchoolBoardModel" (544 : Nat) (1885434739 : Int64)) ∈ jT := jm10 (List.mem_of_getElem? (i := 11) rfl)
set_option maxRecDepth 100000 in
theorem jw2412 : (Jvm.Cond.constantLong "SchoolBoardModel" (572 : Nat) (474147546227 : Int64)) ∈ jT := jm10 (List.mem_of_getElem? (i := 12) rfl)
set_option maxRecDepth 100000 in
theorem jw2413 : (Jvm.Cond.constantLong "SchoolBoardModel" (574 : Nat) (444300619380 : Int64)) ∈ jT := jm10 (List.mem_of_getElem? (i := 13) rfl)
set_option maxRecDepth 100000 in
theorem jw2414 : (Jvm.Cond.methodLink "SchoolBoardModel" (576 : Nat) ({ cls := "SchoolBoardModel", name := "grants", desc := "(I)Z" } : Jvm.MethodName)) ∈ jT := jm10 (List.mem_of_getElem? (i := 14) rfl)
set_option maxRecDepth 100000 in
theorem jw2416 : (Jvm.Cond.instanceMethod ({ cls := "SchoolBoardModel", name := "grants", desc := "(I)Z" } : Jvm.MethodName)) ∈ jT := jm10 (List.mem_of_getElem? (i := 16) rfl)
set_option maxRecDepth 100000 in
theorem jw2417 : (Jvm.Cond.code ({ cls := "SchoolBoardModel", name := "grants", desc := "(I)Z" } : Jvm.MethodName) prog_14_method_103_code (2 : Nat) (Option.some Jvm.ClassFile.FieldType.boolean)) ∈ jT := jm10 (List.mem_of_getElem? (i := 17) rfl)
set_option maxRecDepth 100000 in
theorem jw2418 : (Jvm.Cond.constantLong "SchoolBoardModel" (538 : Nat) (7366002 : Int64)) ∈ jT := jm10 (List.mem_of_getElem? (i := 18) rfl)
set_option maxRecDepth 100000 in
theorem jw2419 : (Jvm.Cond.constantLong "SchoolBoardModel" (540 : Nat) (1751474532 : Int64)) ∈ jT := jm10 (List.mem_of_getElem? (i := 19) rfl)
set_option maxRecDepth 100000 in
theorem jw2420 : (Jvm.Cond.constantLong "SchoolBoardModel" (542 : Nat) (426953501796 : Int64)) ∈ jT := jm10 (List.mem_of_getElem? (i := 20) rfl)
set_option maxRecDepth 100000 in
theorem jw2421 : (Jvm.Cond.constantLong "SchoolBoardModel" (491 : Nat) (1751215206 : Int64)) ∈ jT := jm10 (List.mem_of_getElem? (i := 21) rfl)
set_option maxRecDepth 100000 in
theorem jw2422 : (Jvm.Cond.constantLong "SchoolBoardModel" (578 : Nat) (107152796905060 : Int64)) ∈ jT := jm10 (List.mem_of_getElem? (i := 22) rfl)
set_option maxRecDepth 100000 in
theorem jw2423 : (Jvm.Cond.constantLong "SchoolBoardModel" (580 : Nat) (1919513445 : Int64)) ∈ jT := jm10 (List.mem_of_getElem? (i := 23) rfl)
set_option maxRecDepth 100000 in
theorem jw2424 : (Jvm.Cond.constantLong "SchoolBoardModel" (582 : Nat) (6710629 : Int64)) ∈ jT := jm10 (List.mem_of_getElem? (i := 24) rfl)
set_option maxRecDepth 100000 in
theorem jw2425 : (Jvm.Cond.methodLink "SchoolBoardModel" (584 : Nat) ({ cls := "SchoolBoardModel", name := "takesIf", desc := "(I)Z" } : Jvm.MethodName)) ∈ jT := jm10 (List.mem_of_getElem? (i := 25) rfl)
set_option maxRecDepth 100000 in
theorem jw2427 : (Jvm.Cond.instanceMethod ({ cls := "SchoolBoardModel", name := "takesIf", desc := "(I)Z" } : Jvm.MethodName)) ∈ jT := jm10 (List.mem_of_getElem? (i := 27) rfl)
set_option maxRecDepth 100000 in
theorem jw2428 : (Jvm.Cond.code ({ cls := "SchoolBoardModel", name := "takesIf", desc := "(I)Z" } : Jvm.MethodName) prog_14_method_99_code (2 : Nat) (Option.some Jvm.ClassFile.FieldType.boolean)) ∈ jT := jm10 (List.mem_of_getElem? (i := 28) rfl)
set_option maxRecDepth 100000 in
theorem jw2429 : (Jvm.Cond.constantLong "SchoolBoardModel" (525 : Nat) (26982 : Int64)) ∈ jT := jm10 (List.mem_of_getElem? (i := 29) rfl)
set_option maxRecDepth 100000 in
theorem jw2430 : (Jvm.Cond.methodLink "SchoolBoardModel" (515 : Nat) ({ cls := "SchoolBoardModel", name := "any", desc := "()I" } : Jvm.MethodName)) ∈ jT := jm10 (List.mem_of_getElem? (i := 30) rfl)
set_option maxRecDepth 100000 in
theorem jw2432 : (Jvm.Cond.instanceMethod ({ cls := "SchoolBoardModel", name := "any", desc := "()I" } : Jvm.MethodName)) ∈ jT := jm10 (List.mem_of_getElem? (i := 32) rfl)
set_option maxRecDepth 100000 in
theorem jw2433 : (Jvm.Cond.code ({ cls := "SchoolBoardModel", name := "any", desc := "()I" } : Jvm.MethodName) prog_14_method_95_code (4 : Nat) (Option.some Jvm.ClassFile.FieldType.int)) ∈ jT := jm10 (List.mem_of_getElem? (i := 33) rfl)
set_option maxRecDepth 100000 in
theorem jw2434 : (Jvm.Cond.methodLink "SchoolBoardModel" (466 : Nat) ({ cls := "SchoolBoardModel", name := "node", desc := "(I)I" } : Jvm.MethodName)) ∈ jT := jm10 (List.mem_of_getElem? (i := 34) rfl)
set_option maxRecDepth 100000 in
theorem jw2436 : (Jvm.Cond.instanceMethod ({ cls := "SchoolBoardModel", name := "node", desc := "(I)I" } : Jvm.MethodName)) ∈ jT := jm10 (List.mem_of_getElem? (i := 36) rfl)
set_option maxRecDepth 100000 in
theorem jw2437 : (Jvm.Cond.code ({ cls := "SchoolBoardModel", name := "node", desc := "(I)I" } : Jvm.MethodName) prog_14_method_94_code (2 : Nat) (Option.some Jvm.ClassFile.FieldType.int)) ∈ jT := jm10 (List.mem_of_getElem? (i := 37) rfl)
set_option maxRecDepth 100000 in
theorem jw2438 : (Jvm.Cond.methodLink "SchoolBoardModel" (469 : Nat) ({ cls := "SchoolBoardModel", name := "all", desc := "()I" } : Jvm.MethodName)) ∈ jT := jm10 (List.mem_of_getElem? (i := 38) rfl)
set_option maxRecDepth 100000 in
theorem jw2440 : (Jvm.Cond.instanceMethod ({ cls := "SchoolBoardModel", name := "all", desc := "()I" } : Jvm.MethodName)) ∈ jT := jm10 (List.mem_of_getElem? (i := 40) rfl)
set_option maxRecDepth 100000 in
theorem jw2441 : (Jvm.Cond.code ({ cls := "SchoolBoardModel", name := "all", desc := "()I" } : Jvm.MethodName) prog_14_method_96_code (4 : Nat) (Option.some Jvm.ClassFile.FieldType.int)) ∈ jT := jm10 (List.mem_of_getElem? (i := 41) rfl)
set_option maxRecDepth 100000 in
theorem jw2442 : (Jvm.Cond.methodLink "SchoolBoardModel" (478 : Nat) ({ cls := "SchoolBoardModel", name := "single", desc := "()I" } : Jvm.MethodName)) ∈ jT := jm10 (List.mem_of_getElem? (i := 42) rfl)
set_option maxRecDepth 100000 in
theorem jw2444 : (Jvm.Cond.instanceMethod ({ cls := "SchoolBoardModel", name := "single", desc := "()I" } : Jvm.MethodName)) ∈ jT := jm10 (List.mem_of_getElem? (i := 44) rfl)
set_option maxRecDepth 100000 in
theorem jw2445 : (Jvm.Cond.code ({ cls := "SchoolBoardModel", name := "single", desc := "()I" } : Jvm.MethodName) prog_14_method_98_code (4 : Nat) (Option.some Jvm.ClassFile.FieldType.int)) ∈ jT := jm10 (List.mem_of_getElem? (i := 45) rfl)
set_option maxRecDepth 100000 in
theorem jw2446 : (Jvm.Cond.constantLong "SchoolBoardModel" (507 : Nat) (7237492 : Int64)) ∈ jT := jm10 (List.mem_of_getElem? (i := 46) rfl)
set_option maxRecDepth 100000 in
theorem jw2447 : (Jvm.Cond.methodLink "SchoolBoardModel" (518 : Nat) ({ cls := "SchoolBoardModel", name := "name", desc := "()I" } : Jvm.MethodName)) ∈ jT := jm10 (List.mem_of_getElem? (i := 47) rfl)
set_option maxRecDepth 100000 in
theorem jw2449 : (Jvm.Cond.instanceMethod ({ cls := "SchoolBoardModel", name := "name", desc := "()I" } : Jvm.MethodName)) ∈ jT := jm10 (List.mem_of_getElem? (i := 49) rfl)
set_option maxRecDepth 100000 in
theorem jw2450 : (Jvm.Cond.code ({ cls := "SchoolBoardModel", name := "name", desc := "()I" } : Jvm.MethodName) prog_14_method_97_code (1 : Nat) (Option.some Jvm.ClassFile.FieldType.int)) ∈ jT := jm10 (List.mem_of_getElem? (i := 50) rfl)
set_option maxRecDepth 100000 in
theorem jw2451 : (Jvm.Cond.constantLong "SchoolBoardModel" (483 : Nat) (6383461 : Int64)) ∈ jT := jm10 (List.mem_of_getElem? (i := 51) rfl)
set_option maxRecDepth 100000 in
theorem jw2452 : (Jvm.Cond.constantLong "SchoolBoardModel" (485 : Nat) (8319381538418553444 : Int64)) ∈ jT := jm10 (List.mem_of_getElem? (i := 52) rfl)
set_option maxRecDepth 100000 in
theorem jw2453 : (Jvm.Cond.constantLong "SchoolBoardModel" (487 : Nat) (6578553 : Int64)) ∈ jT := jm10 (List.mem_of_getElem? (i := 53) rfl)
set_option maxRecDepth 100000 in
theorem jw2454 : (Jvm.Cond.constantLong "SchoolBoardModel" (489 : Nat) (2036687218 : Int64)) ∈ jT := jm10 (List.mem_of_getElem? (i := 54) rfl)
set_option maxRecDepth 100000 in
theorem jw2455 : (Jvm.Cond.constantLong "SchoolBoardModel" (493 : Nat) (28561341215368548 : Int64)) ∈ jT := jm10 (List.mem_of_getElem? (i := 55) rfl)
set_option maxRecDepth 100000 in
theorem jw2456 : (Jvm.Cond.constantLong "SchoolBoardModel" (495 : Nat) (499984983410 : Int64)) ∈ jT := jm10 (List.mem_of_getElem? (i := 56) rfl)
set_option maxRecDepth 100000 in
theorem jw2457 : (Jvm.Cond.constantLong "SchoolBoardModel" (497 : Nat) (123563851081075 : Int64)) ∈ jT := jm10 (List.mem_of_getElem? (i := 57) rfl)
set_option maxRecDepth 100000 in
theorem jw2458 : (Jvm.Cond.constantLong "SchoolBoardModel" (499 : Nat) (8175547842767975027 : Int64)) ∈ jT := jm10 (List.mem_of_getElem? (i := 58) rfl)
set_option maxRecDepth 100000 in
theorem jw2459 : (Jvm.Cond.constantLong "SchoolBoardModel" (501 : Nat) (32498687873999732 : Int64)) ∈ jT := jm10 (List.mem_of_getElem? (i := 59) rfl)
set_option maxRecDepth 100000 in
theorem jw2460 : (Jvm.Cond.constantLong "SchoolBoardModel" (503 : Nat) (1835102827 : Int64)) ∈ jT := jm10 (List.mem_of_getElem? (i := 60) rfl)
set_option maxRecDepth 100000 in
theorem jw2461 : (Jvm.Cond.constantLong "SchoolBoardModel" (505 : Nat) (1886351218 : Int64)) ∈ jT := jm10 (List.mem_of_getElem? (i := 61) rfl)
set_option maxRecDepth 100000 in
theorem jw2462 : (Jvm.Cond.constantLong "SchoolBoardModel" (481 : Nat) (6385252 : Int64)) ∈ jT := jm10 (List.mem_of_getElem? (i := 62) rfl)
set_option maxRecDepth 100000 in
theorem jw2463 : (Jvm.Cond.constantLong "SchoolBoardModel" (472 : Nat) (28530 : Int64)) ∈ jT := jm10 (List.mem_of_getElem? (i := 63) rfl)
set_option maxRecDepth 100000 in
theorem jw2464 : (Jvm.Cond.methodLink "SchoolBoardLaw" (138 : Nat) ({ cls := "SchoolBoardModel", name := "fault", desc := "()I" } : Jvm.MethodName)) ∈ jT := jm10 (List.mem_of_getElem? (i := 64) rfl)
set_option maxRecDepth 100000 in
theorem jw2465 : (Jvm.Cond.instanceMethod ({ cls := "SchoolBoardModel", name := "fault", desc := "()I" } : Jvm.MethodName)) ∈ jT := jm10 (List.mem_of_getElem? (i := 65) rfl)
set_option maxRecDepth 100000 in
theorem jw2466 : (Jvm.Cond.selects "SchoolBoardModel" ({ cls := "SchoolBoardModel", name := "fault", desc := "()I" } : Jvm.MethodName) ({ cls := "SchoolBoardModel", name := "fault", desc := "()I" } : Jvm.MethodName)) ∈ jT := jm10 (List.mem_of_getElem? (i := 66) rfl)
set_option maxRecDepth 100000 in
theorem jw2467 : (Jvm.Cond.code ({ cls := "SchoolBoardModel", name := "fault", desc := "()I" } : Jvm.MethodName) prog_14_method_107_code (1 : Nat) (Option.some Jvm.ClassFile.FieldType.int)) ∈ jT := jm10 (List.mem_of_getElem? (i := 67) rfl)
set_option maxRecDepth 100000 in
theorem jw2468 : (Jvm.Cond.methodLink "SchoolBoardLaw" (146 : Nat) ({ cls := "SchoolBoardModel", name := "clause", desc := "(III)I" } : Jvm.MethodName)) ∈ jT := jm10 (List.mem_of_getElem? (i := 68) rfl)
set_option maxRecDepth 100000 in
theorem jw2469 : (Jvm.Cond.instanceMethod ({ cls := "SchoolBoardModel", name := "clause", desc := "(III)I" } : Jvm.MethodName)) ∈ jT := jm10 (List.mem_of_getElem? (i := 69) rfl)
set_option maxRecDepth 100000 in
theorem jw2470 : (Jvm.Cond.selects "SchoolBoardModel" ({ cls := "SchoolBoardModel", name := "clause", desc := "(III)I" } : Jvm.MethodName) ({ cls := "SchoolBoardModel", name := "clause", desc := "(III)I" } : Jvm.MethodName)) ∈ jT := jm10 (List.mem_of_getElem? (i := 70) rfl)
set_option maxRecDepth 100000 in
theorem jw2471 : (Jvm.Cond.code ({ cls := "SchoolBoardModel", name := "clause", desc := "(III)I" } : Jvm.MethodName) prog_14_method_114_code (8 : Nat) (Option.some Jvm.ClassFile.FieldType.int)) ∈ jT := jm10 (List.mem_of_getElem? (i := 71) rfl)
set_option maxRecDepth 100000 in
theorem jw2472 : (Jvm.Cond.methodLink "SchoolBoardLaw" (142 : Nat) ({ cls := "SchoolBoardModel", name := "written", desc := "(II)I" } : Jvm.MethodName)) ∈ jT := jm10 (List.mem_of_getElem? (i := 72) rfl)
set_option maxRecDepth 100000 in
theorem jw2473 : (Jvm.Cond.instanceMethod ({ cls := "SchoolBoardModel", name := "written", desc := "(II)I" } : Jvm.MethodName)) ∈ jT := jm10 (List.mem_of_getElem? (i := 73) rfl)
set_option maxRecDepth 100000 in
theorem jw2474 : (Jvm.Cond.selects "SchoolBoardModel" ({ cls := "SchoolBoardModel", name := "written", desc := "(II)I" } : Jvm.MethodName) ({ cls := "SchoolBoardModel", name := "written", desc := "(II)I" } : Jvm.MethodName)) ∈ jT := jm10 (List.mem_of_getElem? (i := 74) rfl)
set_option maxRecDepth 100000 in
theorem jw2475 : (Jvm.Cond.code ({ cls := "SchoolBoardModel", name := "written", desc := "(II)I" } : Jvm.MethodName) prog_14_method_123_code (5 : Nat) (Option.some Jvm.ClassFile.FieldType.int)) ∈ jT := jm10 (List.mem_of_getElem? (i := 75) rfl)
set_option maxRecDepth 100000 in
theorem jw2476 : (Jvm.Cond.methodLink "SchoolBoardModel" (627 : Nat) ({ cls := "SchoolBoardModel", name := "writesWord", desc := "(J)V" } : Jvm.MethodName)) ∈ jT := jm10 (List.mem_of_getElem? (i := 76) rfl)
set_option maxRecDepth 100000 in
theorem jw2478 : (Jvm.Cond.instanceMethod ({ cls := "SchoolBoardModel", name := "writesWord", desc := "(J)V" } : Jvm.MethodName)) ∈ jT := jm10 (List.mem_of_getElem? (i := 78) rfl)
set_option maxRecDepth 100000 in
theorem jw2479 : (Jvm.Cond.code ({ cls := "SchoolBoardModel", name := "writesWord", desc := "(J)V" } : Jvm.MethodName) prog_14_method_116_code (4 : Nat) (Option.none : Option Jvm.ClassFile.FieldType)) ∈ jT := jm10 (List.mem_of_getElem? (i := 79) rfl)
set_option maxRecDepth 100000 in
theorem jw2480 : (Jvm.Cond.methodLink "SchoolBoardModel" (615 : Nat) ({ cls := "SchoolBoardModel", name := "writes", desc := "(I)V" } : Jvm.MethodName)) ∈ jT := jm10 (List.mem_of_getElem? (i := 80) rfl)
set_option maxRecDepth 100000 in
theorem jw2482 : (Jvm.Cond.instanceMethod ({ cls := "SchoolBoardModel", name := "writes", desc := "(I)V" } : Jvm.MethodName)) ∈ jT := jm10 (List.mem_of_getElem? (i := 82) rfl)
set_option maxRecDepth 100000 in
theorem jw2483 : (Jvm.Cond.code ({ cls := "SchoolBoardModel", name := "writes", desc := "(I)V" } : Jvm.MethodName) prog_14_method_115_code (2 : Nat) (Option.none : Option Jvm.ClassFile.FieldType)) ∈ jT := jm10 (List.mem_of_getElem? (i := 83) rfl)
set_option maxRecDepth 100000 in
theorem jw2484 : (Jvm.Cond.constantLong "SchoolBoardModel" (618 : Nat) (255 : Int64)) ∈ jT := jm10 (List.mem_of_getElem? (i := 84) rfl)
set_option maxRecDepth 100000 in
theorem jw2485 : (Jvm.Cond.methodLink "SchoolBoardModel" (631 : Nat) ({ cls := "SchoolBoardModel", name := "writesNumber", desc := "(I)V" } : Jvm.MethodName)) ∈ jT := jm10 (List.mem_of_getElem? (i := 85) rfl)
set_option maxRecDepth 100000 in
theorem jw2487 : (Jvm.Cond.instanceMethod ({ cls := "SchoolBoardModel", name := "writesNumber", desc := "(I)V" } : Jvm.MethodName)) ∈ jT := jm10 (List.mem_of_getElem? (i := 87) rfl)
set_option maxRecDepth 100000 in
theorem jw2488 : (Jvm.Cond.code ({ cls := "SchoolBoardModel", name := "writesNumber", desc := "(I)V" } : Jvm.MethodName) prog_14_method_117_code (3 : Nat) (Option.none : Option Jvm.ClassFile.FieldType)) ∈ jT := jm10 (List.mem_of_getElem? (i := 88) rfl)
set_option maxRecDepth 100000 in
theorem jw2489 : (Jvm.Cond.methodLink "SchoolBoardModel" (640 : Nat) ({ cls := "SchoolBoardModel", name := "writesBody", desc := "(I)V" } : Jvm.MethodName)) ∈ jT := jm10 (List.mem_of_getElem? (i := 89) rfl)
set_option maxRecDepth 100000 in
theorem jw2491 : (Jvm.Cond.instanceMethod ({ cls := "SchoolBoardModel", name := "writesBody", desc := "(I)V" } : Jvm.MethodName)) ∈ jT := jm10 (List.mem_of_getElem? (i := 91) rfl)
set_option maxRecDepth 100000 in
theorem jw2492 : (Jvm.Cond.code ({ cls := "SchoolBoardModel", name := "writesBody", desc := "(I)V" } : Jvm.MethodName) prog_14_method_122_code (2 : Nat) (Option.none : Option Jvm.ClassFile.FieldType)) ∈ jT := jm10 (List.mem_of_getElem? (i := 92) rfl)
set_option maxRecDepth 100000 in
theorem jw2493 : (Jvm.Cond.methodLink "SchoolBoardModel" (637 : Nat) ({ cls := "SchoolBoardModel", name := "wordOf", desc := "(I)J" } : Jvm.MethodName)) ∈ jT := jm10 (List.mem_of_getElem? (i := 93) rfl)
set_option maxRecDepth 100000 in
theorem jw2494 : (Jvm.Cond.static ({ cls := "SchoolBoardModel", name := "wordOf", desc := "(I)J" } : Jvm.MethodName)) ∈ jT := jm10 (List.mem_of_getElem? (i := 94) rfl)
set_option maxRecDepth 100000 in
theorem jw2495 : (Jvm.Cond.code ({ cls := "SchoolBoardModel", name := "wordOf", desc := "(I)J" } : Jvm.MethodName) prog_14_method_121_code (1 : Nat) (Option.some Jvm.ClassFile.FieldType.long)) ∈ jT := jm10 (List.mem_of_getElem? (i := 95) rfl)
set_option maxRecDepth 100000 in
theorem jw2496 : (Jvm.Cond.methodLink "SchoolBoardModel" (634 : Nat) ({ cls := "SchoolBoardModel", name := "writesNode", desc := "(II)V" } : Jvm.MethodName)) ∈ jT := jm10 (List.mem_of_getElem? (i := 96) rfl)
set_option maxRecDepth 100000 in
theorem jw2498 : (Jvm.Cond.instanceMethod ({ cls := "SchoolBoardModel", name := "writesNode", desc := "(II)V" } : Jvm.MethodName)) ∈ jT := jm10 (List.mem_of_getElem? (i := 98) rfl)
set_option maxRecDepth 100000 in
theorem jw2499 : (Jvm.Cond.code ({ cls := "SchoolBoardModel", name := "writesNode", desc := "(II)V" } : Jvm.MethodName) prog_14_method_119_code (6 : Nat) (Option.none : Option Jvm.ClassFile.FieldType)) ∈ jT := jm10 (List.mem_of_getElem? (i := 99) rfl)
set_option maxRecDepth 100000 in
theorem jw2500 : (Jvm.Cond.methodLink "SchoolBoardModel" (620 : Nat) ({ cls := "SchoolBoardModel", name := "close", desc := "(I)I" } : Jvm.MethodName)) ∈ jT := jm10 (List.mem_of_getElem? (i := 100) rfl)
set_option maxRecDepth 100000 in
theorem jw2502 : (Jvm.Cond.instanceMethod ({ cls := "SchoolBoardModel", name := "close", desc := "(I)I" } : Jvm.MethodName)) ∈ jT := jm10 (List.mem_of_getElem? (i := 102) rfl)
set_option maxRecDepth 100000 in
theorem jw2503 : (Jvm.Cond.code ({ cls := "SchoolBoardModel", name := "close", desc := "(I)I" } : Jvm.MethodName) prog_14_method_118_code (3 : Nat) (Option.some Jvm.ClassFile.FieldType.int)) ∈ jT := jm10 (List.mem_of_getElem? (i := 103) rfl)
set_option maxRecDepth 100000 in
theorem jw2504 : (Jvm.Cond.methodLink "SchoolBoardModel" (623 : Nat) ({ cls := "SchoolBoardModel", name := "nameOf", desc := "(I)J" } : Jvm.MethodName)) ∈ jT := jm10 (List.mem_of_getElem? (i := 104) rfl)
set_option maxRecDepth 100000 in
theorem jw2505 : (Jvm.Cond.static ({ cls := "SchoolBoardModel", name := "nameOf", desc := "(I)J" } : Jvm.MethodName)) ∈ jT := jm10 (List.mem_of_getElem? (i := 105) rfl)
set_option maxRecDepth 100000 in
theorem jw2506 : (Jvm.Cond.code ({ cls := "SchoolBoardModel", name := "nameOf", desc := "(I)J" } : Jvm.MethodName) prog_14_method_120_code (1 : Nat) (Option.some Jvm.ClassFile.FieldType.long)) ∈ jT := jm10 (List.mem_of_getElem? (i := 106) rfl)
set_option maxRecDepth 100000 in
theorem jw2507 : (Jvm.Cond.methodLink "SchoolBoardLaw" (202 : Nat) ({ cls := "SchoolBoardModel", name := "count", desc := "(I)I" } : Jvm.MethodName)) ∈ jT := jm10 (List.mem_of_getElem? (i := 107) rfl)
set_option maxRecDepth 100000 in
theorem jw2508 : (Jvm.Cond.instanceMethod ({ cls := "SchoolBoardModel", name := "count", desc := "(I)I" } : Jvm.MethodName)) ∈ jT := jm10 (List.mem_of_getElem? (i := 108) rfl)
set_option maxRecDepth 100000 in
theorem jw2509 : (Jvm.Cond.selects "SchoolBoardModel" ({ cls := "SchoolBoardModel", name := "count", desc := "(I)I" } : Jvm.MethodName) ({ cls := "SchoolBoardModel", name := "count", desc := "(I)I" } : Jvm.MethodName)) ∈ jT := jm10 (List.mem_of_getElem? (i := 109) rfl)
set_option maxRecDepth 100000 in
theorem jw2510 : (Jvm.Cond.code ({ cls := "SchoolBoardModel", name := "count", desc := "(I)I" } : Jvm.MethodName) prog_14_method_124_code (2 : Nat) (Option.some Jvm.ClassFile.FieldType.int)) ∈ jT := jm10 (List.mem_of_getElem? (i := 110) rfl)
set_option maxRecDepth 100000 in
theorem jw2511 : (Jvm.Cond.sameMethod "java/lang/AbstractStringBuilder" "java/lang/AbstractStringBuilder" "setLength" "(I)V") ∈ jT := jm10 (List.mem_of_getElem? (i := 111) rfl)
set_option maxRecDepth 100000 in
theorem jw2512 : (Jvm.Cond.sameMethod "java/lang/AbstractStringBuilder" "java/lang/AbstractStringBuilder" "ensureCapacityInternal" "(I)V") ∈ jT := jm10 (List.mem_of_getElem? (i := 112) rfl)
set_option maxRecDepth 100000 in
theorem jw2513 : (Jvm.Cond.sameMethod "java/lang/AbstractStringBuilder" "java/lang/AbstractStringBuilder" "newCapacity" "(I)I") ∈ jT := jm10 (List.mem_of_getElem? (i := 113) rfl)
set_option maxRecDepth 100000 in
theorem jw2514 : (Jvm.Cond.sameMethod "java/lang/AbstractStringBuilder" "java/lang/AbstractStringBuilder" "length" "()I") ∈ jT := jm10 (List.mem_of_getElem? (i := 114) rfl)
set_option maxRecDepth 100000 in
theorem jw2515 : (Jvm.Cond.sameMethod "java/lang/AbstractStringBuilder" "java/lang/AbstractStringBuilder" "charAt" "(I)C") ∈ jT := jm10 (List.mem_of_getElem? (i := 115) rfl)
set_option maxRecDepth 100000 in
theorem jw2516 : (Jvm.Cond.sameMethod "java/lang/AbstractStringBuilder" "java/lang/AbstractStringBuilder" "append" "(C)Ljava/lang/AbstractStringBuilder;") ∈ jT := jm10 (List.mem_of_getElem? (i := 116) rfl)
set_option maxRecDepth 100000 in
theorem jw2518 : (Jvm.Cond.sameMethod "java/lang/AbstractStringBuilder" "java/lang/AbstractStringBuilder" "append" "(I)Ljava/lang/AbstractStringBuilder;") ∈ jT := jm10 (List.mem_of_getElem? (i := 118) rfl)
set_option maxRecDepth 100000 in
theorem jw2519 : (Jvm.Cond.selects "java/lang/StringBuilder" ({ cls := "java/lang/AbstractStringBuilder", name := "length", desc := "()I" } : Jvm.MethodName) ({ cls := "java/lang/StringBuilder", name := "length", desc := "()I" } : Jvm.MethodName)) ∈ jT := jm10 (List.mem_of_getElem? (i := 119) rfl)
theorem jx0 : Cond.selects "java/lang/StringBuilder" (⟨"java/lang/AbstractStringBuilder", "ensureCapacityInternal", "(I)V"⟩ : MethodName) (⟨"java/lang/AbstractStringBuilder", "ensureCapacityInternal", "(I)V"⟩ : MethodName) ∈ jT := List.mem_append_left _ (List.mem_of_getElem? (i := 0) rfl)
theorem jx1 : Cond.selects "java/lang/StringBuilder" (⟨"java/lang/AbstractStringBuilder", "newCapacity", "(I)I"⟩ : MethodName) (⟨"java/lang/AbstractStringBuilder", "newCapacity", "(I)I"⟩ : MethodName) ∈ jT := List.mem_append_left _ (List.mem_of_getElem? (i := 1) rfl)
theorem jp0 : Cond.selects "SchoolBoard" (⟨"SchoolBoard", "isChild", "(I)Z"⟩ : MethodName) (⟨"SchoolBoard", "isChild", "(I)Z"⟩ : MethodName) ∈ jT := List.mem_append_right _ (List.mem_append_left _ (List.mem_map.mpr ⟨((⟨"SchoolBoard", "isChild", "(I)Z"⟩ : MethodName), _), List.mem_of_getElem? (i := 0) rfl, rfl⟩))
theorem jp1 : Cond.selects "SchoolBoard" (⟨"SchoolBoard", "isSchool", "(I)Z"⟩ : MethodName) (⟨"SchoolBoard", "isSchool", "(I)Z"⟩ : MethodName) ∈ jT := List.mem_append_right _ (List.mem_append_left _ (List.mem_map.mpr ⟨((⟨"SchoolBoard", "isSchool", "(I)Z"⟩ : MethodName), _), List.mem_of_getElem? (i := 1) rfl, rfl⟩))
theorem jp2 : Cond.selects "SchoolBoard" (⟨"SchoolBoard", "isFull", "(III)Z"⟩ : MethodName) (⟨"SchoolBoard", "isFull", "(III)Z"⟩ : MethodName) ∈ jT := List.mem_append_right _ (List.mem_append_left _ (List.mem_map.mpr ⟨((⟨"SchoolBoard", "isFull", "(III)Z"⟩ : MethodName), _), List.mem_of_getElem? (i := 2) rfl, rfl⟩))
theorem jp3 : Cond.selects "SchoolBoard$Register" (⟨"SchoolBoard$Register", "layBits", "([III)V"⟩ : MethodName) (⟨"SchoolBoard$Register", "layBits", "([III)V"⟩ : MethodName) ∈ jT := List.mem_append_right _ (List.mem_append_left _ (List.mem_map.mpr ⟨((⟨"SchoolBoard$Register", "layBits", "([III)V"⟩ : MethodName), _), List.mem_of_getElem? (i := 3) rfl, rfl⟩))
theorem jp4 : Cond.selects "SchoolBoard$Register" (⟨"SchoolBoard$Register", "layNumber", "(I)V"⟩ : MethodName) (⟨"SchoolBoard$Register", "layNumber", "(I)V"⟩ : MethodName) ∈ jT := List.mem_append_right _ (List.mem_append_left _ (List.mem_map.mpr ⟨((⟨"SchoolBoard$Register", "layNumber", "(I)V"⟩ : MethodName), _), List.mem_of_getElem? (i := 4) rfl, rfl⟩))
theorem jp5 : Cond.selects "SchoolBoard$Register" (⟨"SchoolBoard$Register", "layEntry", "(I)V"⟩ : MethodName) (⟨"SchoolBoard$Register", "layEntry", "(I)V"⟩ : MethodName) ∈ jT := List.mem_append_right _ (List.mem_append_left _ (List.mem_map.mpr ⟨((⟨"SchoolBoard$Register", "layEntry", "(I)V"⟩ : MethodName), _), List.mem_of_getElem? (i := 5) rfl, rfl⟩))
theorem jp6 : Cond.selects "SchoolBoard$Register" (⟨"SchoolBoard$Register", "layMarks", "(I)V"⟩ : MethodName) (⟨"SchoolBoard$Register", "layMarks", "(I)V"⟩ : MethodName) ∈ jT := List.mem_append_right _ (List.mem_append_left _ (List.mem_map.mpr ⟨((⟨"SchoolBoard$Register", "layMarks", "(I)V"⟩ : MethodName), _), List.mem_of_getElem? (i := 6) rfl, rfl⟩))
theorem jp7 : Cond.selects "SchoolBoard$Book" (⟨"SchoolBoard$Book", "chain", "(II)V"⟩ : MethodName) (⟨"SchoolBoard$Book", "chain", "(II)V"⟩ : MethodName) ∈ jT := List.mem_append_right _ (List.mem_append_left _ (List.mem_map.mpr ⟨((⟨"SchoolBoard$Book", "chain", "(II)V"⟩ : MethodName), _), List.mem_of_getElem? (i := 7) rfl, rfl⟩))
theorem jp8 : Cond.selects "SchoolBoard$Register" (⟨"SchoolBoard$Register", "isSpanned", "(III)Z"⟩ : MethodName) (⟨"SchoolBoard$Register", "isSpanned", "(III)Z"⟩ : MethodName) ∈ jT := List.mem_append_right _ (List.mem_append_left _ (List.mem_map.mpr ⟨((⟨"SchoolBoard$Register", "isSpanned", "(III)Z"⟩ : MethodName), _), List.mem_of_getElem? (i := 8) rfl, rfl⟩))
theorem jp9 : Cond.selects "SchoolBoard$Register" (⟨"SchoolBoard$Register", "isTaught", "(I)Z"⟩ : MethodName) (⟨"SchoolBoard$Register", "isTaught", "(I)Z"⟩ : MethodName) ∈ jT := List.mem_append_right _ (List.mem_append_left _ (List.mem_map.mpr ⟨((⟨"SchoolBoard$Register", "isTaught", "(I)Z"⟩ : MethodName), _), List.mem_of_getElem? (i := 9) rfl, rfl⟩))
theorem jp10 : Cond.selects "SchoolBoard$Register" (⟨"SchoolBoard$Register", "isShut", "(II)Z"⟩ : MethodName) (⟨"SchoolBoard$Register", "isShut", "(II)Z"⟩ : MethodName) ∈ jT := List.mem_append_right _ (List.mem_append_left _ (List.mem_map.mpr ⟨((⟨"SchoolBoard$Register", "isShut", "(II)Z"⟩ : MethodName), _), List.mem_of_getElem? (i := 10) rfl, rfl⟩))
theorem jp11 : Cond.selects "SchoolBoard$Register" (⟨"SchoolBoard$Register", "askDay", "(I)V"⟩ : MethodName) (⟨"SchoolBoard$Register", "askDay", "(I)V"⟩ : MethodName) ∈ jT := List.mem_append_right _ (List.mem_append_left _ (List.mem_map.mpr ⟨((⟨"SchoolBoard$Register", "askDay", "(I)V"⟩ : MethodName), _), List.mem_of_getElem? (i := 11) rfl, rfl⟩))
theorem jp12 : Cond.selects "SchoolBoard" (⟨"SchoolBoard", "isGrant", "(IIII)Z"⟩ : MethodName) (⟨"SchoolBoard", "isGrant", "(IIII)Z"⟩ : MethodName) ∈ jT := List.mem_append_right _ (List.mem_append_left _ (List.mem_map.mpr ⟨((⟨"SchoolBoard", "isGrant", "(IIII)Z"⟩ : MethodName), _), List.mem_of_getElem? (i := 12) rfl, rfl⟩))
theorem jp13 : Cond.selects "SchoolBoard$Grants" (⟨"SchoolBoard$Grants", "reckonAverage", "()V"⟩ : MethodName) (⟨"SchoolBoard$Grants", "reckonAverage", "()V"⟩ : MethodName) ∈ jT := List.mem_append_right _ (List.mem_append_left _ (List.mem_map.mpr ⟨((⟨"SchoolBoard$Grants", "reckonAverage", "()V"⟩ : MethodName), _), List.mem_of_getElem? (i := 13) rfl, rfl⟩))
theorem jp14 : Cond.selects "SchoolBoard$Grants" (⟨"SchoolBoard$Grants", "addHeads", "()V"⟩ : MethodName) (⟨"SchoolBoard$Grants", "addHeads", "()V"⟩ : MethodName) ∈ jT := List.mem_append_right _ (List.mem_append_left _ (List.mem_map.mpr ⟨((⟨"SchoolBoard$Grants", "addHeads", "()V"⟩ : MethodName), _), List.mem_of_getElem? (i := 14) rfl, rfl⟩))
theorem jp15 : Cond.selects "SchoolBoard$Grants" (⟨"SchoolBoard$Grants", "add", "(III)V"⟩ : MethodName) (⟨"SchoolBoard$Grants", "add", "(III)V"⟩ : MethodName) ∈ jT := List.mem_append_right _ (List.mem_append_left _ (List.mem_map.mpr ⟨((⟨"SchoolBoard$Grants", "add", "(III)V"⟩ : MethodName), _), List.mem_of_getElem? (i := 15) rfl, rfl⟩))
theorem jp16 : Cond.selects "SchoolBoard$Grants" (⟨"SchoolBoard$Grants", "addChildsLines", "(I)V"⟩ : MethodName) (⟨"SchoolBoard$Grants", "addChildsLines", "(I)V"⟩ : MethodName) ∈ jT := List.mem_append_right _ (List.mem_append_left _ (List.mem_map.mpr ⟨((⟨"SchoolBoard$Grants", "addChildsLines", "(I)V"⟩ : MethodName), _), List.mem_of_getElem? (i := 16) rfl, rfl⟩))
theorem jp17 : Cond.selects "SchoolBoard$Grants" (⟨"SchoolBoard$Grants", "addCap", "()V"⟩ : MethodName) (⟨"SchoolBoard$Grants", "addCap", "()V"⟩ : MethodName) ∈ jT := List.mem_append_right _ (List.mem_append_left _ (List.mem_map.mpr ⟨((⟨"SchoolBoard$Grants", "addCap", "()V"⟩ : MethodName), _), List.mem_of_getElem? (i := 17) rfl, rfl⟩))
theorem jp18 : Cond.selects "SchoolBoard$Register" (⟨"SchoolBoard$Register", "feeFor", "(I)I"⟩ : MethodName) (⟨"SchoolBoard$Register", "feeFor", "(I)I"⟩ : MethodName) ∈ jT := List.mem_append_right _ (List.mem_append_left _ (List.mem_map.mpr ⟨((⟨"SchoolBoard$Register", "feeFor", "(I)I"⟩ : MethodName), _), List.mem_of_getElem? (i := 18) rfl, rfl⟩))
theorem jp19 : Cond.selects "SchoolBoard" (⟨"SchoolBoard", "isTeacher", "(I)Z"⟩ : MethodName) (⟨"SchoolBoard", "isTeacher", "(I)Z"⟩ : MethodName) ∈ jT := List.mem_append_right _ (List.mem_append_left _ (List.mem_map.mpr ⟨((⟨"SchoolBoard", "isTeacher", "(I)Z"⟩ : MethodName), _), List.mem_of_getElem? (i := 19) rfl, rfl⟩))
theorem jp20 : Cond.selects "SchoolBoard" (⟨"SchoolBoard", "stepOf", "(II)I"⟩ : MethodName) (⟨"SchoolBoard", "stepOf", "(II)I"⟩ : MethodName) ∈ jT := List.mem_append_right _ (List.mem_append_left _ (List.mem_map.mpr ⟨((⟨"SchoolBoard", "stepOf", "(II)I"⟩ : MethodName), _), List.mem_of_getElem? (i := 20) rfl, rfl⟩))
theorem jp21 : Cond.selects "SchoolBoard$Reader" (⟨"SchoolBoard$Reader", "scan", "([BI)V"⟩ : MethodName) (⟨"SchoolBoard$Reader", "scan", "([BI)V"⟩ : MethodName) ∈ jT := List.mem_append_right _ (List.mem_append_left _ (List.mem_map.mpr ⟨((⟨"SchoolBoard$Reader", "scan", "([BI)V"⟩ : MethodName), _), List.mem_of_getElem? (i := 21) rfl, rfl⟩))
theorem jp22 : Cond.selects "SchoolBoard$Reader" (⟨"SchoolBoard$Reader", "keep", "(III)V"⟩ : MethodName) (⟨"SchoolBoard$Reader", "keep", "(III)V"⟩ : MethodName) ∈ jT := List.mem_append_right _ (List.mem_append_left _ (List.mem_map.mpr ⟨((⟨"SchoolBoard$Reader", "keep", "(III)V"⟩ : MethodName), _), List.mem_of_getElem? (i := 22) rfl, rfl⟩))
theorem jp23 : Cond.selects "SchoolBoard$Reader" (⟨"SchoolBoard$Reader", "keepNumber", "([BII)V"⟩ : MethodName) (⟨"SchoolBoard$Reader", "keepNumber", "([BII)V"⟩ : MethodName) ∈ jT := List.mem_append_right _ (List.mem_append_left _ (List.mem_map.mpr ⟨((⟨"SchoolBoard$Reader", "keepNumber", "([BII)V"⟩ : MethodName), _), List.mem_of_getElem? (i := 23) rfl, rfl⟩))
theorem jp24 : Cond.selects "SchoolBoard$Reader" (⟨"SchoolBoard$Reader", "refuse", "()V"⟩ : MethodName) (⟨"SchoolBoard$Reader", "refuse", "()V"⟩ : MethodName) ∈ jT := List.mem_append_right _ (List.mem_append_left _ (List.mem_map.mpr ⟨((⟨"SchoolBoard$Reader", "refuse", "()V"⟩ : MethodName), _), List.mem_of_getElem? (i := 24) rfl, rfl⟩))
theorem jp25 : Cond.selects "SchoolBoard$Reader" (⟨"SchoolBoard$Reader", "statement", "(I)V"⟩ : MethodName) (⟨"SchoolBoard$Reader", "statement", "(I)V"⟩ : MethodName) ∈ jT := List.mem_append_right _ (List.mem_append_left _ (List.mem_map.mpr ⟨((⟨"SchoolBoard$Reader", "statement", "(I)V"⟩ : MethodName), _), List.mem_of_getElem? (i := 25) rfl, rfl⟩))
theorem jp26 : Cond.selects "SchoolBoard$Reader" (⟨"SchoolBoard$Reader", "number", "(II)I"⟩ : MethodName) (⟨"SchoolBoard$Reader", "number", "(II)I"⟩ : MethodName) ∈ jT := List.mem_append_right _ (List.mem_append_left _ (List.mem_map.mpr ⟨((⟨"SchoolBoard$Reader", "number", "(II)I"⟩ : MethodName), _), List.mem_of_getElem? (i := 26) rfl, rfl⟩))
theorem jp27 : Cond.selects "SchoolBoard$Reader" (⟨"SchoolBoard$Reader", "kindOfBody", "()I"⟩ : MethodName) (⟨"SchoolBoard$Reader", "kindOfBody", "()I"⟩ : MethodName) ∈ jT := List.mem_append_right _ (List.mem_append_left _ (List.mem_map.mpr ⟨((⟨"SchoolBoard$Reader", "kindOfBody", "()I"⟩ : MethodName), _), List.mem_of_getElem? (i := 27) rfl, rfl⟩))
theorem jp28 : Cond.selects "SchoolBoard$Reader" (⟨"SchoolBoard$Reader", "take", "(I)Z"⟩ : MethodName) (⟨"SchoolBoard$Reader", "take", "(I)Z"⟩ : MethodName) ∈ jT := List.mem_append_right _ (List.mem_append_left _ (List.mem_map.mpr ⟨((⟨"SchoolBoard$Reader", "take", "(I)Z"⟩ : MethodName), _), List.mem_of_getElem? (i := 28) rfl, rfl⟩))
theorem jp29 : Cond.selects "SchoolBoard$Reader" (⟨"SchoolBoard$Reader", "readTold", "(LSchoolBoard$Clause;)V"⟩ : MethodName) (⟨"SchoolBoard$Reader", "readTold", "(LSchoolBoard$Clause;)V"⟩ : MethodName) ∈ jT := List.mem_append_right _ (List.mem_append_left _ (List.mem_map.mpr ⟨((⟨"SchoolBoard$Reader", "readTold", "(LSchoolBoard$Clause;)V"⟩ : MethodName), _), List.mem_of_getElem? (i := 29) rfl, rfl⟩))
theorem jp30 : Cond.selects "SchoolBoard$Reader" (⟨"SchoolBoard$Reader", "markWord", "()I"⟩ : MethodName) (⟨"SchoolBoard$Reader", "markWord", "()I"⟩ : MethodName) ∈ jT := List.mem_append_right _ (List.mem_append_left _ (List.mem_map.mpr ⟨((⟨"SchoolBoard$Reader", "markWord", "()I"⟩ : MethodName), _), List.mem_of_getElem? (i := 30) rfl, rfl⟩))
theorem jp31 : Cond.selects "SchoolBoard$Reader" (⟨"SchoolBoard$Reader", "readPer", "(LSchoolBoard$Clause;)V"⟩ : MethodName) (⟨"SchoolBoard$Reader", "readPer", "(LSchoolBoard$Clause;)V"⟩ : MethodName) ∈ jT := List.mem_append_right _ (List.mem_append_left _ (List.mem_map.mpr ⟨((⟨"SchoolBoard$Reader", "readPer", "(LSchoolBoard$Clause;)V"⟩ : MethodName), _), List.mem_of_getElem? (i := 31) rfl, rfl⟩))
theorem jp32 : Cond.selects "SchoolBoard$Reader" (⟨"SchoolBoard$Reader", "joined", "(II)LSchoolBoard$Node;"⟩ : MethodName) (⟨"SchoolBoard$Reader", "joined", "(II)LSchoolBoard$Node;"⟩ : MethodName) ∈ jT := List.mem_append_right _ (List.mem_append_left _ (List.mem_map.mpr ⟨((⟨"SchoolBoard$Reader", "joined", "(II)LSchoolBoard$Node;"⟩ : MethodName), _), List.mem_of_getElem? (i := 32) rfl, rfl⟩))
theorem jp33 : Cond.selects "SchoolBoard$Reader" (⟨"SchoolBoard$Reader", "one", "(I)LSchoolBoard$Node;"⟩ : MethodName) (⟨"SchoolBoard$Reader", "one", "(I)LSchoolBoard$Node;"⟩ : MethodName) ∈ jT := List.mem_append_right _ (List.mem_append_left _ (List.mem_map.mpr ⟨((⟨"SchoolBoard$Reader", "one", "(I)LSchoolBoard$Node;"⟩ : MethodName), _), List.mem_of_getElem? (i := 33) rfl, rfl⟩))
theorem jp34 : Cond.selects "SchoolBoard$Reader" (⟨"SchoolBoard$Reader", "comparison", "()LSchoolBoard$Node;"⟩ : MethodName) (⟨"SchoolBoard$Reader", "comparison", "()LSchoolBoard$Node;"⟩ : MethodName) ∈ jT := List.mem_append_right _ (List.mem_append_left _ (List.mem_map.mpr ⟨((⟨"SchoolBoard$Reader", "comparison", "()LSchoolBoard$Node;"⟩ : MethodName), _), List.mem_of_getElem? (i := 34) rfl, rfl⟩))
theorem jp35 : Cond.selects "SchoolBoard$Clause" (⟨"SchoolBoard$Clause", "writeBody", "(Ljava/lang/StringBuilder;)V"⟩ : MethodName) (⟨"SchoolBoard$Clause", "writeBody", "(Ljava/lang/StringBuilder;)V"⟩ : MethodName) ∈ jT := List.mem_append_right _ (List.mem_append_left _ (List.mem_map.mpr ⟨((⟨"SchoolBoard$Clause", "writeBody", "(Ljava/lang/StringBuilder;)V"⟩ : MethodName), _), List.mem_of_getElem? (i := 35) rfl, rfl⟩))
theorem jp36 : Cond.selects "SchoolBoard$Clause" (⟨"SchoolBoard$Clause", "writeTold", "(Ljava/lang/StringBuilder;I)V"⟩ : MethodName) (⟨"SchoolBoard$Clause", "writeTold", "(Ljava/lang/StringBuilder;I)V"⟩ : MethodName) ∈ jT := List.mem_append_right _ (List.mem_append_left _ (List.mem_map.mpr ⟨((⟨"SchoolBoard$Clause", "writeTold", "(Ljava/lang/StringBuilder;I)V"⟩ : MethodName), _), List.mem_of_getElem? (i := 36) rfl, rfl⟩))
theorem jp37 : Cond.selects "SchoolBoard$Node" (⟨"SchoolBoard$Node", "writeTo", "(Ljava/lang/StringBuilder;I)V"⟩ : MethodName) (⟨"SchoolBoard$Node", "writeTo", "(Ljava/lang/StringBuilder;I)V"⟩ : MethodName) ∈ jT := List.mem_append_right _ (List.mem_append_left _ (List.mem_map.mpr ⟨((⟨"SchoolBoard$Node", "writeTo", "(Ljava/lang/StringBuilder;I)V"⟩ : MethodName), _), List.mem_of_getElem? (i := 37) rfl, rfl⟩))
theorem jp38 : Cond.selects "SchoolBoard$Node" (⟨"SchoolBoard$Node", "writeIn", "(LSchoolBoard$Node;Ljava/lang/StringBuilder;I)V"⟩ : MethodName) (⟨"SchoolBoard$Node", "writeIn", "(LSchoolBoard$Node;Ljava/lang/StringBuilder;I)V"⟩ : MethodName) ∈ jT := List.mem_append_right _ (List.mem_append_left _ (List.mem_map.mpr ⟨((⟨"SchoolBoard$Node", "writeIn", "(LSchoolBoard$Node;Ljava/lang/StringBuilder;I)V"⟩ : MethodName), _), List.mem_of_getElem? (i := 38) rfl, rfl⟩))
theorem jp39 : Cond.selects "SchoolBoard$Code" (⟨"SchoolBoard$Code", "tellYear", "(I)V"⟩ : MethodName) (⟨"SchoolBoard$Code", "tellYear", "(I)V"⟩ : MethodName) ∈ jT := List.mem_append_right _ (List.mem_append_left _ (List.mem_map.mpr ⟨((⟨"SchoolBoard$Code", "tellYear", "(I)V"⟩ : MethodName), _), List.mem_of_getElem? (i := 39) rfl, rfl⟩))
theorem jp40 : Cond.selects "SchoolBoard$Code" (⟨"SchoolBoard$Code", "orderKinds", "(I)V"⟩ : MethodName) (⟨"SchoolBoard$Code", "orderKinds", "(I)V"⟩ : MethodName) ∈ jT := List.mem_append_right _ (List.mem_append_left _ (List.mem_map.mpr ⟨((⟨"SchoolBoard$Code", "orderKinds", "(I)V"⟩ : MethodName), _), List.mem_of_getElem? (i := 40) rfl, rfl⟩))
theorem jp41 : Cond.selects "SchoolBoard$Entering" (⟨"SchoolBoard$Entering", "reckonHours", "(I)V"⟩ : MethodName) (⟨"SchoolBoard$Entering", "reckonHours", "(I)V"⟩ : MethodName) ∈ jT := List.mem_append_right _ (List.mem_append_left _ (List.mem_map.mpr ⟨((⟨"SchoolBoard$Entering", "reckonHours", "(I)V"⟩ : MethodName), _), List.mem_of_getElem? (i := 41) rfl, rfl⟩))
theorem jp42 : Cond.selects "SchoolBoard$Entering" (⟨"SchoolBoard$Entering", "reckonMember", "(I)V"⟩ : MethodName) (⟨"SchoolBoard$Entering", "reckonMember", "(I)V"⟩ : MethodName) ∈ jT := List.mem_append_right _ (List.mem_append_left _ (List.mem_map.mpr ⟨((⟨"SchoolBoard$Entering", "reckonMember", "(I)V"⟩ : MethodName), _), List.mem_of_getElem? (i := 42) rfl, rfl⟩))
theorem jp43 : Cond.selects "SchoolBoard$Entering" (⟨"SchoolBoard$Entering", "reckonGains", "(II)V"⟩ : MethodName) (⟨"SchoolBoard$Entering", "reckonGains", "(II)V"⟩ : MethodName) ∈ jT := List.mem_append_right _ (List.mem_append_left _ (List.mem_map.mpr ⟨((⟨"SchoolBoard$Entering", "reckonGains", "(II)V"⟩ : MethodName), _), List.mem_of_getElem? (i := 43) rfl, rfl⟩))
theorem jp44 : Cond.selects "SchoolBoard$Entering" (⟨"SchoolBoard$Entering", "penceOf", "(I)I"⟩ : MethodName) (⟨"SchoolBoard$Entering", "penceOf", "(I)I"⟩ : MethodName) ∈ jT := List.mem_append_right _ (List.mem_append_left _ (List.mem_map.mpr ⟨((⟨"SchoolBoard$Entering", "penceOf", "(I)I"⟩ : MethodName), _), List.mem_of_getElem? (i := 44) rfl, rfl⟩))
theorem jp45 : Cond.selects "SchoolBoard$Entering" (⟨"SchoolBoard$Entering", "fillBest", "()V"⟩ : MethodName) (⟨"SchoolBoard$Entering", "fillBest", "()V"⟩ : MethodName) ∈ jT := List.mem_append_right _ (List.mem_append_left _ (List.mem_map.mpr ⟨((⟨"SchoolBoard$Entering", "fillBest", "()V"⟩ : MethodName), _), List.mem_of_getElem? (i := 45) rfl, rfl⟩))
theorem jp46 : Cond.selects "SchoolBoard$Entering" (⟨"SchoolBoard$Entering", "tryAll", "(II)V"⟩ : MethodName) (⟨"SchoolBoard$Entering", "tryAll", "(II)V"⟩ : MethodName) ∈ jT := List.mem_append_right _ (List.mem_append_left _ (List.mem_map.mpr ⟨((⟨"SchoolBoard$Entering", "tryAll", "(II)V"⟩ : MethodName), _), List.mem_of_getElem? (i := 46) rfl, rfl⟩))
theorem jp47 : Cond.selects "SchoolBoard$Entering" (⟨"SchoolBoard$Entering", "pickSets", "()V"⟩ : MethodName) (⟨"SchoolBoard$Entering", "pickSets", "()V"⟩ : MethodName) ∈ jT := List.mem_append_right _ (List.mem_append_left _ (List.mem_map.mpr ⟨((⟨"SchoolBoard$Entering", "pickSets", "()V"⟩ : MethodName), _), List.mem_of_getElem? (i := 47) rfl, rfl⟩))
theorem jp48 : Cond.selects "SchoolBoard$Entering" (⟨"SchoolBoard$Entering", "leastSet", "(II)I"⟩ : MethodName) (⟨"SchoolBoard$Entering", "leastSet", "(II)I"⟩ : MethodName) ∈ jT := List.mem_append_right _ (List.mem_append_left _ (List.mem_map.mpr ⟨((⟨"SchoolBoard$Entering", "leastSet", "(II)I"⟩ : MethodName), _), List.mem_of_getElem? (i := 48) rfl, rfl⟩))
theorem jp49 : Cond.selects "SchoolBoard$Town" (⟨"SchoolBoard$Town", "tryRound", "(II)V"⟩ : MethodName) (⟨"SchoolBoard$Town", "tryRound", "(II)V"⟩ : MethodName) ∈ jT := List.mem_append_right _ (List.mem_append_left _ (List.mem_map.mpr ⟨((⟨"SchoolBoard$Town", "tryRound", "(II)V"⟩ : MethodName), _), List.mem_of_getElem? (i := 49) rfl, rfl⟩))
theorem jp50 : Cond.selects "SchoolBoard$Town" (⟨"SchoolBoard$Town", "streetsNear", "(III)I"⟩ : MethodName) (⟨"SchoolBoard$Town", "streetsNear", "(III)I"⟩ : MethodName) ∈ jT := List.mem_append_right _ (List.mem_append_left _ (List.mem_map.mpr ⟨((⟨"SchoolBoard$Town", "streetsNear", "(III)I"⟩ : MethodName), _), List.mem_of_getElem? (i := 50) rfl, rfl⟩))
theorem jp51 : Cond.selects "SchoolBoard$Town" (⟨"SchoolBoard$Town", "reachedBy", "(I)I"⟩ : MethodName) (⟨"SchoolBoard$Town", "reachedBy", "(I)I"⟩ : MethodName) ∈ jT := List.mem_append_right _ (List.mem_append_left _ (List.mem_map.mpr ⟨((⟨"SchoolBoard$Town", "reachedBy", "(I)I"⟩ : MethodName), _), List.mem_of_getElem? (i := 51) rfl, rfl⟩))
theorem jp52 : Cond.selects "SchoolBoard$Poll" (⟨"SchoolBoard$Poll", "rankOf", "(I[I)I"⟩ : MethodName) (⟨"SchoolBoard$Poll", "rankOf", "(I[I)I"⟩ : MethodName) ∈ jT := List.mem_append_right _ (List.mem_append_left _ (List.mem_map.mpr ⟨((⟨"SchoolBoard$Poll", "rankOf", "(I[I)I"⟩ : MethodName), _), List.mem_of_getElem? (i := 52) rfl, rfl⟩))
theorem jp53 : Cond.selects "SchoolBoard$Poll" (⟨"SchoolBoard$Poll", "areElected", "(III)Z"⟩ : MethodName) (⟨"SchoolBoard$Poll", "areElected", "(III)Z"⟩ : MethodName) ∈ jT := List.mem_append_right _ (List.mem_append_left _ (List.mem_map.mpr ⟨((⟨"SchoolBoard$Poll", "areElected", "(III)Z"⟩ : MethodName), _), List.mem_of_getElem? (i := 53) rfl, rfl⟩))
theorem jp54 : Cond.selects "SchoolBoardModel" (⟨"SchoolBoardModel", "isChild", "(I)Z"⟩ : MethodName) (⟨"SchoolBoardModel", "isChild", "(I)Z"⟩ : MethodName) ∈ jT := List.mem_append_right _ (List.mem_append_left _ (List.mem_map.mpr ⟨((⟨"SchoolBoardModel", "isChild", "(I)Z"⟩ : MethodName), _), List.mem_of_getElem? (i := 54) rfl, rfl⟩))
theorem jp55 : Cond.selects "SchoolBoardModel" (⟨"SchoolBoardModel", "isSchool", "(I)Z"⟩ : MethodName) (⟨"SchoolBoardModel", "isSchool", "(I)Z"⟩ : MethodName) ∈ jT := List.mem_append_right _ (List.mem_append_left _ (List.mem_map.mpr ⟨((⟨"SchoolBoardModel", "isSchool", "(I)Z"⟩ : MethodName), _), List.mem_of_getElem? (i := 55) rfl, rfl⟩))
theorem jp56 : Cond.selects "SchoolBoardModel" (⟨"SchoolBoardModel", "holdsIn", "(II)I"⟩ : MethodName) (⟨"SchoolBoardModel", "holdsIn", "(II)I"⟩ : MethodName) ∈ jT := List.mem_append_right _ (List.mem_append_left _ (List.mem_map.mpr ⟨((⟨"SchoolBoardModel", "holdsIn", "(II)I"⟩ : MethodName), _), List.mem_of_getElem? (i := 56) rfl, rfl⟩))
theorem jp57 : Cond.selects "SchoolBoardModel" (⟨"SchoolBoardModel", "least", "(II)I"⟩ : MethodName) (⟨"SchoolBoardModel", "least", "(II)I"⟩ : MethodName) ∈ jT := List.mem_append_right _ (List.mem_append_left _ (List.mem_map.mpr ⟨((⟨"SchoolBoardModel", "least", "(II)I"⟩ : MethodName), _), List.mem_of_getElem? (i := 57) rfl, rfl⟩))
theorem jp58 : Cond.selects "SchoolBoardModel" (⟨"SchoolBoardModel", "first", "(III)I"⟩ : MethodName) (⟨"SchoolBoardModel", "first", "(III)I"⟩ : MethodName) ∈ jT := List.mem_append_right _ (List.mem_append_left _ (List.mem_map.mpr ⟨((⟨"SchoolBoardModel", "first", "(III)I"⟩ : MethodName), _), List.mem_of_getElem? (i := 58) rfl, rfl⟩))
theorem jp59 : Cond.selects "SchoolBoardModel" (⟨"SchoolBoardModel", "statementAt", "(II)I"⟩ : MethodName) (⟨"SchoolBoardModel", "statementAt", "(II)I"⟩ : MethodName) ∈ jT := List.mem_append_right _ (List.mem_append_left _ (List.mem_map.mpr ⟨((⟨"SchoolBoardModel", "statementAt", "(II)I"⟩ : MethodName), _), List.mem_of_getElem? (i := 59) rfl, rfl⟩))
theorem jp60 : Cond.selects "SchoolBoardModel" (⟨"SchoolBoardModel", "codes", "()V"⟩ : MethodName) (⟨"SchoolBoardModel", "codes", "()V"⟩ : MethodName) ∈ jT := List.mem_append_right _ (List.mem_append_left _ (List.mem_map.mpr ⟨((⟨"SchoolBoardModel", "codes", "()V"⟩ : MethodName), _), List.mem_of_getElem? (i := 60) rfl, rfl⟩))
theorem jp61 : Cond.selects "SchoolBoardModel" (⟨"SchoolBoardModel", "holds", "(I)Z"⟩ : MethodName) (⟨"SchoolBoardModel", "holds", "(I)Z"⟩ : MethodName) ∈ jT := List.mem_append_right _ (List.mem_append_left _ (List.mem_map.mpr ⟨((⟨"SchoolBoardModel", "holds", "(I)Z"⟩ : MethodName), _), List.mem_of_getElem? (i := 61) rfl, rfl⟩))
theorem jp62 : Cond.selects "SchoolBoardModel" (⟨"SchoolBoardModel", "isTrue", "(I)Z"⟩ : MethodName) (⟨"SchoolBoardModel", "isTrue", "(I)Z"⟩ : MethodName) ∈ jT := List.mem_append_right _ (List.mem_append_left _ (List.mem_map.mpr ⟨((⟨"SchoolBoardModel", "isTrue", "(I)Z"⟩ : MethodName), _), List.mem_of_getElem? (i := 62) rfl, rfl⟩))
theorem jp63 : Cond.selects "SchoolBoardModel" (⟨"SchoolBoardModel", "onOf", "(III)I"⟩ : MethodName) (⟨"SchoolBoardModel", "onOf", "(III)I"⟩ : MethodName) ∈ jT := List.mem_append_right _ (List.mem_append_left _ (List.mem_map.mpr ⟨((⟨"SchoolBoardModel", "onOf", "(III)I"⟩ : MethodName), _), List.mem_of_getElem? (i := 63) rfl, rfl⟩))
theorem jp64 : Cond.selects "SchoolBoardModel" (⟨"SchoolBoardModel", "isKnown", "(II)Z"⟩ : MethodName) (⟨"SchoolBoardModel", "isKnown", "(II)Z"⟩ : MethodName) ∈ jT := List.mem_append_right _ (List.mem_append_left _ (List.mem_map.mpr ⟨((⟨"SchoolBoardModel", "isKnown", "(II)Z"⟩ : MethodName), _), List.mem_of_getElem? (i := 64) rfl, rfl⟩))
theorem jp65 : Cond.selects "SchoolBoardModel" (⟨"SchoolBoardModel", "notes", "(IIIII)I"⟩ : MethodName) (⟨"SchoolBoardModel", "notes", "(IIIII)I"⟩ : MethodName) ∈ jT := List.mem_append_right _ (List.mem_append_left _ (List.mem_map.mpr ⟨((⟨"SchoolBoardModel", "notes", "(IIIII)I"⟩ : MethodName), _), List.mem_of_getElem? (i := 65) rfl, rfl⟩))
theorem jp66 : Cond.selects "SchoolBoardModel" (⟨"SchoolBoardModel", "standardOf", "(III)I"⟩ : MethodName) (⟨"SchoolBoardModel", "standardOf", "(III)I"⟩ : MethodName) ∈ jT := List.mem_append_right _ (List.mem_append_left _ (List.mem_map.mpr ⟨((⟨"SchoolBoardModel", "standardOf", "(III)I"⟩ : MethodName), _), List.mem_of_getElem? (i := 66) rfl, rfl⟩))
theorem jp67 : Cond.selects "SchoolBoardModel" (⟨"SchoolBoardModel", "passesOf", "(IIIII)I"⟩ : MethodName) (⟨"SchoolBoardModel", "passesOf", "(IIIII)I"⟩ : MethodName) ∈ jT := List.mem_append_right _ (List.mem_append_left _ (List.mem_map.mpr ⟨((⟨"SchoolBoardModel", "passesOf", "(IIIII)I"⟩ : MethodName), _), List.mem_of_getElem? (i := 67) rfl, rfl⟩))
theorem jp68 : Cond.selects "SchoolBoardModel" (⟨"SchoolBoardModel", "lastDay", "(IIII)V"⟩ : MethodName) (⟨"SchoolBoardModel", "lastDay", "(IIII)V"⟩ : MethodName) ∈ jT := List.mem_append_right _ (List.mem_append_left _ (List.mem_map.mpr ⟨((⟨"SchoolBoardModel", "lastDay", "(IIII)V"⟩ : MethodName), _), List.mem_of_getElem? (i := 68) rfl, rfl⟩))
theorem jp69 : Cond.selects "SchoolBoardModel" (⟨"SchoolBoardModel", "nothing", "()V"⟩ : MethodName) (⟨"SchoolBoardModel", "nothing", "()V"⟩ : MethodName) ∈ jT := List.mem_append_right _ (List.mem_append_left _ (List.mem_map.mpr ⟨((⟨"SchoolBoardModel", "nothing", "()V"⟩ : MethodName), _), List.mem_of_getElem? (i := 69) rfl, rfl⟩))
theorem jp70 : Cond.selects "SchoolBoardModel" (⟨"SchoolBoardModel", "ageOn", "(II)I"⟩ : MethodName) (⟨"SchoolBoardModel", "ageOn", "(II)I"⟩ : MethodName) ∈ jT := List.mem_append_right _ (List.mem_append_left _ (List.mem_map.mpr ⟨((⟨"SchoolBoardModel", "ageOn", "(II)I"⟩ : MethodName), _), List.mem_of_getElem? (i := 70) rfl, rfl⟩))
theorem jp71 : Cond.selects "SchoolBoardModel" (⟨"SchoolBoardModel", "has", "(IIII)Z"⟩ : MethodName) (⟨"SchoolBoardModel", "has", "(IIII)Z"⟩ : MethodName) ∈ jT := List.mem_append_right _ (List.mem_append_left _ (List.mem_map.mpr ⟨((⟨"SchoolBoardModel", "has", "(IIII)Z"⟩ : MethodName), _), List.mem_of_getElem? (i := 71) rfl, rfl⟩))
theorem jp72 : Cond.selects "SchoolBoardModel" (⟨"SchoolBoardModel", "resultOf", "(IIII)I"⟩ : MethodName) (⟨"SchoolBoardModel", "resultOf", "(IIII)I"⟩ : MethodName) ∈ jT := List.mem_append_right _ (List.mem_append_left _ (List.mem_map.mpr ⟨((⟨"SchoolBoardModel", "resultOf", "(IIII)I"⟩ : MethodName), _), List.mem_of_getElem? (i := 72) rfl, rfl⟩))
theorem jp73 : Cond.selects "SchoolBoardModel" (⟨"SchoolBoardModel", "wouldPass", "(III)Z"⟩ : MethodName) (⟨"SchoolBoardModel", "wouldPass", "(III)Z"⟩ : MethodName) ∈ jT := List.mem_append_right _ (List.mem_append_left _ (List.mem_map.mpr ⟨((⟨"SchoolBoardModel", "wouldPass", "(III)Z"⟩ : MethodName), _), List.mem_of_getElem? (i := 73) rfl, rfl⟩))
theorem jp74 : Cond.selects "SchoolBoardModel" (⟨"SchoolBoardModel", "markOf", "(III)I"⟩ : MethodName) (⟨"SchoolBoardModel", "markOf", "(III)I"⟩ : MethodName) ∈ jT := List.mem_append_right _ (List.mem_append_left _ (List.mem_map.mpr ⟨((⟨"SchoolBoardModel", "markOf", "(III)I"⟩ : MethodName), _), List.mem_of_getElem? (i := 74) rfl, rfl⟩))
theorem jp75 : Cond.selects "SchoolBoardModel" (⟨"SchoolBoardModel", "paintsShut", "(II)V"⟩ : MethodName) (⟨"SchoolBoardModel", "paintsShut", "(II)V"⟩ : MethodName) ∈ jT := List.mem_append_right _ (List.mem_append_left _ (List.mem_map.mpr ⟨((⟨"SchoolBoardModel", "paintsShut", "(II)V"⟩ : MethodName), _), List.mem_of_getElem? (i := 75) rfl, rfl⟩))
theorem jp76 : Cond.selects "SchoolBoardModel" (⟨"SchoolBoardModel", "paints", "(III)V"⟩ : MethodName) (⟨"SchoolBoardModel", "paints", "(III)V"⟩ : MethodName) ∈ jT := List.mem_append_right _ (List.mem_append_left _ (List.mem_map.mpr ⟨((⟨"SchoolBoardModel", "paints", "(III)V"⟩ : MethodName), _), List.mem_of_getElem? (i := 76) rfl, rfl⟩))
theorem jp77 : Cond.selects "SchoolBoardModel" (⟨"SchoolBoardModel", "quartersAt", "(IIIIII)I"⟩ : MethodName) (⟨"SchoolBoardModel", "quartersAt", "(IIIIII)I"⟩ : MethodName) ∈ jT := List.mem_append_right _ (List.mem_append_left _ (List.mem_map.mpr ⟨((⟨"SchoolBoardModel", "quartersAt", "(IIIIII)I"⟩ : MethodName), _), List.mem_of_getElem? (i := 77) rfl, rfl⟩))
theorem jp78 : Cond.selects "SchoolBoardModel" (⟨"SchoolBoardModel", "firstExcuse", "(II)I"⟩ : MethodName) (⟨"SchoolBoardModel", "firstExcuse", "(II)I"⟩ : MethodName) ∈ jT := List.mem_append_right _ (List.mem_append_left _ (List.mem_map.mpr ⟨((⟨"SchoolBoardModel", "firstExcuse", "(II)I"⟩ : MethodName), _), List.mem_of_getElem? (i := 78) rfl, rfl⟩))
theorem jp79 : Cond.selects "SchoolBoardModel" (⟨"SchoolBoardModel", "yearOf", "(IIII)I"⟩ : MethodName) (⟨"SchoolBoardModel", "yearOf", "(IIII)I"⟩ : MethodName) ∈ jT := List.mem_append_right _ (List.mem_append_left _ (List.mem_map.mpr ⟨((⟨"SchoolBoardModel", "yearOf", "(IIII)I"⟩ : MethodName), _), List.mem_of_getElem? (i := 79) rfl, rfl⟩))
theorem jp80 : Cond.selects "SchoolBoardModel" (⟨"SchoolBoardModel", "grants", "(IIII)V"⟩ : MethodName) (⟨"SchoolBoardModel", "grants", "(IIII)V"⟩ : MethodName) ∈ jT := List.mem_append_right _ (List.mem_append_left _ (List.mem_map.mpr ⟨((⟨"SchoolBoardModel", "grants", "(IIII)V"⟩ : MethodName), _), List.mem_of_getElem? (i := 80) rfl, rfl⟩))
theorem jp81 : Cond.selects "SchoolBoardModel" (⟨"SchoolBoardModel", "staffed", "(III)I"⟩ : MethodName) (⟨"SchoolBoardModel", "staffed", "(III)I"⟩ : MethodName) ∈ jT := List.mem_append_right _ (List.mem_append_left _ (List.mem_map.mpr ⟨((⟨"SchoolBoardModel", "staffed", "(III)I"⟩ : MethodName), _), List.mem_of_getElem? (i := 81) rfl, rfl⟩))
theorem jp82 : Cond.selects "SchoolBoardModel" (⟨"SchoolBoardModel", "isGrant", "(III)Z"⟩ : MethodName) (⟨"SchoolBoardModel", "isGrant", "(III)Z"⟩ : MethodName) ∈ jT := List.mem_append_right _ (List.mem_append_left _ (List.mem_map.mpr ⟨((⟨"SchoolBoardModel", "isGrant", "(III)Z"⟩ : MethodName), _), List.mem_of_getElem? (i := 82) rfl, rfl⟩))
theorem jp83 : Cond.selects "SchoolBoardModel" (⟨"SchoolBoardModel", "line", "(III)V"⟩ : MethodName) (⟨"SchoolBoardModel", "line", "(III)V"⟩ : MethodName) ∈ jT := List.mem_append_right _ (List.mem_append_left _ (List.mem_map.mpr ⟨((⟨"SchoolBoardModel", "line", "(III)V"⟩ : MethodName), _), List.mem_of_getElem? (i := 83) rfl, rfl⟩))
theorem jp84 : Cond.selects "SchoolBoardModel" (⟨"SchoolBoardModel", "ofChild", "(IIII)V"⟩ : MethodName) (⟨"SchoolBoardModel", "ofChild", "(IIII)V"⟩ : MethodName) ∈ jT := List.mem_append_right _ (List.mem_append_left _ (List.mem_map.mpr ⟨((⟨"SchoolBoardModel", "ofChild", "(IIII)V"⟩ : MethodName), _), List.mem_of_getElem? (i := 84) rfl, rfl⟩))
theorem jp85 : Cond.selects "SchoolBoardModel" (⟨"SchoolBoardModel", "feesOf", "(II)I"⟩ : MethodName) (⟨"SchoolBoardModel", "feesOf", "(II)I"⟩ : MethodName) ∈ jT := List.mem_append_right _ (List.mem_append_left _ (List.mem_map.mpr ⟨((⟨"SchoolBoardModel", "feesOf", "(II)I"⟩ : MethodName), _), List.mem_of_getElem? (i := 85) rfl, rfl⟩))
theorem jp86 : Cond.selects "SchoolBoardModel" (⟨"SchoolBoardModel", "isShut", "(III)Z"⟩ : MethodName) (⟨"SchoolBoardModel", "isShut", "(III)Z"⟩ : MethodName) ∈ jT := List.mem_append_right _ (List.mem_append_left _ (List.mem_map.mpr ⟨((⟨"SchoolBoardModel", "isShut", "(III)Z"⟩ : MethodName), _), List.mem_of_getElem? (i := 86) rfl, rfl⟩))
theorem jp87 : Cond.selects "SchoolBoardModel" (⟨"SchoolBoardModel", "stepOf", "(II)I"⟩ : MethodName) (⟨"SchoolBoardModel", "stepOf", "(II)I"⟩ : MethodName) ∈ jT := List.mem_append_right _ (List.mem_append_left _ (List.mem_map.mpr ⟨((⟨"SchoolBoardModel", "stepOf", "(II)I"⟩ : MethodName), _), List.mem_of_getElem? (i := 87) rfl, rfl⟩))
theorem jp88 : Cond.selects "SchoolBoardModel" (⟨"SchoolBoardModel", "enters", "(II)V"⟩ : MethodName) (⟨"SchoolBoardModel", "enters", "(II)V"⟩ : MethodName) ∈ jT := List.mem_append_right _ (List.mem_append_left _ (List.mem_map.mpr ⟨((⟨"SchoolBoardModel", "enters", "(II)V"⟩ : MethodName), _), List.mem_of_getElem? (i := 88) rfl, rfl⟩))
theorem jp89 : Cond.selects "SchoolBoardModel" (⟨"SchoolBoardModel", "hoursOf", "(II)I"⟩ : MethodName) (⟨"SchoolBoardModel", "hoursOf", "(II)I"⟩ : MethodName) ∈ jT := List.mem_append_right _ (List.mem_append_left _ (List.mem_map.mpr ⟨((⟨"SchoolBoardModel", "hoursOf", "(II)I"⟩ : MethodName), _), List.mem_of_getElem? (i := 89) rfl, rfl⟩))
theorem jp90 : Cond.selects "SchoolBoardModel" (⟨"SchoolBoardModel", "worths", "(III)V"⟩ : MethodName) (⟨"SchoolBoardModel", "worths", "(III)V"⟩ : MethodName) ∈ jT := List.mem_append_right _ (List.mem_append_left _ (List.mem_map.mpr ⟨((⟨"SchoolBoardModel", "worths", "(III)V"⟩ : MethodName), _), List.mem_of_getElem? (i := 90) rfl, rfl⟩))
theorem jp91 : Cond.selects "SchoolBoardModel" (⟨"SchoolBoardModel", "brings", "(III)I"⟩ : MethodName) (⟨"SchoolBoardModel", "brings", "(III)I"⟩ : MethodName) ∈ jT := List.mem_append_right _ (List.mem_append_left _ (List.mem_map.mpr ⟨((⟨"SchoolBoardModel", "brings", "(III)I"⟩ : MethodName), _), List.mem_of_getElem? (i := 91) rfl, rfl⟩))
theorem jp92 : Cond.selects "SchoolBoardModel" (⟨"SchoolBoardModel", "looks", "()V"⟩ : MethodName) (⟨"SchoolBoardModel", "looks", "()V"⟩ : MethodName) ∈ jT := List.mem_append_right _ (List.mem_append_left _ (List.mem_map.mpr ⟨((⟨"SchoolBoardModel", "looks", "()V"⟩ : MethodName), _), List.mem_of_getElem? (i := 92) rfl, rfl⟩))
theorem jp93 : Cond.selects "SchoolBoardModel" (⟨"SchoolBoardModel", "reaches", "(II)Z"⟩ : MethodName) (⟨"SchoolBoardModel", "reaches", "(II)Z"⟩ : MethodName) ∈ jT := List.mem_append_right _ (List.mem_append_left _ (List.mem_map.mpr ⟨((⟨"SchoolBoardModel", "reaches", "(II)Z"⟩ : MethodName), _), List.mem_of_getElem? (i := 93) rfl, rfl⟩))
theorem jp94 : Cond.selects "SchoolBoardModel" (⟨"SchoolBoardModel", "counts", "()V"⟩ : MethodName) (⟨"SchoolBoardModel", "counts", "()V"⟩ : MethodName) ∈ jT := List.mem_append_right _ (List.mem_append_left _ (List.mem_map.mpr ⟨((⟨"SchoolBoardModel", "counts", "()V"⟩ : MethodName), _), List.mem_of_getElem? (i := 94) rfl, rfl⟩))
theorem jp95 : Cond.selects "SchoolBoardModel" (⟨"SchoolBoardModel", "ahead", "(I)I"⟩ : MethodName) (⟨"SchoolBoardModel", "ahead", "(I)I"⟩ : MethodName) ∈ jT := List.mem_append_right _ (List.mem_append_left _ (List.mem_map.mpr ⟨((⟨"SchoolBoardModel", "ahead", "(I)I"⟩ : MethodName), _), List.mem_of_getElem? (i := 95) rfl, rfl⟩))
theorem jp96 : Cond.selects "SchoolBoardModel" (⟨"SchoolBoardModel", "isSure", "(II)Z"⟩ : MethodName) (⟨"SchoolBoardModel", "isSure", "(II)Z"⟩ : MethodName) ∈ jT := List.mem_append_right _ (List.mem_append_left _ (List.mem_map.mpr ⟨((⟨"SchoolBoardModel", "isSure", "(II)Z"⟩ : MethodName), _), List.mem_of_getElem? (i := 96) rfl, rfl⟩))
theorem jp97 : Cond.selects "SchoolBoardModel" (⟨"SchoolBoardModel", "comes", "(I)I"⟩ : MethodName) (⟨"SchoolBoardModel", "comes", "(I)I"⟩ : MethodName) ∈ jT := List.mem_append_right _ (List.mem_append_left _ (List.mem_map.mpr ⟨((⟨"SchoolBoardModel", "comes", "(I)I"⟩ : MethodName), _), List.mem_of_getElem? (i := 97) rfl, rfl⟩))
theorem jp98 : Cond.selects "SchoolBoardModel" (⟨"SchoolBoardModel", "pays", "(II)I"⟩ : MethodName) (⟨"SchoolBoardModel", "pays", "(II)I"⟩ : MethodName) ∈ jT := List.mem_append_right _ (List.mem_append_left _ (List.mem_map.mpr ⟨((⟨"SchoolBoardModel", "pays", "(II)I"⟩ : MethodName), _), List.mem_of_getElem? (i := 98) rfl, rfl⟩))
theorem jp99 : Cond.selects "SchoolBoardModel" (⟨"SchoolBoardModel", "four", "(I)V"⟩ : MethodName) (⟨"SchoolBoardModel", "four", "(I)V"⟩ : MethodName) ∈ jT := List.mem_append_right _ (List.mem_append_left _ (List.mem_map.mpr ⟨((⟨"SchoolBoardModel", "four", "(I)V"⟩ : MethodName), _), List.mem_of_getElem? (i := 99) rfl, rfl⟩))
theorem jp100 : Cond.selects "SchoolBoardModel" (⟨"SchoolBoardModel", "blanks", "()V"⟩ : MethodName) (⟨"SchoolBoardModel", "blanks", "()V"⟩ : MethodName) ∈ jT := List.mem_append_right _ (List.mem_append_left _ (List.mem_map.mpr ⟨((⟨"SchoolBoardModel", "blanks", "()V"⟩ : MethodName), _), List.mem_of_getElem? (i := 100) rfl, rfl⟩))
theorem jp101 : Cond.selects "SchoolBoardModel" (⟨"SchoolBoardModel", "statement", "(I)Z"⟩ : MethodName) (⟨"SchoolBoardModel", "statement", "(I)Z"⟩ : MethodName) ∈ jT := List.mem_append_right _ (List.mem_append_left _ (List.mem_map.mpr ⟨((⟨"SchoolBoardModel", "statement", "(I)Z"⟩ : MethodName), _), List.mem_of_getElem? (i := 101) rfl, rfl⟩))
theorem jp102 : Cond.selects "SchoolBoardModel" (⟨"SchoolBoardModel", "takes", "(J)Z"⟩ : MethodName) (⟨"SchoolBoardModel", "takes", "(J)Z"⟩ : MethodName) ∈ jT := List.mem_append_right _ (List.mem_append_left _ (List.mem_map.mpr ⟨((⟨"SchoolBoardModel", "takes", "(J)Z"⟩ : MethodName), _), List.mem_of_getElem? (i := 102) rfl, rfl⟩))
theorem jp103 : Cond.selects "SchoolBoardModel" (⟨"SchoolBoardModel", "takesNumber", "(II)Z"⟩ : MethodName) (⟨"SchoolBoardModel", "takesNumber", "(II)Z"⟩ : MethodName) ∈ jT := List.mem_append_right _ (List.mem_append_left _ (List.mem_map.mpr ⟨((⟨"SchoolBoardModel", "takesNumber", "(II)Z"⟩ : MethodName), _), List.mem_of_getElem? (i := 103) rfl, rfl⟩))
theorem jp104 : Cond.selects "SchoolBoardModel" (⟨"SchoolBoardModel", "takesSign", "(I)Z"⟩ : MethodName) (⟨"SchoolBoardModel", "takesSign", "(I)Z"⟩ : MethodName) ∈ jT := List.mem_append_right _ (List.mem_append_left _ (List.mem_map.mpr ⟨((⟨"SchoolBoardModel", "takesSign", "(I)Z"⟩ : MethodName), _), List.mem_of_getElem? (i := 104) rfl, rfl⟩))
theorem jp105 : Cond.selects "SchoolBoardModel" (⟨"SchoolBoardModel", "reads", "(I)Z"⟩ : MethodName) (⟨"SchoolBoardModel", "reads", "(I)Z"⟩ : MethodName) ∈ jT := List.mem_append_right _ (List.mem_append_left _ (List.mem_map.mpr ⟨((⟨"SchoolBoardModel", "reads", "(I)Z"⟩ : MethodName), _), List.mem_of_getElem? (i := 105) rfl, rfl⟩))
theorem jp106 : Cond.selects "SchoolBoardModel" (⟨"SchoolBoardModel", "plain", "(II)Z"⟩ : MethodName) (⟨"SchoolBoardModel", "plain", "(II)Z"⟩ : MethodName) ∈ jT := List.mem_append_right _ (List.mem_append_left _ (List.mem_map.mpr ⟨((⟨"SchoolBoardModel", "plain", "(II)Z"⟩ : MethodName), _), List.mem_of_getElem? (i := 106) rfl, rfl⟩))
theorem jp107 : Cond.selects "SchoolBoardModel" (⟨"SchoolBoardModel", "takesPlain", "()Z"⟩ : MethodName) (⟨"SchoolBoardModel", "takesPlain", "()Z"⟩ : MethodName) ∈ jT := List.mem_append_right _ (List.mem_append_left _ (List.mem_map.mpr ⟨((⟨"SchoolBoardModel", "takesPlain", "()Z"⟩ : MethodName), _), List.mem_of_getElem? (i := 107) rfl, rfl⟩))
theorem jp108 : Cond.selects "SchoolBoardModel" (⟨"SchoolBoardModel", "pair", "(IIIJI)Z"⟩ : MethodName) (⟨"SchoolBoardModel", "pair", "(IIIJI)Z"⟩ : MethodName) ∈ jT := List.mem_append_right _ (List.mem_append_left _ (List.mem_map.mpr ⟨((⟨"SchoolBoardModel", "pair", "(IIIJI)Z"⟩ : MethodName), _), List.mem_of_getElem? (i := 108) rfl, rfl⟩))
theorem jp109 : Cond.selects "SchoolBoardModel" (⟨"SchoolBoardModel", "counts", "(I)Z"⟩ : MethodName) (⟨"SchoolBoardModel", "counts", "(I)Z"⟩ : MethodName) ∈ jT := List.mem_append_right _ (List.mem_append_left _ (List.mem_map.mpr ⟨((⟨"SchoolBoardModel", "counts", "(I)Z"⟩ : MethodName), _), List.mem_of_getElem? (i := 109) rfl, rfl⟩))
theorem jp110 : Cond.selects "SchoolBoardModel" (⟨"SchoolBoardModel", "grants", "(I)Z"⟩ : MethodName) (⟨"SchoolBoardModel", "grants", "(I)Z"⟩ : MethodName) ∈ jT := List.mem_append_right _ (List.mem_append_left _ (List.mem_map.mpr ⟨((⟨"SchoolBoardModel", "grants", "(I)Z"⟩ : MethodName), _), List.mem_of_getElem? (i := 110) rfl, rfl⟩))
theorem jp111 : Cond.selects "SchoolBoardModel" (⟨"SchoolBoardModel", "takesIf", "(I)Z"⟩ : MethodName) (⟨"SchoolBoardModel", "takesIf", "(I)Z"⟩ : MethodName) ∈ jT := List.mem_append_right _ (List.mem_append_left _ (List.mem_map.mpr ⟨((⟨"SchoolBoardModel", "takesIf", "(I)Z"⟩ : MethodName), _), List.mem_of_getElem? (i := 111) rfl, rfl⟩))
theorem jp112 : Cond.selects "SchoolBoardModel" (⟨"SchoolBoardModel", "any", "()I"⟩ : MethodName) (⟨"SchoolBoardModel", "any", "()I"⟩ : MethodName) ∈ jT := List.mem_append_right _ (List.mem_append_left _ (List.mem_map.mpr ⟨((⟨"SchoolBoardModel", "any", "()I"⟩ : MethodName), _), List.mem_of_getElem? (i := 112) rfl, rfl⟩))
theorem jp113 : Cond.selects "SchoolBoardModel" (⟨"SchoolBoardModel", "node", "(I)I"⟩ : MethodName) (⟨"SchoolBoardModel", "node", "(I)I"⟩ : MethodName) ∈ jT := List.mem_append_right _ (List.mem_append_left _ (List.mem_map.mpr ⟨((⟨"SchoolBoardModel", "node", "(I)I"⟩ : MethodName), _), List.mem_of_getElem? (i := 113) rfl, rfl⟩))
theorem jp114 : Cond.selects "SchoolBoardModel" (⟨"SchoolBoardModel", "all", "()I"⟩ : MethodName) (⟨"SchoolBoardModel", "all", "()I"⟩ : MethodName) ∈ jT := List.mem_append_right _ (List.mem_append_left _ (List.mem_map.mpr ⟨((⟨"SchoolBoardModel", "all", "()I"⟩ : MethodName), _), List.mem_of_getElem? (i := 114) rfl, rfl⟩))
theorem jp115 : Cond.selects "SchoolBoardModel" (⟨"SchoolBoardModel", "single", "()I"⟩ : MethodName) (⟨"SchoolBoardModel", "single", "()I"⟩ : MethodName) ∈ jT := List.mem_append_right _ (List.mem_append_left _ (List.mem_map.mpr ⟨((⟨"SchoolBoardModel", "single", "()I"⟩ : MethodName), _), List.mem_of_getElem? (i := 115) rfl, rfl⟩))
theorem jp116 : Cond.selects "SchoolBoardModel" (⟨"SchoolBoardModel", "name", "()I"⟩ : MethodName) (⟨"SchoolBoardModel", "name", "()I"⟩ : MethodName) ∈ jT := List.mem_append_right _ (List.mem_append_left _ (List.mem_map.mpr ⟨((⟨"SchoolBoardModel", "name", "()I"⟩ : MethodName), _), List.mem_of_getElem? (i := 116) rfl, rfl⟩))
theorem jp117 : Cond.selects "SchoolBoardModel" (⟨"SchoolBoardModel", "writesWord", "(J)V"⟩ : MethodName) (⟨"SchoolBoardModel", "writesWord", "(J)V"⟩ : MethodName) ∈ jT := List.mem_append_right _ (List.mem_append_left _ (List.mem_map.mpr ⟨((⟨"SchoolBoardModel", "writesWord", "(J)V"⟩ : MethodName), _), List.mem_of_getElem? (i := 117) rfl, rfl⟩))
theorem jp118 : Cond.selects "SchoolBoardModel" (⟨"SchoolBoardModel", "writes", "(I)V"⟩ : MethodName) (⟨"SchoolBoardModel", "writes", "(I)V"⟩ : MethodName) ∈ jT := List.mem_append_right _ (List.mem_append_left _ (List.mem_map.mpr ⟨((⟨"SchoolBoardModel", "writes", "(I)V"⟩ : MethodName), _), List.mem_of_getElem? (i := 118) rfl, rfl⟩))
theorem jp119 : Cond.selects "SchoolBoardModel" (⟨"SchoolBoardModel", "writesNumber", "(I)V"⟩ : MethodName) (⟨"SchoolBoardModel", "writesNumber", "(I)V"⟩ : MethodName) ∈ jT := List.mem_append_right _ (List.mem_append_left _ (List.mem_map.mpr ⟨((⟨"SchoolBoardModel", "writesNumber", "(I)V"⟩ : MethodName), _), List.mem_of_getElem? (i := 119) rfl, rfl⟩))
theorem jp120 : Cond.selects "SchoolBoardModel" (⟨"SchoolBoardModel", "writesBody", "(I)V"⟩ : MethodName) (⟨"SchoolBoardModel", "writesBody", "(I)V"⟩ : MethodName) ∈ jT := List.mem_append_right _ (List.mem_append_left _ (List.mem_map.mpr ⟨((⟨"SchoolBoardModel", "writesBody", "(I)V"⟩ : MethodName), _), List.mem_of_getElem? (i := 120) rfl, rfl⟩))
theorem jp121 : Cond.selects "SchoolBoardModel" (⟨"SchoolBoardModel", "writesNode", "(II)V"⟩ : MethodName) (⟨"SchoolBoardModel", "writesNode", "(II)V"⟩ : MethodName) ∈ jT := List.mem_append_right _ (List.mem_append_left _ (List.mem_map.mpr ⟨((⟨"SchoolBoardModel", "writesNode", "(II)V"⟩ : MethodName), _), List.mem_of_getElem? (i := 121) rfl, rfl⟩))
theorem jp122 : Cond.selects "SchoolBoardModel" (⟨"SchoolBoardModel", "close", "(I)I"⟩ : MethodName) (⟨"SchoolBoardModel", "close", "(I)I"⟩ : MethodName) ∈ jT := List.mem_append_right _ (List.mem_append_left _ (List.mem_map.mpr ⟨((⟨"SchoolBoardModel", "close", "(I)I"⟩ : MethodName), _), List.mem_of_getElem? (i := 122) rfl, rfl⟩))
