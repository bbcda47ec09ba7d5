/-! names of classes, fields, methods; the words that every method has -/
def TB : List Cond := lw_tbl.filter goodWord
theorem gdTB : GoodIn TB TB := fun w h => ⟨h, good_of_word (List.mem_filter.mp h).2⟩
theorem inT1 {w : Cond} (j : Nat) (hj : tables_1_1[j]? = some w) (hg : goodWord w = true) : w ∈ TB := by
  have h : w ∈ tables_1_1 := List.mem_of_getElem? hj
  exact List.mem_filter.mpr ⟨List.mem_append_right _ (show w ∈ tables_1 from List.mem_append_left _ h), hg⟩
theorem inT2 {w : Cond} (j : Nat) (hj : tables_1_2[j]? = some w) (hg : goodWord w = true) : w ∈ TB := by
  have h : w ∈ tables_1_2 := List.mem_of_getElem? hj
  exact List.mem_filter.mpr ⟨List.mem_append_right _ (show w ∈ tables_1 from List.mem_append_right _ (List.mem_append_left _ h)), hg⟩
theorem inT3 {w : Cond} (j : Nat) (hj : tables_1_3[j]? = some w) (hg : goodWord w = true) : w ∈ TB := by
  have h : w ∈ tables_1_3 := List.mem_of_getElem? hj
  exact List.mem_filter.mpr ⟨List.mem_append_right _ (show w ∈ tables_1 from List.mem_append_right _ (List.mem_append_right _ (List.mem_append_left _ h))), hg⟩
theorem inT4 {w : Cond} (j : Nat) (hj : tables_1_4[j]? = some w) (hg : goodWord w = true) : w ∈ TB := by
  have h : w ∈ tables_1_4 := List.mem_of_getElem? hj
  exact List.mem_filter.mpr ⟨List.mem_append_right _ (show w ∈ tables_1 from List.mem_append_right _ (List.mem_append_right _ (List.mem_append_right _ (List.mem_append_left _ h)))), hg⟩
theorem inT5 {w : Cond} (j : Nat) (hj : tables_1_5[j]? = some w) (hg : goodWord w = true) : w ∈ TB := by
  have h : w ∈ tables_1_5 := List.mem_of_getElem? hj
  exact List.mem_filter.mpr ⟨List.mem_append_right _ (show w ∈ tables_1 from List.mem_append_right _ (List.mem_append_right _ (List.mem_append_right _ (List.mem_append_right _ h)))), hg⟩
theorem inTP {w : Cond} (j : Nat) (hj : (k2_sels lw_privs)[j]? = some w) (hg : goodWord w = true) : w ∈ TB := List.mem_filter.mpr ⟨List.mem_append_left _ (List.mem_of_getElem? hj), hg⟩
theorem inU {C : String} {T : u_T} {N : Nat} (h : ∀ k, k < N → u_lay C T k ∈ TB) : ∀ w ∈ u_ws C T N, w ∈ TB := by
  intro w hw
  obtain ⟨k, hk, rfl⟩ := List.mem_map.mp hw
  exact h k (List.mem_range.mp hk)
theorem W1_0 : (Jvm.Cond.initialized "PriceLinesLaw") ∈ TB := inT1 0 rfl rfl
theorem W1_1 : (Jvm.Cond.initialized "PriceLines") ∈ TB := inT1 1 rfl rfl
theorem W1_2 : (Jvm.Cond.initialized "PriceLines$Reader") ∈ TB := inT1 2 rfl rfl
theorem W1_3 : (Jvm.Cond.initialized "PriceLines$Facts") ∈ TB := inT1 3 rfl rfl
theorem W1_4 : (Jvm.Cond.initialized "PriceLines$Reckoning") ∈ TB := inT1 4 rfl rfl
theorem W1_5 : (Jvm.Cond.initialized "PriceLines$Fraction") ∈ TB := inT1 5 rfl rfl
theorem W1_6 : (Jvm.Cond.initialized "PriceLines$Currencies") ∈ TB := inT1 6 rfl rfl
theorem W1_7 : (Jvm.Cond.initialized "PriceLines$Offers") ∈ TB := inT1 7 rfl rfl
theorem W1_8 : (Jvm.Cond.initialized "PriceLines$Invoices") ∈ TB := inT1 8 rfl rfl
theorem W1_9 : (Jvm.Cond.initialized "PriceLines$Minutes") ∈ TB := inT1 9 rfl rfl
theorem W1_10 : (Jvm.Cond.initialized "PriceLines$Sheet") ∈ TB := inT1 10 rfl rfl
theorem W1_11 : (Jvm.Cond.initialized "PriceLinesModel") ∈ TB := inT1 11 rfl rfl
theorem W1_12 : (Jvm.Cond.initialized "java/lang/Throwable") ∈ TB := inT1 12 rfl rfl
theorem W1_13 : (Jvm.Cond.initialized "java/lang/Exception") ∈ TB := inT1 13 rfl rfl
theorem W1_14 : (Jvm.Cond.initialized "java/lang/RuntimeException") ∈ TB := inT1 14 rfl rfl
theorem W1_15 : (Jvm.Cond.initialized "java/lang/IndexOutOfBoundsException") ∈ TB := inT1 15 rfl rfl
theorem W1_16 : (Jvm.Cond.initialized "java/lang/IllegalArgumentException") ∈ TB := inT1 16 rfl rfl
theorem W1_17 : (Jvm.Cond.initialized "java/lang/Math") ∈ TB := inT1 17 rfl rfl
theorem W1_18 : (Jvm.Cond.initialized "java/lang/IllegalStateException") ∈ TB := inT1 18 rfl rfl
theorem W1_19 : (Jvm.Cond.classLink "PriceLinesLaw" (8 : Nat) "PriceLines") ∈ TB := inT1 19 rfl rfl
theorem W1_20 : (Jvm.Cond.instantiable "PriceLines" (9 : Nat)) ∈ TB := inT1 20 rfl rfl
theorem W1_21 : (Jvm.Cond.methodLink "PriceLinesLaw" (63 : Nat) ({ cls := "PriceLines", name := "<init>", desc := "()V" } : Jvm.MethodName)) ∈ TB := inT1 21 rfl rfl
theorem W1_22 : (Jvm.Cond.instanceMethod ({ cls := "PriceLines", name := "<init>", desc := "()V" } : Jvm.MethodName)) ∈ TB := inT1 22 rfl rfl
theorem W1_23 : (Jvm.Cond.code ({ cls := "PriceLines", name := "<init>", desc := "()V" } : Jvm.MethodName) prog_1_method_1_code (1 : Nat) (Option.none : Option Jvm.ClassFile.FieldType)) ∈ TB := inT1 23 rfl rfl
theorem W1_24 : (Jvm.Cond.methodLink "PriceLines" (1 : Nat) ({ cls := "java/lang/Object", name := "<init>", desc := "()V" } : Jvm.MethodName)) ∈ TB := inT1 24 rfl rfl
theorem W1_25 : (Jvm.Cond.instanceMethod ({ cls := "java/lang/Object", name := "<init>", desc := "()V" } : Jvm.MethodName)) ∈ TB := inT1 25 rfl rfl
theorem W1_26 : (Jvm.Cond.code ({ cls := "java/lang/Object", name := "<init>", desc := "()V" } : Jvm.MethodName) object_method_1_code (1 : Nat) (Option.none : Option Jvm.ClassFile.FieldType)) ∈ TB := inT1 26 rfl rfl
theorem W1_27 : (Jvm.Cond.classLink "PriceLines" (7 : Nat) "PriceLines$Reader") ∈ TB := inT1 27 rfl rfl
theorem W1_28 : (Jvm.Cond.instantiable "PriceLines$Reader" (4 : Nat)) ∈ TB := inT1 28 rfl rfl
theorem W1_30 : (Jvm.Cond.instanceMethod ({ cls := "PriceLines$Reader", name := "<init>", desc := "()V" } : Jvm.MethodName)) ∈ TB := inT1 30 rfl rfl
theorem W1_31 : (Jvm.Cond.code ({ cls := "PriceLines$Reader", name := "<init>", desc := "()V" } : Jvm.MethodName) prog_8_method_1_code (1 : Nat) (Option.none : Option Jvm.ClassFile.FieldType)) ∈ TB := inT1 31 rfl rfl
theorem W1_32 : (Jvm.Cond.methodLink "PriceLines$Reader" (3 : Nat) ({ cls := "java/lang/Object", name := "<init>", desc := "()V" } : Jvm.MethodName)) ∈ TB := inT1 32 rfl rfl
theorem W1_33 : (Jvm.Cond.fieldLink "PriceLines$Reader" (9 : Nat) "PriceLines$Reader" "text" "[C") ∈ TB := inT1 33 rfl rfl
theorem W1_34 : (Jvm.Cond.fieldLink "PriceLines$Reader" (15 : Nat) "PriceLines$Reader" "length" "I") ∈ TB := inT1 34 rfl rfl
theorem W1_35 : (Jvm.Cond.fieldLink "PriceLines$Reader" (28 : Nat) "PriceLines$Reader" "height" "I") ∈ TB := inT1 35 rfl rfl
theorem W1_36 : (Jvm.Cond.fieldLink "PriceLines$Reader" (31 : Nat) "PriceLines$Reader" "digits" "I") ∈ TB := inT1 36 rfl rfl
theorem W1_37 : (Jvm.Cond.laysFinal "PriceLines$Reader" "PriceLines$Reader" "text" "[C") ∈ TB := inT1 37 rfl rfl
theorem W1_39 : (Jvm.Cond.lays "PriceLines$Reader" "PriceLines$Reader" "length" "I") ∈ TB := inT1 39 rfl rfl
theorem W1_41 : (Jvm.Cond.lays "PriceLines$Reader" "PriceLines$Reader" "height" "I") ∈ TB := inT1 41 rfl rfl
theorem W1_43 : (Jvm.Cond.lays "PriceLines$Reader" "PriceLines$Reader" "digits" "I") ∈ TB := inT1 43 rfl rfl
theorem W1_46 : (Jvm.Cond.arrayClass Jvm.ClassFile.FieldType.char) ∈ TB := inT1 46 rfl rfl
theorem W1_47 : (Jvm.Cond.classLink "PriceLines" (16 : Nat) "PriceLines$Facts") ∈ TB := inT1 47 rfl rfl
theorem W1_48 : (Jvm.Cond.instantiable "PriceLines$Facts" (2 : Nat)) ∈ TB := inT1 48 rfl rfl
theorem W1_50 : (Jvm.Cond.instanceMethod ({ cls := "PriceLines$Facts", name := "<init>", desc := "()V" } : Jvm.MethodName)) ∈ TB := inT1 50 rfl rfl
theorem W1_51 : (Jvm.Cond.code ({ cls := "PriceLines$Facts", name := "<init>", desc := "()V" } : Jvm.MethodName) prog_3_method_1_code (1 : Nat) (Option.none : Option Jvm.ClassFile.FieldType)) ∈ TB := inT1 51 rfl rfl
theorem W1_52 : (Jvm.Cond.methodLink "PriceLines$Facts" (3 : Nat) ({ cls := "java/lang/Object", name := "<init>", desc := "()V" } : Jvm.MethodName)) ∈ TB := inT1 52 rfl rfl
theorem W1_53 : (Jvm.Cond.fieldLink "PriceLines$Facts" (9 : Nat) "PriceLines$Facts" "above" "[I") ∈ TB := inT1 53 rfl rfl
theorem W1_54 : (Jvm.Cond.fieldLink "PriceLines$Facts" (15 : Nat) "PriceLines$Facts" "below" "[I") ∈ TB := inT1 54 rfl rfl
theorem W1_55 : (Jvm.Cond.laysFinal "PriceLines$Facts" "PriceLines$Facts" "above" "[I") ∈ TB := inT1 55 rfl rfl
theorem W1_57 : (Jvm.Cond.laysFinal "PriceLines$Facts" "PriceLines$Facts" "below" "[I") ∈ TB := inT1 57 rfl rfl
theorem W1_60 : (Jvm.Cond.arrayClass Jvm.ClassFile.FieldType.int) ∈ TB := inT1 60 rfl rfl
theorem W1_61 : (Jvm.Cond.classLink "PriceLines" (23 : Nat) "PriceLines$Reckoning") ∈ TB := inT1 61 rfl rfl
theorem W1_62 : (Jvm.Cond.instantiable "PriceLines$Reckoning" (7 : Nat)) ∈ TB := inT1 62 rfl rfl
theorem W1_63 : (Jvm.Cond.methodLink "PriceLines" (25 : Nat) ({ cls := "PriceLines$Reckoning", name := "<init>", desc := "()V" } : Jvm.MethodName)) ∈ TB := inT1 63 rfl rfl
theorem W1_64 : (Jvm.Cond.instanceMethod ({ cls := "PriceLines$Reckoning", name := "<init>", desc := "()V" } : Jvm.MethodName)) ∈ TB := inT1 64 rfl rfl
theorem W1_65 : (Jvm.Cond.code ({ cls := "PriceLines$Reckoning", name := "<init>", desc := "()V" } : Jvm.MethodName) prog_9_method_1_code (2 : Nat) (Option.none : Option Jvm.ClassFile.FieldType)) ∈ TB := inT1 65 rfl rfl
theorem W1_66 : (Jvm.Cond.methodLink "PriceLines$Reckoning" (3 : Nat) ({ cls := "java/lang/Object", name := "<init>", desc := "()V" } : Jvm.MethodName)) ∈ TB := inT1 66 rfl rfl
theorem W1_67 : (Jvm.Cond.classLink "PriceLines$Reckoning" (9 : Nat) "PriceLines$Fraction") ∈ TB := inT1 67 rfl rfl
theorem W1_68 : (Jvm.Cond.instantiable "PriceLines$Fraction" (2 : Nat)) ∈ TB := inT1 68 rfl rfl
theorem W1_70 : (Jvm.Cond.instanceMethod ({ cls := "PriceLines$Fraction", name := "<init>", desc := "()V" } : Jvm.MethodName)) ∈ TB := inT1 70 rfl rfl
theorem W1_71 : (Jvm.Cond.code ({ cls := "PriceLines$Fraction", name := "<init>", desc := "()V" } : Jvm.MethodName) prog_4_method_1_code (1 : Nat) (Option.none : Option Jvm.ClassFile.FieldType)) ∈ TB := inT1 71 rfl rfl
theorem W1_72 : (Jvm.Cond.methodLink "PriceLines$Fraction" (3 : Nat) ({ cls := "java/lang/Object", name := "<init>", desc := "()V" } : Jvm.MethodName)) ∈ TB := inT1 72 rfl rfl
theorem W1_73 : (Jvm.Cond.fieldLink "PriceLines$Fraction" (9 : Nat) "PriceLines$Fraction" "above" "J") ∈ TB := inT1 73 rfl rfl
theorem W1_75 : (Jvm.Cond.fieldLink "PriceLines$Fraction" (15 : Nat) "PriceLines$Fraction" "below" "J") ∈ TB := inT1 75 rfl rfl
theorem W1_77 : (Jvm.Cond.lays "PriceLines$Fraction" "PriceLines$Fraction" "above" "J") ∈ TB := inT1 77 rfl rfl
theorem W1_79 : (Jvm.Cond.lays "PriceLines$Fraction" "PriceLines$Fraction" "below" "J") ∈ TB := inT1 79 rfl rfl
theorem W1_83 : (Jvm.Cond.fieldLink "PriceLines$Reckoning" (12 : Nat) "PriceLines$Reckoning" "total" "LPriceLines$Fraction;") ∈ TB := inT1 83 rfl rfl
theorem W1_84 : (Jvm.Cond.fieldLink "PriceLines$Reckoning" (18 : Nat) "PriceLines$Reckoning" "stack" "[LPriceLines$Fraction;") ∈ TB := inT1 84 rfl rfl
theorem W1_85 : (Jvm.Cond.fieldLink "PriceLines$Reckoning" (22 : Nat) "PriceLines$Reckoning" "added" "[LPriceLines$Fraction;") ∈ TB := inT1 85 rfl rfl
theorem W1_86 : (Jvm.Cond.fieldLink "PriceLines$Reckoning" (25 : Nat) "PriceLines$Reckoning" "reasons" "[I") ∈ TB := inT1 86 rfl rfl
theorem W1_87 : (Jvm.Cond.fieldLink "PriceLines$Reckoning" (29 : Nat) "PriceLines$Reckoning" "places" "[I") ∈ TB := inT1 87 rfl rfl
theorem W1_88 : (Jvm.Cond.fieldLink "PriceLines$Reckoning" (71 : Nat) "PriceLines$Reckoning" "height" "I") ∈ TB := inT1 88 rfl rfl
theorem W1_89 : (Jvm.Cond.fieldLink "PriceLines$Reckoning" (36 : Nat) "PriceLines$Reckoning" "openLines" "I") ∈ TB := inT1 89 rfl rfl
theorem W1_91 : (Jvm.Cond.laysFinal "PriceLines$Reckoning" "PriceLines$Reckoning" "total" "LPriceLines$Fraction;") ∈ TB := inT1 91 rfl rfl
theorem W1_93 : (Jvm.Cond.laysFinal "PriceLines$Reckoning" "PriceLines$Reckoning" "stack" "[LPriceLines$Fraction;") ∈ TB := inT1 93 rfl rfl
theorem W1_95 : (Jvm.Cond.laysFinal "PriceLines$Reckoning" "PriceLines$Reckoning" "added" "[LPriceLines$Fraction;") ∈ TB := inT1 95 rfl rfl
theorem W1_97 : (Jvm.Cond.laysFinal "PriceLines$Reckoning" "PriceLines$Reckoning" "reasons" "[I") ∈ TB := inT1 97 rfl rfl
theorem W1_99 : (Jvm.Cond.laysFinal "PriceLines$Reckoning" "PriceLines$Reckoning" "places" "[I") ∈ TB := inT1 99 rfl rfl
theorem W1_101 : (Jvm.Cond.lays "PriceLines$Reckoning" "PriceLines$Reckoning" "height" "I") ∈ TB := inT1 101 rfl rfl
theorem W1_103 : (Jvm.Cond.lays "PriceLines$Reckoning" "PriceLines$Reckoning" "openLines" "I") ∈ TB := inT1 103 rfl rfl
theorem W1_106 : (Jvm.Cond.classLink "PriceLines" (30 : Nat) "PriceLines$Currencies") ∈ TB := inT1 106 rfl rfl
theorem W1_107 : (Jvm.Cond.instantiable "PriceLines$Currencies" (4 : Nat)) ∈ TB := inT1 107 rfl rfl
theorem W1_109 : (Jvm.Cond.instanceMethod ({ cls := "PriceLines$Currencies", name := "<init>", desc := "()V" } : Jvm.MethodName)) ∈ TB := inT1 109 rfl rfl
theorem W1_110 : (Jvm.Cond.code ({ cls := "PriceLines$Currencies", name := "<init>", desc := "()V" } : Jvm.MethodName) prog_2_method_1_code (1 : Nat) (Option.none : Option Jvm.ClassFile.FieldType)) ∈ TB := inT1 110 rfl rfl
theorem W1_111 : (Jvm.Cond.methodLink "PriceLines$Currencies" (3 : Nat) ({ cls := "java/lang/Object", name := "<init>", desc := "()V" } : Jvm.MethodName)) ∈ TB := inT1 111 rfl rfl
theorem W1_112 : (Jvm.Cond.fieldLink "PriceLines$Currencies" (9 : Nat) "PriceLines$Currencies" "days" "[I") ∈ TB := inT1 112 rfl rfl
theorem W1_113 : (Jvm.Cond.fieldLink "PriceLines$Currencies" (15 : Nat) "PriceLines$Currencies" "above" "[I") ∈ TB := inT1 113 rfl rfl
theorem W1_114 : (Jvm.Cond.fieldLink "PriceLines$Currencies" (18 : Nat) "PriceLines$Currencies" "below" "[I") ∈ TB := inT1 114 rfl rfl
theorem W1_115 : (Jvm.Cond.fieldLink "PriceLines$Currencies" (21 : Nat) "PriceLines$Currencies" "count" "I") ∈ TB := inT1 115 rfl rfl
theorem W1_117 : (Jvm.Cond.laysFinal "PriceLines$Currencies" "PriceLines$Currencies" "days" "[I") ∈ TB := inT1 117 rfl rfl
theorem W1_119 : (Jvm.Cond.laysFinal "PriceLines$Currencies" "PriceLines$Currencies" "above" "[I") ∈ TB := inT1 119 rfl rfl
theorem W1_121 : (Jvm.Cond.laysFinal "PriceLines$Currencies" "PriceLines$Currencies" "below" "[I") ∈ TB := inT1 121 rfl rfl
theorem W1_123 : (Jvm.Cond.lays "PriceLines$Currencies" "PriceLines$Currencies" "count" "I") ∈ TB := inT1 123 rfl rfl
theorem W1_126 : (Jvm.Cond.classLink "PriceLines" (37 : Nat) "PriceLines$Offers") ∈ TB := inT1 126 rfl rfl
theorem W1_127 : (Jvm.Cond.instantiable "PriceLines$Offers" (3 : Nat)) ∈ TB := inT1 127 rfl rfl
theorem W1_129 : (Jvm.Cond.instanceMethod ({ cls := "PriceLines$Offers", name := "<init>", desc := "()V" } : Jvm.MethodName)) ∈ TB := inT1 129 rfl rfl
theorem W1_130 : (Jvm.Cond.code ({ cls := "PriceLines$Offers", name := "<init>", desc := "()V" } : Jvm.MethodName) prog_7_method_1_code (1 : Nat) (Option.none : Option Jvm.ClassFile.FieldType)) ∈ TB := inT1 130 rfl rfl
theorem W1_131 : (Jvm.Cond.methodLink "PriceLines$Offers" (3 : Nat) ({ cls := "java/lang/Object", name := "<init>", desc := "()V" } : Jvm.MethodName)) ∈ TB := inT1 131 rfl rfl
theorem W1_132 : (Jvm.Cond.fieldLink "PriceLines$Offers" (9 : Nat) "PriceLines$Offers" "cents" "[J") ∈ TB := inT1 132 rfl rfl
theorem W1_133 : (Jvm.Cond.fieldLink "PriceLines$Offers" (15 : Nat) "PriceLines$Offers" "lastDays" "[I") ∈ TB := inT1 133 rfl rfl
theorem W1_134 : (Jvm.Cond.fieldLink "PriceLines$Offers" (19 : Nat) "PriceLines$Offers" "count" "I") ∈ TB := inT1 134 rfl rfl
theorem W1_136 : (Jvm.Cond.laysFinal "PriceLines$Offers" "PriceLines$Offers" "cents" "[J") ∈ TB := inT1 136 rfl rfl
theorem W1_138 : (Jvm.Cond.laysFinal "PriceLines$Offers" "PriceLines$Offers" "lastDays" "[I") ∈ TB := inT1 138 rfl rfl
theorem W1_140 : (Jvm.Cond.lays "PriceLines$Offers" "PriceLines$Offers" "count" "I") ∈ TB := inT1 140 rfl rfl
theorem W1_143 : (Jvm.Cond.arrayClass Jvm.ClassFile.FieldType.long) ∈ TB := inT1 143 rfl rfl
theorem W1_144 : (Jvm.Cond.classLink "PriceLines" (44 : Nat) "PriceLines$Invoices") ∈ TB := inT1 144 rfl rfl
theorem W1_145 : (Jvm.Cond.instantiable "PriceLines$Invoices" (2 : Nat)) ∈ TB := inT1 145 rfl rfl
theorem W1_147 : (Jvm.Cond.instanceMethod ({ cls := "PriceLines$Invoices", name := "<init>", desc := "()V" } : Jvm.MethodName)) ∈ TB := inT1 147 rfl rfl
theorem W1_148 : (Jvm.Cond.code ({ cls := "PriceLines$Invoices", name := "<init>", desc := "()V" } : Jvm.MethodName) prog_5_method_1_code (1 : Nat) (Option.none : Option Jvm.ClassFile.FieldType)) ∈ TB := inT1 148 rfl rfl
theorem W1_149 : (Jvm.Cond.methodLink "PriceLines$Invoices" (3 : Nat) ({ cls := "java/lang/Object", name := "<init>", desc := "()V" } : Jvm.MethodName)) ∈ TB := inT1 149 rfl rfl
theorem W1_150 : (Jvm.Cond.fieldLink "PriceLines$Invoices" (9 : Nat) "PriceLines$Invoices" "leftCents" "[J") ∈ TB := inT1 150 rfl rfl
theorem W1_151 : (Jvm.Cond.fieldLink "PriceLines$Invoices" (15 : Nat) "PriceLines$Invoices" "count" "I") ∈ TB := inT1 151 rfl rfl
theorem W1_153 : (Jvm.Cond.laysFinal "PriceLines$Invoices" "PriceLines$Invoices" "leftCents" "[J") ∈ TB := inT1 153 rfl rfl
theorem W1_155 : (Jvm.Cond.lays "PriceLines$Invoices" "PriceLines$Invoices" "count" "I") ∈ TB := inT1 155 rfl rfl
theorem W1_158 : (Jvm.Cond.classLink "PriceLines" (51 : Nat) "PriceLines$Minutes") ∈ TB := inT1 158 rfl rfl
theorem W1_159 : (Jvm.Cond.instantiable "PriceLines$Minutes" (2 : Nat)) ∈ TB := inT1 159 rfl rfl
theorem W1_161 : (Jvm.Cond.instanceMethod ({ cls := "PriceLines$Minutes", name := "<init>", desc := "()V" } : Jvm.MethodName)) ∈ TB := inT1 161 rfl rfl
theorem W1_162 : (Jvm.Cond.code ({ cls := "PriceLines$Minutes", name := "<init>", desc := "()V" } : Jvm.MethodName) prog_6_method_1_code (1 : Nat) (Option.none : Option Jvm.ClassFile.FieldType)) ∈ TB := inT1 162 rfl rfl
theorem W1_163 : (Jvm.Cond.methodLink "PriceLines$Minutes" (3 : Nat) ({ cls := "java/lang/Object", name := "<init>", desc := "()V" } : Jvm.MethodName)) ∈ TB := inT1 163 rfl rfl
theorem W1_164 : (Jvm.Cond.fieldLink "PriceLines$Minutes" (9 : Nat) "PriceLines$Minutes" "sums" "[J") ∈ TB := inT1 164 rfl rfl
theorem W1_165 : (Jvm.Cond.fieldLink "PriceLines$Minutes" (15 : Nat) "PriceLines$Minutes" "counts" "[J") ∈ TB := inT1 165 rfl rfl
theorem W1_166 : (Jvm.Cond.laysFinal "PriceLines$Minutes" "PriceLines$Minutes" "sums" "[J") ∈ TB := inT1 166 rfl rfl
theorem W1_168 : (Jvm.Cond.laysFinal "PriceLines$Minutes" "PriceLines$Minutes" "counts" "[J") ∈ TB := inT1 168 rfl rfl
theorem W1_171 : (Jvm.Cond.classLink "PriceLines" (58 : Nat) "PriceLines$Sheet") ∈ TB := inT1 171 rfl rfl
theorem W1_172 : (Jvm.Cond.instantiable "PriceLines$Sheet" (4 : Nat)) ∈ TB := inT1 172 rfl rfl
theorem W1_174 : (Jvm.Cond.instanceMethod ({ cls := "PriceLines$Sheet", name := "<init>", desc := "()V" } : Jvm.MethodName)) ∈ TB := inT1 174 rfl rfl
theorem W1_175 : (Jvm.Cond.code ({ cls := "PriceLines$Sheet", name := "<init>", desc := "()V" } : Jvm.MethodName) prog_10_method_1_code (1 : Nat) (Option.none : Option Jvm.ClassFile.FieldType)) ∈ TB := inT1 175 rfl rfl
theorem W1_176 : (Jvm.Cond.methodLink "PriceLines$Sheet" (3 : Nat) ({ cls := "java/lang/Object", name := "<init>", desc := "()V" } : Jvm.MethodName)) ∈ TB := inT1 176 rfl rfl
theorem W1_177 : (Jvm.Cond.fieldLink "PriceLines$Sheet" (9 : Nat) "PriceLines$Sheet" "signs" "[I") ∈ TB := inT1 177 rfl rfl
theorem W1_178 : (Jvm.Cond.fieldLink "PriceLines$Sheet" (15 : Nat) "PriceLines$Sheet" "ends" "[I") ∈ TB := inT1 178 rfl rfl
theorem W1_179 : (Jvm.Cond.fieldLink "PriceLines$Sheet" (18 : Nat) "PriceLines$Sheet" "signCount" "I") ∈ TB := inT1 179 rfl rfl
theorem W1_180 : (Jvm.Cond.fieldLink "PriceLines$Sheet" (22 : Nat) "PriceLines$Sheet" "lineCount" "I") ∈ TB := inT1 180 rfl rfl
theorem W1_184 : (Jvm.Cond.laysFinal "PriceLines$Sheet" "PriceLines$Sheet" "signs" "[I") ∈ TB := inT1 184 rfl rfl
theorem W1_186 : (Jvm.Cond.laysFinal "PriceLines$Sheet" "PriceLines$Sheet" "ends" "[I") ∈ TB := inT1 186 rfl rfl
theorem W1_188 : (Jvm.Cond.lays "PriceLines$Sheet" "PriceLines$Sheet" "signCount" "I") ∈ TB := inT1 188 rfl rfl
theorem W1_190 : (Jvm.Cond.lays "PriceLines$Sheet" "PriceLines$Sheet" "lineCount" "I") ∈ TB := inT1 190 rfl rfl
theorem W1_193 : (Jvm.Cond.fieldLink "PriceLines" (10 : Nat) "PriceLines" "reader" "LPriceLines$Reader;") ∈ TB := inT1 193 rfl rfl
theorem W1_194 : (Jvm.Cond.fieldLink "PriceLines" (19 : Nat) "PriceLines" "facts" "LPriceLines$Facts;") ∈ TB := inT1 194 rfl rfl
theorem W1_195 : (Jvm.Cond.fieldLink "PriceLines" (26 : Nat) "PriceLines" "reckoning" "LPriceLines$Reckoning;") ∈ TB := inT1 195 rfl rfl
theorem W1_196 : (Jvm.Cond.fieldLink "PriceLines" (33 : Nat) "PriceLines" "currencies" "LPriceLines$Currencies;") ∈ TB := inT1 196 rfl rfl
theorem W1_197 : (Jvm.Cond.fieldLink "PriceLines" (40 : Nat) "PriceLines" "offers" "LPriceLines$Offers;") ∈ TB := inT1 197 rfl rfl
theorem W1_198 : (Jvm.Cond.fieldLink "PriceLines" (47 : Nat) "PriceLines" "invoices" "LPriceLines$Invoices;") ∈ TB := inT1 198 rfl rfl
theorem W1_199 : (Jvm.Cond.fieldLink "PriceLines" (54 : Nat) "PriceLines" "minutesLearned" "LPriceLines$Minutes;") ∈ TB := inT1 199 rfl rfl
theorem W1_200 : (Jvm.Cond.fieldLink "PriceLines" (61 : Nat) "PriceLines" "sheet" "LPriceLines$Sheet;") ∈ TB := inT1 200 rfl rfl
theorem W1_201 : (Jvm.Cond.fieldLink "PriceLines" (65 : Nat) "PriceLines" "spareSheet" "LPriceLines$Sheet;") ∈ TB := inT1 201 rfl rfl
theorem W1_202 : (Jvm.Cond.laysFinal "PriceLines" "PriceLines" "reader" "LPriceLines$Reader;") ∈ TB := inT1 202 rfl rfl
theorem W1_204 : (Jvm.Cond.laysFinal "PriceLines" "PriceLines" "facts" "LPriceLines$Facts;") ∈ TB := inT1 204 rfl rfl
theorem W1_206 : (Jvm.Cond.laysFinal "PriceLines" "PriceLines" "reckoning" "LPriceLines$Reckoning;") ∈ TB := inT1 206 rfl rfl
theorem W1_208 : (Jvm.Cond.laysFinal "PriceLines" "PriceLines" "currencies" "LPriceLines$Currencies;") ∈ TB := inT1 208 rfl rfl
theorem W1_210 : (Jvm.Cond.laysFinal "PriceLines" "PriceLines" "offers" "LPriceLines$Offers;") ∈ TB := inT1 210 rfl rfl
theorem W1_212 : (Jvm.Cond.laysFinal "PriceLines" "PriceLines" "invoices" "LPriceLines$Invoices;") ∈ TB := inT1 212 rfl rfl
theorem W1_214 : (Jvm.Cond.laysFinal "PriceLines" "PriceLines" "minutesLearned" "LPriceLines$Minutes;") ∈ TB := inT1 214 rfl rfl
theorem W1_216 : (Jvm.Cond.lays "PriceLines" "PriceLines" "sheet" "LPriceLines$Sheet;") ∈ TB := inT1 216 rfl rfl
theorem W1_218 : (Jvm.Cond.lays "PriceLines" "PriceLines" "spareSheet" "LPriceLines$Sheet;") ∈ TB := inT1 218 rfl rfl
theorem W1_221 : (Jvm.Cond.methodLink "PriceLinesLaw" (67 : Nat) ({ cls := "PriceLines", name := "unit", desc := "(I)Z" } : Jvm.MethodName)) ∈ TB := inT1 221 rfl rfl
theorem W1_222 : (Jvm.Cond.instanceMethod ({ cls := "PriceLines", name := "unit", desc := "(I)Z" } : Jvm.MethodName)) ∈ TB := inT1 222 rfl rfl
theorem W1_223 : (Jvm.Cond.selects "PriceLines" ({ cls := "PriceLines", name := "unit", desc := "(I)Z" } : Jvm.MethodName) ({ cls := "PriceLines", name := "unit", desc := "(I)Z" } : Jvm.MethodName)) ∈ TB := inT1 223 rfl rfl
theorem W1_224 : (Jvm.Cond.code ({ cls := "PriceLines", name := "unit", desc := "(I)Z" } : Jvm.MethodName) prog_1_method_2_code (2 : Nat) (Option.some Jvm.ClassFile.FieldType.boolean)) ∈ TB := inT1 224 rfl rfl
theorem W1_225 : (Jvm.Cond.methodLink "PriceLines" (68 : Nat) ({ cls := "PriceLines$Reader", name := "append", desc := "(I)Z" } : Jvm.MethodName)) ∈ TB := inT1 225 rfl rfl
theorem W1_226 : (Jvm.Cond.instanceMethod ({ cls := "PriceLines$Reader", name := "append", desc := "(I)Z" } : Jvm.MethodName)) ∈ TB := inT1 226 rfl rfl
theorem W1_227 : (Jvm.Cond.selects "PriceLines$Reader" ({ cls := "PriceLines$Reader", name := "append", desc := "(I)Z" } : Jvm.MethodName) ({ cls := "PriceLines$Reader", name := "append", desc := "(I)Z" } : Jvm.MethodName)) ∈ TB := inT1 227 rfl rfl
theorem W1_228 : (Jvm.Cond.code ({ cls := "PriceLines$Reader", name := "append", desc := "(I)Z" } : Jvm.MethodName) prog_8_method_2_code (2 : Nat) (Option.some Jvm.ClassFile.FieldType.boolean)) ∈ TB := inT1 228 rfl rfl
theorem W1_230 : (Jvm.Cond.static ({ cls := "PriceLines", name := "isIndex", desc := "(II)Z" } : Jvm.MethodName)) ∈ TB := inT1 230 rfl rfl
theorem W1_231 : (Jvm.Cond.code ({ cls := "PriceLines", name := "isIndex", desc := "(II)Z" } : Jvm.MethodName) prog_1_method_27_code (2 : Nat) (Option.some Jvm.ClassFile.FieldType.boolean)) ∈ TB := inT1 231 rfl rfl
theorem W1_232 : (Jvm.Cond.methodLink "PriceLinesLaw" (71 : Nat) ({ cls := "PriceLines", name := "read", desc := "()I" } : Jvm.MethodName)) ∈ TB := inT1 232 rfl rfl
theorem W1_233 : (Jvm.Cond.instanceMethod ({ cls := "PriceLines", name := "read", desc := "()I" } : Jvm.MethodName)) ∈ TB := inT1 233 rfl rfl
theorem W1_234 : (Jvm.Cond.selects "PriceLines" ({ cls := "PriceLines", name := "read", desc := "()I" } : Jvm.MethodName) ({ cls := "PriceLines", name := "read", desc := "()I" } : Jvm.MethodName)) ∈ TB := inT1 234 rfl rfl
theorem W1_235 : (Jvm.Cond.code ({ cls := "PriceLines", name := "read", desc := "()I" } : Jvm.MethodName) prog_1_method_3_code (3 : Nat) (Option.some Jvm.ClassFile.FieldType.int)) ∈ TB := inT1 235 rfl rfl
theorem W1_236 : (Jvm.Cond.methodLink "PriceLines" (72 : Nat) ({ cls := "PriceLines$Reader", name := "fill", desc := "(LPriceLines$Sheet;)I" } : Jvm.MethodName)) ∈ TB := inT1 236 rfl rfl
theorem W1_237 : (Jvm.Cond.instanceMethod ({ cls := "PriceLines$Reader", name := "fill", desc := "(LPriceLines$Sheet;)I" } : Jvm.MethodName)) ∈ TB := inT1 237 rfl rfl
theorem W1_238 : (Jvm.Cond.selects "PriceLines$Reader" ({ cls := "PriceLines$Reader", name := "fill", desc := "(LPriceLines$Sheet;)I" } : Jvm.MethodName) ({ cls := "PriceLines$Reader", name := "fill", desc := "(LPriceLines$Sheet;)I" } : Jvm.MethodName)) ∈ TB := inT1 238 rfl rfl
theorem W1_239 : (Jvm.Cond.code ({ cls := "PriceLines$Reader", name := "fill", desc := "(LPriceLines$Sheet;)I" } : Jvm.MethodName) prog_8_method_3_code (4 : Nat) (Option.some Jvm.ClassFile.FieldType.int)) ∈ TB := inT1 239 rfl rfl
theorem W2_0 : (Jvm.Cond.methodLink "PriceLines$Reader" (23 : Nat) ({ cls := "PriceLines$Sheet", name := "clear", desc := "()V" } : Jvm.MethodName)) ∈ TB := inT2 0 rfl rfl
theorem W2_1 : (Jvm.Cond.instanceMethod ({ cls := "PriceLines$Sheet", name := "clear", desc := "()V" } : Jvm.MethodName)) ∈ TB := inT2 1 rfl rfl
theorem W2_2 : (Jvm.Cond.selects "PriceLines$Sheet" ({ cls := "PriceLines$Sheet", name := "clear", desc := "()V" } : Jvm.MethodName) ({ cls := "PriceLines$Sheet", name := "clear", desc := "()V" } : Jvm.MethodName)) ∈ TB := inT2 2 rfl rfl
theorem W2_3 : (Jvm.Cond.code ({ cls := "PriceLines$Sheet", name := "clear", desc := "()V" } : Jvm.MethodName) prog_10_method_2_code (1 : Nat) (Option.none : Option Jvm.ClassFile.FieldType)) ∈ TB := inT2 3 rfl rfl
theorem W2_4 : (Jvm.Cond.methodLink "PriceLines$Reader" (34 : Nat) ({ cls := "PriceLines$Reader", name := "accept", desc := "(CLPriceLines$Sheet;)Z" } : Jvm.MethodName)) ∈ TB := inT2 4 rfl rfl
theorem W2_6 : (Jvm.Cond.instanceMethod ({ cls := "PriceLines$Reader", name := "accept", desc := "(CLPriceLines$Sheet;)Z" } : Jvm.MethodName)) ∈ TB := inT2 6 rfl rfl
theorem W2_7 : (Jvm.Cond.code ({ cls := "PriceLines$Reader", name := "accept", desc := "(CLPriceLines$Sheet;)Z" } : Jvm.MethodName) prog_8_method_4_code (3 : Nat) (Option.some Jvm.ClassFile.FieldType.boolean)) ∈ TB := inT2 7 rfl rfl
theorem W2_8 : (Jvm.Cond.methodLink "PriceLines$Reader" (41 : Nat) ({ cls := "PriceLines$Reader", name := "acceptDigit", desc := "(ILPriceLines$Sheet;)Z" } : Jvm.MethodName)) ∈ TB := inT2 8 rfl rfl
theorem W2_10 : (Jvm.Cond.instanceMethod ({ cls := "PriceLines$Reader", name := "acceptDigit", desc := "(ILPriceLines$Sheet;)Z" } : Jvm.MethodName)) ∈ TB := inT2 10 rfl rfl
theorem W2_11 : (Jvm.Cond.code ({ cls := "PriceLines$Reader", name := "acceptDigit", desc := "(ILPriceLines$Sheet;)Z" } : Jvm.MethodName) prog_8_method_5_code (3 : Nat) (Option.some Jvm.ClassFile.FieldType.boolean)) ∈ TB := inT2 11 rfl rfl
theorem W2_12 : (Jvm.Cond.methodLink "PriceLines$Reader" (59 : Nat) ({ cls := "PriceLines$Sheet", name := "addDigit", desc := "(I)V" } : Jvm.MethodName)) ∈ TB := inT2 12 rfl rfl
theorem W2_13 : (Jvm.Cond.instanceMethod ({ cls := "PriceLines$Sheet", name := "addDigit", desc := "(I)V" } : Jvm.MethodName)) ∈ TB := inT2 13 rfl rfl
theorem W2_14 : (Jvm.Cond.selects "PriceLines$Sheet" ({ cls := "PriceLines$Sheet", name := "addDigit", desc := "(I)V" } : Jvm.MethodName) ({ cls := "PriceLines$Sheet", name := "addDigit", desc := "(I)V" } : Jvm.MethodName)) ∈ TB := inT2 14 rfl rfl
theorem W2_15 : (Jvm.Cond.code ({ cls := "PriceLines$Sheet", name := "addDigit", desc := "(I)V" } : Jvm.MethodName) prog_10_method_4_code (3 : Nat) (Option.none : Option Jvm.ClassFile.FieldType)) ∈ TB := inT2 15 rfl rfl
theorem W2_17 : (Jvm.Cond.methodLink "PriceLines$Reader" (63 : Nat) ({ cls := "PriceLines$Reader", name := "hasRoom", desc := "(LPriceLines$Sheet;)Z" } : Jvm.MethodName)) ∈ TB := inT2 17 rfl rfl
theorem W2_19 : (Jvm.Cond.instanceMethod ({ cls := "PriceLines$Reader", name := "hasRoom", desc := "(LPriceLines$Sheet;)Z" } : Jvm.MethodName)) ∈ TB := inT2 19 rfl rfl
theorem W2_20 : (Jvm.Cond.code ({ cls := "PriceLines$Reader", name := "hasRoom", desc := "(LPriceLines$Sheet;)Z" } : Jvm.MethodName) prog_8_method_9_code (2 : Nat) (Option.some Jvm.ClassFile.FieldType.boolean)) ∈ TB := inT2 20 rfl rfl
theorem W2_21 : (Jvm.Cond.methodLink "PriceLines$Reader" (67 : Nat) ({ cls := "PriceLines$Sheet", name := "addNumber", desc := "(I)V" } : Jvm.MethodName)) ∈ TB := inT2 21 rfl rfl
theorem W2_22 : (Jvm.Cond.instanceMethod ({ cls := "PriceLines$Sheet", name := "addNumber", desc := "(I)V" } : Jvm.MethodName)) ∈ TB := inT2 22 rfl rfl
theorem W2_23 : (Jvm.Cond.selects "PriceLines$Sheet" ({ cls := "PriceLines$Sheet", name := "addNumber", desc := "(I)V" } : Jvm.MethodName) ({ cls := "PriceLines$Sheet", name := "addNumber", desc := "(I)V" } : Jvm.MethodName)) ∈ TB := inT2 23 rfl rfl
theorem W2_24 : (Jvm.Cond.code ({ cls := "PriceLines$Sheet", name := "addNumber", desc := "(I)V" } : Jvm.MethodName) prog_10_method_3_code (2 : Nat) (Option.none : Option Jvm.ClassFile.FieldType)) ∈ TB := inT2 24 rfl rfl
theorem W2_25 : (Jvm.Cond.methodLink "PriceLines$Sheet" (25 : Nat) ({ cls := "PriceLines$Sheet", name := "addSign", desc := "(I)V" } : Jvm.MethodName)) ∈ TB := inT2 25 rfl rfl
theorem W2_27 : (Jvm.Cond.instanceMethod ({ cls := "PriceLines$Sheet", name := "addSign", desc := "(I)V" } : Jvm.MethodName)) ∈ TB := inT2 27 rfl rfl
theorem W2_28 : (Jvm.Cond.code ({ cls := "PriceLines$Sheet", name := "addSign", desc := "(I)V" } : Jvm.MethodName) prog_10_method_10_code (2 : Nat) (Option.none : Option Jvm.ClassFile.FieldType)) ∈ TB := inT2 28 rfl rfl
theorem W2_30 : (Jvm.Cond.static ({ cls := "PriceLines", name := "isFactLetter", desc := "(I)Z" } : Jvm.MethodName)) ∈ TB := inT2 30 rfl rfl
theorem W2_31 : (Jvm.Cond.code ({ cls := "PriceLines", name := "isFactLetter", desc := "(I)Z" } : Jvm.MethodName) prog_1_method_25_code (1 : Nat) (Option.some Jvm.ClassFile.FieldType.boolean)) ∈ TB := inT2 31 rfl rfl
theorem W2_32 : (Jvm.Cond.methodLink "PriceLines$Reader" (49 : Nat) ({ cls := "PriceLines$Reader", name := "acceptFact", desc := "(CLPriceLines$Sheet;)Z" } : Jvm.MethodName)) ∈ TB := inT2 32 rfl rfl
theorem W2_34 : (Jvm.Cond.instanceMethod ({ cls := "PriceLines$Reader", name := "acceptFact", desc := "(CLPriceLines$Sheet;)Z" } : Jvm.MethodName)) ∈ TB := inT2 34 rfl rfl
theorem W2_35 : (Jvm.Cond.code ({ cls := "PriceLines$Reader", name := "acceptFact", desc := "(CLPriceLines$Sheet;)Z" } : Jvm.MethodName) prog_8_method_6_code (3 : Nat) (Option.some Jvm.ClassFile.FieldType.boolean)) ∈ TB := inT2 35 rfl rfl
theorem W2_36 : (Jvm.Cond.methodLink "PriceLines$Reader" (70 : Nat) ({ cls := "PriceLines$Sheet", name := "addCharacter", desc := "(C)V" } : Jvm.MethodName)) ∈ TB := inT2 36 rfl rfl
theorem W2_37 : (Jvm.Cond.instanceMethod ({ cls := "PriceLines$Sheet", name := "addCharacter", desc := "(C)V" } : Jvm.MethodName)) ∈ TB := inT2 37 rfl rfl
theorem W2_38 : (Jvm.Cond.selects "PriceLines$Sheet" ({ cls := "PriceLines$Sheet", name := "addCharacter", desc := "(C)V" } : Jvm.MethodName) ({ cls := "PriceLines$Sheet", name := "addCharacter", desc := "(C)V" } : Jvm.MethodName)) ∈ TB := inT2 38 rfl rfl
theorem W2_39 : (Jvm.Cond.code ({ cls := "PriceLines$Sheet", name := "addCharacter", desc := "(C)V" } : Jvm.MethodName) prog_10_method_5_code (2 : Nat) (Option.none : Option Jvm.ClassFile.FieldType)) ∈ TB := inT2 39 rfl rfl
theorem W2_40 : (Jvm.Cond.methodLink "PriceLines$Reader" (52 : Nat) ({ cls := "PriceLines$Reader", name := "acceptOperator", desc := "(CILPriceLines$Sheet;)Z" } : Jvm.MethodName)) ∈ TB := inT2 40 rfl rfl
theorem W2_42 : (Jvm.Cond.instanceMethod ({ cls := "PriceLines$Reader", name := "acceptOperator", desc := "(CILPriceLines$Sheet;)Z" } : Jvm.MethodName)) ∈ TB := inT2 42 rfl rfl
theorem W2_43 : (Jvm.Cond.code ({ cls := "PriceLines$Reader", name := "acceptOperator", desc := "(CILPriceLines$Sheet;)Z" } : Jvm.MethodName) prog_8_method_7_code (4 : Nat) (Option.some Jvm.ClassFile.FieldType.boolean)) ∈ TB := inT2 43 rfl rfl
theorem W2_44 : (Jvm.Cond.methodLink "PriceLines$Reader" (56 : Nat) ({ cls := "PriceLines$Reader", name := "acceptEnd", desc := "(CLPriceLines$Sheet;)Z" } : Jvm.MethodName)) ∈ TB := inT2 44 rfl rfl
theorem W2_46 : (Jvm.Cond.instanceMethod ({ cls := "PriceLines$Reader", name := "acceptEnd", desc := "(CLPriceLines$Sheet;)Z" } : Jvm.MethodName)) ∈ TB := inT2 46 rfl rfl
theorem W2_47 : (Jvm.Cond.code ({ cls := "PriceLines$Reader", name := "acceptEnd", desc := "(CLPriceLines$Sheet;)Z" } : Jvm.MethodName) prog_8_method_8_code (3 : Nat) (Option.some Jvm.ClassFile.FieldType.boolean)) ∈ TB := inT2 47 rfl rfl
theorem W2_48 : (Jvm.Cond.methodLink "PriceLines$Reader" (74 : Nat) ({ cls := "PriceLines$Sheet", name := "addEnd", desc := "(C)V" } : Jvm.MethodName)) ∈ TB := inT2 48 rfl rfl
theorem W2_49 : (Jvm.Cond.instanceMethod ({ cls := "PriceLines$Sheet", name := "addEnd", desc := "(C)V" } : Jvm.MethodName)) ∈ TB := inT2 49 rfl rfl
theorem W2_50 : (Jvm.Cond.selects "PriceLines$Sheet" ({ cls := "PriceLines$Sheet", name := "addEnd", desc := "(C)V" } : Jvm.MethodName) ({ cls := "PriceLines$Sheet", name := "addEnd", desc := "(C)V" } : Jvm.MethodName)) ∈ TB := inT2 50 rfl rfl
theorem W2_51 : (Jvm.Cond.code ({ cls := "PriceLines$Sheet", name := "addEnd", desc := "(C)V" } : Jvm.MethodName) prog_10_method_6_code (2 : Nat) (Option.none : Option Jvm.ClassFile.FieldType)) ∈ TB := inT2 51 rfl rfl
theorem W2_52 : (Jvm.Cond.methodLink "PriceLinesLaw" (89 : Nat) ({ cls := "PriceLines", name := "run", desc := "()I" } : Jvm.MethodName)) ∈ TB := inT2 52 rfl rfl
theorem W2_53 : (Jvm.Cond.instanceMethod ({ cls := "PriceLines", name := "run", desc := "()I" } : Jvm.MethodName)) ∈ TB := inT2 53 rfl rfl
theorem W2_54 : (Jvm.Cond.selects "PriceLines" ({ cls := "PriceLines", name := "run", desc := "()I" } : Jvm.MethodName) ({ cls := "PriceLines", name := "run", desc := "()I" } : Jvm.MethodName)) ∈ TB := inT2 54 rfl rfl
theorem W2_55 : (Jvm.Cond.code ({ cls := "PriceLines", name := "run", desc := "()I" } : Jvm.MethodName) prog_1_method_6_code (1 : Nat) (Option.some Jvm.ClassFile.FieldType.int)) ∈ TB := inT2 55 rfl rfl
theorem W2_56 : (Jvm.Cond.methodLink "PriceLines" (98 : Nat) ({ cls := "PriceLines$Reckoning", name := "reckon", desc := "(LPriceLines$Sheet;LPriceLines$Facts;)J" } : Jvm.MethodName)) ∈ TB := inT2 56 rfl rfl
theorem W2_57 : (Jvm.Cond.instanceMethod ({ cls := "PriceLines$Reckoning", name := "reckon", desc := "(LPriceLines$Sheet;LPriceLines$Facts;)J" } : Jvm.MethodName)) ∈ TB := inT2 57 rfl rfl
theorem W2_58 : (Jvm.Cond.selects "PriceLines$Reckoning" ({ cls := "PriceLines$Reckoning", name := "reckon", desc := "(LPriceLines$Sheet;LPriceLines$Facts;)J" } : Jvm.MethodName) ({ cls := "PriceLines$Reckoning", name := "reckon", desc := "(LPriceLines$Sheet;LPriceLines$Facts;)J" } : Jvm.MethodName)) ∈ TB := inT2 58 rfl rfl
theorem W2_59 : (Jvm.Cond.code ({ cls := "PriceLines$Reckoning", name := "reckon", desc := "(LPriceLines$Sheet;LPriceLines$Facts;)J" } : Jvm.MethodName) prog_9_method_2_code (4 : Nat) (Option.some Jvm.ClassFile.FieldType.long)) ∈ TB := inT2 59 rfl rfl
theorem W2_60 : (Jvm.Cond.methodLink "PriceLines$Reckoning" (32 : Nat) ({ cls := "PriceLines$Fraction", name := "set", desc := "(JJ)Z" } : Jvm.MethodName)) ∈ TB := inT2 60 rfl rfl
theorem W2_61 : (Jvm.Cond.instanceMethod ({ cls := "PriceLines$Fraction", name := "set", desc := "(JJ)Z" } : Jvm.MethodName)) ∈ TB := inT2 61 rfl rfl
theorem W2_62 : (Jvm.Cond.selects "PriceLines$Fraction" ({ cls := "PriceLines$Fraction", name := "set", desc := "(JJ)Z" } : Jvm.MethodName) ({ cls := "PriceLines$Fraction", name := "set", desc := "(JJ)Z" } : Jvm.MethodName)) ∈ TB := inT2 62 rfl rfl
theorem W2_63 : (Jvm.Cond.code ({ cls := "PriceLines$Fraction", name := "set", desc := "(JJ)Z" } : Jvm.MethodName) prog_4_method_2_code (11 : Nat) (Option.some Jvm.ClassFile.FieldType.boolean)) ∈ TB := inT2 63 rfl rfl
theorem W2_64 : (Jvm.Cond.methodLink "PriceLines$Fraction" (18 : Nat) ({ cls := "java/lang/Math", name := "abs", desc := "(J)J" } : Jvm.MethodName)) ∈ TB := inT2 64 rfl rfl
theorem W2_65 : (Jvm.Cond.static ({ cls := "java/lang/Math", name := "abs", desc := "(J)J" } : Jvm.MethodName)) ∈ TB := inT2 65 rfl rfl
theorem W2_66 : (Jvm.Cond.code ({ cls := "java/lang/Math", name := "abs", desc := "(J)J" } : Jvm.MethodName) prog_17_method_61_code (2 : Nat) (Option.some Jvm.ClassFile.FieldType.long)) ∈ TB := inT2 66 rfl rfl
theorem W2_67 : (Jvm.Cond.methodLink "PriceLines$Fraction" (24 : Nat) ({ cls := "PriceLines$Fraction", name := "commonDivisor", desc := "(JJ)J" } : Jvm.MethodName)) ∈ TB := inT2 67 rfl rfl
theorem W2_68 : (Jvm.Cond.static ({ cls := "PriceLines$Fraction", name := "commonDivisor", desc := "(JJ)J" } : Jvm.MethodName)) ∈ TB := inT2 68 rfl rfl
theorem W2_69 : (Jvm.Cond.code ({ cls := "PriceLines$Fraction", name := "commonDivisor", desc := "(JJ)J" } : Jvm.MethodName) prog_4_method_12_code (11 : Nat) (Option.some Jvm.ClassFile.FieldType.long)) ∈ TB := inT2 69 rfl rfl
theorem W2_70 : (Jvm.Cond.constantLong "PriceLines$Fraction" (28 : Nat) (1000000000 : Int64)) ∈ TB := inT2 70 rfl rfl
theorem W2_71 : (Jvm.Cond.methodLink "PriceLines$Reckoning" (45 : Nat) ({ cls := "PriceLines$Reckoning", name := "reckonLine", desc := "(ILPriceLines$Sheet;LPriceLines$Facts;)V" } : Jvm.MethodName)) ∈ TB := inT2 71 rfl rfl
theorem W2_73 : (Jvm.Cond.instanceMethod ({ cls := "PriceLines$Reckoning", name := "reckonLine", desc := "(ILPriceLines$Sheet;LPriceLines$Facts;)V" } : Jvm.MethodName)) ∈ TB := inT2 73 rfl rfl
theorem W2_74 : (Jvm.Cond.code ({ cls := "PriceLines$Reckoning", name := "reckonLine", desc := "(ILPriceLines$Sheet;LPriceLines$Facts;)V" } : Jvm.MethodName) prog_9_method_4_code (10 : Nat) (Option.none : Option Jvm.ClassFile.FieldType)) ∈ TB := inT2 74 rfl rfl
theorem W2_75 : (Jvm.Cond.methodLink "PriceLines$Reckoning" (64 : Nat) ({ cls := "PriceLines$Sheet", name := "firstOf", desc := "(I)I" } : Jvm.MethodName)) ∈ TB := inT2 75 rfl rfl
theorem W2_76 : (Jvm.Cond.instanceMethod ({ cls := "PriceLines$Sheet", name := "firstOf", desc := "(I)I" } : Jvm.MethodName)) ∈ TB := inT2 76 rfl rfl
theorem W2_77 : (Jvm.Cond.selects "PriceLines$Sheet" ({ cls := "PriceLines$Sheet", name := "firstOf", desc := "(I)I" } : Jvm.MethodName) ({ cls := "PriceLines$Sheet", name := "firstOf", desc := "(I)I" } : Jvm.MethodName)) ∈ TB := inT2 77 rfl rfl
theorem W2_78 : (Jvm.Cond.code ({ cls := "PriceLines$Sheet", name := "firstOf", desc := "(I)I" } : Jvm.MethodName) prog_10_method_7_code (2 : Nat) (Option.some Jvm.ClassFile.FieldType.int)) ∈ TB := inT2 78 rfl rfl
theorem W2_79 : (Jvm.Cond.methodLink "PriceLines$Sheet" (33 : Nat) ({ cls := "PriceLines$Sheet", name := "endOf", desc := "(I)I" } : Jvm.MethodName)) ∈ TB := inT2 79 rfl rfl
theorem W2_80 : (Jvm.Cond.instanceMethod ({ cls := "PriceLines$Sheet", name := "endOf", desc := "(I)I" } : Jvm.MethodName)) ∈ TB := inT2 80 rfl rfl
theorem W2_81 : (Jvm.Cond.selects "PriceLines$Sheet" ({ cls := "PriceLines$Sheet", name := "endOf", desc := "(I)I" } : Jvm.MethodName) ({ cls := "PriceLines$Sheet", name := "endOf", desc := "(I)I" } : Jvm.MethodName)) ∈ TB := inT2 81 rfl rfl
theorem W2_82 : (Jvm.Cond.code ({ cls := "PriceLines$Sheet", name := "endOf", desc := "(I)I" } : Jvm.MethodName) prog_10_method_8_code (2 : Nat) (Option.some Jvm.ClassFile.FieldType.int)) ∈ TB := inT2 82 rfl rfl
theorem W2_83 : (Jvm.Cond.methodLink "PriceLines$Reckoning" (68 : Nat) ({ cls := "PriceLines$Sheet", name := "endOf", desc := "(I)I" } : Jvm.MethodName)) ∈ TB := inT2 83 rfl rfl
theorem W2_84 : (Jvm.Cond.methodLink "PriceLines$Reckoning" (74 : Nat) ({ cls := "PriceLines$Sheet", name := "signAt", desc := "(I)I" } : Jvm.MethodName)) ∈ TB := inT2 84 rfl rfl
theorem W2_85 : (Jvm.Cond.instanceMethod ({ cls := "PriceLines$Sheet", name := "signAt", desc := "(I)I" } : Jvm.MethodName)) ∈ TB := inT2 85 rfl rfl
theorem W2_86 : (Jvm.Cond.selects "PriceLines$Sheet" ({ cls := "PriceLines$Sheet", name := "signAt", desc := "(I)I" } : Jvm.MethodName) ({ cls := "PriceLines$Sheet", name := "signAt", desc := "(I)I" } : Jvm.MethodName)) ∈ TB := inT2 86 rfl rfl
theorem W2_87 : (Jvm.Cond.code ({ cls := "PriceLines$Sheet", name := "signAt", desc := "(I)I" } : Jvm.MethodName) prog_10_method_9_code (2 : Nat) (Option.some Jvm.ClassFile.FieldType.int)) ∈ TB := inT2 87 rfl rfl
theorem W2_88 : (Jvm.Cond.methodLink "PriceLines$Reckoning" (77 : Nat) ({ cls := "PriceLines$Reckoning", name := "apply", desc := "(ILPriceLines$Facts;)I" } : Jvm.MethodName)) ∈ TB := inT2 88 rfl rfl
theorem W2_90 : (Jvm.Cond.instanceMethod ({ cls := "PriceLines$Reckoning", name := "apply", desc := "(ILPriceLines$Facts;)I" } : Jvm.MethodName)) ∈ TB := inT2 90 rfl rfl
theorem W2_91 : (Jvm.Cond.code ({ cls := "PriceLines$Reckoning", name := "apply", desc := "(ILPriceLines$Facts;)I" } : Jvm.MethodName) prog_9_method_5_code (6 : Nat) (Option.some Jvm.ClassFile.FieldType.int)) ∈ TB := inT2 91 rfl rfl
theorem W2_92 : (Jvm.Cond.methodLink "PriceLines$Reckoning" (85 : Nat) ({ cls := "PriceLines$Reckoning", name := "lay", desc := "(II)I" } : Jvm.MethodName)) ∈ TB := inT2 92 rfl rfl
theorem W2_94 : (Jvm.Cond.instanceMethod ({ cls := "PriceLines$Reckoning", name := "lay", desc := "(II)I" } : Jvm.MethodName)) ∈ TB := inT2 94 rfl rfl
theorem W2_95 : (Jvm.Cond.code ({ cls := "PriceLines$Reckoning", name := "lay", desc := "(II)I" } : Jvm.MethodName) prog_9_method_6_code (3 : Nat) (Option.some Jvm.ClassFile.FieldType.int)) ∈ TB := inT2 95 rfl rfl
theorem W2_96 : (Jvm.Cond.methodLink "PriceLines$Reckoning" (104 : Nat) ({ cls := "PriceLines$Reckoning", name := "stackedAt", desc := "(I)LPriceLines$Fraction;" } : Jvm.MethodName)) ∈ TB := inT2 96 rfl rfl
theorem W2_98 : (Jvm.Cond.instanceMethod ({ cls := "PriceLines$Reckoning", name := "stackedAt", desc := "(I)LPriceLines$Fraction;" } : Jvm.MethodName)) ∈ TB := inT2 98 rfl rfl
theorem W2_99 : (Jvm.Cond.code ({ cls := "PriceLines$Reckoning", name := "stackedAt", desc := "(I)LPriceLines$Fraction;" } : Jvm.MethodName) prog_9_method_8_code (2 : Nat) (Option.some (Jvm.ClassFile.FieldType.object "PriceLines$Fraction"))) ∈ TB := inT2 99 rfl rfl
theorem W2_101 : (Jvm.Cond.methodLink "PriceLines$Reckoning" (112 : Nat) ({ cls := "PriceLines$Reckoning", name := "reasonUnless", desc := "(Z)I" } : Jvm.MethodName)) ∈ TB := inT2 101 rfl rfl
theorem W2_102 : (Jvm.Cond.static ({ cls := "PriceLines$Reckoning", name := "reasonUnless", desc := "(Z)I" } : Jvm.MethodName)) ∈ TB := inT2 102 rfl rfl
theorem W2_103 : (Jvm.Cond.code ({ cls := "PriceLines$Reckoning", name := "reasonUnless", desc := "(Z)I" } : Jvm.MethodName) prog_9_method_9_code (1 : Nat) (Option.some Jvm.ClassFile.FieldType.int)) ∈ TB := inT2 103 rfl rfl
theorem W2_105 : (Jvm.Cond.methodLink "PriceLines$Reckoning" (93 : Nat) ({ cls := "PriceLines$Facts", name := "isTold", desc := "(I)Z" } : Jvm.MethodName)) ∈ TB := inT2 105 rfl rfl
theorem W2_106 : (Jvm.Cond.instanceMethod ({ cls := "PriceLines$Facts", name := "isTold", desc := "(I)Z" } : Jvm.MethodName)) ∈ TB := inT2 106 rfl rfl
theorem W2_107 : (Jvm.Cond.selects "PriceLines$Facts" ({ cls := "PriceLines$Facts", name := "isTold", desc := "(I)Z" } : Jvm.MethodName) ({ cls := "PriceLines$Facts", name := "isTold", desc := "(I)Z" } : Jvm.MethodName)) ∈ TB := inT2 107 rfl rfl
theorem W2_108 : (Jvm.Cond.code ({ cls := "PriceLines$Facts", name := "isTold", desc := "(I)Z" } : Jvm.MethodName) prog_3_method_4_code (2 : Nat) (Option.some Jvm.ClassFile.FieldType.boolean)) ∈ TB := inT2 108 rfl rfl
theorem W2_109 : (Jvm.Cond.methodLink "PriceLines$Facts" (26 : Nat) ({ cls := "PriceLines$Facts", name := "belowOf", desc := "(I)I" } : Jvm.MethodName)) ∈ TB := inT2 109 rfl rfl
theorem W2_110 : (Jvm.Cond.instanceMethod ({ cls := "PriceLines$Facts", name := "belowOf", desc := "(I)I" } : Jvm.MethodName)) ∈ TB := inT2 110 rfl rfl
theorem W2_111 : (Jvm.Cond.selects "PriceLines$Facts" ({ cls := "PriceLines$Facts", name := "belowOf", desc := "(I)I" } : Jvm.MethodName) ({ cls := "PriceLines$Facts", name := "belowOf", desc := "(I)I" } : Jvm.MethodName)) ∈ TB := inT2 111 rfl rfl
theorem W2_112 : (Jvm.Cond.code ({ cls := "PriceLines$Facts", name := "belowOf", desc := "(I)I" } : Jvm.MethodName) prog_3_method_6_code (3 : Nat) (Option.some Jvm.ClassFile.FieldType.int)) ∈ TB := inT2 112 rfl rfl
theorem W2_114 : (Jvm.Cond.methodLink "PriceLines$Reckoning" (98 : Nat) ({ cls := "PriceLines$Facts", name := "aboveOf", desc := "(I)I" } : Jvm.MethodName)) ∈ TB := inT2 114 rfl rfl
theorem W2_115 : (Jvm.Cond.instanceMethod ({ cls := "PriceLines$Facts", name := "aboveOf", desc := "(I)I" } : Jvm.MethodName)) ∈ TB := inT2 115 rfl rfl
theorem W2_116 : (Jvm.Cond.selects "PriceLines$Facts" ({ cls := "PriceLines$Facts", name := "aboveOf", desc := "(I)I" } : Jvm.MethodName) ({ cls := "PriceLines$Facts", name := "aboveOf", desc := "(I)I" } : Jvm.MethodName)) ∈ TB := inT2 116 rfl rfl
theorem W2_117 : (Jvm.Cond.code ({ cls := "PriceLines$Facts", name := "aboveOf", desc := "(I)I" } : Jvm.MethodName) prog_3_method_5_code (3 : Nat) (Option.some Jvm.ClassFile.FieldType.int)) ∈ TB := inT2 117 rfl rfl
theorem W2_118 : (Jvm.Cond.methodLink "PriceLines$Reckoning" (101 : Nat) ({ cls := "PriceLines$Facts", name := "belowOf", desc := "(I)I" } : Jvm.MethodName)) ∈ TB := inT2 118 rfl rfl
theorem W2_119 : (Jvm.Cond.methodLink "PriceLines$Reckoning" (108 : Nat) ({ cls := "PriceLines$Fraction", name := "roundToHundredths", desc := "()Z" } : Jvm.MethodName)) ∈ TB := inT2 119 rfl rfl
theorem W2_120 : (Jvm.Cond.instanceMethod ({ cls := "PriceLines$Fraction", name := "roundToHundredths", desc := "()Z" } : Jvm.MethodName)) ∈ TB := inT2 120 rfl rfl
theorem W2_121 : (Jvm.Cond.selects "PriceLines$Fraction" ({ cls := "PriceLines$Fraction", name := "roundToHundredths", desc := "()Z" } : Jvm.MethodName) ({ cls := "PriceLines$Fraction", name := "roundToHundredths", desc := "()Z" } : Jvm.MethodName)) ∈ TB := inT2 121 rfl rfl
theorem W2_122 : (Jvm.Cond.code ({ cls := "PriceLines$Fraction", name := "roundToHundredths", desc := "()Z" } : Jvm.MethodName) prog_4_method_9_code (1 : Nat) (Option.some Jvm.ClassFile.FieldType.boolean)) ∈ TB := inT2 122 rfl rfl
theorem W2_123 : (Jvm.Cond.methodLink "PriceLines$Fraction" (36 : Nat) ({ cls := "PriceLines$Fraction", name := "hundredths", desc := "()J" } : Jvm.MethodName)) ∈ TB := inT2 123 rfl rfl
theorem W2_124 : (Jvm.Cond.instanceMethod ({ cls := "PriceLines$Fraction", name := "hundredths", desc := "()J" } : Jvm.MethodName)) ∈ TB := inT2 124 rfl rfl
theorem W2_125 : (Jvm.Cond.selects "PriceLines$Fraction" ({ cls := "PriceLines$Fraction", name := "hundredths", desc := "()J" } : Jvm.MethodName) ({ cls := "PriceLines$Fraction", name := "hundredths", desc := "()J" } : Jvm.MethodName)) ∈ TB := inT2 125 rfl rfl
theorem W2_126 : (Jvm.Cond.code ({ cls := "PriceLines$Fraction", name := "hundredths", desc := "()J" } : Jvm.MethodName) prog_4_method_11_code (3 : Nat) (Option.some Jvm.ClassFile.FieldType.long)) ∈ TB := inT2 126 rfl rfl
theorem W2_127 : (Jvm.Cond.constantLong "PriceLines$Fraction" (40 : Nat) (2 : Int64)) ∈ TB := inT2 127 rfl rfl
theorem W2_128 : (Jvm.Cond.constantLong "PriceLines$Fraction" (42 : Nat) (200 : Int64)) ∈ TB := inT2 128 rfl rfl
theorem W2_129 : (Jvm.Cond.methodLink "PriceLines$Fraction" (44 : Nat) ({ cls := "java/lang/Math", name := "floorDiv", desc := "(JJ)J" } : Jvm.MethodName)) ∈ TB := inT2 129 rfl rfl
theorem W2_130 : (Jvm.Cond.static ({ cls := "java/lang/Math", name := "floorDiv", desc := "(JJ)J" } : Jvm.MethodName)) ∈ TB := inT2 130 rfl rfl
theorem W2_131 : (Jvm.Cond.code ({ cls := "java/lang/Math", name := "floorDiv", desc := "(JJ)J" } : Jvm.MethodName) prog_17_method_49_code (6 : Nat) (Option.some Jvm.ClassFile.FieldType.long)) ∈ TB := inT2 131 rfl rfl
theorem W2_132 : (Jvm.Cond.constantLong "PriceLines$Fraction" (34 : Nat) (100 : Int64)) ∈ TB := inT2 132 rfl rfl
theorem W2_133 : (Jvm.Cond.methodLink "PriceLines$Fraction" (30 : Nat) ({ cls := "PriceLines$Fraction", name := "set", desc := "(JJ)Z" } : Jvm.MethodName)) ∈ TB := inT2 133 rfl rfl
theorem W2_134 : (Jvm.Cond.methodLink "PriceLines$Reckoning" (116 : Nat) ({ cls := "PriceLines$Fraction", name := "add", desc := "(LPriceLines$Fraction;)Z" } : Jvm.MethodName)) ∈ TB := inT2 134 rfl rfl
theorem W2_135 : (Jvm.Cond.instanceMethod ({ cls := "PriceLines$Fraction", name := "add", desc := "(LPriceLines$Fraction;)Z" } : Jvm.MethodName)) ∈ TB := inT2 135 rfl rfl
theorem W2_136 : (Jvm.Cond.selects "PriceLines$Fraction" ({ cls := "PriceLines$Fraction", name := "add", desc := "(LPriceLines$Fraction;)Z" } : Jvm.MethodName) ({ cls := "PriceLines$Fraction", name := "add", desc := "(LPriceLines$Fraction;)Z" } : Jvm.MethodName)) ∈ TB := inT2 136 rfl rfl
theorem W2_137 : (Jvm.Cond.code ({ cls := "PriceLines$Fraction", name := "add", desc := "(LPriceLines$Fraction;)Z" } : Jvm.MethodName) prog_4_method_4_code (2 : Nat) (Option.some Jvm.ClassFile.FieldType.boolean)) ∈ TB := inT2 137 rfl rfl
theorem W2_138 : (Jvm.Cond.methodLink "PriceLines$Reckoning" (120 : Nat) ({ cls := "PriceLines$Fraction", name := "subtract", desc := "(LPriceLines$Fraction;)Z" } : Jvm.MethodName)) ∈ TB := inT2 138 rfl rfl
theorem W2_139 : (Jvm.Cond.instanceMethod ({ cls := "PriceLines$Fraction", name := "subtract", desc := "(LPriceLines$Fraction;)Z" } : Jvm.MethodName)) ∈ TB := inT2 139 rfl rfl
theorem W2_140 : (Jvm.Cond.selects "PriceLines$Fraction" ({ cls := "PriceLines$Fraction", name := "subtract", desc := "(LPriceLines$Fraction;)Z" } : Jvm.MethodName) ({ cls := "PriceLines$Fraction", name := "subtract", desc := "(LPriceLines$Fraction;)Z" } : Jvm.MethodName)) ∈ TB := inT2 140 rfl rfl
theorem W2_141 : (Jvm.Cond.code ({ cls := "PriceLines$Fraction", name := "subtract", desc := "(LPriceLines$Fraction;)Z" } : Jvm.MethodName) prog_4_method_5_code (2 : Nat) (Option.some Jvm.ClassFile.FieldType.boolean)) ∈ TB := inT2 141 rfl rfl
theorem W2_142 : (Jvm.Cond.methodLink "PriceLines$Reckoning" (123 : Nat) ({ cls := "PriceLines$Fraction", name := "multiply", desc := "(LPriceLines$Fraction;)Z" } : Jvm.MethodName)) ∈ TB := inT2 142 rfl rfl
theorem W2_143 : (Jvm.Cond.instanceMethod ({ cls := "PriceLines$Fraction", name := "multiply", desc := "(LPriceLines$Fraction;)Z" } : Jvm.MethodName)) ∈ TB := inT2 143 rfl rfl
theorem W2_144 : (Jvm.Cond.selects "PriceLines$Fraction" ({ cls := "PriceLines$Fraction", name := "multiply", desc := "(LPriceLines$Fraction;)Z" } : Jvm.MethodName) ({ cls := "PriceLines$Fraction", name := "multiply", desc := "(LPriceLines$Fraction;)Z" } : Jvm.MethodName)) ∈ TB := inT2 144 rfl rfl
theorem W2_145 : (Jvm.Cond.code ({ cls := "PriceLines$Fraction", name := "multiply", desc := "(LPriceLines$Fraction;)Z" } : Jvm.MethodName) prog_4_method_6_code (2 : Nat) (Option.some Jvm.ClassFile.FieldType.boolean)) ∈ TB := inT2 145 rfl rfl
theorem W2_146 : (Jvm.Cond.methodLink "PriceLines$Reckoning" (126 : Nat) ({ cls := "PriceLines$Fraction", name := "divide", desc := "(LPriceLines$Fraction;)Z" } : Jvm.MethodName)) ∈ TB := inT2 146 rfl rfl
theorem W2_147 : (Jvm.Cond.instanceMethod ({ cls := "PriceLines$Fraction", name := "divide", desc := "(LPriceLines$Fraction;)Z" } : Jvm.MethodName)) ∈ TB := inT2 147 rfl rfl
theorem W2_148 : (Jvm.Cond.selects "PriceLines$Fraction" ({ cls := "PriceLines$Fraction", name := "divide", desc := "(LPriceLines$Fraction;)Z" } : Jvm.MethodName) ({ cls := "PriceLines$Fraction", name := "divide", desc := "(LPriceLines$Fraction;)Z" } : Jvm.MethodName)) ∈ TB := inT2 148 rfl rfl
theorem W2_149 : (Jvm.Cond.code ({ cls := "PriceLines$Fraction", name := "divide", desc := "(LPriceLines$Fraction;)Z" } : Jvm.MethodName) prog_4_method_7_code (2 : Nat) (Option.some Jvm.ClassFile.FieldType.boolean)) ∈ TB := inT2 149 rfl rfl
theorem W2_150 : (Jvm.Cond.methodLink "PriceLines$Reckoning" (129 : Nat) ({ cls := "PriceLines$Fraction", name := "isLessThan", desc := "(LPriceLines$Fraction;)Z" } : Jvm.MethodName)) ∈ TB := inT2 150 rfl rfl
theorem W2_151 : (Jvm.Cond.instanceMethod ({ cls := "PriceLines$Fraction", name := "isLessThan", desc := "(LPriceLines$Fraction;)Z" } : Jvm.MethodName)) ∈ TB := inT2 151 rfl rfl
theorem W2_152 : (Jvm.Cond.selects "PriceLines$Fraction" ({ cls := "PriceLines$Fraction", name := "isLessThan", desc := "(LPriceLines$Fraction;)Z" } : Jvm.MethodName) ({ cls := "PriceLines$Fraction", name := "isLessThan", desc := "(LPriceLines$Fraction;)Z" } : Jvm.MethodName)) ∈ TB := inT2 152 rfl rfl
theorem W2_153 : (Jvm.Cond.code ({ cls := "PriceLines$Fraction", name := "isLessThan", desc := "(LPriceLines$Fraction;)Z" } : Jvm.MethodName) prog_4_method_10_code (2 : Nat) (Option.some Jvm.ClassFile.FieldType.boolean)) ∈ TB := inT2 153 rfl rfl
theorem W2_154 : (Jvm.Cond.methodLink "PriceLines$Reckoning" (132 : Nat) ({ cls := "PriceLines$Fraction", name := "copy", desc := "(LPriceLines$Fraction;)V" } : Jvm.MethodName)) ∈ TB := inT2 154 rfl rfl
theorem W2_155 : (Jvm.Cond.instanceMethod ({ cls := "PriceLines$Fraction", name := "copy", desc := "(LPriceLines$Fraction;)V" } : Jvm.MethodName)) ∈ TB := inT2 155 rfl rfl
theorem W2_156 : (Jvm.Cond.selects "PriceLines$Fraction" ({ cls := "PriceLines$Fraction", name := "copy", desc := "(LPriceLines$Fraction;)V" } : Jvm.MethodName) ({ cls := "PriceLines$Fraction", name := "copy", desc := "(LPriceLines$Fraction;)V" } : Jvm.MethodName)) ∈ TB := inT2 156 rfl rfl
theorem W2_157 : (Jvm.Cond.code ({ cls := "PriceLines$Fraction", name := "copy", desc := "(LPriceLines$Fraction;)V" } : Jvm.MethodName) prog_4_method_3_code (2 : Nat) (Option.none : Option Jvm.ClassFile.FieldType)) ∈ TB := inT2 157 rfl rfl
theorem W2_158 : (Jvm.Cond.methodLink "PriceLines$Reckoning" (81 : Nat) ({ cls := "PriceLines$Reckoning", name := "endLine", desc := "(ILPriceLines$Fraction;)I" } : Jvm.MethodName)) ∈ TB := inT2 158 rfl rfl
theorem W2_160 : (Jvm.Cond.instanceMethod ({ cls := "PriceLines$Reckoning", name := "endLine", desc := "(ILPriceLines$Fraction;)I" } : Jvm.MethodName)) ∈ TB := inT2 160 rfl rfl
theorem W2_161 : (Jvm.Cond.code ({ cls := "PriceLines$Reckoning", name := "endLine", desc := "(ILPriceLines$Fraction;)I" } : Jvm.MethodName) prog_9_method_7_code (4 : Nat) (Option.some Jvm.ClassFile.FieldType.int)) ∈ TB := inT2 161 rfl rfl
theorem W2_162 : (Jvm.Cond.methodLink "PriceLines$Reckoning" (136 : Nat) ({ cls := "PriceLines$Fraction", name := "divideByHundred", desc := "()Z" } : Jvm.MethodName)) ∈ TB := inT2 162 rfl rfl
theorem W2_163 : (Jvm.Cond.instanceMethod ({ cls := "PriceLines$Fraction", name := "divideByHundred", desc := "()Z" } : Jvm.MethodName)) ∈ TB := inT2 163 rfl rfl
theorem W2_164 : (Jvm.Cond.selects "PriceLines$Fraction" ({ cls := "PriceLines$Fraction", name := "divideByHundred", desc := "()Z" } : Jvm.MethodName) ({ cls := "PriceLines$Fraction", name := "divideByHundred", desc := "()Z" } : Jvm.MethodName)) ∈ TB := inT2 164 rfl rfl
theorem W2_165 : (Jvm.Cond.code ({ cls := "PriceLines$Fraction", name := "divideByHundred", desc := "()Z" } : Jvm.MethodName) prog_4_method_8_code (1 : Nat) (Option.some Jvm.ClassFile.FieldType.boolean)) ∈ TB := inT2 165 rfl rfl
theorem W2_166 : (Jvm.Cond.methodLink "PriceLines$Reckoning" (49 : Nat) ({ cls := "PriceLines$Fraction", name := "hundredths", desc := "()J" } : Jvm.MethodName)) ∈ TB := inT2 166 rfl rfl
theorem W2_167 : (Jvm.Cond.methodLink "PriceLinesLaw" (93 : Nat) ({ cls := "PriceLines", name := "cents", desc := "()J" } : Jvm.MethodName)) ∈ TB := inT2 167 rfl rfl
theorem W2_168 : (Jvm.Cond.instanceMethod ({ cls := "PriceLines", name := "cents", desc := "()J" } : Jvm.MethodName)) ∈ TB := inT2 168 rfl rfl
theorem W2_169 : (Jvm.Cond.selects "PriceLines" ({ cls := "PriceLines", name := "cents", desc := "()J" } : Jvm.MethodName) ({ cls := "PriceLines", name := "cents", desc := "()J" } : Jvm.MethodName)) ∈ TB := inT2 169 rfl rfl
theorem W2_170 : (Jvm.Cond.code ({ cls := "PriceLines", name := "cents", desc := "()J" } : Jvm.MethodName) prog_1_method_7_code (1 : Nat) (Option.some Jvm.ClassFile.FieldType.long)) ∈ TB := inT2 170 rfl rfl
theorem W2_171 : (Jvm.Cond.methodLink "PriceLinesLaw" (76 : Nat) ({ cls := "PriceLinesLaw", name := "fact", desc := "(LPriceLines;III)I" } : Jvm.MethodName)) ∈ TB := inT2 171 rfl rfl
theorem W2_172 : (Jvm.Cond.static ({ cls := "PriceLinesLaw", name := "fact", desc := "(LPriceLines;III)I" } : Jvm.MethodName)) ∈ TB := inT2 172 rfl rfl
theorem W2_173 : (Jvm.Cond.codeWith ({ cls := "PriceLinesLaw", name := "fact", desc := "(LPriceLines;III)I" } : Jvm.MethodName) method_3_code (5 : Nat) (Option.some Jvm.ClassFile.FieldType.int) [((0 : Nat), (7 : Nat), (10 : Nat), (13 : Nat)), ((0 : Nat), (7 : Nat), (14 : Nat), (15 : Nat))]) ∈ TB := inT2 173 rfl rfl
theorem W2_174 : (Jvm.Cond.classLink "PriceLinesLaw" (13 : Nat) "java/lang/IndexOutOfBoundsException") ∈ TB := inT2 174 rfl rfl
theorem W2_175 : (Jvm.Cond.classLink "PriceLinesLaw" (15 : Nat) "java/lang/IllegalArgumentException") ∈ TB := inT2 175 rfl rfl
theorem W2_176 : (Jvm.Cond.methodLink "PriceLinesLaw" (7 : Nat) ({ cls := "PriceLines", name := "fact", desc := "(III)V" } : Jvm.MethodName)) ∈ TB := inT2 176 rfl rfl
theorem W2_177 : (Jvm.Cond.instanceMethod ({ cls := "PriceLines", name := "fact", desc := "(III)V" } : Jvm.MethodName)) ∈ TB := inT2 177 rfl rfl
theorem W2_178 : (Jvm.Cond.selects "PriceLines" ({ cls := "PriceLines", name := "fact", desc := "(III)V" } : Jvm.MethodName) ({ cls := "PriceLines", name := "fact", desc := "(III)V" } : Jvm.MethodName)) ∈ TB := inT2 178 rfl rfl
theorem W2_179 : (Jvm.Cond.code ({ cls := "PriceLines", name := "fact", desc := "(III)V" } : Jvm.MethodName) prog_1_method_4_code (4 : Nat) (Option.none : Option Jvm.ClassFile.FieldType)) ∈ TB := inT2 179 rfl rfl
theorem W2_180 : (Jvm.Cond.methodLink "PriceLines" (80 : Nat) ({ cls := "PriceLines", name := "requireLetter", desc := "(I)V" } : Jvm.MethodName)) ∈ TB := inT2 180 rfl rfl
theorem W2_181 : (Jvm.Cond.static ({ cls := "PriceLines", name := "requireLetter", desc := "(I)V" } : Jvm.MethodName)) ∈ TB := inT2 181 rfl rfl
theorem W2_182 : (Jvm.Cond.code ({ cls := "PriceLines", name := "requireLetter", desc := "(I)V" } : Jvm.MethodName) prog_1_method_19_code (1 : Nat) (Option.none : Option Jvm.ClassFile.FieldType)) ∈ TB := inT2 182 rfl rfl
theorem W2_183 : (Jvm.Cond.methodLink "PriceLines" (204 : Nat) ({ cls := "PriceLines", name := "isFactLetter", desc := "(I)Z" } : Jvm.MethodName)) ∈ TB := inT2 183 rfl rfl
theorem W2_184 : (Jvm.Cond.classLink "PriceLines" (105 : Nat) "java/lang/IndexOutOfBoundsException") ∈ TB := inT2 184 rfl rfl
theorem W2_185 : (Jvm.Cond.instantiable "java/lang/IndexOutOfBoundsException" (6 : Nat)) ∈ TB := inT2 185 rfl rfl
theorem W2_193 : (Jvm.Cond.selects "java/lang/IndexOutOfBoundsException" ({ cls := "java/lang/Throwable", name := "fillInStackTrace", desc := "(I)Ljava/lang/Throwable;" } : Jvm.MethodName) ({ cls := "java/lang/Throwable", name := "fillInStackTrace", desc := "(I)Ljava/lang/Throwable;" } : Jvm.MethodName)) ∈ TB := inT2 193 rfl rfl
theorem W2_194 : (Jvm.Cond.selects "java/lang/IndexOutOfBoundsException" ({ cls := "java/lang/Throwable", name := "fillInStackTrace", desc := "()Ljava/lang/Throwable;" } : Jvm.MethodName) ({ cls := "java/lang/Throwable", name := "fillInStackTrace", desc := "()Ljava/lang/Throwable;" } : Jvm.MethodName)) ∈ TB := inT2 194 rfl rfl
theorem W2_195 : (Jvm.Cond.lays "java/lang/IndexOutOfBoundsException" "java/lang/Throwable" "cause" "Ljava/lang/Throwable;") ∈ TB := inT2 195 rfl rfl
theorem W2_196 : (Jvm.Cond.lays "java/lang/Throwable" "java/lang/Throwable" "cause" "Ljava/lang/Throwable;") ∈ TB := inT2 196 rfl rfl
theorem W2_197 : (Jvm.Cond.lays "java/lang/IndexOutOfBoundsException" "java/lang/Throwable" "stackTrace" "[Ljava/lang/StackTraceElement;") ∈ TB := inT2 197 rfl rfl
theorem W2_198 : (Jvm.Cond.lays "java/lang/Throwable" "java/lang/Throwable" "stackTrace" "[Ljava/lang/StackTraceElement;") ∈ TB := inT2 198 rfl rfl
theorem W2_199 : (Jvm.Cond.lays "java/lang/IndexOutOfBoundsException" "java/lang/Throwable" "suppressedExceptions" "Ljava/util/List;") ∈ TB := inT2 199 rfl rfl
theorem W2_200 : (Jvm.Cond.lays "java/lang/Throwable" "java/lang/Throwable" "suppressedExceptions" "Ljava/util/List;") ∈ TB := inT2 200 rfl rfl
theorem W2_201 : (Jvm.Cond.lays "java/lang/IndexOutOfBoundsException" "java/lang/Throwable" "detailMessage" "Ljava/lang/String;") ∈ TB := inT2 201 rfl rfl
theorem W2_202 : (Jvm.Cond.lays "java/lang/Throwable" "java/lang/Throwable" "detailMessage" "Ljava/lang/String;") ∈ TB := inT2 202 rfl rfl
theorem W2_203 : (Jvm.Cond.lays "java/lang/IndexOutOfBoundsException" "java/lang/Throwable" "backtrace" "Ljava/lang/Object;") ∈ TB := inT2 203 rfl rfl
theorem W2_204 : (Jvm.Cond.lays "java/lang/Throwable" "java/lang/Throwable" "backtrace" "Ljava/lang/Object;") ∈ TB := inT2 204 rfl rfl
theorem W2_205 : (Jvm.Cond.fieldLink "java/lang/Throwable" (198 : Nat) "java/lang/Throwable" "backtrace" "Ljava/lang/Object;") ∈ TB := inT2 205 rfl rfl
theorem W2_207 : (Jvm.Cond.instanceMethod ({ cls := "java/lang/Throwable", name := "<init>", desc := "()V" } : Jvm.MethodName)) ∈ TB := inT2 207 rfl rfl
theorem W2_208 : (Jvm.Cond.code ({ cls := "java/lang/Throwable", name := "<init>", desc := "()V" } : Jvm.MethodName) prog_20_method_1_code (1 : Nat) (Option.none : Option Jvm.ClassFile.FieldType)) ∈ TB := inT2 208 rfl rfl
theorem W2_209 : (Jvm.Cond.methodLink "java/lang/Throwable" (1 : Nat) ({ cls := "java/lang/Object", name := "<init>", desc := "()V" } : Jvm.MethodName)) ∈ TB := inT2 209 rfl rfl
theorem W2_210 : (Jvm.Cond.fieldLink "java/lang/Throwable" (13 : Nat) "java/lang/Throwable" "UNASSIGNED_STACK" "[Ljava/lang/StackTraceElement;") ∈ TB := inT2 210 rfl rfl
theorem W2_212 : (Jvm.Cond.fieldLink "java/lang/Throwable" (20 : Nat) "java/lang/Throwable" "SUPPRESSED_SENTINEL" "Ljava/util/List;") ∈ TB := inT2 212 rfl rfl
theorem W2_214 : (Jvm.Cond.methodLink "java/lang/Throwable" (27 : Nat) ({ cls := "java/lang/Throwable", name := "fillInStackTrace", desc := "()Ljava/lang/Throwable;" } : Jvm.MethodName)) ∈ TB := inT2 214 rfl rfl
theorem W2_215 : (Jvm.Cond.instanceMethod ({ cls := "java/lang/Throwable", name := "fillInStackTrace", desc := "()Ljava/lang/Throwable;" } : Jvm.MethodName)) ∈ TB := inT2 215 rfl rfl
theorem W2_217 : (Jvm.Cond.selects "java/lang/IllegalArgumentException" ({ cls := "java/lang/Throwable", name := "fillInStackTrace", desc := "()Ljava/lang/Throwable;" } : Jvm.MethodName) ({ cls := "java/lang/Throwable", name := "fillInStackTrace", desc := "()Ljava/lang/Throwable;" } : Jvm.MethodName)) ∈ TB := inT2 217 rfl rfl
theorem W2_218 : (Jvm.Cond.selects "java/lang/IllegalStateException" ({ cls := "java/lang/Throwable", name := "fillInStackTrace", desc := "()Ljava/lang/Throwable;" } : Jvm.MethodName) ({ cls := "java/lang/Throwable", name := "fillInStackTrace", desc := "()Ljava/lang/Throwable;" } : Jvm.MethodName)) ∈ TB := inT2 218 rfl rfl
theorem W2_220 : (Jvm.Cond.methodLink "java/lang/Throwable" (202 : Nat) ({ cls := "java/lang/Throwable", name := "fillInStackTrace", desc := "(I)Ljava/lang/Throwable;" } : Jvm.MethodName)) ∈ TB := inT2 220 rfl rfl
theorem W2_222 : (Jvm.Cond.instanceMethod ({ cls := "java/lang/Throwable", name := "fillInStackTrace", desc := "(I)Ljava/lang/Throwable;" } : Jvm.MethodName)) ∈ TB := inT2 222 rfl rfl
theorem W2_223 : (Jvm.Cond.instantiable "java/lang/Throwable" (6 : Nat)) ∈ TB := inT2 223 rfl rfl
theorem W2_226 : (Jvm.Cond.methodLink "PriceLines" (109 : Nat) ({ cls := "java/lang/IndexOutOfBoundsException", name := "<init>", desc := "(Ljava/lang/String;)V" } : Jvm.MethodName)) ∈ TB := inT2 226 rfl rfl
theorem W2_227 : (Jvm.Cond.instanceMethod ({ cls := "java/lang/IndexOutOfBoundsException", name := "<init>", desc := "(Ljava/lang/String;)V" } : Jvm.MethodName)) ∈ TB := inT2 227 rfl rfl
theorem W2_228 : (Jvm.Cond.code ({ cls := "java/lang/IndexOutOfBoundsException", name := "<init>", desc := "(Ljava/lang/String;)V" } : Jvm.MethodName) prog_16_method_2_code (2 : Nat) (Option.none : Option Jvm.ClassFile.FieldType)) ∈ TB := inT2 228 rfl rfl
theorem W2_229 : (Jvm.Cond.methodLink "java/lang/IndexOutOfBoundsException" (7 : Nat) ({ cls := "java/lang/RuntimeException", name := "<init>", desc := "(Ljava/lang/String;)V" } : Jvm.MethodName)) ∈ TB := inT2 229 rfl rfl
theorem W2_230 : (Jvm.Cond.instanceMethod ({ cls := "java/lang/RuntimeException", name := "<init>", desc := "(Ljava/lang/String;)V" } : Jvm.MethodName)) ∈ TB := inT2 230 rfl rfl
theorem W2_231 : (Jvm.Cond.code ({ cls := "java/lang/RuntimeException", name := "<init>", desc := "(Ljava/lang/String;)V" } : Jvm.MethodName) prog_18_method_2_code (2 : Nat) (Option.none : Option Jvm.ClassFile.FieldType)) ∈ TB := inT2 231 rfl rfl
theorem W2_232 : (Jvm.Cond.methodLink "java/lang/RuntimeException" (7 : Nat) ({ cls := "java/lang/Exception", name := "<init>", desc := "(Ljava/lang/String;)V" } : Jvm.MethodName)) ∈ TB := inT2 232 rfl rfl
theorem W2_233 : (Jvm.Cond.instanceMethod ({ cls := "java/lang/Exception", name := "<init>", desc := "(Ljava/lang/String;)V" } : Jvm.MethodName)) ∈ TB := inT2 233 rfl rfl
theorem W2_234 : (Jvm.Cond.code ({ cls := "java/lang/Exception", name := "<init>", desc := "(Ljava/lang/String;)V" } : Jvm.MethodName) prog_13_method_2_code (2 : Nat) (Option.none : Option Jvm.ClassFile.FieldType)) ∈ TB := inT2 234 rfl rfl
theorem W2_235 : (Jvm.Cond.methodLink "java/lang/Exception" (7 : Nat) ({ cls := "java/lang/Throwable", name := "<init>", desc := "(Ljava/lang/String;)V" } : Jvm.MethodName)) ∈ TB := inT2 235 rfl rfl
theorem W2_236 : (Jvm.Cond.instanceMethod ({ cls := "java/lang/Throwable", name := "<init>", desc := "(Ljava/lang/String;)V" } : Jvm.MethodName)) ∈ TB := inT2 236 rfl rfl
theorem W2_237 : (Jvm.Cond.code ({ cls := "java/lang/Throwable", name := "<init>", desc := "(Ljava/lang/String;)V" } : Jvm.MethodName) prog_20_method_2_code (2 : Nat) (Option.none : Option Jvm.ClassFile.FieldType)) ∈ TB := inT2 237 rfl rfl
theorem W2_239 : (Jvm.Cond.fieldLink "java/lang/Throwable" (31 : Nat) "java/lang/Throwable" "detailMessage" "Ljava/lang/String;") ∈ TB := inT2 239 rfl rfl
theorem W3_0 : (Jvm.Cond.fieldLink "java/lang/Throwable" (7 : Nat) "java/lang/Throwable" "cause" "Ljava/lang/Throwable;") ∈ TB := inT3 0 rfl rfl
theorem W3_1 : (Jvm.Cond.fieldLink "java/lang/Throwable" (17 : Nat) "java/lang/Throwable" "stackTrace" "[Ljava/lang/StackTraceElement;") ∈ TB := inT3 1 rfl rfl
theorem W3_2 : (Jvm.Cond.fieldLink "java/lang/Throwable" (24 : Nat) "java/lang/Throwable" "suppressedExceptions" "Ljava/util/List;") ∈ TB := inT3 2 rfl rfl
theorem W3_7 : (Jvm.Cond.lays "java/lang/IndexOutOfBoundsException" "java/lang/Throwable" "depth" "I") ∈ TB := inT3 7 rfl rfl
theorem W3_11 : (Jvm.Cond.arrayClass Jvm.ClassFile.FieldType.byte) ∈ TB := inT3 11 rfl rfl
theorem W3_12 : (Jvm.Cond.methodLink "PriceLines" (84 : Nat) ({ cls := "PriceLines", name := "requireFactNumbers", desc := "(II)V" } : Jvm.MethodName)) ∈ TB := inT3 12 rfl rfl
theorem W3_13 : (Jvm.Cond.static ({ cls := "PriceLines", name := "requireFactNumbers", desc := "(II)V" } : Jvm.MethodName)) ∈ TB := inT3 13 rfl rfl
theorem W3_14 : (Jvm.Cond.code ({ cls := "PriceLines", name := "requireFactNumbers", desc := "(II)V" } : Jvm.MethodName) prog_1_method_20_code (2 : Nat) (Option.none : Option Jvm.ClassFile.FieldType)) ∈ TB := inT3 14 rfl rfl
theorem W3_15 : (Jvm.Cond.classLink "PriceLines" (131 : Nat) "java/lang/IllegalArgumentException") ∈ TB := inT3 15 rfl rfl
theorem W3_16 : (Jvm.Cond.instantiable "java/lang/IllegalArgumentException" (6 : Nat)) ∈ TB := inT3 16 rfl rfl
theorem W3_18 : (Jvm.Cond.selects "java/lang/IllegalArgumentException" ({ cls := "java/lang/Throwable", name := "fillInStackTrace", desc := "(I)Ljava/lang/Throwable;" } : Jvm.MethodName) ({ cls := "java/lang/Throwable", name := "fillInStackTrace", desc := "(I)Ljava/lang/Throwable;" } : Jvm.MethodName)) ∈ TB := inT3 18 rfl rfl
theorem W3_19 : (Jvm.Cond.lays "java/lang/IllegalArgumentException" "java/lang/Throwable" "cause" "Ljava/lang/Throwable;") ∈ TB := inT3 19 rfl rfl
theorem W3_20 : (Jvm.Cond.lays "java/lang/IllegalArgumentException" "java/lang/Throwable" "stackTrace" "[Ljava/lang/StackTraceElement;") ∈ TB := inT3 20 rfl rfl
theorem W3_21 : (Jvm.Cond.lays "java/lang/IllegalArgumentException" "java/lang/Throwable" "suppressedExceptions" "Ljava/util/List;") ∈ TB := inT3 21 rfl rfl
theorem W3_22 : (Jvm.Cond.lays "java/lang/IllegalArgumentException" "java/lang/Throwable" "detailMessage" "Ljava/lang/String;") ∈ TB := inT3 22 rfl rfl
theorem W3_23 : (Jvm.Cond.lays "java/lang/IllegalArgumentException" "java/lang/Throwable" "backtrace" "Ljava/lang/Object;") ∈ TB := inT3 23 rfl rfl
theorem W3_25 : (Jvm.Cond.methodLink "PriceLines" (135 : Nat) ({ cls := "java/lang/IllegalArgumentException", name := "<init>", desc := "(Ljava/lang/String;)V" } : Jvm.MethodName)) ∈ TB := inT3 25 rfl rfl
theorem W3_26 : (Jvm.Cond.instanceMethod ({ cls := "java/lang/IllegalArgumentException", name := "<init>", desc := "(Ljava/lang/String;)V" } : Jvm.MethodName)) ∈ TB := inT3 26 rfl rfl
theorem W3_27 : (Jvm.Cond.code ({ cls := "java/lang/IllegalArgumentException", name := "<init>", desc := "(Ljava/lang/String;)V" } : Jvm.MethodName) prog_14_method_2_code (2 : Nat) (Option.none : Option Jvm.ClassFile.FieldType)) ∈ TB := inT3 27 rfl rfl
theorem W3_28 : (Jvm.Cond.methodLink "java/lang/IllegalArgumentException" (7 : Nat) ({ cls := "java/lang/RuntimeException", name := "<init>", desc := "(Ljava/lang/String;)V" } : Jvm.MethodName)) ∈ TB := inT3 28 rfl rfl
theorem W3_29 : (Jvm.Cond.lays "java/lang/IllegalArgumentException" "java/lang/Throwable" "depth" "I") ∈ TB := inT3 29 rfl rfl
theorem W3_31 : (Jvm.Cond.constant "PriceLines" (211 : Nat) (-1000000 : Int32)) ∈ TB := inT3 31 rfl rfl
theorem W3_32 : (Jvm.Cond.constant "PriceLines" (212 : Nat) (1000000 : Int32)) ∈ TB := inT3 32 rfl rfl
theorem W3_34 : (Jvm.Cond.methodLink "PriceLines" (88 : Nat) ({ cls := "PriceLines$Facts", name := "tell", desc := "(III)V" } : Jvm.MethodName)) ∈ TB := inT3 34 rfl rfl
theorem W3_35 : (Jvm.Cond.instanceMethod ({ cls := "PriceLines$Facts", name := "tell", desc := "(III)V" } : Jvm.MethodName)) ∈ TB := inT3 35 rfl rfl
theorem W3_36 : (Jvm.Cond.selects "PriceLines$Facts" ({ cls := "PriceLines$Facts", name := "tell", desc := "(III)V" } : Jvm.MethodName) ({ cls := "PriceLines$Facts", name := "tell", desc := "(III)V" } : Jvm.MethodName)) ∈ TB := inT3 36 rfl rfl
theorem W3_37 : (Jvm.Cond.code ({ cls := "PriceLines$Facts", name := "tell", desc := "(III)V" } : Jvm.MethodName) prog_3_method_2_code (5 : Nat) (Option.none : Option Jvm.ClassFile.FieldType)) ∈ TB := inT3 37 rfl rfl
theorem W3_38 : (Jvm.Cond.methodLink "PriceLinesLaw" (85 : Nat) ({ cls := "PriceLinesLaw", name := "forget", desc := "(LPriceLines;I[J)I" } : Jvm.MethodName)) ∈ TB := inT3 38 rfl rfl
theorem W3_39 : (Jvm.Cond.static ({ cls := "PriceLinesLaw", name := "forget", desc := "(LPriceLines;I[J)I" } : Jvm.MethodName)) ∈ TB := inT3 39 rfl rfl
theorem W3_40 : (Jvm.Cond.codeWith ({ cls := "PriceLinesLaw", name := "forget", desc := "(LPriceLines;I[J)I" } : Jvm.MethodName) method_4_code (4 : Nat) (Option.some Jvm.ClassFile.FieldType.int) [((0 : Nat), (16 : Nat), (19 : Nat), (13 : Nat))]) ∈ TB := inT3 40 rfl rfl
theorem W3_41 : (Jvm.Cond.methodLink "PriceLinesLaw" (17 : Nat) ({ cls := "PriceLines", name := "forget", desc := "(I)Z" } : Jvm.MethodName)) ∈ TB := inT3 41 rfl rfl
theorem W3_42 : (Jvm.Cond.instanceMethod ({ cls := "PriceLines", name := "forget", desc := "(I)Z" } : Jvm.MethodName)) ∈ TB := inT3 42 rfl rfl
theorem W3_43 : (Jvm.Cond.selects "PriceLines" ({ cls := "PriceLines", name := "forget", desc := "(I)Z" } : Jvm.MethodName) ({ cls := "PriceLines", name := "forget", desc := "(I)Z" } : Jvm.MethodName)) ∈ TB := inT3 43 rfl rfl
theorem W3_44 : (Jvm.Cond.code ({ cls := "PriceLines", name := "forget", desc := "(I)Z" } : Jvm.MethodName) prog_1_method_5_code (3 : Nat) (Option.some Jvm.ClassFile.FieldType.boolean)) ∈ TB := inT3 44 rfl rfl
theorem W3_45 : (Jvm.Cond.methodLink "PriceLines" (92 : Nat) ({ cls := "PriceLines$Facts", name := "isTold", desc := "(I)Z" } : Jvm.MethodName)) ∈ TB := inT3 45 rfl rfl
theorem W3_46 : (Jvm.Cond.methodLink "PriceLines" (95 : Nat) ({ cls := "PriceLines$Facts", name := "drop", desc := "(I)V" } : Jvm.MethodName)) ∈ TB := inT3 46 rfl rfl
theorem W3_47 : (Jvm.Cond.instanceMethod ({ cls := "PriceLines$Facts", name := "drop", desc := "(I)V" } : Jvm.MethodName)) ∈ TB := inT3 47 rfl rfl
theorem W3_48 : (Jvm.Cond.selects "PriceLines$Facts" ({ cls := "PriceLines$Facts", name := "drop", desc := "(I)V" } : Jvm.MethodName) ({ cls := "PriceLines$Facts", name := "drop", desc := "(I)V" } : Jvm.MethodName)) ∈ TB := inT3 48 rfl rfl
theorem W3_49 : (Jvm.Cond.code ({ cls := "PriceLines$Facts", name := "drop", desc := "(I)V" } : Jvm.MethodName) prog_3_method_3_code (2 : Nat) (Option.none : Option Jvm.ClassFile.FieldType)) ∈ TB := inT3 49 rfl rfl
theorem W3_50 : (Jvm.Cond.methodLink "PriceLines$Facts" (22 : Nat) ({ cls := "PriceLines$Facts", name := "tell", desc := "(III)V" } : Jvm.MethodName)) ∈ TB := inT3 50 rfl rfl
theorem W3_51 : (Jvm.Cond.methodLink "PriceLinesLaw" (98 : Nat) ({ cls := "PriceLinesLaw", name := "line", desc := "(LPriceLines;II[J)I" } : Jvm.MethodName)) ∈ TB := inT3 51 rfl rfl
theorem W3_52 : (Jvm.Cond.static ({ cls := "PriceLinesLaw", name := "line", desc := "(LPriceLines;II[J)I" } : Jvm.MethodName)) ∈ TB := inT3 52 rfl rfl
theorem W3_53 : (Jvm.Cond.codeWith ({ cls := "PriceLinesLaw", name := "line", desc := "(LPriceLines;II[J)I" } : Jvm.MethodName) method_5_code (5 : Nat) (Option.some Jvm.ClassFile.FieldType.int) [((0 : Nat), (9 : Nat), (12 : Nat), (13 : Nat))]) ∈ TB := inT3 53 rfl rfl
theorem W3_54 : (Jvm.Cond.methodLink "PriceLinesLaw" (21 : Nat) ({ cls := "PriceLines", name := "line", desc := "(II)J" } : Jvm.MethodName)) ∈ TB := inT3 54 rfl rfl
theorem W3_55 : (Jvm.Cond.instanceMethod ({ cls := "PriceLines", name := "line", desc := "(II)J" } : Jvm.MethodName)) ∈ TB := inT3 55 rfl rfl
theorem W3_56 : (Jvm.Cond.selects "PriceLines" ({ cls := "PriceLines", name := "line", desc := "(II)J" } : Jvm.MethodName) ({ cls := "PriceLines", name := "line", desc := "(II)J" } : Jvm.MethodName)) ∈ TB := inT3 56 rfl rfl
theorem W3_57 : (Jvm.Cond.code ({ cls := "PriceLines", name := "line", desc := "(II)J" } : Jvm.MethodName) prog_1_method_8_code (3 : Nat) (Option.some Jvm.ClassFile.FieldType.long)) ∈ TB := inT3 57 rfl rfl
theorem W3_60 : (Jvm.Cond.methodLink "PriceLines" (114 : Nat) ({ cls := "PriceLines$Reckoning", name := "partOf", desc := "(II)J" } : Jvm.MethodName)) ∈ TB := inT3 60 rfl rfl
theorem W3_61 : (Jvm.Cond.instanceMethod ({ cls := "PriceLines$Reckoning", name := "partOf", desc := "(II)J" } : Jvm.MethodName)) ∈ TB := inT3 61 rfl rfl
theorem W3_62 : (Jvm.Cond.selects "PriceLines$Reckoning" ({ cls := "PriceLines$Reckoning", name := "partOf", desc := "(II)J" } : Jvm.MethodName) ({ cls := "PriceLines$Reckoning", name := "partOf", desc := "(II)J" } : Jvm.MethodName)) ∈ TB := inT3 62 rfl rfl
theorem W3_63 : (Jvm.Cond.code ({ cls := "PriceLines$Reckoning", name := "partOf", desc := "(II)J" } : Jvm.MethodName) prog_9_method_3_code (3 : Nat) (Option.some Jvm.ClassFile.FieldType.long)) ∈ TB := inT3 63 rfl rfl
theorem W3_64 : (Jvm.Cond.methodLink "PriceLinesLaw" (102 : Nat) ({ cls := "PriceLinesLaw", name := "changed", desc := "(LPriceLines;III[J)I" } : Jvm.MethodName)) ∈ TB := inT3 64 rfl rfl
theorem W3_65 : (Jvm.Cond.static ({ cls := "PriceLinesLaw", name := "changed", desc := "(LPriceLines;III[J)I" } : Jvm.MethodName)) ∈ TB := inT3 65 rfl rfl
theorem W3_66 : (Jvm.Cond.codeWith ({ cls := "PriceLinesLaw", name := "changed", desc := "(LPriceLines;III[J)I" } : Jvm.MethodName) method_6_code (6 : Nat) (Option.some Jvm.ClassFile.FieldType.int) [((0 : Nat), (11 : Nat), (14 : Nat), (13 : Nat)), ((0 : Nat), (11 : Nat), (18 : Nat), (15 : Nat))]) ∈ TB := inT3 66 rfl rfl
theorem W3_67 : (Jvm.Cond.methodLink "PriceLinesLaw" (25 : Nat) ({ cls := "PriceLines", name := "changed", desc := "(III)J" } : Jvm.MethodName)) ∈ TB := inT3 67 rfl rfl
theorem W3_68 : (Jvm.Cond.instanceMethod ({ cls := "PriceLines", name := "changed", desc := "(III)J" } : Jvm.MethodName)) ∈ TB := inT3 68 rfl rfl
theorem W3_69 : (Jvm.Cond.selects "PriceLines" ({ cls := "PriceLines", name := "changed", desc := "(III)J" } : Jvm.MethodName) ({ cls := "PriceLines", name := "changed", desc := "(III)J" } : Jvm.MethodName)) ∈ TB := inT3 69 rfl rfl
theorem W3_70 : (Jvm.Cond.code ({ cls := "PriceLines", name := "changed", desc := "(III)J" } : Jvm.MethodName) prog_1_method_9_code (11 : Nat) (Option.some Jvm.ClassFile.FieldType.long)) ∈ TB := inT3 70 rfl rfl
theorem W3_71 : (Jvm.Cond.methodLink "PriceLines" (118 : Nat) ({ cls := "PriceLines$Facts", name := "aboveOf", desc := "(I)I" } : Jvm.MethodName)) ∈ TB := inT3 71 rfl rfl
theorem W3_72 : (Jvm.Cond.methodLink "PriceLines" (122 : Nat) ({ cls := "PriceLines$Facts", name := "belowOf", desc := "(I)I" } : Jvm.MethodName)) ∈ TB := inT3 72 rfl rfl
theorem W3_73 : (Jvm.Cond.methodLink "PriceLinesLaw" (106 : Nat) ({ cls := "PriceLinesLaw", name := "currency", desc := "(LPriceLines;III[J)I" } : Jvm.MethodName)) ∈ TB := inT3 73 rfl rfl
theorem W3_74 : (Jvm.Cond.static ({ cls := "PriceLinesLaw", name := "currency", desc := "(LPriceLines;III[J)I" } : Jvm.MethodName)) ∈ TB := inT3 74 rfl rfl
theorem W3_75 : (Jvm.Cond.codeWith ({ cls := "PriceLinesLaw", name := "currency", desc := "(LPriceLines;III[J)I" } : Jvm.MethodName) method_7_code (6 : Nat) (Option.some Jvm.ClassFile.FieldType.int) [((0 : Nat), (12 : Nat), (15 : Nat), (15 : Nat)), ((0 : Nat), (12 : Nat), (19 : Nat), (33 : Nat))]) ∈ TB := inT3 75 rfl rfl
theorem W3_76 : (Jvm.Cond.classLink "PriceLinesLaw" (33 : Nat) "java/lang/IllegalStateException") ∈ TB := inT3 76 rfl rfl
theorem W3_77 : (Jvm.Cond.methodLink "PriceLinesLaw" (29 : Nat) ({ cls := "PriceLines", name := "currency", desc := "(III)I" } : Jvm.MethodName)) ∈ TB := inT3 77 rfl rfl
theorem W3_78 : (Jvm.Cond.instanceMethod ({ cls := "PriceLines", name := "currency", desc := "(III)I" } : Jvm.MethodName)) ∈ TB := inT3 78 rfl rfl
theorem W3_79 : (Jvm.Cond.selects "PriceLines" ({ cls := "PriceLines", name := "currency", desc := "(III)I" } : Jvm.MethodName) ({ cls := "PriceLines", name := "currency", desc := "(III)I" } : Jvm.MethodName)) ∈ TB := inT3 79 rfl rfl
theorem W3_80 : (Jvm.Cond.code ({ cls := "PriceLines", name := "currency", desc := "(III)I" } : Jvm.MethodName) prog_1_method_10_code (4 : Nat) (Option.some Jvm.ClassFile.FieldType.int)) ∈ TB := inT3 80 rfl rfl
theorem W3_81 : (Jvm.Cond.methodLink "PriceLines" (125 : Nat) ({ cls := "PriceLines", name := "requireDay", desc := "(I)V" } : Jvm.MethodName)) ∈ TB := inT3 81 rfl rfl
theorem W3_82 : (Jvm.Cond.static ({ cls := "PriceLines", name := "requireDay", desc := "(I)V" } : Jvm.MethodName)) ∈ TB := inT3 82 rfl rfl
theorem W3_83 : (Jvm.Cond.code ({ cls := "PriceLines", name := "requireDay", desc := "(I)V" } : Jvm.MethodName) prog_1_method_21_code (1 : Nat) (Option.none : Option Jvm.ClassFile.FieldType)) ∈ TB := inT3 83 rfl rfl
theorem W3_85 : (Jvm.Cond.methodLink "PriceLines" (128 : Nat) ({ cls := "PriceLines$Currencies", name := "isBehindLast", desc := "(I)Z" } : Jvm.MethodName)) ∈ TB := inT3 85 rfl rfl
theorem W3_86 : (Jvm.Cond.instanceMethod ({ cls := "PriceLines$Currencies", name := "isBehindLast", desc := "(I)Z" } : Jvm.MethodName)) ∈ TB := inT3 86 rfl rfl
theorem W3_87 : (Jvm.Cond.selects "PriceLines$Currencies" ({ cls := "PriceLines$Currencies", name := "isBehindLast", desc := "(I)Z" } : Jvm.MethodName) ({ cls := "PriceLines$Currencies", name := "isBehindLast", desc := "(I)Z" } : Jvm.MethodName)) ∈ TB := inT3 87 rfl rfl
theorem W3_88 : (Jvm.Cond.code ({ cls := "PriceLines$Currencies", name := "isBehindLast", desc := "(I)Z" } : Jvm.MethodName) prog_2_method_2_code (3 : Nat) (Option.some Jvm.ClassFile.FieldType.boolean)) ∈ TB := inT3 88 rfl rfl
theorem W3_91 : (Jvm.Cond.methodLink "PriceLines" (136 : Nat) ({ cls := "PriceLines", name := "isRate", desc := "(I)Z" } : Jvm.MethodName)) ∈ TB := inT3 91 rfl rfl
theorem W3_92 : (Jvm.Cond.static ({ cls := "PriceLines", name := "isRate", desc := "(I)Z" } : Jvm.MethodName)) ∈ TB := inT3 92 rfl rfl
theorem W3_93 : (Jvm.Cond.code ({ cls := "PriceLines", name := "isRate", desc := "(I)Z" } : Jvm.MethodName) prog_1_method_26_code (1 : Nat) (Option.some Jvm.ClassFile.FieldType.boolean)) ∈ TB := inT3 93 rfl rfl
theorem W3_95 : (Jvm.Cond.classLink "PriceLines" (144 : Nat) "java/lang/IllegalStateException") ∈ TB := inT3 95 rfl rfl
theorem W3_96 : (Jvm.Cond.instantiable "java/lang/IllegalStateException" (6 : Nat)) ∈ TB := inT3 96 rfl rfl
theorem W3_98 : (Jvm.Cond.selects "java/lang/IllegalStateException" ({ cls := "java/lang/Throwable", name := "fillInStackTrace", desc := "(I)Ljava/lang/Throwable;" } : Jvm.MethodName) ({ cls := "java/lang/Throwable", name := "fillInStackTrace", desc := "(I)Ljava/lang/Throwable;" } : Jvm.MethodName)) ∈ TB := inT3 98 rfl rfl
theorem W3_99 : (Jvm.Cond.lays "java/lang/IllegalStateException" "java/lang/Throwable" "cause" "Ljava/lang/Throwable;") ∈ TB := inT3 99 rfl rfl
theorem W3_100 : (Jvm.Cond.lays "java/lang/IllegalStateException" "java/lang/Throwable" "stackTrace" "[Ljava/lang/StackTraceElement;") ∈ TB := inT3 100 rfl rfl
theorem W3_101 : (Jvm.Cond.lays "java/lang/IllegalStateException" "java/lang/Throwable" "suppressedExceptions" "Ljava/util/List;") ∈ TB := inT3 101 rfl rfl
theorem W3_102 : (Jvm.Cond.lays "java/lang/IllegalStateException" "java/lang/Throwable" "detailMessage" "Ljava/lang/String;") ∈ TB := inT3 102 rfl rfl
theorem W3_103 : (Jvm.Cond.lays "java/lang/IllegalStateException" "java/lang/Throwable" "backtrace" "Ljava/lang/Object;") ∈ TB := inT3 103 rfl rfl
theorem W3_105 : (Jvm.Cond.methodLink "PriceLines" (148 : Nat) ({ cls := "java/lang/IllegalStateException", name := "<init>", desc := "(Ljava/lang/String;)V" } : Jvm.MethodName)) ∈ TB := inT3 105 rfl rfl
theorem W3_106 : (Jvm.Cond.instanceMethod ({ cls := "java/lang/IllegalStateException", name := "<init>", desc := "(Ljava/lang/String;)V" } : Jvm.MethodName)) ∈ TB := inT3 106 rfl rfl
theorem W3_107 : (Jvm.Cond.code ({ cls := "java/lang/IllegalStateException", name := "<init>", desc := "(Ljava/lang/String;)V" } : Jvm.MethodName) prog_15_method_2_code (2 : Nat) (Option.none : Option Jvm.ClassFile.FieldType)) ∈ TB := inT3 107 rfl rfl
theorem W3_108 : (Jvm.Cond.methodLink "java/lang/IllegalStateException" (7 : Nat) ({ cls := "java/lang/RuntimeException", name := "<init>", desc := "(Ljava/lang/String;)V" } : Jvm.MethodName)) ∈ TB := inT3 108 rfl rfl
theorem W3_109 : (Jvm.Cond.lays "java/lang/IllegalStateException" "java/lang/Throwable" "depth" "I") ∈ TB := inT3 109 rfl rfl
theorem W3_111 : (Jvm.Cond.methodLink "PriceLines" (149 : Nat) ({ cls := "PriceLines$Currencies", name := "add", desc := "(III)V" } : Jvm.MethodName)) ∈ TB := inT3 111 rfl rfl
theorem W3_112 : (Jvm.Cond.instanceMethod ({ cls := "PriceLines$Currencies", name := "add", desc := "(III)V" } : Jvm.MethodName)) ∈ TB := inT3 112 rfl rfl
theorem W3_113 : (Jvm.Cond.selects "PriceLines$Currencies" ({ cls := "PriceLines$Currencies", name := "add", desc := "(III)V" } : Jvm.MethodName) ({ cls := "PriceLines$Currencies", name := "add", desc := "(III)V" } : Jvm.MethodName)) ∈ TB := inT3 113 rfl rfl
theorem W3_114 : (Jvm.Cond.code ({ cls := "PriceLines$Currencies", name := "add", desc := "(III)V" } : Jvm.MethodName) prog_2_method_3_code (4 : Nat) (Option.none : Option Jvm.ClassFile.FieldType)) ∈ TB := inT3 114 rfl rfl
theorem W3_115 : (Jvm.Cond.methodLink "PriceLinesLaw" (109 : Nat) ({ cls := "PriceLinesLaw", name := "centsAt", desc := "(LPriceLines;I[J)I" } : Jvm.MethodName)) ∈ TB := inT3 115 rfl rfl
theorem W3_116 : (Jvm.Cond.static ({ cls := "PriceLinesLaw", name := "centsAt", desc := "(LPriceLines;I[J)I" } : Jvm.MethodName)) ∈ TB := inT3 116 rfl rfl
theorem W3_117 : (Jvm.Cond.codeWith ({ cls := "PriceLinesLaw", name := "centsAt", desc := "(LPriceLines;I[J)I" } : Jvm.MethodName) method_8_code (4 : Nat) (Option.some Jvm.ClassFile.FieldType.int) [((0 : Nat), (8 : Nat), (11 : Nat), (15 : Nat))]) ∈ TB := inT3 117 rfl rfl
theorem W3_118 : (Jvm.Cond.methodLink "PriceLinesLaw" (35 : Nat) ({ cls := "PriceLines", name := "centsAt", desc := "(I)J" } : Jvm.MethodName)) ∈ TB := inT3 118 rfl rfl
theorem W3_119 : (Jvm.Cond.instanceMethod ({ cls := "PriceLines", name := "centsAt", desc := "(I)J" } : Jvm.MethodName)) ∈ TB := inT3 119 rfl rfl
theorem W3_120 : (Jvm.Cond.selects "PriceLines" ({ cls := "PriceLines", name := "centsAt", desc := "(I)J" } : Jvm.MethodName) ({ cls := "PriceLines", name := "centsAt", desc := "(I)J" } : Jvm.MethodName)) ∈ TB := inT3 120 rfl rfl
theorem W3_121 : (Jvm.Cond.code ({ cls := "PriceLines", name := "centsAt", desc := "(I)J" } : Jvm.MethodName) prog_1_method_11_code (2 : Nat) (Option.some Jvm.ClassFile.FieldType.long)) ∈ TB := inT3 121 rfl rfl
theorem W3_122 : (Jvm.Cond.methodLink "PriceLines" (152 : Nat) ({ cls := "PriceLines$Currencies", name := "convert", desc := "(JI)J" } : Jvm.MethodName)) ∈ TB := inT3 122 rfl rfl
theorem W3_123 : (Jvm.Cond.instanceMethod ({ cls := "PriceLines$Currencies", name := "convert", desc := "(JI)J" } : Jvm.MethodName)) ∈ TB := inT3 123 rfl rfl
theorem W3_124 : (Jvm.Cond.selects "PriceLines$Currencies" ({ cls := "PriceLines$Currencies", name := "convert", desc := "(JI)J" } : Jvm.MethodName) ({ cls := "PriceLines$Currencies", name := "convert", desc := "(JI)J" } : Jvm.MethodName)) ∈ TB := inT3 124 rfl rfl
theorem W3_125 : (Jvm.Cond.code ({ cls := "PriceLines$Currencies", name := "convert", desc := "(JI)J" } : Jvm.MethodName) prog_2_method_4_code (5 : Nat) (Option.some Jvm.ClassFile.FieldType.long)) ∈ TB := inT3 125 rfl rfl
theorem W3_126 : (Jvm.Cond.methodLink "PriceLines$Currencies" (29 : Nat) ({ cls := "PriceLines$Currencies", name := "rowAt", desc := "(I)I" } : Jvm.MethodName)) ∈ TB := inT3 126 rfl rfl
theorem W3_128 : (Jvm.Cond.instanceMethod ({ cls := "PriceLines$Currencies", name := "rowAt", desc := "(I)I" } : Jvm.MethodName)) ∈ TB := inT3 128 rfl rfl
theorem W3_129 : (Jvm.Cond.code ({ cls := "PriceLines$Currencies", name := "rowAt", desc := "(I)I" } : Jvm.MethodName) prog_2_method_5_code (4 : Nat) (Option.some Jvm.ClassFile.FieldType.int)) ∈ TB := inT3 129 rfl rfl
theorem W3_130 : (Jvm.Cond.methodLink "PriceLines$Currencies" (33 : Nat) ({ cls := "java/lang/Math", name := "floorDiv", desc := "(JJ)J" } : Jvm.MethodName)) ∈ TB := inT3 130 rfl rfl
theorem W3_131 : (Jvm.Cond.methodLink "PriceLinesLaw" (112 : Nat) ({ cls := "PriceLinesLaw", name := "offer", desc := "(LPriceLines;I[J)I" } : Jvm.MethodName)) ∈ TB := inT3 131 rfl rfl
theorem W3_132 : (Jvm.Cond.static ({ cls := "PriceLinesLaw", name := "offer", desc := "(LPriceLines;I[J)I" } : Jvm.MethodName)) ∈ TB := inT3 132 rfl rfl
theorem W3_133 : (Jvm.Cond.codeWith ({ cls := "PriceLinesLaw", name := "offer", desc := "(LPriceLines;I[J)I" } : Jvm.MethodName) method_9_code (4 : Nat) (Option.some Jvm.ClassFile.FieldType.int) [((0 : Nat), (9 : Nat), (12 : Nat), (15 : Nat)), ((0 : Nat), (9 : Nat), (15 : Nat), (33 : Nat))]) ∈ TB := inT3 133 rfl rfl
theorem W3_134 : (Jvm.Cond.methodLink "PriceLinesLaw" (39 : Nat) ({ cls := "PriceLines", name := "offer", desc := "(I)I" } : Jvm.MethodName)) ∈ TB := inT3 134 rfl rfl
theorem W3_135 : (Jvm.Cond.instanceMethod ({ cls := "PriceLines", name := "offer", desc := "(I)I" } : Jvm.MethodName)) ∈ TB := inT3 135 rfl rfl
theorem W3_136 : (Jvm.Cond.selects "PriceLines" ({ cls := "PriceLines", name := "offer", desc := "(I)I" } : Jvm.MethodName) ({ cls := "PriceLines", name := "offer", desc := "(I)I" } : Jvm.MethodName)) ∈ TB := inT3 136 rfl rfl
theorem W3_137 : (Jvm.Cond.code ({ cls := "PriceLines", name := "offer", desc := "(I)I" } : Jvm.MethodName) prog_1_method_12_code (4 : Nat) (Option.some Jvm.ClassFile.FieldType.int)) ∈ TB := inT3 137 rfl rfl
theorem W3_140 : (Jvm.Cond.methodLink "PriceLines" (161 : Nat) ({ cls := "PriceLines$Offers", name := "add", desc := "(JI)I" } : Jvm.MethodName)) ∈ TB := inT3 140 rfl rfl
theorem W3_141 : (Jvm.Cond.instanceMethod ({ cls := "PriceLines$Offers", name := "add", desc := "(JI)I" } : Jvm.MethodName)) ∈ TB := inT3 141 rfl rfl
theorem W3_142 : (Jvm.Cond.selects "PriceLines$Offers" ({ cls := "PriceLines$Offers", name := "add", desc := "(JI)I" } : Jvm.MethodName) ({ cls := "PriceLines$Offers", name := "add", desc := "(JI)I" } : Jvm.MethodName)) ∈ TB := inT3 142 rfl rfl
theorem W3_143 : (Jvm.Cond.code ({ cls := "PriceLines$Offers", name := "add", desc := "(JI)I" } : Jvm.MethodName) prog_7_method_2_code (5 : Nat) (Option.some Jvm.ClassFile.FieldType.int)) ∈ TB := inT3 143 rfl rfl
theorem W3_145 : (Jvm.Cond.methodLink "PriceLinesLaw" (115 : Nat) ({ cls := "PriceLinesLaw", name := "offered", desc := "(LPriceLines;II[J)I" } : Jvm.MethodName)) ∈ TB := inT3 145 rfl rfl
theorem W3_146 : (Jvm.Cond.static ({ cls := "PriceLinesLaw", name := "offered", desc := "(LPriceLines;II[J)I" } : Jvm.MethodName)) ∈ TB := inT3 146 rfl rfl
theorem W3_147 : (Jvm.Cond.codeWith ({ cls := "PriceLinesLaw", name := "offered", desc := "(LPriceLines;II[J)I" } : Jvm.MethodName) method_10_code (5 : Nat) (Option.some Jvm.ClassFile.FieldType.int) [((0 : Nat), (9 : Nat), (12 : Nat), (13 : Nat)), ((0 : Nat), (9 : Nat), (16 : Nat), (15 : Nat)), ((0 : Nat), (9 : Nat), (20 : Nat), (33 : Nat))]) ∈ TB := inT3 147 rfl rfl
theorem W3_148 : (Jvm.Cond.methodLink "PriceLinesLaw" (43 : Nat) ({ cls := "PriceLines", name := "offered", desc := "(II)J" } : Jvm.MethodName)) ∈ TB := inT3 148 rfl rfl
theorem W3_149 : (Jvm.Cond.instanceMethod ({ cls := "PriceLines", name := "offered", desc := "(II)J" } : Jvm.MethodName)) ∈ TB := inT3 149 rfl rfl
theorem W3_150 : (Jvm.Cond.selects "PriceLines" ({ cls := "PriceLines", name := "offered", desc := "(II)J" } : Jvm.MethodName) ({ cls := "PriceLines", name := "offered", desc := "(II)J" } : Jvm.MethodName)) ∈ TB := inT3 150 rfl rfl
theorem W3_151 : (Jvm.Cond.code ({ cls := "PriceLines", name := "offered", desc := "(II)J" } : Jvm.MethodName) prog_1_method_13_code (3 : Nat) (Option.some Jvm.ClassFile.FieldType.long)) ∈ TB := inT3 151 rfl rfl
theorem W3_152 : (Jvm.Cond.methodLink "PriceLines" (164 : Nat) ({ cls := "PriceLines", name := "requireOffer", desc := "(I)V" } : Jvm.MethodName)) ∈ TB := inT3 152 rfl rfl
theorem W3_154 : (Jvm.Cond.instanceMethod ({ cls := "PriceLines", name := "requireOffer", desc := "(I)V" } : Jvm.MethodName)) ∈ TB := inT3 154 rfl rfl
theorem W3_155 : (Jvm.Cond.code ({ cls := "PriceLines", name := "requireOffer", desc := "(I)V" } : Jvm.MethodName) prog_1_method_22_code (2 : Nat) (Option.none : Option Jvm.ClassFile.FieldType)) ∈ TB := inT3 155 rfl rfl
theorem W3_157 : (Jvm.Cond.methodLink "PriceLines" (167 : Nat) ({ cls := "PriceLines", name := "requireHeld", desc := "(II)V" } : Jvm.MethodName)) ∈ TB := inT3 157 rfl rfl
theorem W3_159 : (Jvm.Cond.instanceMethod ({ cls := "PriceLines", name := "requireHeld", desc := "(II)V" } : Jvm.MethodName)) ∈ TB := inT3 159 rfl rfl
theorem W3_160 : (Jvm.Cond.code ({ cls := "PriceLines", name := "requireHeld", desc := "(II)V" } : Jvm.MethodName) prog_1_method_23_code (3 : Nat) (Option.none : Option Jvm.ClassFile.FieldType)) ∈ TB := inT3 160 rfl rfl
theorem W3_161 : (Jvm.Cond.methodLink "PriceLines" (219 : Nat) ({ cls := "PriceLines$Offers", name := "lastDayOf", desc := "(I)I" } : Jvm.MethodName)) ∈ TB := inT3 161 rfl rfl
theorem W3_162 : (Jvm.Cond.instanceMethod ({ cls := "PriceLines$Offers", name := "lastDayOf", desc := "(I)I" } : Jvm.MethodName)) ∈ TB := inT3 162 rfl rfl
theorem W3_163 : (Jvm.Cond.selects "PriceLines$Offers" ({ cls := "PriceLines$Offers", name := "lastDayOf", desc := "(I)I" } : Jvm.MethodName) ({ cls := "PriceLines$Offers", name := "lastDayOf", desc := "(I)I" } : Jvm.MethodName)) ∈ TB := inT3 163 rfl rfl
theorem W3_164 : (Jvm.Cond.code ({ cls := "PriceLines$Offers", name := "lastDayOf", desc := "(I)I" } : Jvm.MethodName) prog_7_method_4_code (2 : Nat) (Option.some Jvm.ClassFile.FieldType.int)) ∈ TB := inT3 164 rfl rfl
theorem W3_166 : (Jvm.Cond.methodLink "PriceLines" (170 : Nat) ({ cls := "PriceLines$Offers", name := "centsOf", desc := "(I)J" } : Jvm.MethodName)) ∈ TB := inT3 166 rfl rfl
theorem W3_167 : (Jvm.Cond.instanceMethod ({ cls := "PriceLines$Offers", name := "centsOf", desc := "(I)J" } : Jvm.MethodName)) ∈ TB := inT3 167 rfl rfl
theorem W3_168 : (Jvm.Cond.selects "PriceLines$Offers" ({ cls := "PriceLines$Offers", name := "centsOf", desc := "(I)J" } : Jvm.MethodName) ({ cls := "PriceLines$Offers", name := "centsOf", desc := "(I)J" } : Jvm.MethodName)) ∈ TB := inT3 168 rfl rfl
theorem W3_169 : (Jvm.Cond.code ({ cls := "PriceLines$Offers", name := "centsOf", desc := "(I)J" } : Jvm.MethodName) prog_7_method_3_code (2 : Nat) (Option.some Jvm.ClassFile.FieldType.long)) ∈ TB := inT3 169 rfl rfl
theorem W3_170 : (Jvm.Cond.methodLink "PriceLinesLaw" (118 : Nat) ({ cls := "PriceLinesLaw", name := "differs", desc := "(LPriceLines;II[J)I" } : Jvm.MethodName)) ∈ TB := inT3 170 rfl rfl
theorem W3_171 : (Jvm.Cond.static ({ cls := "PriceLinesLaw", name := "differs", desc := "(LPriceLines;II[J)I" } : Jvm.MethodName)) ∈ TB := inT3 171 rfl rfl
theorem W3_172 : (Jvm.Cond.codeWith ({ cls := "PriceLinesLaw", name := "differs", desc := "(LPriceLines;II[J)I" } : Jvm.MethodName) method_11_code (5 : Nat) (Option.some Jvm.ClassFile.FieldType.int) [((0 : Nat), (9 : Nat), (12 : Nat), (13 : Nat))]) ∈ TB := inT3 172 rfl rfl
theorem W3_173 : (Jvm.Cond.methodLink "PriceLinesLaw" (46 : Nat) ({ cls := "PriceLines", name := "differs", desc := "(II)J" } : Jvm.MethodName)) ∈ TB := inT3 173 rfl rfl
theorem W3_174 : (Jvm.Cond.instanceMethod ({ cls := "PriceLines", name := "differs", desc := "(II)J" } : Jvm.MethodName)) ∈ TB := inT3 174 rfl rfl
theorem W3_175 : (Jvm.Cond.selects "PriceLines" ({ cls := "PriceLines", name := "differs", desc := "(II)J" } : Jvm.MethodName) ({ cls := "PriceLines", name := "differs", desc := "(II)J" } : Jvm.MethodName)) ∈ TB := inT3 175 rfl rfl
theorem W3_176 : (Jvm.Cond.code ({ cls := "PriceLines", name := "differs", desc := "(II)J" } : Jvm.MethodName) prog_1_method_14_code (3 : Nat) (Option.some Jvm.ClassFile.FieldType.long)) ∈ TB := inT3 176 rfl rfl
theorem W3_177 : (Jvm.Cond.methodLink "PriceLinesLaw" (121 : Nat) ({ cls := "PriceLinesLaw", name := "invoice", desc := "(LPriceLines;II[J)I" } : Jvm.MethodName)) ∈ TB := inT3 177 rfl rfl
theorem W3_178 : (Jvm.Cond.static ({ cls := "PriceLinesLaw", name := "invoice", desc := "(LPriceLines;II[J)I" } : Jvm.MethodName)) ∈ TB := inT3 178 rfl rfl
theorem W3_179 : (Jvm.Cond.codeWith ({ cls := "PriceLinesLaw", name := "invoice", desc := "(LPriceLines;II[J)I" } : Jvm.MethodName) method_12_code (5 : Nat) (Option.some Jvm.ClassFile.FieldType.int) [((0 : Nat), (10 : Nat), (13 : Nat), (13 : Nat)), ((0 : Nat), (10 : Nat), (17 : Nat), (15 : Nat)), ((0 : Nat), (10 : Nat), (21 : Nat), (33 : Nat))]) ∈ TB := inT3 179 rfl rfl
theorem W3_180 : (Jvm.Cond.methodLink "PriceLinesLaw" (49 : Nat) ({ cls := "PriceLines", name := "invoice", desc := "(II)I" } : Jvm.MethodName)) ∈ TB := inT3 180 rfl rfl
theorem W3_181 : (Jvm.Cond.instanceMethod ({ cls := "PriceLines", name := "invoice", desc := "(II)I" } : Jvm.MethodName)) ∈ TB := inT3 181 rfl rfl
theorem W3_182 : (Jvm.Cond.selects "PriceLines" ({ cls := "PriceLines", name := "invoice", desc := "(II)I" } : Jvm.MethodName) ({ cls := "PriceLines", name := "invoice", desc := "(II)I" } : Jvm.MethodName)) ∈ TB := inT3 182 rfl rfl
theorem W3_183 : (Jvm.Cond.code ({ cls := "PriceLines", name := "invoice", desc := "(II)I" } : Jvm.MethodName) prog_1_method_15_code (5 : Nat) (Option.some Jvm.ClassFile.FieldType.int)) ∈ TB := inT3 183 rfl rfl
theorem W3_186 : (Jvm.Cond.methodLink "PriceLines" (179 : Nat) ({ cls := "PriceLines$Invoices", name := "add", desc := "(J)I" } : Jvm.MethodName)) ∈ TB := inT3 186 rfl rfl
theorem W3_187 : (Jvm.Cond.instanceMethod ({ cls := "PriceLines$Invoices", name := "add", desc := "(J)I" } : Jvm.MethodName)) ∈ TB := inT3 187 rfl rfl
theorem W3_188 : (Jvm.Cond.selects "PriceLines$Invoices" ({ cls := "PriceLines$Invoices", name := "add", desc := "(J)I" } : Jvm.MethodName) ({ cls := "PriceLines$Invoices", name := "add", desc := "(J)I" } : Jvm.MethodName)) ∈ TB := inT3 188 rfl rfl
theorem W3_189 : (Jvm.Cond.code ({ cls := "PriceLines$Invoices", name := "add", desc := "(J)I" } : Jvm.MethodName) prog_5_method_2_code (4 : Nat) (Option.some Jvm.ClassFile.FieldType.int)) ∈ TB := inT3 189 rfl rfl
theorem W3_191 : (Jvm.Cond.methodLink "PriceLinesLaw" (124 : Nat) ({ cls := "PriceLinesLaw", name := "left", desc := "(LPriceLines;I[J)I" } : Jvm.MethodName)) ∈ TB := inT3 191 rfl rfl
theorem W3_192 : (Jvm.Cond.static ({ cls := "PriceLinesLaw", name := "left", desc := "(LPriceLines;I[J)I" } : Jvm.MethodName)) ∈ TB := inT3 192 rfl rfl
theorem W3_193 : (Jvm.Cond.codeWith ({ cls := "PriceLinesLaw", name := "left", desc := "(LPriceLines;I[J)I" } : Jvm.MethodName) method_13_code (4 : Nat) (Option.some Jvm.ClassFile.FieldType.int) [((0 : Nat), (8 : Nat), (11 : Nat), (13 : Nat))]) ∈ TB := inT3 193 rfl rfl
theorem W3_194 : (Jvm.Cond.methodLink "PriceLinesLaw" (53 : Nat) ({ cls := "PriceLines", name := "left", desc := "(I)J" } : Jvm.MethodName)) ∈ TB := inT3 194 rfl rfl
theorem W3_195 : (Jvm.Cond.instanceMethod ({ cls := "PriceLines", name := "left", desc := "(I)J" } : Jvm.MethodName)) ∈ TB := inT3 195 rfl rfl
theorem W3_196 : (Jvm.Cond.selects "PriceLines" ({ cls := "PriceLines", name := "left", desc := "(I)J" } : Jvm.MethodName) ({ cls := "PriceLines", name := "left", desc := "(I)J" } : Jvm.MethodName)) ∈ TB := inT3 196 rfl rfl
theorem W3_197 : (Jvm.Cond.code ({ cls := "PriceLines", name := "left", desc := "(I)J" } : Jvm.MethodName) prog_1_method_16_code (2 : Nat) (Option.some Jvm.ClassFile.FieldType.long)) ∈ TB := inT3 197 rfl rfl
theorem W3_198 : (Jvm.Cond.methodLink "PriceLines" (182 : Nat) ({ cls := "PriceLines", name := "requireInvoice", desc := "(I)V" } : Jvm.MethodName)) ∈ TB := inT3 198 rfl rfl
theorem W3_200 : (Jvm.Cond.instanceMethod ({ cls := "PriceLines", name := "requireInvoice", desc := "(I)V" } : Jvm.MethodName)) ∈ TB := inT3 200 rfl rfl
theorem W3_201 : (Jvm.Cond.code ({ cls := "PriceLines", name := "requireInvoice", desc := "(I)V" } : Jvm.MethodName) prog_1_method_24_code (2 : Nat) (Option.none : Option Jvm.ClassFile.FieldType)) ∈ TB := inT3 201 rfl rfl
theorem W3_203 : (Jvm.Cond.methodLink "PriceLines" (185 : Nat) ({ cls := "PriceLines$Invoices", name := "leftOf", desc := "(I)J" } : Jvm.MethodName)) ∈ TB := inT3 203 rfl rfl
theorem W3_204 : (Jvm.Cond.instanceMethod ({ cls := "PriceLines$Invoices", name := "leftOf", desc := "(I)J" } : Jvm.MethodName)) ∈ TB := inT3 204 rfl rfl
theorem W3_205 : (Jvm.Cond.selects "PriceLines$Invoices" ({ cls := "PriceLines$Invoices", name := "leftOf", desc := "(I)J" } : Jvm.MethodName) ({ cls := "PriceLines$Invoices", name := "leftOf", desc := "(I)J" } : Jvm.MethodName)) ∈ TB := inT3 205 rfl rfl
theorem W3_206 : (Jvm.Cond.code ({ cls := "PriceLines$Invoices", name := "leftOf", desc := "(I)J" } : Jvm.MethodName) prog_5_method_3_code (2 : Nat) (Option.some Jvm.ClassFile.FieldType.long)) ∈ TB := inT3 206 rfl rfl
theorem W3_207 : (Jvm.Cond.methodLink "PriceLinesLaw" (127 : Nat) ({ cls := "PriceLinesLaw", name := "refund", desc := "(LPriceLines;II[J)I" } : Jvm.MethodName)) ∈ TB := inT3 207 rfl rfl
theorem W3_208 : (Jvm.Cond.static ({ cls := "PriceLinesLaw", name := "refund", desc := "(LPriceLines;II[J)I" } : Jvm.MethodName)) ∈ TB := inT3 208 rfl rfl
theorem W3_209 : (Jvm.Cond.codeWith ({ cls := "PriceLinesLaw", name := "refund", desc := "(LPriceLines;II[J)I" } : Jvm.MethodName) method_14_code (5 : Nat) (Option.some Jvm.ClassFile.FieldType.int) [((0 : Nat), (17 : Nat), (20 : Nat), (13 : Nat)), ((0 : Nat), (17 : Nat), (24 : Nat), (15 : Nat))]) ∈ TB := inT3 209 rfl rfl
theorem W3_210 : (Jvm.Cond.methodLink "PriceLinesLaw" (56 : Nat) ({ cls := "PriceLines", name := "refund", desc := "(II)Z" } : Jvm.MethodName)) ∈ TB := inT3 210 rfl rfl
theorem W3_211 : (Jvm.Cond.instanceMethod ({ cls := "PriceLines", name := "refund", desc := "(II)Z" } : Jvm.MethodName)) ∈ TB := inT3 211 rfl rfl
theorem W3_212 : (Jvm.Cond.selects "PriceLines" ({ cls := "PriceLines", name := "refund", desc := "(II)Z" } : Jvm.MethodName) ({ cls := "PriceLines", name := "refund", desc := "(II)Z" } : Jvm.MethodName)) ∈ TB := inT3 212 rfl rfl
theorem W3_213 : (Jvm.Cond.code ({ cls := "PriceLines", name := "refund", desc := "(II)Z" } : Jvm.MethodName) prog_1_method_17_code (3 : Nat) (Option.some Jvm.ClassFile.FieldType.boolean)) ∈ TB := inT3 213 rfl rfl
theorem W3_215 : (Jvm.Cond.methodLink "PriceLines" (190 : Nat) ({ cls := "PriceLines$Invoices", name := "takeOff", desc := "(II)Z" } : Jvm.MethodName)) ∈ TB := inT3 215 rfl rfl
theorem W3_216 : (Jvm.Cond.instanceMethod ({ cls := "PriceLines$Invoices", name := "takeOff", desc := "(II)Z" } : Jvm.MethodName)) ∈ TB := inT3 216 rfl rfl
theorem W3_217 : (Jvm.Cond.selects "PriceLines$Invoices" ({ cls := "PriceLines$Invoices", name := "takeOff", desc := "(II)Z" } : Jvm.MethodName) ({ cls := "PriceLines$Invoices", name := "takeOff", desc := "(II)Z" } : Jvm.MethodName)) ∈ TB := inT3 217 rfl rfl
theorem W3_218 : (Jvm.Cond.code ({ cls := "PriceLines$Invoices", name := "takeOff", desc := "(II)Z" } : Jvm.MethodName) prog_5_method_4_code (3 : Nat) (Option.some Jvm.ClassFile.FieldType.boolean)) ∈ TB := inT3 218 rfl rfl
theorem W3_219 : (Jvm.Cond.methodLink "PriceLinesLaw" (130 : Nat) ({ cls := "PriceLinesLaw", name := "learn", desc := "(LPriceLines;II[J)I" } : Jvm.MethodName)) ∈ TB := inT3 219 rfl rfl
theorem W3_220 : (Jvm.Cond.static ({ cls := "PriceLinesLaw", name := "learn", desc := "(LPriceLines;II[J)I" } : Jvm.MethodName)) ∈ TB := inT3 220 rfl rfl
theorem W3_221 : (Jvm.Cond.codeWith ({ cls := "PriceLinesLaw", name := "learn", desc := "(LPriceLines;II[J)I" } : Jvm.MethodName) method_15_code (5 : Nat) (Option.some Jvm.ClassFile.FieldType.int) [((0 : Nat), (10 : Nat), (13 : Nat), (13 : Nat)), ((0 : Nat), (10 : Nat), (17 : Nat), (15 : Nat))]) ∈ TB := inT3 221 rfl rfl
theorem W3_222 : (Jvm.Cond.methodLink "PriceLinesLaw" (60 : Nat) ({ cls := "PriceLines", name := "learn", desc := "(II)I" } : Jvm.MethodName)) ∈ TB := inT3 222 rfl rfl
theorem W3_223 : (Jvm.Cond.instanceMethod ({ cls := "PriceLines", name := "learn", desc := "(II)I" } : Jvm.MethodName)) ∈ TB := inT3 223 rfl rfl
theorem W3_224 : (Jvm.Cond.selects "PriceLines" ({ cls := "PriceLines", name := "learn", desc := "(II)I" } : Jvm.MethodName) ({ cls := "PriceLines", name := "learn", desc := "(II)I" } : Jvm.MethodName)) ∈ TB := inT3 224 rfl rfl
theorem W3_225 : (Jvm.Cond.code ({ cls := "PriceLines", name := "learn", desc := "(II)I" } : Jvm.MethodName) prog_1_method_18_code (3 : Nat) (Option.some Jvm.ClassFile.FieldType.int)) ∈ TB := inT3 225 rfl rfl
theorem W3_227 : (Jvm.Cond.constant "PriceLines" (196 : Nat) (100000 : Int32)) ∈ TB := inT3 227 rfl rfl
theorem W3_229 : (Jvm.Cond.methodLink "PriceLines" (199 : Nat) ({ cls := "PriceLines$Minutes", name := "add", desc := "(II)V" } : Jvm.MethodName)) ∈ TB := inT3 229 rfl rfl
theorem W3_230 : (Jvm.Cond.instanceMethod ({ cls := "PriceLines$Minutes", name := "add", desc := "(II)V" } : Jvm.MethodName)) ∈ TB := inT3 230 rfl rfl
theorem W3_231 : (Jvm.Cond.selects "PriceLines$Minutes" ({ cls := "PriceLines$Minutes", name := "add", desc := "(II)V" } : Jvm.MethodName) ({ cls := "PriceLines$Minutes", name := "add", desc := "(II)V" } : Jvm.MethodName)) ∈ TB := inT3 231 rfl rfl
theorem W3_232 : (Jvm.Cond.code ({ cls := "PriceLines$Minutes", name := "add", desc := "(II)V" } : Jvm.MethodName) prog_6_method_2_code (3 : Nat) (Option.none : Option Jvm.ClassFile.FieldType)) ∈ TB := inT3 232 rfl rfl
theorem W3_234 : (Jvm.Cond.methodLink "PriceLines" (201 : Nat) ({ cls := "PriceLines$Minutes", name := "meanOf", desc := "(I)I" } : Jvm.MethodName)) ∈ TB := inT3 234 rfl rfl
theorem W3_235 : (Jvm.Cond.instanceMethod ({ cls := "PriceLines$Minutes", name := "meanOf", desc := "(I)I" } : Jvm.MethodName)) ∈ TB := inT3 235 rfl rfl
theorem W3_236 : (Jvm.Cond.selects "PriceLines$Minutes" ({ cls := "PriceLines$Minutes", name := "meanOf", desc := "(I)I" } : Jvm.MethodName) ({ cls := "PriceLines$Minutes", name := "meanOf", desc := "(I)I" } : Jvm.MethodName)) ∈ TB := inT3 236 rfl rfl
theorem W3_237 : (Jvm.Cond.code ({ cls := "PriceLines$Minutes", name := "meanOf", desc := "(I)I" } : Jvm.MethodName) prog_6_method_3_code (2 : Nat) (Option.some Jvm.ClassFile.FieldType.int)) ∈ TB := inT3 237 rfl rfl
theorem W3_238 : (Jvm.Cond.classLink "PriceLinesLaw" (64 : Nat) "PriceLinesModel") ∈ TB := inT3 238 rfl rfl
theorem W3_239 : (Jvm.Cond.instantiable "PriceLinesModel" (35 : Nat)) ∈ TB := inT3 239 rfl rfl
theorem W4_0 : (Jvm.Cond.methodLink "PriceLinesLaw" (66 : Nat) ({ cls := "PriceLinesModel", name := "<init>", desc := "()V" } : Jvm.MethodName)) ∈ TB := inT4 0 rfl rfl
theorem W4_1 : (Jvm.Cond.instanceMethod ({ cls := "PriceLinesModel", name := "<init>", desc := "()V" } : Jvm.MethodName)) ∈ TB := inT4 1 rfl rfl
theorem W4_2 : (Jvm.Cond.code ({ cls := "PriceLinesModel", name := "<init>", desc := "()V" } : Jvm.MethodName) prog_12_method_1_code (1 : Nat) (Option.none : Option Jvm.ClassFile.FieldType)) ∈ TB := inT4 2 rfl rfl
theorem W4_3 : (Jvm.Cond.methodLink "PriceLinesModel" (1 : Nat) ({ cls := "java/lang/Object", name := "<init>", desc := "()V" } : Jvm.MethodName)) ∈ TB := inT4 3 rfl rfl
theorem W4_4 : (Jvm.Cond.fieldLink "PriceLinesModel" (78 : Nat) "PriceLinesModel" "thrown" "I") ∈ TB := inT4 4 rfl rfl
theorem W4_5 : (Jvm.Cond.fieldLink "PriceLinesModel" (7 : Nat) "PriceLinesModel" "text" "[I") ∈ TB := inT4 5 rfl rfl
theorem W4_6 : (Jvm.Cond.fieldLink "PriceLinesModel" (90 : Nat) "PriceLinesModel" "size" "I") ∈ TB := inT4 6 rfl rfl
theorem W4_7 : (Jvm.Cond.fieldLink "PriceLinesModel" (13 : Nat) "PriceLinesModel" "signs" "[I") ∈ TB := inT4 7 rfl rfl
theorem W4_8 : (Jvm.Cond.fieldLink "PriceLinesModel" (16 : Nat) "PriceLinesModel" "begins" "[I") ∈ TB := inT4 8 rfl rfl
theorem W4_9 : (Jvm.Cond.fieldLink "PriceLinesModel" (111 : Nat) "PriceLinesModel" "lines" "I") ∈ TB := inT4 9 rfl rfl
theorem W4_10 : (Jvm.Cond.fieldLink "PriceLinesModel" (19 : Nat) "PriceLinesModel" "draft" "[I") ∈ TB := inT4 10 rfl rfl
theorem W4_11 : (Jvm.Cond.fieldLink "PriceLinesModel" (22 : Nat) "PriceLinesModel" "draftBegins" "[I") ∈ TB := inT4 11 rfl rfl
theorem W4_12 : (Jvm.Cond.fieldLink "PriceLinesModel" (25 : Nat) "PriceLinesModel" "above" "[J") ∈ TB := inT4 12 rfl rfl
theorem W4_13 : (Jvm.Cond.fieldLink "PriceLinesModel" (29 : Nat) "PriceLinesModel" "below" "[J") ∈ TB := inT4 13 rfl rfl
theorem W4_14 : (Jvm.Cond.fieldLink "PriceLinesModel" (32 : Nat) "PriceLinesModel" "told" "[Z") ∈ TB := inT4 14 rfl rfl
theorem W4_15 : (Jvm.Cond.fieldLink "PriceLinesModel" (36 : Nat) "PriceLinesModel" "tops" "[J") ∈ TB := inT4 15 rfl rfl
theorem W4_16 : (Jvm.Cond.fieldLink "PriceLinesModel" (39 : Nat) "PriceLinesModel" "bottoms" "[J") ∈ TB := inT4 16 rfl rfl
theorem W4_17 : (Jvm.Cond.fieldLink "PriceLinesModel" (130 : Nat) "PriceLinesModel" "high" "I") ∈ TB := inT4 17 rfl rfl
theorem W4_18 : (Jvm.Cond.fieldLink "PriceLinesModel" (150 : Nat) "PriceLinesModel" "totalTop" "J") ∈ TB := inT4 18 rfl rfl
theorem W4_19 : (Jvm.Cond.fieldLink "PriceLinesModel" (153 : Nat) "PriceLinesModel" "totalBottom" "J") ∈ TB := inT4 19 rfl rfl
theorem W4_20 : (Jvm.Cond.fieldLink "PriceLinesModel" (42 : Nat) "PriceLinesModel" "addedTop" "[J") ∈ TB := inT4 20 rfl rfl
theorem W4_21 : (Jvm.Cond.fieldLink "PriceLinesModel" (45 : Nat) "PriceLinesModel" "addedBottom" "[J") ∈ TB := inT4 21 rfl rfl
theorem W4_22 : (Jvm.Cond.fieldLink "PriceLinesModel" (48 : Nat) "PriceLinesModel" "reasons" "[I") ∈ TB := inT4 22 rfl rfl
theorem W4_23 : (Jvm.Cond.fieldLink "PriceLinesModel" (51 : Nat) "PriceLinesModel" "places" "[I") ∈ TB := inT4 23 rfl rfl
theorem W4_24 : (Jvm.Cond.fieldLink "PriceLinesModel" (117 : Nat) "PriceLinesModel" "top" "J") ∈ TB := inT4 24 rfl rfl
theorem W4_25 : (Jvm.Cond.fieldLink "PriceLinesModel" (121 : Nat) "PriceLinesModel" "bottom" "J") ∈ TB := inT4 25 rfl rfl
theorem W4_26 : (Jvm.Cond.fieldLink "PriceLinesModel" (195 : Nat) "PriceLinesModel" "rows" "I") ∈ TB := inT4 26 rfl rfl
theorem W4_27 : (Jvm.Cond.fieldLink "PriceLinesModel" (54 : Nat) "PriceLinesModel" "days" "[I") ∈ TB := inT4 27 rfl rfl
theorem W4_28 : (Jvm.Cond.fieldLink "PriceLinesModel" (57 : Nat) "PriceLinesModel" "rowAbove" "[I") ∈ TB := inT4 28 rfl rfl
theorem W4_29 : (Jvm.Cond.fieldLink "PriceLinesModel" (60 : Nat) "PriceLinesModel" "rowBelow" "[I") ∈ TB := inT4 29 rfl rfl
theorem W4_30 : (Jvm.Cond.fieldLink "PriceLinesModel" (204 : Nat) "PriceLinesModel" "offers" "I") ∈ TB := inT4 30 rfl rfl
theorem W4_31 : (Jvm.Cond.fieldLink "PriceLinesModel" (63 : Nat) "PriceLinesModel" "offerCents" "[J") ∈ TB := inT4 31 rfl rfl
theorem W4_32 : (Jvm.Cond.fieldLink "PriceLinesModel" (66 : Nat) "PriceLinesModel" "untils" "[I") ∈ TB := inT4 32 rfl rfl
theorem W4_33 : (Jvm.Cond.fieldLink "PriceLinesModel" (213 : Nat) "PriceLinesModel" "invoices" "I") ∈ TB := inT4 33 rfl rfl
theorem W4_34 : (Jvm.Cond.fieldLink "PriceLinesModel" (69 : Nat) "PriceLinesModel" "lefts" "[J") ∈ TB := inT4 34 rfl rfl
theorem W4_35 : (Jvm.Cond.fieldLink "PriceLinesModel" (72 : Nat) "PriceLinesModel" "many" "[J") ∈ TB := inT4 35 rfl rfl
theorem W4_36 : (Jvm.Cond.fieldLink "PriceLinesModel" (75 : Nat) "PriceLinesModel" "sums" "[J") ∈ TB := inT4 36 rfl rfl
theorem W4_37 : (Jvm.Cond.fieldLink "PriceLinesModel" (104 : Nat) "PriceLinesModel" "draftLines" "I") ∈ TB := inT4 37 rfl rfl
theorem W4_38 : (Jvm.Cond.lays "PriceLinesModel" "PriceLinesModel" "thrown" "I") ∈ TB := inT4 38 rfl rfl
theorem W4_40 : (Jvm.Cond.laysFinal "PriceLinesModel" "PriceLinesModel" "text" "[I") ∈ TB := inT4 40 rfl rfl
theorem W4_42 : (Jvm.Cond.lays "PriceLinesModel" "PriceLinesModel" "size" "I") ∈ TB := inT4 42 rfl rfl
theorem W4_44 : (Jvm.Cond.laysFinal "PriceLinesModel" "PriceLinesModel" "signs" "[I") ∈ TB := inT4 44 rfl rfl
theorem W4_46 : (Jvm.Cond.laysFinal "PriceLinesModel" "PriceLinesModel" "begins" "[I") ∈ TB := inT4 46 rfl rfl
theorem W4_48 : (Jvm.Cond.lays "PriceLinesModel" "PriceLinesModel" "lines" "I") ∈ TB := inT4 48 rfl rfl
theorem W4_50 : (Jvm.Cond.laysFinal "PriceLinesModel" "PriceLinesModel" "draft" "[I") ∈ TB := inT4 50 rfl rfl
theorem W4_52 : (Jvm.Cond.laysFinal "PriceLinesModel" "PriceLinesModel" "draftBegins" "[I") ∈ TB := inT4 52 rfl rfl
theorem W4_54 : (Jvm.Cond.laysFinal "PriceLinesModel" "PriceLinesModel" "above" "[J") ∈ TB := inT4 54 rfl rfl
theorem W4_56 : (Jvm.Cond.laysFinal "PriceLinesModel" "PriceLinesModel" "below" "[J") ∈ TB := inT4 56 rfl rfl
theorem W4_58 : (Jvm.Cond.laysFinal "PriceLinesModel" "PriceLinesModel" "told" "[Z") ∈ TB := inT4 58 rfl rfl
theorem W4_60 : (Jvm.Cond.laysFinal "PriceLinesModel" "PriceLinesModel" "tops" "[J") ∈ TB := inT4 60 rfl rfl
theorem W4_62 : (Jvm.Cond.laysFinal "PriceLinesModel" "PriceLinesModel" "bottoms" "[J") ∈ TB := inT4 62 rfl rfl
theorem W4_64 : (Jvm.Cond.lays "PriceLinesModel" "PriceLinesModel" "high" "I") ∈ TB := inT4 64 rfl rfl
theorem W4_66 : (Jvm.Cond.lays "PriceLinesModel" "PriceLinesModel" "totalTop" "J") ∈ TB := inT4 66 rfl rfl
theorem W4_68 : (Jvm.Cond.lays "PriceLinesModel" "PriceLinesModel" "totalBottom" "J") ∈ TB := inT4 68 rfl rfl
theorem W4_70 : (Jvm.Cond.lays "PriceLinesModel" "PriceLinesModel" "reason" "I") ∈ TB := inT4 70 rfl rfl
theorem W4_72 : (Jvm.Cond.laysFinal "PriceLinesModel" "PriceLinesModel" "addedTop" "[J") ∈ TB := inT4 72 rfl rfl
theorem W4_74 : (Jvm.Cond.laysFinal "PriceLinesModel" "PriceLinesModel" "addedBottom" "[J") ∈ TB := inT4 74 rfl rfl
theorem W4_76 : (Jvm.Cond.laysFinal "PriceLinesModel" "PriceLinesModel" "reasons" "[I") ∈ TB := inT4 76 rfl rfl
theorem W4_78 : (Jvm.Cond.laysFinal "PriceLinesModel" "PriceLinesModel" "places" "[I") ∈ TB := inT4 78 rfl rfl
theorem W4_80 : (Jvm.Cond.lays "PriceLinesModel" "PriceLinesModel" "top" "J") ∈ TB := inT4 80 rfl rfl
theorem W4_82 : (Jvm.Cond.lays "PriceLinesModel" "PriceLinesModel" "bottom" "J") ∈ TB := inT4 82 rfl rfl
theorem W4_84 : (Jvm.Cond.lays "PriceLinesModel" "PriceLinesModel" "rows" "I") ∈ TB := inT4 84 rfl rfl
theorem W4_86 : (Jvm.Cond.laysFinal "PriceLinesModel" "PriceLinesModel" "days" "[I") ∈ TB := inT4 86 rfl rfl
theorem W4_88 : (Jvm.Cond.laysFinal "PriceLinesModel" "PriceLinesModel" "rowAbove" "[I") ∈ TB := inT4 88 rfl rfl
theorem W4_90 : (Jvm.Cond.laysFinal "PriceLinesModel" "PriceLinesModel" "rowBelow" "[I") ∈ TB := inT4 90 rfl rfl
theorem W4_92 : (Jvm.Cond.lays "PriceLinesModel" "PriceLinesModel" "offers" "I") ∈ TB := inT4 92 rfl rfl
theorem W4_94 : (Jvm.Cond.laysFinal "PriceLinesModel" "PriceLinesModel" "offerCents" "[J") ∈ TB := inT4 94 rfl rfl
theorem W4_96 : (Jvm.Cond.laysFinal "PriceLinesModel" "PriceLinesModel" "untils" "[I") ∈ TB := inT4 96 rfl rfl
theorem W4_98 : (Jvm.Cond.lays "PriceLinesModel" "PriceLinesModel" "invoices" "I") ∈ TB := inT4 98 rfl rfl
theorem W4_100 : (Jvm.Cond.laysFinal "PriceLinesModel" "PriceLinesModel" "lefts" "[J") ∈ TB := inT4 100 rfl rfl
theorem W4_102 : (Jvm.Cond.laysFinal "PriceLinesModel" "PriceLinesModel" "many" "[J") ∈ TB := inT4 102 rfl rfl
theorem W4_104 : (Jvm.Cond.laysFinal "PriceLinesModel" "PriceLinesModel" "sums" "[J") ∈ TB := inT4 104 rfl rfl
theorem W4_106 : (Jvm.Cond.lays "PriceLinesModel" "PriceLinesModel" "draftLines" "I") ∈ TB := inT4 106 rfl rfl
theorem W4_109 : (Jvm.Cond.arrayClass Jvm.ClassFile.FieldType.boolean) ∈ TB := inT4 109 rfl rfl
theorem W4_110 : (Jvm.Cond.methodLink "PriceLinesLaw" (82 : Nat) ({ cls := "PriceLinesModel", name := "thrown", desc := "()I" } : Jvm.MethodName)) ∈ TB := inT4 110 rfl rfl
theorem W4_111 : (Jvm.Cond.instanceMethod ({ cls := "PriceLinesModel", name := "thrown", desc := "()I" } : Jvm.MethodName)) ∈ TB := inT4 111 rfl rfl
theorem W4_112 : (Jvm.Cond.selects "PriceLinesModel" ({ cls := "PriceLinesModel", name := "thrown", desc := "()I" } : Jvm.MethodName) ({ cls := "PriceLinesModel", name := "thrown", desc := "()I" } : Jvm.MethodName)) ∈ TB := inT4 112 rfl rfl
theorem W4_113 : (Jvm.Cond.code ({ cls := "PriceLinesModel", name := "thrown", desc := "()I" } : Jvm.MethodName) prog_12_method_2_code (1 : Nat) (Option.some Jvm.ClassFile.FieldType.int)) ∈ TB := inT4 113 rfl rfl
theorem W4_114 : (Jvm.Cond.methodLink "PriceLinesLaw" (70 : Nat) ({ cls := "PriceLinesModel", name := "unit", desc := "(I)Z" } : Jvm.MethodName)) ∈ TB := inT4 114 rfl rfl
theorem W4_115 : (Jvm.Cond.instanceMethod ({ cls := "PriceLinesModel", name := "unit", desc := "(I)Z" } : Jvm.MethodName)) ∈ TB := inT4 115 rfl rfl
theorem W4_116 : (Jvm.Cond.selects "PriceLinesModel" ({ cls := "PriceLinesModel", name := "unit", desc := "(I)Z" } : Jvm.MethodName) ({ cls := "PriceLinesModel", name := "unit", desc := "(I)Z" } : Jvm.MethodName)) ∈ TB := inT4 116 rfl rfl
theorem W4_117 : (Jvm.Cond.code ({ cls := "PriceLinesModel", name := "unit", desc := "(I)Z" } : Jvm.MethodName) prog_12_method_4_code (3 : Nat) (Option.some Jvm.ClassFile.FieldType.boolean)) ∈ TB := inT4 117 rfl rfl
theorem W4_118 : (Jvm.Cond.constantLong "PriceLinesModel" (82 : Nat) (32 : Int64)) ∈ TB := inT4 118 rfl rfl
theorem W4_119 : (Jvm.Cond.constantLong "PriceLinesModel" (84 : Nat) (126 : Int64)) ∈ TB := inT4 119 rfl rfl
theorem W4_120 : (Jvm.Cond.methodLink "PriceLinesModel" (86 : Nat) ({ cls := "PriceLinesModel", name := "isIn", desc := "(JJJ)Z" } : Jvm.MethodName)) ∈ TB := inT4 120 rfl rfl
theorem W4_121 : (Jvm.Cond.static ({ cls := "PriceLinesModel", name := "isIn", desc := "(JJJ)Z" } : Jvm.MethodName)) ∈ TB := inT4 121 rfl rfl
theorem W4_122 : (Jvm.Cond.code ({ cls := "PriceLinesModel", name := "isIn", desc := "(JJJ)Z" } : Jvm.MethodName) prog_12_method_3_code (6 : Nat) (Option.some Jvm.ClassFile.FieldType.boolean)) ∈ TB := inT4 122 rfl rfl
theorem W4_123 : (Jvm.Cond.methodLink "PriceLinesLaw" (75 : Nat) ({ cls := "PriceLinesModel", name := "read", desc := "()I" } : Jvm.MethodName)) ∈ TB := inT4 123 rfl rfl
theorem W4_124 : (Jvm.Cond.instanceMethod ({ cls := "PriceLinesModel", name := "read", desc := "()I" } : Jvm.MethodName)) ∈ TB := inT4 124 rfl rfl
theorem W4_125 : (Jvm.Cond.selects "PriceLinesModel" ({ cls := "PriceLinesModel", name := "read", desc := "()I" } : Jvm.MethodName) ({ cls := "PriceLinesModel", name := "read", desc := "()I" } : Jvm.MethodName)) ∈ TB := inT4 125 rfl rfl
theorem W4_126 : (Jvm.Cond.code ({ cls := "PriceLinesModel", name := "read", desc := "()I" } : Jvm.MethodName) prog_12_method_9_code (3 : Nat) (Option.some Jvm.ClassFile.FieldType.int)) ∈ TB := inT4 126 rfl rfl
theorem W4_127 : (Jvm.Cond.methodLink "PriceLinesModel" (107 : Nat) ({ cls := "PriceLinesModel", name := "fault", desc := "()I" } : Jvm.MethodName)) ∈ TB := inT4 127 rfl rfl
theorem W4_129 : (Jvm.Cond.instanceMethod ({ cls := "PriceLinesModel", name := "fault", desc := "()I" } : Jvm.MethodName)) ∈ TB := inT4 129 rfl rfl
theorem W4_130 : (Jvm.Cond.code ({ cls := "PriceLinesModel", name := "fault", desc := "()I" } : Jvm.MethodName) prog_12_method_8_code (10 : Nat) (Option.some Jvm.ClassFile.FieldType.int)) ∈ TB := inT4 130 rfl rfl
theorem W4_131 : (Jvm.Cond.methodLink "PriceLinesModel" (93 : Nat) ({ cls := "PriceLinesModel", name := "isDigit", desc := "(I)Z" } : Jvm.MethodName)) ∈ TB := inT4 131 rfl rfl
theorem W4_132 : (Jvm.Cond.static ({ cls := "PriceLinesModel", name := "isDigit", desc := "(I)Z" } : Jvm.MethodName)) ∈ TB := inT4 132 rfl rfl
theorem W4_133 : (Jvm.Cond.code ({ cls := "PriceLinesModel", name := "isDigit", desc := "(I)Z" } : Jvm.MethodName) prog_12_method_5_code (1 : Nat) (Option.some Jvm.ClassFile.FieldType.boolean)) ∈ TB := inT4 133 rfl rfl
theorem W4_134 : (Jvm.Cond.methodLink "PriceLinesModel" (97 : Nat) ({ cls := "PriceLinesModel", name := "isTwo", desc := "(I)Z" } : Jvm.MethodName)) ∈ TB := inT4 134 rfl rfl
theorem W4_135 : (Jvm.Cond.static ({ cls := "PriceLinesModel", name := "isTwo", desc := "(I)Z" } : Jvm.MethodName)) ∈ TB := inT4 135 rfl rfl
theorem W4_136 : (Jvm.Cond.code ({ cls := "PriceLinesModel", name := "isTwo", desc := "(I)Z" } : Jvm.MethodName) prog_12_method_6_code (1 : Nat) (Option.some Jvm.ClassFile.FieldType.boolean)) ∈ TB := inT4 136 rfl rfl
theorem W4_137 : (Jvm.Cond.methodLink "PriceLinesModel" (100 : Nat) ({ cls := "PriceLinesModel", name := "isEnd", desc := "(I)Z" } : Jvm.MethodName)) ∈ TB := inT4 137 rfl rfl
theorem W4_138 : (Jvm.Cond.static ({ cls := "PriceLinesModel", name := "isEnd", desc := "(I)Z" } : Jvm.MethodName)) ∈ TB := inT4 138 rfl rfl
theorem W4_139 : (Jvm.Cond.code ({ cls := "PriceLinesModel", name := "isEnd", desc := "(I)Z" } : Jvm.MethodName) prog_12_method_7_code (1 : Nat) (Option.some Jvm.ClassFile.FieldType.boolean)) ∈ TB := inT4 139 rfl rfl
theorem W4_140 : (Jvm.Cond.constant "PriceLinesModel" (103 : Nat) (100000 : Int32)) ∈ TB := inT4 140 rfl rfl
theorem W4_141 : (Jvm.Cond.methodLink "PriceLinesLaw" (81 : Nat) ({ cls := "PriceLinesModel", name := "fact", desc := "(III)V" } : Jvm.MethodName)) ∈ TB := inT4 141 rfl rfl
theorem W4_142 : (Jvm.Cond.instanceMethod ({ cls := "PriceLinesModel", name := "fact", desc := "(III)V" } : Jvm.MethodName)) ∈ TB := inT4 142 rfl rfl
theorem W4_143 : (Jvm.Cond.selects "PriceLinesModel" ({ cls := "PriceLinesModel", name := "fact", desc := "(III)V" } : Jvm.MethodName) ({ cls := "PriceLinesModel", name := "fact", desc := "(III)V" } : Jvm.MethodName)) ∈ TB := inT4 143 rfl rfl
theorem W4_144 : (Jvm.Cond.code ({ cls := "PriceLinesModel", name := "fact", desc := "(III)V" } : Jvm.MethodName) prog_12_method_24_code (4 : Nat) (Option.none : Option Jvm.ClassFile.FieldType)) ∈ TB := inT4 144 rfl rfl
theorem W4_145 : (Jvm.Cond.methodLink "PriceLinesModel" (181 : Nat) ({ cls := "PriceLinesModel", name := "factFault", desc := "(III)I" } : Jvm.MethodName)) ∈ TB := inT4 145 rfl rfl
theorem W4_147 : (Jvm.Cond.instanceMethod ({ cls := "PriceLinesModel", name := "factFault", desc := "(III)I" } : Jvm.MethodName)) ∈ TB := inT4 147 rfl rfl
theorem W4_148 : (Jvm.Cond.code ({ cls := "PriceLinesModel", name := "factFault", desc := "(III)I" } : Jvm.MethodName) prog_12_method_22_code (4 : Nat) (Option.some Jvm.ClassFile.FieldType.int)) ∈ TB := inT4 148 rfl rfl
theorem W4_149 : (Jvm.Cond.methodLink "PriceLinesModel" (172 : Nat) ({ cls := "PriceLinesModel", name := "noFact", desc := "(I)Z" } : Jvm.MethodName)) ∈ TB := inT4 149 rfl rfl
theorem W4_150 : (Jvm.Cond.static ({ cls := "PriceLinesModel", name := "noFact", desc := "(I)Z" } : Jvm.MethodName)) ∈ TB := inT4 150 rfl rfl
theorem W4_151 : (Jvm.Cond.code ({ cls := "PriceLinesModel", name := "noFact", desc := "(I)Z" } : Jvm.MethodName) prog_12_method_21_code (1 : Nat) (Option.some Jvm.ClassFile.FieldType.boolean)) ∈ TB := inT4 151 rfl rfl
theorem W4_152 : (Jvm.Cond.constantLong "PriceLinesModel" (175 : Nat) (10000 : Int64)) ∈ TB := inT4 152 rfl rfl
theorem W4_153 : (Jvm.Cond.constantLong "PriceLinesModel" (177 : Nat) (-1000000 : Int64)) ∈ TB := inT4 153 rfl rfl
theorem W4_154 : (Jvm.Cond.constantLong "PriceLinesModel" (179 : Nat) (1000000 : Int64)) ∈ TB := inT4 154 rfl rfl
theorem W4_155 : (Jvm.Cond.methodLink "PriceLinesModel" (185 : Nat) ({ cls := "PriceLinesModel", name := "setFact", desc := "(III)V" } : Jvm.MethodName)) ∈ TB := inT4 155 rfl rfl
theorem W4_157 : (Jvm.Cond.instanceMethod ({ cls := "PriceLinesModel", name := "setFact", desc := "(III)V" } : Jvm.MethodName)) ∈ TB := inT4 157 rfl rfl
theorem W4_158 : (Jvm.Cond.code ({ cls := "PriceLinesModel", name := "setFact", desc := "(III)V" } : Jvm.MethodName) prog_12_method_23_code (5 : Nat) (Option.none : Option Jvm.ClassFile.FieldType)) ∈ TB := inT4 158 rfl rfl
theorem W4_159 : (Jvm.Cond.methodLink "PriceLinesModel" (126 : Nat) ({ cls := "PriceLinesModel", name := "make", desc := "(JJ)Z" } : Jvm.MethodName)) ∈ TB := inT4 159 rfl rfl
theorem W4_161 : (Jvm.Cond.instanceMethod ({ cls := "PriceLinesModel", name := "make", desc := "(JJ)Z" } : Jvm.MethodName)) ∈ TB := inT4 161 rfl rfl
theorem W4_162 : (Jvm.Cond.code ({ cls := "PriceLinesModel", name := "make", desc := "(JJ)Z" } : Jvm.MethodName) prog_12_method_11_code (11 : Nat) (Option.some Jvm.ClassFile.FieldType.boolean)) ∈ TB := inT4 162 rfl rfl
theorem W4_163 : (Jvm.Cond.methodLink "PriceLinesModel" (114 : Nat) ({ cls := "PriceLinesModel", name := "size", desc := "(J)J" } : Jvm.MethodName)) ∈ TB := inT4 163 rfl rfl
theorem W4_164 : (Jvm.Cond.static ({ cls := "PriceLinesModel", name := "size", desc := "(J)J" } : Jvm.MethodName)) ∈ TB := inT4 164 rfl rfl
theorem W4_165 : (Jvm.Cond.code ({ cls := "PriceLinesModel", name := "size", desc := "(J)J" } : Jvm.MethodName) prog_12_method_10_code (2 : Nat) (Option.some Jvm.ClassFile.FieldType.long)) ∈ TB := inT4 165 rfl rfl
theorem W4_166 : (Jvm.Cond.constantLong "PriceLinesModel" (124 : Nat) (1000000000 : Int64)) ∈ TB := inT4 166 rfl rfl
theorem W4_167 : (Jvm.Cond.methodLink "PriceLinesLaw" (88 : Nat) ({ cls := "PriceLinesModel", name := "forget", desc := "(I)Z" } : Jvm.MethodName)) ∈ TB := inT4 167 rfl rfl
theorem W4_168 : (Jvm.Cond.instanceMethod ({ cls := "PriceLinesModel", name := "forget", desc := "(I)Z" } : Jvm.MethodName)) ∈ TB := inT4 168 rfl rfl
theorem W4_169 : (Jvm.Cond.selects "PriceLinesModel" ({ cls := "PriceLinesModel", name := "forget", desc := "(I)Z" } : Jvm.MethodName) ({ cls := "PriceLinesModel", name := "forget", desc := "(I)Z" } : Jvm.MethodName)) ∈ TB := inT4 169 rfl rfl
theorem W4_170 : (Jvm.Cond.code ({ cls := "PriceLinesModel", name := "forget", desc := "(I)Z" } : Jvm.MethodName) prog_12_method_25_code (3 : Nat) (Option.some Jvm.ClassFile.FieldType.boolean)) ∈ TB := inT4 170 rfl rfl
theorem W4_171 : (Jvm.Cond.methodLink "PriceLinesLaw" (92 : Nat) ({ cls := "PriceLinesModel", name := "run", desc := "()I" } : Jvm.MethodName)) ∈ TB := inT4 171 rfl rfl
theorem W4_172 : (Jvm.Cond.instanceMethod ({ cls := "PriceLinesModel", name := "run", desc := "()I" } : Jvm.MethodName)) ∈ TB := inT4 172 rfl rfl
theorem W4_173 : (Jvm.Cond.selects "PriceLinesModel" ({ cls := "PriceLinesModel", name := "run", desc := "()I" } : Jvm.MethodName) ({ cls := "PriceLinesModel", name := "run", desc := "()I" } : Jvm.MethodName)) ∈ TB := inT4 173 rfl rfl
theorem W4_174 : (Jvm.Cond.code ({ cls := "PriceLinesModel", name := "run", desc := "()I" } : Jvm.MethodName) prog_12_method_26_code (3 : Nat) (Option.some Jvm.ClassFile.FieldType.int)) ∈ TB := inT4 174 rfl rfl
theorem W4_175 : (Jvm.Cond.methodLink "PriceLinesModel" (169 : Nat) ({ cls := "PriceLinesModel", name := "reckon", desc := "()V" } : Jvm.MethodName)) ∈ TB := inT4 175 rfl rfl
theorem W4_177 : (Jvm.Cond.instanceMethod ({ cls := "PriceLinesModel", name := "reckon", desc := "()V" } : Jvm.MethodName)) ∈ TB := inT4 177 rfl rfl
theorem W4_178 : (Jvm.Cond.code ({ cls := "PriceLinesModel", name := "reckon", desc := "()V" } : Jvm.MethodName) prog_12_method_19_code (3 : Nat) (Option.none : Option Jvm.ClassFile.FieldType)) ∈ TB := inT4 178 rfl rfl
theorem W4_179 : (Jvm.Cond.methodLink "PriceLinesModel" (166 : Nat) ({ cls := "PriceLinesModel", name := "step", desc := "(I)I" } : Jvm.MethodName)) ∈ TB := inT4 179 rfl rfl
theorem W4_181 : (Jvm.Cond.instanceMethod ({ cls := "PriceLinesModel", name := "step", desc := "(I)I" } : Jvm.MethodName)) ∈ TB := inT4 181 rfl rfl
theorem W4_182 : (Jvm.Cond.code ({ cls := "PriceLinesModel", name := "step", desc := "(I)I" } : Jvm.MethodName) prog_12_method_18_code (3 : Nat) (Option.some Jvm.ClassFile.FieldType.int)) ∈ TB := inT4 182 rfl rfl
theorem W4_183 : (Jvm.Cond.methodLink "PriceLinesModel" (137 : Nat) ({ cls := "PriceLinesModel", name := "lay", desc := "()V" } : Jvm.MethodName)) ∈ TB := inT4 183 rfl rfl
theorem W4_185 : (Jvm.Cond.instanceMethod ({ cls := "PriceLinesModel", name := "lay", desc := "()V" } : Jvm.MethodName)) ∈ TB := inT4 185 rfl rfl
theorem W4_186 : (Jvm.Cond.code ({ cls := "PriceLinesModel", name := "lay", desc := "()V" } : Jvm.MethodName) prog_12_method_14_code (1 : Nat) (Option.none : Option Jvm.ClassFile.FieldType)) ∈ TB := inT4 186 rfl rfl
theorem W4_187 : (Jvm.Cond.methodLink "PriceLinesModel" (156 : Nat) ({ cls := "PriceLinesModel", name := "two", desc := "(I)I" } : Jvm.MethodName)) ∈ TB := inT4 187 rfl rfl
theorem W4_189 : (Jvm.Cond.instanceMethod ({ cls := "PriceLinesModel", name := "two", desc := "(I)I" } : Jvm.MethodName)) ∈ TB := inT4 189 rfl rfl
theorem W4_190 : (Jvm.Cond.code ({ cls := "PriceLinesModel", name := "two", desc := "(I)I" } : Jvm.MethodName) prog_12_method_13_code (12 : Nat) (Option.some Jvm.ClassFile.FieldType.int)) ∈ TB := inT4 190 rfl rfl
theorem W4_191 : (Jvm.Cond.methodLink "PriceLinesModel" (133 : Nat) ({ cls := "PriceLinesModel", name := "add", desc := "(JJJJ)Z" } : Jvm.MethodName)) ∈ TB := inT4 191 rfl rfl
theorem W4_193 : (Jvm.Cond.instanceMethod ({ cls := "PriceLinesModel", name := "add", desc := "(JJJJ)Z" } : Jvm.MethodName)) ∈ TB := inT4 193 rfl rfl
theorem W4_194 : (Jvm.Cond.code ({ cls := "PriceLinesModel", name := "add", desc := "(JJJJ)Z" } : Jvm.MethodName) prog_12_method_12_code (9 : Nat) (Option.some Jvm.ClassFile.FieldType.boolean)) ∈ TB := inT4 194 rfl rfl
theorem W4_195 : (Jvm.Cond.methodLink "PriceLinesModel" (160 : Nat) ({ cls := "PriceLinesModel", name := "round", desc := "()I" } : Jvm.MethodName)) ∈ TB := inT4 195 rfl rfl
theorem W4_197 : (Jvm.Cond.instanceMethod ({ cls := "PriceLinesModel", name := "round", desc := "()I" } : Jvm.MethodName)) ∈ TB := inT4 197 rfl rfl
theorem W4_198 : (Jvm.Cond.code ({ cls := "PriceLinesModel", name := "round", desc := "()I" } : Jvm.MethodName) prog_12_method_16_code (3 : Nat) (Option.some Jvm.ClassFile.FieldType.int)) ∈ TB := inT4 198 rfl rfl
theorem W4_199 : (Jvm.Cond.constantLong "PriceLinesModel" (140 : Nat) (200 : Int64)) ∈ TB := inT4 199 rfl rfl
theorem W4_200 : (Jvm.Cond.constantLong "PriceLinesModel" (142 : Nat) (2 : Int64)) ∈ TB := inT4 200 rfl rfl
theorem W4_201 : (Jvm.Cond.methodLink "PriceLinesModel" (144 : Nat) ({ cls := "PriceLinesModel", name := "floor", desc := "(JJ)J" } : Jvm.MethodName)) ∈ TB := inT4 201 rfl rfl
theorem W4_202 : (Jvm.Cond.static ({ cls := "PriceLinesModel", name := "floor", desc := "(JJ)J" } : Jvm.MethodName)) ∈ TB := inT4 202 rfl rfl
theorem W4_203 : (Jvm.Cond.code ({ cls := "PriceLinesModel", name := "floor", desc := "(JJ)J" } : Jvm.MethodName) prog_12_method_15_code (6 : Nat) (Option.some Jvm.ClassFile.FieldType.long)) ∈ TB := inT4 203 rfl rfl
theorem W4_204 : (Jvm.Cond.constantLong "PriceLinesModel" (148 : Nat) (100 : Int64)) ∈ TB := inT4 204 rfl rfl
theorem W4_205 : (Jvm.Cond.methodLink "PriceLinesModel" (163 : Nat) ({ cls := "PriceLinesModel", name := "end", desc := "(I)I" } : Jvm.MethodName)) ∈ TB := inT4 205 rfl rfl
theorem W4_207 : (Jvm.Cond.instanceMethod ({ cls := "PriceLinesModel", name := "end", desc := "(I)I" } : Jvm.MethodName)) ∈ TB := inT4 207 rfl rfl
theorem W4_208 : (Jvm.Cond.code ({ cls := "PriceLinesModel", name := "end", desc := "(I)I" } : Jvm.MethodName) prog_12_method_17_code (11 : Nat) (Option.some Jvm.ClassFile.FieldType.int)) ∈ TB := inT4 208 rfl rfl
theorem W4_209 : (Jvm.Cond.methodLink "PriceLinesLaw" (97 : Nat) ({ cls := "PriceLinesModel", name := "cents", desc := "()J" } : Jvm.MethodName)) ∈ TB := inT4 209 rfl rfl
theorem W4_210 : (Jvm.Cond.instanceMethod ({ cls := "PriceLinesModel", name := "cents", desc := "()J" } : Jvm.MethodName)) ∈ TB := inT4 210 rfl rfl
theorem W4_211 : (Jvm.Cond.selects "PriceLinesModel" ({ cls := "PriceLinesModel", name := "cents", desc := "()J" } : Jvm.MethodName) ({ cls := "PriceLinesModel", name := "cents", desc := "()J" } : Jvm.MethodName)) ∈ TB := inT4 211 rfl rfl
theorem W4_212 : (Jvm.Cond.code ({ cls := "PriceLinesModel", name := "cents", desc := "()J" } : Jvm.MethodName) prog_12_method_27_code (1 : Nat) (Option.some Jvm.ClassFile.FieldType.long)) ∈ TB := inT4 212 rfl rfl
theorem W4_213 : (Jvm.Cond.methodLink "PriceLinesModel" (189 : Nat) ({ cls := "PriceLinesModel", name := "centsNow", desc := "()J" } : Jvm.MethodName)) ∈ TB := inT4 213 rfl rfl
theorem W4_215 : (Jvm.Cond.instanceMethod ({ cls := "PriceLinesModel", name := "centsNow", desc := "()J" } : Jvm.MethodName)) ∈ TB := inT4 215 rfl rfl
theorem W4_216 : (Jvm.Cond.code ({ cls := "PriceLinesModel", name := "centsNow", desc := "()J" } : Jvm.MethodName) prog_12_method_20_code (1 : Nat) (Option.some Jvm.ClassFile.FieldType.long)) ∈ TB := inT4 216 rfl rfl
theorem W4_217 : (Jvm.Cond.methodLink "PriceLinesLaw" (101 : Nat) ({ cls := "PriceLinesModel", name := "line", desc := "(II)J" } : Jvm.MethodName)) ∈ TB := inT4 217 rfl rfl
theorem W4_218 : (Jvm.Cond.instanceMethod ({ cls := "PriceLinesModel", name := "line", desc := "(II)J" } : Jvm.MethodName)) ∈ TB := inT4 218 rfl rfl
theorem W4_219 : (Jvm.Cond.selects "PriceLinesModel" ({ cls := "PriceLinesModel", name := "line", desc := "(II)J" } : Jvm.MethodName) ({ cls := "PriceLinesModel", name := "line", desc := "(II)J" } : Jvm.MethodName)) ∈ TB := inT4 219 rfl rfl
theorem W4_220 : (Jvm.Cond.code ({ cls := "PriceLinesModel", name := "line", desc := "(II)J" } : Jvm.MethodName) prog_12_method_28_code (3 : Nat) (Option.some Jvm.ClassFile.FieldType.long)) ∈ TB := inT4 220 rfl rfl
theorem W4_221 : (Jvm.Cond.constantLong "PriceLinesModel" (193 : Nat) (3 : Int64)) ∈ TB := inT4 221 rfl rfl
theorem W4_222 : (Jvm.Cond.methodLink "PriceLinesLaw" (105 : Nat) ({ cls := "PriceLinesModel", name := "changed", desc := "(III)J" } : Jvm.MethodName)) ∈ TB := inT4 222 rfl rfl
theorem W4_223 : (Jvm.Cond.instanceMethod ({ cls := "PriceLinesModel", name := "changed", desc := "(III)J" } : Jvm.MethodName)) ∈ TB := inT4 223 rfl rfl
theorem W4_224 : (Jvm.Cond.selects "PriceLinesModel" ({ cls := "PriceLinesModel", name := "changed", desc := "(III)J" } : Jvm.MethodName) ({ cls := "PriceLinesModel", name := "changed", desc := "(III)J" } : Jvm.MethodName)) ∈ TB := inT4 224 rfl rfl
theorem W4_225 : (Jvm.Cond.code ({ cls := "PriceLinesModel", name := "changed", desc := "(III)J" } : Jvm.MethodName) prog_12_method_29_code (14 : Nat) (Option.some Jvm.ClassFile.FieldType.long)) ∈ TB := inT4 225 rfl rfl
theorem W4_226 : (Jvm.Cond.methodLink "PriceLinesLaw" (108 : Nat) ({ cls := "PriceLinesModel", name := "currency", desc := "(III)I" } : Jvm.MethodName)) ∈ TB := inT4 226 rfl rfl
theorem W4_227 : (Jvm.Cond.instanceMethod ({ cls := "PriceLinesModel", name := "currency", desc := "(III)I" } : Jvm.MethodName)) ∈ TB := inT4 227 rfl rfl
theorem W4_228 : (Jvm.Cond.selects "PriceLinesModel" ({ cls := "PriceLinesModel", name := "currency", desc := "(III)I" } : Jvm.MethodName) ({ cls := "PriceLinesModel", name := "currency", desc := "(III)I" } : Jvm.MethodName)) ∈ TB := inT4 228 rfl rfl
theorem W4_229 : (Jvm.Cond.code ({ cls := "PriceLinesModel", name := "currency", desc := "(III)I" } : Jvm.MethodName) prog_12_method_30_code (5 : Nat) (Option.some Jvm.ClassFile.FieldType.int)) ∈ TB := inT4 229 rfl rfl
theorem W4_230 : (Jvm.Cond.constantLong "PriceLinesModel" (198 : Nat) (1000 : Int64)) ∈ TB := inT4 230 rfl rfl
theorem W4_231 : (Jvm.Cond.methodLink "PriceLinesLaw" (111 : Nat) ({ cls := "PriceLinesModel", name := "centsAt", desc := "(I)J" } : Jvm.MethodName)) ∈ TB := inT4 231 rfl rfl
theorem W4_232 : (Jvm.Cond.instanceMethod ({ cls := "PriceLinesModel", name := "centsAt", desc := "(I)J" } : Jvm.MethodName)) ∈ TB := inT4 232 rfl rfl
theorem W4_233 : (Jvm.Cond.selects "PriceLinesModel" ({ cls := "PriceLinesModel", name := "centsAt", desc := "(I)J" } : Jvm.MethodName) ({ cls := "PriceLinesModel", name := "centsAt", desc := "(I)J" } : Jvm.MethodName)) ∈ TB := inT4 233 rfl rfl
theorem W4_234 : (Jvm.Cond.code ({ cls := "PriceLinesModel", name := "centsAt", desc := "(I)J" } : Jvm.MethodName) prog_12_method_32_code (2 : Nat) (Option.some Jvm.ClassFile.FieldType.long)) ∈ TB := inT4 234 rfl rfl
theorem W4_235 : (Jvm.Cond.methodLink "PriceLinesModel" (200 : Nat) ({ cls := "PriceLinesModel", name := "at", desc := "(JI)J" } : Jvm.MethodName)) ∈ TB := inT4 235 rfl rfl
theorem W4_237 : (Jvm.Cond.instanceMethod ({ cls := "PriceLinesModel", name := "at", desc := "(JI)J" } : Jvm.MethodName)) ∈ TB := inT4 237 rfl rfl
theorem W4_238 : (Jvm.Cond.code ({ cls := "PriceLinesModel", name := "at", desc := "(JI)J" } : Jvm.MethodName) prog_12_method_31_code (7 : Nat) (Option.some Jvm.ClassFile.FieldType.long)) ∈ TB := inT4 238 rfl rfl
theorem W4_239 : (Jvm.Cond.methodLink "PriceLinesLaw" (114 : Nat) ({ cls := "PriceLinesModel", name := "offer", desc := "(I)I" } : Jvm.MethodName)) ∈ TB := inT4 239 rfl rfl
theorem W5_0 : (Jvm.Cond.instanceMethod ({ cls := "PriceLinesModel", name := "offer", desc := "(I)I" } : Jvm.MethodName)) ∈ TB := inT5 0 rfl rfl
theorem W5_1 : (Jvm.Cond.selects "PriceLinesModel" ({ cls := "PriceLinesModel", name := "offer", desc := "(I)I" } : Jvm.MethodName) ({ cls := "PriceLinesModel", name := "offer", desc := "(I)I" } : Jvm.MethodName)) ∈ TB := inT5 1 rfl rfl
theorem W5_2 : (Jvm.Cond.code ({ cls := "PriceLinesModel", name := "offer", desc := "(I)I" } : Jvm.MethodName) prog_12_method_33_code (2 : Nat) (Option.some Jvm.ClassFile.FieldType.int)) ∈ TB := inT5 2 rfl rfl
theorem W5_3 : (Jvm.Cond.methodLink "PriceLinesModel" (207 : Nat) ({ cls := "PriceLinesModel", name := "run", desc := "()I" } : Jvm.MethodName)) ∈ TB := inT5 3 rfl rfl
theorem W5_4 : (Jvm.Cond.methodLink "PriceLinesLaw" (117 : Nat) ({ cls := "PriceLinesModel", name := "offered", desc := "(II)J" } : Jvm.MethodName)) ∈ TB := inT5 4 rfl rfl
theorem W5_5 : (Jvm.Cond.instanceMethod ({ cls := "PriceLinesModel", name := "offered", desc := "(II)J" } : Jvm.MethodName)) ∈ TB := inT5 5 rfl rfl
theorem W5_6 : (Jvm.Cond.selects "PriceLinesModel" ({ cls := "PriceLinesModel", name := "offered", desc := "(II)J" } : Jvm.MethodName) ({ cls := "PriceLinesModel", name := "offered", desc := "(II)J" } : Jvm.MethodName)) ∈ TB := inT5 6 rfl rfl
theorem W5_7 : (Jvm.Cond.code ({ cls := "PriceLinesModel", name := "offered", desc := "(II)J" } : Jvm.MethodName) prog_12_method_35_code (3 : Nat) (Option.some Jvm.ClassFile.FieldType.long)) ∈ TB := inT5 7 rfl rfl
theorem W5_8 : (Jvm.Cond.methodLink "PriceLinesModel" (210 : Nat) ({ cls := "PriceLinesModel", name := "noOffer", desc := "(I)Z" } : Jvm.MethodName)) ∈ TB := inT5 8 rfl rfl
theorem W5_10 : (Jvm.Cond.instanceMethod ({ cls := "PriceLinesModel", name := "noOffer", desc := "(I)Z" } : Jvm.MethodName)) ∈ TB := inT5 10 rfl rfl
theorem W5_11 : (Jvm.Cond.code ({ cls := "PriceLinesModel", name := "noOffer", desc := "(I)Z" } : Jvm.MethodName) prog_12_method_34_code (2 : Nat) (Option.some Jvm.ClassFile.FieldType.boolean)) ∈ TB := inT5 11 rfl rfl
theorem W5_12 : (Jvm.Cond.methodLink "PriceLinesLaw" (120 : Nat) ({ cls := "PriceLinesModel", name := "differs", desc := "(II)J" } : Jvm.MethodName)) ∈ TB := inT5 12 rfl rfl
theorem W5_13 : (Jvm.Cond.instanceMethod ({ cls := "PriceLinesModel", name := "differs", desc := "(II)J" } : Jvm.MethodName)) ∈ TB := inT5 13 rfl rfl
theorem W5_14 : (Jvm.Cond.selects "PriceLinesModel" ({ cls := "PriceLinesModel", name := "differs", desc := "(II)J" } : Jvm.MethodName) ({ cls := "PriceLinesModel", name := "differs", desc := "(II)J" } : Jvm.MethodName)) ∈ TB := inT5 14 rfl rfl
theorem W5_15 : (Jvm.Cond.code ({ cls := "PriceLinesModel", name := "differs", desc := "(II)J" } : Jvm.MethodName) prog_12_method_36_code (3 : Nat) (Option.some Jvm.ClassFile.FieldType.long)) ∈ TB := inT5 15 rfl rfl
theorem W5_16 : (Jvm.Cond.methodLink "PriceLinesLaw" (123 : Nat) ({ cls := "PriceLinesModel", name := "invoice", desc := "(II)I" } : Jvm.MethodName)) ∈ TB := inT5 16 rfl rfl
theorem W5_17 : (Jvm.Cond.instanceMethod ({ cls := "PriceLinesModel", name := "invoice", desc := "(II)I" } : Jvm.MethodName)) ∈ TB := inT5 17 rfl rfl
theorem W5_18 : (Jvm.Cond.selects "PriceLinesModel" ({ cls := "PriceLinesModel", name := "invoice", desc := "(II)I" } : Jvm.MethodName) ({ cls := "PriceLinesModel", name := "invoice", desc := "(II)I" } : Jvm.MethodName)) ∈ TB := inT5 18 rfl rfl
theorem W5_19 : (Jvm.Cond.code ({ cls := "PriceLinesModel", name := "invoice", desc := "(II)I" } : Jvm.MethodName) prog_12_method_37_code (5 : Nat) (Option.some Jvm.ClassFile.FieldType.int)) ∈ TB := inT5 19 rfl rfl
theorem W5_20 : (Jvm.Cond.methodLink "PriceLinesLaw" (126 : Nat) ({ cls := "PriceLinesModel", name := "left", desc := "(I)J" } : Jvm.MethodName)) ∈ TB := inT5 20 rfl rfl
theorem W5_21 : (Jvm.Cond.instanceMethod ({ cls := "PriceLinesModel", name := "left", desc := "(I)J" } : Jvm.MethodName)) ∈ TB := inT5 21 rfl rfl
theorem W5_22 : (Jvm.Cond.selects "PriceLinesModel" ({ cls := "PriceLinesModel", name := "left", desc := "(I)J" } : Jvm.MethodName) ({ cls := "PriceLinesModel", name := "left", desc := "(I)J" } : Jvm.MethodName)) ∈ TB := inT5 22 rfl rfl
theorem W5_23 : (Jvm.Cond.code ({ cls := "PriceLinesModel", name := "left", desc := "(I)J" } : Jvm.MethodName) prog_12_method_39_code (2 : Nat) (Option.some Jvm.ClassFile.FieldType.long)) ∈ TB := inT5 23 rfl rfl
theorem W5_24 : (Jvm.Cond.methodLink "PriceLinesModel" (216 : Nat) ({ cls := "PriceLinesModel", name := "noInvoice", desc := "(I)Z" } : Jvm.MethodName)) ∈ TB := inT5 24 rfl rfl
theorem W5_26 : (Jvm.Cond.instanceMethod ({ cls := "PriceLinesModel", name := "noInvoice", desc := "(I)Z" } : Jvm.MethodName)) ∈ TB := inT5 26 rfl rfl
theorem W5_27 : (Jvm.Cond.code ({ cls := "PriceLinesModel", name := "noInvoice", desc := "(I)Z" } : Jvm.MethodName) prog_12_method_38_code (2 : Nat) (Option.some Jvm.ClassFile.FieldType.boolean)) ∈ TB := inT5 27 rfl rfl
theorem W5_28 : (Jvm.Cond.methodLink "PriceLinesLaw" (129 : Nat) ({ cls := "PriceLinesModel", name := "refund", desc := "(II)Z" } : Jvm.MethodName)) ∈ TB := inT5 28 rfl rfl
theorem W5_29 : (Jvm.Cond.instanceMethod ({ cls := "PriceLinesModel", name := "refund", desc := "(II)Z" } : Jvm.MethodName)) ∈ TB := inT5 29 rfl rfl
theorem W5_30 : (Jvm.Cond.selects "PriceLinesModel" ({ cls := "PriceLinesModel", name := "refund", desc := "(II)Z" } : Jvm.MethodName) ({ cls := "PriceLinesModel", name := "refund", desc := "(II)Z" } : Jvm.MethodName)) ∈ TB := inT5 30 rfl rfl
theorem W5_31 : (Jvm.Cond.code ({ cls := "PriceLinesModel", name := "refund", desc := "(II)Z" } : Jvm.MethodName) prog_12_method_40_code (3 : Nat) (Option.some Jvm.ClassFile.FieldType.boolean)) ∈ TB := inT5 31 rfl rfl
theorem W5_32 : (Jvm.Cond.methodLink "PriceLinesLaw" (132 : Nat) ({ cls := "PriceLinesModel", name := "learn", desc := "(II)I" } : Jvm.MethodName)) ∈ TB := inT5 32 rfl rfl
theorem W5_33 : (Jvm.Cond.instanceMethod ({ cls := "PriceLinesModel", name := "learn", desc := "(II)I" } : Jvm.MethodName)) ∈ TB := inT5 33 rfl rfl
theorem W5_34 : (Jvm.Cond.selects "PriceLinesModel" ({ cls := "PriceLinesModel", name := "learn", desc := "(II)I" } : Jvm.MethodName) ({ cls := "PriceLinesModel", name := "learn", desc := "(II)I" } : Jvm.MethodName)) ∈ TB := inT5 34 rfl rfl
theorem W5_35 : (Jvm.Cond.code ({ cls := "PriceLinesModel", name := "learn", desc := "(II)I" } : Jvm.MethodName) prog_12_method_41_code (3 : Nat) (Option.some Jvm.ClassFile.FieldType.int)) ∈ TB := inT5 35 rfl rfl
theorem W5_36 : (Jvm.Cond.constantLong "PriceLinesModel" (219 : Nat) (100000 : Int64)) ∈ TB := inT5 36 rfl rfl
theorem WP_0 : (Jvm.Cond.selects "PriceLines$Reader" ({ cls := "PriceLines$Reader", name := "accept", desc := "(CLPriceLines$Sheet;)Z" } : Jvm.MethodName) ({ cls := "PriceLines$Reader", name := "accept", desc := "(CLPriceLines$Sheet;)Z" } : Jvm.MethodName)) ∈ TB := inTP 0 rfl rfl
theorem WP_1 : (Jvm.Cond.selects "PriceLines$Reader" ({ cls := "PriceLines$Reader", name := "acceptDigit", desc := "(ILPriceLines$Sheet;)Z" } : Jvm.MethodName) ({ cls := "PriceLines$Reader", name := "acceptDigit", desc := "(ILPriceLines$Sheet;)Z" } : Jvm.MethodName)) ∈ TB := inTP 1 rfl rfl
theorem WP_2 : (Jvm.Cond.selects "PriceLines$Reader" ({ cls := "PriceLines$Reader", name := "hasRoom", desc := "(LPriceLines$Sheet;)Z" } : Jvm.MethodName) ({ cls := "PriceLines$Reader", name := "hasRoom", desc := "(LPriceLines$Sheet;)Z" } : Jvm.MethodName)) ∈ TB := inTP 2 rfl rfl
theorem WP_3 : (Jvm.Cond.selects "PriceLines$Sheet" ({ cls := "PriceLines$Sheet", name := "addSign", desc := "(I)V" } : Jvm.MethodName) ({ cls := "PriceLines$Sheet", name := "addSign", desc := "(I)V" } : Jvm.MethodName)) ∈ TB := inTP 3 rfl rfl
theorem WP_4 : (Jvm.Cond.selects "PriceLines$Reader" ({ cls := "PriceLines$Reader", name := "acceptFact", desc := "(CLPriceLines$Sheet;)Z" } : Jvm.MethodName) ({ cls := "PriceLines$Reader", name := "acceptFact", desc := "(CLPriceLines$Sheet;)Z" } : Jvm.MethodName)) ∈ TB := inTP 4 rfl rfl
theorem WP_5 : (Jvm.Cond.selects "PriceLines$Reader" ({ cls := "PriceLines$Reader", name := "acceptOperator", desc := "(CILPriceLines$Sheet;)Z" } : Jvm.MethodName) ({ cls := "PriceLines$Reader", name := "acceptOperator", desc := "(CILPriceLines$Sheet;)Z" } : Jvm.MethodName)) ∈ TB := inTP 5 rfl rfl
theorem WP_6 : (Jvm.Cond.selects "PriceLines$Reader" ({ cls := "PriceLines$Reader", name := "acceptEnd", desc := "(CLPriceLines$Sheet;)Z" } : Jvm.MethodName) ({ cls := "PriceLines$Reader", name := "acceptEnd", desc := "(CLPriceLines$Sheet;)Z" } : Jvm.MethodName)) ∈ TB := inTP 6 rfl rfl
theorem WP_7 : (Jvm.Cond.selects "PriceLines$Reckoning" ({ cls := "PriceLines$Reckoning", name := "reckonLine", desc := "(ILPriceLines$Sheet;LPriceLines$Facts;)V" } : Jvm.MethodName) ({ cls := "PriceLines$Reckoning", name := "reckonLine", desc := "(ILPriceLines$Sheet;LPriceLines$Facts;)V" } : Jvm.MethodName)) ∈ TB := inTP 7 rfl rfl
theorem WP_8 : (Jvm.Cond.selects "PriceLines$Reckoning" ({ cls := "PriceLines$Reckoning", name := "apply", desc := "(ILPriceLines$Facts;)I" } : Jvm.MethodName) ({ cls := "PriceLines$Reckoning", name := "apply", desc := "(ILPriceLines$Facts;)I" } : Jvm.MethodName)) ∈ TB := inTP 8 rfl rfl
theorem WP_9 : (Jvm.Cond.selects "PriceLines$Reckoning" ({ cls := "PriceLines$Reckoning", name := "lay", desc := "(II)I" } : Jvm.MethodName) ({ cls := "PriceLines$Reckoning", name := "lay", desc := "(II)I" } : Jvm.MethodName)) ∈ TB := inTP 9 rfl rfl
theorem WP_10 : (Jvm.Cond.selects "PriceLines$Reckoning" ({ cls := "PriceLines$Reckoning", name := "stackedAt", desc := "(I)LPriceLines$Fraction;" } : Jvm.MethodName) ({ cls := "PriceLines$Reckoning", name := "stackedAt", desc := "(I)LPriceLines$Fraction;" } : Jvm.MethodName)) ∈ TB := inTP 10 rfl rfl
theorem WP_11 : (Jvm.Cond.selects "PriceLines$Reckoning" ({ cls := "PriceLines$Reckoning", name := "endLine", desc := "(ILPriceLines$Fraction;)I" } : Jvm.MethodName) ({ cls := "PriceLines$Reckoning", name := "endLine", desc := "(ILPriceLines$Fraction;)I" } : Jvm.MethodName)) ∈ TB := inTP 11 rfl rfl
theorem WP_12 : (Jvm.Cond.selects "java/lang/Throwable" ({ cls := "java/lang/Throwable", name := "fillInStackTrace", desc := "(I)Ljava/lang/Throwable;" } : Jvm.MethodName) ({ cls := "java/lang/Throwable", name := "fillInStackTrace", desc := "(I)Ljava/lang/Throwable;" } : Jvm.MethodName)) ∈ TB := inTP 12 rfl rfl
theorem WP_13 : (Jvm.Cond.selects "PriceLines$Currencies" ({ cls := "PriceLines$Currencies", name := "rowAt", desc := "(I)I" } : Jvm.MethodName) ({ cls := "PriceLines$Currencies", name := "rowAt", desc := "(I)I" } : Jvm.MethodName)) ∈ TB := inTP 13 rfl rfl
theorem WP_14 : (Jvm.Cond.selects "PriceLines" ({ cls := "PriceLines", name := "requireOffer", desc := "(I)V" } : Jvm.MethodName) ({ cls := "PriceLines", name := "requireOffer", desc := "(I)V" } : Jvm.MethodName)) ∈ TB := inTP 14 rfl rfl
theorem WP_15 : (Jvm.Cond.selects "PriceLines" ({ cls := "PriceLines", name := "requireHeld", desc := "(II)V" } : Jvm.MethodName) ({ cls := "PriceLines", name := "requireHeld", desc := "(II)V" } : Jvm.MethodName)) ∈ TB := inTP 15 rfl rfl
theorem WP_16 : (Jvm.Cond.selects "PriceLines" ({ cls := "PriceLines", name := "requireInvoice", desc := "(I)V" } : Jvm.MethodName) ({ cls := "PriceLines", name := "requireInvoice", desc := "(I)V" } : Jvm.MethodName)) ∈ TB := inTP 16 rfl rfl
theorem WP_17 : (Jvm.Cond.selects "PriceLinesModel" ({ cls := "PriceLinesModel", name := "fault", desc := "()I" } : Jvm.MethodName) ({ cls := "PriceLinesModel", name := "fault", desc := "()I" } : Jvm.MethodName)) ∈ TB := inTP 17 rfl rfl
theorem WP_18 : (Jvm.Cond.selects "PriceLinesModel" ({ cls := "PriceLinesModel", name := "factFault", desc := "(III)I" } : Jvm.MethodName) ({ cls := "PriceLinesModel", name := "factFault", desc := "(III)I" } : Jvm.MethodName)) ∈ TB := inTP 18 rfl rfl
theorem WP_19 : (Jvm.Cond.selects "PriceLinesModel" ({ cls := "PriceLinesModel", name := "setFact", desc := "(III)V" } : Jvm.MethodName) ({ cls := "PriceLinesModel", name := "setFact", desc := "(III)V" } : Jvm.MethodName)) ∈ TB := inTP 19 rfl rfl
theorem WP_20 : (Jvm.Cond.selects "PriceLinesModel" ({ cls := "PriceLinesModel", name := "make", desc := "(JJ)Z" } : Jvm.MethodName) ({ cls := "PriceLinesModel", name := "make", desc := "(JJ)Z" } : Jvm.MethodName)) ∈ TB := inTP 20 rfl rfl
theorem WP_21 : (Jvm.Cond.selects "PriceLinesModel" ({ cls := "PriceLinesModel", name := "reckon", desc := "()V" } : Jvm.MethodName) ({ cls := "PriceLinesModel", name := "reckon", desc := "()V" } : Jvm.MethodName)) ∈ TB := inTP 21 rfl rfl
theorem WP_22 : (Jvm.Cond.selects "PriceLinesModel" ({ cls := "PriceLinesModel", name := "step", desc := "(I)I" } : Jvm.MethodName) ({ cls := "PriceLinesModel", name := "step", desc := "(I)I" } : Jvm.MethodName)) ∈ TB := inTP 22 rfl rfl
theorem WP_23 : (Jvm.Cond.selects "PriceLinesModel" ({ cls := "PriceLinesModel", name := "lay", desc := "()V" } : Jvm.MethodName) ({ cls := "PriceLinesModel", name := "lay", desc := "()V" } : Jvm.MethodName)) ∈ TB := inTP 23 rfl rfl
theorem WP_24 : (Jvm.Cond.selects "PriceLinesModel" ({ cls := "PriceLinesModel", name := "two", desc := "(I)I" } : Jvm.MethodName) ({ cls := "PriceLinesModel", name := "two", desc := "(I)I" } : Jvm.MethodName)) ∈ TB := inTP 24 rfl rfl
theorem WP_25 : (Jvm.Cond.selects "PriceLinesModel" ({ cls := "PriceLinesModel", name := "add", desc := "(JJJJ)Z" } : Jvm.MethodName) ({ cls := "PriceLinesModel", name := "add", desc := "(JJJJ)Z" } : Jvm.MethodName)) ∈ TB := inTP 25 rfl rfl
theorem WP_26 : (Jvm.Cond.selects "PriceLinesModel" ({ cls := "PriceLinesModel", name := "round", desc := "()I" } : Jvm.MethodName) ({ cls := "PriceLinesModel", name := "round", desc := "()I" } : Jvm.MethodName)) ∈ TB := inTP 26 rfl rfl
theorem WP_27 : (Jvm.Cond.selects "PriceLinesModel" ({ cls := "PriceLinesModel", name := "end", desc := "(I)I" } : Jvm.MethodName) ({ cls := "PriceLinesModel", name := "end", desc := "(I)I" } : Jvm.MethodName)) ∈ TB := inTP 27 rfl rfl
theorem WP_28 : (Jvm.Cond.selects "PriceLinesModel" ({ cls := "PriceLinesModel", name := "centsNow", desc := "()J" } : Jvm.MethodName) ({ cls := "PriceLinesModel", name := "centsNow", desc := "()J" } : Jvm.MethodName)) ∈ TB := inTP 28 rfl rfl
theorem WP_29 : (Jvm.Cond.selects "PriceLinesModel" ({ cls := "PriceLinesModel", name := "at", desc := "(JI)J" } : Jvm.MethodName) ({ cls := "PriceLinesModel", name := "at", desc := "(JI)J" } : Jvm.MethodName)) ∈ TB := inTP 29 rfl rfl
theorem WP_30 : (Jvm.Cond.selects "PriceLinesModel" ({ cls := "PriceLinesModel", name := "noOffer", desc := "(I)Z" } : Jvm.MethodName) ({ cls := "PriceLinesModel", name := "noOffer", desc := "(I)Z" } : Jvm.MethodName)) ∈ TB := inTP 30 rfl rfl
theorem WP_31 : (Jvm.Cond.selects "PriceLinesModel" ({ cls := "PriceLinesModel", name := "noInvoice", desc := "(I)Z" } : Jvm.MethodName) ({ cls := "PriceLinesModel", name := "noInvoice", desc := "(I)Z" } : Jvm.MethodName)) ∈ TB := inTP 31 rfl rfl
def F_Cur : u_T := fun k => match k with
  | 0 => ("PriceLines$Currencies", "days", "[I", true)
  | 1 => ("PriceLines$Currencies", "above", "[I", true)
  | 2 => ("PriceLines$Currencies", "below", "[I", true)
  | _ => ("PriceLines$Currencies", "count", "I", false)
def t_Cur : Nat → FieldType := fun k => match k with
  | 0 => .array .int
  | 1 => .array .int
  | 2 => .array .int
  | _ => .int
theorem n_Cur : ∀ a, a < 4 → ∀ b, b < 4 → a ≠ b → (F_Cur a).2.1 ≠ (F_Cur b).2.1 := by decide +kernel
theorem tk_Cur : ∀ k, k < 4 → parseFieldDescriptor (F_Cur k).2.2.1 = some (t_Cur k) := by decide +kernel
theorem in_Cur : ∀ w ∈ u_ws "PriceLines$Currencies" F_Cur 4, w ∈ TB := inU (fun k hk => by
  match k, hk with
  | 0, _ => exact W1_117
  | 1, _ => exact W1_119
  | 2, _ => exact W1_121
  | 3, _ => exact W1_123
  | n + 4, h => exact absurd h (by omega))
def F_Fac : u_T := fun k => match k with
  | 0 => ("PriceLines$Facts", "above", "[I", true)
  | _ => ("PriceLines$Facts", "below", "[I", true)
def t_Fac : Nat → FieldType := fun k => match k with
  | 0 => .array .int
  | _ => .array .int
theorem n_Fac : ∀ a, a < 2 → ∀ b, b < 2 → a ≠ b → (F_Fac a).2.1 ≠ (F_Fac b).2.1 := by decide +kernel
theorem tk_Fac : ∀ k, k < 2 → parseFieldDescriptor (F_Fac k).2.2.1 = some (t_Fac k) := by decide +kernel
theorem in_Fac : ∀ w ∈ u_ws "PriceLines$Facts" F_Fac 2, w ∈ TB := inU (fun k hk => by
  match k, hk with
  | 0, _ => exact W1_55
  | 1, _ => exact W1_57
  | n + 2, h => exact absurd h (by omega))
def F_Fra : u_T := fun k => match k with
  | 0 => ("PriceLines$Fraction", "above", "J", false)
  | _ => ("PriceLines$Fraction", "below", "J", false)
def t_Fra : Nat → FieldType := fun k => match k with
  | 0 => .long
  | _ => .long
theorem n_Fra : ∀ a, a < 2 → ∀ b, b < 2 → a ≠ b → (F_Fra a).2.1 ≠ (F_Fra b).2.1 := by decide +kernel
theorem tk_Fra : ∀ k, k < 2 → parseFieldDescriptor (F_Fra k).2.2.1 = some (t_Fra k) := by decide +kernel
theorem in_Fra : ∀ w ∈ u_ws "PriceLines$Fraction" F_Fra 2, w ∈ TB := inU (fun k hk => by
  match k, hk with
  | 0, _ => exact W1_77
  | 1, _ => exact W1_79
  | n + 2, h => exact absurd h (by omega))
def F_Inv : u_T := fun k => match k with
  | 0 => ("PriceLines$Invoices", "leftCents", "[J", true)
  | _ => ("PriceLines$Invoices", "count", "I", false)
def t_Inv : Nat → FieldType := fun k => match k with
  | 0 => .array .long
  | _ => .int
theorem n_Inv : ∀ a, a < 2 → ∀ b, b < 2 → a ≠ b → (F_Inv a).2.1 ≠ (F_Inv b).2.1 := by decide +kernel
theorem tk_Inv : ∀ k, k < 2 → parseFieldDescriptor (F_Inv k).2.2.1 = some (t_Inv k) := by decide +kernel
theorem in_Inv : ∀ w ∈ u_ws "PriceLines$Invoices" F_Inv 2, w ∈ TB := inU (fun k hk => by
  match k, hk with
  | 0, _ => exact W1_153
  | 1, _ => exact W1_155
  | n + 2, h => exact absurd h (by omega))
def F_Min : u_T := fun k => match k with
  | 0 => ("PriceLines$Minutes", "sums", "[J", true)
  | _ => ("PriceLines$Minutes", "counts", "[J", true)
def t_Min : Nat → FieldType := fun k => match k with
  | 0 => .array .long
  | _ => .array .long
theorem n_Min : ∀ a, a < 2 → ∀ b, b < 2 → a ≠ b → (F_Min a).2.1 ≠ (F_Min b).2.1 := by decide +kernel
theorem tk_Min : ∀ k, k < 2 → parseFieldDescriptor (F_Min k).2.2.1 = some (t_Min k) := by decide +kernel
theorem in_Min : ∀ w ∈ u_ws "PriceLines$Minutes" F_Min 2, w ∈ TB := inU (fun k hk => by
  match k, hk with
  | 0, _ => exact W1_166
  | 1, _ => exact W1_168
  | n + 2, h => exact absurd h (by omega))
def F_Off : u_T := fun k => match k with
  | 0 => ("PriceLines$Offers", "cents", "[J", true)
  | 1 => ("PriceLines$Offers", "lastDays", "[I", true)
  | _ => ("PriceLines$Offers", "count", "I", false)
def t_Off : Nat → FieldType := fun k => match k with
  | 0 => .array .long
  | 1 => .array .int
  | _ => .int
theorem n_Off : ∀ a, a < 3 → ∀ b, b < 3 → a ≠ b → (F_Off a).2.1 ≠ (F_Off b).2.1 := by decide +kernel
theorem tk_Off : ∀ k, k < 3 → parseFieldDescriptor (F_Off k).2.2.1 = some (t_Off k) := by decide +kernel
theorem in_Off : ∀ w ∈ u_ws "PriceLines$Offers" F_Off 3, w ∈ TB := inU (fun k hk => by
  match k, hk with
  | 0, _ => exact W1_136
  | 1, _ => exact W1_138
  | 2, _ => exact W1_140
  | n + 3, h => exact absurd h (by omega))
def F_Rea : u_T := fun k => match k with
  | 0 => ("PriceLines$Reader", "text", "[C", true)
  | 1 => ("PriceLines$Reader", "length", "I", false)
  | 2 => ("PriceLines$Reader", "height", "I", false)
  | _ => ("PriceLines$Reader", "digits", "I", false)
def t_Rea : Nat → FieldType := fun k => match k with
  | 0 => .array .char
  | 1 => .int
  | 2 => .int
  | _ => .int
theorem n_Rea : ∀ a, a < 4 → ∀ b, b < 4 → a ≠ b → (F_Rea a).2.1 ≠ (F_Rea b).2.1 := by decide +kernel
theorem tk_Rea : ∀ k, k < 4 → parseFieldDescriptor (F_Rea k).2.2.1 = some (t_Rea k) := by decide +kernel
theorem in_Rea : ∀ w ∈ u_ws "PriceLines$Reader" F_Rea 4, w ∈ TB := inU (fun k hk => by
  match k, hk with
  | 0, _ => exact W1_37
  | 1, _ => exact W1_39
  | 2, _ => exact W1_41
  | 3, _ => exact W1_43
  | n + 4, h => exact absurd h (by omega))
def F_Rec : u_T := fun k => match k with
  | 0 => ("PriceLines$Reckoning", "total", "LPriceLines$Fraction;", true)
  | 1 => ("PriceLines$Reckoning", "stack", "[LPriceLines$Fraction;", true)
  | 2 => ("PriceLines$Reckoning", "added", "[LPriceLines$Fraction;", true)
  | 3 => ("PriceLines$Reckoning", "reasons", "[I", true)
  | 4 => ("PriceLines$Reckoning", "places", "[I", true)
  | 5 => ("PriceLines$Reckoning", "height", "I", false)
  | _ => ("PriceLines$Reckoning", "openLines", "I", false)
def t_Rec : Nat → FieldType := fun k => match k with
  | 0 => .object "PriceLines$Fraction"
  | 1 => .array (.object "PriceLines$Fraction")
  | 2 => .array (.object "PriceLines$Fraction")
  | 3 => .array .int
  | 4 => .array .int
  | 5 => .int
  | _ => .int
theorem n_Rec : ∀ a, a < 7 → ∀ b, b < 7 → a ≠ b → (F_Rec a).2.1 ≠ (F_Rec b).2.1 := by decide +kernel
theorem tk_Rec : ∀ k, k < 7 → parseFieldDescriptor (F_Rec k).2.2.1 = some (t_Rec k) := by decide +kernel
theorem in_Rec : ∀ w ∈ u_ws "PriceLines$Reckoning" F_Rec 7, w ∈ TB := inU (fun k hk => by
  match k, hk with
  | 0, _ => exact W1_91
  | 1, _ => exact W1_93
  | 2, _ => exact W1_95
  | 3, _ => exact W1_97
  | 4, _ => exact W1_99
  | 5, _ => exact W1_101
  | 6, _ => exact W1_103
  | n + 7, h => exact absurd h (by omega))
def F_She : u_T := fun k => match k with
  | 0 => ("PriceLines$Sheet", "signs", "[I", true)
  | 1 => ("PriceLines$Sheet", "ends", "[I", true)
  | 2 => ("PriceLines$Sheet", "signCount", "I", false)
  | _ => ("PriceLines$Sheet", "lineCount", "I", false)
def t_She : Nat → FieldType := fun k => match k with
  | 0 => .array .int
  | 1 => .array .int
  | 2 => .int
  | _ => .int
theorem n_She : ∀ a, a < 4 → ∀ b, b < 4 → a ≠ b → (F_She a).2.1 ≠ (F_She b).2.1 := by decide +kernel
theorem tk_She : ∀ k, k < 4 → parseFieldDescriptor (F_She k).2.2.1 = some (t_She k) := by decide +kernel
theorem in_She : ∀ w ∈ u_ws "PriceLines$Sheet" F_She 4, w ∈ TB := inU (fun k hk => by
  match k, hk with
  | 0, _ => exact W1_184
  | 1, _ => exact W1_186
  | 2, _ => exact W1_188
  | 3, _ => exact W1_190
  | n + 4, h => exact absurd h (by omega))
def F_Pri : u_T := fun k => match k with
  | 0 => ("PriceLines", "reader", "LPriceLines$Reader;", true)
  | 1 => ("PriceLines", "facts", "LPriceLines$Facts;", true)
  | 2 => ("PriceLines", "reckoning", "LPriceLines$Reckoning;", true)
  | 3 => ("PriceLines", "currencies", "LPriceLines$Currencies;", true)
  | 4 => ("PriceLines", "offers", "LPriceLines$Offers;", true)
  | 5 => ("PriceLines", "invoices", "LPriceLines$Invoices;", true)
  | 6 => ("PriceLines", "minutesLearned", "LPriceLines$Minutes;", true)
  | 7 => ("PriceLines", "sheet", "LPriceLines$Sheet;", false)
  | _ => ("PriceLines", "spareSheet", "LPriceLines$Sheet;", false)
def t_Pri : Nat → FieldType := fun k => match k with
  | 0 => .object "PriceLines$Reader"
  | 1 => .object "PriceLines$Facts"
  | 2 => .object "PriceLines$Reckoning"
  | 3 => .object "PriceLines$Currencies"
  | 4 => .object "PriceLines$Offers"
  | 5 => .object "PriceLines$Invoices"
  | 6 => .object "PriceLines$Minutes"
  | 7 => .object "PriceLines$Sheet"
  | _ => .object "PriceLines$Sheet"
theorem n_Pri : ∀ a, a < 9 → ∀ b, b < 9 → a ≠ b → (F_Pri a).2.1 ≠ (F_Pri b).2.1 := by decide +kernel
theorem tk_Pri : ∀ k, k < 9 → parseFieldDescriptor (F_Pri k).2.2.1 = some (t_Pri k) := by decide +kernel
theorem in_Pri : ∀ w ∈ u_ws "PriceLines" F_Pri 9, w ∈ TB := inU (fun k hk => by
  match k, hk with
  | 0, _ => exact W1_202
  | 1, _ => exact W1_204
  | 2, _ => exact W1_206
  | 3, _ => exact W1_208
  | 4, _ => exact W1_210
  | 5, _ => exact W1_212
  | 6, _ => exact W1_214
  | 7, _ => exact W1_216
  | 8, _ => exact W1_218
  | n + 9, h => exact absurd h (by omega))
def F_Mod : u_T := fun k => match k with
  | 0 => ("PriceLinesModel", "thrown", "I", false)
  | 1 => ("PriceLinesModel", "text", "[I", true)
  | 2 => ("PriceLinesModel", "size", "I", false)
  | 3 => ("PriceLinesModel", "signs", "[I", true)
  | 4 => ("PriceLinesModel", "begins", "[I", true)
  | 5 => ("PriceLinesModel", "lines", "I", false)
  | 6 => ("PriceLinesModel", "draft", "[I", true)
  | 7 => ("PriceLinesModel", "draftBegins", "[I", true)
  | 8 => ("PriceLinesModel", "above", "[J", true)
  | 9 => ("PriceLinesModel", "below", "[J", true)
  | 10 => ("PriceLinesModel", "told", "[Z", true)
  | 11 => ("PriceLinesModel", "tops", "[J", true)
  | 12 => ("PriceLinesModel", "bottoms", "[J", true)
  | 13 => ("PriceLinesModel", "high", "I", false)
  | 14 => ("PriceLinesModel", "totalTop", "J", false)
  | 15 => ("PriceLinesModel", "totalBottom", "J", false)
  | 16 => ("PriceLinesModel", "reason", "I", false)
  | 17 => ("PriceLinesModel", "addedTop", "[J", true)
  | 18 => ("PriceLinesModel", "addedBottom", "[J", true)
  | 19 => ("PriceLinesModel", "reasons", "[I", true)
  | 20 => ("PriceLinesModel", "places", "[I", true)
  | 21 => ("PriceLinesModel", "top", "J", false)
  | 22 => ("PriceLinesModel", "bottom", "J", false)
  | 23 => ("PriceLinesModel", "rows", "I", false)
  | 24 => ("PriceLinesModel", "days", "[I", true)
  | 25 => ("PriceLinesModel", "rowAbove", "[I", true)
  | 26 => ("PriceLinesModel", "rowBelow", "[I", true)
  | 27 => ("PriceLinesModel", "offers", "I", false)
  | 28 => ("PriceLinesModel", "offerCents", "[J", true)
  | 29 => ("PriceLinesModel", "untils", "[I", true)
  | 30 => ("PriceLinesModel", "invoices", "I", false)
  | 31 => ("PriceLinesModel", "lefts", "[J", true)
  | 32 => ("PriceLinesModel", "many", "[J", true)
  | 33 => ("PriceLinesModel", "sums", "[J", true)
  | _ => ("PriceLinesModel", "draftLines", "I", false)
def t_Mod : Nat → FieldType := fun k => match k with
  | 0 => .int
  | 1 => .array .int
  | 2 => .int
  | 3 => .array .int
  | 4 => .array .int
  | 5 => .int
  | 6 => .array .int
  | 7 => .array .int
  | 8 => .array .long
  | 9 => .array .long
  | 10 => .array .boolean
  | 11 => .array .long
  | 12 => .array .long
  | 13 => .int
  | 14 => .long
  | 15 => .long
  | 16 => .int
  | 17 => .array .long
  | 18 => .array .long
  | 19 => .array .int
  | 20 => .array .int
  | 21 => .long
  | 22 => .long
  | 23 => .int
  | 24 => .array .int
  | 25 => .array .int
  | 26 => .array .int
  | 27 => .int
  | 28 => .array .long
  | 29 => .array .int
  | 30 => .int
  | 31 => .array .long
  | 32 => .array .long
  | 33 => .array .long
  | _ => .int
theorem n_Mod : ∀ a, a < 35 → ∀ b, b < 35 → a ≠ b → (F_Mod a).2.1 ≠ (F_Mod b).2.1 := by decide +kernel
theorem tk_Mod : ∀ k, k < 35 → parseFieldDescriptor (F_Mod k).2.2.1 = some (t_Mod k) := by decide +kernel
theorem in_Mod : ∀ w ∈ u_ws "PriceLinesModel" F_Mod 35, w ∈ TB := inU (fun k hk => by
  match k, hk with
  | 0, _ => exact W4_38
  | 1, _ => exact W4_40
  | 2, _ => exact W4_42
  | 3, _ => exact W4_44
  | 4, _ => exact W4_46
  | 5, _ => exact W4_48
  | 6, _ => exact W4_50
  | 7, _ => exact W4_52
  | 8, _ => exact W4_54
  | 9, _ => exact W4_56
  | 10, _ => exact W4_58
  | 11, _ => exact W4_60
  | 12, _ => exact W4_62
  | 13, _ => exact W4_64
  | 14, _ => exact W4_66
  | 15, _ => exact W4_68
  | 16, _ => exact W4_70
  | 17, _ => exact W4_72
  | 18, _ => exact W4_74
  | 19, _ => exact W4_76
  | 20, _ => exact W4_78
  | 21, _ => exact W4_80
  | 22, _ => exact W4_82
  | 23, _ => exact W4_84
  | 24, _ => exact W4_86
  | 25, _ => exact W4_88
  | 26, _ => exact W4_90
  | 27, _ => exact W4_92
  | 28, _ => exact W4_94
  | 29, _ => exact W4_96
  | 30, _ => exact W4_98
  | 31, _ => exact W4_100
  | 32, _ => exact W4_102
  | 33, _ => exact W4_104
  | 34, _ => exact W4_106
  | n + 35, h => exact absurd h (by omega))
abbrev vwCl : List vw_C := [("PriceLines$Currencies", F_Cur, 4), ("PriceLines$Facts", F_Fac, 2), ("PriceLines$Fraction", F_Fra, 2), ("PriceLines$Invoices", F_Inv, 2), ("PriceLines$Minutes", F_Min, 2), ("PriceLines$Offers", F_Off, 3), ("PriceLines$Reader", F_Rea, 4), ("PriceLines$Reckoning", F_Rec, 7), ("PriceLines$Sheet", F_She, 4), ("PriceLines", F_Pri, 9), ("PriceLinesModel", F_Mod, 35)]
abbrev tyL (ta : Nat → ClassId) : List (ClassId × FieldType) := [(ta 0, .int), (ta 1, .char), (ta 2, .long), (ta 3, .boolean), (ta 4, .object "PriceLines$Fraction")]
abbrev b_Pri_init : ByteArray := prog_1_method_1_code
abbrev y_Pri_init : MethodName := ({ cls := "PriceLines", name := "<init>", desc := "()V" } : Jvm.MethodName)
def w_Pri_init : List Cond := .code y_Pri_init b_Pri_init 1 (none) :: TB
abbrev b_Rea_init : ByteArray := prog_8_method_1_code
abbrev y_Rea_init : MethodName := ({ cls := "PriceLines$Reader", name := "<init>", desc := "()V" } : Jvm.MethodName)
def w_Rea_init : List Cond := .code y_Rea_init b_Rea_init 1 (none) :: TB
abbrev b_Fac_init : ByteArray := prog_3_method_1_code
abbrev y_Fac_init : MethodName := ({ cls := "PriceLines$Facts", name := "<init>", desc := "()V" } : Jvm.MethodName)
def w_Fac_init : List Cond := .code y_Fac_init b_Fac_init 1 (none) :: TB
abbrev b_Rec_init : ByteArray := prog_9_method_1_code
abbrev y_Rec_init : MethodName := ({ cls := "PriceLines$Reckoning", name := "<init>", desc := "()V" } : Jvm.MethodName)
def w_Rec_init : List Cond := .code y_Rec_init b_Rec_init 2 (none) :: TB
abbrev b_Fra_init : ByteArray := prog_4_method_1_code
abbrev y_Fra_init : MethodName := ({ cls := "PriceLines$Fraction", name := "<init>", desc := "()V" } : Jvm.MethodName)
def w_Fra_init : List Cond := .code y_Fra_init b_Fra_init 1 (none) :: TB
abbrev b_Cur_init : ByteArray := prog_2_method_1_code
abbrev y_Cur_init : MethodName := ({ cls := "PriceLines$Currencies", name := "<init>", desc := "()V" } : Jvm.MethodName)
def w_Cur_init : List Cond := .code y_Cur_init b_Cur_init 1 (none) :: TB
abbrev b_Off_init : ByteArray := prog_7_method_1_code
abbrev y_Off_init : MethodName := ({ cls := "PriceLines$Offers", name := "<init>", desc := "()V" } : Jvm.MethodName)
def w_Off_init : List Cond := .code y_Off_init b_Off_init 1 (none) :: TB
abbrev b_Inv_init : ByteArray := prog_5_method_1_code
abbrev y_Inv_init : MethodName := ({ cls := "PriceLines$Invoices", name := "<init>", desc := "()V" } : Jvm.MethodName)
def w_Inv_init : List Cond := .code y_Inv_init b_Inv_init 1 (none) :: TB
abbrev b_Min_init : ByteArray := prog_6_method_1_code
abbrev y_Min_init : MethodName := ({ cls := "PriceLines$Minutes", name := "<init>", desc := "()V" } : Jvm.MethodName)
def w_Min_init : List Cond := .code y_Min_init b_Min_init 1 (none) :: TB
abbrev b_She_init : ByteArray := prog_10_method_1_code
abbrev y_She_init : MethodName := ({ cls := "PriceLines$Sheet", name := "<init>", desc := "()V" } : Jvm.MethodName)
def w_She_init : List Cond := .code y_She_init b_She_init 1 (none) :: TB
abbrev b_Pri_unit : ByteArray := prog_1_method_2_code
abbrev y_Pri_unit : MethodName := ({ cls := "PriceLines", name := "unit", desc := "(I)Z" } : Jvm.MethodName)
def w_Pri_unit : List Cond := .code y_Pri_unit b_Pri_unit 2 (some .boolean) :: TB
abbrev b_Rea_append : ByteArray := prog_8_method_2_code
abbrev y_Rea_append : MethodName := ({ cls := "PriceLines$Reader", name := "append", desc := "(I)Z" } : Jvm.MethodName)
def w_Rea_append : List Cond := .code y_Rea_append b_Rea_append 2 (some .boolean) :: TB
abbrev b_Pri_isIndex : ByteArray := prog_1_method_27_code
abbrev y_Pri_isIndex : MethodName := ({ cls := "PriceLines", name := "isIndex", desc := "(II)Z" } : Jvm.MethodName)
def w_Pri_isIndex : List Cond := .code y_Pri_isIndex b_Pri_isIndex 2 (some .boolean) :: TB
abbrev b_Pri_read : ByteArray := prog_1_method_3_code
abbrev y_Pri_read : MethodName := ({ cls := "PriceLines", name := "read", desc := "()I" } : Jvm.MethodName)
def w_Pri_read : List Cond := .code y_Pri_read b_Pri_read 3 (some .int) :: TB
abbrev b_Rea_fill : ByteArray := prog_8_method_3_code
abbrev y_Rea_fill : MethodName := ({ cls := "PriceLines$Reader", name := "fill", desc := "(LPriceLines$Sheet;)I" } : Jvm.MethodName)
def w_Rea_fill : List Cond := .code y_Rea_fill b_Rea_fill 4 (some .int) :: TB
abbrev b_She_clear : ByteArray := prog_10_method_2_code
abbrev y_She_clear : MethodName := ({ cls := "PriceLines$Sheet", name := "clear", desc := "()V" } : Jvm.MethodName)
def w_She_clear : List Cond := .code y_She_clear b_She_clear 1 (none) :: TB
abbrev b_Rea_accept : ByteArray := prog_8_method_4_code
abbrev y_Rea_accept : MethodName := ({ cls := "PriceLines$Reader", name := "accept", desc := "(CLPriceLines$Sheet;)Z" } : Jvm.MethodName)
def w_Rea_accept : List Cond := .code y_Rea_accept b_Rea_accept 3 (some .boolean) :: TB
abbrev b_Rea_acceptDigit : ByteArray := prog_8_method_5_code
abbrev y_Rea_acceptDigit : MethodName := ({ cls := "PriceLines$Reader", name := "acceptDigit", desc := "(ILPriceLines$Sheet;)Z" } : Jvm.MethodName)
def w_Rea_acceptDigit : List Cond := .code y_Rea_acceptDigit b_Rea_acceptDigit 3 (some .boolean) :: TB
abbrev b_She_addDigit : ByteArray := prog_10_method_4_code
abbrev y_She_addDigit : MethodName := ({ cls := "PriceLines$Sheet", name := "addDigit", desc := "(I)V" } : Jvm.MethodName)
def w_She_addDigit : List Cond := .code y_She_addDigit b_She_addDigit 3 (none) :: TB
abbrev b_Rea_hasRoom : ByteArray := prog_8_method_9_code
abbrev y_Rea_hasRoom : MethodName := ({ cls := "PriceLines$Reader", name := "hasRoom", desc := "(LPriceLines$Sheet;)Z" } : Jvm.MethodName)
def w_Rea_hasRoom : List Cond := .code y_Rea_hasRoom b_Rea_hasRoom 2 (some .boolean) :: TB
abbrev b_She_addNumber : ByteArray := prog_10_method_3_code
abbrev y_She_addNumber : MethodName := ({ cls := "PriceLines$Sheet", name := "addNumber", desc := "(I)V" } : Jvm.MethodName)
def w_She_addNumber : List Cond := .code y_She_addNumber b_She_addNumber 2 (none) :: TB
abbrev b_She_addSign : ByteArray := prog_10_method_10_code
abbrev y_She_addSign : MethodName := ({ cls := "PriceLines$Sheet", name := "addSign", desc := "(I)V" } : Jvm.MethodName)
def w_She_addSign : List Cond := .code y_She_addSign b_She_addSign 2 (none) :: TB
abbrev b_Pri_isFactLetter : ByteArray := prog_1_method_25_code
abbrev y_Pri_isFactLetter : MethodName := ({ cls := "PriceLines", name := "isFactLetter", desc := "(I)Z" } : Jvm.MethodName)
def w_Pri_isFactLetter : List Cond := .code y_Pri_isFactLetter b_Pri_isFactLetter 1 (some .boolean) :: TB
abbrev b_Rea_acceptFact : ByteArray := prog_8_method_6_code
abbrev y_Rea_acceptFact : MethodName := ({ cls := "PriceLines$Reader", name := "acceptFact", desc := "(CLPriceLines$Sheet;)Z" } : Jvm.MethodName)
def w_Rea_acceptFact : List Cond := .code y_Rea_acceptFact b_Rea_acceptFact 3 (some .boolean) :: TB
abbrev b_She_addCharacter : ByteArray := prog_10_method_5_code
abbrev y_She_addCharacter : MethodName := ({ cls := "PriceLines$Sheet", name := "addCharacter", desc := "(C)V" } : Jvm.MethodName)
def w_She_addCharacter : List Cond := .code y_She_addCharacter b_She_addCharacter 2 (none) :: TB
abbrev b_Rea_acceptOperator : ByteArray := prog_8_method_7_code
abbrev y_Rea_acceptOperator : MethodName := ({ cls := "PriceLines$Reader", name := "acceptOperator", desc := "(CILPriceLines$Sheet;)Z" } : Jvm.MethodName)
def w_Rea_acceptOperator : List Cond := .code y_Rea_acceptOperator b_Rea_acceptOperator 4 (some .boolean) :: TB
abbrev b_Rea_acceptEnd : ByteArray := prog_8_method_8_code
abbrev y_Rea_acceptEnd : MethodName := ({ cls := "PriceLines$Reader", name := "acceptEnd", desc := "(CLPriceLines$Sheet;)Z" } : Jvm.MethodName)
def w_Rea_acceptEnd : List Cond := .code y_Rea_acceptEnd b_Rea_acceptEnd 3 (some .boolean) :: TB
abbrev b_She_addEnd : ByteArray := prog_10_method_6_code
abbrev y_She_addEnd : MethodName := ({ cls := "PriceLines$Sheet", name := "addEnd", desc := "(C)V" } : Jvm.MethodName)
def w_She_addEnd : List Cond := .code y_She_addEnd b_She_addEnd 2 (none) :: TB
abbrev b_Pri_run : ByteArray := prog_1_method_6_code
abbrev y_Pri_run : MethodName := ({ cls := "PriceLines", name := "run", desc := "()I" } : Jvm.MethodName)
def w_Pri_run : List Cond := .code y_Pri_run b_Pri_run 1 (some .int) :: TB
abbrev b_Rec_reckon : ByteArray := prog_9_method_2_code
abbrev y_Rec_reckon : MethodName := ({ cls := "PriceLines$Reckoning", name := "reckon", desc := "(LPriceLines$Sheet;LPriceLines$Facts;)J" } : Jvm.MethodName)
def w_Rec_reckon : List Cond := .code y_Rec_reckon b_Rec_reckon 4 (some .long) :: TB
abbrev b_Fra_set : ByteArray := prog_4_method_2_code
abbrev y_Fra_set : MethodName := ({ cls := "PriceLines$Fraction", name := "set", desc := "(JJ)Z" } : Jvm.MethodName)
def w_Fra_set : List Cond := .code y_Fra_set b_Fra_set 11 (some .boolean) :: TB
abbrev b_Mat_abs : ByteArray := prog_17_method_61_code
abbrev y_Mat_abs : MethodName := ({ cls := "java/lang/Math", name := "abs", desc := "(J)J" } : Jvm.MethodName)
def w_Mat_abs : List Cond := .code y_Mat_abs b_Mat_abs 2 (some .long) :: TB
abbrev b_Fra_commonDivisor : ByteArray := prog_4_method_12_code
abbrev y_Fra_commonDivisor : MethodName := ({ cls := "PriceLines$Fraction", name := "commonDivisor", desc := "(JJ)J" } : Jvm.MethodName)
def w_Fra_commonDivisor : List Cond := .code y_Fra_commonDivisor b_Fra_commonDivisor 11 (some .long) :: TB
abbrev b_Rec_reckonLine : ByteArray := prog_9_method_4_code
abbrev y_Rec_reckonLine : MethodName := ({ cls := "PriceLines$Reckoning", name := "reckonLine", desc := "(ILPriceLines$Sheet;LPriceLines$Facts;)V" } : Jvm.MethodName)
def w_Rec_reckonLine : List Cond := .code y_Rec_reckonLine b_Rec_reckonLine 10 (none) :: TB
abbrev b_She_firstOf : ByteArray := prog_10_method_7_code
abbrev y_She_firstOf : MethodName := ({ cls := "PriceLines$Sheet", name := "firstOf", desc := "(I)I" } : Jvm.MethodName)
def w_She_firstOf : List Cond := .code y_She_firstOf b_She_firstOf 2 (some .int) :: TB
abbrev b_She_endOf : ByteArray := prog_10_method_8_code
abbrev y_She_endOf : MethodName := ({ cls := "PriceLines$Sheet", name := "endOf", desc := "(I)I" } : Jvm.MethodName)
def w_She_endOf : List Cond := .code y_She_endOf b_She_endOf 2 (some .int) :: TB
abbrev b_She_signAt : ByteArray := prog_10_method_9_code
abbrev y_She_signAt : MethodName := ({ cls := "PriceLines$Sheet", name := "signAt", desc := "(I)I" } : Jvm.MethodName)
def w_She_signAt : List Cond := .code y_She_signAt b_She_signAt 2 (some .int) :: TB
abbrev b_Rec_apply : ByteArray := prog_9_method_5_code
abbrev y_Rec_apply : MethodName := ({ cls := "PriceLines$Reckoning", name := "apply", desc := "(ILPriceLines$Facts;)I" } : Jvm.MethodName)
def w_Rec_apply : List Cond := .code y_Rec_apply b_Rec_apply 6 (some .int) :: TB
abbrev b_Rec_lay : ByteArray := prog_9_method_6_code
abbrev y_Rec_lay : MethodName := ({ cls := "PriceLines$Reckoning", name := "lay", desc := "(II)I" } : Jvm.MethodName)
def w_Rec_lay : List Cond := .code y_Rec_lay b_Rec_lay 3 (some .int) :: TB
abbrev b_Rec_stackedAt : ByteArray := prog_9_method_8_code
abbrev y_Rec_stackedAt : MethodName := ({ cls := "PriceLines$Reckoning", name := "stackedAt", desc := "(I)LPriceLines$Fraction;" } : Jvm.MethodName)
def w_Rec_stackedAt : List Cond := .code y_Rec_stackedAt b_Rec_stackedAt 2 (some (.object "PriceLines$Fraction")) :: TB
abbrev b_Rec_reasonUnless : ByteArray := prog_9_method_9_code
abbrev y_Rec_reasonUnless : MethodName := ({ cls := "PriceLines$Reckoning", name := "reasonUnless", desc := "(Z)I" } : Jvm.MethodName)
def w_Rec_reasonUnless : List Cond := .code y_Rec_reasonUnless b_Rec_reasonUnless 1 (some .int) :: TB
abbrev b_Fac_isTold : ByteArray := prog_3_method_4_code
abbrev y_Fac_isTold : MethodName := ({ cls := "PriceLines$Facts", name := "isTold", desc := "(I)Z" } : Jvm.MethodName)
def w_Fac_isTold : List Cond := .code y_Fac_isTold b_Fac_isTold 2 (some .boolean) :: TB
abbrev b_Fac_belowOf : ByteArray := prog_3_method_6_code
abbrev y_Fac_belowOf : MethodName := ({ cls := "PriceLines$Facts", name := "belowOf", desc := "(I)I" } : Jvm.MethodName)
def w_Fac_belowOf : List Cond := .code y_Fac_belowOf b_Fac_belowOf 3 (some .int) :: TB
abbrev b_Fac_aboveOf : ByteArray := prog_3_method_5_code
abbrev y_Fac_aboveOf : MethodName := ({ cls := "PriceLines$Facts", name := "aboveOf", desc := "(I)I" } : Jvm.MethodName)
def w_Fac_aboveOf : List Cond := .code y_Fac_aboveOf b_Fac_aboveOf 3 (some .int) :: TB
abbrev b_Fra_roundToHundredths : ByteArray := prog_4_method_9_code
abbrev y_Fra_roundToHundredths : MethodName := ({ cls := "PriceLines$Fraction", name := "roundToHundredths", desc := "()Z" } : Jvm.MethodName)
def w_Fra_roundToHundredths : List Cond := .code y_Fra_roundToHundredths b_Fra_roundToHundredths 1 (some .boolean) :: TB
abbrev b_Fra_hundredths : ByteArray := prog_4_method_11_code
abbrev y_Fra_hundredths : MethodName := ({ cls := "PriceLines$Fraction", name := "hundredths", desc := "()J" } : Jvm.MethodName)
def w_Fra_hundredths : List Cond := .code y_Fra_hundredths b_Fra_hundredths 3 (some .long) :: TB
abbrev b_Mat_floorDiv : ByteArray := prog_17_method_49_code
abbrev y_Mat_floorDiv : MethodName := ({ cls := "java/lang/Math", name := "floorDiv", desc := "(JJ)J" } : Jvm.MethodName)
def w_Mat_floorDiv : List Cond := .code y_Mat_floorDiv b_Mat_floorDiv 6 (some .long) :: TB
abbrev b_Fra_add : ByteArray := prog_4_method_4_code
abbrev y_Fra_add : MethodName := ({ cls := "PriceLines$Fraction", name := "add", desc := "(LPriceLines$Fraction;)Z" } : Jvm.MethodName)
def w_Fra_add : List Cond := .code y_Fra_add b_Fra_add 2 (some .boolean) :: TB
abbrev b_Fra_subtract : ByteArray := prog_4_method_5_code
abbrev y_Fra_subtract : MethodName := ({ cls := "PriceLines$Fraction", name := "subtract", desc := "(LPriceLines$Fraction;)Z" } : Jvm.MethodName)
def w_Fra_subtract : List Cond := .code y_Fra_subtract b_Fra_subtract 2 (some .boolean) :: TB
abbrev b_Fra_multiply : ByteArray := prog_4_method_6_code
abbrev y_Fra_multiply : MethodName := ({ cls := "PriceLines$Fraction", name := "multiply", desc := "(LPriceLines$Fraction;)Z" } : Jvm.MethodName)
def w_Fra_multiply : List Cond := .code y_Fra_multiply b_Fra_multiply 2 (some .boolean) :: TB
abbrev b_Fra_divide : ByteArray := prog_4_method_7_code
abbrev y_Fra_divide : MethodName := ({ cls := "PriceLines$Fraction", name := "divide", desc := "(LPriceLines$Fraction;)Z" } : Jvm.MethodName)
def w_Fra_divide : List Cond := .code y_Fra_divide b_Fra_divide 2 (some .boolean) :: TB
abbrev b_Fra_isLessThan : ByteArray := prog_4_method_10_code
abbrev y_Fra_isLessThan : MethodName := ({ cls := "PriceLines$Fraction", name := "isLessThan", desc := "(LPriceLines$Fraction;)Z" } : Jvm.MethodName)
def w_Fra_isLessThan : List Cond := .code y_Fra_isLessThan b_Fra_isLessThan 2 (some .boolean) :: TB
abbrev b_Fra_copy : ByteArray := prog_4_method_3_code
abbrev y_Fra_copy : MethodName := ({ cls := "PriceLines$Fraction", name := "copy", desc := "(LPriceLines$Fraction;)V" } : Jvm.MethodName)
def w_Fra_copy : List Cond := .code y_Fra_copy b_Fra_copy 2 (none) :: TB
abbrev b_Rec_endLine : ByteArray := prog_9_method_7_code
abbrev y_Rec_endLine : MethodName := ({ cls := "PriceLines$Reckoning", name := "endLine", desc := "(ILPriceLines$Fraction;)I" } : Jvm.MethodName)
def w_Rec_endLine : List Cond := .code y_Rec_endLine b_Rec_endLine 4 (some .int) :: TB
abbrev b_Fra_divideByHundred : ByteArray := prog_4_method_8_code
abbrev y_Fra_divideByHundred : MethodName := ({ cls := "PriceLines$Fraction", name := "divideByHundred", desc := "()Z" } : Jvm.MethodName)
def w_Fra_divideByHundred : List Cond := .code y_Fra_divideByHundred b_Fra_divideByHundred 1 (some .boolean) :: TB
abbrev b_Pri_cents : ByteArray := prog_1_method_7_code
abbrev y_Pri_cents : MethodName := ({ cls := "PriceLines", name := "cents", desc := "()J" } : Jvm.MethodName)
def w_Pri_cents : List Cond := .code y_Pri_cents b_Pri_cents 1 (some .long) :: TB
abbrev b_Law_fact : ByteArray := method_3_code
abbrev y_Law_fact : MethodName := ({ cls := "PriceLinesLaw", name := "fact", desc := "(LPriceLines;III)I" } : Jvm.MethodName)
def w_Law_fact : List Cond := .codeWith y_Law_fact b_Law_fact 5 (some .int) [((0 : Nat), (7 : Nat), (10 : Nat), (13 : Nat)), ((0 : Nat), (7 : Nat), (14 : Nat), (15 : Nat))] :: TB
abbrev b_Pri_fact : ByteArray := prog_1_method_4_code
abbrev y_Pri_fact : MethodName := ({ cls := "PriceLines", name := "fact", desc := "(III)V" } : Jvm.MethodName)
def w_Pri_fact : List Cond := .code y_Pri_fact b_Pri_fact 4 (none) :: TB
abbrev b_Pri_requireLetter : ByteArray := prog_1_method_19_code
abbrev y_Pri_requireLetter : MethodName := ({ cls := "PriceLines", name := "requireLetter", desc := "(I)V" } : Jvm.MethodName)
def w_Pri_requireLetter : List Cond := .code y_Pri_requireLetter b_Pri_requireLetter 1 (none) :: TB
abbrev b_Pri_requireFactNumbers : ByteArray := prog_1_method_20_code
abbrev y_Pri_requireFactNumbers : MethodName := ({ cls := "PriceLines", name := "requireFactNumbers", desc := "(II)V" } : Jvm.MethodName)
def w_Pri_requireFactNumbers : List Cond := .code y_Pri_requireFactNumbers b_Pri_requireFactNumbers 2 (none) :: TB
abbrev b_Fac_tell : ByteArray := prog_3_method_2_code
abbrev y_Fac_tell : MethodName := ({ cls := "PriceLines$Facts", name := "tell", desc := "(III)V" } : Jvm.MethodName)
def w_Fac_tell : List Cond := .code y_Fac_tell b_Fac_tell 5 (none) :: TB
abbrev b_Law_forget : ByteArray := method_4_code
abbrev y_Law_forget : MethodName := ({ cls := "PriceLinesLaw", name := "forget", desc := "(LPriceLines;I[J)I" } : Jvm.MethodName)
def w_Law_forget : List Cond := .codeWith y_Law_forget b_Law_forget 4 (some .int) [((0 : Nat), (16 : Nat), (19 : Nat), (13 : Nat))] :: TB
abbrev b_Pri_forget : ByteArray := prog_1_method_5_code
abbrev y_Pri_forget : MethodName := ({ cls := "PriceLines", name := "forget", desc := "(I)Z" } : Jvm.MethodName)
def w_Pri_forget : List Cond := .code y_Pri_forget b_Pri_forget 3 (some .boolean) :: TB
abbrev b_Fac_drop : ByteArray := prog_3_method_3_code
abbrev y_Fac_drop : MethodName := ({ cls := "PriceLines$Facts", name := "drop", desc := "(I)V" } : Jvm.MethodName)
def w_Fac_drop : List Cond := .code y_Fac_drop b_Fac_drop 2 (none) :: TB
abbrev b_Law_line : ByteArray := method_5_code
abbrev y_Law_line : MethodName := ({ cls := "PriceLinesLaw", name := "line", desc := "(LPriceLines;II[J)I" } : Jvm.MethodName)
def w_Law_line : List Cond := .codeWith y_Law_line b_Law_line 5 (some .int) [((0 : Nat), (9 : Nat), (12 : Nat), (13 : Nat))] :: TB
abbrev b_Pri_line : ByteArray := prog_1_method_8_code
abbrev y_Pri_line : MethodName := ({ cls := "PriceLines", name := "line", desc := "(II)J" } : Jvm.MethodName)
def w_Pri_line : List Cond := .code y_Pri_line b_Pri_line 3 (some .long) :: TB
abbrev b_Rec_partOf : ByteArray := prog_9_method_3_code
abbrev y_Rec_partOf : MethodName := ({ cls := "PriceLines$Reckoning", name := "partOf", desc := "(II)J" } : Jvm.MethodName)
def w_Rec_partOf : List Cond := .code y_Rec_partOf b_Rec_partOf 3 (some .long) :: TB
abbrev b_Law_changed : ByteArray := method_6_code
abbrev y_Law_changed : MethodName := ({ cls := "PriceLinesLaw", name := "changed", desc := "(LPriceLines;III[J)I" } : Jvm.MethodName)
def w_Law_changed : List Cond := .codeWith y_Law_changed b_Law_changed 6 (some .int) [((0 : Nat), (11 : Nat), (14 : Nat), (13 : Nat)), ((0 : Nat), (11 : Nat), (18 : Nat), (15 : Nat))] :: TB
abbrev b_Pri_changed : ByteArray := prog_1_method_9_code
abbrev y_Pri_changed : MethodName := ({ cls := "PriceLines", name := "changed", desc := "(III)J" } : Jvm.MethodName)
def w_Pri_changed : List Cond := .code y_Pri_changed b_Pri_changed 11 (some .long) :: TB
abbrev b_Law_currency : ByteArray := method_7_code
abbrev y_Law_currency : MethodName := ({ cls := "PriceLinesLaw", name := "currency", desc := "(LPriceLines;III[J)I" } : Jvm.MethodName)
def w_Law_currency : List Cond := .codeWith y_Law_currency b_Law_currency 6 (some .int) [((0 : Nat), (12 : Nat), (15 : Nat), (15 : Nat)), ((0 : Nat), (12 : Nat), (19 : Nat), (33 : Nat))] :: TB
abbrev b_Pri_currency : ByteArray := prog_1_method_10_code
abbrev y_Pri_currency : MethodName := ({ cls := "PriceLines", name := "currency", desc := "(III)I" } : Jvm.MethodName)
def w_Pri_currency : List Cond := .code y_Pri_currency b_Pri_currency 4 (some .int) :: TB
abbrev b_Pri_requireDay : ByteArray := prog_1_method_21_code
abbrev y_Pri_requireDay : MethodName := ({ cls := "PriceLines", name := "requireDay", desc := "(I)V" } : Jvm.MethodName)
def w_Pri_requireDay : List Cond := .code y_Pri_requireDay b_Pri_requireDay 1 (none) :: TB
abbrev b_Cur_isBehindLast : ByteArray := prog_2_method_2_code
abbrev y_Cur_isBehindLast : MethodName := ({ cls := "PriceLines$Currencies", name := "isBehindLast", desc := "(I)Z" } : Jvm.MethodName)
def w_Cur_isBehindLast : List Cond := .code y_Cur_isBehindLast b_Cur_isBehindLast 3 (some .boolean) :: TB
abbrev b_Pri_isRate : ByteArray := prog_1_method_26_code
abbrev y_Pri_isRate : MethodName := ({ cls := "PriceLines", name := "isRate", desc := "(I)Z" } : Jvm.MethodName)
def w_Pri_isRate : List Cond := .code y_Pri_isRate b_Pri_isRate 1 (some .boolean) :: TB
abbrev b_Cur_add : ByteArray := prog_2_method_3_code
abbrev y_Cur_add : MethodName := ({ cls := "PriceLines$Currencies", name := "add", desc := "(III)V" } : Jvm.MethodName)
def w_Cur_add : List Cond := .code y_Cur_add b_Cur_add 4 (none) :: TB
abbrev b_Law_centsAt : ByteArray := method_8_code
abbrev y_Law_centsAt : MethodName := ({ cls := "PriceLinesLaw", name := "centsAt", desc := "(LPriceLines;I[J)I" } : Jvm.MethodName)
def w_Law_centsAt : List Cond := .codeWith y_Law_centsAt b_Law_centsAt 4 (some .int) [((0 : Nat), (8 : Nat), (11 : Nat), (15 : Nat))] :: TB
abbrev b_Pri_centsAt : ByteArray := prog_1_method_11_code
abbrev y_Pri_centsAt : MethodName := ({ cls := "PriceLines", name := "centsAt", desc := "(I)J" } : Jvm.MethodName)
def w_Pri_centsAt : List Cond := .code y_Pri_centsAt b_Pri_centsAt 2 (some .long) :: TB
abbrev b_Cur_convert : ByteArray := prog_2_method_4_code
abbrev y_Cur_convert : MethodName := ({ cls := "PriceLines$Currencies", name := "convert", desc := "(JI)J" } : Jvm.MethodName)
def w_Cur_convert : List Cond := .code y_Cur_convert b_Cur_convert 5 (some .long) :: TB
abbrev b_Cur_rowAt : ByteArray := prog_2_method_5_code
abbrev y_Cur_rowAt : MethodName := ({ cls := "PriceLines$Currencies", name := "rowAt", desc := "(I)I" } : Jvm.MethodName)
def w_Cur_rowAt : List Cond := .code y_Cur_rowAt b_Cur_rowAt 4 (some .int) :: TB
abbrev b_Law_offer : ByteArray := method_9_code
abbrev y_Law_offer : MethodName := ({ cls := "PriceLinesLaw", name := "offer", desc := "(LPriceLines;I[J)I" } : Jvm.MethodName)
def w_Law_offer : List Cond := .codeWith y_Law_offer b_Law_offer 4 (some .int) [((0 : Nat), (9 : Nat), (12 : Nat), (15 : Nat)), ((0 : Nat), (9 : Nat), (15 : Nat), (33 : Nat))] :: TB
abbrev b_Pri_offer : ByteArray := prog_1_method_12_code
abbrev y_Pri_offer : MethodName := ({ cls := "PriceLines", name := "offer", desc := "(I)I" } : Jvm.MethodName)
def w_Pri_offer : List Cond := .code y_Pri_offer b_Pri_offer 4 (some .int) :: TB
abbrev b_Off_add : ByteArray := prog_7_method_2_code
abbrev y_Off_add : MethodName := ({ cls := "PriceLines$Offers", name := "add", desc := "(JI)I" } : Jvm.MethodName)
def w_Off_add : List Cond := .code y_Off_add b_Off_add 5 (some .int) :: TB
abbrev b_Law_offered : ByteArray := method_10_code
abbrev y_Law_offered : MethodName := ({ cls := "PriceLinesLaw", name := "offered", desc := "(LPriceLines;II[J)I" } : Jvm.MethodName)
def w_Law_offered : List Cond := .codeWith y_Law_offered b_Law_offered 5 (some .int) [((0 : Nat), (9 : Nat), (12 : Nat), (13 : Nat)), ((0 : Nat), (9 : Nat), (16 : Nat), (15 : Nat)), ((0 : Nat), (9 : Nat), (20 : Nat), (33 : Nat))] :: TB
abbrev b_Pri_offered : ByteArray := prog_1_method_13_code
abbrev y_Pri_offered : MethodName := ({ cls := "PriceLines", name := "offered", desc := "(II)J" } : Jvm.MethodName)
def w_Pri_offered : List Cond := .code y_Pri_offered b_Pri_offered 3 (some .long) :: TB
abbrev b_Pri_requireOffer : ByteArray := prog_1_method_22_code
abbrev y_Pri_requireOffer : MethodName := ({ cls := "PriceLines", name := "requireOffer", desc := "(I)V" } : Jvm.MethodName)
def w_Pri_requireOffer : List Cond := .code y_Pri_requireOffer b_Pri_requireOffer 2 (none) :: TB
abbrev b_Pri_requireHeld : ByteArray := prog_1_method_23_code
abbrev y_Pri_requireHeld : MethodName := ({ cls := "PriceLines", name := "requireHeld", desc := "(II)V" } : Jvm.MethodName)
def w_Pri_requireHeld : List Cond := .code y_Pri_requireHeld b_Pri_requireHeld 3 (none) :: TB
abbrev b_Off_lastDayOf : ByteArray := prog_7_method_4_code
abbrev y_Off_lastDayOf : MethodName := ({ cls := "PriceLines$Offers", name := "lastDayOf", desc := "(I)I" } : Jvm.MethodName)
def w_Off_lastDayOf : List Cond := .code y_Off_lastDayOf b_Off_lastDayOf 2 (some .int) :: TB
abbrev b_Off_centsOf : ByteArray := prog_7_method_3_code
abbrev y_Off_centsOf : MethodName := ({ cls := "PriceLines$Offers", name := "centsOf", desc := "(I)J" } : Jvm.MethodName)
def w_Off_centsOf : List Cond := .code y_Off_centsOf b_Off_centsOf 2 (some .long) :: TB
abbrev b_Law_differs : ByteArray := method_11_code
abbrev y_Law_differs : MethodName := ({ cls := "PriceLinesLaw", name := "differs", desc := "(LPriceLines;II[J)I" } : Jvm.MethodName)
def w_Law_differs : List Cond := .codeWith y_Law_differs b_Law_differs 5 (some .int) [((0 : Nat), (9 : Nat), (12 : Nat), (13 : Nat))] :: TB
abbrev b_Pri_differs : ByteArray := prog_1_method_14_code
abbrev y_Pri_differs : MethodName := ({ cls := "PriceLines", name := "differs", desc := "(II)J" } : Jvm.MethodName)
def w_Pri_differs : List Cond := .code y_Pri_differs b_Pri_differs 3 (some .long) :: TB
abbrev b_Law_invoice : ByteArray := method_12_code
abbrev y_Law_invoice : MethodName := ({ cls := "PriceLinesLaw", name := "invoice", desc := "(LPriceLines;II[J)I" } : Jvm.MethodName)
def w_Law_invoice : List Cond := .codeWith y_Law_invoice b_Law_invoice 5 (some .int) [((0 : Nat), (10 : Nat), (13 : Nat), (13 : Nat)), ((0 : Nat), (10 : Nat), (17 : Nat), (15 : Nat)), ((0 : Nat), (10 : Nat), (21 : Nat), (33 : Nat))] :: TB
abbrev b_Pri_invoice : ByteArray := prog_1_method_15_code
abbrev y_Pri_invoice : MethodName := ({ cls := "PriceLines", name := "invoice", desc := "(II)I" } : Jvm.MethodName)
def w_Pri_invoice : List Cond := .code y_Pri_invoice b_Pri_invoice 5 (some .int) :: TB
abbrev b_Inv_add : ByteArray := prog_5_method_2_code
abbrev y_Inv_add : MethodName := ({ cls := "PriceLines$Invoices", name := "add", desc := "(J)I" } : Jvm.MethodName)
def w_Inv_add : List Cond := .code y_Inv_add b_Inv_add 4 (some .int) :: TB
abbrev b_Law_left : ByteArray := method_13_code
abbrev y_Law_left : MethodName := ({ cls := "PriceLinesLaw", name := "left", desc := "(LPriceLines;I[J)I" } : Jvm.MethodName)
def w_Law_left : List Cond := .codeWith y_Law_left b_Law_left 4 (some .int) [((0 : Nat), (8 : Nat), (11 : Nat), (13 : Nat))] :: TB
abbrev b_Pri_left : ByteArray := prog_1_method_16_code
abbrev y_Pri_left : MethodName := ({ cls := "PriceLines", name := "left", desc := "(I)J" } : Jvm.MethodName)
def w_Pri_left : List Cond := .code y_Pri_left b_Pri_left 2 (some .long) :: TB
abbrev b_Pri_requireInvoice : ByteArray := prog_1_method_24_code
abbrev y_Pri_requireInvoice : MethodName := ({ cls := "PriceLines", name := "requireInvoice", desc := "(I)V" } : Jvm.MethodName)
def w_Pri_requireInvoice : List Cond := .code y_Pri_requireInvoice b_Pri_requireInvoice 2 (none) :: TB
abbrev b_Inv_leftOf : ByteArray := prog_5_method_3_code
abbrev y_Inv_leftOf : MethodName := ({ cls := "PriceLines$Invoices", name := "leftOf", desc := "(I)J" } : Jvm.MethodName)
def w_Inv_leftOf : List Cond := .code y_Inv_leftOf b_Inv_leftOf 2 (some .long) :: TB
abbrev b_Law_refund : ByteArray := method_14_code
abbrev y_Law_refund : MethodName := ({ cls := "PriceLinesLaw", name := "refund", desc := "(LPriceLines;II[J)I" } : Jvm.MethodName)
def w_Law_refund : List Cond := .codeWith y_Law_refund b_Law_refund 5 (some .int) [((0 : Nat), (17 : Nat), (20 : Nat), (13 : Nat)), ((0 : Nat), (17 : Nat), (24 : Nat), (15 : Nat))] :: TB
abbrev b_Pri_refund : ByteArray := prog_1_method_17_code
abbrev y_Pri_refund : MethodName := ({ cls := "PriceLines", name := "refund", desc := "(II)Z" } : Jvm.MethodName)
def w_Pri_refund : List Cond := .code y_Pri_refund b_Pri_refund 3 (some .boolean) :: TB
abbrev b_Inv_takeOff : ByteArray := prog_5_method_4_code
abbrev y_Inv_takeOff : MethodName := ({ cls := "PriceLines$Invoices", name := "takeOff", desc := "(II)Z" } : Jvm.MethodName)
def w_Inv_takeOff : List Cond := .code y_Inv_takeOff b_Inv_takeOff 3 (some .boolean) :: TB
abbrev b_Law_learn : ByteArray := method_15_code
abbrev y_Law_learn : MethodName := ({ cls := "PriceLinesLaw", name := "learn", desc := "(LPriceLines;II[J)I" } : Jvm.MethodName)
def w_Law_learn : List Cond := .codeWith y_Law_learn b_Law_learn 5 (some .int) [((0 : Nat), (10 : Nat), (13 : Nat), (13 : Nat)), ((0 : Nat), (10 : Nat), (17 : Nat), (15 : Nat))] :: TB
abbrev b_Pri_learn : ByteArray := prog_1_method_18_code
abbrev y_Pri_learn : MethodName := ({ cls := "PriceLines", name := "learn", desc := "(II)I" } : Jvm.MethodName)
def w_Pri_learn : List Cond := .code y_Pri_learn b_Pri_learn 3 (some .int) :: TB
abbrev b_Min_add : ByteArray := prog_6_method_2_code
abbrev y_Min_add : MethodName := ({ cls := "PriceLines$Minutes", name := "add", desc := "(II)V" } : Jvm.MethodName)
def w_Min_add : List Cond := .code y_Min_add b_Min_add 3 (none) :: TB
abbrev b_Min_meanOf : ByteArray := prog_6_method_3_code
abbrev y_Min_meanOf : MethodName := ({ cls := "PriceLines$Minutes", name := "meanOf", desc := "(I)I" } : Jvm.MethodName)
def w_Min_meanOf : List Cond := .code y_Min_meanOf b_Min_meanOf 2 (some .int) :: TB
abbrev b_Mod_init : ByteArray := prog_12_method_1_code
abbrev y_Mod_init : MethodName := ({ cls := "PriceLinesModel", name := "<init>", desc := "()V" } : Jvm.MethodName)
def w_Mod_init : List Cond := .code y_Mod_init b_Mod_init 1 (none) :: TB
abbrev b_Mod_thrown : ByteArray := prog_12_method_2_code
abbrev y_Mod_thrown : MethodName := ({ cls := "PriceLinesModel", name := "thrown", desc := "()I" } : Jvm.MethodName)
def w_Mod_thrown : List Cond := .code y_Mod_thrown b_Mod_thrown 1 (some .int) :: TB
abbrev b_Mod_unit : ByteArray := prog_12_method_4_code
abbrev y_Mod_unit : MethodName := ({ cls := "PriceLinesModel", name := "unit", desc := "(I)Z" } : Jvm.MethodName)
def w_Mod_unit : List Cond := .code y_Mod_unit b_Mod_unit 3 (some .boolean) :: TB
abbrev b_Mod_isIn : ByteArray := prog_12_method_3_code
abbrev y_Mod_isIn : MethodName := ({ cls := "PriceLinesModel", name := "isIn", desc := "(JJJ)Z" } : Jvm.MethodName)
def w_Mod_isIn : List Cond := .code y_Mod_isIn b_Mod_isIn 6 (some .boolean) :: TB
abbrev b_Mod_read : ByteArray := prog_12_method_9_code
abbrev y_Mod_read : MethodName := ({ cls := "PriceLinesModel", name := "read", desc := "()I" } : Jvm.MethodName)
def w_Mod_read : List Cond := .code y_Mod_read b_Mod_read 3 (some .int) :: TB
abbrev b_Mod_fault : ByteArray := prog_12_method_8_code
abbrev y_Mod_fault : MethodName := ({ cls := "PriceLinesModel", name := "fault", desc := "()I" } : Jvm.MethodName)
def w_Mod_fault : List Cond := .code y_Mod_fault b_Mod_fault 10 (some .int) :: TB
abbrev b_Mod_isDigit : ByteArray := prog_12_method_5_code
abbrev y_Mod_isDigit : MethodName := ({ cls := "PriceLinesModel", name := "isDigit", desc := "(I)Z" } : Jvm.MethodName)
def w_Mod_isDigit : List Cond := .code y_Mod_isDigit b_Mod_isDigit 1 (some .boolean) :: TB
abbrev b_Mod_isTwo : ByteArray := prog_12_method_6_code
abbrev y_Mod_isTwo : MethodName := ({ cls := "PriceLinesModel", name := "isTwo", desc := "(I)Z" } : Jvm.MethodName)
def w_Mod_isTwo : List Cond := .code y_Mod_isTwo b_Mod_isTwo 1 (some .boolean) :: TB
abbrev b_Mod_isEnd : ByteArray := prog_12_method_7_code
abbrev y_Mod_isEnd : MethodName := ({ cls := "PriceLinesModel", name := "isEnd", desc := "(I)Z" } : Jvm.MethodName)
def w_Mod_isEnd : List Cond := .code y_Mod_isEnd b_Mod_isEnd 1 (some .boolean) :: TB
abbrev b_Mod_fact : ByteArray := prog_12_method_24_code
abbrev y_Mod_fact : MethodName := ({ cls := "PriceLinesModel", name := "fact", desc := "(III)V" } : Jvm.MethodName)
def w_Mod_fact : List Cond := .code y_Mod_fact b_Mod_fact 4 (none) :: TB
abbrev b_Mod_factFault : ByteArray := prog_12_method_22_code
abbrev y_Mod_factFault : MethodName := ({ cls := "PriceLinesModel", name := "factFault", desc := "(III)I" } : Jvm.MethodName)
def w_Mod_factFault : List Cond := .code y_Mod_factFault b_Mod_factFault 4 (some .int) :: TB
abbrev b_Mod_noFact : ByteArray := prog_12_method_21_code
abbrev y_Mod_noFact : MethodName := ({ cls := "PriceLinesModel", name := "noFact", desc := "(I)Z" } : Jvm.MethodName)
def w_Mod_noFact : List Cond := .code y_Mod_noFact b_Mod_noFact 1 (some .boolean) :: TB
abbrev b_Mod_setFact : ByteArray := prog_12_method_23_code
abbrev y_Mod_setFact : MethodName := ({ cls := "PriceLinesModel", name := "setFact", desc := "(III)V" } : Jvm.MethodName)
def w_Mod_setFact : List Cond := .code y_Mod_setFact b_Mod_setFact 5 (none) :: TB
abbrev b_Mod_make : ByteArray := prog_12_method_11_code
abbrev y_Mod_make : MethodName := ({ cls := "PriceLinesModel", name := "make", desc := "(JJ)Z" } : Jvm.MethodName)
def w_Mod_make : List Cond := .code y_Mod_make b_Mod_make 11 (some .boolean) :: TB
abbrev b_Mod_size : ByteArray := prog_12_method_10_code
abbrev y_Mod_size : MethodName := ({ cls := "PriceLinesModel", name := "size", desc := "(J)J" } : Jvm.MethodName)
def w_Mod_size : List Cond := .code y_Mod_size b_Mod_size 2 (some .long) :: TB
abbrev b_Mod_forget : ByteArray := prog_12_method_25_code
abbrev y_Mod_forget : MethodName := ({ cls := "PriceLinesModel", name := "forget", desc := "(I)Z" } : Jvm.MethodName)
def w_Mod_forget : List Cond := .code y_Mod_forget b_Mod_forget 3 (some .boolean) :: TB
abbrev b_Mod_run : ByteArray := prog_12_method_26_code
abbrev y_Mod_run : MethodName := ({ cls := "PriceLinesModel", name := "run", desc := "()I" } : Jvm.MethodName)
def w_Mod_run : List Cond := .code y_Mod_run b_Mod_run 3 (some .int) :: TB
abbrev b_Mod_reckon : ByteArray := prog_12_method_19_code
abbrev y_Mod_reckon : MethodName := ({ cls := "PriceLinesModel", name := "reckon", desc := "()V" } : Jvm.MethodName)
def w_Mod_reckon : List Cond := .code y_Mod_reckon b_Mod_reckon 3 (none) :: TB
abbrev b_Mod_step : ByteArray := prog_12_method_18_code
abbrev y_Mod_step : MethodName := ({ cls := "PriceLinesModel", name := "step", desc := "(I)I" } : Jvm.MethodName)
def w_Mod_step : List Cond := .code y_Mod_step b_Mod_step 3 (some .int) :: TB
abbrev b_Mod_lay : ByteArray := prog_12_method_14_code
abbrev y_Mod_lay : MethodName := ({ cls := "PriceLinesModel", name := "lay", desc := "()V" } : Jvm.MethodName)
def w_Mod_lay : List Cond := .code y_Mod_lay b_Mod_lay 1 (none) :: TB
abbrev b_Mod_two : ByteArray := prog_12_method_13_code
abbrev y_Mod_two : MethodName := ({ cls := "PriceLinesModel", name := "two", desc := "(I)I" } : Jvm.MethodName)
def w_Mod_two : List Cond := .code y_Mod_two b_Mod_two 12 (some .int) :: TB
abbrev b_Mod_add : ByteArray := prog_12_method_12_code
abbrev y_Mod_add : MethodName := ({ cls := "PriceLinesModel", name := "add", desc := "(JJJJ)Z" } : Jvm.MethodName)
def w_Mod_add : List Cond := .code y_Mod_add b_Mod_add 9 (some .boolean) :: TB
abbrev b_Mod_round : ByteArray := prog_12_method_16_code
abbrev y_Mod_round : MethodName := ({ cls := "PriceLinesModel", name := "round", desc := "()I" } : Jvm.MethodName)
def w_Mod_round : List Cond := .code y_Mod_round b_Mod_round 3 (some .int) :: TB
abbrev b_Mod_floor : ByteArray := prog_12_method_15_code
abbrev y_Mod_floor : MethodName := ({ cls := "PriceLinesModel", name := "floor", desc := "(JJ)J" } : Jvm.MethodName)
def w_Mod_floor : List Cond := .code y_Mod_floor b_Mod_floor 6 (some .long) :: TB
abbrev b_Mod_end : ByteArray := prog_12_method_17_code
abbrev y_Mod_end : MethodName := ({ cls := "PriceLinesModel", name := "end", desc := "(I)I" } : Jvm.MethodName)
def w_Mod_end : List Cond := .code y_Mod_end b_Mod_end 11 (some .int) :: TB
abbrev b_Mod_cents : ByteArray := prog_12_method_27_code
abbrev y_Mod_cents : MethodName := ({ cls := "PriceLinesModel", name := "cents", desc := "()J" } : Jvm.MethodName)
def w_Mod_cents : List Cond := .code y_Mod_cents b_Mod_cents 1 (some .long) :: TB
abbrev b_Mod_centsNow : ByteArray := prog_12_method_20_code
abbrev y_Mod_centsNow : MethodName := ({ cls := "PriceLinesModel", name := "centsNow", desc := "()J" } : Jvm.MethodName)
def w_Mod_centsNow : List Cond := .code y_Mod_centsNow b_Mod_centsNow 1 (some .long) :: TB
abbrev b_Mod_line : ByteArray := prog_12_method_28_code
abbrev y_Mod_line : MethodName := ({ cls := "PriceLinesModel", name := "line", desc := "(II)J" } : Jvm.MethodName)
def w_Mod_line : List Cond := .code y_Mod_line b_Mod_line 3 (some .long) :: TB
abbrev b_Mod_changed : ByteArray := prog_12_method_29_code
abbrev y_Mod_changed : MethodName := ({ cls := "PriceLinesModel", name := "changed", desc := "(III)J" } : Jvm.MethodName)
def w_Mod_changed : List Cond := .code y_Mod_changed b_Mod_changed 14 (some .long) :: TB
abbrev b_Mod_currency : ByteArray := prog_12_method_30_code
abbrev y_Mod_currency : MethodName := ({ cls := "PriceLinesModel", name := "currency", desc := "(III)I" } : Jvm.MethodName)
def w_Mod_currency : List Cond := .code y_Mod_currency b_Mod_currency 5 (some .int) :: TB
abbrev b_Mod_centsAt : ByteArray := prog_12_method_32_code
abbrev y_Mod_centsAt : MethodName := ({ cls := "PriceLinesModel", name := "centsAt", desc := "(I)J" } : Jvm.MethodName)
def w_Mod_centsAt : List Cond := .code y_Mod_centsAt b_Mod_centsAt 2 (some .long) :: TB
abbrev b_Mod_at : ByteArray := prog_12_method_31_code
abbrev y_Mod_at : MethodName := ({ cls := "PriceLinesModel", name := "at", desc := "(JI)J" } : Jvm.MethodName)
def w_Mod_at : List Cond := .code y_Mod_at b_Mod_at 7 (some .long) :: TB
abbrev b_Mod_offer : ByteArray := prog_12_method_33_code
abbrev y_Mod_offer : MethodName := ({ cls := "PriceLinesModel", name := "offer", desc := "(I)I" } : Jvm.MethodName)
def w_Mod_offer : List Cond := .code y_Mod_offer b_Mod_offer 2 (some .int) :: TB
abbrev b_Mod_offered : ByteArray := prog_12_method_35_code
abbrev y_Mod_offered : MethodName := ({ cls := "PriceLinesModel", name := "offered", desc := "(II)J" } : Jvm.MethodName)
def w_Mod_offered : List Cond := .code y_Mod_offered b_Mod_offered 3 (some .long) :: TB
abbrev b_Mod_noOffer : ByteArray := prog_12_method_34_code
abbrev y_Mod_noOffer : MethodName := ({ cls := "PriceLinesModel", name := "noOffer", desc := "(I)Z" } : Jvm.MethodName)
def w_Mod_noOffer : List Cond := .code y_Mod_noOffer b_Mod_noOffer 2 (some .boolean) :: TB
abbrev b_Mod_differs : ByteArray := prog_12_method_36_code
abbrev y_Mod_differs : MethodName := ({ cls := "PriceLinesModel", name := "differs", desc := "(II)J" } : Jvm.MethodName)
def w_Mod_differs : List Cond := .code y_Mod_differs b_Mod_differs 3 (some .long) :: TB
abbrev b_Mod_invoice : ByteArray := prog_12_method_37_code
abbrev y_Mod_invoice : MethodName := ({ cls := "PriceLinesModel", name := "invoice", desc := "(II)I" } : Jvm.MethodName)
def w_Mod_invoice : List Cond := .code y_Mod_invoice b_Mod_invoice 5 (some .int) :: TB
abbrev b_Mod_left : ByteArray := prog_12_method_39_code
abbrev y_Mod_left : MethodName := ({ cls := "PriceLinesModel", name := "left", desc := "(I)J" } : Jvm.MethodName)
def w_Mod_left : List Cond := .code y_Mod_left b_Mod_left 2 (some .long) :: TB
abbrev b_Mod_noInvoice : ByteArray := prog_12_method_38_code
abbrev y_Mod_noInvoice : MethodName := ({ cls := "PriceLinesModel", name := "noInvoice", desc := "(I)Z" } : Jvm.MethodName)
def w_Mod_noInvoice : List Cond := .code y_Mod_noInvoice b_Mod_noInvoice 2 (some .boolean) :: TB
abbrev b_Mod_refund : ByteArray := prog_12_method_40_code
abbrev y_Mod_refund : MethodName := ({ cls := "PriceLinesModel", name := "refund", desc := "(II)Z" } : Jvm.MethodName)
def w_Mod_refund : List Cond := .code y_Mod_refund b_Mod_refund 3 (some .boolean) :: TB
abbrev b_Mod_learn : ByteArray := prog_12_method_41_code
abbrev y_Mod_learn : MethodName := ({ cls := "PriceLinesModel", name := "learn", desc := "(II)I" } : Jvm.MethodName)
def w_Mod_learn : List Cond := .code y_Mod_learn b_Mod_learn 3 (some .int) :: TB
def NL : List Cond := [(Jvm.Cond.methodLinkNest "PriceLines" (9 : Nat) ({ cls := "PriceLines$Reader", name := "<init>", desc := "()V" } : Jvm.MethodName) "PriceLines"), (Jvm.Cond.methodLinkNest "PriceLines" (18 : Nat) ({ cls := "PriceLines$Facts", name := "<init>", desc := "()V" } : Jvm.MethodName) "PriceLines"), (Jvm.Cond.methodLinkNest "PriceLines$Reckoning" (11 : Nat) ({ cls := "PriceLines$Fraction", name := "<init>", desc := "()V" } : Jvm.MethodName) "PriceLines"), (Jvm.Cond.fieldLinkNest "PriceLines$Reckoning" (57 : Nat) "PriceLines$Fraction" "above" "J" "PriceLines"), (Jvm.Cond.fieldLinkNest "PriceLines$Reckoning" (61 : Nat) "PriceLines$Fraction" "below" "J" "PriceLines"), (Jvm.Cond.fieldLinkNest "PriceLines" (102 : Nat) "PriceLines$Reckoning" "openLines" "I" "PriceLines"), (Jvm.Cond.methodLinkNest "PriceLines" (32 : Nat) ({ cls := "PriceLines$Currencies", name := "<init>", desc := "()V" } : Jvm.MethodName) "PriceLines"), (Jvm.Cond.fieldLinkNest "PriceLines" (141 : Nat) "PriceLines$Currencies" "count" "I" "PriceLines"), (Jvm.Cond.methodLinkNest "PriceLines" (39 : Nat) ({ cls := "PriceLines$Offers", name := "<init>", desc := "()V" } : Jvm.MethodName) "PriceLines"), (Jvm.Cond.fieldLinkNest "PriceLines" (156 : Nat) "PriceLines$Offers" "count" "I" "PriceLines"), (Jvm.Cond.methodLinkNest "PriceLines" (46 : Nat) ({ cls := "PriceLines$Invoices", name := "<init>", desc := "()V" } : Jvm.MethodName) "PriceLines"), (Jvm.Cond.fieldLinkNest "PriceLines" (174 : Nat) "PriceLines$Invoices" "count" "I" "PriceLines"), (Jvm.Cond.methodLinkNest "PriceLines" (53 : Nat) ({ cls := "PriceLines$Minutes", name := "<init>", desc := "()V" } : Jvm.MethodName) "PriceLines"), (Jvm.Cond.methodLinkNest "PriceLines" (60 : Nat) ({ cls := "PriceLines$Sheet", name := "<init>", desc := "()V" } : Jvm.MethodName) "PriceLines"), (Jvm.Cond.fieldLinkNest "PriceLines$Reckoning" (40 : Nat) "PriceLines$Sheet" "lineCount" "I" "PriceLines"), (Jvm.Cond.fieldLinkNest "PriceLines" (76 : Nat) "PriceLines$Sheet" "lineCount" "I" "PriceLines"), (Jvm.Cond.fieldLinkNest "PriceLines$Reader" (38 : Nat) "PriceLines$Sheet" "lineCount" "I" "PriceLines"), (Jvm.Cond.methodLinkNest "PriceLines$Reader" (19 : Nat) ({ cls := "PriceLines", name := "isIndex", desc := "(II)Z" } : Jvm.MethodName) "PriceLines"), (Jvm.Cond.methodLinkNest "PriceLines$Sheet" (29 : Nat) ({ cls := "PriceLines", name := "isIndex", desc := "(II)Z" } : Jvm.MethodName) "PriceLines"), (Jvm.Cond.methodLinkNest "PriceLines$Reader" (45 : Nat) ({ cls := "PriceLines", name := "isFactLetter", desc := "(I)Z" } : Jvm.MethodName) "PriceLines"), (Jvm.Cond.methodLinkNest "PriceLines$Reckoning" (53 : Nat) ({ cls := "PriceLines", name := "isIndex", desc := "(II)Z" } : Jvm.MethodName) "PriceLines"), (Jvm.Cond.methodLinkNest "PriceLines$Reckoning" (89 : Nat) ({ cls := "PriceLines", name := "isFactLetter", desc := "(I)Z" } : Jvm.MethodName) "PriceLines"), (Jvm.Cond.methodLinkNest "PriceLines$Facts" (18 : Nat) ({ cls := "PriceLines", name := "isIndex", desc := "(II)Z" } : Jvm.MethodName) "PriceLines"), (Jvm.Cond.methodLinkNest "PriceLines$Currencies" (25 : Nat) ({ cls := "PriceLines", name := "isIndex", desc := "(II)Z" } : Jvm.MethodName) "PriceLines"), (Jvm.Cond.methodLinkNest "PriceLines$Offers" (23 : Nat) ({ cls := "PriceLines", name := "isIndex", desc := "(II)Z" } : Jvm.MethodName) "PriceLines"), (Jvm.Cond.methodLinkNest "PriceLines$Invoices" (19 : Nat) ({ cls := "PriceLines", name := "isIndex", desc := "(II)Z" } : Jvm.MethodName) "PriceLines"), (Jvm.Cond.methodLinkNest "PriceLines$Minutes" (18 : Nat) ({ cls := "PriceLines", name := "isIndex", desc := "(II)Z" } : Jvm.MethodName) "PriceLines")]
def isNest : Cond → Bool
  | .fieldLinkNest .. => true
  | .methodLinkNest .. => true
  | _ => false
theorem NL_nest : ∀ w ∈ NL, isNest w = true := by decide +kernel
theorem nest_tab {w : Cond} (h : isNest w = true) : w.onTables = true := by cases w <;> first | rfl | exact absurd h (by simp [isNest])
theorem nest_warm {w : Cond} (h : isNest w = true) {s U : State} (hW : s.WarmedH U.vm) (hZ : va_Nw w s) : va_Nw w U := by
  cases w <;> first | exact va_Nw.warmF hW hZ | exact va_Nw.warmM hW hZ | exact absurd h (by simp [isNest])
def NwS (U : State) : Prop := ∀ w ∈ NL, va_Nw w U
theorem NwS.same {u U : State} (h : u.vm = U.vm) (hZ : NwS u) : NwS U := fun w hw => va_Nw.same (nest_tab (NL_nest w hw)) h (hZ w hw)
theorem NwS.warm {u U : State} (h : u.WarmedH U.vm) (hZ : NwS u) : NwS U := fun w hw => nest_warm (NL_nest w hw) h (hZ w hw)
theorem NwS.get {s : State} (h : NwS s) {w : Cond} (j : Nat) (hj : NL[j]? = some w) : va_Nw w s := h w (List.mem_of_getElem? hj)
theorem NwS.use {s : State} (h : NwS s) {args : Array Value} {w : Cond} (j : Nat) (hj : NL[j]? = some w) (hn : isNest w = true) : w.before args s = true := va_Nw.use (nest_tab hn) (h.get j hj)
