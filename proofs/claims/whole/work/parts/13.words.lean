/-! the words that hold in every method: all of the tables' that a warmer machine keeps; those of nest mates and of arrays over a class apart -/
def zWS : List Cond := lw_tbl.filter goodWord
def zisN (w : Cond) : Bool := match w with
  | .fieldLinkNest .. => true
  | .methodLinkNest .. => true
  | _ => false
def zN : List Cond := tables_1.filter zisN
theorem zin_t1 {w : Cond} (i : Nat) (h : tables_1_1[i]? = some w) (g : goodWord w = true) : w ∈ zWS := List.mem_filter.mpr ⟨List.mem_append_right _ (List.mem_append_left _ (List.mem_of_getElem? h)), g⟩
theorem zin_t2 {w : Cond} (i : Nat) (h : tables_1_2[i]? = some w) (g : goodWord w = true) : w ∈ zWS := List.mem_filter.mpr ⟨List.mem_append_right _ (List.mem_append_right _ (List.mem_append_left _ (List.mem_of_getElem? h))), g⟩
theorem zin_t3 {w : Cond} (i : Nat) (h : tables_1_3[i]? = some w) (g : goodWord w = true) : w ∈ zWS := List.mem_filter.mpr ⟨List.mem_append_right _ (List.mem_append_right _ (List.mem_append_right _ (List.mem_append_left _ (List.mem_of_getElem? h)))), g⟩
theorem zin_t4 {w : Cond} (i : Nat) (h : tables_1_4[i]? = some w) (g : goodWord w = true) : w ∈ zWS := List.mem_filter.mpr ⟨List.mem_append_right _ (List.mem_append_right _ (List.mem_append_right _ (List.mem_append_right _ (List.mem_append_left _ (List.mem_of_getElem? h))))), g⟩
theorem zin_t5 {w : Cond} (i : Nat) (h : tables_1_5[i]? = some w) (g : goodWord w = true) : w ∈ zWS := List.mem_filter.mpr ⟨List.mem_append_right _ (List.mem_append_right _ (List.mem_append_right _ (List.mem_append_right _ (List.mem_append_right _ (List.mem_of_getElem? h))))), g⟩
theorem zin_p {w : Cond} (i : Nat) (h : (k2_sels lw_privs)[i]? = some w) (g : goodWord w = true) : w ∈ zWS := List.mem_filter.mpr ⟨List.mem_append_left _ (List.mem_of_getElem? h), g⟩
theorem zin_n1 {w : Cond} (i : Nat) (h : tables_1_1[i]? = some w) (g : zisN w = true) : w ∈ zN := List.mem_filter.mpr ⟨List.mem_append_left _ (List.mem_of_getElem? h), g⟩
theorem zin_n2 {w : Cond} (i : Nat) (h : tables_1_2[i]? = some w) (g : zisN w = true) : w ∈ zN := List.mem_filter.mpr ⟨List.mem_append_right _ (List.mem_append_left _ (List.mem_of_getElem? h)), g⟩
theorem zin_n3 {w : Cond} (i : Nat) (h : tables_1_3[i]? = some w) (g : zisN w = true) : w ∈ zN := List.mem_filter.mpr ⟨List.mem_append_right _ (List.mem_append_right _ (List.mem_append_left _ (List.mem_of_getElem? h))), g⟩
theorem zin_n4 {w : Cond} (i : Nat) (h : tables_1_4[i]? = some w) (g : zisN w = true) : w ∈ zN := List.mem_filter.mpr ⟨List.mem_append_right _ (List.mem_append_right _ (List.mem_append_right _ (List.mem_append_left _ (List.mem_of_getElem? h)))), g⟩
theorem zin_n5 {w : Cond} (i : Nat) (h : tables_1_5[i]? = some w) (g : zisN w = true) : w ∈ zN := List.mem_filter.mpr ⟨List.mem_append_right _ (List.mem_append_right _ (List.mem_append_right _ (List.mem_append_right _ (List.mem_of_getElem? h)))), g⟩
set_option maxRecDepth 4000 in
theorem zrec : True := trivial
theorem ii_Lw : (Cond.initialized "RationalSessionLaw") ∈ zWS := zin_t1 0 rfl rfl
theorem ii_S : (Cond.initialized "RationalSession") ∈ zWS := zin_t1 1 rfl rfl
theorem ii_L : (Cond.initialized "RationalSession$Line") ∈ zWS := zin_t1 2 rfl rfl
theorem ii_G : (Cond.initialized "RationalSession$Program") ∈ zWS := zin_t1 3 rfl rfl
theorem ii_R : (Cond.initialized "RationalSession$Reader") ∈ zWS := zin_t1 4 rfl rfl
theorem ii_K : (Cond.initialized "RationalSession$Worker") ∈ zWS := zin_t1 5 rfl rfl
theorem ii_W : (Cond.initialized "RationalSession$Workshop") ∈ zWS := zin_t1 6 rfl rfl
theorem ii_P : (Cond.initialized "RationalSession$Polynomial") ∈ zWS := zin_t1 7 rfl rfl
theorem ii_F : (Cond.initialized "RationalSession$Form") ∈ zWS := zin_t1 8 rfl rfl
theorem ii_H : (Cond.initialized "RationalSession$Shelf") ∈ zWS := zin_t1 9 rfl rfl
theorem ii_T : (Cond.initialized "RationalSession$TextSeeker") ∈ zWS := zin_t1 10 rfl rfl
theorem ii_M : (Cond.initialized "RationalSessionModel") ∈ zWS := zin_t1 11 rfl rfl
theorem ii_jS : (Cond.initialized "java/lang/String") ∈ zWS := zin_t1 12 rfl rfl
theorem ii_jL : (Cond.initialized "java/lang/StringLatin1") ∈ zWS := zin_t1 13 rfl rfl
theorem ii_jM : (Cond.initialized "java/lang/Math") ∈ zWS := zin_t1 14 rfl rfl
theorem ii_jU : (Cond.initialized "java/lang/StringUTF16") ∈ zWS := zin_t1 15 rfl rfl
theorem ii_jP : (Cond.initialized "jdk/internal/util/Preconditions") ∈ zWS := zin_t1 16 rfl rfl
theorem ii_jC : (Cond.initialized "java/lang/Character") ∈ zWS := zin_t1 17 rfl rfl
theorem cl_Lw_7 : (Cond.classLink "RationalSessionLaw" (7 : Nat) "RationalSession") ∈ zWS := zin_t1 18 rfl rfl
theorem in_S_made : (Cond.instantiable "RationalSession" (7 : Nat)) ∈ zWS := zin_t1 19 rfl rfl
theorem ml_Lw_9 : (Cond.methodLink "RationalSessionLaw" (9 : Nat) ({ cls := "RationalSession", name := "<init>", desc := "()V" } : MethodName)) ∈ zWS := zin_t1 20 rfl rfl
theorem im_S_init : (Cond.instanceMethod ({ cls := "RationalSession", name := "<init>", desc := "()V" } : MethodName)) ∈ zWS := zin_t1 21 rfl rfl
theorem k_S_init : (Cond.code ({ cls := "RationalSession", name := "<init>", desc := "()V" } : MethodName) prog_1_method_1_code (1 : Nat) (Option.none : Option Jvm.ClassFile.FieldType)) ∈ zWS := zin_t1 22 rfl rfl
theorem ml_S_3 : (Cond.methodLink "RationalSession" (3 : Nat) ({ cls := "java/lang/Object", name := "<init>", desc := "()V" } : MethodName)) ∈ zWS := zin_t1 23 rfl rfl
theorem im_jO_init : (Cond.instanceMethod ({ cls := "java/lang/Object", name := "<init>", desc := "()V" } : MethodName)) ∈ zWS := zin_t1 24 rfl rfl
theorem k_jO_init : (Cond.code ({ cls := "java/lang/Object", name := "<init>", desc := "()V" } : MethodName) object_method_1_code (1 : Nat) (Option.none : Option Jvm.ClassFile.FieldType)) ∈ zWS := zin_t1 25 rfl rfl
theorem cl_S_9 : (Cond.classLink "RationalSession" (9 : Nat) "RationalSession$Line") ∈ zWS := zin_t1 26 rfl rfl
theorem in_L_made : (Cond.instantiable "RationalSession$Line" (2 : Nat)) ∈ zWS := zin_t1 27 rfl rfl
theorem ml_S_11 : (Cond.methodLinkNest "RationalSession" (11 : Nat) ({ cls := "RationalSession$Line", name := "<init>", desc := "()V" } : MethodName) "RationalSession") ∈ zN := zin_n1 28 rfl rfl
theorem im_L_init : (Cond.instanceMethod ({ cls := "RationalSession$Line", name := "<init>", desc := "()V" } : MethodName)) ∈ zWS := zin_t1 29 rfl rfl
theorem k_L_init : (Cond.code ({ cls := "RationalSession$Line", name := "<init>", desc := "()V" } : MethodName) prog_3_method_1_code (1 : Nat) (Option.none : Option Jvm.ClassFile.FieldType)) ∈ zWS := zin_t1 30 rfl rfl
theorem ml_L_3 : (Cond.methodLink "RationalSession$Line" (3 : Nat) ({ cls := "java/lang/Object", name := "<init>", desc := "()V" } : MethodName)) ∈ zWS := zin_t1 31 rfl rfl
theorem fl_L_9 : (Cond.fieldLink "RationalSession$Line" (9 : Nat) "RationalSession$Line" "row" "[C") ∈ zWS := zin_t1 32 rfl rfl
theorem fl_L_15 : (Cond.fieldLink "RationalSession$Line" (15 : Nat) "RationalSession$Line" "length" "I") ∈ zWS := zin_t1 33 rfl rfl
theorem fl_S_65 : (Cond.fieldLinkNest "RationalSession" (65 : Nat) "RationalSession$Line" "length" "I" "RationalSession") ∈ zN := zin_n1 34 rfl rfl
theorem fl_R_52 : (Cond.fieldLinkNest "RationalSession$Reader" (52 : Nat) "RationalSession$Line" "length" "I" "RationalSession") ∈ zN := zin_n1 35 rfl rfl
theorem ac_char : (Cond.arrayClass FieldType.char) ∈ zWS := zin_t1 41 rfl rfl
theorem cl_S_16 : (Cond.classLink "RationalSession" (16 : Nat) "RationalSession$Program") ∈ zWS := zin_t1 42 rfl rfl
theorem in_G_made : (Cond.instantiable "RationalSession$Program" (4 : Nat)) ∈ zWS := zin_t1 43 rfl rfl
theorem ml_S_18 : (Cond.methodLinkNest "RationalSession" (18 : Nat) ({ cls := "RationalSession$Program", name := "<init>", desc := "()V" } : MethodName) "RationalSession") ∈ zN := zin_n1 44 rfl rfl
theorem im_G_init : (Cond.instanceMethod ({ cls := "RationalSession$Program", name := "<init>", desc := "()V" } : MethodName)) ∈ zWS := zin_t1 45 rfl rfl
theorem k_G_init : (Cond.code ({ cls := "RationalSession$Program", name := "<init>", desc := "()V" } : MethodName) prog_5_method_1_code (1 : Nat) (Option.none : Option Jvm.ClassFile.FieldType)) ∈ zWS := zin_t1 46 rfl rfl
theorem ml_G_3 : (Cond.methodLink "RationalSession$Program" (3 : Nat) ({ cls := "java/lang/Object", name := "<init>", desc := "()V" } : MethodName)) ∈ zWS := zin_t1 47 rfl rfl
theorem fl_G_9 : (Cond.fieldLink "RationalSession$Program" (9 : Nat) "RationalSession$Program" "kinds" "[I") ∈ zWS := zin_t1 48 rfl rfl
theorem fl_K_34 : (Cond.fieldLinkNest "RationalSession$Worker" (34 : Nat) "RationalSession$Program" "kinds" "[I" "RationalSession") ∈ zN := zin_n1 49 rfl rfl
theorem fl_G_15 : (Cond.fieldLink "RationalSession$Program" (15 : Nat) "RationalSession$Program" "details" "[I") ∈ zWS := zin_t1 50 rfl rfl
theorem fl_K_42 : (Cond.fieldLinkNest "RationalSession$Worker" (42 : Nat) "RationalSession$Program" "details" "[I" "RationalSession") ∈ zN := zin_n1 51 rfl rfl
theorem fl_G_18 : (Cond.fieldLink "RationalSession$Program" (18 : Nat) "RationalSession$Program" "size" "I") ∈ zWS := zin_t1 52 rfl rfl
theorem fl_K_29 : (Cond.fieldLinkNest "RationalSession$Worker" (29 : Nat) "RationalSession$Program" "size" "I" "RationalSession") ∈ zN := zin_n1 53 rfl rfl
theorem fl_G_22 : (Cond.fieldLink "RationalSession$Program" (22 : Nat) "RationalSession$Program" "target" "I") ∈ zWS := zin_t1 54 rfl rfl
theorem fl_R_78 : (Cond.fieldLinkNest "RationalSession$Reader" (78 : Nat) "RationalSession$Program" "target" "I" "RationalSession") ∈ zN := zin_n1 55 rfl rfl
theorem fl_S_98 : (Cond.fieldLinkNest "RationalSession" (98 : Nat) "RationalSession$Program" "target" "I" "RationalSession") ∈ zN := zin_n1 56 rfl rfl
theorem ac_int : (Cond.arrayClass FieldType.int) ∈ zWS := zin_t1 66 rfl rfl
theorem cl_S_23 : (Cond.classLink "RationalSession" (23 : Nat) "RationalSession$Reader") ∈ zWS := zin_t1 67 rfl rfl
theorem in_R_made : (Cond.instantiable "RationalSession$Reader" (11 : Nat)) ∈ zWS := zin_t1 68 rfl rfl
theorem ml_S_25 : (Cond.methodLink "RationalSession" (25 : Nat) ({ cls := "RationalSession$Reader", name := "<init>", desc := "(LRationalSession$Line;LRationalSession$Program;)V" } : MethodName)) ∈ zWS := zin_t1 69 rfl rfl
theorem im_R_init : (Cond.instanceMethod ({ cls := "RationalSession$Reader", name := "<init>", desc := "(LRationalSession$Line;LRationalSession$Program;)V" } : MethodName)) ∈ zWS := zin_t1 70 rfl rfl
theorem k_R_init : (Cond.code ({ cls := "RationalSession$Reader", name := "<init>", desc := "(LRationalSession$Line;LRationalSession$Program;)V" } : MethodName) prog_6_method_1_code (3 : Nat) (Option.none : Option Jvm.ClassFile.FieldType)) ∈ zWS := zin_t1 71 rfl rfl
theorem ml_R_3 : (Cond.methodLink "RationalSession$Reader" (3 : Nat) ({ cls := "java/lang/Object", name := "<init>", desc := "()V" } : MethodName)) ∈ zWS := zin_t1 72 rfl rfl
theorem fl_R_9 : (Cond.fieldLink "RationalSession$Reader" (9 : Nat) "RationalSession$Reader" "openings" "[C") ∈ zWS := zin_t1 73 rfl rfl
theorem fl_R_15 : (Cond.fieldLink "RationalSession$Reader" (15 : Nat) "RationalSession$Reader" "waitingInSum" "[I") ∈ zWS := zin_t1 74 rfl rfl
theorem fl_R_19 : (Cond.fieldLink "RationalSession$Reader" (19 : Nat) "RationalSession$Reader" "waitingInTerm" "[I") ∈ zWS := zin_t1 75 rfl rfl
theorem fl_R_43 : (Cond.fieldLink "RationalSession$Reader" (43 : Nat) "RationalSession$Reader" "open" "I") ∈ zWS := zin_t1 76 rfl rfl
theorem fl_R_22 : (Cond.fieldLink "RationalSession$Reader" (22 : Nat) "RationalSession$Reader" "line" "LRationalSession$Line;") ∈ zWS := zin_t1 77 rfl rfl
theorem fl_R_26 : (Cond.fieldLink "RationalSession$Reader" (26 : Nat) "RationalSession$Reader" "program" "LRationalSession$Program;") ∈ zWS := zin_t1 78 rfl rfl
theorem fl_R_35 : (Cond.fieldLink "RationalSession$Reader" (35 : Nat) "RationalSession$Reader" "place" "I") ∈ zWS := zin_t1 79 rfl rfl
theorem fl_R_39 : (Cond.fieldLink "RationalSession$Reader" (39 : Nat) "RationalSession$Reader" "stuck" "Z") ∈ zWS := zin_t1 80 rfl rfl
theorem fl_R_57 : (Cond.fieldLink "RationalSession$Reader" (57 : Nat) "RationalSession$Reader" "wantsAtom" "Z") ∈ zWS := zin_t1 81 rfl rfl
theorem fl_R_81 : (Cond.fieldLink "RationalSession$Reader" (81 : Nat) "RationalSession$Reader" "maySign" "Z") ∈ zWS := zin_t1 82 rfl rfl
theorem fl_R_99 : (Cond.fieldLink "RationalSession$Reader" (99 : Nat) "RationalSession$Reader" "mayPower" "Z") ∈ zWS := zin_t1 83 rfl rfl
theorem cl_S_32 : (Cond.classLink "RationalSession" (32 : Nat) "RationalSession$Worker") ∈ zWS := zin_t1 107 rfl rfl
theorem in_K_made : (Cond.instantiable "RationalSession$Worker" (3 : Nat)) ∈ zWS := zin_t1 108 rfl rfl
theorem ml_S_34 : (Cond.methodLink "RationalSession" (34 : Nat) ({ cls := "RationalSession$Worker", name := "<init>", desc := "()V" } : MethodName)) ∈ zWS := zin_t1 109 rfl rfl
theorem im_K_init : (Cond.instanceMethod ({ cls := "RationalSession$Worker", name := "<init>", desc := "()V" } : MethodName)) ∈ zWS := zin_t1 110 rfl rfl
theorem k_K_init : (Cond.code ({ cls := "RationalSession$Worker", name := "<init>", desc := "()V" } : MethodName) prog_9_method_1_code (2 : Nat) (Option.none : Option Jvm.ClassFile.FieldType)) ∈ zWS := zin_t1 111 rfl rfl
theorem ml_K_3 : (Cond.methodLink "RationalSession$Worker" (3 : Nat) ({ cls := "java/lang/Object", name := "<init>", desc := "()V" } : MethodName)) ∈ zWS := zin_t1 112 rfl rfl
theorem cl_K_9 : (Cond.classLink "RationalSession$Worker" (9 : Nat) "RationalSession$Workshop") ∈ zWS := zin_t1 113 rfl rfl
theorem in_W_made : (Cond.instantiable "RationalSession$Workshop" (7 : Nat)) ∈ zWS := zin_t1 114 rfl rfl
theorem ml_K_11 : (Cond.methodLinkNest "RationalSession$Worker" (11 : Nat) ({ cls := "RationalSession$Workshop", name := "<init>", desc := "()V" } : MethodName) "RationalSession") ∈ zN := zin_n1 115 rfl rfl
theorem im_W_init : (Cond.instanceMethod ({ cls := "RationalSession$Workshop", name := "<init>", desc := "()V" } : MethodName)) ∈ zWS := zin_t1 116 rfl rfl
theorem k_W_init : (Cond.code ({ cls := "RationalSession$Workshop", name := "<init>", desc := "()V" } : MethodName) prog_10_method_1_code (1 : Nat) (Option.none : Option Jvm.ClassFile.FieldType)) ∈ zWS := zin_t1 117 rfl rfl
theorem ml_W_3 : (Cond.methodLink "RationalSession$Workshop" (3 : Nat) ({ cls := "java/lang/Object", name := "<init>", desc := "()V" } : MethodName)) ∈ zWS := zin_t1 118 rfl rfl
theorem cl_W_9 : (Cond.classLink "RationalSession$Workshop" (9 : Nat) "RationalSession$Polynomial") ∈ zWS := zin_t1 119 rfl rfl
theorem in_P_made : (Cond.instantiable "RationalSession$Polynomial" (2 : Nat)) ∈ zWS := zin_t1 120 rfl rfl
theorem ml_W_13 : (Cond.methodLink "RationalSession$Workshop" (13 : Nat) ({ cls := "RationalSession$Polynomial", name := "<init>", desc := "(I)V" } : MethodName)) ∈ zWS := zin_t1 121 rfl rfl
theorem im_P_init : (Cond.instanceMethod ({ cls := "RationalSession$Polynomial", name := "<init>", desc := "(I)V" } : MethodName)) ∈ zWS := zin_t1 122 rfl rfl
theorem k_P_init : (Cond.code ({ cls := "RationalSession$Polynomial", name := "<init>", desc := "(I)V" } : MethodName) prog_4_method_1_code (2 : Nat) (Option.none : Option Jvm.ClassFile.FieldType)) ∈ zWS := zin_t1 123 rfl rfl
theorem ml_P_3 : (Cond.methodLink "RationalSession$Polynomial" (3 : Nat) ({ cls := "java/lang/Object", name := "<init>", desc := "()V" } : MethodName)) ∈ zWS := zin_t1 124 rfl rfl
theorem fl_P_15 : (Cond.fieldLink "RationalSession$Polynomial" (15 : Nat) "RationalSession$Polynomial" "row" "[I") ∈ zWS := zin_t1 125 rfl rfl
theorem fl_P_9 : (Cond.fieldLink "RationalSession$Polynomial" (9 : Nat) "RationalSession$Polynomial" "top" "I") ∈ zWS := zin_t1 126 rfl rfl
theorem fl_T_25 : (Cond.fieldLinkNest "RationalSession$TextSeeker" (25 : Nat) "RationalSession$Polynomial" "top" "I" "RationalSession") ∈ zN := zin_n1 127 rfl rfl
theorem fl_F_27 : (Cond.fieldLinkNest "RationalSession$Form" (27 : Nat) "RationalSession$Polynomial" "top" "I" "RationalSession") ∈ zN := zin_n1 128 rfl rfl
theorem fl_S_115 : (Cond.fieldLinkNest "RationalSession" (115 : Nat) "RationalSession$Polynomial" "top" "I" "RationalSession") ∈ zN := zin_n1 129 rfl rfl
theorem fl_W_94 : (Cond.fieldLinkNest "RationalSession$Workshop" (94 : Nat) "RationalSession$Polynomial" "top" "I" "RationalSession") ∈ zN := zin_n1 130 rfl rfl
theorem fl_W_16 : (Cond.fieldLink "RationalSession$Workshop" (16 : Nat) "RationalSession$Workshop" "over" "LRationalSession$Polynomial;") ∈ zWS := zin_t1 136 rfl rfl
theorem fl_W_20 : (Cond.fieldLink "RationalSession$Workshop" (20 : Nat) "RationalSession$Workshop" "under" "LRationalSession$Polynomial;") ∈ zWS := zin_t1 137 rfl rfl
theorem fl_W_23 : (Cond.fieldLink "RationalSession$Workshop" (23 : Nat) "RationalSession$Workshop" "side" "LRationalSession$Polynomial;") ∈ zWS := zin_t1 138 rfl rfl
theorem fl_W_26 : (Cond.fieldLink "RationalSession$Workshop" (26 : Nat) "RationalSession$Workshop" "help" "LRationalSession$Polynomial;") ∈ zWS := zin_t1 139 rfl rfl
theorem fl_W_29 : (Cond.fieldLink "RationalSession$Workshop" (29 : Nat) "RationalSession$Workshop" "first" "LRationalSession$Polynomial;") ∈ zWS := zin_t1 140 rfl rfl
theorem fl_W_32 : (Cond.fieldLink "RationalSession$Workshop" (32 : Nat) "RationalSession$Workshop" "second" "LRationalSession$Polynomial;") ∈ zWS := zin_t1 141 rfl rfl
theorem fl_W_35 : (Cond.fieldLink "RationalSession$Workshop" (35 : Nat) "RationalSession$Workshop" "quotient" "LRationalSession$Polynomial;") ∈ zWS := zin_t1 142 rfl rfl
theorem cl_K_18 : (Cond.classLink "RationalSession$Worker" (18 : Nat) "RationalSession$Form") ∈ zWS := zin_t1 158 rfl rfl
theorem in_F_made : (Cond.instantiable "RationalSession$Form" (2 : Nat)) ∈ zWS := zin_t1 160 rfl rfl
theorem ml_K_28 : (Cond.methodLinkNest "RationalSession$Worker" (28 : Nat) ({ cls := "RationalSession$Form", name := "<init>", desc := "()V" } : MethodName) "RationalSession") ∈ zN := zin_n1 161 rfl rfl
theorem im_F_init : (Cond.instanceMethod ({ cls := "RationalSession$Form", name := "<init>", desc := "()V" } : MethodName)) ∈ zWS := zin_t1 162 rfl rfl
theorem k_F_init : (Cond.code ({ cls := "RationalSession$Form", name := "<init>", desc := "()V" } : MethodName) prog_2_method_1_code (1 : Nat) (Option.none : Option Jvm.ClassFile.FieldType)) ∈ zWS := zin_t1 163 rfl rfl
theorem ml_F_3 : (Cond.methodLink "RationalSession$Form" (3 : Nat) ({ cls := "java/lang/Object", name := "<init>", desc := "()V" } : MethodName)) ∈ zWS := zin_t1 164 rfl rfl
theorem cl_F_9 : (Cond.classLink "RationalSession$Form" (9 : Nat) "RationalSession$Polynomial") ∈ zWS := zin_t1 165 rfl rfl
theorem ml_F_11 : (Cond.methodLink "RationalSession$Form" (11 : Nat) ({ cls := "RationalSession$Polynomial", name := "<init>", desc := "(I)V" } : MethodName)) ∈ zWS := zin_t1 166 rfl rfl
theorem fl_F_14 : (Cond.fieldLink "RationalSession$Form" (14 : Nat) "RationalSession$Form" "over" "LRationalSession$Polynomial;") ∈ zWS := zin_t1 167 rfl rfl
theorem fl_W_38 : (Cond.fieldLinkNest "RationalSession$Workshop" (38 : Nat) "RationalSession$Form" "over" "LRationalSession$Polynomial;" "RationalSession") ∈ zN := zin_n1 168 rfl rfl
theorem fl_T_30 : (Cond.fieldLinkNest "RationalSession$TextSeeker" (30 : Nat) "RationalSession$Form" "over" "LRationalSession$Polynomial;" "RationalSession") ∈ zN := zin_n1 169 rfl rfl
theorem fl_S_148 : (Cond.fieldLinkNest "RationalSession" (148 : Nat) "RationalSession$Form" "over" "LRationalSession$Polynomial;" "RationalSession") ∈ zN := zin_n1 170 rfl rfl
theorem fl_F_20 : (Cond.fieldLink "RationalSession$Form" (20 : Nat) "RationalSession$Form" "under" "LRationalSession$Polynomial;") ∈ zWS := zin_t1 171 rfl rfl
theorem fl_W_41 : (Cond.fieldLinkNest "RationalSession$Workshop" (41 : Nat) "RationalSession$Form" "under" "LRationalSession$Polynomial;" "RationalSession") ∈ zN := zin_n1 172 rfl rfl
theorem fl_T_19 : (Cond.fieldLinkNest "RationalSession$TextSeeker" (19 : Nat) "RationalSession$Form" "under" "LRationalSession$Polynomial;" "RationalSession") ∈ zN := zin_n1 173 rfl rfl
theorem fl_S_141 : (Cond.fieldLinkNest "RationalSession" (141 : Nat) "RationalSession$Form" "under" "LRationalSession$Polynomial;" "RationalSession") ∈ zN := zin_n1 174 rfl rfl
theorem fl_K_12 : (Cond.fieldLink "RationalSession$Worker" (12 : Nat) "RationalSession$Worker" "workshop" "LRationalSession$Workshop;") ∈ zWS := zin_t1 180 rfl rfl
theorem fl_K_20 : (Cond.fieldLink "RationalSession$Worker" (20 : Nat) "RationalSession$Worker" "stack" "[LRationalSession$Form;") ∈ zWS := zin_t1 181 rfl rfl
theorem fl_K_24 : (Cond.fieldLink "RationalSession$Worker" (24 : Nat) "RationalSession$Worker" "depth" "I") ∈ zWS := zin_t1 182 rfl rfl
theorem cl_S_39 : (Cond.classLink "RationalSession" (39 : Nat) "RationalSession$Shelf") ∈ zWS := zin_t1 190 rfl rfl
theorem in_H_made : (Cond.instantiable "RationalSession$Shelf" (5 : Nat)) ∈ zWS := zin_t1 191 rfl rfl
theorem ml_S_41 : (Cond.methodLink "RationalSession" (41 : Nat) ({ cls := "RationalSession$Shelf", name := "<init>", desc := "()V" } : MethodName)) ∈ zWS := zin_t1 192 rfl rfl
theorem im_H_init : (Cond.instanceMethod ({ cls := "RationalSession$Shelf", name := "<init>", desc := "()V" } : MethodName)) ∈ zWS := zin_t1 193 rfl rfl
theorem k_H_init : (Cond.code ({ cls := "RationalSession$Shelf", name := "<init>", desc := "()V" } : MethodName) prog_7_method_1_code (2 : Nat) (Option.none : Option Jvm.ClassFile.FieldType)) ∈ zWS := zin_t1 194 rfl rfl
theorem ml_H_3 : (Cond.methodLink "RationalSession$Shelf" (3 : Nat) ({ cls := "java/lang/Object", name := "<init>", desc := "()V" } : MethodName)) ∈ zWS := zin_t1 195 rfl rfl
theorem cl_H_9 : (Cond.classLink "RationalSession$Shelf" (9 : Nat) "RationalSession$Form") ∈ zWS := zin_t1 196 rfl rfl
theorem ml_H_31 : (Cond.methodLinkNest "RationalSession$Shelf" (31 : Nat) ({ cls := "RationalSession$Form", name := "<init>", desc := "()V" } : MethodName) "RationalSession") ∈ zN := zin_n1 197 rfl rfl
theorem fl_H_11 : (Cond.fieldLink "RationalSession$Shelf" (11 : Nat) "RationalSession$Shelf" "forms" "[LRationalSession$Form;") ∈ zWS := zin_t1 198 rfl rfl
theorem fl_H_17 : (Cond.fieldLink "RationalSession$Shelf" (17 : Nat) "RationalSession$Shelf" "shapeNumbers" "[I") ∈ zWS := zin_t1 199 rfl rfl
theorem fl_H_21 : (Cond.fieldLink "RationalSession$Shelf" (21 : Nat) "RationalSession$Shelf" "labelOfName" "[I") ∈ zWS := zin_t1 200 rfl rfl
theorem fl_H_24 : (Cond.fieldLink "RationalSession$Shelf" (24 : Nat) "RationalSession$Shelf" "count" "I") ∈ zWS := zin_t1 201 rfl rfl
theorem fl_S_129 : (Cond.fieldLinkNest "RationalSession" (129 : Nat) "RationalSession$Shelf" "count" "I" "RationalSession") ∈ zN := zin_n1 202 rfl rfl
theorem fl_H_28 : (Cond.fieldLink "RationalSession$Shelf" (28 : Nat) "RationalSession$Shelf" "shapeCount" "I") ∈ zWS := zin_t1 203 rfl rfl
theorem fl_S_126 : (Cond.fieldLinkNest "RationalSession" (126 : Nat) "RationalSession$Shelf" "shapeCount" "I" "RationalSession") ∈ zN := zin_n1 204 rfl rfl
theorem cl_S_46 : (Cond.classLink "RationalSession" (46 : Nat) "RationalSession$TextSeeker") ∈ zWS := zin_t1 216 rfl rfl
theorem in_T_made : (Cond.instantiable "RationalSession$TextSeeker" (3 : Nat)) ∈ zWS := zin_t1 217 rfl rfl
theorem ml_S_48 : (Cond.methodLinkNest "RationalSession" (48 : Nat) ({ cls := "RationalSession$TextSeeker", name := "<init>", desc := "()V" } : MethodName) "RationalSession") ∈ zN := zin_n1 218 rfl rfl
theorem im_T_init : (Cond.instanceMethod ({ cls := "RationalSession$TextSeeker", name := "<init>", desc := "()V" } : MethodName)) ∈ zWS := zin_t1 219 rfl rfl
theorem k_T_init : (Cond.code ({ cls := "RationalSession$TextSeeker", name := "<init>", desc := "()V" } : MethodName) prog_8_method_1_code (1 : Nat) (Option.none : Option Jvm.ClassFile.FieldType)) ∈ zWS := zin_t1 220 rfl rfl
theorem ml_T_1 : (Cond.methodLink "RationalSession$TextSeeker" (1 : Nat) ({ cls := "java/lang/Object", name := "<init>", desc := "()V" } : MethodName)) ∈ zWS := zin_t1 221 rfl rfl
theorem fl_T_7 : (Cond.fieldLink "RationalSession$TextSeeker" (7 : Nat) "RationalSession$TextSeeker" "wanted" "I") ∈ zWS := zin_t1 222 rfl rfl
theorem fl_T_13 : (Cond.fieldLink "RationalSession$TextSeeker" (13 : Nat) "RationalSession$TextSeeker" "written" "I") ∈ zWS := zin_t1 223 rfl rfl
theorem fl_T_16 : (Cond.fieldLink "RationalSession$TextSeeker" (16 : Nat) "RationalSession$TextSeeker" "found" "I") ∈ zWS := zin_t1 224 rfl rfl
theorem fl_S_12 : (Cond.fieldLink "RationalSession" (12 : Nat) "RationalSession" "typed" "LRationalSession$Line;") ∈ zWS := zin_t1 232 rfl rfl
theorem fl_S_19 : (Cond.fieldLink "RationalSession" (19 : Nat) "RationalSession" "program" "LRationalSession$Program;") ∈ zWS := zin_t1 233 rfl rfl
theorem fl_S_28 : (Cond.fieldLink "RationalSession" (28 : Nat) "RationalSession" "reader" "LRationalSession$Reader;") ∈ zWS := zin_t1 234 rfl rfl
theorem fl_S_35 : (Cond.fieldLink "RationalSession" (35 : Nat) "RationalSession" "worker" "LRationalSession$Worker;") ∈ zWS := zin_t1 235 rfl rfl
theorem fl_S_42 : (Cond.fieldLink "RationalSession" (42 : Nat) "RationalSession" "shelf" "LRationalSession$Shelf;") ∈ zWS := zin_t1 236 rfl rfl
theorem fl_S_49 : (Cond.fieldLink "RationalSession" (49 : Nat) "RationalSession" "seeker" "LRationalSession$TextSeeker;") ∈ zWS := zin_t1 237 rfl rfl
theorem fl_S_53 : (Cond.fieldLink "RationalSession" (53 : Nat) "RationalSession" "lastBadPlace" "I") ∈ zWS := zin_t1 238 rfl rfl
theorem ml_Lw_13 : (Cond.methodLink "RationalSessionLaw" (13 : Nat) ({ cls := "RationalSession", name := "type", desc := "(I)I" } : MethodName)) ∈ zWS := zin_t2 14 rfl rfl
theorem im_S_type : (Cond.instanceMethod ({ cls := "RationalSession", name := "type", desc := "(I)I" } : MethodName)) ∈ zWS := zin_t2 15 rfl rfl
theorem se_S_type : (Cond.selects "RationalSession" ({ cls := "RationalSession", name := "type", desc := "(I)I" } : MethodName) ({ cls := "RationalSession", name := "type", desc := "(I)I" } : MethodName)) ∈ zWS := zin_t2 16 rfl rfl
theorem k_S_type : (Cond.code ({ cls := "RationalSession", name := "type", desc := "(I)I" } : MethodName) prog_1_method_2_code (2 : Nat) (Option.some FieldType.int)) ∈ zWS := zin_t2 17 rfl rfl
theorem ml_S_57 : (Cond.methodLink "RationalSession" (57 : Nat) ({ cls := "RationalSession$Line", name := "mayHold", desc := "(I)Z" } : MethodName)) ∈ zWS := zin_t2 18 rfl rfl
theorem sm_L_mayHold : (Cond.static ({ cls := "RationalSession$Line", name := "mayHold", desc := "(I)Z" } : MethodName)) ∈ zWS := zin_t2 19 rfl rfl
theorem k_L_mayHold : (Cond.code ({ cls := "RationalSession$Line", name := "mayHold", desc := "(I)Z" } : MethodName) prog_3_method_2_code (1 : Nat) (Option.some FieldType.boolean)) ∈ zWS := zin_t2 20 rfl rfl
theorem ml_L_21 : (Cond.methodLink "RationalSession$Line" (21 : Nat) ({ cls := "java/lang/String", name := "indexOf", desc := "(I)I" } : MethodName)) ∈ zWS := zin_t2 22 rfl rfl
theorem im_jS_indexOf : (Cond.instanceMethod ({ cls := "java/lang/String", name := "indexOf", desc := "(I)I" } : MethodName)) ∈ zWS := zin_t2 23 rfl rfl
theorem se_jS_indexOf : (Cond.selects "java/lang/String" ({ cls := "java/lang/String", name := "indexOf", desc := "(I)I" } : MethodName) ({ cls := "java/lang/String", name := "indexOf", desc := "(I)I" } : MethodName)) ∈ zWS := zin_t2 24 rfl rfl
theorem k_jS_indexOf : (Cond.code ({ cls := "java/lang/String", name := "indexOf", desc := "(I)I" } : MethodName) prog_15_method_79_code (2 : Nat) (Option.some FieldType.int)) ∈ zWS := zin_t2 25 rfl rfl
theorem ml_jS_633 : (Cond.methodLink "java/lang/String" (633 : Nat) ({ cls := "java/lang/String", name := "indexOf", desc := "(II)I" } : MethodName)) ∈ zWS := zin_t2 26 rfl rfl
theorem im_jS_indexOf1 : (Cond.instanceMethod ({ cls := "java/lang/String", name := "indexOf", desc := "(II)I" } : MethodName)) ∈ zWS := zin_t2 27 rfl rfl
theorem se_jS_indexOf1 : (Cond.selects "java/lang/String" ({ cls := "java/lang/String", name := "indexOf", desc := "(II)I" } : MethodName) ({ cls := "java/lang/String", name := "indexOf", desc := "(II)I" } : MethodName)) ∈ zWS := zin_t2 28 rfl rfl
theorem k_jS_indexOf1 : (Cond.code ({ cls := "java/lang/String", name := "indexOf", desc := "(II)I" } : MethodName) prog_15_method_80_code (3 : Nat) (Option.some FieldType.int)) ∈ zWS := zin_t2 29 rfl rfl
theorem ml_jS_492 : (Cond.methodLink "java/lang/String" (492 : Nat) ({ cls := "java/lang/String", name := "isLatin1", desc := "()Z" } : MethodName)) ∈ zWS := zin_t2 30 rfl rfl
theorem im_jS_isLatin1 : (Cond.instanceMethod ({ cls := "java/lang/String", name := "isLatin1", desc := "()Z" } : MethodName)) ∈ zWS := zin_t2 31 rfl rfl
theorem se_jS_isLatin1 : (Cond.selects "java/lang/String" ({ cls := "java/lang/String", name := "isLatin1", desc := "()Z" } : MethodName) ({ cls := "java/lang/String", name := "isLatin1", desc := "()Z" } : MethodName)) ∈ zWS := zin_t2 32 rfl rfl
theorem k_jS_isLatin1 : (Cond.code ({ cls := "java/lang/String", name := "isLatin1", desc := "()Z" } : MethodName) prog_15_method_154_code (1 : Nat) (Option.some FieldType.boolean)) ∈ zWS := zin_t2 33 rfl rfl
theorem fl_jS_38 : (Cond.fieldLink "java/lang/String" (38 : Nat) "java/lang/String" "COMPACT_STRINGS" "Z") ∈ zWS := zin_t2 34 rfl rfl
theorem ml_jS_505 : (Cond.methodLink "java/lang/String" (505 : Nat) ({ cls := "java/lang/String", name := "length", desc := "()I" } : MethodName)) ∈ zWS := zin_t2 36 rfl rfl
theorem im_jS_length : (Cond.instanceMethod ({ cls := "java/lang/String", name := "length", desc := "()I" } : MethodName)) ∈ zWS := zin_t2 37 rfl rfl
theorem se_jS_length : (Cond.selects "java/lang/String" ({ cls := "java/lang/String", name := "length", desc := "()I" } : MethodName) ({ cls := "java/lang/String", name := "length", desc := "()I" } : MethodName)) ∈ zWS := zin_t2 38 rfl rfl
theorem k_jS_length : (Cond.code ({ cls := "java/lang/String", name := "length", desc := "()I" } : MethodName) prog_15_method_54_code (1 : Nat) (Option.some FieldType.int)) ∈ zWS := zin_t2 39 rfl rfl
theorem ml_jS_335 : (Cond.methodLink "java/lang/String" (335 : Nat) ({ cls := "java/lang/String", name := "coder", desc := "()B" } : MethodName)) ∈ zWS := zin_t2 40 rfl rfl
theorem im_jS_coder : (Cond.instanceMethod ({ cls := "java/lang/String", name := "coder", desc := "()B" } : MethodName)) ∈ zWS := zin_t2 41 rfl rfl
theorem se_jS_coder : (Cond.selects "java/lang/String" ({ cls := "java/lang/String", name := "coder", desc := "()B" } : MethodName) ({ cls := "java/lang/String", name := "coder", desc := "()B" } : MethodName)) ∈ zWS := zin_t2 42 rfl rfl
theorem k_jS_coder : (Cond.code ({ cls := "java/lang/String", name := "coder", desc := "()B" } : MethodName) prog_15_method_152_code (1 : Nat) (Option.some FieldType.byte)) ∈ zWS := zin_t2 43 rfl rfl
theorem ml_jS_637 : (Cond.methodLink "java/lang/String" (637 : Nat) ({ cls := "java/lang/StringLatin1", name := "indexOf", desc := "([BIII)I" } : MethodName)) ∈ zWS := zin_t2 44 rfl rfl
theorem sm_jL_indexOf : (Cond.static ({ cls := "java/lang/StringLatin1", name := "indexOf", desc := "([BIII)I" } : MethodName)) ∈ zWS := zin_t2 45 rfl rfl
theorem k_jL_indexOf : (Cond.code ({ cls := "java/lang/StringLatin1", name := "indexOf", desc := "([BIII)I" } : MethodName) prog_16_method_22_code (4 : Nat) (Option.some FieldType.int)) ∈ zWS := zin_t2 46 rfl rfl
theorem ml_jL_88 : (Cond.methodLink "java/lang/StringLatin1" (88 : Nat) ({ cls := "java/lang/StringLatin1", name := "canEncode", desc := "(I)Z" } : MethodName)) ∈ zWS := zin_t2 47 rfl rfl
theorem sm_jL_canEncode : (Cond.static ({ cls := "java/lang/StringLatin1", name := "canEncode", desc := "(I)Z" } : MethodName)) ∈ zWS := zin_t2 48 rfl rfl
theorem k_jL_canEncode : (Cond.code ({ cls := "java/lang/StringLatin1", name := "canEncode", desc := "(I)Z" } : MethodName) prog_16_method_4_code (1 : Nat) (Option.some FieldType.boolean)) ∈ zWS := zin_t2 49 rfl rfl
theorem ml_jL_92 : (Cond.methodLink "java/lang/StringLatin1" (92 : Nat) ({ cls := "java/lang/Math", name := "max", desc := "(II)I" } : MethodName)) ∈ zWS := zin_t2 50 rfl rfl
theorem sm_jM_max : (Cond.static ({ cls := "java/lang/Math", name := "max", desc := "(II)I" } : MethodName)) ∈ zWS := zin_t2 51 rfl rfl
theorem k_jM_max : (Cond.code ({ cls := "java/lang/Math", name := "max", desc := "(II)I" } : MethodName) prog_14_method_65_code (2 : Nat) (Option.some FieldType.int)) ∈ zWS := zin_t2 52 rfl rfl
theorem ml_jL_38 : (Cond.methodLink "java/lang/StringLatin1" (38 : Nat) ({ cls := "java/lang/Math", name := "min", desc := "(II)I" } : MethodName)) ∈ zWS := zin_t2 53 rfl rfl
theorem sm_jM_min : (Cond.static ({ cls := "java/lang/Math", name := "min", desc := "(II)I" } : MethodName)) ∈ zWS := zin_t2 54 rfl rfl
theorem k_jM_min : (Cond.code ({ cls := "java/lang/Math", name := "min", desc := "(II)I" } : MethodName) prog_14_method_69_code (2 : Nat) (Option.some FieldType.int)) ∈ zWS := zin_t2 55 rfl rfl
theorem ml_jL_95 : (Cond.methodLink "java/lang/StringLatin1" (95 : Nat) ({ cls := "java/lang/StringLatin1", name := "indexOfChar", desc := "([BIII)I" } : MethodName)) ∈ zWS := zin_t2 56 rfl rfl
theorem sm_jL_indexOfChar : (Cond.static ({ cls := "java/lang/StringLatin1", name := "indexOfChar", desc := "([BIII)I" } : MethodName)) ∈ zWS := zin_t2 57 rfl rfl
theorem k_jL_indexOfChar : (Cond.code ({ cls := "java/lang/StringLatin1", name := "indexOfChar", desc := "([BIII)I" } : MethodName) prog_16_method_23_code (6 : Nat) (Option.some FieldType.int)) ∈ zWS := zin_t2 58 rfl rfl
theorem ml_jS_640 : (Cond.methodLink "java/lang/String" (640 : Nat) ({ cls := "java/lang/StringUTF16", name := "indexOf", desc := "([BIII)I" } : MethodName)) ∈ zWS := zin_t2 59 rfl rfl
theorem sm_jU_indexOf : (Cond.static ({ cls := "java/lang/StringUTF16", name := "indexOf", desc := "([BIII)I" } : MethodName)) ∈ zWS := zin_t2 60 rfl rfl
theorem k_jU_indexOf : (Cond.code ({ cls := "java/lang/StringUTF16", name := "indexOf", desc := "([BIII)I" } : MethodName) prog_17_method_40_code (4 : Nat) (Option.some FieldType.int)) ∈ zWS := zin_t2 61 rfl rfl
theorem ml_jU_224 : (Cond.methodLink "java/lang/StringUTF16" (224 : Nat) ({ cls := "java/lang/Math", name := "max", desc := "(II)I" } : MethodName)) ∈ zWS := zin_t2 62 rfl rfl
theorem ml_jU_183 : (Cond.methodLink "java/lang/StringUTF16" (183 : Nat) ({ cls := "java/lang/Math", name := "min", desc := "(II)I" } : MethodName)) ∈ zWS := zin_t2 63 rfl rfl
theorem kc_jU_227 : (Cond.constant "java/lang/StringUTF16" (227 : Nat) (65536 : Int32)) ∈ zWS := zin_t2 64 rfl rfl
theorem ml_jU_228 : (Cond.methodLink "java/lang/StringUTF16" (228 : Nat) ({ cls := "java/lang/StringUTF16", name := "indexOfChar", desc := "([BIII)I" } : MethodName)) ∈ zWS := zin_t2 65 rfl rfl
theorem sm_jU_indexOfChar : (Cond.static ({ cls := "java/lang/StringUTF16", name := "indexOfChar", desc := "([BIII)I" } : MethodName)) ∈ zWS := zin_t2 66 rfl rfl
theorem k_jU_indexOfChar : (Cond.code ({ cls := "java/lang/StringUTF16", name := "indexOfChar", desc := "([BIII)I" } : MethodName) prog_17_method_47_code (4 : Nat) (Option.some FieldType.int)) ∈ zWS := zin_t2 67 rfl rfl
theorem ml_jU_96 : (Cond.methodLink "java/lang/StringUTF16" (96 : Nat) ({ cls := "java/lang/StringUTF16", name := "checkBoundsBeginEnd", desc := "(II[B)V" } : MethodName)) ∈ zWS := zin_t2 68 rfl rfl
theorem sm_jU_checkBoundsBeginEnd : (Cond.static ({ cls := "java/lang/StringUTF16", name := "checkBoundsBeginEnd", desc := "(II[B)V" } : MethodName)) ∈ zWS := zin_t2 69 rfl rfl
theorem k_jU_checkBoundsBeginEnd : (Cond.code ({ cls := "java/lang/StringUTF16", name := "checkBoundsBeginEnd", desc := "(II[B)V" } : MethodName) prog_17_method_93_code (3 : Nat) (Option.none : Option Jvm.ClassFile.FieldType)) ∈ zWS := zin_t2 70 rfl rfl
theorem ml_jU_48 : (Cond.methodLink "java/lang/StringUTF16" (48 : Nat) ({ cls := "java/lang/StringUTF16", name := "length", desc := "([B)I" } : MethodName)) ∈ zWS := zin_t2 71 rfl rfl
theorem sm_jU_length : (Cond.static ({ cls := "java/lang/StringUTF16", name := "length", desc := "([B)I" } : MethodName)) ∈ zWS := zin_t2 72 rfl rfl
theorem k_jU_length : (Cond.code ({ cls := "java/lang/StringUTF16", name := "length", desc := "([B)I" } : MethodName) prog_17_method_6_code (1 : Nat) (Option.some FieldType.int)) ∈ zWS := zin_t2 73 rfl rfl
theorem ml_jU_241 : (Cond.methodLink "java/lang/StringUTF16" (241 : Nat) ({ cls := "java/lang/String", name := "checkBoundsBeginEnd", desc := "(III)V" } : MethodName)) ∈ zWS := zin_t2 74 rfl rfl
theorem sm_jS_checkBoundsBeginEnd : (Cond.static ({ cls := "java/lang/String", name := "checkBoundsBeginEnd", desc := "(III)V" } : MethodName)) ∈ zWS := zin_t2 75 rfl rfl
theorem k_jS_checkBoundsBeginEnd : (Cond.code ({ cls := "java/lang/String", name := "checkBoundsBeginEnd", desc := "(III)V" } : MethodName) prog_15_method_158_code (3 : Nat) (Option.none : Option Jvm.ClassFile.FieldType)) ∈ zWS := zin_t2 76 rfl rfl
theorem fl_jS_1053 : (Cond.fieldLink "java/lang/String" (1053 : Nat) "jdk/internal/util/Preconditions" "SIOOBE_FORMATTER" "Ljava/util/function/BiFunction;") ∈ zWS := zin_t2 77 rfl rfl
theorem ml_jS_1062 : (Cond.methodLink "java/lang/String" (1062 : Nat) ({ cls := "jdk/internal/util/Preconditions", name := "checkFromToIndex", desc := "(IIILjava/util/function/BiFunction;)I" } : MethodName)) ∈ zWS := zin_t2 79 rfl rfl
theorem sm_jP_checkFromToIndex : (Cond.static ({ cls := "jdk/internal/util/Preconditions", name := "checkFromToIndex", desc := "(IIILjava/util/function/BiFunction;)I" } : MethodName)) ∈ zWS := zin_t2 80 rfl rfl
theorem k_jP_checkFromToIndex : (Cond.code ({ cls := "jdk/internal/util/Preconditions", name := "checkFromToIndex", desc := "(IIILjava/util/function/BiFunction;)I" } : MethodName) prog_18_method_12_code (4 : Nat) (Option.some FieldType.int)) ∈ zWS := zin_t2 81 rfl rfl
theorem ml_jU_244 : (Cond.methodLink "java/lang/StringUTF16" (244 : Nat) ({ cls := "java/lang/StringUTF16", name := "indexOfCharUnsafe", desc := "([BIII)I" } : MethodName)) ∈ zWS := zin_t2 82 rfl rfl
theorem sm_jU_indexOfCharUnsafe : (Cond.static ({ cls := "java/lang/StringUTF16", name := "indexOfCharUnsafe", desc := "([BIII)I" } : MethodName)) ∈ zWS := zin_t2 83 rfl rfl
theorem k_jU_indexOfCharUnsafe : (Cond.code ({ cls := "java/lang/StringUTF16", name := "indexOfCharUnsafe", desc := "([BIII)I" } : MethodName) prog_17_method_48_code (5 : Nat) (Option.some FieldType.int)) ∈ zWS := zin_t2 84 rfl rfl
theorem ml_jU_71 : (Cond.methodLink "java/lang/StringUTF16" (71 : Nat) ({ cls := "java/lang/StringUTF16", name := "getChar", desc := "([BI)C" } : MethodName)) ∈ zWS := zin_t2 85 rfl rfl
theorem sm_jU_getChar : (Cond.static ({ cls := "java/lang/StringUTF16", name := "getChar", desc := "([BI)C" } : MethodName)) ∈ zWS := zin_t2 86 rfl rfl
theorem k_jU_getChar : (Cond.code ({ cls := "java/lang/StringUTF16", name := "getChar", desc := "([BI)C" } : MethodName) prog_17_method_5_code (2 : Nat) (Option.some FieldType.char)) ∈ zWS := zin_t2 87 rfl rfl
theorem fl_jU_44 : (Cond.fieldLink "java/lang/StringUTF16" (44 : Nat) "java/lang/StringUTF16" "$assertionsDisabled" "Z") ∈ zWS := zin_t2 88 rfl rfl
theorem fl_jU_59 : (Cond.fieldLink "java/lang/StringUTF16" (59 : Nat) "java/lang/StringUTF16" "HI_BYTE_SHIFT" "I") ∈ zWS := zin_t2 90 rfl rfl
theorem fl_jU_63 : (Cond.fieldLink "java/lang/StringUTF16" (63 : Nat) "java/lang/StringUTF16" "LO_BYTE_SHIFT" "I") ∈ zWS := zin_t2 92 rfl rfl
theorem ml_jU_232 : (Cond.methodLink "java/lang/StringUTF16" (232 : Nat) ({ cls := "java/lang/StringUTF16", name := "indexOfSupplementary", desc := "([BIII)I" } : MethodName)) ∈ zWS := zin_t2 94 rfl rfl
theorem sm_jU_indexOfSupplementary : (Cond.static ({ cls := "java/lang/StringUTF16", name := "indexOfSupplementary", desc := "([BIII)I" } : MethodName)) ∈ zWS := zin_t2 95 rfl rfl
theorem k_jU_indexOfSupplementary : (Cond.code ({ cls := "java/lang/StringUTF16", name := "indexOfSupplementary", desc := "([BIII)I" } : MethodName) prog_17_method_49_code (7 : Nat) (Option.some FieldType.int)) ∈ zWS := zin_t2 96 rfl rfl
theorem ml_jU_164 : (Cond.methodLink "java/lang/StringUTF16" (164 : Nat) ({ cls := "java/lang/Character", name := "isValidCodePoint", desc := "(I)Z" } : MethodName)) ∈ zWS := zin_t2 97 rfl rfl
theorem sm_jC_isValidCodePoint : (Cond.static ({ cls := "java/lang/Character", name := "isValidCodePoint", desc := "(I)Z" } : MethodName)) ∈ zWS := zin_t2 98 rfl rfl
theorem k_jC_isValidCodePoint : (Cond.code ({ cls := "java/lang/Character", name := "isValidCodePoint", desc := "(I)Z" } : MethodName) prog_13_method_11_code (2 : Nat) (Option.some FieldType.boolean)) ∈ zWS := zin_t2 99 rfl rfl
theorem ml_jU_157 : (Cond.methodLink "java/lang/StringUTF16" (157 : Nat) ({ cls := "java/lang/Character", name := "highSurrogate", desc := "(I)C" } : MethodName)) ∈ zWS := zin_t2 100 rfl rfl
theorem sm_jC_highSurrogate : (Cond.static ({ cls := "java/lang/Character", name := "highSurrogate", desc := "(I)C" } : MethodName)) ∈ zWS := zin_t2 101 rfl rfl
theorem k_jC_highSurrogate : (Cond.code ({ cls := "java/lang/Character", name := "highSurrogate", desc := "(I)C" } : MethodName) prog_13_method_28_code (1 : Nat) (Option.some FieldType.char)) ∈ zWS := zin_t2 102 rfl rfl
theorem kc_jC_110 : (Cond.constant "java/lang/Character" (110 : Nat) (55232 : Int32)) ∈ zWS := zin_t2 103 rfl rfl
theorem ml_jU_161 : (Cond.methodLink "java/lang/StringUTF16" (161 : Nat) ({ cls := "java/lang/Character", name := "lowSurrogate", desc := "(I)C" } : MethodName)) ∈ zWS := zin_t2 104 rfl rfl
theorem sm_jC_lowSurrogate : (Cond.static ({ cls := "java/lang/Character", name := "lowSurrogate", desc := "(I)C" } : MethodName)) ∈ zWS := zin_t2 105 rfl rfl
theorem k_jC_lowSurrogate : (Cond.code ({ cls := "java/lang/Character", name := "lowSurrogate", desc := "(I)C" } : MethodName) prog_13_method_29_code (1 : Nat) (Option.some FieldType.char)) ∈ zWS := zin_t2 106 rfl rfl
theorem kc_jC_76 : (Cond.constant "java/lang/Character" (76 : Nat) (56320 : Int32)) ∈ zWS := zin_t2 107 rfl rfl
theorem ml_S_61 : (Cond.methodLink "RationalSession" (61 : Nat) ({ cls := "RationalSession$Line", name := "add", desc := "(C)Z" } : MethodName)) ∈ zWS := zin_t2 108 rfl rfl
theorem im_L_add : (Cond.instanceMethod ({ cls := "RationalSession$Line", name := "add", desc := "(C)Z" } : MethodName)) ∈ zWS := zin_t2 109 rfl rfl
theorem se_L_add : (Cond.selects "RationalSession$Line" ({ cls := "RationalSession$Line", name := "add", desc := "(C)Z" } : MethodName) ({ cls := "RationalSession$Line", name := "add", desc := "(C)Z" } : MethodName)) ∈ zWS := zin_t2 110 rfl rfl
theorem k_L_add : (Cond.code ({ cls := "RationalSession$Line", name := "add", desc := "(C)Z" } : MethodName) prog_3_method_3_code (2 : Nat) (Option.some FieldType.boolean)) ∈ zWS := zin_t2 111 rfl rfl
theorem ac_byte : (Cond.arrayClass FieldType.byte) ∈ zWS := zin_t2 112 rfl rfl
theorem ml_Lw_20 : (Cond.methodLink "RationalSessionLaw" (20 : Nat) ({ cls := "RationalSession", name := "types", desc := "(J)I" } : MethodName)) ∈ zWS := zin_t2 113 rfl rfl
theorem im_S_types : (Cond.instanceMethod ({ cls := "RationalSession", name := "types", desc := "(J)I" } : MethodName)) ∈ zWS := zin_t2 114 rfl rfl
theorem se_S_types : (Cond.selects "RationalSession" ({ cls := "RationalSession", name := "types", desc := "(J)I" } : MethodName) ({ cls := "RationalSession", name := "types", desc := "(J)I" } : MethodName)) ∈ zWS := zin_t2 115 rfl rfl
theorem k_S_types : (Cond.code ({ cls := "RationalSession", name := "types", desc := "(J)I" } : MethodName) prog_1_method_3_code (6 : Nat) (Option.some FieldType.int)) ∈ zWS := zin_t2 116 rfl rfl
theorem ml_S_68 : (Cond.methodLink "RationalSession" (68 : Nat) ({ cls := "RationalSession", name := "type", desc := "(I)I" } : MethodName)) ∈ zWS := zin_t2 117 rfl rfl
theorem ml_Lw_25 : (Cond.methodLink "RationalSessionLaw" (25 : Nat) ({ cls := "RationalSession", name := "back", desc := "()I" } : MethodName)) ∈ zWS := zin_t2 118 rfl rfl
theorem im_S_back : (Cond.instanceMethod ({ cls := "RationalSession", name := "back", desc := "()I" } : MethodName)) ∈ zWS := zin_t2 119 rfl rfl
theorem se_S_back : (Cond.selects "RationalSession" ({ cls := "RationalSession", name := "back", desc := "()I" } : MethodName) ({ cls := "RationalSession", name := "back", desc := "()I" } : MethodName)) ∈ zWS := zin_t2 120 rfl rfl
theorem k_S_back : (Cond.code ({ cls := "RationalSession", name := "back", desc := "()I" } : MethodName) prog_1_method_4_code (1 : Nat) (Option.some FieldType.int)) ∈ zWS := zin_t2 121 rfl rfl
theorem ml_S_72 : (Cond.methodLink "RationalSession" (72 : Nat) ({ cls := "RationalSession$Line", name := "dropLast", desc := "()Z" } : MethodName)) ∈ zWS := zin_t2 122 rfl rfl
theorem im_L_dropLast : (Cond.instanceMethod ({ cls := "RationalSession$Line", name := "dropLast", desc := "()Z" } : MethodName)) ∈ zWS := zin_t2 123 rfl rfl
theorem se_L_dropLast : (Cond.selects "RationalSession$Line" ({ cls := "RationalSession$Line", name := "dropLast", desc := "()Z" } : MethodName) ({ cls := "RationalSession$Line", name := "dropLast", desc := "()Z" } : MethodName)) ∈ zWS := zin_t2 124 rfl rfl
theorem k_L_dropLast : (Cond.code ({ cls := "RationalSession$Line", name := "dropLast", desc := "()Z" } : MethodName) prog_3_method_4_code (1 : Nat) (Option.some FieldType.boolean)) ∈ zWS := zin_t2 125 rfl rfl
theorem ml_Lw_30 : (Cond.methodLink "RationalSessionLaw" (30 : Nat) ({ cls := "RationalSession", name := "enter", desc := "()I" } : MethodName)) ∈ zWS := zin_t2 126 rfl rfl
theorem im_S_enter : (Cond.instanceMethod ({ cls := "RationalSession", name := "enter", desc := "()I" } : MethodName)) ∈ zWS := zin_t2 127 rfl rfl
theorem se_S_enter : (Cond.selects "RationalSession" ({ cls := "RationalSession", name := "enter", desc := "()I" } : MethodName) ({ cls := "RationalSession", name := "enter", desc := "()I" } : MethodName)) ∈ zWS := zin_t2 128 rfl rfl
theorem k_S_enter : (Cond.code ({ cls := "RationalSession", name := "enter", desc := "()I" } : MethodName) prog_1_method_5_code (4 : Nat) (Option.some FieldType.int)) ∈ zWS := zin_t2 129 rfl rfl
theorem ml_S_76 : (Cond.methodLink "RationalSession" (76 : Nat) ({ cls := "RationalSession$Reader", name := "read", desc := "()I" } : MethodName)) ∈ zWS := zin_t2 130 rfl rfl
theorem im_R_read : (Cond.instanceMethod ({ cls := "RationalSession$Reader", name := "read", desc := "()I" } : MethodName)) ∈ zWS := zin_t2 131 rfl rfl
theorem se_R_read : (Cond.selects "RationalSession$Reader" ({ cls := "RationalSession$Reader", name := "read", desc := "()I" } : MethodName) ({ cls := "RationalSession$Reader", name := "read", desc := "()I" } : MethodName)) ∈ zWS := zin_t2 132 rfl rfl
theorem k_R_read : (Cond.code ({ cls := "RationalSession$Reader", name := "read", desc := "()I" } : MethodName) prog_6_method_2_code (2 : Nat) (Option.some FieldType.int)) ∈ zWS := zin_t2 133 rfl rfl
theorem ml_R_30 : (Cond.methodLink "RationalSession$Reader" (30 : Nat) ({ cls := "RationalSession$Program", name := "clear", desc := "()V" } : MethodName)) ∈ zWS := zin_t2 134 rfl rfl
theorem im_G_clear : (Cond.instanceMethod ({ cls := "RationalSession$Program", name := "clear", desc := "()V" } : MethodName)) ∈ zWS := zin_t2 135 rfl rfl
theorem se_G_clear : (Cond.selects "RationalSession$Program" ({ cls := "RationalSession$Program", name := "clear", desc := "()V" } : MethodName) ({ cls := "RationalSession$Program", name := "clear", desc := "()V" } : MethodName)) ∈ zWS := zin_t2 136 rfl rfl
theorem k_G_clear : (Cond.code ({ cls := "RationalSession$Program", name := "clear", desc := "()V" } : MethodName) prog_5_method_2_code (1 : Nat) (Option.none : Option Jvm.ClassFile.FieldType)) ∈ zWS := zin_t2 137 rfl rfl
theorem ml_R_46 : (Cond.methodLink "RationalSession$Reader" (46 : Nat) ({ cls := "RationalSession$Reader", name := "startSum", desc := "()V" } : MethodName)) ∈ zWS := zin_t2 138 rfl rfl
theorem im_R_startSum : (Cond.instanceMethod ({ cls := "RationalSession$Reader", name := "startSum", desc := "()V" } : MethodName)) ∈ zWS := zin_t2 140 rfl rfl
theorem k_R_startSum : (Cond.code ({ cls := "RationalSession$Reader", name := "startSum", desc := "()V" } : MethodName) prog_6_method_6_code (1 : Nat) (Option.none : Option Jvm.ClassFile.FieldType)) ∈ zWS := zin_t2 141 rfl rfl
theorem ml_R_49 : (Cond.methodLink "RationalSession$Reader" (49 : Nat) ({ cls := "RationalSession$Reader", name := "readTarget", desc := "()V" } : MethodName)) ∈ zWS := zin_t2 142 rfl rfl
theorem im_R_readTarget : (Cond.instanceMethod ({ cls := "RationalSession$Reader", name := "readTarget", desc := "()V" } : MethodName)) ∈ zWS := zin_t2 144 rfl rfl
theorem k_R_readTarget : (Cond.code ({ cls := "RationalSession$Reader", name := "readTarget", desc := "()V" } : MethodName) prog_6_method_3_code (1 : Nat) (Option.none : Option Jvm.ClassFile.FieldType)) ∈ zWS := zin_t2 145 rfl rfl
theorem ml_R_60 : (Cond.methodLink "RationalSession$Reader" (60 : Nat) ({ cls := "RationalSession$Line", name := "at", desc := "(I)C" } : MethodName)) ∈ zWS := zin_t2 146 rfl rfl
theorem im_L_at : (Cond.instanceMethod ({ cls := "RationalSession$Line", name := "at", desc := "(I)C" } : MethodName)) ∈ zWS := zin_t2 147 rfl rfl
theorem se_L_at : (Cond.selects "RationalSession$Line" ({ cls := "RationalSession$Line", name := "at", desc := "(I)C" } : MethodName) ({ cls := "RationalSession$Line", name := "at", desc := "(I)C" } : MethodName)) ∈ zWS := zin_t2 148 rfl rfl
theorem k_L_at : (Cond.code ({ cls := "RationalSession$Line", name := "at", desc := "(I)C" } : MethodName) prog_3_method_6_code (2 : Nat) (Option.some FieldType.char)) ∈ zWS := zin_t2 149 rfl rfl
theorem ml_R_74 : (Cond.methodLink "RationalSession$Reader" (74 : Nat) ({ cls := "RationalSession$Reader", name := "isName", desc := "(C)Z" } : MethodName)) ∈ zWS := zin_t2 150 rfl rfl
theorem sm_R_isName : (Cond.static ({ cls := "RationalSession$Reader", name := "isName", desc := "(C)Z" } : MethodName)) ∈ zWS := zin_t2 151 rfl rfl
theorem k_R_isName : (Cond.code ({ cls := "RationalSession$Reader", name := "isName", desc := "(C)Z" } : MethodName) prog_6_method_16_code (1 : Nat) (Option.some FieldType.boolean)) ∈ zWS := zin_t2 152 rfl rfl
theorem ml_R_64 : (Cond.methodLink "RationalSession$Reader" (64 : Nat) ({ cls := "RationalSession$Reader", name := "readBeforeAtom", desc := "(C)V" } : MethodName)) ∈ zWS := zin_t2 153 rfl rfl
theorem im_R_readBeforeAtom : (Cond.instanceMethod ({ cls := "RationalSession$Reader", name := "readBeforeAtom", desc := "(C)V" } : MethodName)) ∈ zWS := zin_t2 155 rfl rfl
theorem k_R_readBeforeAtom : (Cond.code ({ cls := "RationalSession$Reader", name := "readBeforeAtom", desc := "(C)V" } : MethodName) prog_6_method_4_code (2 : Nat) (Option.none : Option Jvm.ClassFile.FieldType)) ∈ zWS := zin_t2 156 rfl rfl
theorem ml_R_84 : (Cond.methodLink "RationalSession$Reader" (84 : Nat) ({ cls := "RationalSession$Reader", name := "isDigit", desc := "(C)Z" } : MethodName)) ∈ zWS := zin_t2 157 rfl rfl
theorem sm_R_isDigit : (Cond.static ({ cls := "RationalSession$Reader", name := "isDigit", desc := "(C)Z" } : MethodName)) ∈ zWS := zin_t2 158 rfl rfl
theorem k_R_isDigit : (Cond.code ({ cls := "RationalSession$Reader", name := "isDigit", desc := "(C)Z" } : MethodName) prog_6_method_15_code (1 : Nat) (Option.some FieldType.boolean)) ∈ zWS := zin_t2 159 rfl rfl
theorem kc_R_87 : (Cond.constant "RationalSession$Reader" (87 : Nat) (99999 : Int32)) ∈ zWS := zin_t2 160 rfl rfl
theorem ml_R_88 : (Cond.methodLink "RationalSession$Reader" (88 : Nat) ({ cls := "RationalSession$Reader", name := "readNumber", desc := "(II)I" } : MethodName)) ∈ zWS := zin_t2 161 rfl rfl
theorem im_R_readNumber : (Cond.instanceMethod ({ cls := "RationalSession$Reader", name := "readNumber", desc := "(II)I" } : MethodName)) ∈ zWS := zin_t2 163 rfl rfl
theorem k_R_readNumber : (Cond.code ({ cls := "RationalSession$Reader", name := "readNumber", desc := "(II)I" } : MethodName) prog_6_method_12_code (6 : Nat) (Option.some FieldType.int)) ∈ zWS := zin_t2 164 rfl rfl
theorem ml_R_92 : (Cond.methodLink "RationalSession$Reader" (92 : Nat) ({ cls := "RationalSession$Reader", name := "endAtom", desc := "(II)V" } : MethodName)) ∈ zWS := zin_t2 165 rfl rfl
theorem im_R_endAtom : (Cond.instanceMethod ({ cls := "RationalSession$Reader", name := "endAtom", desc := "(II)V" } : MethodName)) ∈ zWS := zin_t2 167 rfl rfl
theorem k_R_endAtom : (Cond.code ({ cls := "RationalSession$Reader", name := "endAtom", desc := "(II)V" } : MethodName) prog_6_method_8_code (3 : Nat) (Option.none : Option Jvm.ClassFile.FieldType)) ∈ zWS := zin_t2 168 rfl rfl
theorem ml_R_114 : (Cond.methodLink "RationalSession$Reader" (114 : Nat) ({ cls := "RationalSession$Program", name := "add", desc := "(II)V" } : MethodName)) ∈ zWS := zin_t2 169 rfl rfl
theorem im_G_add : (Cond.instanceMethod ({ cls := "RationalSession$Program", name := "add", desc := "(II)V" } : MethodName)) ∈ zWS := zin_t2 170 rfl rfl
theorem se_G_add : (Cond.selects "RationalSession$Program" ({ cls := "RationalSession$Program", name := "add", desc := "(II)V" } : MethodName) ({ cls := "RationalSession$Program", name := "add", desc := "(II)V" } : MethodName)) ∈ zWS := zin_t2 171 rfl rfl
theorem k_G_add : (Cond.code ({ cls := "RationalSession$Program", name := "add", desc := "(II)V" } : MethodName) prog_5_method_3_code (3 : Nat) (Option.none : Option Jvm.ClassFile.FieldType)) ∈ zWS := zin_t2 172 rfl rfl
theorem ml_R_96 : (Cond.methodLink "RationalSession$Reader" (96 : Nat) ({ cls := "RationalSession$Reader", name := "readOpening", desc := "(C)V" } : MethodName)) ∈ zWS := zin_t2 173 rfl rfl
theorem im_R_readOpening : (Cond.instanceMethod ({ cls := "RationalSession$Reader", name := "readOpening", desc := "(C)V" } : MethodName)) ∈ zWS := zin_t2 175 rfl rfl
theorem k_R_readOpening : (Cond.code ({ cls := "RationalSession$Reader", name := "readOpening", desc := "(C)V" } : MethodName) prog_6_method_9_code (2 : Nat) (Option.none : Option Jvm.ClassFile.FieldType)) ∈ zWS := zin_t2 176 rfl rfl
theorem ml_R_68 : (Cond.methodLink "RationalSession$Reader" (68 : Nat) ({ cls := "RationalSession$Reader", name := "readAfterAtom", desc := "(C)V" } : MethodName)) ∈ zWS := zin_t2 177 rfl rfl
theorem im_R_readAfterAtom : (Cond.instanceMethod ({ cls := "RationalSession$Reader", name := "readAfterAtom", desc := "(C)V" } : MethodName)) ∈ zWS := zin_t2 179 rfl rfl
theorem k_R_readAfterAtom : (Cond.code ({ cls := "RationalSession$Reader", name := "readAfterAtom", desc := "(C)V" } : MethodName) prog_6_method_5_code (2 : Nat) (Option.none : Option Jvm.ClassFile.FieldType)) ∈ zWS := zin_t2 180 rfl rfl
theorem ml_R_102 : (Cond.methodLink "RationalSession$Reader" (102 : Nat) ({ cls := "RationalSession$Reader", name := "readExponent", desc := "()V" } : MethodName)) ∈ zWS := zin_t2 181 rfl rfl
theorem im_R_readExponent : (Cond.instanceMethod ({ cls := "RationalSession$Reader", name := "readExponent", desc := "()V" } : MethodName)) ∈ zWS := zin_t2 183 rfl rfl
theorem k_R_readExponent : (Cond.code ({ cls := "RationalSession$Reader", name := "readExponent", desc := "()V" } : MethodName) prog_6_method_11_code (3 : Nat) (Option.none : Option Jvm.ClassFile.FieldType)) ∈ zWS := zin_t2 184 rfl rfl
theorem ml_R_105 : (Cond.methodLink "RationalSession$Reader" (105 : Nat) ({ cls := "RationalSession$Reader", name := "finishPower", desc := "()V" } : MethodName)) ∈ zWS := zin_t2 185 rfl rfl
theorem im_R_finishPower : (Cond.instanceMethod ({ cls := "RationalSession$Reader", name := "finishPower", desc := "()V" } : MethodName)) ∈ zWS := zin_t2 187 rfl rfl
theorem k_R_finishPower : (Cond.code ({ cls := "RationalSession$Reader", name := "finishPower", desc := "()V" } : MethodName) prog_6_method_13_code (1 : Nat) (Option.none : Option Jvm.ClassFile.FieldType)) ∈ zWS := zin_t2 188 rfl rfl
theorem ml_R_108 : (Cond.methodLink "RationalSession$Reader" (108 : Nat) ({ cls := "RationalSession$Reader", name := "startAtom", desc := "()V" } : MethodName)) ∈ zWS := zin_t2 189 rfl rfl
theorem im_R_startAtom : (Cond.instanceMethod ({ cls := "RationalSession$Reader", name := "startAtom", desc := "()V" } : MethodName)) ∈ zWS := zin_t2 191 rfl rfl
theorem k_R_startAtom : (Cond.code ({ cls := "RationalSession$Reader", name := "startAtom", desc := "()V" } : MethodName) prog_6_method_7_code (1 : Nat) (Option.none : Option Jvm.ClassFile.FieldType)) ∈ zWS := zin_t2 192 rfl rfl
theorem ml_R_71 : (Cond.methodLink "RationalSession$Reader" (71 : Nat) ({ cls := "RationalSession$Reader", name := "finishTerm", desc := "()V" } : MethodName)) ∈ zWS := zin_t2 193 rfl rfl
theorem im_R_finishTerm : (Cond.instanceMethod ({ cls := "RationalSession$Reader", name := "finishTerm", desc := "()V" } : MethodName)) ∈ zWS := zin_t2 195 rfl rfl
theorem k_R_finishTerm : (Cond.code ({ cls := "RationalSession$Reader", name := "finishTerm", desc := "()V" } : MethodName) prog_6_method_14_code (1 : Nat) (Option.none : Option Jvm.ClassFile.FieldType)) ∈ zWS := zin_t2 196 rfl rfl
theorem ml_R_111 : (Cond.methodLink "RationalSession$Reader" (111 : Nat) ({ cls := "RationalSession$Reader", name := "closeOpening", desc := "()V" } : MethodName)) ∈ zWS := zin_t2 197 rfl rfl
theorem im_R_closeOpening : (Cond.instanceMethod ({ cls := "RationalSession$Reader", name := "closeOpening", desc := "()V" } : MethodName)) ∈ zWS := zin_t2 199 rfl rfl
theorem k_R_closeOpening : (Cond.code ({ cls := "RationalSession$Reader", name := "closeOpening", desc := "()V" } : MethodName) prog_6_method_10_code (2 : Nat) (Option.none : Option Jvm.ClassFile.FieldType)) ∈ zWS := zin_t2 200 rfl rfl
theorem ml_S_80 : (Cond.methodLink "RationalSession" (80 : Nat) ({ cls := "RationalSession$Line", name := "clear", desc := "()V" } : MethodName)) ∈ zWS := zin_t2 201 rfl rfl
theorem im_L_clear : (Cond.instanceMethod ({ cls := "RationalSession$Line", name := "clear", desc := "()V" } : MethodName)) ∈ zWS := zin_t2 202 rfl rfl
theorem se_L_clear : (Cond.selects "RationalSession$Line" ({ cls := "RationalSession$Line", name := "clear", desc := "()V" } : MethodName) ({ cls := "RationalSession$Line", name := "clear", desc := "()V" } : MethodName)) ∈ zWS := zin_t2 203 rfl rfl
theorem k_L_clear : (Cond.code ({ cls := "RationalSession$Line", name := "clear", desc := "()V" } : MethodName) prog_3_method_5_code (1 : Nat) (Option.none : Option Jvm.ClassFile.FieldType)) ∈ zWS := zin_t2 204 rfl rfl
theorem ml_S_83 : (Cond.methodLink "RationalSession" (83 : Nat) ({ cls := "RationalSession$Shelf", name := "isFull", desc := "()Z" } : MethodName)) ∈ zWS := zin_t2 205 rfl rfl
theorem im_H_isFull : (Cond.instanceMethod ({ cls := "RationalSession$Shelf", name := "isFull", desc := "()Z" } : MethodName)) ∈ zWS := zin_t2 206 rfl rfl
theorem se_H_isFull : (Cond.selects "RationalSession$Shelf" ({ cls := "RationalSession$Shelf", name := "isFull", desc := "()Z" } : MethodName) ({ cls := "RationalSession$Shelf", name := "isFull", desc := "()Z" } : MethodName)) ∈ zWS := zin_t2 207 rfl rfl
theorem k_H_isFull : (Cond.code ({ cls := "RationalSession$Shelf", name := "isFull", desc := "()Z" } : MethodName) prog_7_method_3_code (1 : Nat) (Option.some FieldType.boolean)) ∈ zWS := zin_t2 208 rfl rfl
theorem ml_S_86 : (Cond.methodLink "RationalSession" (86 : Nat) ({ cls := "RationalSession$Worker", name := "run", desc := "(LRationalSession$Program;LRationalSession$Shelf;)I" } : MethodName)) ∈ zWS := zin_t2 209 rfl rfl
theorem im_K_run : (Cond.instanceMethod ({ cls := "RationalSession$Worker", name := "run", desc := "(LRationalSession$Program;LRationalSession$Shelf;)I" } : MethodName)) ∈ zWS := zin_t2 210 rfl rfl
theorem se_K_run : (Cond.selects "RationalSession$Worker" ({ cls := "RationalSession$Worker", name := "run", desc := "(LRationalSession$Program;LRationalSession$Shelf;)I" } : MethodName) ({ cls := "RationalSession$Worker", name := "run", desc := "(LRationalSession$Program;LRationalSession$Shelf;)I" } : MethodName)) ∈ zWS := zin_t2 211 rfl rfl
theorem k_K_run : (Cond.code ({ cls := "RationalSession$Worker", name := "run", desc := "(LRationalSession$Program;LRationalSession$Shelf;)I" } : MethodName) prog_9_method_2_code (6 : Nat) (Option.some FieldType.int)) ∈ zWS := zin_t2 212 rfl rfl
theorem ml_K_38 : (Cond.methodLink "RationalSession$Worker" (38 : Nat) ({ cls := "RationalSession$Program", name := "loads", desc := "(I)Z" } : MethodName)) ∈ zWS := zin_t2 213 rfl rfl
theorem sm_G_loads : (Cond.static ({ cls := "RationalSession$Program", name := "loads", desc := "(I)Z" } : MethodName)) ∈ zWS := zin_t2 214 rfl rfl
theorem k_G_loads : (Cond.code ({ cls := "RationalSession$Program", name := "loads", desc := "(I)Z" } : MethodName) prog_5_method_4_code (1 : Nat) (Option.some FieldType.boolean)) ∈ zWS := zin_t2 215 rfl rfl
theorem ml_K_45 : (Cond.methodLink "RationalSession$Worker" (45 : Nat) ({ cls := "RationalSession$Worker", name := "load", desc := "(IILRationalSession$Shelf;)I" } : MethodName)) ∈ zWS := zin_t2 216 rfl rfl
theorem im_K_load : (Cond.instanceMethod ({ cls := "RationalSession$Worker", name := "load", desc := "(IILRationalSession$Shelf;)I" } : MethodName)) ∈ zWS := zin_t2 218 rfl rfl
theorem k_K_load : (Cond.code ({ cls := "RationalSession$Worker", name := "load", desc := "(IILRationalSession$Shelf;)I" } : MethodName) prog_9_method_4_code (6 : Nat) (Option.some FieldType.int)) ∈ zWS := zin_t2 219 rfl rfl
theorem ml_K_53 : (Cond.methodLink "RationalSession$Worker" (53 : Nat) ({ cls := "RationalSession$Form", name := "setConstant", desc := "(I)V" } : MethodName)) ∈ zWS := zin_t2 220 rfl rfl
theorem im_F_setConstant : (Cond.instanceMethod ({ cls := "RationalSession$Form", name := "setConstant", desc := "(I)V" } : MethodName)) ∈ zWS := zin_t2 221 rfl rfl
theorem se_F_setConstant : (Cond.selects "RationalSession$Form" ({ cls := "RationalSession$Form", name := "setConstant", desc := "(I)V" } : MethodName) ({ cls := "RationalSession$Form", name := "setConstant", desc := "(I)V" } : MethodName)) ∈ zWS := zin_t2 222 rfl rfl
theorem k_F_setConstant : (Cond.code ({ cls := "RationalSession$Form", name := "setConstant", desc := "(I)V" } : MethodName) prog_2_method_5_code (2 : Nat) (Option.none : Option Jvm.ClassFile.FieldType)) ∈ zWS := zin_t2 223 rfl rfl
theorem ml_F_37 : (Cond.methodLink "RationalSession$Form" (37 : Nat) ({ cls := "RationalSession$Polynomial", name := "setConstant", desc := "(I)V" } : MethodName)) ∈ zWS := zin_t2 224 rfl rfl
theorem im_P_setConstant : (Cond.instanceMethod ({ cls := "RationalSession$Polynomial", name := "setConstant", desc := "(I)V" } : MethodName)) ∈ zWS := zin_t2 225 rfl rfl
theorem se_P_setConstant : (Cond.selects "RationalSession$Polynomial" ({ cls := "RationalSession$Polynomial", name := "setConstant", desc := "(I)V" } : MethodName) ({ cls := "RationalSession$Polynomial", name := "setConstant", desc := "(I)V" } : MethodName)) ∈ zWS := zin_t2 226 rfl rfl
theorem k_P_setConstant : (Cond.code ({ cls := "RationalSession$Polynomial", name := "setConstant", desc := "(I)V" } : MethodName) prog_4_method_5_code (2 : Nat) (Option.none : Option Jvm.ClassFile.FieldType)) ∈ zWS := zin_t2 227 rfl rfl
theorem ml_K_57 : (Cond.methodLink "RationalSession$Worker" (57 : Nat) ({ cls := "RationalSession$Form", name := "setLetter", desc := "()V" } : MethodName)) ∈ zWS := zin_t2 228 rfl rfl
theorem im_F_setLetter : (Cond.instanceMethod ({ cls := "RationalSession$Form", name := "setLetter", desc := "()V" } : MethodName)) ∈ zWS := zin_t2 229 rfl rfl
theorem se_F_setLetter : (Cond.selects "RationalSession$Form" ({ cls := "RationalSession$Form", name := "setLetter", desc := "()V" } : MethodName) ({ cls := "RationalSession$Form", name := "setLetter", desc := "()V" } : MethodName)) ∈ zWS := zin_t2 230 rfl rfl
theorem k_F_setLetter : (Cond.code ({ cls := "RationalSession$Form", name := "setLetter", desc := "()V" } : MethodName) prog_2_method_6_code (1 : Nat) (Option.none : Option Jvm.ClassFile.FieldType)) ∈ zWS := zin_t2 231 rfl rfl
theorem ml_F_40 : (Cond.methodLink "RationalSession$Form" (40 : Nat) ({ cls := "RationalSession$Polynomial", name := "setLetter", desc := "()V" } : MethodName)) ∈ zWS := zin_t2 232 rfl rfl
theorem im_P_setLetter : (Cond.instanceMethod ({ cls := "RationalSession$Polynomial", name := "setLetter", desc := "()V" } : MethodName)) ∈ zWS := zin_t2 233 rfl rfl
theorem se_P_setLetter : (Cond.selects "RationalSession$Polynomial" ({ cls := "RationalSession$Polynomial", name := "setLetter", desc := "()V" } : MethodName) ({ cls := "RationalSession$Polynomial", name := "setLetter", desc := "()V" } : MethodName)) ∈ zWS := zin_t2 234 rfl rfl
theorem k_P_setLetter : (Cond.code ({ cls := "RationalSession$Polynomial", name := "setLetter", desc := "()V" } : MethodName) prog_4_method_6_code (1 : Nat) (Option.none : Option Jvm.ClassFile.FieldType)) ∈ zWS := zin_t2 235 rfl rfl
theorem ml_K_60 : (Cond.methodLink "RationalSession$Worker" (60 : Nat) ({ cls := "RationalSession$Shelf", name := "labelBoundTo", desc := "(I)I" } : MethodName)) ∈ zWS := zin_t2 236 rfl rfl
theorem im_H_labelBoundTo : (Cond.instanceMethod ({ cls := "RationalSession$Shelf", name := "labelBoundTo", desc := "(I)I" } : MethodName)) ∈ zWS := zin_t2 237 rfl rfl
theorem se_H_labelBoundTo : (Cond.selects "RationalSession$Shelf" ({ cls := "RationalSession$Shelf", name := "labelBoundTo", desc := "(I)I" } : MethodName) ({ cls := "RationalSession$Shelf", name := "labelBoundTo", desc := "(I)I" } : MethodName)) ∈ zWS := zin_t2 238 rfl rfl
theorem k_H_labelBoundTo : (Cond.code ({ cls := "RationalSession$Shelf", name := "labelBoundTo", desc := "(I)I" } : MethodName) prog_7_method_6_code (2 : Nat) (Option.some FieldType.int)) ∈ zWS := zin_t2 239 rfl rfl
theorem ml_K_66 : (Cond.methodLink "RationalSession$Worker" (66 : Nat) ({ cls := "RationalSession$Shelf", name := "find", desc := "(I)LRationalSession$Form;" } : MethodName)) ∈ zWS := zin_t3 0 rfl rfl
theorem im_H_find : (Cond.instanceMethod ({ cls := "RationalSession$Shelf", name := "find", desc := "(I)LRationalSession$Form;" } : MethodName)) ∈ zWS := zin_t3 1 rfl rfl
theorem se_H_find : (Cond.selects "RationalSession$Shelf" ({ cls := "RationalSession$Shelf", name := "find", desc := "(I)LRationalSession$Form;" } : MethodName) ({ cls := "RationalSession$Shelf", name := "find", desc := "(I)LRationalSession$Form;" } : MethodName)) ∈ zWS := zin_t3 2 rfl rfl
theorem k_H_find : (Cond.code ({ cls := "RationalSession$Shelf", name := "find", desc := "(I)LRationalSession$Form;" } : MethodName) prog_7_method_4_code (2 : Nat) (Option.some (FieldType.object "RationalSession$Form"))) ∈ zWS := zin_t3 3 rfl rfl
theorem ml_K_70 : (Cond.methodLink "RationalSession$Worker" (70 : Nat) ({ cls := "RationalSession$Form", name := "copy", desc := "(LRationalSession$Form;)V" } : MethodName)) ∈ zWS := zin_t3 4 rfl rfl
theorem im_F_copy : (Cond.instanceMethod ({ cls := "RationalSession$Form", name := "copy", desc := "(LRationalSession$Form;)V" } : MethodName)) ∈ zWS := zin_t3 5 rfl rfl
theorem se_F_copy : (Cond.selects "RationalSession$Form" ({ cls := "RationalSession$Form", name := "copy", desc := "(LRationalSession$Form;)V" } : MethodName) ({ cls := "RationalSession$Form", name := "copy", desc := "(LRationalSession$Form;)V" } : MethodName)) ∈ zWS := zin_t3 6 rfl rfl
theorem k_F_copy : (Cond.code ({ cls := "RationalSession$Form", name := "copy", desc := "(LRationalSession$Form;)V" } : MethodName) prog_2_method_7_code (2 : Nat) (Option.none : Option Jvm.ClassFile.FieldType)) ∈ zWS := zin_t3 7 rfl rfl
theorem ml_F_43 : (Cond.methodLink "RationalSession$Form" (43 : Nat) ({ cls := "RationalSession$Polynomial", name := "copy", desc := "(LRationalSession$Polynomial;)V" } : MethodName)) ∈ zWS := zin_t3 8 rfl rfl
theorem im_P_copy : (Cond.instanceMethod ({ cls := "RationalSession$Polynomial", name := "copy", desc := "(LRationalSession$Polynomial;)V" } : MethodName)) ∈ zWS := zin_t3 9 rfl rfl
theorem se_P_copy : (Cond.selects "RationalSession$Polynomial" ({ cls := "RationalSession$Polynomial", name := "copy", desc := "(LRationalSession$Polynomial;)V" } : MethodName) ({ cls := "RationalSession$Polynomial", name := "copy", desc := "(LRationalSession$Polynomial;)V" } : MethodName)) ∈ zWS := zin_t3 10 rfl rfl
theorem k_P_copy : (Cond.code ({ cls := "RationalSession$Polynomial", name := "copy", desc := "(LRationalSession$Polynomial;)V" } : MethodName) prog_4_method_7_code (3 : Nat) (Option.none : Option Jvm.ClassFile.FieldType)) ∈ zWS := zin_t3 11 rfl rfl
theorem ml_P_23 : (Cond.methodLink "RationalSession$Polynomial" (23 : Nat) ({ cls := "java/lang/Math", name := "min", desc := "(II)I" } : MethodName)) ∈ zWS := zin_t3 12 rfl rfl
theorem ml_K_49 : (Cond.methodLink "RationalSession$Worker" (49 : Nat) ({ cls := "RationalSession$Worker", name := "operate", desc := "(II)I" } : MethodName)) ∈ zWS := zin_t3 13 rfl rfl
theorem im_K_operate : (Cond.instanceMethod ({ cls := "RationalSession$Worker", name := "operate", desc := "(II)I" } : MethodName)) ∈ zWS := zin_t3 15 rfl rfl
theorem k_K_operate : (Cond.code ({ cls := "RationalSession$Worker", name := "operate", desc := "(II)I" } : MethodName) prog_9_method_5_code (7 : Nat) (Option.some FieldType.int)) ∈ zWS := zin_t3 16 rfl rfl
theorem ml_K_74 : (Cond.methodLink "RationalSession$Worker" (74 : Nat) ({ cls := "RationalSession$Program", name := "hasTwoSides", desc := "(I)Z" } : MethodName)) ∈ zWS := zin_t3 17 rfl rfl
theorem sm_G_hasTwoSides : (Cond.static ({ cls := "RationalSession$Program", name := "hasTwoSides", desc := "(I)Z" } : MethodName)) ∈ zWS := zin_t3 18 rfl rfl
theorem k_G_hasTwoSides : (Cond.code ({ cls := "RationalSession$Program", name := "hasTwoSides", desc := "(I)Z" } : MethodName) prog_5_method_5_code (1 : Nat) (Option.some FieldType.boolean)) ∈ zWS := zin_t3 19 rfl rfl
theorem ml_K_77 : (Cond.methodLink "RationalSession$Worker" (77 : Nat) ({ cls := "RationalSession$Workshop", name := "add", desc := "(LRationalSession$Form;LRationalSession$Form;I)V" } : MethodName)) ∈ zWS := zin_t3 20 rfl rfl
theorem im_W_add : (Cond.instanceMethod ({ cls := "RationalSession$Workshop", name := "add", desc := "(LRationalSession$Form;LRationalSession$Form;I)V" } : MethodName)) ∈ zWS := zin_t3 21 rfl rfl
theorem se_W_add : (Cond.selects "RationalSession$Workshop" ({ cls := "RationalSession$Workshop", name := "add", desc := "(LRationalSession$Form;LRationalSession$Form;I)V" } : MethodName) ({ cls := "RationalSession$Workshop", name := "add", desc := "(LRationalSession$Form;LRationalSession$Form;I)V" } : MethodName)) ∈ zWS := zin_t3 22 rfl rfl
theorem k_W_add : (Cond.code ({ cls := "RationalSession$Workshop", name := "add", desc := "(LRationalSession$Form;LRationalSession$Form;I)V" } : MethodName) prog_10_method_2_code (4 : Nat) (Option.none : Option Jvm.ClassFile.FieldType)) ∈ zWS := zin_t3 23 rfl rfl
theorem ml_W_42 : (Cond.methodLink "RationalSession$Workshop" (42 : Nat) ({ cls := "RationalSession$Polynomial", name := "setProduct", desc := "(LRationalSession$Polynomial;LRationalSession$Polynomial;)V" } : MethodName)) ∈ zWS := zin_t3 24 rfl rfl
theorem im_P_setProduct : (Cond.instanceMethod ({ cls := "RationalSession$Polynomial", name := "setProduct", desc := "(LRationalSession$Polynomial;LRationalSession$Polynomial;)V" } : MethodName)) ∈ zWS := zin_t3 25 rfl rfl
theorem se_P_setProduct : (Cond.selects "RationalSession$Polynomial" ({ cls := "RationalSession$Polynomial", name := "setProduct", desc := "(LRationalSession$Polynomial;LRationalSession$Polynomial;)V" } : MethodName) ({ cls := "RationalSession$Polynomial", name := "setProduct", desc := "(LRationalSession$Polynomial;LRationalSession$Polynomial;)V" } : MethodName)) ∈ zWS := zin_t3 26 rfl rfl
theorem k_P_setProduct : (Cond.code ({ cls := "RationalSession$Polynomial", name := "setProduct", desc := "(LRationalSession$Polynomial;LRationalSession$Polynomial;)V" } : MethodName) prog_4_method_9_code (6 : Nat) (Option.none : Option Jvm.ClassFile.FieldType)) ∈ zWS := zin_t3 27 rfl rfl
theorem ml_P_29 : (Cond.methodLink "RationalSession$Polynomial" (29 : Nat) ({ cls := "RationalSession$Polynomial", name := "isZero", desc := "()Z" } : MethodName)) ∈ zWS := zin_t3 28 rfl rfl
theorem im_P_isZero : (Cond.instanceMethod ({ cls := "RationalSession$Polynomial", name := "isZero", desc := "()Z" } : MethodName)) ∈ zWS := zin_t3 29 rfl rfl
theorem se_P_isZero : (Cond.selects "RationalSession$Polynomial" ({ cls := "RationalSession$Polynomial", name := "isZero", desc := "()Z" } : MethodName) ({ cls := "RationalSession$Polynomial", name := "isZero", desc := "()Z" } : MethodName)) ∈ zWS := zin_t3 30 rfl rfl
theorem k_P_isZero : (Cond.code ({ cls := "RationalSession$Polynomial", name := "isZero", desc := "()Z" } : MethodName) prog_4_method_2_code (1 : Nat) (Option.some FieldType.boolean)) ∈ zWS := zin_t3 31 rfl rfl
theorem ml_W_46 : (Cond.methodLink "RationalSession$Workshop" (46 : Nat) ({ cls := "RationalSession$Polynomial", name := "addMultiple", desc := "(LRationalSession$Polynomial;I)V" } : MethodName)) ∈ zWS := zin_t3 32 rfl rfl
theorem im_P_addMultiple : (Cond.instanceMethod ({ cls := "RationalSession$Polynomial", name := "addMultiple", desc := "(LRationalSession$Polynomial;I)V" } : MethodName)) ∈ zWS := zin_t3 33 rfl rfl
theorem se_P_addMultiple : (Cond.selects "RationalSession$Polynomial" ({ cls := "RationalSession$Polynomial", name := "addMultiple", desc := "(LRationalSession$Polynomial;I)V" } : MethodName) ({ cls := "RationalSession$Polynomial", name := "addMultiple", desc := "(LRationalSession$Polynomial;I)V" } : MethodName)) ∈ zWS := zin_t3 34 rfl rfl
theorem k_P_addMultiple : (Cond.code ({ cls := "RationalSession$Polynomial", name := "addMultiple", desc := "(LRationalSession$Polynomial;I)V" } : MethodName) prog_4_method_12_code (5 : Nat) (Option.none : Option Jvm.ClassFile.FieldType)) ∈ zWS := zin_t3 35 rfl rfl
theorem ml_P_37 : (Cond.methodLink "RationalSession$Polynomial" (37 : Nat) ({ cls := "java/lang/Math", name := "max", desc := "(II)I" } : MethodName)) ∈ zWS := zin_t3 36 rfl rfl
theorem ml_P_19 : (Cond.methodLink "RationalSession$Polynomial" (19 : Nat) ({ cls := "RationalSession$Polynomial", name := "get", desc := "(I)I" } : MethodName)) ∈ zWS := zin_t3 37 rfl rfl
theorem im_P_get : (Cond.instanceMethod ({ cls := "RationalSession$Polynomial", name := "get", desc := "(I)I" } : MethodName)) ∈ zWS := zin_t3 38 rfl rfl
theorem se_P_get : (Cond.selects "RationalSession$Polynomial" ({ cls := "RationalSession$Polynomial", name := "get", desc := "(I)I" } : MethodName) ({ cls := "RationalSession$Polynomial", name := "get", desc := "(I)I" } : MethodName)) ∈ zWS := zin_t3 39 rfl rfl
theorem k_P_get : (Cond.code ({ cls := "RationalSession$Polynomial", name := "get", desc := "(I)I" } : MethodName) prog_4_method_3_code (2 : Nat) (Option.some FieldType.int)) ∈ zWS := zin_t3 40 rfl rfl
theorem ml_P_33 : (Cond.methodLink "RationalSession$Polynomial" (33 : Nat) ({ cls := "RationalSession$Polynomial", name := "trimFrom", desc := "(I)V" } : MethodName)) ∈ zWS := zin_t3 41 rfl rfl
theorem im_P_trimFrom : (Cond.instanceMethod ({ cls := "RationalSession$Polynomial", name := "trimFrom", desc := "(I)V" } : MethodName)) ∈ zWS := zin_t3 43 rfl rfl
theorem k_P_trimFrom : (Cond.code ({ cls := "RationalSession$Polynomial", name := "trimFrom", desc := "(I)V" } : MethodName) prog_4_method_15_code (3 : Nat) (Option.none : Option Jvm.ClassFile.FieldType)) ∈ zWS := zin_t3 44 rfl rfl
theorem ml_K_81 : (Cond.methodLink "RationalSession$Worker" (81 : Nat) ({ cls := "RationalSession$Workshop", name := "multiply", desc := "(LRationalSession$Form;LRationalSession$Form;)V" } : MethodName)) ∈ zWS := zin_t3 45 rfl rfl
theorem im_W_multiply : (Cond.instanceMethod ({ cls := "RationalSession$Workshop", name := "multiply", desc := "(LRationalSession$Form;LRationalSession$Form;)V" } : MethodName)) ∈ zWS := zin_t3 46 rfl rfl
theorem se_W_multiply : (Cond.selects "RationalSession$Workshop" ({ cls := "RationalSession$Workshop", name := "multiply", desc := "(LRationalSession$Form;LRationalSession$Form;)V" } : MethodName) ({ cls := "RationalSession$Workshop", name := "multiply", desc := "(LRationalSession$Form;LRationalSession$Form;)V" } : MethodName)) ∈ zWS := zin_t3 47 rfl rfl
theorem k_W_multiply : (Cond.code ({ cls := "RationalSession$Workshop", name := "multiply", desc := "(LRationalSession$Form;LRationalSession$Form;)V" } : MethodName) prog_10_method_3_code (3 : Nat) (Option.none : Option Jvm.ClassFile.FieldType)) ∈ zWS := zin_t3 48 rfl rfl
theorem ml_K_85 : (Cond.methodLink "RationalSession$Worker" (85 : Nat) ({ cls := "RationalSession$Workshop", name := "divide", desc := "(LRationalSession$Form;LRationalSession$Form;)I" } : MethodName)) ∈ zWS := zin_t3 49 rfl rfl
theorem im_W_divide : (Cond.instanceMethod ({ cls := "RationalSession$Workshop", name := "divide", desc := "(LRationalSession$Form;LRationalSession$Form;)I" } : MethodName)) ∈ zWS := zin_t3 50 rfl rfl
theorem se_W_divide : (Cond.selects "RationalSession$Workshop" ({ cls := "RationalSession$Workshop", name := "divide", desc := "(LRationalSession$Form;LRationalSession$Form;)I" } : MethodName) ({ cls := "RationalSession$Workshop", name := "divide", desc := "(LRationalSession$Form;LRationalSession$Form;)I" } : MethodName)) ∈ zWS := zin_t3 51 rfl rfl
theorem k_W_divide : (Cond.code ({ cls := "RationalSession$Workshop", name := "divide", desc := "(LRationalSession$Form;LRationalSession$Form;)I" } : MethodName) prog_10_method_4_code (3 : Nat) (Option.some FieldType.int)) ∈ zWS := zin_t3 52 rfl rfl
theorem ml_W_50 : (Cond.methodLink "RationalSession$Workshop" (50 : Nat) ({ cls := "RationalSession$Form", name := "isZero", desc := "()Z" } : MethodName)) ∈ zWS := zin_t3 53 rfl rfl
theorem im_F_isZero : (Cond.instanceMethod ({ cls := "RationalSession$Form", name := "isZero", desc := "()Z" } : MethodName)) ∈ zWS := zin_t3 54 rfl rfl
theorem se_F_isZero : (Cond.selects "RationalSession$Form" ({ cls := "RationalSession$Form", name := "isZero", desc := "()Z" } : MethodName) ({ cls := "RationalSession$Form", name := "isZero", desc := "()Z" } : MethodName)) ∈ zWS := zin_t3 55 rfl rfl
theorem k_F_isZero : (Cond.code ({ cls := "RationalSession$Form", name := "isZero", desc := "()Z" } : MethodName) prog_2_method_3_code (1 : Nat) (Option.some FieldType.boolean)) ∈ zWS := zin_t3 56 rfl rfl
theorem ml_F_23 : (Cond.methodLink "RationalSession$Form" (23 : Nat) ({ cls := "RationalSession$Polynomial", name := "isZero", desc := "()Z" } : MethodName)) ∈ zWS := zin_t3 57 rfl rfl
theorem ml_K_89 : (Cond.methodLink "RationalSession$Worker" (89 : Nat) ({ cls := "RationalSession$Workshop", name := "compose", desc := "(LRationalSession$Form;LRationalSession$Form;)I" } : MethodName)) ∈ zWS := zin_t3 58 rfl rfl
theorem im_W_compose : (Cond.instanceMethod ({ cls := "RationalSession$Workshop", name := "compose", desc := "(LRationalSession$Form;LRationalSession$Form;)I" } : MethodName)) ∈ zWS := zin_t3 59 rfl rfl
theorem se_W_compose : (Cond.selects "RationalSession$Workshop" ({ cls := "RationalSession$Workshop", name := "compose", desc := "(LRationalSession$Form;LRationalSession$Form;)I" } : MethodName) ({ cls := "RationalSession$Workshop", name := "compose", desc := "(LRationalSession$Form;LRationalSession$Form;)I" } : MethodName)) ∈ zWS := zin_t3 60 rfl rfl
theorem k_W_compose : (Cond.code ({ cls := "RationalSession$Workshop", name := "compose", desc := "(LRationalSession$Form;LRationalSession$Form;)I" } : MethodName) prog_10_method_9_code (4 : Nat) (Option.some FieldType.int)) ∈ zWS := zin_t3 61 rfl rfl
theorem ml_W_70 : (Cond.methodLink "RationalSession$Workshop" (70 : Nat) ({ cls := "RationalSession$Form", name := "height", desc := "()I" } : MethodName)) ∈ zWS := zin_t3 62 rfl rfl
theorem im_F_height : (Cond.instanceMethod ({ cls := "RationalSession$Form", name := "height", desc := "()I" } : MethodName)) ∈ zWS := zin_t3 63 rfl rfl
theorem se_F_height : (Cond.selects "RationalSession$Form" ({ cls := "RationalSession$Form", name := "height", desc := "()I" } : MethodName) ({ cls := "RationalSession$Form", name := "height", desc := "()I" } : MethodName)) ∈ zWS := zin_t3 64 rfl rfl
theorem k_F_height : (Cond.code ({ cls := "RationalSession$Form", name := "height", desc := "()I" } : MethodName) prog_2_method_4_code (1 : Nat) (Option.some FieldType.int)) ∈ zWS := zin_t3 65 rfl rfl
theorem ml_F_31 : (Cond.methodLink "RationalSession$Form" (31 : Nat) ({ cls := "java/lang/Math", name := "max", desc := "(II)I" } : MethodName)) ∈ zWS := zin_t3 66 rfl rfl
theorem ml_W_81 : (Cond.methodLink "RationalSession$Workshop" (81 : Nat) ({ cls := "RationalSession$Workshop", name := "putInto", desc := "(LRationalSession$Polynomial;ILRationalSession$Form;LRationalSession$Polynomial;)V" } : MethodName)) ∈ zWS := zin_t3 67 rfl rfl
theorem im_W_putInto : (Cond.instanceMethod ({ cls := "RationalSession$Workshop", name := "putInto", desc := "(LRationalSession$Polynomial;ILRationalSession$Form;LRationalSession$Polynomial;)V" } : MethodName)) ∈ zWS := zin_t3 69 rfl rfl
theorem k_W_putInto : (Cond.code ({ cls := "RationalSession$Workshop", name := "putInto", desc := "(LRationalSession$Polynomial;ILRationalSession$Form;LRationalSession$Polynomial;)V" } : MethodName) prog_10_method_10_code (6 : Nat) (Option.none : Option Jvm.ClassFile.FieldType)) ∈ zWS := zin_t3 70 rfl rfl
theorem ml_W_86 : (Cond.methodLink "RationalSession$Workshop" (86 : Nat) ({ cls := "RationalSession$Polynomial", name := "get", desc := "(I)I" } : MethodName)) ∈ zWS := zin_t3 71 rfl rfl
theorem ml_W_78 : (Cond.methodLink "RationalSession$Workshop" (78 : Nat) ({ cls := "RationalSession$Polynomial", name := "setConstant", desc := "(I)V" } : MethodName)) ∈ zWS := zin_t3 72 rfl rfl
theorem ml_W_54 : (Cond.methodLink "RationalSession$Workshop" (54 : Nat) ({ cls := "RationalSession$Polynomial", name := "copy", desc := "(LRationalSession$Polynomial;)V" } : MethodName)) ∈ zWS := zin_t3 73 rfl rfl
theorem ml_W_85 : (Cond.methodLink "RationalSession$Workshop" (85 : Nat) ({ cls := "RationalSession$Polynomial", name := "isZero", desc := "()Z" } : MethodName)) ∈ zWS := zin_t3 74 rfl rfl
theorem ml_K_92 : (Cond.methodLink "RationalSession$Worker" (92 : Nat) ({ cls := "RationalSession$Workshop", name := "power", desc := "(LRationalSession$Form;I)I" } : MethodName)) ∈ zWS := zin_t3 75 rfl rfl
theorem im_W_power : (Cond.instanceMethod ({ cls := "RationalSession$Workshop", name := "power", desc := "(LRationalSession$Form;I)I" } : MethodName)) ∈ zWS := zin_t3 76 rfl rfl
theorem se_W_power : (Cond.selects "RationalSession$Workshop" ({ cls := "RationalSession$Workshop", name := "power", desc := "(LRationalSession$Form;I)I" } : MethodName) ({ cls := "RationalSession$Workshop", name := "power", desc := "(LRationalSession$Form;I)I" } : MethodName)) ∈ zWS := zin_t3 77 rfl rfl
theorem k_W_power : (Cond.code ({ cls := "RationalSession$Workshop", name := "power", desc := "(LRationalSession$Form;I)I" } : MethodName) prog_10_method_7_code (4 : Nat) (Option.some FieldType.int)) ∈ zWS := zin_t3 78 rfl rfl
theorem ml_W_64 : (Cond.methodLink "RationalSession$Workshop" (64 : Nat) ({ cls := "java/lang/Math", name := "abs", desc := "(I)I" } : MethodName)) ∈ zWS := zin_t3 79 rfl rfl
theorem sm_jM_abs : (Cond.static ({ cls := "java/lang/Math", name := "abs", desc := "(I)I" } : MethodName)) ∈ zWS := zin_t3 80 rfl rfl
theorem k_jM_abs : (Cond.code ({ cls := "java/lang/Math", name := "abs", desc := "(I)I" } : MethodName) prog_14_method_59_code (1 : Nat) (Option.some FieldType.int)) ∈ zWS := zin_t3 81 rfl rfl
theorem ml_W_74 : (Cond.methodLink "RationalSession$Workshop" (74 : Nat) ({ cls := "RationalSession$Workshop", name := "raise", desc := "(LRationalSession$Polynomial;ILRationalSession$Polynomial;)V" } : MethodName)) ∈ zWS := zin_t3 82 rfl rfl
theorem im_W_raise : (Cond.instanceMethod ({ cls := "RationalSession$Workshop", name := "raise", desc := "(LRationalSession$Polynomial;ILRationalSession$Polynomial;)V" } : MethodName)) ∈ zWS := zin_t3 84 rfl rfl
theorem k_W_raise : (Cond.code ({ cls := "RationalSession$Workshop", name := "raise", desc := "(LRationalSession$Polynomial;ILRationalSession$Polynomial;)V" } : MethodName) prog_10_method_8_code (5 : Nat) (Option.none : Option Jvm.ClassFile.FieldType)) ∈ zWS := zin_t3 85 rfl rfl
theorem ml_K_96 : (Cond.methodLink "RationalSession$Worker" (96 : Nat) ({ cls := "RationalSession$Workshop", name := "derive", desc := "(LRationalSession$Form;)V" } : MethodName)) ∈ zWS := zin_t3 86 rfl rfl
theorem im_W_derive : (Cond.instanceMethod ({ cls := "RationalSession$Workshop", name := "derive", desc := "(LRationalSession$Form;)V" } : MethodName)) ∈ zWS := zin_t3 87 rfl rfl
theorem se_W_derive : (Cond.selects "RationalSession$Workshop" ({ cls := "RationalSession$Workshop", name := "derive", desc := "(LRationalSession$Form;)V" } : MethodName) ({ cls := "RationalSession$Workshop", name := "derive", desc := "(LRationalSession$Form;)V" } : MethodName)) ∈ zWS := zin_t3 88 rfl rfl
theorem k_W_derive : (Cond.code ({ cls := "RationalSession$Workshop", name := "derive", desc := "(LRationalSession$Form;)V" } : MethodName) prog_10_method_6_code (2 : Nat) (Option.none : Option Jvm.ClassFile.FieldType)) ∈ zWS := zin_t3 89 rfl rfl
theorem ml_W_61 : (Cond.methodLink "RationalSession$Workshop" (61 : Nat) ({ cls := "RationalSession$Polynomial", name := "setDerivative", desc := "(LRationalSession$Polynomial;)V" } : MethodName)) ∈ zWS := zin_t3 90 rfl rfl
theorem im_P_setDerivative : (Cond.instanceMethod ({ cls := "RationalSession$Polynomial", name := "setDerivative", desc := "(LRationalSession$Polynomial;)V" } : MethodName)) ∈ zWS := zin_t3 91 rfl rfl
theorem se_P_setDerivative : (Cond.selects "RationalSession$Polynomial" ({ cls := "RationalSession$Polynomial", name := "setDerivative", desc := "(LRationalSession$Polynomial;)V" } : MethodName) ({ cls := "RationalSession$Polynomial", name := "setDerivative", desc := "(LRationalSession$Polynomial;)V" } : MethodName)) ∈ zWS := zin_t3 92 rfl rfl
theorem k_P_setDerivative : (Cond.code ({ cls := "RationalSession$Polynomial", name := "setDerivative", desc := "(LRationalSession$Polynomial;)V" } : MethodName) prog_4_method_10_code (4 : Nat) (Option.none : Option Jvm.ClassFile.FieldType)) ∈ zWS := zin_t3 93 rfl rfl
theorem ml_K_99 : (Cond.methodLink "RationalSession$Worker" (99 : Nat) ({ cls := "RationalSession$Workshop", name := "negate", desc := "(LRationalSession$Form;)V" } : MethodName)) ∈ zWS := zin_t3 94 rfl rfl
theorem im_W_negate : (Cond.instanceMethod ({ cls := "RationalSession$Workshop", name := "negate", desc := "(LRationalSession$Form;)V" } : MethodName)) ∈ zWS := zin_t3 95 rfl rfl
theorem se_W_negate : (Cond.selects "RationalSession$Workshop" ({ cls := "RationalSession$Workshop", name := "negate", desc := "(LRationalSession$Form;)V" } : MethodName) ({ cls := "RationalSession$Workshop", name := "negate", desc := "(LRationalSession$Form;)V" } : MethodName)) ∈ zWS := zin_t3 96 rfl rfl
theorem k_W_negate : (Cond.code ({ cls := "RationalSession$Workshop", name := "negate", desc := "(LRationalSession$Form;)V" } : MethodName) prog_10_method_5_code (2 : Nat) (Option.none : Option Jvm.ClassFile.FieldType)) ∈ zWS := zin_t3 97 rfl rfl
theorem ml_W_58 : (Cond.methodLink "RationalSession$Workshop" (58 : Nat) ({ cls := "RationalSession$Polynomial", name := "scale", desc := "(I)V" } : MethodName)) ∈ zWS := zin_t3 98 rfl rfl
theorem im_P_scale : (Cond.instanceMethod ({ cls := "RationalSession$Polynomial", name := "scale", desc := "(I)V" } : MethodName)) ∈ zWS := zin_t3 99 rfl rfl
theorem se_P_scale : (Cond.selects "RationalSession$Polynomial" ({ cls := "RationalSession$Polynomial", name := "scale", desc := "(I)V" } : MethodName) ({ cls := "RationalSession$Polynomial", name := "scale", desc := "(I)V" } : MethodName)) ∈ zWS := zin_t3 100 rfl rfl
theorem k_P_scale : (Cond.code ({ cls := "RationalSession$Polynomial", name := "scale", desc := "(I)V" } : MethodName) prog_4_method_11_code (3 : Nat) (Option.none : Option Jvm.ClassFile.FieldType)) ∈ zWS := zin_t3 101 rfl rfl
theorem ml_K_102 : (Cond.methodLink "RationalSession$Worker" (102 : Nat) ({ cls := "RationalSession$Workshop", name := "settle", desc := "(LRationalSession$Form;)I" } : MethodName)) ∈ zWS := zin_t3 102 rfl rfl
theorem im_W_settle : (Cond.instanceMethod ({ cls := "RationalSession$Workshop", name := "settle", desc := "(LRationalSession$Form;)I" } : MethodName)) ∈ zWS := zin_t3 103 rfl rfl
theorem se_W_settle : (Cond.selects "RationalSession$Workshop" ({ cls := "RationalSession$Workshop", name := "settle", desc := "(LRationalSession$Form;)I" } : MethodName) ({ cls := "RationalSession$Workshop", name := "settle", desc := "(LRationalSession$Form;)I" } : MethodName)) ∈ zWS := zin_t3 104 rfl rfl
theorem k_W_settle : (Cond.code ({ cls := "RationalSession$Workshop", name := "settle", desc := "(LRationalSession$Form;)I" } : MethodName) prog_10_method_11_code (4 : Nat) (Option.some FieldType.int)) ∈ zWS := zin_t3 105 rfl rfl
theorem ml_W_89 : (Cond.methodLink "RationalSession$Workshop" (89 : Nat) ({ cls := "RationalSession$Form", name := "setConstant", desc := "(I)V" } : MethodName)) ∈ zWS := zin_t3 106 rfl rfl
theorem ml_W_90 : (Cond.methodLink "RationalSession$Workshop" (90 : Nat) ({ cls := "RationalSession$Workshop", name := "commonDivisor", desc := "()LRationalSession$Polynomial;" } : MethodName)) ∈ zWS := zin_t3 107 rfl rfl
theorem im_W_commonDivisor : (Cond.instanceMethod ({ cls := "RationalSession$Workshop", name := "commonDivisor", desc := "()LRationalSession$Polynomial;" } : MethodName)) ∈ zWS := zin_t3 109 rfl rfl
theorem k_W_commonDivisor : (Cond.code ({ cls := "RationalSession$Workshop", name := "commonDivisor", desc := "()LRationalSession$Polynomial;" } : MethodName) prog_10_method_12_code (5 : Nat) (Option.some (FieldType.object "RationalSession$Polynomial"))) ∈ zWS := zin_t3 110 rfl rfl
theorem ml_W_101 : (Cond.methodLink "RationalSession$Workshop" (101 : Nat) ({ cls := "RationalSession$Polynomial", name := "lead", desc := "()I" } : MethodName)) ∈ zWS := zin_t3 111 rfl rfl
theorem im_P_lead : (Cond.instanceMethod ({ cls := "RationalSession$Polynomial", name := "lead", desc := "()I" } : MethodName)) ∈ zWS := zin_t3 112 rfl rfl
theorem se_P_lead : (Cond.selects "RationalSession$Polynomial" ({ cls := "RationalSession$Polynomial", name := "lead", desc := "()I" } : MethodName) ({ cls := "RationalSession$Polynomial", name := "lead", desc := "()I" } : MethodName)) ∈ zWS := zin_t3 113 rfl rfl
theorem k_P_lead : (Cond.code ({ cls := "RationalSession$Polynomial", name := "lead", desc := "()I" } : MethodName) prog_4_method_4_code (1 : Nat) (Option.some FieldType.int)) ∈ zWS := zin_t3 114 rfl rfl
theorem ml_W_104 : (Cond.methodLinkNest "RationalSession$Workshop" (104 : Nat) ({ cls := "RationalSession", name := "inverse", desc := "(I)I" } : MethodName) "RationalSession") ∈ zN := zin_n3 115 rfl rfl
theorem sm_S_inverse : (Cond.static ({ cls := "RationalSession", name := "inverse", desc := "(I)I" } : MethodName)) ∈ zWS := zin_t3 116 rfl rfl
theorem k_S_inverse : (Cond.code ({ cls := "RationalSession", name := "inverse", desc := "(I)I" } : MethodName) prog_1_method_17_code (4 : Nat) (Option.some FieldType.int)) ∈ zWS := zin_t3 117 rfl rfl
theorem ml_W_98 : (Cond.methodLink "RationalSession$Workshop" (98 : Nat) ({ cls := "RationalSession$Polynomial", name := "divideBy", desc := "(LRationalSession$Polynomial;LRationalSession$Polynomial;)V" } : MethodName)) ∈ zWS := zin_t3 118 rfl rfl
theorem im_P_divideBy : (Cond.instanceMethod ({ cls := "RationalSession$Polynomial", name := "divideBy", desc := "(LRationalSession$Polynomial;LRationalSession$Polynomial;)V" } : MethodName)) ∈ zWS := zin_t3 119 rfl rfl
theorem se_P_divideBy : (Cond.selects "RationalSession$Polynomial" ({ cls := "RationalSession$Polynomial", name := "divideBy", desc := "(LRationalSession$Polynomial;LRationalSession$Polynomial;)V" } : MethodName) ({ cls := "RationalSession$Polynomial", name := "divideBy", desc := "(LRationalSession$Polynomial;LRationalSession$Polynomial;)V" } : MethodName)) ∈ zWS := zin_t3 120 rfl rfl
theorem k_P_divideBy : (Cond.code ({ cls := "RationalSession$Polynomial", name := "divideBy", desc := "(LRationalSession$Polynomial;LRationalSession$Polynomial;)V" } : MethodName) prog_4_method_13_code (7 : Nat) (Option.none : Option Jvm.ClassFile.FieldType)) ∈ zWS := zin_t3 121 rfl rfl
theorem ml_S_90 : (Cond.methodLink "RationalSession" (90 : Nat) ({ cls := "RationalSession$Worker", name := "result", desc := "()LRationalSession$Form;" } : MethodName)) ∈ zWS := zin_t3 122 rfl rfl
theorem im_K_result : (Cond.instanceMethod ({ cls := "RationalSession$Worker", name := "result", desc := "()LRationalSession$Form;" } : MethodName)) ∈ zWS := zin_t3 123 rfl rfl
theorem se_K_result : (Cond.selects "RationalSession$Worker" ({ cls := "RationalSession$Worker", name := "result", desc := "()LRationalSession$Form;" } : MethodName) ({ cls := "RationalSession$Worker", name := "result", desc := "()LRationalSession$Form;" } : MethodName)) ∈ zWS := zin_t3 124 rfl rfl
theorem k_K_result : (Cond.code ({ cls := "RationalSession$Worker", name := "result", desc := "()LRationalSession$Form;" } : MethodName) prog_9_method_3_code (1 : Nat) (Option.some (FieldType.object "RationalSession$Form"))) ∈ zWS := zin_t3 125 rfl rfl
theorem ml_S_94 : (Cond.methodLink "RationalSession" (94 : Nat) ({ cls := "RationalSession$Shelf", name := "keep", desc := "(LRationalSession$Form;)I" } : MethodName)) ∈ zWS := zin_t3 126 rfl rfl
theorem im_H_keep : (Cond.instanceMethod ({ cls := "RationalSession$Shelf", name := "keep", desc := "(LRationalSession$Form;)I" } : MethodName)) ∈ zWS := zin_t3 127 rfl rfl
theorem se_H_keep : (Cond.selects "RationalSession$Shelf" ({ cls := "RationalSession$Shelf", name := "keep", desc := "(LRationalSession$Form;)I" } : MethodName) ({ cls := "RationalSession$Shelf", name := "keep", desc := "(LRationalSession$Form;)I" } : MethodName)) ∈ zWS := zin_t3 128 rfl rfl
theorem k_H_keep : (Cond.code ({ cls := "RationalSession$Shelf", name := "keep", desc := "(LRationalSession$Form;)I" } : MethodName) prog_7_method_8_code (2 : Nat) (Option.some FieldType.int)) ∈ zWS := zin_t3 129 rfl rfl
theorem ml_H_32 : (Cond.methodLink "RationalSession$Shelf" (32 : Nat) ({ cls := "RationalSession$Shelf", name := "isFull", desc := "()Z" } : MethodName)) ∈ zWS := zin_t3 130 rfl rfl
theorem ml_H_36 : (Cond.methodLink "RationalSession$Shelf" (36 : Nat) ({ cls := "RationalSession$Form", name := "copy", desc := "(LRationalSession$Form;)V" } : MethodName)) ∈ zWS := zin_t3 131 rfl rfl
theorem ml_H_40 : (Cond.methodLink "RationalSession$Shelf" (40 : Nat) ({ cls := "RationalSession$Shelf", name := "shapeNumberFor", desc := "(LRationalSession$Form;)I" } : MethodName)) ∈ zWS := zin_t3 132 rfl rfl
theorem im_H_shapeNumberFor : (Cond.instanceMethod ({ cls := "RationalSession$Shelf", name := "shapeNumberFor", desc := "(LRationalSession$Form;)I" } : MethodName)) ∈ zWS := zin_t3 134 rfl rfl
theorem k_H_shapeNumberFor : (Cond.code ({ cls := "RationalSession$Shelf", name := "shapeNumberFor", desc := "(LRationalSession$Form;)I" } : MethodName) prog_7_method_9_code (3 : Nat) (Option.some FieldType.int)) ∈ zWS := zin_t3 135 rfl rfl
theorem ml_H_44 : (Cond.methodLink "RationalSession$Shelf" (44 : Nat) ({ cls := "RationalSession$Form", name := "isSame", desc := "(LRationalSession$Form;)Z" } : MethodName)) ∈ zWS := zin_t3 136 rfl rfl
theorem im_F_isSame : (Cond.instanceMethod ({ cls := "RationalSession$Form", name := "isSame", desc := "(LRationalSession$Form;)Z" } : MethodName)) ∈ zWS := zin_t3 137 rfl rfl
theorem se_F_isSame : (Cond.selects "RationalSession$Form" ({ cls := "RationalSession$Form", name := "isSame", desc := "(LRationalSession$Form;)Z" } : MethodName) ({ cls := "RationalSession$Form", name := "isSame", desc := "(LRationalSession$Form;)Z" } : MethodName)) ∈ zWS := zin_t3 138 rfl rfl
theorem k_F_isSame : (Cond.code ({ cls := "RationalSession$Form", name := "isSame", desc := "(LRationalSession$Form;)Z" } : MethodName) prog_2_method_8_code (2 : Nat) (Option.some FieldType.boolean)) ∈ zWS := zin_t3 139 rfl rfl
theorem ml_F_47 : (Cond.methodLink "RationalSession$Form" (47 : Nat) ({ cls := "RationalSession$Polynomial", name := "isSame", desc := "(LRationalSession$Polynomial;)Z" } : MethodName)) ∈ zWS := zin_t3 140 rfl rfl
theorem im_P_isSame : (Cond.instanceMethod ({ cls := "RationalSession$Polynomial", name := "isSame", desc := "(LRationalSession$Polynomial;)Z" } : MethodName)) ∈ zWS := zin_t3 141 rfl rfl
theorem se_P_isSame : (Cond.selects "RationalSession$Polynomial" ({ cls := "RationalSession$Polynomial", name := "isSame", desc := "(LRationalSession$Polynomial;)Z" } : MethodName) ({ cls := "RationalSession$Polynomial", name := "isSame", desc := "(LRationalSession$Polynomial;)Z" } : MethodName)) ∈ zWS := zin_t3 142 rfl rfl
theorem k_P_isSame : (Cond.code ({ cls := "RationalSession$Polynomial", name := "isSame", desc := "(LRationalSession$Polynomial;)Z" } : MethodName) prog_4_method_8_code (3 : Nat) (Option.some FieldType.boolean)) ∈ zWS := zin_t3 143 rfl rfl
theorem ml_S_101 : (Cond.methodLink "RationalSession" (101 : Nat) ({ cls := "RationalSession$Shelf", name := "bind", desc := "(II)V" } : MethodName)) ∈ zWS := zin_t3 144 rfl rfl
theorem im_H_bind : (Cond.instanceMethod ({ cls := "RationalSession$Shelf", name := "bind", desc := "(II)V" } : MethodName)) ∈ zWS := zin_t3 145 rfl rfl
theorem se_H_bind : (Cond.selects "RationalSession$Shelf" ({ cls := "RationalSession$Shelf", name := "bind", desc := "(II)V" } : MethodName) ({ cls := "RationalSession$Shelf", name := "bind", desc := "(II)V" } : MethodName)) ∈ zWS := zin_t3 146 rfl rfl
theorem k_H_bind : (Cond.code ({ cls := "RationalSession$Shelf", name := "bind", desc := "(II)V" } : MethodName) prog_7_method_7_code (3 : Nat) (Option.none : Option Jvm.ClassFile.FieldType)) ∈ zWS := zin_t3 147 rfl rfl
theorem ml_Lw_34 : (Cond.methodLink "RationalSessionLaw" (34 : Nat) ({ cls := "RationalSession", name := "badPlace", desc := "()I" } : MethodName)) ∈ zWS := zin_t3 148 rfl rfl
theorem im_S_badPlace : (Cond.instanceMethod ({ cls := "RationalSession", name := "badPlace", desc := "()I" } : MethodName)) ∈ zWS := zin_t3 149 rfl rfl
theorem se_S_badPlace : (Cond.selects "RationalSession" ({ cls := "RationalSession", name := "badPlace", desc := "()I" } : MethodName) ({ cls := "RationalSession", name := "badPlace", desc := "()I" } : MethodName)) ∈ zWS := zin_t3 150 rfl rfl
theorem k_S_badPlace : (Cond.code ({ cls := "RationalSession", name := "badPlace", desc := "()I" } : MethodName) prog_1_method_6_code (1 : Nat) (Option.some FieldType.int)) ∈ zWS := zin_t3 151 rfl rfl
theorem ml_Lw_38 : (Cond.methodLink "RationalSessionLaw" (38 : Nat) ({ cls := "RationalSession", name := "degree", desc := "(IZ)I" } : MethodName)) ∈ zWS := zin_t3 152 rfl rfl
theorem im_S_degree : (Cond.instanceMethod ({ cls := "RationalSession", name := "degree", desc := "(IZ)I" } : MethodName)) ∈ zWS := zin_t3 153 rfl rfl
theorem se_S_degree : (Cond.selects "RationalSession" ({ cls := "RationalSession", name := "degree", desc := "(IZ)I" } : MethodName) ({ cls := "RationalSession", name := "degree", desc := "(IZ)I" } : MethodName)) ∈ zWS := zin_t3 154 rfl rfl
theorem k_S_degree : (Cond.code ({ cls := "RationalSession", name := "degree", desc := "(IZ)I" } : MethodName) prog_1_method_7_code (4 : Nat) (Option.some FieldType.int)) ∈ zWS := zin_t3 155 rfl rfl
theorem ml_S_105 : (Cond.methodLink "RationalSession" (105 : Nat) ({ cls := "RationalSession$Shelf", name := "find", desc := "(I)LRationalSession$Form;" } : MethodName)) ∈ zWS := zin_t3 156 rfl rfl
theorem ml_S_109 : (Cond.methodLink "RationalSession" (109 : Nat) ({ cls := "RationalSession$Form", name := "part", desc := "(Z)LRationalSession$Polynomial;" } : MethodName)) ∈ zWS := zin_t3 157 rfl rfl
theorem im_F_part : (Cond.instanceMethod ({ cls := "RationalSession$Form", name := "part", desc := "(Z)LRationalSession$Polynomial;" } : MethodName)) ∈ zWS := zin_t3 158 rfl rfl
theorem se_F_part : (Cond.selects "RationalSession$Form" ({ cls := "RationalSession$Form", name := "part", desc := "(Z)LRationalSession$Polynomial;" } : MethodName) ({ cls := "RationalSession$Form", name := "part", desc := "(Z)LRationalSession$Polynomial;" } : MethodName)) ∈ zWS := zin_t3 159 rfl rfl
theorem k_F_part : (Cond.code ({ cls := "RationalSession$Form", name := "part", desc := "(Z)LRationalSession$Polynomial;" } : MethodName) prog_2_method_2_code (2 : Nat) (Option.some (FieldType.object "RationalSession$Polynomial"))) ∈ zWS := zin_t3 160 rfl rfl
theorem ml_Lw_43 : (Cond.methodLink "RationalSessionLaw" (43 : Nat) ({ cls := "RationalSession", name := "coefficient", desc := "(IZI)I" } : MethodName)) ∈ zWS := zin_t3 161 rfl rfl
theorem im_S_coefficient : (Cond.instanceMethod ({ cls := "RationalSession", name := "coefficient", desc := "(IZI)I" } : MethodName)) ∈ zWS := zin_t3 162 rfl rfl
theorem se_S_coefficient : (Cond.selects "RationalSession" ({ cls := "RationalSession", name := "coefficient", desc := "(IZI)I" } : MethodName) ({ cls := "RationalSession", name := "coefficient", desc := "(IZI)I" } : MethodName)) ∈ zWS := zin_t3 163 rfl rfl
theorem k_S_coefficient : (Cond.code ({ cls := "RationalSession", name := "coefficient", desc := "(IZI)I" } : MethodName) prog_1_method_8_code (5 : Nat) (Option.some FieldType.int)) ∈ zWS := zin_t3 164 rfl rfl
theorem ml_S_120 : (Cond.methodLink "RationalSession" (120 : Nat) ({ cls := "RationalSession$Polynomial", name := "get", desc := "(I)I" } : MethodName)) ∈ zWS := zin_t3 165 rfl rfl
theorem ml_Lw_48 : (Cond.methodLink "RationalSessionLaw" (48 : Nat) ({ cls := "RationalSession", name := "shape", desc := "(I)I" } : MethodName)) ∈ zWS := zin_t3 166 rfl rfl
theorem im_S_shape : (Cond.instanceMethod ({ cls := "RationalSession", name := "shape", desc := "(I)I" } : MethodName)) ∈ zWS := zin_t3 167 rfl rfl
theorem se_S_shape : (Cond.selects "RationalSession" ({ cls := "RationalSession", name := "shape", desc := "(I)I" } : MethodName) ({ cls := "RationalSession", name := "shape", desc := "(I)I" } : MethodName)) ∈ zWS := zin_t3 168 rfl rfl
theorem k_S_shape : (Cond.code ({ cls := "RationalSession", name := "shape", desc := "(I)I" } : MethodName) prog_1_method_9_code (2 : Nat) (Option.some FieldType.int)) ∈ zWS := zin_t3 169 rfl rfl
theorem ml_S_123 : (Cond.methodLink "RationalSession" (123 : Nat) ({ cls := "RationalSession$Shelf", name := "shapeOf", desc := "(I)I" } : MethodName)) ∈ zWS := zin_t3 170 rfl rfl
theorem im_H_shapeOf : (Cond.instanceMethod ({ cls := "RationalSession$Shelf", name := "shapeOf", desc := "(I)I" } : MethodName)) ∈ zWS := zin_t3 171 rfl rfl
theorem se_H_shapeOf : (Cond.selects "RationalSession$Shelf" ({ cls := "RationalSession$Shelf", name := "shapeOf", desc := "(I)I" } : MethodName) ({ cls := "RationalSession$Shelf", name := "shapeOf", desc := "(I)I" } : MethodName)) ∈ zWS := zin_t3 172 rfl rfl
theorem k_H_shapeOf : (Cond.code ({ cls := "RationalSession$Shelf", name := "shapeOf", desc := "(I)I" } : MethodName) prog_7_method_5_code (2 : Nat) (Option.some FieldType.int)) ∈ zWS := zin_t3 173 rfl rfl
theorem ml_Lw_52 : (Cond.methodLink "RationalSessionLaw" (52 : Nat) ({ cls := "RationalSession", name := "shapes", desc := "()I" } : MethodName)) ∈ zWS := zin_t3 174 rfl rfl
theorem im_S_shapes : (Cond.instanceMethod ({ cls := "RationalSession", name := "shapes", desc := "()I" } : MethodName)) ∈ zWS := zin_t3 175 rfl rfl
theorem se_S_shapes : (Cond.selects "RationalSession" ({ cls := "RationalSession", name := "shapes", desc := "()I" } : MethodName) ({ cls := "RationalSession", name := "shapes", desc := "()I" } : MethodName)) ∈ zWS := zin_t3 176 rfl rfl
theorem k_S_shapes : (Cond.code ({ cls := "RationalSession", name := "shapes", desc := "()I" } : MethodName) prog_1_method_10_code (1 : Nat) (Option.some FieldType.int)) ∈ zWS := zin_t3 177 rfl rfl
theorem ml_Lw_56 : (Cond.methodLink "RationalSessionLaw" (56 : Nat) ({ cls := "RationalSession", name := "labels", desc := "()I" } : MethodName)) ∈ zWS := zin_t3 178 rfl rfl
theorem im_S_labels : (Cond.instanceMethod ({ cls := "RationalSession", name := "labels", desc := "()I" } : MethodName)) ∈ zWS := zin_t3 179 rfl rfl
theorem se_S_labels : (Cond.selects "RationalSession" ({ cls := "RationalSession", name := "labels", desc := "()I" } : MethodName) ({ cls := "RationalSession", name := "labels", desc := "()I" } : MethodName)) ∈ zWS := zin_t3 180 rfl rfl
theorem k_S_labels : (Cond.code ({ cls := "RationalSession", name := "labels", desc := "()I" } : MethodName) prog_1_method_11_code (1 : Nat) (Option.some FieldType.int)) ∈ zWS := zin_t3 181 rfl rfl
theorem ml_Lw_60 : (Cond.methodLink "RationalSessionLaw" (60 : Nat) ({ cls := "RationalSession", name := "bound", desc := "(I)I" } : MethodName)) ∈ zWS := zin_t3 182 rfl rfl
theorem im_S_bound : (Cond.instanceMethod ({ cls := "RationalSession", name := "bound", desc := "(I)I" } : MethodName)) ∈ zWS := zin_t3 183 rfl rfl
theorem se_S_bound : (Cond.selects "RationalSession" ({ cls := "RationalSession", name := "bound", desc := "(I)I" } : MethodName) ({ cls := "RationalSession", name := "bound", desc := "(I)I" } : MethodName)) ∈ zWS := zin_t3 184 rfl rfl
theorem k_S_bound : (Cond.code ({ cls := "RationalSession", name := "bound", desc := "(I)I" } : MethodName) prog_1_method_12_code (2 : Nat) (Option.some FieldType.int)) ∈ zWS := zin_t3 185 rfl rfl
theorem ml_S_132 : (Cond.methodLink "RationalSession" (132 : Nat) ({ cls := "RationalSession$Shelf", name := "labelBoundTo", desc := "(I)I" } : MethodName)) ∈ zWS := zin_t3 186 rfl rfl
theorem ml_Lw_64 : (Cond.methodLink "RationalSessionLaw" (64 : Nat) ({ cls := "RationalSession", name := "value", desc := "(II)I" } : MethodName)) ∈ zWS := zin_t3 187 rfl rfl
theorem im_S_value : (Cond.instanceMethod ({ cls := "RationalSession", name := "value", desc := "(II)I" } : MethodName)) ∈ zWS := zin_t3 188 rfl rfl
theorem se_S_value : (Cond.selects "RationalSession" ({ cls := "RationalSession", name := "value", desc := "(II)I" } : MethodName) ({ cls := "RationalSession", name := "value", desc := "(II)I" } : MethodName)) ∈ zWS := zin_t3 189 rfl rfl
theorem k_S_value : (Cond.code ({ cls := "RationalSession", name := "value", desc := "(II)I" } : MethodName) prog_1_method_13_code (6 : Nat) (Option.some FieldType.int)) ∈ zWS := zin_t3 190 rfl rfl
theorem ml_S_135 : (Cond.methodLink "RationalSession" (135 : Nat) ({ cls := "java/lang/Math", name := "floorMod", desc := "(II)I" } : MethodName)) ∈ zWS := zin_t3 191 rfl rfl
theorem sm_jM_floorMod : (Cond.static ({ cls := "java/lang/Math", name := "floorMod", desc := "(II)I" } : MethodName)) ∈ zWS := zin_t3 192 rfl rfl
theorem k_jM_floorMod : (Cond.code ({ cls := "java/lang/Math", name := "floorMod", desc := "(II)I" } : MethodName) prog_14_method_50_code (3 : Nat) (Option.some FieldType.int)) ∈ zWS := zin_t3 193 rfl rfl
theorem ml_S_145 : (Cond.methodLink "RationalSession" (145 : Nat) ({ cls := "RationalSession$Polynomial", name := "valueAt", desc := "(I)I" } : MethodName)) ∈ zWS := zin_t3 194 rfl rfl
theorem im_P_valueAt : (Cond.instanceMethod ({ cls := "RationalSession$Polynomial", name := "valueAt", desc := "(I)I" } : MethodName)) ∈ zWS := zin_t3 195 rfl rfl
theorem se_P_valueAt : (Cond.selects "RationalSession$Polynomial" ({ cls := "RationalSession$Polynomial", name := "valueAt", desc := "(I)I" } : MethodName) ({ cls := "RationalSession$Polynomial", name := "valueAt", desc := "(I)I" } : MethodName)) ∈ zWS := zin_t3 196 rfl rfl
theorem k_P_valueAt : (Cond.code ({ cls := "RationalSession$Polynomial", name := "valueAt", desc := "(I)I" } : MethodName) prog_4_method_14_code (4 : Nat) (Option.some FieldType.int)) ∈ zWS := zin_t3 197 rfl rfl
theorem ml_S_151 : (Cond.methodLink "RationalSession" (151 : Nat) ({ cls := "RationalSession", name := "inverse", desc := "(I)I" } : MethodName)) ∈ zWS := zin_t3 198 rfl rfl
theorem ml_Lw_69 : (Cond.methodLink "RationalSessionLaw" (69 : Nat) ({ cls := "RationalSession", name := "text", desc := "(II)I" } : MethodName)) ∈ zWS := zin_t3 199 rfl rfl
theorem im_S_text : (Cond.instanceMethod ({ cls := "RationalSession", name := "text", desc := "(II)I" } : MethodName)) ∈ zWS := zin_t3 200 rfl rfl
theorem se_S_text : (Cond.selects "RationalSession" ({ cls := "RationalSession", name := "text", desc := "(II)I" } : MethodName) ({ cls := "RationalSession", name := "text", desc := "(II)I" } : MethodName)) ∈ zWS := zin_t3 201 rfl rfl
theorem k_S_text : (Cond.code ({ cls := "RationalSession", name := "text", desc := "(II)I" } : MethodName) prog_1_method_14_code (4 : Nat) (Option.some FieldType.int)) ∈ zWS := zin_t3 202 rfl rfl
theorem ml_S_154 : (Cond.methodLink "RationalSession" (154 : Nat) ({ cls := "RationalSession$TextSeeker", name := "seek", desc := "(LRationalSession$Form;I)I" } : MethodName)) ∈ zWS := zin_t3 203 rfl rfl
theorem im_T_seek : (Cond.instanceMethod ({ cls := "RationalSession$TextSeeker", name := "seek", desc := "(LRationalSession$Form;I)I" } : MethodName)) ∈ zWS := zin_t3 204 rfl rfl
theorem se_T_seek : (Cond.selects "RationalSession$TextSeeker" ({ cls := "RationalSession$TextSeeker", name := "seek", desc := "(LRationalSession$Form;I)I" } : MethodName) ({ cls := "RationalSession$TextSeeker", name := "seek", desc := "(LRationalSession$Form;I)I" } : MethodName)) ∈ zWS := zin_t3 205 rfl rfl
theorem k_T_seek : (Cond.code ({ cls := "RationalSession$TextSeeker", name := "seek", desc := "(LRationalSession$Form;I)I" } : MethodName) prog_8_method_2_code (3 : Nat) (Option.some FieldType.int)) ∈ zWS := zin_t3 206 rfl rfl
theorem ml_T_33 : (Cond.methodLink "RationalSession$TextSeeker" (33 : Nat) ({ cls := "RationalSession$TextSeeker", name := "spell", desc := "(LRationalSession$Polynomial;)V" } : MethodName)) ∈ zWS := zin_t3 207 rfl rfl
theorem im_T_spell : (Cond.instanceMethod ({ cls := "RationalSession$TextSeeker", name := "spell", desc := "(LRationalSession$Polynomial;)V" } : MethodName)) ∈ zWS := zin_t3 209 rfl rfl
theorem k_T_spell : (Cond.code ({ cls := "RationalSession$TextSeeker", name := "spell", desc := "(LRationalSession$Polynomial;)V" } : MethodName) prog_8_method_3_code (4 : Nat) (Option.none : Option Jvm.ClassFile.FieldType)) ∈ zWS := zin_t3 210 rfl rfl
theorem ml_T_41 : (Cond.methodLink "RationalSession$TextSeeker" (41 : Nat) ({ cls := "RationalSession$Polynomial", name := "isZero", desc := "()Z" } : MethodName)) ∈ zWS := zin_t3 211 rfl rfl
theorem ml_T_37 : (Cond.methodLink "RationalSession$TextSeeker" (37 : Nat) ({ cls := "RationalSession$TextSeeker", name := "put", desc := "(C)V" } : MethodName)) ∈ zWS := zin_t3 212 rfl rfl
theorem im_T_put : (Cond.instanceMethod ({ cls := "RationalSession$TextSeeker", name := "put", desc := "(C)V" } : MethodName)) ∈ zWS := zin_t3 214 rfl rfl
theorem k_T_put : (Cond.code ({ cls := "RationalSession$TextSeeker", name := "put", desc := "(C)V" } : MethodName) prog_8_method_6_code (2 : Nat) (Option.none : Option Jvm.ClassFile.FieldType)) ∈ zWS := zin_t3 215 rfl rfl
theorem ml_T_45 : (Cond.methodLink "RationalSession$TextSeeker" (45 : Nat) ({ cls := "RationalSession$Polynomial", name := "get", desc := "(I)I" } : MethodName)) ∈ zWS := zin_t3 216 rfl rfl
theorem ml_T_49 : (Cond.methodLink "RationalSession$TextSeeker" (49 : Nat) ({ cls := "RationalSession$TextSeeker", name := "spellPart", desc := "(II)V" } : MethodName)) ∈ zWS := zin_t3 217 rfl rfl
theorem im_T_spellPart : (Cond.instanceMethod ({ cls := "RationalSession$TextSeeker", name := "spellPart", desc := "(II)V" } : MethodName)) ∈ zWS := zin_t3 219 rfl rfl
theorem k_T_spellPart : (Cond.code ({ cls := "RationalSession$TextSeeker", name := "spellPart", desc := "(II)V" } : MethodName) prog_8_method_4_code (3 : Nat) (Option.none : Option Jvm.ClassFile.FieldType)) ∈ zWS := zin_t3 220 rfl rfl
theorem ml_T_53 : (Cond.methodLink "RationalSession$TextSeeker" (53 : Nat) ({ cls := "RationalSession$TextSeeker", name := "spellNumber", desc := "(I)V" } : MethodName)) ∈ zWS := zin_t3 221 rfl rfl
theorem im_T_spellNumber : (Cond.instanceMethod ({ cls := "RationalSession$TextSeeker", name := "spellNumber", desc := "(I)V" } : MethodName)) ∈ zWS := zin_t3 223 rfl rfl
theorem k_T_spellNumber : (Cond.code ({ cls := "RationalSession$TextSeeker", name := "spellNumber", desc := "(I)V" } : MethodName) prog_8_method_5_code (3 : Nat) (Option.none : Option Jvm.ClassFile.FieldType)) ∈ zWS := zin_t3 224 rfl rfl
theorem ml_Lw_73 : (Cond.methodLink "RationalSessionLaw" (73 : Nat) ({ cls := "RationalSession", name := "line", desc := "(I)I" } : MethodName)) ∈ zWS := zin_t3 225 rfl rfl
theorem im_S_line : (Cond.instanceMethod ({ cls := "RationalSession", name := "line", desc := "(I)I" } : MethodName)) ∈ zWS := zin_t3 226 rfl rfl
theorem se_S_line : (Cond.selects "RationalSession" ({ cls := "RationalSession", name := "line", desc := "(I)I" } : MethodName) ({ cls := "RationalSession", name := "line", desc := "(I)I" } : MethodName)) ∈ zWS := zin_t3 227 rfl rfl
theorem k_S_line : (Cond.code ({ cls := "RationalSession", name := "line", desc := "(I)I" } : MethodName) prog_1_method_15_code (2 : Nat) (Option.some FieldType.int)) ∈ zWS := zin_t3 228 rfl rfl
theorem ml_S_158 : (Cond.methodLink "RationalSession" (158 : Nat) ({ cls := "RationalSession$Line", name := "at", desc := "(I)C" } : MethodName)) ∈ zWS := zin_t3 229 rfl rfl
theorem ml_Lw_77 : (Cond.methodLink "RationalSessionLaw" (77 : Nat) ({ cls := "RationalSession", name := "reset", desc := "()V" } : MethodName)) ∈ zWS := zin_t3 230 rfl rfl
theorem im_S_reset : (Cond.instanceMethod ({ cls := "RationalSession", name := "reset", desc := "()V" } : MethodName)) ∈ zWS := zin_t3 231 rfl rfl
theorem se_S_reset : (Cond.selects "RationalSession" ({ cls := "RationalSession", name := "reset", desc := "()V" } : MethodName) ({ cls := "RationalSession", name := "reset", desc := "()V" } : MethodName)) ∈ zWS := zin_t3 232 rfl rfl
theorem k_S_reset : (Cond.code ({ cls := "RationalSession", name := "reset", desc := "()V" } : MethodName) prog_1_method_16_code (1 : Nat) (Option.none : Option Jvm.ClassFile.FieldType)) ∈ zWS := zin_t3 233 rfl rfl
theorem ml_S_162 : (Cond.methodLink "RationalSession" (162 : Nat) ({ cls := "RationalSession$Shelf", name := "clear", desc := "()V" } : MethodName)) ∈ zWS := zin_t3 234 rfl rfl
theorem im_H_clear : (Cond.instanceMethod ({ cls := "RationalSession$Shelf", name := "clear", desc := "()V" } : MethodName)) ∈ zWS := zin_t3 235 rfl rfl
theorem se_H_clear : (Cond.selects "RationalSession$Shelf" ({ cls := "RationalSession$Shelf", name := "clear", desc := "()V" } : MethodName) ({ cls := "RationalSession$Shelf", name := "clear", desc := "()V" } : MethodName)) ∈ zWS := zin_t3 236 rfl rfl
theorem k_H_clear : (Cond.code ({ cls := "RationalSession$Shelf", name := "clear", desc := "()V" } : MethodName) prog_7_method_2_code (2 : Nat) (Option.none : Option Jvm.ClassFile.FieldType)) ∈ zWS := zin_t3 237 rfl rfl
theorem cl_Lw_10 : (Cond.classLink "RationalSessionLaw" (10 : Nat) "RationalSessionModel") ∈ zWS := zin_t3 238 rfl rfl
theorem in_M_made : (Cond.instantiable "RationalSessionModel" (22 : Nat)) ∈ zWS := zin_t3 239 rfl rfl
theorem ml_Lw_12 : (Cond.methodLink "RationalSessionLaw" (12 : Nat) ({ cls := "RationalSessionModel", name := "<init>", desc := "()V" } : MethodName)) ∈ zWS := zin_t4 0 rfl rfl
theorem im_M_init : (Cond.instanceMethod ({ cls := "RationalSessionModel", name := "<init>", desc := "()V" } : MethodName)) ∈ zWS := zin_t4 1 rfl rfl
theorem k_M_init : (Cond.code ({ cls := "RationalSessionModel", name := "<init>", desc := "()V" } : MethodName) prog_12_method_1_code (1 : Nat) (Option.none : Option Jvm.ClassFile.FieldType)) ∈ zWS := zin_t4 2 rfl rfl
theorem ml_M_1 : (Cond.methodLink "RationalSessionModel" (1 : Nat) ({ cls := "java/lang/Object", name := "<init>", desc := "()V" } : MethodName)) ∈ zWS := zin_t4 3 rfl rfl
theorem fl_M_7 : (Cond.fieldLink "RationalSessionModel" (7 : Nat) "RationalSessionModel" "line" "[I") ∈ zWS := zin_t4 4 rfl rfl
theorem fl_M_67 : (Cond.fieldLink "RationalSessionModel" (67 : Nat) "RationalSessionModel" "length" "I") ∈ zWS := zin_t4 5 rfl rfl
theorem fl_M_167 : (Cond.fieldLink "RationalSessionModel" (167 : Nat) "RationalSessionModel" "labels" "I") ∈ zWS := zin_t4 6 rfl rfl
theorem fl_M_13 : (Cond.fieldLink "RationalSessionModel" (13 : Nat) "RationalSessionModel" "bad" "I") ∈ zWS := zin_t4 7 rfl rfl
theorem fl_M_85 : (Cond.fieldLink "RationalSessionModel" (85 : Nat) "RationalSessionModel" "level" "I") ∈ zWS := zin_t4 8 rfl rfl
theorem fl_M_119 : (Cond.fieldLink "RationalSessionModel" (119 : Nat) "RationalSessionModel" "trouble" "I") ∈ zWS := zin_t4 9 rfl rfl
theorem fl_M_211 : (Cond.fieldLink "RationalSessionModel" (211 : Nat) "RationalSessionModel" "wanted" "I") ∈ zWS := zin_t4 10 rfl rfl
theorem fl_M_208 : (Cond.fieldLink "RationalSessionModel" (208 : Nat) "RationalSessionModel" "place" "I") ∈ zWS := zin_t4 11 rfl rfl
theorem fl_M_214 : (Cond.fieldLink "RationalSessionModel" (214 : Nat) "RationalSessionModel" "found" "I") ∈ zWS := zin_t4 12 rfl rfl
theorem fl_M_17 : (Cond.fieldLink "RationalSessionModel" (17 : Nat) "RationalSessionModel" "shapeOf" "[I") ∈ zWS := zin_t4 13 rfl rfl
theorem fl_M_20 : (Cond.fieldLink "RationalSessionModel" (20 : Nat) "RationalSessionModel" "boundTo" "[I") ∈ zWS := zin_t4 14 rfl rfl
theorem fl_M_23 : (Cond.fieldLink "RationalSessionModel" (23 : Nat) "RationalSessionModel" "num" "[I") ∈ zWS := zin_t4 15 rfl rfl
theorem fl_M_26 : (Cond.fieldLink "RationalSessionModel" (26 : Nat) "RationalSessionModel" "den" "[I") ∈ zWS := zin_t4 16 rfl rfl
theorem fl_M_29 : (Cond.fieldLink "RationalSessionModel" (29 : Nat) "RationalSessionModel" "p" "[I") ∈ zWS := zin_t4 17 rfl rfl
theorem fl_M_32 : (Cond.fieldLink "RationalSessionModel" (32 : Nat) "RationalSessionModel" "q" "[I") ∈ zWS := zin_t4 18 rfl rfl
theorem fl_M_35 : (Cond.fieldLink "RationalSessionModel" (35 : Nat) "RationalSessionModel" "m" "[I") ∈ zWS := zin_t4 19 rfl rfl
theorem fl_M_38 : (Cond.fieldLink "RationalSessionModel" (38 : Nat) "RationalSessionModel" "solved" "[I") ∈ zWS := zin_t4 20 rfl rfl
theorem fl_M_41 : (Cond.fieldLink "RationalSessionModel" (41 : Nat) "RationalSessionModel" "kind" "[I") ∈ zWS := zin_t4 21 rfl rfl
theorem fl_M_44 : (Cond.fieldLink "RationalSessionModel" (44 : Nat) "RationalSessionModel" "hasSum" "[Z") ∈ zWS := zin_t4 22 rfl rfl
theorem fl_M_48 : (Cond.fieldLink "RationalSessionModel" (48 : Nat) "RationalSessionModel" "hasTerm" "[Z") ∈ zWS := zin_t4 23 rfl rfl
theorem fl_M_51 : (Cond.fieldLink "RationalSessionModel" (51 : Nat) "RationalSessionModel" "sumSign" "[I") ∈ zWS := zin_t4 24 rfl rfl
theorem fl_M_54 : (Cond.fieldLink "RationalSessionModel" (54 : Nat) "RationalSessionModel" "dividing" "[Z") ∈ zWS := zin_t4 25 rfl rfl
theorem ac_boolean : (Cond.arrayClass FieldType.boolean) ∈ zWS := zin_t4 71 rfl rfl
theorem ml_Lw_17 : (Cond.methodLink "RationalSessionLaw" (17 : Nat) ({ cls := "RationalSessionModel", name := "type", desc := "(I)I" } : MethodName)) ∈ zWS := zin_t4 72 rfl rfl
theorem im_M_type : (Cond.instanceMethod ({ cls := "RationalSessionModel", name := "type", desc := "(I)I" } : MethodName)) ∈ zWS := zin_t4 73 rfl rfl
theorem se_M_type : (Cond.selects "RationalSessionModel" ({ cls := "RationalSessionModel", name := "type", desc := "(I)I" } : MethodName) ({ cls := "RationalSessionModel", name := "type", desc := "(I)I" } : MethodName)) ∈ zWS := zin_t4 74 rfl rfl
theorem k_M_type : (Cond.code ({ cls := "RationalSessionModel", name := "type", desc := "(I)I" } : MethodName) prog_12_method_5_code (2 : Nat) (Option.some FieldType.int)) ∈ zWS := zin_t4 75 rfl rfl
theorem ml_M_64 : (Cond.methodLink "RationalSessionModel" (64 : Nat) ({ cls := "RationalSessionModel", name := "known", desc := "(I)Z" } : MethodName)) ∈ zWS := zin_t4 76 rfl rfl
theorem im_M_known : (Cond.instanceMethod ({ cls := "RationalSessionModel", name := "known", desc := "(I)Z" } : MethodName)) ∈ zWS := zin_t4 78 rfl rfl
theorem k_M_known : (Cond.code ({ cls := "RationalSessionModel", name := "known", desc := "(I)Z" } : MethodName) prog_12_method_4_code (2 : Nat) (Option.some FieldType.boolean)) ∈ zWS := zin_t4 79 rfl rfl
theorem ml_M_57 : (Cond.methodLink "RationalSessionModel" (57 : Nat) ({ cls := "RationalSessionModel", name := "digit", desc := "(I)Z" } : MethodName)) ∈ zWS := zin_t4 80 rfl rfl
theorem im_M_digit : (Cond.instanceMethod ({ cls := "RationalSessionModel", name := "digit", desc := "(I)Z" } : MethodName)) ∈ zWS := zin_t4 82 rfl rfl
theorem k_M_digit : (Cond.code ({ cls := "RationalSessionModel", name := "digit", desc := "(I)Z" } : MethodName) prog_12_method_2_code (2 : Nat) (Option.some FieldType.boolean)) ∈ zWS := zin_t4 83 rfl rfl
theorem ml_M_61 : (Cond.methodLink "RationalSessionModel" (61 : Nat) ({ cls := "RationalSessionModel", name := "name", desc := "(I)Z" } : MethodName)) ∈ zWS := zin_t4 84 rfl rfl
theorem im_M_name : (Cond.instanceMethod ({ cls := "RationalSessionModel", name := "name", desc := "(I)Z" } : MethodName)) ∈ zWS := zin_t4 86 rfl rfl
theorem k_M_name : (Cond.code ({ cls := "RationalSessionModel", name := "name", desc := "(I)Z" } : MethodName) prog_12_method_3_code (2 : Nat) (Option.some FieldType.boolean)) ∈ zWS := zin_t4 87 rfl rfl
theorem ml_Lw_24 : (Cond.methodLink "RationalSessionLaw" (24 : Nat) ({ cls := "RationalSessionModel", name := "types", desc := "(J)I" } : MethodName)) ∈ zWS := zin_t4 88 rfl rfl
theorem im_M_types : (Cond.instanceMethod ({ cls := "RationalSessionModel", name := "types", desc := "(J)I" } : MethodName)) ∈ zWS := zin_t4 89 rfl rfl
theorem se_M_types : (Cond.selects "RationalSessionModel" ({ cls := "RationalSessionModel", name := "types", desc := "(J)I" } : MethodName) ({ cls := "RationalSessionModel", name := "types", desc := "(J)I" } : MethodName)) ∈ zWS := zin_t4 90 rfl rfl
theorem k_M_types : (Cond.code ({ cls := "RationalSessionModel", name := "types", desc := "(J)I" } : MethodName) prog_12_method_6_code (6 : Nat) (Option.some FieldType.int)) ∈ zWS := zin_t4 91 rfl rfl
theorem ml_M_70 : (Cond.methodLink "RationalSessionModel" (70 : Nat) ({ cls := "RationalSessionModel", name := "type", desc := "(I)I" } : MethodName)) ∈ zWS := zin_t4 92 rfl rfl
theorem ml_Lw_29 : (Cond.methodLink "RationalSessionLaw" (29 : Nat) ({ cls := "RationalSessionModel", name := "back", desc := "()I" } : MethodName)) ∈ zWS := zin_t4 93 rfl rfl
theorem im_M_back : (Cond.instanceMethod ({ cls := "RationalSessionModel", name := "back", desc := "()I" } : MethodName)) ∈ zWS := zin_t4 94 rfl rfl
theorem se_M_back : (Cond.selects "RationalSessionModel" ({ cls := "RationalSessionModel", name := "back", desc := "()I" } : MethodName) ({ cls := "RationalSessionModel", name := "back", desc := "()I" } : MethodName)) ∈ zWS := zin_t4 95 rfl rfl
theorem k_M_back : (Cond.code ({ cls := "RationalSessionModel", name := "back", desc := "()I" } : MethodName) prog_12_method_7_code (1 : Nat) (Option.some FieldType.int)) ∈ zWS := zin_t4 96 rfl rfl
theorem ml_Lw_33 : (Cond.methodLink "RationalSessionLaw" (33 : Nat) ({ cls := "RationalSessionModel", name := "enter", desc := "()I" } : MethodName)) ∈ zWS := zin_t4 97 rfl rfl
theorem im_M_enter : (Cond.instanceMethod ({ cls := "RationalSessionModel", name := "enter", desc := "()I" } : MethodName)) ∈ zWS := zin_t4 98 rfl rfl
theorem se_M_enter : (Cond.selects "RationalSessionModel" ({ cls := "RationalSessionModel", name := "enter", desc := "()I" } : MethodName) ({ cls := "RationalSessionModel", name := "enter", desc := "()I" } : MethodName)) ∈ zWS := zin_t4 99 rfl rfl
theorem k_M_enter : (Cond.code ({ cls := "RationalSessionModel", name := "enter", desc := "()I" } : MethodName) prog_12_method_41_code (2 : Nat) (Option.some FieldType.int)) ∈ zWS := zin_t4 100 rfl rfl
theorem ml_M_189 : (Cond.methodLink "RationalSessionModel" (189 : Nat) ({ cls := "RationalSessionModel", name := "work", desc := "()I" } : MethodName)) ∈ zWS := zin_t4 101 rfl rfl
theorem im_M_work : (Cond.instanceMethod ({ cls := "RationalSessionModel", name := "work", desc := "()I" } : MethodName)) ∈ zWS := zin_t4 103 rfl rfl
theorem k_M_work : (Cond.code ({ cls := "RationalSessionModel", name := "work", desc := "()I" } : MethodName) prog_12_method_42_code (6 : Nat) (Option.some FieldType.int)) ∈ zWS := zin_t4 104 rfl rfl
theorem ml_M_192 : (Cond.methodLink "RationalSessionModel" (192 : Nat) ({ cls := "RationalSessionModel", name := "badPlaceOf", desc := "()I" } : MethodName)) ∈ zWS := zin_t4 105 rfl rfl
theorem im_M_badPlaceOf : (Cond.instanceMethod ({ cls := "RationalSessionModel", name := "badPlaceOf", desc := "()I" } : MethodName)) ∈ zWS := zin_t4 107 rfl rfl
theorem k_M_badPlaceOf : (Cond.code ({ cls := "RationalSessionModel", name := "badPlaceOf", desc := "()I" } : MethodName) prog_12_method_13_code (3 : Nat) (Option.some FieldType.int)) ∈ zWS := zin_t4 108 rfl rfl
theorem ml_M_88 : (Cond.methodLink "RationalSessionModel" (88 : Nat) ({ cls := "RationalSessionModel", name := "stateAt", desc := "(II)I" } : MethodName)) ∈ zWS := zin_t4 109 rfl rfl
theorem im_M_stateAt : (Cond.instanceMethod ({ cls := "RationalSessionModel", name := "stateAt", desc := "(II)I" } : MethodName)) ∈ zWS := zin_t4 111 rfl rfl
theorem k_M_stateAt : (Cond.code ({ cls := "RationalSessionModel", name := "stateAt", desc := "(II)I" } : MethodName) prog_12_method_8_code (3 : Nat) (Option.some FieldType.int)) ∈ zWS := zin_t4 112 rfl rfl
theorem ml_M_74 : (Cond.methodLink "RationalSessionModel" (74 : Nat) ({ cls := "RationalSessionModel", name := "open", desc := "(I)I" } : MethodName)) ∈ zWS := zin_t4 113 rfl rfl
theorem im_M_open : (Cond.instanceMethod ({ cls := "RationalSessionModel", name := "open", desc := "(I)I" } : MethodName)) ∈ zWS := zin_t4 115 rfl rfl
theorem k_M_open : (Cond.code ({ cls := "RationalSessionModel", name := "open", desc := "(I)I" } : MethodName) prog_12_method_10_code (2 : Nat) (Option.some FieldType.int)) ∈ zWS := zin_t4 116 rfl rfl
theorem ml_M_77 : (Cond.methodLink "RationalSessionModel" (77 : Nat) ({ cls := "RationalSessionModel", name := "begin", desc := "(II)I" } : MethodName)) ∈ zWS := zin_t4 117 rfl rfl
theorem im_M_begin : (Cond.instanceMethod ({ cls := "RationalSessionModel", name := "begin", desc := "(II)I" } : MethodName)) ∈ zWS := zin_t4 119 rfl rfl
theorem k_M_begin : (Cond.code ({ cls := "RationalSessionModel", name := "begin", desc := "(II)I" } : MethodName) prog_12_method_9_code (3 : Nat) (Option.some FieldType.int)) ∈ zWS := zin_t4 120 rfl rfl
theorem ml_M_81 : (Cond.methodLink "RationalSessionModel" (81 : Nat) ({ cls := "RationalSessionModel", name := "close", desc := "()I" } : MethodName)) ∈ zWS := zin_t4 121 rfl rfl
theorem im_M_close : (Cond.instanceMethod ({ cls := "RationalSessionModel", name := "close", desc := "()I" } : MethodName)) ∈ zWS := zin_t4 123 rfl rfl
theorem k_M_close : (Cond.code ({ cls := "RationalSessionModel", name := "close", desc := "()I" } : MethodName) prog_12_method_11_code (1 : Nat) (Option.some FieldType.int)) ∈ zWS := zin_t4 124 rfl rfl
theorem ml_M_91 : (Cond.methodLink "RationalSessionModel" (91 : Nat) ({ cls := "RationalSessionModel", name := "complete", desc := "(I)Z" } : MethodName)) ∈ zWS := zin_t4 125 rfl rfl
theorem im_M_complete : (Cond.instanceMethod ({ cls := "RationalSessionModel", name := "complete", desc := "(I)Z" } : MethodName)) ∈ zWS := zin_t4 127 rfl rfl
theorem k_M_complete : (Cond.code ({ cls := "RationalSessionModel", name := "complete", desc := "(I)Z" } : MethodName) prog_12_method_12_code (2 : Nat) (Option.some FieldType.boolean)) ∈ zWS := zin_t4 128 rfl rfl
theorem ml_M_177 : (Cond.methodLink "RationalSessionModel" (177 : Nat) ({ cls := "RationalSessionModel", name := "start", desc := "(I)V" } : MethodName)) ∈ zWS := zin_t4 129 rfl rfl
theorem im_M_start : (Cond.instanceMethod ({ cls := "RationalSessionModel", name := "start", desc := "(I)V" } : MethodName)) ∈ zWS := zin_t4 131 rfl rfl
theorem k_M_start : (Cond.code ({ cls := "RationalSessionModel", name := "start", desc := "(I)V" } : MethodName) prog_12_method_32_code (2 : Nat) (Option.none : Option Jvm.ClassFile.FieldType)) ∈ zWS := zin_t4 132 rfl rfl
theorem ml_M_195 : (Cond.methodLink "RationalSessionModel" (195 : Nat) ({ cls := "RationalSessionModel", name := "advance", desc := "(I)I" } : MethodName)) ∈ zWS := zin_t4 133 rfl rfl
theorem im_M_advance : (Cond.instanceMethod ({ cls := "RationalSessionModel", name := "advance", desc := "(I)I" } : MethodName)) ∈ zWS := zin_t4 135 rfl rfl
theorem k_M_advance : (Cond.code ({ cls := "RationalSessionModel", name := "advance", desc := "(I)I" } : MethodName) prog_12_method_40_code (4 : Nat) (Option.some FieldType.int)) ∈ zWS := zin_t4 136 rfl rfl
theorem ml_M_152 : (Cond.methodLink "RationalSessionModel" (152 : Nat) ({ cls := "RationalSessionModel", name := "term", desc := "()V" } : MethodName)) ∈ zWS := zin_t4 137 rfl rfl
theorem im_M_term : (Cond.instanceMethod ({ cls := "RationalSessionModel", name := "term", desc := "()V" } : MethodName)) ∈ zWS := zin_t4 139 rfl rfl
theorem k_M_term : (Cond.code ({ cls := "RationalSessionModel", name := "term", desc := "()V" } : MethodName) prog_12_method_34_code (3 : Nat) (Option.none : Option Jvm.ClassFile.FieldType)) ∈ zWS := zin_t4 140 rfl rfl
theorem ml_M_144 : (Cond.methodLink "RationalSessionModel" (144 : Nat) ({ cls := "RationalSessionModel", name := "add", desc := "(IIII)V" } : MethodName)) ∈ zWS := zin_t4 141 rfl rfl
theorem im_M_add : (Cond.instanceMethod ({ cls := "RationalSessionModel", name := "add", desc := "(IIII)V" } : MethodName)) ∈ zWS := zin_t4 143 rfl rfl
theorem k_M_add : (Cond.code ({ cls := "RationalSessionModel", name := "add", desc := "(IIII)V" } : MethodName) prog_12_method_26_code (5 : Nat) (Option.none : Option Jvm.ClassFile.FieldType)) ∈ zWS := zin_t4 144 rfl rfl
theorem ml_M_122 : (Cond.methodLink "RationalSessionModel" (122 : Nat) ({ cls := "RationalSessionModel", name := "blank", desc := "()V" } : MethodName)) ∈ zWS := zin_t4 145 rfl rfl
theorem im_M_blank : (Cond.instanceMethod ({ cls := "RationalSessionModel", name := "blank", desc := "()V" } : MethodName)) ∈ zWS := zin_t4 147 rfl rfl
theorem k_M_blank : (Cond.code ({ cls := "RationalSessionModel", name := "blank", desc := "()V" } : MethodName) prog_12_method_18_code (2 : Nat) (Option.none : Option Jvm.ClassFile.FieldType)) ∈ zWS := zin_t4 148 rfl rfl
theorem ml_M_125 : (Cond.methodLink "RationalSessionModel" (125 : Nat) ({ cls := "RationalSessionModel", name := "product", desc := "(IZIZIZ)V" } : MethodName)) ∈ zWS := zin_t4 149 rfl rfl
theorem im_M_product : (Cond.instanceMethod ({ cls := "RationalSessionModel", name := "product", desc := "(IZIZIZ)V" } : MethodName)) ∈ zWS := zin_t4 151 rfl rfl
theorem k_M_product : (Cond.code ({ cls := "RationalSessionModel", name := "product", desc := "(IZIZIZ)V" } : MethodName) prog_12_method_25_code (13 : Nat) (Option.none : Option Jvm.ClassFile.FieldType)) ∈ zWS := zin_t4 152 rfl rfl
theorem ml_M_129 : (Cond.methodLink "RationalSessionModel" (129 : Nat) ({ cls := "RationalSessionModel", name := "form", desc := "(I)V" } : MethodName)) ∈ zWS := zin_t4 153 rfl rfl
theorem im_M_form : (Cond.instanceMethod ({ cls := "RationalSessionModel", name := "form", desc := "(I)V" } : MethodName)) ∈ zWS := zin_t4 155 rfl rfl
theorem k_M_form : (Cond.code ({ cls := "RationalSessionModel", name := "form", desc := "(I)V" } : MethodName) prog_12_method_23_code (7 : Nat) (Option.none : Option Jvm.ClassFile.FieldType)) ∈ zWS := zin_t4 156 rfl rfl
theorem ml_M_104 : (Cond.methodLink "RationalSessionModel" (104 : Nat) ({ cls := "RationalSessionModel", name := "topOf", desc := "(Z)I" } : MethodName)) ∈ zWS := zin_t4 157 rfl rfl
theorem im_M_topOf : (Cond.instanceMethod ({ cls := "RationalSessionModel", name := "topOf", desc := "(Z)I" } : MethodName)) ∈ zWS := zin_t4 159 rfl rfl
theorem k_M_topOf : (Cond.code ({ cls := "RationalSessionModel", name := "topOf", desc := "(Z)I" } : MethodName) prog_12_method_22_code (3 : Nat) (Option.some FieldType.int)) ∈ zWS := zin_t4 160 rfl rfl
theorem ml_M_108 : (Cond.methodLink "RationalSessionModel" (108 : Nat) ({ cls := "RationalSessionModel", name := "constant", desc := "(II)V" } : MethodName)) ∈ zWS := zin_t4 161 rfl rfl
theorem im_M_constant : (Cond.instanceMethod ({ cls := "RationalSessionModel", name := "constant", desc := "(II)V" } : MethodName)) ∈ zWS := zin_t4 163 rfl rfl
theorem k_M_constant : (Cond.code ({ cls := "RationalSessionModel", name := "constant", desc := "(II)V" } : MethodName) prog_12_method_16_code (4 : Nat) (Option.none : Option Jvm.ClassFile.FieldType)) ∈ zWS := zin_t4 164 rfl rfl
theorem ml_M_112 : (Cond.methodLink "RationalSessionModel" (112 : Nat) ({ cls := "RationalSessionModel", name := "solve", desc := "(III)Z" } : MethodName)) ∈ zWS := zin_t4 165 rfl rfl
theorem im_M_solve : (Cond.instanceMethod ({ cls := "RationalSessionModel", name := "solve", desc := "(III)Z" } : MethodName)) ∈ zWS := zin_t4 167 rfl rfl
theorem k_M_solve : (Cond.code ({ cls := "RationalSessionModel", name := "solve", desc := "(III)Z" } : MethodName) prog_12_method_19_code (9 : Nat) (Option.some FieldType.boolean)) ∈ zWS := zin_t4 168 rfl rfl
theorem ml_M_94 : (Cond.methodLink "RationalSessionModel" (94 : Nat) ({ cls := "RationalSessionModel", name := "eliminate", desc := "(III)V" } : MethodName)) ∈ zWS := zin_t4 169 rfl rfl
theorem im_M_eliminate : (Cond.instanceMethod ({ cls := "RationalSessionModel", name := "eliminate", desc := "(III)V" } : MethodName)) ∈ zWS := zin_t4 171 rfl rfl
theorem k_M_eliminate : (Cond.code ({ cls := "RationalSessionModel", name := "eliminate", desc := "(III)V" } : MethodName) prog_12_method_20_code (6 : Nat) (Option.none : Option Jvm.ClassFile.FieldType)) ∈ zWS := zin_t4 172 rfl rfl
theorem ml_M_98 : (Cond.methodLink "RationalSessionModel" (98 : Nat) ({ cls := "RationalSessionModel", name := "inverse", desc := "(I)I" } : MethodName)) ∈ zWS := zin_t4 173 rfl rfl
theorem im_M_inverse : (Cond.instanceMethod ({ cls := "RationalSessionModel", name := "inverse", desc := "(I)I" } : MethodName)) ∈ zWS := zin_t4 175 rfl rfl
theorem k_M_inverse : (Cond.code ({ cls := "RationalSessionModel", name := "inverse", desc := "(I)I" } : MethodName) prog_12_method_17_code (4 : Nat) (Option.some FieldType.int)) ∈ zWS := zin_t4 176 rfl rfl
theorem ml_M_101 : (Cond.methodLink "RationalSessionModel" (101 : Nat) ({ cls := "RationalSessionModel", name := "subtract", desc := "(III)V" } : MethodName)) ∈ zWS := zin_t4 177 rfl rfl
theorem im_M_subtract : (Cond.instanceMethod ({ cls := "RationalSessionModel", name := "subtract", desc := "(III)V" } : MethodName)) ∈ zWS := zin_t4 179 rfl rfl
theorem k_M_subtract : (Cond.code ({ cls := "RationalSessionModel", name := "subtract", desc := "(III)V" } : MethodName) prog_12_method_21_code (5 : Nat) (Option.none : Option Jvm.ClassFile.FieldType)) ∈ zWS := zin_t4 180 rfl rfl
theorem ml_M_116 : (Cond.methodLink "RationalSessionModel" (116 : Nat) ({ cls := "RationalSessionModel", name := "unknown", desc := "(II)I" } : MethodName)) ∈ zWS := zin_t4 181 rfl rfl
theorem im_M_unknown : (Cond.instanceMethod ({ cls := "RationalSessionModel", name := "unknown", desc := "(II)I" } : MethodName)) ∈ zWS := zin_t4 183 rfl rfl
theorem k_M_unknown : (Cond.code ({ cls := "RationalSessionModel", name := "unknown", desc := "(II)I" } : MethodName) prog_12_method_24_code (3 : Nat) (Option.some FieldType.int)) ∈ zWS := zin_t4 184 rfl rfl
theorem ml_M_137 : (Cond.methodLink "RationalSessionModel" (137 : Nat) ({ cls := "RationalSessionModel", name := "copy", desc := "(II)V" } : MethodName)) ∈ zWS := zin_t4 185 rfl rfl
theorem im_M_copy : (Cond.instanceMethod ({ cls := "RationalSessionModel", name := "copy", desc := "(II)V" } : MethodName)) ∈ zWS := zin_t4 187 rfl rfl
theorem k_M_copy : (Cond.code ({ cls := "RationalSessionModel", name := "copy", desc := "(II)V" } : MethodName) prog_12_method_15_code (4 : Nat) (Option.none : Option Jvm.ClassFile.FieldType)) ∈ zWS := zin_t4 188 rfl rfl
theorem ml_M_180 : (Cond.methodLink "RationalSessionModel" (180 : Nat) ({ cls := "RationalSessionModel", name := "closed", desc := "()V" } : MethodName)) ∈ zWS := zin_t4 189 rfl rfl
theorem im_M_closed : (Cond.instanceMethod ({ cls := "RationalSessionModel", name := "closed", desc := "()V" } : MethodName)) ∈ zWS := zin_t4 191 rfl rfl
theorem k_M_closed : (Cond.code ({ cls := "RationalSessionModel", name := "closed", desc := "()V" } : MethodName) prog_12_method_35_code (2 : Nat) (Option.none : Option Jvm.ClassFile.FieldType)) ∈ zWS := zin_t4 192 rfl rfl
theorem ml_M_155 : (Cond.methodLink "RationalSessionModel" (155 : Nat) ({ cls := "RationalSessionModel", name := "derive", desc := "(II)V" } : MethodName)) ∈ zWS := zin_t4 193 rfl rfl
theorem im_M_derive : (Cond.instanceMethod ({ cls := "RationalSessionModel", name := "derive", desc := "(II)V" } : MethodName)) ∈ zWS := zin_t4 195 rfl rfl
theorem k_M_derive : (Cond.code ({ cls := "RationalSessionModel", name := "derive", desc := "(II)V" } : MethodName) prog_12_method_29_code (4 : Nat) (Option.none : Option Jvm.ClassFile.FieldType)) ∈ zWS := zin_t4 196 rfl rfl
theorem ml_M_158 : (Cond.methodLink "RationalSessionModel" (158 : Nat) ({ cls := "RationalSessionModel", name := "substitute", desc := "(III)V" } : MethodName)) ∈ zWS := zin_t4 197 rfl rfl
theorem im_M_substitute : (Cond.instanceMethod ({ cls := "RationalSessionModel", name := "substitute", desc := "(III)V" } : MethodName)) ∈ zWS := zin_t4 199 rfl rfl
theorem k_M_substitute : (Cond.code ({ cls := "RationalSessionModel", name := "substitute", desc := "(III)V" } : MethodName) prog_12_method_31_code (6 : Nat) (Option.none : Option Jvm.ClassFile.FieldType)) ∈ zWS := zin_t4 200 rfl rfl
theorem ml_M_133 : (Cond.methodLink "RationalSessionModel" (133 : Nat) ({ cls := "RationalSessionModel", name := "top", desc := "(IZ)I" } : MethodName)) ∈ zWS := zin_t4 201 rfl rfl
theorem im_M_top : (Cond.instanceMethod ({ cls := "RationalSessionModel", name := "top", desc := "(IZ)I" } : MethodName)) ∈ zWS := zin_t4 203 rfl rfl
theorem k_M_top : (Cond.code ({ cls := "RationalSessionModel", name := "top", desc := "(IZ)I" } : MethodName) prog_12_method_14_code (4 : Nat) (Option.some FieldType.int)) ∈ zWS := zin_t4 204 rfl rfl
theorem ml_M_148 : (Cond.methodLink "RationalSessionModel" (148 : Nat) ({ cls := "RationalSessionModel", name := "put", desc := "(IZII)V" } : MethodName)) ∈ zWS := zin_t4 205 rfl rfl
theorem im_M_put : (Cond.instanceMethod ({ cls := "RationalSessionModel", name := "put", desc := "(IZII)V" } : MethodName)) ∈ zWS := zin_t4 207 rfl rfl
theorem k_M_put : (Cond.code ({ cls := "RationalSessionModel", name := "put", desc := "(IZII)V" } : MethodName) prog_12_method_30_code (6 : Nat) (Option.none : Option Jvm.ClassFile.FieldType)) ∈ zWS := zin_t4 208 rfl rfl
theorem ml_M_140 : (Cond.methodLink "RationalSessionModel" (140 : Nat) ({ cls := "RationalSessionModel", name := "times", desc := "(IIZI)V" } : MethodName)) ∈ zWS := zin_t4 209 rfl rfl
theorem im_M_times : (Cond.instanceMethod ({ cls := "RationalSessionModel", name := "times", desc := "(IIZI)V" } : MethodName)) ∈ zWS := zin_t4 211 rfl rfl
theorem k_M_times : (Cond.code ({ cls := "RationalSessionModel", name := "times", desc := "(IIZI)V" } : MethodName) prog_12_method_27_code (5 : Nat) (Option.none : Option Jvm.ClassFile.FieldType)) ∈ zWS := zin_t4 212 rfl rfl
theorem ml_M_183 : (Cond.methodLink "RationalSessionModel" (183 : Nat) ({ cls := "RationalSessionModel", name := "raise", desc := "(I)I" } : MethodName)) ∈ zWS := zin_t4 213 rfl rfl
theorem im_M_raise : (Cond.instanceMethod ({ cls := "RationalSessionModel", name := "raise", desc := "(I)I" } : MethodName)) ∈ zWS := zin_t4 215 rfl rfl
theorem k_M_raise : (Cond.code ({ cls := "RationalSessionModel", name := "raise", desc := "(I)I" } : MethodName) prog_12_method_39_code (6 : Nat) (Option.some FieldType.int)) ∈ zWS := zin_t4 216 rfl rfl
theorem ml_M_161 : (Cond.methodLink "RationalSessionModel" (161 : Nat) ({ cls := "RationalSessionModel", name := "digits", desc := "(I)I" } : MethodName)) ∈ zWS := zin_t4 217 rfl rfl
theorem im_M_digits : (Cond.instanceMethod ({ cls := "RationalSessionModel", name := "digits", desc := "(I)I" } : MethodName)) ∈ zWS := zin_t4 219 rfl rfl
theorem k_M_digits : (Cond.code ({ cls := "RationalSessionModel", name := "digits", desc := "(I)I" } : MethodName) prog_12_method_36_code (4 : Nat) (Option.some FieldType.int)) ∈ zWS := zin_t4 220 rfl rfl
theorem ml_M_164 : (Cond.methodLink "RationalSessionModel" (164 : Nat) ({ cls := "RationalSessionModel", name := "worth", desc := "(II)I" } : MethodName)) ∈ zWS := zin_t4 221 rfl rfl
theorem im_M_worth : (Cond.instanceMethod ({ cls := "RationalSessionModel", name := "worth", desc := "(II)I" } : MethodName)) ∈ zWS := zin_t4 223 rfl rfl
theorem k_M_worth : (Cond.code ({ cls := "RationalSessionModel", name := "worth", desc := "(II)I" } : MethodName) prog_12_method_37_code (5 : Nat) (Option.some FieldType.int)) ∈ zWS := zin_t4 224 rfl rfl
theorem ml_M_170 : (Cond.methodLink "RationalSessionModel" (170 : Nat) ({ cls := "RationalSessionModel", name := "power", desc := "(IZ)V" } : MethodName)) ∈ zWS := zin_t4 225 rfl rfl
theorem im_M_power : (Cond.instanceMethod ({ cls := "RationalSessionModel", name := "power", desc := "(IZ)V" } : MethodName)) ∈ zWS := zin_t4 227 rfl rfl
theorem k_M_power : (Cond.code ({ cls := "RationalSessionModel", name := "power", desc := "(IZ)V" } : MethodName) prog_12_method_28_code (4 : Nat) (Option.none : Option Jvm.ClassFile.FieldType)) ∈ zWS := zin_t4 228 rfl rfl
theorem ml_M_174 : (Cond.methodLink "RationalSessionModel" (174 : Nat) ({ cls := "RationalSessionModel", name := "factor", desc := "()V" } : MethodName)) ∈ zWS := zin_t4 229 rfl rfl
theorem im_M_factor : (Cond.instanceMethod ({ cls := "RationalSessionModel", name := "factor", desc := "()V" } : MethodName)) ∈ zWS := zin_t4 231 rfl rfl
theorem k_M_factor : (Cond.code ({ cls := "RationalSessionModel", name := "factor", desc := "()V" } : MethodName) prog_12_method_33_code (1 : Nat) (Option.none : Option Jvm.ClassFile.FieldType)) ∈ zWS := zin_t4 232 rfl rfl
theorem ml_M_186 : (Cond.methodLink "RationalSessionModel" (186 : Nat) ({ cls := "RationalSessionModel", name := "atom", desc := "(I)I" } : MethodName)) ∈ zWS := zin_t4 233 rfl rfl
theorem im_M_atom : (Cond.instanceMethod ({ cls := "RationalSessionModel", name := "atom", desc := "(I)I" } : MethodName)) ∈ zWS := zin_t4 235 rfl rfl
theorem k_M_atom : (Cond.code ({ cls := "RationalSessionModel", name := "atom", desc := "(I)I" } : MethodName) prog_12_method_38_code (5 : Nat) (Option.some FieldType.int)) ∈ zWS := zin_t4 236 rfl rfl
theorem ml_M_198 : (Cond.methodLink "RationalSessionModel" (198 : Nat) ({ cls := "RationalSessionModel", name := "shapes", desc := "()I" } : MethodName)) ∈ zWS := zin_t4 237 rfl rfl
theorem im_M_shapes : (Cond.instanceMethod ({ cls := "RationalSessionModel", name := "shapes", desc := "()I" } : MethodName)) ∈ zWS := zin_t4 238 rfl rfl
theorem se_M_shapes : (Cond.selects "RationalSessionModel" ({ cls := "RationalSessionModel", name := "shapes", desc := "()I" } : MethodName) ({ cls := "RationalSessionModel", name := "shapes", desc := "()I" } : MethodName)) ∈ zWS := zin_t4 239 rfl rfl
theorem k_M_shapes : (Cond.code ({ cls := "RationalSessionModel", name := "shapes", desc := "()I" } : MethodName) prog_12_method_49_code (3 : Nat) (Option.some FieldType.int)) ∈ zWS := zin_t5 0 rfl rfl
theorem ml_M_201 : (Cond.methodLink "RationalSessionModel" (201 : Nat) ({ cls := "RationalSessionModel", name := "alike", desc := "(II)Z" } : MethodName)) ∈ zWS := zin_t5 1 rfl rfl
theorem im_M_alike : (Cond.instanceMethod ({ cls := "RationalSessionModel", name := "alike", desc := "(II)Z" } : MethodName)) ∈ zWS := zin_t5 3 rfl rfl
theorem k_M_alike : (Cond.code ({ cls := "RationalSessionModel", name := "alike", desc := "(II)Z" } : MethodName) prog_12_method_43_code (4 : Nat) (Option.some FieldType.boolean)) ∈ zWS := zin_t5 4 rfl rfl
theorem ml_Lw_37 : (Cond.methodLink "RationalSessionLaw" (37 : Nat) ({ cls := "RationalSessionModel", name := "badPlace", desc := "()I" } : MethodName)) ∈ zWS := zin_t5 5 rfl rfl
theorem im_M_badPlace : (Cond.instanceMethod ({ cls := "RationalSessionModel", name := "badPlace", desc := "()I" } : MethodName)) ∈ zWS := zin_t5 6 rfl rfl
theorem se_M_badPlace : (Cond.selects "RationalSessionModel" ({ cls := "RationalSessionModel", name := "badPlace", desc := "()I" } : MethodName) ({ cls := "RationalSessionModel", name := "badPlace", desc := "()I" } : MethodName)) ∈ zWS := zin_t5 7 rfl rfl
theorem k_M_badPlace : (Cond.code ({ cls := "RationalSessionModel", name := "badPlace", desc := "()I" } : MethodName) prog_12_method_45_code (1 : Nat) (Option.some FieldType.int)) ∈ zWS := zin_t5 8 rfl rfl
theorem ml_Lw_42 : (Cond.methodLink "RationalSessionLaw" (42 : Nat) ({ cls := "RationalSessionModel", name := "degree", desc := "(IZ)I" } : MethodName)) ∈ zWS := zin_t5 9 rfl rfl
theorem im_M_degree : (Cond.instanceMethod ({ cls := "RationalSessionModel", name := "degree", desc := "(IZ)I" } : MethodName)) ∈ zWS := zin_t5 10 rfl rfl
theorem se_M_degree : (Cond.selects "RationalSessionModel" ({ cls := "RationalSessionModel", name := "degree", desc := "(IZ)I" } : MethodName) ({ cls := "RationalSessionModel", name := "degree", desc := "(IZ)I" } : MethodName)) ∈ zWS := zin_t5 11 rfl rfl
theorem k_M_degree : (Cond.code ({ cls := "RationalSessionModel", name := "degree", desc := "(IZ)I" } : MethodName) prog_12_method_46_code (3 : Nat) (Option.some FieldType.int)) ∈ zWS := zin_t5 12 rfl rfl
theorem ml_M_205 : (Cond.methodLink "RationalSessionModel" (205 : Nat) ({ cls := "RationalSessionModel", name := "noLabel", desc := "(I)Z" } : MethodName)) ∈ zWS := zin_t5 13 rfl rfl
theorem im_M_noLabel : (Cond.instanceMethod ({ cls := "RationalSessionModel", name := "noLabel", desc := "(I)Z" } : MethodName)) ∈ zWS := zin_t5 15 rfl rfl
theorem k_M_noLabel : (Cond.code ({ cls := "RationalSessionModel", name := "noLabel", desc := "(I)Z" } : MethodName) prog_12_method_44_code (2 : Nat) (Option.some FieldType.boolean)) ∈ zWS := zin_t5 16 rfl rfl
theorem ml_Lw_47 : (Cond.methodLink "RationalSessionLaw" (47 : Nat) ({ cls := "RationalSessionModel", name := "coefficient", desc := "(IZI)I" } : MethodName)) ∈ zWS := zin_t5 17 rfl rfl
theorem im_M_coefficient : (Cond.instanceMethod ({ cls := "RationalSessionModel", name := "coefficient", desc := "(IZI)I" } : MethodName)) ∈ zWS := zin_t5 18 rfl rfl
theorem se_M_coefficient : (Cond.selects "RationalSessionModel" ({ cls := "RationalSessionModel", name := "coefficient", desc := "(IZI)I" } : MethodName) ({ cls := "RationalSessionModel", name := "coefficient", desc := "(IZI)I" } : MethodName)) ∈ zWS := zin_t5 19 rfl rfl
theorem k_M_coefficient : (Cond.code ({ cls := "RationalSessionModel", name := "coefficient", desc := "(IZI)I" } : MethodName) prog_12_method_47_code (4 : Nat) (Option.some FieldType.int)) ∈ zWS := zin_t5 20 rfl rfl
theorem ml_Lw_51 : (Cond.methodLink "RationalSessionLaw" (51 : Nat) ({ cls := "RationalSessionModel", name := "shape", desc := "(I)I" } : MethodName)) ∈ zWS := zin_t5 21 rfl rfl
theorem im_M_shape : (Cond.instanceMethod ({ cls := "RationalSessionModel", name := "shape", desc := "(I)I" } : MethodName)) ∈ zWS := zin_t5 22 rfl rfl
theorem se_M_shape : (Cond.selects "RationalSessionModel" ({ cls := "RationalSessionModel", name := "shape", desc := "(I)I" } : MethodName) ({ cls := "RationalSessionModel", name := "shape", desc := "(I)I" } : MethodName)) ∈ zWS := zin_t5 23 rfl rfl
theorem k_M_shape : (Cond.code ({ cls := "RationalSessionModel", name := "shape", desc := "(I)I" } : MethodName) prog_12_method_48_code (2 : Nat) (Option.some FieldType.int)) ∈ zWS := zin_t5 24 rfl rfl
theorem ml_Lw_55 : (Cond.methodLink "RationalSessionLaw" (55 : Nat) ({ cls := "RationalSessionModel", name := "shapes", desc := "()I" } : MethodName)) ∈ zWS := zin_t5 25 rfl rfl
theorem ml_Lw_59 : (Cond.methodLink "RationalSessionLaw" (59 : Nat) ({ cls := "RationalSessionModel", name := "labels", desc := "()I" } : MethodName)) ∈ zWS := zin_t5 26 rfl rfl
theorem im_M_labels : (Cond.instanceMethod ({ cls := "RationalSessionModel", name := "labels", desc := "()I" } : MethodName)) ∈ zWS := zin_t5 27 rfl rfl
theorem se_M_labels : (Cond.selects "RationalSessionModel" ({ cls := "RationalSessionModel", name := "labels", desc := "()I" } : MethodName) ({ cls := "RationalSessionModel", name := "labels", desc := "()I" } : MethodName)) ∈ zWS := zin_t5 28 rfl rfl
theorem k_M_labels : (Cond.code ({ cls := "RationalSessionModel", name := "labels", desc := "()I" } : MethodName) prog_12_method_50_code (1 : Nat) (Option.some FieldType.int)) ∈ zWS := zin_t5 29 rfl rfl
theorem ml_Lw_63 : (Cond.methodLink "RationalSessionLaw" (63 : Nat) ({ cls := "RationalSessionModel", name := "bound", desc := "(I)I" } : MethodName)) ∈ zWS := zin_t5 30 rfl rfl
theorem im_M_bound : (Cond.instanceMethod ({ cls := "RationalSessionModel", name := "bound", desc := "(I)I" } : MethodName)) ∈ zWS := zin_t5 31 rfl rfl
theorem se_M_bound : (Cond.selects "RationalSessionModel" ({ cls := "RationalSessionModel", name := "bound", desc := "(I)I" } : MethodName) ({ cls := "RationalSessionModel", name := "bound", desc := "(I)I" } : MethodName)) ∈ zWS := zin_t5 32 rfl rfl
theorem k_M_bound : (Cond.code ({ cls := "RationalSessionModel", name := "bound", desc := "(I)I" } : MethodName) prog_12_method_51_code (2 : Nat) (Option.some FieldType.int)) ∈ zWS := zin_t5 33 rfl rfl
theorem ml_Lw_68 : (Cond.methodLink "RationalSessionLaw" (68 : Nat) ({ cls := "RationalSessionModel", name := "value", desc := "(II)I" } : MethodName)) ∈ zWS := zin_t5 34 rfl rfl
theorem im_M_value : (Cond.instanceMethod ({ cls := "RationalSessionModel", name := "value", desc := "(II)I" } : MethodName)) ∈ zWS := zin_t5 35 rfl rfl
theorem se_M_value : (Cond.selects "RationalSessionModel" ({ cls := "RationalSessionModel", name := "value", desc := "(II)I" } : MethodName) ({ cls := "RationalSessionModel", name := "value", desc := "(II)I" } : MethodName)) ∈ zWS := zin_t5 36 rfl rfl
theorem k_M_value : (Cond.code ({ cls := "RationalSessionModel", name := "value", desc := "(II)I" } : MethodName) prog_12_method_52_code (8 : Nat) (Option.some FieldType.int)) ∈ zWS := zin_t5 37 rfl rfl
theorem ml_Lw_72 : (Cond.methodLink "RationalSessionLaw" (72 : Nat) ({ cls := "RationalSessionModel", name := "text", desc := "(II)I" } : MethodName)) ∈ zWS := zin_t5 38 rfl rfl
theorem im_M_text : (Cond.instanceMethod ({ cls := "RationalSessionModel", name := "text", desc := "(II)I" } : MethodName)) ∈ zWS := zin_t5 39 rfl rfl
theorem se_M_text : (Cond.selects "RationalSessionModel" ({ cls := "RationalSessionModel", name := "text", desc := "(II)I" } : MethodName) ({ cls := "RationalSessionModel", name := "text", desc := "(II)I" } : MethodName)) ∈ zWS := zin_t5 40 rfl rfl
theorem k_M_text : (Cond.code ({ cls := "RationalSessionModel", name := "text", desc := "(II)I" } : MethodName) prog_12_method_56_code (4 : Nat) (Option.some FieldType.int)) ∈ zWS := zin_t5 41 rfl rfl
theorem ml_M_217 : (Cond.methodLink "RationalSessionModel" (217 : Nat) ({ cls := "RationalSessionModel", name := "emit", desc := "(I)V" } : MethodName)) ∈ zWS := zin_t5 42 rfl rfl
theorem im_M_emit : (Cond.instanceMethod ({ cls := "RationalSessionModel", name := "emit", desc := "(I)V" } : MethodName)) ∈ zWS := zin_t5 44 rfl rfl
theorem k_M_emit : (Cond.code ({ cls := "RationalSessionModel", name := "emit", desc := "(I)V" } : MethodName) prog_12_method_53_code (2 : Nat) (Option.none : Option Jvm.ClassFile.FieldType)) ∈ zWS := zin_t5 45 rfl rfl
theorem ml_M_223 : (Cond.methodLink "RationalSessionModel" (223 : Nat) ({ cls := "RationalSessionModel", name := "emitPolynomial", desc := "(IZ)V" } : MethodName)) ∈ zWS := zin_t5 46 rfl rfl
theorem im_M_emitPolynomial : (Cond.instanceMethod ({ cls := "RationalSessionModel", name := "emitPolynomial", desc := "(IZ)V" } : MethodName)) ∈ zWS := zin_t5 48 rfl rfl
theorem k_M_emitPolynomial : (Cond.code ({ cls := "RationalSessionModel", name := "emitPolynomial", desc := "(IZ)V" } : MethodName) prog_12_method_55_code (6 : Nat) (Option.none : Option Jvm.ClassFile.FieldType)) ∈ zWS := zin_t5 49 rfl rfl
theorem ml_M_220 : (Cond.methodLink "RationalSessionModel" (220 : Nat) ({ cls := "RationalSessionModel", name := "emitNumber", desc := "(I)V" } : MethodName)) ∈ zWS := zin_t5 50 rfl rfl
theorem im_M_emitNumber : (Cond.instanceMethod ({ cls := "RationalSessionModel", name := "emitNumber", desc := "(I)V" } : MethodName)) ∈ zWS := zin_t5 52 rfl rfl
theorem k_M_emitNumber : (Cond.code ({ cls := "RationalSessionModel", name := "emitNumber", desc := "(I)V" } : MethodName) prog_12_method_54_code (3 : Nat) (Option.none : Option Jvm.ClassFile.FieldType)) ∈ zWS := zin_t5 53 rfl rfl
theorem ml_Lw_76 : (Cond.methodLink "RationalSessionLaw" (76 : Nat) ({ cls := "RationalSessionModel", name := "line", desc := "(I)I" } : MethodName)) ∈ zWS := zin_t5 54 rfl rfl
theorem im_M_line : (Cond.instanceMethod ({ cls := "RationalSessionModel", name := "line", desc := "(I)I" } : MethodName)) ∈ zWS := zin_t5 55 rfl rfl
theorem se_M_line : (Cond.selects "RationalSessionModel" ({ cls := "RationalSessionModel", name := "line", desc := "(I)I" } : MethodName) ({ cls := "RationalSessionModel", name := "line", desc := "(I)I" } : MethodName)) ∈ zWS := zin_t5 56 rfl rfl
theorem k_M_line : (Cond.code ({ cls := "RationalSessionModel", name := "line", desc := "(I)I" } : MethodName) prog_12_method_57_code (2 : Nat) (Option.some FieldType.int)) ∈ zWS := zin_t5 57 rfl rfl
theorem ml_Lw_80 : (Cond.methodLink "RationalSessionLaw" (80 : Nat) ({ cls := "RationalSessionModel", name := "reset", desc := "()V" } : MethodName)) ∈ zWS := zin_t5 58 rfl rfl
theorem im_M_reset : (Cond.instanceMethod ({ cls := "RationalSessionModel", name := "reset", desc := "()V" } : MethodName)) ∈ zWS := zin_t5 59 rfl rfl
theorem se_M_reset : (Cond.selects "RationalSessionModel" ({ cls := "RationalSessionModel", name := "reset", desc := "()V" } : MethodName) ({ cls := "RationalSessionModel", name := "reset", desc := "()V" } : MethodName)) ∈ zWS := zin_t5 60 rfl rfl
theorem k_M_reset : (Cond.code ({ cls := "RationalSessionModel", name := "reset", desc := "()V" } : MethodName) prog_12_method_58_code (2 : Nat) (Option.none : Option Jvm.ClassFile.FieldType)) ∈ zWS := zin_t5 61 rfl rfl
theorem kl_Lw_18 : (Cond.constantLong "RationalSessionLaw" (18 : Nat) (4294967295 : Int64)) ∈ zWS := zin_t5 62 rfl rfl
theorem fl_jS_15 : (Cond.fieldLink "java/lang/String" (15 : Nat) "java/lang/String" "coder" "B") ∈ zWS := zin_t5 63 rfl rfl
theorem fl_jS_9 : (Cond.fieldLink "java/lang/String" (9 : Nat) "java/lang/String" "value" "[B") ∈ zWS := zin_t5 64 rfl rfl
theorem in_S_0 : u_lay R_S T_S 0 ∈ zWS := zin_t1 239 rfl rfl
theorem in_S_1 : u_lay R_S T_S 1 ∈ zWS := zin_t2 1 rfl rfl
theorem in_S_2 : u_lay R_S T_S 2 ∈ zWS := zin_t2 3 rfl rfl
theorem in_S_3 : u_lay R_S T_S 3 ∈ zWS := zin_t2 5 rfl rfl
theorem in_S_4 : u_lay R_S T_S 4 ∈ zWS := zin_t2 7 rfl rfl
theorem in_S_5 : u_lay R_S T_S 5 ∈ zWS := zin_t2 9 rfl rfl
theorem in_S_6 : u_lay R_S T_S 6 ∈ zWS := zin_t2 11 rfl rfl
theorem in_S : ∀ w ∈ u_ws R_S T_S 7, w ∈ zWS := by
  intro w hw
  obtain ⟨k, hk, rfl⟩ := List.mem_map.mp hw
  have hk := List.mem_range.mp hk
  match k, hk with
  | 0, _ => exact in_S_0
  | 1, _ => exact in_S_1
  | 2, _ => exact in_S_2
  | 3, _ => exact in_S_3
  | 4, _ => exact in_S_4
  | 5, _ => exact in_S_5
  | 6, _ => exact in_S_6
  | k + 7, h => exact absurd h (by omega)
theorem in_F_0 : u_lay R_F T_F 0 ∈ zWS := zin_t1 175 rfl rfl
theorem in_F_1 : u_lay R_F T_F 1 ∈ zWS := zin_t1 177 rfl rfl
theorem in_F : ∀ w ∈ u_ws R_F T_F 2, w ∈ zWS := by
  intro w hw
  obtain ⟨k, hk, rfl⟩ := List.mem_map.mp hw
  have hk := List.mem_range.mp hk
  match k, hk with
  | 0, _ => exact in_F_0
  | 1, _ => exact in_F_1
  | k + 2, h => exact absurd h (by omega)
theorem in_L_0 : u_lay R_L T_L 0 ∈ zWS := zin_t1 36 rfl rfl
theorem in_L_1 : u_lay R_L T_L 1 ∈ zWS := zin_t1 38 rfl rfl
theorem in_L : ∀ w ∈ u_ws R_L T_L 2, w ∈ zWS := by
  intro w hw
  obtain ⟨k, hk, rfl⟩ := List.mem_map.mp hw
  have hk := List.mem_range.mp hk
  match k, hk with
  | 0, _ => exact in_L_0
  | 1, _ => exact in_L_1
  | k + 2, h => exact absurd h (by omega)
theorem in_P_0 : u_lay R_P T_P 0 ∈ zWS := zin_t1 131 rfl rfl
theorem in_P_1 : u_lay R_P T_P 1 ∈ zWS := zin_t1 133 rfl rfl
theorem in_P : ∀ w ∈ u_ws R_P T_P 2, w ∈ zWS := by
  intro w hw
  obtain ⟨k, hk, rfl⟩ := List.mem_map.mp hw
  have hk := List.mem_range.mp hk
  match k, hk with
  | 0, _ => exact in_P_0
  | 1, _ => exact in_P_1
  | k + 2, h => exact absurd h (by omega)
theorem in_G_0 : u_lay R_G T_G 0 ∈ zWS := zin_t1 57 rfl rfl
theorem in_G_1 : u_lay R_G T_G 1 ∈ zWS := zin_t1 59 rfl rfl
theorem in_G_2 : u_lay R_G T_G 2 ∈ zWS := zin_t1 61 rfl rfl
theorem in_G_3 : u_lay R_G T_G 3 ∈ zWS := zin_t1 63 rfl rfl
theorem in_G : ∀ w ∈ u_ws R_G T_G 4, w ∈ zWS := by
  intro w hw
  obtain ⟨k, hk, rfl⟩ := List.mem_map.mp hw
  have hk := List.mem_range.mp hk
  match k, hk with
  | 0, _ => exact in_G_0
  | 1, _ => exact in_G_1
  | 2, _ => exact in_G_2
  | 3, _ => exact in_G_3
  | k + 4, h => exact absurd h (by omega)
theorem in_R_0 : u_lay R_R T_R 0 ∈ zWS := zin_t1 84 rfl rfl
theorem in_R_1 : u_lay R_R T_R 1 ∈ zWS := zin_t1 86 rfl rfl
theorem in_R_2 : u_lay R_R T_R 2 ∈ zWS := zin_t1 88 rfl rfl
theorem in_R_3 : u_lay R_R T_R 3 ∈ zWS := zin_t1 90 rfl rfl
theorem in_R_4 : u_lay R_R T_R 4 ∈ zWS := zin_t1 92 rfl rfl
theorem in_R_5 : u_lay R_R T_R 5 ∈ zWS := zin_t1 94 rfl rfl
theorem in_R_6 : u_lay R_R T_R 6 ∈ zWS := zin_t1 96 rfl rfl
theorem in_R_7 : u_lay R_R T_R 7 ∈ zWS := zin_t1 98 rfl rfl
theorem in_R_8 : u_lay R_R T_R 8 ∈ zWS := zin_t1 100 rfl rfl
theorem in_R_9 : u_lay R_R T_R 9 ∈ zWS := zin_t1 102 rfl rfl
theorem in_R_10 : u_lay R_R T_R 10 ∈ zWS := zin_t1 104 rfl rfl
theorem in_R : ∀ w ∈ u_ws R_R T_R 11, w ∈ zWS := by
  intro w hw
  obtain ⟨k, hk, rfl⟩ := List.mem_map.mp hw
  have hk := List.mem_range.mp hk
  match k, hk with
  | 0, _ => exact in_R_0
  | 1, _ => exact in_R_1
  | 2, _ => exact in_R_2
  | 3, _ => exact in_R_3
  | 4, _ => exact in_R_4
  | 5, _ => exact in_R_5
  | 6, _ => exact in_R_6
  | 7, _ => exact in_R_7
  | 8, _ => exact in_R_8
  | 9, _ => exact in_R_9
  | 10, _ => exact in_R_10
  | k + 11, h => exact absurd h (by omega)
theorem in_H_0 : u_lay R_H T_H 0 ∈ zWS := zin_t1 205 rfl rfl
theorem in_H_1 : u_lay R_H T_H 1 ∈ zWS := zin_t1 207 rfl rfl
theorem in_H_2 : u_lay R_H T_H 2 ∈ zWS := zin_t1 209 rfl rfl
theorem in_H_3 : u_lay R_H T_H 3 ∈ zWS := zin_t1 211 rfl rfl
theorem in_H_4 : u_lay R_H T_H 4 ∈ zWS := zin_t1 213 rfl rfl
theorem in_H : ∀ w ∈ u_ws R_H T_H 5, w ∈ zWS := by
  intro w hw
  obtain ⟨k, hk, rfl⟩ := List.mem_map.mp hw
  have hk := List.mem_range.mp hk
  match k, hk with
  | 0, _ => exact in_H_0
  | 1, _ => exact in_H_1
  | 2, _ => exact in_H_2
  | 3, _ => exact in_H_3
  | 4, _ => exact in_H_4
  | k + 5, h => exact absurd h (by omega)
theorem in_T_0 : u_lay R_T T_T 0 ∈ zWS := zin_t1 225 rfl rfl
theorem in_T_1 : u_lay R_T T_T 1 ∈ zWS := zin_t1 227 rfl rfl
theorem in_T_2 : u_lay R_T T_T 2 ∈ zWS := zin_t1 229 rfl rfl
theorem in_T : ∀ w ∈ u_ws R_T T_T 3, w ∈ zWS := by
  intro w hw
  obtain ⟨k, hk, rfl⟩ := List.mem_map.mp hw
  have hk := List.mem_range.mp hk
  match k, hk with
  | 0, _ => exact in_T_0
  | 1, _ => exact in_T_1
  | 2, _ => exact in_T_2
  | k + 3, h => exact absurd h (by omega)
theorem in_K_0 : u_lay R_K T_K 0 ∈ zWS := zin_t1 183 rfl rfl
theorem in_K_1 : u_lay R_K T_K 1 ∈ zWS := zin_t1 185 rfl rfl
theorem in_K_2 : u_lay R_K T_K 2 ∈ zWS := zin_t1 187 rfl rfl
theorem in_K : ∀ w ∈ u_ws R_K T_K 3, w ∈ zWS := by
  intro w hw
  obtain ⟨k, hk, rfl⟩ := List.mem_map.mp hw
  have hk := List.mem_range.mp hk
  match k, hk with
  | 0, _ => exact in_K_0
  | 1, _ => exact in_K_1
  | 2, _ => exact in_K_2
  | k + 3, h => exact absurd h (by omega)
theorem in_W_0 : u_lay R_W T_W 0 ∈ zWS := zin_t1 143 rfl rfl
theorem in_W_1 : u_lay R_W T_W 1 ∈ zWS := zin_t1 145 rfl rfl
theorem in_W_2 : u_lay R_W T_W 2 ∈ zWS := zin_t1 147 rfl rfl
theorem in_W_3 : u_lay R_W T_W 3 ∈ zWS := zin_t1 149 rfl rfl
theorem in_W_4 : u_lay R_W T_W 4 ∈ zWS := zin_t1 151 rfl rfl
theorem in_W_5 : u_lay R_W T_W 5 ∈ zWS := zin_t1 153 rfl rfl
theorem in_W_6 : u_lay R_W T_W 6 ∈ zWS := zin_t1 155 rfl rfl
theorem in_W : ∀ w ∈ u_ws R_W T_W 7, w ∈ zWS := by
  intro w hw
  obtain ⟨k, hk, rfl⟩ := List.mem_map.mp hw
  have hk := List.mem_range.mp hk
  match k, hk with
  | 0, _ => exact in_W_0
  | 1, _ => exact in_W_1
  | 2, _ => exact in_W_2
  | 3, _ => exact in_W_3
  | 4, _ => exact in_W_4
  | 5, _ => exact in_W_5
  | 6, _ => exact in_W_6
  | k + 7, h => exact absurd h (by omega)
theorem in_M_0 : u_lay R_M T_M 0 ∈ zWS := zin_t4 26 rfl rfl
theorem in_M_1 : u_lay R_M T_M 1 ∈ zWS := zin_t4 28 rfl rfl
theorem in_M_2 : u_lay R_M T_M 2 ∈ zWS := zin_t4 30 rfl rfl
theorem in_M_3 : u_lay R_M T_M 3 ∈ zWS := zin_t4 32 rfl rfl
theorem in_M_4 : u_lay R_M T_M 4 ∈ zWS := zin_t4 34 rfl rfl
theorem in_M_5 : u_lay R_M T_M 5 ∈ zWS := zin_t4 36 rfl rfl
theorem in_M_6 : u_lay R_M T_M 6 ∈ zWS := zin_t4 38 rfl rfl
theorem in_M_7 : u_lay R_M T_M 7 ∈ zWS := zin_t4 40 rfl rfl
theorem in_M_8 : u_lay R_M T_M 8 ∈ zWS := zin_t4 42 rfl rfl
theorem in_M_9 : u_lay R_M T_M 9 ∈ zWS := zin_t4 44 rfl rfl
theorem in_M_10 : u_lay R_M T_M 10 ∈ zWS := zin_t4 46 rfl rfl
theorem in_M_11 : u_lay R_M T_M 11 ∈ zWS := zin_t4 48 rfl rfl
theorem in_M_12 : u_lay R_M T_M 12 ∈ zWS := zin_t4 50 rfl rfl
theorem in_M_13 : u_lay R_M T_M 13 ∈ zWS := zin_t4 52 rfl rfl
theorem in_M_14 : u_lay R_M T_M 14 ∈ zWS := zin_t4 54 rfl rfl
theorem in_M_15 : u_lay R_M T_M 15 ∈ zWS := zin_t4 56 rfl rfl
theorem in_M_16 : u_lay R_M T_M 16 ∈ zWS := zin_t4 58 rfl rfl
theorem in_M_17 : u_lay R_M T_M 17 ∈ zWS := zin_t4 60 rfl rfl
theorem in_M_18 : u_lay R_M T_M 18 ∈ zWS := zin_t4 62 rfl rfl
theorem in_M_19 : u_lay R_M T_M 19 ∈ zWS := zin_t4 64 rfl rfl
theorem in_M_20 : u_lay R_M T_M 20 ∈ zWS := zin_t4 66 rfl rfl
theorem in_M_21 : u_lay R_M T_M 21 ∈ zWS := zin_t4 68 rfl rfl
theorem in_M : ∀ w ∈ u_ws R_M T_M 22, w ∈ zWS := by
  intro w hw
  obtain ⟨k, hk, rfl⟩ := List.mem_map.mp hw
  have hk := List.mem_range.mp hk
  match k, hk with
  | 0, _ => exact in_M_0
  | 1, _ => exact in_M_1
  | 2, _ => exact in_M_2
  | 3, _ => exact in_M_3
  | 4, _ => exact in_M_4
  | 5, _ => exact in_M_5
  | 6, _ => exact in_M_6
  | 7, _ => exact in_M_7
  | 8, _ => exact in_M_8
  | 9, _ => exact in_M_9
  | 10, _ => exact in_M_10
  | 11, _ => exact in_M_11
  | 12, _ => exact in_M_12
  | 13, _ => exact in_M_13
  | 14, _ => exact in_M_14
  | 15, _ => exact in_M_15
  | 16, _ => exact in_M_16
  | 17, _ => exact in_M_17
  | 18, _ => exact in_M_18
  | 19, _ => exact in_M_19
  | 20, _ => exact in_M_20
  | 21, _ => exact in_M_21
  | k + 22, h => exact absurd h (by omega)
theorem se_R_startSum : Cond.selects "RationalSession$Reader" y_R_startSum y_R_startSum ∈ zWS := zin_p 0 rfl rfl
theorem se_R_readTarget : Cond.selects "RationalSession$Reader" y_R_readTarget y_R_readTarget ∈ zWS := zin_p 1 rfl rfl
theorem se_R_readBeforeAtom : Cond.selects "RationalSession$Reader" y_R_readBeforeAtom y_R_readBeforeAtom ∈ zWS := zin_p 2 rfl rfl
theorem se_R_readNumber : Cond.selects "RationalSession$Reader" y_R_readNumber y_R_readNumber ∈ zWS := zin_p 3 rfl rfl
theorem se_R_endAtom : Cond.selects "RationalSession$Reader" y_R_endAtom y_R_endAtom ∈ zWS := zin_p 4 rfl rfl
theorem se_R_readOpening : Cond.selects "RationalSession$Reader" y_R_readOpening y_R_readOpening ∈ zWS := zin_p 5 rfl rfl
theorem se_R_readAfterAtom : Cond.selects "RationalSession$Reader" y_R_readAfterAtom y_R_readAfterAtom ∈ zWS := zin_p 6 rfl rfl
theorem se_R_readExponent : Cond.selects "RationalSession$Reader" y_R_readExponent y_R_readExponent ∈ zWS := zin_p 7 rfl rfl
theorem se_R_finishPower : Cond.selects "RationalSession$Reader" y_R_finishPower y_R_finishPower ∈ zWS := zin_p 8 rfl rfl
theorem se_R_startAtom : Cond.selects "RationalSession$Reader" y_R_startAtom y_R_startAtom ∈ zWS := zin_p 9 rfl rfl
theorem se_R_finishTerm : Cond.selects "RationalSession$Reader" y_R_finishTerm y_R_finishTerm ∈ zWS := zin_p 10 rfl rfl
theorem se_R_closeOpening : Cond.selects "RationalSession$Reader" y_R_closeOpening y_R_closeOpening ∈ zWS := zin_p 11 rfl rfl
theorem se_K_load : Cond.selects "RationalSession$Worker" y_K_load y_K_load ∈ zWS := zin_p 12 rfl rfl
theorem se_K_operate : Cond.selects "RationalSession$Worker" y_K_operate y_K_operate ∈ zWS := zin_p 13 rfl rfl
theorem se_P_trimFrom : Cond.selects "RationalSession$Polynomial" y_P_trimFrom y_P_trimFrom ∈ zWS := zin_p 14 rfl rfl
theorem se_W_putInto : Cond.selects "RationalSession$Workshop" y_W_putInto y_W_putInto ∈ zWS := zin_p 15 rfl rfl
theorem se_W_raise : Cond.selects "RationalSession$Workshop" y_W_raise y_W_raise ∈ zWS := zin_p 16 rfl rfl
theorem se_W_commonDivisor : Cond.selects "RationalSession$Workshop" y_W_commonDivisor y_W_commonDivisor ∈ zWS := zin_p 17 rfl rfl
theorem se_H_shapeNumberFor : Cond.selects "RationalSession$Shelf" y_H_shapeNumberFor y_H_shapeNumberFor ∈ zWS := zin_p 18 rfl rfl
theorem se_T_spell : Cond.selects "RationalSession$TextSeeker" y_T_spell y_T_spell ∈ zWS := zin_p 19 rfl rfl
theorem se_T_put : Cond.selects "RationalSession$TextSeeker" y_T_put y_T_put ∈ zWS := zin_p 20 rfl rfl
theorem se_T_spellPart : Cond.selects "RationalSession$TextSeeker" y_T_spellPart y_T_spellPart ∈ zWS := zin_p 21 rfl rfl
theorem se_T_spellNumber : Cond.selects "RationalSession$TextSeeker" y_T_spellNumber y_T_spellNumber ∈ zWS := zin_p 22 rfl rfl
theorem se_M_known : Cond.selects "RationalSessionModel" y_M_known y_M_known ∈ zWS := zin_p 23 rfl rfl
theorem se_M_digit : Cond.selects "RationalSessionModel" y_M_digit y_M_digit ∈ zWS := zin_p 24 rfl rfl
theorem se_M_name : Cond.selects "RationalSessionModel" y_M_name y_M_name ∈ zWS := zin_p 25 rfl rfl
theorem se_M_work : Cond.selects "RationalSessionModel" y_M_work y_M_work ∈ zWS := zin_p 26 rfl rfl
theorem se_M_badPlaceOf : Cond.selects "RationalSessionModel" y_M_badPlaceOf y_M_badPlaceOf ∈ zWS := zin_p 27 rfl rfl
theorem se_M_stateAt : Cond.selects "RationalSessionModel" y_M_stateAt y_M_stateAt ∈ zWS := zin_p 28 rfl rfl
theorem se_M_open : Cond.selects "RationalSessionModel" y_M_open y_M_open ∈ zWS := zin_p 29 rfl rfl
theorem se_M_begin : Cond.selects "RationalSessionModel" y_M_begin y_M_begin ∈ zWS := zin_p 30 rfl rfl
theorem se_M_close : Cond.selects "RationalSessionModel" y_M_close y_M_close ∈ zWS := zin_p 31 rfl rfl
theorem se_M_complete : Cond.selects "RationalSessionModel" y_M_complete y_M_complete ∈ zWS := zin_p 32 rfl rfl
theorem se_M_start : Cond.selects "RationalSessionModel" y_M_start y_M_start ∈ zWS := zin_p 33 rfl rfl
theorem se_M_advance : Cond.selects "RationalSessionModel" y_M_advance y_M_advance ∈ zWS := zin_p 34 rfl rfl
theorem se_M_term : Cond.selects "RationalSessionModel" y_M_term y_M_term ∈ zWS := zin_p 35 rfl rfl
theorem se_M_add : Cond.selects "RationalSessionModel" y_M_add y_M_add ∈ zWS := zin_p 36 rfl rfl
theorem se_M_blank : Cond.selects "RationalSessionModel" y_M_blank y_M_blank ∈ zWS := zin_p 37 rfl rfl
theorem se_M_product : Cond.selects "RationalSessionModel" y_M_product y_M_product ∈ zWS := zin_p 38 rfl rfl
theorem se_M_form : Cond.selects "RationalSessionModel" y_M_form y_M_form ∈ zWS := zin_p 39 rfl rfl
theorem se_M_topOf : Cond.selects "RationalSessionModel" y_M_topOf y_M_topOf ∈ zWS := zin_p 40 rfl rfl
theorem se_M_constant : Cond.selects "RationalSessionModel" y_M_constant y_M_constant ∈ zWS := zin_p 41 rfl rfl
theorem se_M_solve : Cond.selects "RationalSessionModel" y_M_solve y_M_solve ∈ zWS := zin_p 42 rfl rfl
theorem se_M_eliminate : Cond.selects "RationalSessionModel" y_M_eliminate y_M_eliminate ∈ zWS := zin_p 43 rfl rfl
theorem se_M_inverse : Cond.selects "RationalSessionModel" y_M_inverse y_M_inverse ∈ zWS := zin_p 44 rfl rfl
theorem se_M_subtract : Cond.selects "RationalSessionModel" y_M_subtract y_M_subtract ∈ zWS := zin_p 45 rfl rfl
theorem se_M_unknown : Cond.selects "RationalSessionModel" y_M_unknown y_M_unknown ∈ zWS := zin_p 46 rfl rfl
theorem se_M_copy : Cond.selects "RationalSessionModel" y_M_copy y_M_copy ∈ zWS := zin_p 47 rfl rfl
theorem se_M_closed : Cond.selects "RationalSessionModel" y_M_closed y_M_closed ∈ zWS := zin_p 48 rfl rfl
theorem se_M_derive : Cond.selects "RationalSessionModel" y_M_derive y_M_derive ∈ zWS := zin_p 49 rfl rfl
theorem se_M_substitute : Cond.selects "RationalSessionModel" y_M_substitute y_M_substitute ∈ zWS := zin_p 50 rfl rfl
theorem se_M_top : Cond.selects "RationalSessionModel" y_M_top y_M_top ∈ zWS := zin_p 51 rfl rfl
theorem se_M_put : Cond.selects "RationalSessionModel" y_M_put y_M_put ∈ zWS := zin_p 52 rfl rfl
theorem se_M_times : Cond.selects "RationalSessionModel" y_M_times y_M_times ∈ zWS := zin_p 53 rfl rfl
theorem se_M_raise : Cond.selects "RationalSessionModel" y_M_raise y_M_raise ∈ zWS := zin_p 54 rfl rfl
theorem se_M_digits : Cond.selects "RationalSessionModel" y_M_digits y_M_digits ∈ zWS := zin_p 55 rfl rfl
theorem se_M_worth : Cond.selects "RationalSessionModel" y_M_worth y_M_worth ∈ zWS := zin_p 56 rfl rfl
theorem se_M_power : Cond.selects "RationalSessionModel" y_M_power y_M_power ∈ zWS := zin_p 57 rfl rfl
theorem se_M_factor : Cond.selects "RationalSessionModel" y_M_factor y_M_factor ∈ zWS := zin_p 58 rfl rfl
theorem se_M_atom : Cond.selects "RationalSessionModel" y_M_atom y_M_atom ∈ zWS := zin_p 59 rfl rfl
theorem se_M_alike : Cond.selects "RationalSessionModel" y_M_alike y_M_alike ∈ zWS := zin_p 60 rfl rfl
theorem se_M_noLabel : Cond.selects "RationalSessionModel" y_M_noLabel y_M_noLabel ∈ zWS := zin_p 61 rfl rfl
theorem se_M_emit : Cond.selects "RationalSessionModel" y_M_emit y_M_emit ∈ zWS := zin_p 62 rfl rfl
theorem se_M_emitPolynomial : Cond.selects "RationalSessionModel" y_M_emitPolynomial y_M_emitPolynomial ∈ zWS := zin_p 63 rfl rfl
theorem se_M_emitNumber : Cond.selects "RationalSessionModel" y_M_emitNumber y_M_emitNumber ∈ zWS := zin_p 64 rfl rfl
