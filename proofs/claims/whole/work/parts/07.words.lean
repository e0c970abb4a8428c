/-! the good words of the tables, one by one; what a call of each link asks (written by wip/whole/mk_words.py) -/
def Tw : List Cond := lw_tbl.filter goodWord
theorem Tw_of {w : Cond} (i : Nat) (h : lw_tbl[i]? = some w) (g : goodWord w = true) : w ∈ Tw := List.mem_filter.mpr ⟨List.mem_of_getElem? h, g⟩
theorem Tw_in {w : Cond} (h : w ∈ Tw) : w ∈ lw_tbl := (List.mem_filter.mp h).1
theorem Tw_good {L : List Cond} (h : ∀ w ∈ L, w ∈ Tw) : GoodIn Tw L := fun w hw => ⟨h w hw, good_of_word (List.mem_filter.mp (h w hw)).2⟩
theorem Tw_all {L : List Cond} (h1 : ∀ w ∈ L, w ∈ lw_tbl) (h2 : ∀ w ∈ L, goodWord w = true) : ∀ w ∈ L, w ∈ Tw := fun w hw => List.mem_filter.mpr ⟨h1 w hw, h2 w hw⟩
def WS (y : MethodName) (cc : ByteArray) (maxL : Nat) (ret : Option FieldType) : List Cond := Cond.code y cc maxL ret :: Tw
def WH (y : MethodName) (cc : ByteArray) (maxL : Nat) (ret : Option FieldType) (hh : List (Nat × Nat × Nat × Nat)) : List Cond := Cond.codeWith y cc maxL ret hh :: Tw
theorem WS_all {y : MethodName} {cc : ByteArray} {maxL : Nat} {ret : Option FieldType} (h : Cond.code y cc maxL ret ∈ Tw) : ∀ w ∈ WS y cc maxL ret, w ∈ Tw := fun w hw => by
  rcases List.mem_cons.mp hw with e | e
  · rw [e]; exact h
  · exact e
theorem WH_all {y : MethodName} {cc : ByteArray} {maxL : Nat} {ret : Option FieldType} {hh : List (Nat × Nat × Nat × Nat)} (h : Cond.codeWith y cc maxL ret hh ∈ Tw) : ∀ w ∈ WH y cc maxL ret hh, w ∈ Tw := fun w hw => by
  rcases List.mem_cons.mp hw with e | e
  · rw [e]; exact h
  · exact e
theorem app_all {a b : List Cond} (ha : ∀ w ∈ a, w ∈ Tw) (hb : ∀ w ∈ b, w ∈ Tw) : ∀ w ∈ a ++ b, w ∈ Tw := fun w h => (List.mem_append.mp h).elim (ha w) (hb w)
theorem nil_all : ∀ w ∈ ([] : List Cond), w ∈ Tw := fun _ h => nomatch h
theorem cons_all {c : Cond} {L : List Cond} (hc : c ∈ Tw) (h : ∀ w ∈ L, w ∈ Tw) : ∀ w ∈ c :: L, w ∈ Tw := fun w hw => (List.mem_cons.mp hw).elim (fun e => by rw [e]; exact hc) (h w)
theorem goodV {own C : String} {idx : Nat} {y : MethodName} {L : List Cond} (h1 : Cond.methodLink own idx y ∈ Tw) (h2 : Cond.instanceMethod y ∈ Tw) (h3 : Cond.selects C y y ∈ Tw) (h4 : Cond.initialized C ∈ Tw) (h5 : ∀ w ∈ L, w ∈ Tw) : GoodIn Tw (wsV own idx C y L) :=
  Tw_good (app_all (cons_all h1 (cons_all h2 (cons_all h3 (cons_all h4 nil_all)))) h5)
theorem goodS {own : String} {idx : Nat} {y : MethodName} {L : List Cond} (h1 : Cond.methodLink own idx y ∈ Tw) (h2 : Cond.static y ∈ Tw) (h4 : Cond.initialized y.cls ∈ Tw) (h5 : ∀ w ∈ L, w ∈ Tw) : GoodIn Tw (va_wsS own idx y L) :=
  Tw_good (app_all (cons_all h1 (cons_all h2 (cons_all h4 nil_all))) h5)
theorem tw_ini_L : (Jvm.Cond.initialized "FleetSettingsLaw") ∈ Tw := Tw_of 52 (by decide +kernel) rfl
theorem tw_ini_X5 : (Jvm.Cond.initialized "FleetSettings") ∈ Tw := Tw_of 53 (by decide +kernel) rfl
theorem tw_ini_X1 : (Jvm.Cond.initialized "FleetSettings$Heads") ∈ Tw := Tw_of 54 (by decide +kernel) rfl
theorem tw_ini_J7 : (Jvm.Cond.initialized "java/util/Arrays") ∈ Tw := Tw_of 55 (by decide +kernel) rfl
theorem tw_ini_X3 : (Jvm.Cond.initialized "FleetSettings$Outcome") ∈ Tw := Tw_of 56 (by decide +kernel) rfl
theorem tw_ini_X4 : (Jvm.Cond.initialized "FleetSettings$Person") ∈ Tw := Tw_of 57 (by decide +kernel) rfl
theorem tw_ini_X2 : (Jvm.Cond.initialized "FleetSettings$Machine") ∈ Tw := Tw_of 58 (by decide +kernel) rfl
theorem tw_ini_X0 : (Jvm.Cond.initialized "FleetSettings$Change") ∈ Tw := Tw_of 59 (by decide +kernel) rfl
theorem tw_ini_X6 : (Jvm.Cond.initialized "FleetSettingsModel") ∈ Tw := Tw_of 60 (by decide +kernel) rfl
theorem tw_ini_THR : (Jvm.Cond.initialized "java/lang/Throwable") ∈ Tw := Tw_of 61 (by decide +kernel) rfl
theorem tw_ini_EXC : (Jvm.Cond.initialized "java/lang/Exception") ∈ Tw := Tw_of 62 (by decide +kernel) rfl
theorem tw_ini_RTE : (Jvm.Cond.initialized "java/lang/RuntimeException") ∈ Tw := Tw_of 63 (by decide +kernel) rfl
theorem tw_ini_IAE : (Jvm.Cond.initialized "java/lang/IllegalArgumentException") ∈ Tw := Tw_of 64 (by decide +kernel) rfl
theorem tw_ini_IOOBE : (Jvm.Cond.initialized "java/lang/IndexOutOfBoundsException") ∈ Tw := Tw_of 65 (by decide +kernel) rfl
theorem tw_ini_ISE : (Jvm.Cond.initialized "java/lang/IllegalStateException") ∈ Tw := Tw_of 66 (by decide +kernel) rfl
theorem tw_ini_J6 : (Jvm.Cond.initialized "java/lang/Integer") ∈ Tw := Tw_of 67 (by decide +kernel) rfl
theorem tw_cl_L_8 : (Jvm.Cond.classLink "FleetSettingsLaw" (8 : Nat) "FleetSettings") ∈ Tw := Tw_of 68 (by decide +kernel) rfl
theorem tw_ins_X5 : (Jvm.Cond.instantiable "FleetSettings" (16 : Nat)) ∈ Tw := Tw_of 69 (by decide +kernel) rfl
theorem tw_ml_L_104 : (Jvm.Cond.methodLink "FleetSettingsLaw" (104 : Nat) ({ cls := "FleetSettings", name := "<init>", desc := "()V" } : Jvm.MethodName)) ∈ Tw := Tw_of 70 (by decide +kernel) rfl
theorem tw_im_X5_init : (Jvm.Cond.instanceMethod ({ cls := "FleetSettings", name := "<init>", desc := "()V" } : Jvm.MethodName)) ∈ Tw := Tw_of 71 (by decide +kernel) rfl
theorem tw_code_X5_init : (Jvm.Cond.code ({ cls := "FleetSettings", name := "<init>", desc := "()V" } : Jvm.MethodName) prog_1_method_1_code (2 : Nat) (Option.none : Option Jvm.ClassFile.FieldType)) ∈ Tw := Tw_of 72 (by decide +kernel) rfl
theorem tw_ml_X5_3 : (Jvm.Cond.methodLink "FleetSettings" (3 : Nat) ({ cls := "java/lang/Object", name := "<init>", desc := "()V" } : Jvm.MethodName)) ∈ Tw := Tw_of 73 (by decide +kernel) rfl
theorem tw_im_objInit : (Jvm.Cond.instanceMethod ({ cls := "java/lang/Object", name := "<init>", desc := "()V" } : Jvm.MethodName)) ∈ Tw := Tw_of 74 (by decide +kernel) rfl
theorem tw_code_objInit : (Jvm.Cond.code ({ cls := "java/lang/Object", name := "<init>", desc := "()V" } : Jvm.MethodName) object_method_1_code (1 : Nat) (Option.none : Option Jvm.ClassFile.FieldType)) ∈ Tw := Tw_of 75 (by decide +kernel) rfl
theorem tw_cl_X5_17 : (Jvm.Cond.classLink "FleetSettings" (17 : Nat) "FleetSettings$Person") ∈ Tw := Tw_of 76 (by decide +kernel) rfl
theorem tw_cl_X5_29 : (Jvm.Cond.classLink "FleetSettings" (29 : Nat) "FleetSettings$Machine") ∈ Tw := Tw_of 78 (by decide +kernel) rfl
theorem tw_cl_X5_35 : (Jvm.Cond.classLink "FleetSettings" (35 : Nat) "FleetSettings$Change") ∈ Tw := Tw_of 80 (by decide +kernel) rfl
theorem tw_cl_X5_44 : (Jvm.Cond.classLink "FleetSettings" (44 : Nat) "FleetSettings$Heads") ∈ Tw := Tw_of 82 (by decide +kernel) rfl
theorem tw_ins_X1 : (Jvm.Cond.instantiable "FleetSettings$Heads" (2 : Nat)) ∈ Tw := Tw_of 83 (by decide +kernel) rfl
theorem tw_ml_X5_46 : (Jvm.Cond.methodLink "FleetSettings" (46 : Nat) ({ cls := "FleetSettings$Heads", name := "<init>", desc := "()V" } : Jvm.MethodName)) ∈ Tw := Tw_of 84 (by decide +kernel) rfl
theorem tw_im_X1_init : (Jvm.Cond.instanceMethod ({ cls := "FleetSettings$Heads", name := "<init>", desc := "()V" } : Jvm.MethodName)) ∈ Tw := Tw_of 85 (by decide +kernel) rfl
theorem tw_code_X1_init : (Jvm.Cond.code ({ cls := "FleetSettings$Heads", name := "<init>", desc := "()V" } : Jvm.MethodName) prog_3_method_1_code (1 : Nat) (Option.none : Option Jvm.ClassFile.FieldType)) ∈ Tw := Tw_of 86 (by decide +kernel) rfl
theorem tw_ml_X1_3 : (Jvm.Cond.methodLink "FleetSettings$Heads" (3 : Nat) ({ cls := "java/lang/Object", name := "<init>", desc := "()V" } : Jvm.MethodName)) ∈ Tw := Tw_of 87 (by decide +kernel) rfl
theorem tw_ml_X1_18 : (Jvm.Cond.methodLink "FleetSettings$Heads" (18 : Nat) ({ cls := "java/util/Arrays", name := "fill", desc := "([II)V" } : Jvm.MethodName)) ∈ Tw := Tw_of 88 (by decide +kernel) rfl
theorem tw_st_J7_fill_53178 : (Jvm.Cond.static ({ cls := "java/util/Arrays", name := "fill", desc := "([II)V" } : Jvm.MethodName)) ∈ Tw := Tw_of 89 (by decide +kernel) rfl
theorem tw_code_J7_fill_53178 : (Jvm.Cond.code ({ cls := "java/util/Arrays", name := "fill", desc := "([II)V" } : Jvm.MethodName) prog_17_method_103_code (4 : Nat) (Option.none : Option Jvm.ClassFile.FieldType)) ∈ Tw := Tw_of 90 (by decide +kernel) rfl
theorem tw_fl_X1_9 : (Jvm.Cond.fieldLink "FleetSettings$Heads" (9 : Nat) "FleetSettings$Heads" "changeAt" "[I") ∈ Tw := Tw_of 91 (by decide +kernel) rfl
theorem tw_fl_X5_219 : (Jvm.Cond.fieldLink "FleetSettings" (219 : Nat) "FleetSettings$Heads" "changeAt" "[I") ∈ Tw := Tw_of 92 (by decide +kernel) rfl
theorem tw_fl_X1_15 : (Jvm.Cond.fieldLink "FleetSettings$Heads" (15 : Nat) "FleetSettings$Heads" "rankOfChange" "[I") ∈ Tw := Tw_of 93 (by decide +kernel) rfl
theorem tw_fl_X5_216 : (Jvm.Cond.fieldLink "FleetSettings" (216 : Nat) "FleetSettings$Heads" "rankOfChange" "[I") ∈ Tw := Tw_of 94 (by decide +kernel) rfl
theorem tw_ac_int : (Jvm.Cond.arrayClass Jvm.ClassFile.FieldType.int) ∈ Tw := Tw_of 100 (by decide +kernel) rfl
theorem tw_cl_X5_54 : (Jvm.Cond.classLink "FleetSettings" (54 : Nat) "FleetSettings$Outcome") ∈ Tw := Tw_of 101 (by decide +kernel) rfl
theorem tw_ins_X3 : (Jvm.Cond.instantiable "FleetSettings$Outcome" (4 : Nat)) ∈ Tw := Tw_of 102 (by decide +kernel) rfl
theorem tw_im_X3_init : (Jvm.Cond.instanceMethod ({ cls := "FleetSettings$Outcome", name := "<init>", desc := "()V" } : Jvm.MethodName)) ∈ Tw := Tw_of 104 (by decide +kernel) rfl
theorem tw_code_X3_init : (Jvm.Cond.code ({ cls := "FleetSettings$Outcome", name := "<init>", desc := "()V" } : Jvm.MethodName) prog_5_method_1_code (1 : Nat) (Option.none : Option Jvm.ClassFile.FieldType)) ∈ Tw := Tw_of 105 (by decide +kernel) rfl
theorem tw_ml_X3_3 : (Jvm.Cond.methodLink "FleetSettings$Outcome" (3 : Nat) ({ cls := "java/lang/Object", name := "<init>", desc := "()V" } : Jvm.MethodName)) ∈ Tw := Tw_of 106 (by decide +kernel) rfl
theorem tw_fl_X3_9 : (Jvm.Cond.fieldLink "FleetSettings$Outcome" (9 : Nat) "FleetSettings$Outcome" "value" "[I") ∈ Tw := Tw_of 107 (by decide +kernel) rfl
theorem tw_fl_X3_15 : (Jvm.Cond.fieldLink "FleetSettings$Outcome" (15 : Nat) "FleetSettings$Outcome" "layer" "[I") ∈ Tw := Tw_of 108 (by decide +kernel) rfl
theorem tw_fl_X3_18 : (Jvm.Cond.fieldLink "FleetSettings$Outcome" (18 : Nat) "FleetSettings$Outcome" "rankOfKey" "[I") ∈ Tw := Tw_of 109 (by decide +kernel) rfl
theorem tw_fl_X3_27 : (Jvm.Cond.fieldLink "FleetSettings$Outcome" (27 : Nat) "FleetSettings$Outcome" "hiddenKeys" "I") ∈ Tw := Tw_of 110 (by decide +kernel) rfl
theorem tw_fl_X5_260 : (Jvm.Cond.fieldLink "FleetSettings" (260 : Nat) "FleetSettings$Outcome" "hiddenKeys" "I") ∈ Tw := Tw_of 111 (by decide +kernel) rfl
theorem tw_ml_X5_61 : (Jvm.Cond.methodLink "FleetSettings" (61 : Nat) ({ cls := "java/util/Arrays", name := "fill", desc := "([II)V" } : Jvm.MethodName)) ∈ Tw := Tw_of 121 (by decide +kernel) rfl
theorem tw_ins_X4 : (Jvm.Cond.instantiable "FleetSettings$Person" (4 : Nat)) ∈ Tw := Tw_of 122 (by decide +kernel) rfl
theorem tw_im_X4_init : (Jvm.Cond.instanceMethod ({ cls := "FleetSettings$Person", name := "<init>", desc := "()V" } : Jvm.MethodName)) ∈ Tw := Tw_of 124 (by decide +kernel) rfl
theorem tw_code_X4_init : (Jvm.Cond.code ({ cls := "FleetSettings$Person", name := "<init>", desc := "()V" } : Jvm.MethodName) prog_6_method_1_code (1 : Nat) (Option.none : Option Jvm.ClassFile.FieldType)) ∈ Tw := Tw_of 125 (by decide +kernel) rfl
theorem tw_ml_X4_3 : (Jvm.Cond.methodLink "FleetSettings$Person" (3 : Nat) ({ cls := "java/lang/Object", name := "<init>", desc := "()V" } : Jvm.MethodName)) ∈ Tw := Tw_of 126 (by decide +kernel) rfl
theorem tw_fl_X4_9 : (Jvm.Cond.fieldLink "FleetSettings$Person" (9 : Nat) "FleetSettings$Person" "isInService" "Z") ∈ Tw := Tw_of 127 (by decide +kernel) rfl
theorem tw_fl_X5_82 : (Jvm.Cond.fieldLink "FleetSettings" (82 : Nat) "FleetSettings$Person" "isInService" "Z") ∈ Tw := Tw_of 128 (by decide +kernel) rfl
theorem tw_fl_X4_15 : (Jvm.Cond.fieldLink "FleetSettings$Person" (15 : Nat) "FleetSettings$Person" "isSuspect" "Z") ∈ Tw := Tw_of 129 (by decide +kernel) rfl
theorem tw_fl_X5_94 : (Jvm.Cond.fieldLink "FleetSettings" (94 : Nat) "FleetSettings$Person" "isSuspect" "Z") ∈ Tw := Tw_of 130 (by decide +kernel) rfl
theorem tw_fl_X4_18 : (Jvm.Cond.fieldLink "FleetSettings$Person" (18 : Nat) "FleetSettings$Person" "leftDay" "I") ∈ Tw := Tw_of 131 (by decide +kernel) rfl
theorem tw_fl_X5_100 : (Jvm.Cond.fieldLink "FleetSettings" (100 : Nat) "FleetSettings$Person" "leftDay" "I") ∈ Tw := Tw_of 132 (by decide +kernel) rfl
theorem tw_fl_X5_103 : (Jvm.Cond.fieldLink "FleetSettings" (103 : Nat) "FleetSettings$Person" "leftMoment" "I") ∈ Tw := Tw_of 133 (by decide +kernel) rfl
theorem tw_fl_X0_71 : (Jvm.Cond.fieldLink "FleetSettings$Change" (71 : Nat) "FleetSettings$Person" "leftMoment" "I") ∈ Tw := Tw_of 134 (by decide +kernel) rfl
theorem tw_ins_X2 : (Jvm.Cond.instantiable "FleetSettings$Machine" (6 : Nat)) ∈ Tw := Tw_of 144 (by decide +kernel) rfl
theorem tw_ml_X5_68 : (Jvm.Cond.methodLink "FleetSettings" (68 : Nat) ({ cls := "FleetSettings$Machine", name := "<init>", desc := "(I)V" } : Jvm.MethodName)) ∈ Tw := Tw_of 145 (by decide +kernel) rfl
theorem tw_im_X2_init : (Jvm.Cond.instanceMethod ({ cls := "FleetSettings$Machine", name := "<init>", desc := "(I)V" } : Jvm.MethodName)) ∈ Tw := Tw_of 146 (by decide +kernel) rfl
theorem tw_code_X2_init : (Jvm.Cond.code ({ cls := "FleetSettings$Machine", name := "<init>", desc := "(I)V" } : Jvm.MethodName) prog_4_method_1_code (2 : Nat) (Option.none : Option Jvm.ClassFile.FieldType)) ∈ Tw := Tw_of 147 (by decide +kernel) rfl
theorem tw_ml_X2_3 : (Jvm.Cond.methodLink "FleetSettings$Machine" (3 : Nat) ({ cls := "java/lang/Object", name := "<init>", desc := "()V" } : Jvm.MethodName)) ∈ Tw := Tw_of 148 (by decide +kernel) rfl
theorem tw_ml_X2_22 : (Jvm.Cond.methodLink "FleetSettings$Machine" (22 : Nat) ({ cls := "java/util/Arrays", name := "fill", desc := "([II)V" } : Jvm.MethodName)) ∈ Tw := Tw_of 149 (by decide +kernel) rfl
theorem tw_fl_X2_18 : (Jvm.Cond.fieldLink "FleetSettings$Machine" (18 : Nat) "FleetSettings$Machine" "ownSlot" "I") ∈ Tw := Tw_of 150 (by decide +kernel) rfl
theorem tw_fl_X2_28 : (Jvm.Cond.fieldLink "FleetSettings$Machine" (28 : Nat) "FleetSettings$Machine" "group" "I") ∈ Tw := Tw_of 151 (by decide +kernel) rfl
theorem tw_fl_X5_144 : (Jvm.Cond.fieldLink "FleetSettings" (144 : Nat) "FleetSettings$Machine" "group" "I") ∈ Tw := Tw_of 152 (by decide +kernel) rfl
theorem tw_fl_X5_139 : (Jvm.Cond.fieldLink "FleetSettings" (139 : Nat) "FleetSettings$Machine" "freeFrom" "I") ∈ Tw := Tw_of 153 (by decide +kernel) rfl
theorem tw_fl_X2_31 : (Jvm.Cond.fieldLink "FleetSettings$Machine" (31 : Nat) "FleetSettings$Machine" "layerCount" "I") ∈ Tw := Tw_of 154 (by decide +kernel) rfl
theorem tw_fl_X5_225 : (Jvm.Cond.fieldLink "FleetSettings" (225 : Nat) "FleetSettings$Machine" "layerCount" "I") ∈ Tw := Tw_of 155 (by decide +kernel) rfl
theorem tw_fl_X2_9 : (Jvm.Cond.fieldLink "FleetSettings$Machine" (9 : Nat) "FleetSettings$Machine" "slotOfLayer" "[I") ∈ Tw := Tw_of 156 (by decide +kernel) rfl
theorem tw_fl_X5_236 : (Jvm.Cond.fieldLink "FleetSettings" (236 : Nat) "FleetSettings$Machine" "slotOfLayer" "[I") ∈ Tw := Tw_of 157 (by decide +kernel) rfl
theorem tw_fl_X2_15 : (Jvm.Cond.fieldLink "FleetSettings$Machine" (15 : Nat) "FleetSettings$Machine" "takenAt" "[I") ∈ Tw := Tw_of 158 (by decide +kernel) rfl
theorem tw_fl_X5_233 : (Jvm.Cond.fieldLink "FleetSettings" (233 : Nat) "FleetSettings$Machine" "takenAt" "[I") ∈ Tw := Tw_of 159 (by decide +kernel) rfl
theorem tw_ins_X0 : (Jvm.Cond.instantiable "FleetSettings$Change" (8 : Nat)) ∈ Tw := Tw_of 173 (by decide +kernel) rfl
theorem tw_ml_X5_71 : (Jvm.Cond.methodLink "FleetSettings" (71 : Nat) ({ cls := "FleetSettings$Change", name := "<init>", desc := "()V" } : Jvm.MethodName)) ∈ Tw := Tw_of 174 (by decide +kernel) rfl
theorem tw_im_X0_init : (Jvm.Cond.instanceMethod ({ cls := "FleetSettings$Change", name := "<init>", desc := "()V" } : Jvm.MethodName)) ∈ Tw := Tw_of 175 (by decide +kernel) rfl
theorem tw_code_X0_init : (Jvm.Cond.code ({ cls := "FleetSettings$Change", name := "<init>", desc := "()V" } : Jvm.MethodName) prog_2_method_1_code (1 : Nat) (Option.none : Option Jvm.ClassFile.FieldType)) ∈ Tw := Tw_of 176 (by decide +kernel) rfl
theorem tw_ml_X0_3 : (Jvm.Cond.methodLink "FleetSettings$Change" (3 : Nat) ({ cls := "java/lang/Object", name := "<init>", desc := "()V" } : Jvm.MethodName)) ∈ Tw := Tw_of 177 (by decide +kernel) rfl
theorem tw_ml_X0_22 : (Jvm.Cond.methodLink "FleetSettings$Change" (22 : Nat) ({ cls := "java/util/Arrays", name := "fill", desc := "([II)V" } : Jvm.MethodName)) ∈ Tw := Tw_of 178 (by decide +kernel) rfl
theorem tw_fl_X0_28 : (Jvm.Cond.fieldLink "FleetSettings$Change" (28 : Nat) "FleetSettings$Change" "author" "I") ∈ Tw := Tw_of 179 (by decide +kernel) rfl
theorem tw_fl_X0_31 : (Jvm.Cond.fieldLink "FleetSettings$Change" (31 : Nat) "FleetSettings$Change" "cell" "I") ∈ Tw := Tw_of 180 (by decide +kernel) rfl
theorem tw_fl_X5_263 : (Jvm.Cond.fieldLink "FleetSettings" (263 : Nat) "FleetSettings$Change" "cell" "I") ∈ Tw := Tw_of 181 (by decide +kernel) rfl
theorem tw_fl_X0_34 : (Jvm.Cond.fieldLink "FleetSettings$Change" (34 : Nat) "FleetSettings$Change" "what" "I") ∈ Tw := Tw_of 182 (by decide +kernel) rfl
theorem tw_fl_X5_333 : (Jvm.Cond.fieldLink "FleetSettings" (333 : Nat) "FleetSettings$Change" "what" "I") ∈ Tw := Tw_of 183 (by decide +kernel) rfl
theorem tw_fl_X0_37 : (Jvm.Cond.fieldLink "FleetSettings$Change" (37 : Nat) "FleetSettings$Change" "proposedDay" "I") ∈ Tw := Tw_of 184 (by decide +kernel) rfl
theorem tw_fl_X0_9 : (Jvm.Cond.fieldLink "FleetSettings$Change" (9 : Nat) "FleetSettings$Change" "condition" "I") ∈ Tw := Tw_of 185 (by decide +kernel) rfl
theorem tw_fl_X5_195 : (Jvm.Cond.fieldLink "FleetSettings" (195 : Nat) "FleetSettings$Change" "condition" "I") ∈ Tw := Tw_of 186 (by decide +kernel) rfl
theorem tw_fl_X0_40 : (Jvm.Cond.fieldLink "FleetSettings$Change" (40 : Nat) "FleetSettings$Change" "goodApprovers" "I") ∈ Tw := Tw_of 187 (by decide +kernel) rfl
theorem tw_fl_X0_15 : (Jvm.Cond.fieldLink "FleetSettings$Change" (15 : Nat) "FleetSettings$Change" "approvedDay" "[I") ∈ Tw := Tw_of 188 (by decide +kernel) rfl
theorem tw_fl_X0_19 : (Jvm.Cond.fieldLink "FleetSettings$Change" (19 : Nat) "FleetSettings$Change" "approvedMoment" "[I") ∈ Tw := Tw_of 189 (by decide +kernel) rfl
theorem tw_fl_X5_97 : (Jvm.Cond.fieldLink "FleetSettings" (97 : Nat) "FleetSettings" "today" "I") ∈ Tw := Tw_of 207 (by decide +kernel) rfl
theorem tw_fl_X5_9 : (Jvm.Cond.fieldLink "FleetSettings" (9 : Nat) "FleetSettings" "pace" "I") ∈ Tw := Tw_of 208 (by decide +kernel) rfl
theorem tw_fl_X5_13 : (Jvm.Cond.fieldLink "FleetSettings" (13 : Nat) "FleetSettings" "dutySets" "[I") ∈ Tw := Tw_of 209 (by decide +kernel) rfl
theorem tw_fl_X5_19 : (Jvm.Cond.fieldLink "FleetSettings" (19 : Nat) "FleetSettings" "personRows" "[LFleetSettings$Person;") ∈ Tw := Tw_of 210 (by decide +kernel) rfl
theorem tw_fl_X5_23 : (Jvm.Cond.fieldLink "FleetSettings" (23 : Nat) "FleetSettings" "parents" "[I") ∈ Tw := Tw_of 211 (by decide +kernel) rfl
theorem tw_fl_X5_26 : (Jvm.Cond.fieldLink "FleetSettings" (26 : Nat) "FleetSettings" "groupCount" "I") ∈ Tw := Tw_of 212 (by decide +kernel) rfl
theorem tw_fl_X5_31 : (Jvm.Cond.fieldLink "FleetSettings" (31 : Nat) "FleetSettings" "machineRows" "[LFleetSettings$Machine;") ∈ Tw := Tw_of 213 (by decide +kernel) rfl
theorem tw_fl_X5_127 : (Jvm.Cond.fieldLink "FleetSettings" (127 : Nat) "FleetSettings" "machineCount" "I") ∈ Tw := Tw_of 214 (by decide +kernel) rfl
theorem tw_fl_X5_37 : (Jvm.Cond.fieldLink "FleetSettings" (37 : Nat) "FleetSettings" "changeRows" "[LFleetSettings$Change;") ∈ Tw := Tw_of 215 (by decide +kernel) rfl
theorem tw_fl_X5_163 : (Jvm.Cond.fieldLink "FleetSettings" (163 : Nat) "FleetSettings" "changeCount" "I") ∈ Tw := Tw_of 216 (by decide +kernel) rfl
theorem tw_fl_X5_281 : (Jvm.Cond.fieldLink "FleetSettings" (281 : Nat) "FleetSettings" "rankCount" "I") ∈ Tw := Tw_of 217 (by decide +kernel) rfl
theorem tw_fl_X5_91 : (Jvm.Cond.fieldLink "FleetSettings" (91 : Nat) "FleetSettings" "moment" "I") ∈ Tw := Tw_of 218 (by decide +kernel) rfl
theorem tw_fl_X5_41 : (Jvm.Cond.fieldLink "FleetSettings" (41 : Nat) "FleetSettings" "excludedBy" "[I") ∈ Tw := Tw_of 219 (by decide +kernel) rfl
theorem tw_fl_X5_47 : (Jvm.Cond.fieldLink "FleetSettings" (47 : Nat) "FleetSettings" "heads" "LFleetSettings$Heads;") ∈ Tw := Tw_of 220 (by decide +kernel) rfl
theorem tw_fl_X5_51 : (Jvm.Cond.fieldLink "FleetSettings" (51 : Nat) "FleetSettings" "headsAnew" "LFleetSettings$Heads;") ∈ Tw := Tw_of 221 (by decide +kernel) rfl
theorem tw_fl_X5_57 : (Jvm.Cond.fieldLink "FleetSettings" (57 : Nat) "FleetSettings" "outcome" "LFleetSettings$Outcome;") ∈ Tw := Tw_of 222 (by decide +kernel) rfl
theorem tw_ml_L_130 : (Jvm.Cond.methodLink "FleetSettingsLaw" (130 : Nat) ({ cls := "FleetSettings", name := "day", desc := "()I" } : Jvm.MethodName)) ∈ Tw := Tw_of 256 (by decide +kernel) rfl
theorem tw_im_X5_day : (Jvm.Cond.instanceMethod ({ cls := "FleetSettings", name := "day", desc := "()I" } : Jvm.MethodName)) ∈ Tw := Tw_of 257 (by decide +kernel) rfl
theorem tw_sel_X5_day : (Jvm.Cond.selects "FleetSettings" ({ cls := "FleetSettings", name := "day", desc := "()I" } : Jvm.MethodName) ({ cls := "FleetSettings", name := "day", desc := "()I" } : Jvm.MethodName)) ∈ Tw := Tw_of 258 (by decide +kernel) rfl
theorem tw_code_X5_day : (Jvm.Cond.code ({ cls := "FleetSettings", name := "day", desc := "()I" } : Jvm.MethodName) prog_1_method_6_code (1 : Nat) (Option.some Jvm.ClassFile.FieldType.int)) ∈ Tw := Tw_of 259 (by decide +kernel) rfl
theorem tw_ml_L_169 : (Jvm.Cond.methodLink "FleetSettingsLaw" (169 : Nat) ({ cls := "FleetSettings", name := "changes", desc := "()I" } : Jvm.MethodName)) ∈ Tw := Tw_of 260 (by decide +kernel) rfl
theorem tw_im_X5_changes : (Jvm.Cond.instanceMethod ({ cls := "FleetSettings", name := "changes", desc := "()I" } : Jvm.MethodName)) ∈ Tw := Tw_of 261 (by decide +kernel) rfl
theorem tw_sel_X5_changes : (Jvm.Cond.selects "FleetSettings" ({ cls := "FleetSettings", name := "changes", desc := "()I" } : Jvm.MethodName) ({ cls := "FleetSettings", name := "changes", desc := "()I" } : Jvm.MethodName)) ∈ Tw := Tw_of 262 (by decide +kernel) rfl
theorem tw_code_X5_changes : (Jvm.Cond.code ({ cls := "FleetSettings", name := "changes", desc := "()I" } : Jvm.MethodName) prog_1_method_18_code (1 : Nat) (Option.some Jvm.ClassFile.FieldType.int)) ∈ Tw := Tw_of 263 (by decide +kernel) rfl
theorem tw_ml_L_108 : (Jvm.Cond.methodLink "FleetSettingsLaw" (108 : Nat) ({ cls := "FleetSettingsLaw", name := "setDuty", desc := "(LFleetSettings;II[J)I" } : Jvm.MethodName)) ∈ Tw := Tw_of 264 (by decide +kernel) rfl
theorem tw_st_L_setDuty : (Jvm.Cond.static ({ cls := "FleetSettingsLaw", name := "setDuty", desc := "(LFleetSettings;II[J)I" } : Jvm.MethodName)) ∈ Tw := Tw_of 265 (by decide +kernel) rfl
theorem tw_code_L_setDuty : (Jvm.Cond.codeWith ({ cls := "FleetSettingsLaw", name := "setDuty", desc := "(LFleetSettings;II[J)I" } : Jvm.MethodName) method_3_code (5 : Nat) (Option.some Jvm.ClassFile.FieldType.int) [((0 : Nat), (10 : Nat), (13 : Nat), (13 : Nat))]) ∈ Tw := Tw_of 266 (by decide +kernel) rfl
theorem tw_cl_L_13 : (Jvm.Cond.classLink "FleetSettingsLaw" (13 : Nat) "java/lang/IllegalArgumentException") ∈ Tw := Tw_of 267 (by decide +kernel) rfl
theorem tw_ml_L_7 : (Jvm.Cond.methodLink "FleetSettingsLaw" (7 : Nat) ({ cls := "FleetSettings", name := "setDuty", desc := "(II)I" } : Jvm.MethodName)) ∈ Tw := Tw_of 268 (by decide +kernel) rfl
theorem tw_im_X5_setDuty : (Jvm.Cond.instanceMethod ({ cls := "FleetSettings", name := "setDuty", desc := "(II)I" } : Jvm.MethodName)) ∈ Tw := Tw_of 269 (by decide +kernel) rfl
theorem tw_sel_X5_setDuty : (Jvm.Cond.selects "FleetSettings" ({ cls := "FleetSettings", name := "setDuty", desc := "(II)I" } : Jvm.MethodName) ({ cls := "FleetSettings", name := "setDuty", desc := "(II)I" } : Jvm.MethodName)) ∈ Tw := Tw_of 270 (by decide +kernel) rfl
theorem tw_code_X5_setDuty : (Jvm.Cond.code ({ cls := "FleetSettings", name := "setDuty", desc := "(II)I" } : Jvm.MethodName) prog_1_method_2_code (4 : Nat) (Option.some Jvm.ClassFile.FieldType.int)) ∈ Tw := Tw_of 271 (by decide +kernel) rfl
theorem tw_cl_X5_72 : (Jvm.Cond.classLink "FleetSettings" (72 : Nat) "java/lang/IllegalArgumentException") ∈ Tw := Tw_of 272 (by decide +kernel) rfl
theorem tw_ins_IAE : (Jvm.Cond.instantiable "java/lang/IllegalArgumentException" (6 : Nat)) ∈ Tw := Tw_of 273 (by decide +kernel) rfl
theorem tw_fl_THR_198 : (Jvm.Cond.fieldLink "java/lang/Throwable" (198 : Nat) "java/lang/Throwable" "backtrace" "Ljava/lang/Object;") ∈ Tw := Tw_of 293 (by decide +kernel) rfl
theorem tw_ml_THR_1 : (Jvm.Cond.methodLink "java/lang/Throwable" (1 : Nat) ({ cls := "java/lang/Object", name := "<init>", desc := "()V" } : Jvm.MethodName)) ∈ Tw := Tw_of 297 (by decide +kernel) rfl
theorem tw_fl_THR_13 : (Jvm.Cond.fieldLink "java/lang/Throwable" (13 : Nat) "java/lang/Throwable" "UNASSIGNED_STACK" "[Ljava/lang/StackTraceElement;") ∈ Tw := Tw_of 298 (by decide +kernel) rfl
theorem tw_fl_THR_20 : (Jvm.Cond.fieldLink "java/lang/Throwable" (20 : Nat) "java/lang/Throwable" "SUPPRESSED_SENTINEL" "Ljava/util/List;") ∈ Tw := Tw_of 300 (by decide +kernel) rfl
theorem tw_ml_THR_27 : (Jvm.Cond.methodLink "java/lang/Throwable" (27 : Nat) ({ cls := "java/lang/Throwable", name := "fillInStackTrace", desc := "()Ljava/lang/Throwable;" } : Jvm.MethodName)) ∈ Tw := Tw_of 302 (by decide +kernel) rfl
theorem tw_ml_THR_202 : (Jvm.Cond.methodLink "java/lang/Throwable" (202 : Nat) ({ cls := "java/lang/Throwable", name := "fillInStackTrace", desc := "(I)Ljava/lang/Throwable;" } : Jvm.MethodName)) ∈ Tw := Tw_of 308 (by decide +kernel) rfl
theorem tw_ins_THR : (Jvm.Cond.instantiable "java/lang/Throwable" (6 : Nat)) ∈ Tw := Tw_of 311 (by decide +kernel) rfl
theorem tw_ml_X5_76 : (Jvm.Cond.methodLink "FleetSettings" (76 : Nat) ({ cls := "java/lang/IllegalArgumentException", name := "<init>", desc := "(Ljava/lang/String;)V" } : Jvm.MethodName)) ∈ Tw := Tw_of 314 (by decide +kernel) rfl
theorem tw_ml_IAE_7 : (Jvm.Cond.methodLink "java/lang/IllegalArgumentException" (7 : Nat) ({ cls := "java/lang/RuntimeException", name := "<init>", desc := "(Ljava/lang/String;)V" } : Jvm.MethodName)) ∈ Tw := Tw_of 317 (by decide +kernel) rfl
theorem tw_ml_RTE_7 : (Jvm.Cond.methodLink "java/lang/RuntimeException" (7 : Nat) ({ cls := "java/lang/Exception", name := "<init>", desc := "(Ljava/lang/String;)V" } : Jvm.MethodName)) ∈ Tw := Tw_of 320 (by decide +kernel) rfl
theorem tw_ml_EXC_7 : (Jvm.Cond.methodLink "java/lang/Exception" (7 : Nat) ({ cls := "java/lang/Throwable", name := "<init>", desc := "(Ljava/lang/String;)V" } : Jvm.MethodName)) ∈ Tw := Tw_of 323 (by decide +kernel) rfl
theorem tw_fl_THR_31 : (Jvm.Cond.fieldLink "java/lang/Throwable" (31 : Nat) "java/lang/Throwable" "detailMessage" "Ljava/lang/String;") ∈ Tw := Tw_of 327 (by decide +kernel) rfl
theorem tw_fl_THR_7 : (Jvm.Cond.fieldLink "java/lang/Throwable" (7 : Nat) "java/lang/Throwable" "cause" "Ljava/lang/Throwable;") ∈ Tw := Tw_of 328 (by decide +kernel) rfl
theorem tw_fl_THR_17 : (Jvm.Cond.fieldLink "java/lang/Throwable" (17 : Nat) "java/lang/Throwable" "stackTrace" "[Ljava/lang/StackTraceElement;") ∈ Tw := Tw_of 329 (by decide +kernel) rfl
theorem tw_fl_THR_24 : (Jvm.Cond.fieldLink "java/lang/Throwable" (24 : Nat) "java/lang/Throwable" "suppressedExceptions" "Ljava/util/List;") ∈ Tw := Tw_of 330 (by decide +kernel) rfl
theorem tw_ac_byte : (Jvm.Cond.arrayClass Jvm.ClassFile.FieldType.byte) ∈ Tw := Tw_of 339 (by decide +kernel) rfl
theorem tw_ml_L_118 : (Jvm.Cond.methodLink "FleetSettingsLaw" (118 : Nat) ({ cls := "FleetSettingsLaw", name := "leave", desc := "(LFleetSettings;IZ[J)I" } : Jvm.MethodName)) ∈ Tw := Tw_of 340 (by decide +kernel) rfl
theorem tw_st_L_leave : (Jvm.Cond.static ({ cls := "FleetSettingsLaw", name := "leave", desc := "(LFleetSettings;IZ[J)I" } : Jvm.MethodName)) ∈ Tw := Tw_of 341 (by decide +kernel) rfl
theorem tw_code_L_leave : (Jvm.Cond.codeWith ({ cls := "FleetSettingsLaw", name := "leave", desc := "(LFleetSettings;IZ[J)I" } : Jvm.MethodName) method_4_code (5 : Nat) (Option.some Jvm.ClassFile.FieldType.int) [((0 : Nat), (10 : Nat), (13 : Nat), (19 : Nat)), ((0 : Nat), (10 : Nat), (17 : Nat), (21 : Nat))]) ∈ Tw := Tw_of 342 (by decide +kernel) rfl
theorem tw_cl_L_19 : (Jvm.Cond.classLink "FleetSettingsLaw" (19 : Nat) "java/lang/IndexOutOfBoundsException") ∈ Tw := Tw_of 343 (by decide +kernel) rfl
theorem tw_cl_L_21 : (Jvm.Cond.classLink "FleetSettingsLaw" (21 : Nat) "java/lang/IllegalStateException") ∈ Tw := Tw_of 344 (by decide +kernel) rfl
theorem tw_ml_L_15 : (Jvm.Cond.methodLink "FleetSettingsLaw" (15 : Nat) ({ cls := "FleetSettings", name := "leave", desc := "(IZ)I" } : Jvm.MethodName)) ∈ Tw := Tw_of 345 (by decide +kernel) rfl
theorem tw_im_X5_leave : (Jvm.Cond.instanceMethod ({ cls := "FleetSettings", name := "leave", desc := "(IZ)I" } : Jvm.MethodName)) ∈ Tw := Tw_of 346 (by decide +kernel) rfl
theorem tw_sel_X5_leave : (Jvm.Cond.selects "FleetSettings" ({ cls := "FleetSettings", name := "leave", desc := "(IZ)I" } : Jvm.MethodName) ({ cls := "FleetSettings", name := "leave", desc := "(IZ)I" } : Jvm.MethodName)) ∈ Tw := Tw_of 347 (by decide +kernel) rfl
theorem tw_code_X5_leave : (Jvm.Cond.code ({ cls := "FleetSettings", name := "leave", desc := "(IZ)I" } : Jvm.MethodName) prog_1_method_3_code (4 : Nat) (Option.some Jvm.ClassFile.FieldType.int)) ∈ Tw := Tw_of 348 (by decide +kernel) rfl
theorem tw_ml_X5_79 : (Jvm.Cond.methodLink "FleetSettings" (79 : Nat) ({ cls := "FleetSettings", name := "requirePerson", desc := "(I)V" } : Jvm.MethodName)) ∈ Tw := Tw_of 349 (by decide +kernel) rfl
theorem tw_st_X5_requirePerson : (Jvm.Cond.static ({ cls := "FleetSettings", name := "requirePerson", desc := "(I)V" } : Jvm.MethodName)) ∈ Tw := Tw_of 350 (by decide +kernel) rfl
theorem tw_code_X5_requirePerson : (Jvm.Cond.code ({ cls := "FleetSettings", name := "requirePerson", desc := "(I)V" } : Jvm.MethodName) prog_1_method_31_code (1 : Nat) (Option.none : Option Jvm.ClassFile.FieldType)) ∈ Tw := Tw_of 351 (by decide +kernel) rfl
theorem tw_cl_X5_228 : (Jvm.Cond.classLink "FleetSettings" (228 : Nat) "java/lang/IndexOutOfBoundsException") ∈ Tw := Tw_of 352 (by decide +kernel) rfl
theorem tw_ins_IOOBE : (Jvm.Cond.instantiable "java/lang/IndexOutOfBoundsException" (6 : Nat)) ∈ Tw := Tw_of 353 (by decide +kernel) rfl
theorem tw_ml_X5_232 : (Jvm.Cond.methodLink "FleetSettings" (232 : Nat) ({ cls := "java/lang/IndexOutOfBoundsException", name := "<init>", desc := "(Ljava/lang/String;)V" } : Jvm.MethodName)) ∈ Tw := Tw_of 362 (by decide +kernel) rfl
theorem tw_ml_IOOBE_7 : (Jvm.Cond.methodLink "java/lang/IndexOutOfBoundsException" (7 : Nat) ({ cls := "java/lang/RuntimeException", name := "<init>", desc := "(Ljava/lang/String;)V" } : Jvm.MethodName)) ∈ Tw := Tw_of 365 (by decide +kernel) rfl
theorem tw_cl_X5_86 : (Jvm.Cond.classLink "FleetSettings" (86 : Nat) "java/lang/IllegalStateException") ∈ Tw := Tw_of 368 (by decide +kernel) rfl
theorem tw_ins_ISE : (Jvm.Cond.instantiable "java/lang/IllegalStateException" (6 : Nat)) ∈ Tw := Tw_of 369 (by decide +kernel) rfl
theorem tw_ml_X5_90 : (Jvm.Cond.methodLink "FleetSettings" (90 : Nat) ({ cls := "java/lang/IllegalStateException", name := "<init>", desc := "(Ljava/lang/String;)V" } : Jvm.MethodName)) ∈ Tw := Tw_of 378 (by decide +kernel) rfl
theorem tw_ml_ISE_7 : (Jvm.Cond.methodLink "java/lang/IllegalStateException" (7 : Nat) ({ cls := "java/lang/RuntimeException", name := "<init>", desc := "(Ljava/lang/String;)V" } : Jvm.MethodName)) ∈ Tw := Tw_of 381 (by decide +kernel) rfl
theorem tw_ml_X5_106 : (Jvm.Cond.methodLink "FleetSettings" (106 : Nat) ({ cls := "FleetSettings", name := "voidWhatIsNotOld", desc := "(I)I" } : Jvm.MethodName)) ∈ Tw := Tw_of 384 (by decide +kernel) rfl
theorem tw_im_X5_voidWhatIsNotOld : (Jvm.Cond.instanceMethod ({ cls := "FleetSettings", name := "voidWhatIsNotOld", desc := "(I)I" } : Jvm.MethodName)) ∈ Tw := Tw_of 386 (by decide +kernel) rfl
theorem tw_code_X5_voidWhatIsNotOld : (Jvm.Cond.code ({ cls := "FleetSettings", name := "voidWhatIsNotOld", desc := "(I)I" } : Jvm.MethodName) prog_1_method_44_code (5 : Nat) (Option.some Jvm.ClassFile.FieldType.int)) ∈ Tw := Tw_of 387 (by decide +kernel) rfl
theorem tw_ml_X5_287 : (Jvm.Cond.methodLink "FleetSettings" (287 : Nat) ({ cls := "FleetSettings$Change", name := "loseByLeaving", desc := "(II)Z" } : Jvm.MethodName)) ∈ Tw := Tw_of 388 (by decide +kernel) rfl
theorem tw_im_X0_loseByLeaving : (Jvm.Cond.instanceMethod ({ cls := "FleetSettings$Change", name := "loseByLeaving", desc := "(II)Z" } : Jvm.MethodName)) ∈ Tw := Tw_of 389 (by decide +kernel) rfl
theorem tw_sel_X0_loseByLeaving : (Jvm.Cond.selects "FleetSettings$Change" ({ cls := "FleetSettings$Change", name := "loseByLeaving", desc := "(II)Z" } : Jvm.MethodName) ({ cls := "FleetSettings$Change", name := "loseByLeaving", desc := "(II)Z" } : Jvm.MethodName)) ∈ Tw := Tw_of 390 (by decide +kernel) rfl
theorem tw_code_X0_loseByLeaving : (Jvm.Cond.code ({ cls := "FleetSettings$Change", name := "loseByLeaving", desc := "(II)Z" } : Jvm.MethodName) prog_2_method_6_code (4 : Nat) (Option.some Jvm.ClassFile.FieldType.boolean)) ∈ Tw := Tw_of 391 (by decide +kernel) rfl
theorem tw_st_X5_contains : (Jvm.Cond.static ({ cls := "FleetSettings", name := "contains", desc := "(II)Z" } : Jvm.MethodName)) ∈ Tw := Tw_of 393 (by decide +kernel) rfl
theorem tw_code_X5_contains : (Jvm.Cond.code ({ cls := "FleetSettings", name := "contains", desc := "(II)Z" } : Jvm.MethodName) prog_1_method_40_code (2 : Nat) (Option.some Jvm.ClassFile.FieldType.boolean)) ∈ Tw := Tw_of 394 (by decide +kernel) rfl
theorem tw_st_X5_with : (Jvm.Cond.static ({ cls := "FleetSettings", name := "with", desc := "(IIZ)I" } : Jvm.MethodName)) ∈ Tw := Tw_of 396 (by decide +kernel) rfl
theorem tw_code_X5_with : (Jvm.Cond.code ({ cls := "FleetSettings", name := "with", desc := "(IIZ)I" } : Jvm.MethodName) prog_1_method_41_code (3 : Nat) (Option.some Jvm.ClassFile.FieldType.int)) ∈ Tw := Tw_of 397 (by decide +kernel) rfl
theorem tw_ml_X0_57 : (Jvm.Cond.methodLink "FleetSettings$Change" (57 : Nat) ({ cls := "FleetSettings$Change", name := "countGood", desc := "()I" } : Jvm.MethodName)) ∈ Tw := Tw_of 398 (by decide +kernel) rfl
theorem tw_im_X0_countGood : (Jvm.Cond.instanceMethod ({ cls := "FleetSettings$Change", name := "countGood", desc := "()I" } : Jvm.MethodName)) ∈ Tw := Tw_of 399 (by decide +kernel) rfl
theorem tw_sel_X0_countGood : (Jvm.Cond.selects "FleetSettings$Change" ({ cls := "FleetSettings$Change", name := "countGood", desc := "()I" } : Jvm.MethodName) ({ cls := "FleetSettings$Change", name := "countGood", desc := "()I" } : Jvm.MethodName)) ∈ Tw := Tw_of 400 (by decide +kernel) rfl
theorem tw_code_X0_countGood : (Jvm.Cond.code ({ cls := "FleetSettings$Change", name := "countGood", desc := "()I" } : Jvm.MethodName) prog_2_method_5_code (1 : Nat) (Option.some Jvm.ClassFile.FieldType.int)) ∈ Tw := Tw_of 401 (by decide +kernel) rfl
theorem tw_ml_X0_51 : (Jvm.Cond.methodLink "FleetSettings$Change" (51 : Nat) ({ cls := "java/lang/Integer", name := "bitCount", desc := "(I)I" } : Jvm.MethodName)) ∈ Tw := Tw_of 402 (by decide +kernel) rfl
theorem tw_st_J6_bitCount_0f7a4 : (Jvm.Cond.static ({ cls := "java/lang/Integer", name := "bitCount", desc := "(I)I" } : Jvm.MethodName)) ∈ Tw := Tw_of 403 (by decide +kernel) rfl
theorem tw_code_J6_bitCount_0f7a4 : (Jvm.Cond.code ({ cls := "java/lang/Integer", name := "bitCount", desc := "(I)I" } : Jvm.MethodName) prog_13_method_49_code (1 : Nat) (Option.some Jvm.ClassFile.FieldType.int)) ∈ Tw := Tw_of 404 (by decide +kernel) rfl
theorem tw_ct_J6_265 : (Jvm.Cond.constant "java/lang/Integer" (265 : Nat) (1431655765 : Int32)) ∈ Tw := Tw_of 405 (by decide +kernel) rfl
theorem tw_ct_J6_266 : (Jvm.Cond.constant "java/lang/Integer" (266 : Nat) (858993459 : Int32)) ∈ Tw := Tw_of 406 (by decide +kernel) rfl
theorem tw_ct_J6_267 : (Jvm.Cond.constant "java/lang/Integer" (267 : Nat) (252645135 : Int32)) ∈ Tw := Tw_of 407 (by decide +kernel) rfl
theorem tw_ml_X5_284 : (Jvm.Cond.methodLink "FleetSettings" (284 : Nat) ({ cls := "FleetSettings", name := "findHeads", desc := "()V" } : Jvm.MethodName)) ∈ Tw := Tw_of 408 (by decide +kernel) rfl
theorem tw_im_X5_findHeads : (Jvm.Cond.instanceMethod ({ cls := "FleetSettings", name := "findHeads", desc := "()V" } : Jvm.MethodName)) ∈ Tw := Tw_of 410 (by decide +kernel) rfl
theorem tw_code_X5_findHeads : (Jvm.Cond.code ({ cls := "FleetSettings", name := "findHeads", desc := "()V" } : Jvm.MethodName) prog_1_method_45_code (2 : Nat) (Option.none : Option Jvm.ClassFile.FieldType)) ∈ Tw := Tw_of 411 (by decide +kernel) rfl
theorem tw_ml_X5_290 : (Jvm.Cond.methodLink "FleetSettings" (290 : Nat) ({ cls := "FleetSettings$Heads", name := "forgetChanges", desc := "()V" } : Jvm.MethodName)) ∈ Tw := Tw_of 412 (by decide +kernel) rfl
theorem tw_im_X1_forgetChanges : (Jvm.Cond.instanceMethod ({ cls := "FleetSettings$Heads", name := "forgetChanges", desc := "()V" } : Jvm.MethodName)) ∈ Tw := Tw_of 413 (by decide +kernel) rfl
theorem tw_sel_X1_forgetChanges : (Jvm.Cond.selects "FleetSettings$Heads" ({ cls := "FleetSettings$Heads", name := "forgetChanges", desc := "()V" } : Jvm.MethodName) ({ cls := "FleetSettings$Heads", name := "forgetChanges", desc := "()V" } : Jvm.MethodName)) ∈ Tw := Tw_of 414 (by decide +kernel) rfl
theorem tw_code_X1_forgetChanges : (Jvm.Cond.code ({ cls := "FleetSettings$Heads", name := "forgetChanges", desc := "()V" } : Jvm.MethodName) prog_3_method_2_code (1 : Nat) (Option.none : Option Jvm.ClassFile.FieldType)) ∈ Tw := Tw_of 415 (by decide +kernel) rfl
theorem tw_ml_X5_293 : (Jvm.Cond.methodLink "FleetSettings" (293 : Nat) ({ cls := "FleetSettings$Heads", name := "raise", desc := "(II)V" } : Jvm.MethodName)) ∈ Tw := Tw_of 416 (by decide +kernel) rfl
theorem tw_im_X1_raise : (Jvm.Cond.instanceMethod ({ cls := "FleetSettings$Heads", name := "raise", desc := "(II)V" } : Jvm.MethodName)) ∈ Tw := Tw_of 417 (by decide +kernel) rfl
theorem tw_sel_X1_raise : (Jvm.Cond.selects "FleetSettings$Heads" ({ cls := "FleetSettings$Heads", name := "raise", desc := "(II)V" } : Jvm.MethodName) ({ cls := "FleetSettings$Heads", name := "raise", desc := "(II)V" } : Jvm.MethodName)) ∈ Tw := Tw_of 418 (by decide +kernel) rfl
theorem tw_code_X1_raise : (Jvm.Cond.code ({ cls := "FleetSettings$Heads", name := "raise", desc := "(II)V" } : Jvm.MethodName) prog_3_method_3_code (4 : Nat) (Option.none : Option Jvm.ClassFile.FieldType)) ∈ Tw := Tw_of 419 (by decide +kernel) rfl
theorem tw_ml_X5_147 : (Jvm.Cond.methodLink "FleetSettings" (147 : Nat) ({ cls := "FleetSettings", name := "nearestLayerNotHeld", desc := "(LFleetSettings$Machine;)I" } : Jvm.MethodName)) ∈ Tw := Tw_of 420 (by decide +kernel) rfl
theorem tw_im_X5_nearestLayerNotHeld : (Jvm.Cond.instanceMethod ({ cls := "FleetSettings", name := "nearestLayerNotHeld", desc := "(LFleetSettings$Machine;)I" } : Jvm.MethodName)) ∈ Tw := Tw_of 422 (by decide +kernel) rfl
theorem tw_code_X5_nearestLayerNotHeld : (Jvm.Cond.code ({ cls := "FleetSettings", name := "nearestLayerNotHeld", desc := "(LFleetSettings$Machine;)I" } : Jvm.MethodName) prog_1_method_49_code (4 : Nat) (Option.some Jvm.ClassFile.FieldType.int)) ∈ Tw := Tw_of 423 (by decide +kernel) rfl
theorem tw_ml_X5_171 : (Jvm.Cond.methodLink "FleetSettings" (171 : Nat) ({ cls := "FleetSettings", name := "cellOf", desc := "(II)I" } : Jvm.MethodName)) ∈ Tw := Tw_of 424 (by decide +kernel) rfl
theorem tw_st_X5_cellOf : (Jvm.Cond.static ({ cls := "FleetSettings", name := "cellOf", desc := "(II)I" } : Jvm.MethodName)) ∈ Tw := Tw_of 425 (by decide +kernel) rfl
theorem tw_code_X5_cellOf : (Jvm.Cond.code ({ cls := "FleetSettings", name := "cellOf", desc := "(II)I" } : Jvm.MethodName) prog_1_method_39_code (2 : Nat) (Option.some Jvm.ClassFile.FieldType.int)) ∈ Tw := Tw_of 426 (by decide +kernel) rfl
theorem tw_ml_X5_313 : (Jvm.Cond.methodLink "FleetSettings" (313 : Nat) ({ cls := "FleetSettings", name := "isTakenNotHeld", desc := "(I)Z" } : Jvm.MethodName)) ∈ Tw := Tw_of 427 (by decide +kernel) rfl
theorem tw_im_X5_isTakenNotHeld : (Jvm.Cond.instanceMethod ({ cls := "FleetSettings", name := "isTakenNotHeld", desc := "(I)Z" } : Jvm.MethodName)) ∈ Tw := Tw_of 429 (by decide +kernel) rfl
theorem tw_code_X5_isTakenNotHeld : (Jvm.Cond.code ({ cls := "FleetSettings", name := "isTakenNotHeld", desc := "(I)Z" } : Jvm.MethodName) prog_1_method_50_code (2 : Nat) (Option.some Jvm.ClassFile.FieldType.boolean)) ∈ Tw := Tw_of 430 (by decide +kernel) rfl
theorem tw_ml_X5_276 : (Jvm.Cond.methodLink "FleetSettings" (276 : Nat) ({ cls := "FleetSettings", name := "isChange", desc := "(I)Z" } : Jvm.MethodName)) ∈ Tw := Tw_of 431 (by decide +kernel) rfl
theorem tw_im_X5_isChange : (Jvm.Cond.instanceMethod ({ cls := "FleetSettings", name := "isChange", desc := "(I)Z" } : Jvm.MethodName)) ∈ Tw := Tw_of 433 (by decide +kernel) rfl
theorem tw_code_X5_isChange : (Jvm.Cond.code ({ cls := "FleetSettings", name := "isChange", desc := "(I)Z" } : Jvm.MethodName) prog_1_method_37_code (2 : Nat) (Option.some Jvm.ClassFile.FieldType.boolean)) ∈ Tw := Tw_of 434 (by decide +kernel) rfl
theorem tw_ml_L_122 : (Jvm.Cond.methodLink "FleetSettingsLaw" (122 : Nat) ({ cls := "FleetSettingsLaw", name := "comeBack", desc := "(LFleetSettings;I)I" } : Jvm.MethodName)) ∈ Tw := Tw_of 435 (by decide +kernel) rfl
theorem tw_st_L_comeBack : (Jvm.Cond.static ({ cls := "FleetSettingsLaw", name := "comeBack", desc := "(LFleetSettings;I)I" } : Jvm.MethodName)) ∈ Tw := Tw_of 436 (by decide +kernel) rfl
theorem tw_code_L_comeBack : (Jvm.Cond.codeWith ({ cls := "FleetSettingsLaw", name := "comeBack", desc := "(LFleetSettings;I)I" } : Jvm.MethodName) method_5_code (3 : Nat) (Option.some Jvm.ClassFile.FieldType.int) [((0 : Nat), (5 : Nat), (8 : Nat), (19 : Nat)), ((0 : Nat), (5 : Nat), (11 : Nat), (21 : Nat))]) ∈ Tw := Tw_of 437 (by decide +kernel) rfl
theorem tw_ml_L_23 : (Jvm.Cond.methodLink "FleetSettingsLaw" (23 : Nat) ({ cls := "FleetSettings", name := "comeBack", desc := "(I)V" } : Jvm.MethodName)) ∈ Tw := Tw_of 438 (by decide +kernel) rfl
theorem tw_im_X5_comeBack : (Jvm.Cond.instanceMethod ({ cls := "FleetSettings", name := "comeBack", desc := "(I)V" } : Jvm.MethodName)) ∈ Tw := Tw_of 439 (by decide +kernel) rfl
theorem tw_sel_X5_comeBack : (Jvm.Cond.selects "FleetSettings" ({ cls := "FleetSettings", name := "comeBack", desc := "(I)V" } : Jvm.MethodName) ({ cls := "FleetSettings", name := "comeBack", desc := "(I)V" } : Jvm.MethodName)) ∈ Tw := Tw_of 440 (by decide +kernel) rfl
theorem tw_code_X5_comeBack : (Jvm.Cond.code ({ cls := "FleetSettings", name := "comeBack", desc := "(I)V" } : Jvm.MethodName) prog_1_method_4_code (3 : Nat) (Option.none : Option Jvm.ClassFile.FieldType)) ∈ Tw := Tw_of 441 (by decide +kernel) rfl
theorem tw_ml_L_126 : (Jvm.Cond.methodLink "FleetSettingsLaw" (126 : Nat) ({ cls := "FleetSettingsLaw", name := "pass", desc := "(LFleetSettings;I[J)I" } : Jvm.MethodName)) ∈ Tw := Tw_of 443 (by decide +kernel) rfl
theorem tw_st_L_pass : (Jvm.Cond.static ({ cls := "FleetSettingsLaw", name := "pass", desc := "(LFleetSettings;I[J)I" } : Jvm.MethodName)) ∈ Tw := Tw_of 444 (by decide +kernel) rfl
theorem tw_code_L_pass : (Jvm.Cond.codeWith ({ cls := "FleetSettingsLaw", name := "pass", desc := "(LFleetSettings;I[J)I" } : Jvm.MethodName) method_6_code (4 : Nat) (Option.some Jvm.ClassFile.FieldType.int) [((0 : Nat), (9 : Nat), (12 : Nat), (13 : Nat))]) ∈ Tw := Tw_of 445 (by decide +kernel) rfl
theorem tw_ml_L_27 : (Jvm.Cond.methodLink "FleetSettingsLaw" (27 : Nat) ({ cls := "FleetSettings", name := "pass", desc := "(I)I" } : Jvm.MethodName)) ∈ Tw := Tw_of 446 (by decide +kernel) rfl
theorem tw_im_X5_pass : (Jvm.Cond.instanceMethod ({ cls := "FleetSettings", name := "pass", desc := "(I)I" } : Jvm.MethodName)) ∈ Tw := Tw_of 447 (by decide +kernel) rfl
theorem tw_sel_X5_pass : (Jvm.Cond.selects "FleetSettings" ({ cls := "FleetSettings", name := "pass", desc := "(I)I" } : Jvm.MethodName) ({ cls := "FleetSettings", name := "pass", desc := "(I)I" } : Jvm.MethodName)) ∈ Tw := Tw_of 448 (by decide +kernel) rfl
theorem tw_code_X5_pass : (Jvm.Cond.code ({ cls := "FleetSettings", name := "pass", desc := "(I)I" } : Jvm.MethodName) prog_1_method_5_code (5 : Nat) (Option.some Jvm.ClassFile.FieldType.int)) ∈ Tw := Tw_of 449 (by decide +kernel) rfl
theorem tw_ml_X5_114 : (Jvm.Cond.methodLink "FleetSettings" (114 : Nat) ({ cls := "FleetSettings", name := "stepMachines", desc := "()I" } : Jvm.MethodName)) ∈ Tw := Tw_of 451 (by decide +kernel) rfl
theorem tw_im_X5_stepMachines : (Jvm.Cond.instanceMethod ({ cls := "FleetSettings", name := "stepMachines", desc := "()I" } : Jvm.MethodName)) ∈ Tw := Tw_of 453 (by decide +kernel) rfl
theorem tw_code_X5_stepMachines : (Jvm.Cond.code ({ cls := "FleetSettings", name := "stepMachines", desc := "()I" } : Jvm.MethodName) prog_1_method_47_code (6 : Nat) (Option.some Jvm.ClassFile.FieldType.int)) ∈ Tw := Tw_of 454 (by decide +kernel) rfl
theorem tw_ml_X5_305 : (Jvm.Cond.methodLink "FleetSettings" (305 : Nat) ({ cls := "FleetSettings", name := "goBack", desc := "(LFleetSettings$Machine;I)V" } : Jvm.MethodName)) ∈ Tw := Tw_of 455 (by decide +kernel) rfl
theorem tw_im_X5_goBack : (Jvm.Cond.instanceMethod ({ cls := "FleetSettings", name := "goBack", desc := "(LFleetSettings$Machine;I)V" } : Jvm.MethodName)) ∈ Tw := Tw_of 457 (by decide +kernel) rfl
theorem tw_code_X5_goBack : (Jvm.Cond.code ({ cls := "FleetSettings", name := "goBack", desc := "(LFleetSettings$Machine;I)V" } : Jvm.MethodName) prog_1_method_51_code (5 : Nat) (Option.none : Option Jvm.ClassFile.FieldType)) ∈ Tw := Tw_of 458 (by decide +kernel) rfl
theorem tw_ml_X5_309 : (Jvm.Cond.methodLink "FleetSettings" (309 : Nat) ({ cls := "FleetSettings", name := "takeFarthestLayer", desc := "(LFleetSettings$Machine;)Z" } : Jvm.MethodName)) ∈ Tw := Tw_of 459 (by decide +kernel) rfl
theorem tw_im_X5_takeFarthestLayer : (Jvm.Cond.instanceMethod ({ cls := "FleetSettings", name := "takeFarthestLayer", desc := "(LFleetSettings$Machine;)Z" } : Jvm.MethodName)) ∈ Tw := Tw_of 461 (by decide +kernel) rfl
theorem tw_code_X5_takeFarthestLayer : (Jvm.Cond.code ({ cls := "FleetSettings", name := "takeFarthestLayer", desc := "(LFleetSettings$Machine;)Z" } : Jvm.MethodName) prog_1_method_52_code (3 : Nat) (Option.some Jvm.ClassFile.FieldType.boolean)) ∈ Tw := Tw_of 462 (by decide +kernel) rfl
theorem tw_ml_X5_256 : (Jvm.Cond.methodLink "FleetSettings" (256 : Nat) ({ cls := "FleetSettings", name := "isBehindIn", desc := "(LFleetSettings$Machine;I)Z" } : Jvm.MethodName)) ∈ Tw := Tw_of 463 (by decide +kernel) rfl
theorem tw_im_X5_isBehindIn : (Jvm.Cond.instanceMethod ({ cls := "FleetSettings", name := "isBehindIn", desc := "(LFleetSettings$Machine;I)Z" } : Jvm.MethodName)) ∈ Tw := Tw_of 465 (by decide +kernel) rfl
theorem tw_code_X5_isBehindIn : (Jvm.Cond.code ({ cls := "FleetSettings", name := "isBehindIn", desc := "(LFleetSettings$Machine;I)Z" } : Jvm.MethodName) prog_1_method_54_code (5 : Nat) (Option.some Jvm.ClassFile.FieldType.boolean)) ∈ Tw := Tw_of 466 (by decide +kernel) rfl
theorem tw_ml_X5_316 : (Jvm.Cond.methodLink "FleetSettings" (316 : Nat) ({ cls := "FleetSettings", name := "takeLayer", desc := "(LFleetSettings$Machine;I)V" } : Jvm.MethodName)) ∈ Tw := Tw_of 467 (by decide +kernel) rfl
theorem tw_im_X5_takeLayer : (Jvm.Cond.instanceMethod ({ cls := "FleetSettings", name := "takeLayer", desc := "(LFleetSettings$Machine;I)V" } : Jvm.MethodName)) ∈ Tw := Tw_of 469 (by decide +kernel) rfl
theorem tw_code_X5_takeLayer : (Jvm.Cond.code ({ cls := "FleetSettings", name := "takeLayer", desc := "(LFleetSettings$Machine;I)V" } : Jvm.MethodName) prog_1_method_53_code (5 : Nat) (Option.none : Option Jvm.ClassFile.FieldType)) ∈ Tw := Tw_of 470 (by decide +kernel) rfl
theorem tw_ml_X5_118 : (Jvm.Cond.methodLink "FleetSettings" (118 : Nat) ({ cls := "FleetSettings", name := "isAnyBusy", desc := "()Z" } : Jvm.MethodName)) ∈ Tw := Tw_of 471 (by decide +kernel) rfl
theorem tw_im_X5_isAnyBusy : (Jvm.Cond.instanceMethod ({ cls := "FleetSettings", name := "isAnyBusy", desc := "()Z" } : Jvm.MethodName)) ∈ Tw := Tw_of 473 (by decide +kernel) rfl
theorem tw_code_X5_isAnyBusy : (Jvm.Cond.code ({ cls := "FleetSettings", name := "isAnyBusy", desc := "()Z" } : Jvm.MethodName) prog_1_method_48_code (2 : Nat) (Option.some Jvm.ClassFile.FieldType.boolean)) ∈ Tw := Tw_of 474 (by decide +kernel) rfl
theorem tw_ml_L_134 : (Jvm.Cond.methodLink "FleetSettingsLaw" (134 : Nat) ({ cls := "FleetSettingsLaw", name := "addGroup", desc := "(LFleetSettings;I[J)I" } : Jvm.MethodName)) ∈ Tw := Tw_of 475 (by decide +kernel) rfl
theorem tw_st_L_addGroup : (Jvm.Cond.static ({ cls := "FleetSettingsLaw", name := "addGroup", desc := "(LFleetSettings;I[J)I" } : Jvm.MethodName)) ∈ Tw := Tw_of 476 (by decide +kernel) rfl
theorem tw_code_L_addGroup : (Jvm.Cond.codeWith ({ cls := "FleetSettingsLaw", name := "addGroup", desc := "(LFleetSettings;I[J)I" } : Jvm.MethodName) method_7_code (4 : Nat) (Option.some Jvm.ClassFile.FieldType.int) [((0 : Nat), (9 : Nat), (12 : Nat), (19 : Nat)), ((0 : Nat), (9 : Nat), (15 : Nat), (21 : Nat))]) ∈ Tw := Tw_of 477 (by decide +kernel) rfl
theorem tw_ml_L_31 : (Jvm.Cond.methodLink "FleetSettingsLaw" (31 : Nat) ({ cls := "FleetSettings", name := "addGroup", desc := "(I)I" } : Jvm.MethodName)) ∈ Tw := Tw_of 478 (by decide +kernel) rfl
theorem tw_im_X5_addGroup : (Jvm.Cond.instanceMethod ({ cls := "FleetSettings", name := "addGroup", desc := "(I)I" } : Jvm.MethodName)) ∈ Tw := Tw_of 479 (by decide +kernel) rfl
theorem tw_sel_X5_addGroup : (Jvm.Cond.selects "FleetSettings" ({ cls := "FleetSettings", name := "addGroup", desc := "(I)I" } : Jvm.MethodName) ({ cls := "FleetSettings", name := "addGroup", desc := "(I)I" } : Jvm.MethodName)) ∈ Tw := Tw_of 480 (by decide +kernel) rfl
theorem tw_code_X5_addGroup : (Jvm.Cond.code ({ cls := "FleetSettings", name := "addGroup", desc := "(I)I" } : Jvm.MethodName) prog_1_method_7_code (3 : Nat) (Option.some Jvm.ClassFile.FieldType.int)) ∈ Tw := Tw_of 481 (by decide +kernel) rfl
theorem tw_ml_X5_122 : (Jvm.Cond.methodLink "FleetSettings" (122 : Nat) ({ cls := "FleetSettings", name := "requireGroup", desc := "(I)V" } : Jvm.MethodName)) ∈ Tw := Tw_of 482 (by decide +kernel) rfl
theorem tw_im_X5_requireGroup : (Jvm.Cond.instanceMethod ({ cls := "FleetSettings", name := "requireGroup", desc := "(I)V" } : Jvm.MethodName)) ∈ Tw := Tw_of 484 (by decide +kernel) rfl
theorem tw_code_X5_requireGroup : (Jvm.Cond.code ({ cls := "FleetSettings", name := "requireGroup", desc := "(I)V" } : Jvm.MethodName) prog_1_method_33_code (2 : Nat) (Option.none : Option Jvm.ClassFile.FieldType)) ∈ Tw := Tw_of 485 (by decide +kernel) rfl
theorem tw_ml_L_137 : (Jvm.Cond.methodLink "FleetSettingsLaw" (137 : Nat) ({ cls := "FleetSettingsLaw", name := "addMachine", desc := "(LFleetSettings;I[J)I" } : Jvm.MethodName)) ∈ Tw := Tw_of 488 (by decide +kernel) rfl
theorem tw_st_L_addMachine : (Jvm.Cond.static ({ cls := "FleetSettingsLaw", name := "addMachine", desc := "(LFleetSettings;I[J)I" } : Jvm.MethodName)) ∈ Tw := Tw_of 489 (by decide +kernel) rfl
theorem tw_code_L_addMachine : (Jvm.Cond.codeWith ({ cls := "FleetSettingsLaw", name := "addMachine", desc := "(LFleetSettings;I[J)I" } : Jvm.MethodName) method_8_code (4 : Nat) (Option.some Jvm.ClassFile.FieldType.int) [((0 : Nat), (9 : Nat), (12 : Nat), (19 : Nat)), ((0 : Nat), (9 : Nat), (15 : Nat), (21 : Nat))]) ∈ Tw := Tw_of 490 (by decide +kernel) rfl
theorem tw_ml_L_34 : (Jvm.Cond.methodLink "FleetSettingsLaw" (34 : Nat) ({ cls := "FleetSettings", name := "addMachine", desc := "(I)I" } : Jvm.MethodName)) ∈ Tw := Tw_of 491 (by decide +kernel) rfl
theorem tw_im_X5_addMachine : (Jvm.Cond.instanceMethod ({ cls := "FleetSettings", name := "addMachine", desc := "(I)I" } : Jvm.MethodName)) ∈ Tw := Tw_of 492 (by decide +kernel) rfl
theorem tw_sel_X5_addMachine : (Jvm.Cond.selects "FleetSettings" ({ cls := "FleetSettings", name := "addMachine", desc := "(I)I" } : Jvm.MethodName) ({ cls := "FleetSettings", name := "addMachine", desc := "(I)I" } : Jvm.MethodName)) ∈ Tw := Tw_of 493 (by decide +kernel) rfl
theorem tw_code_X5_addMachine : (Jvm.Cond.code ({ cls := "FleetSettings", name := "addMachine", desc := "(I)I" } : Jvm.MethodName) prog_1_method_8_code (3 : Nat) (Option.some Jvm.ClassFile.FieldType.int)) ∈ Tw := Tw_of 494 (by decide +kernel) rfl
theorem tw_ml_X5_132 : (Jvm.Cond.methodLink "FleetSettings" (132 : Nat) ({ cls := "FleetSettings$Machine", name := "enterGroup", desc := "(I[I)V" } : Jvm.MethodName)) ∈ Tw := Tw_of 496 (by decide +kernel) rfl
theorem tw_im_X2_enterGroup : (Jvm.Cond.instanceMethod ({ cls := "FleetSettings$Machine", name := "enterGroup", desc := "(I[I)V" } : Jvm.MethodName)) ∈ Tw := Tw_of 497 (by decide +kernel) rfl
theorem tw_sel_X2_enterGroup : (Jvm.Cond.selects "FleetSettings$Machine" ({ cls := "FleetSettings$Machine", name := "enterGroup", desc := "(I[I)V" } : Jvm.MethodName) ({ cls := "FleetSettings$Machine", name := "enterGroup", desc := "(I[I)V" } : Jvm.MethodName)) ∈ Tw := Tw_of 498 (by decide +kernel) rfl
theorem tw_code_X2_enterGroup : (Jvm.Cond.code ({ cls := "FleetSettings$Machine", name := "enterGroup", desc := "(I[I)V" } : Jvm.MethodName) prog_4_method_2_code (4 : Nat) (Option.none : Option Jvm.ClassFile.FieldType)) ∈ Tw := Tw_of 499 (by decide +kernel) rfl
theorem tw_ml_X2_34 : (Jvm.Cond.methodLink "FleetSettings$Machine" (34 : Nat) ({ cls := "FleetSettings$Machine", name := "dropOtherGroups", desc := "()V" } : Jvm.MethodName)) ∈ Tw := Tw_of 500 (by decide +kernel) rfl
theorem tw_im_X2_dropOtherGroups : (Jvm.Cond.instanceMethod ({ cls := "FleetSettings$Machine", name := "dropOtherGroups", desc := "()V" } : Jvm.MethodName)) ∈ Tw := Tw_of 502 (by decide +kernel) rfl
theorem tw_code_X2_dropOtherGroups : (Jvm.Cond.code ({ cls := "FleetSettings$Machine", name := "dropOtherGroups", desc := "()V" } : Jvm.MethodName) prog_4_method_3_code (2 : Nat) (Option.none : Option Jvm.ClassFile.FieldType)) ∈ Tw := Tw_of 503 (by decide +kernel) rfl
theorem tw_ml_X2_37 : (Jvm.Cond.methodLink "FleetSettings$Machine" (37 : Nat) ({ cls := "FleetSettings$Machine", name := "isLayer", desc := "(I)Z" } : Jvm.MethodName)) ∈ Tw := Tw_of 504 (by decide +kernel) rfl
theorem tw_im_X2_isLayer : (Jvm.Cond.instanceMethod ({ cls := "FleetSettings$Machine", name := "isLayer", desc := "(I)Z" } : Jvm.MethodName)) ∈ Tw := Tw_of 506 (by decide +kernel) rfl
theorem tw_code_X2_isLayer : (Jvm.Cond.code ({ cls := "FleetSettings$Machine", name := "isLayer", desc := "(I)Z" } : Jvm.MethodName) prog_4_method_5_code (3 : Nat) (Option.some Jvm.ClassFile.FieldType.boolean)) ∈ Tw := Tw_of 507 (by decide +kernel) rfl
theorem tw_ml_X2_41 : (Jvm.Cond.methodLink "FleetSettings$Machine" (41 : Nat) ({ cls := "FleetSettings$Machine", name := "drop", desc := "(I)V" } : Jvm.MethodName)) ∈ Tw := Tw_of 508 (by decide +kernel) rfl
theorem tw_im_X2_drop : (Jvm.Cond.instanceMethod ({ cls := "FleetSettings$Machine", name := "drop", desc := "(I)V" } : Jvm.MethodName)) ∈ Tw := Tw_of 510 (by decide +kernel) rfl
theorem tw_code_X2_drop : (Jvm.Cond.code ({ cls := "FleetSettings$Machine", name := "drop", desc := "(I)V" } : Jvm.MethodName) prog_4_method_4_code (3 : Nat) (Option.none : Option Jvm.ClassFile.FieldType)) ∈ Tw := Tw_of 511 (by decide +kernel) rfl
theorem tw_ml_L_140 : (Jvm.Cond.methodLink "FleetSettingsLaw" (140 : Nat) ({ cls := "FleetSettingsLaw", name := "moveMachine", desc := "(LFleetSettings;II[J)I" } : Jvm.MethodName)) ∈ Tw := Tw_of 513 (by decide +kernel) rfl
theorem tw_st_L_moveMachine : (Jvm.Cond.static ({ cls := "FleetSettingsLaw", name := "moveMachine", desc := "(LFleetSettings;II[J)I" } : Jvm.MethodName)) ∈ Tw := Tw_of 514 (by decide +kernel) rfl
theorem tw_code_L_moveMachine : (Jvm.Cond.codeWith ({ cls := "FleetSettingsLaw", name := "moveMachine", desc := "(LFleetSettings;II[J)I" } : Jvm.MethodName) method_9_code (5 : Nat) (Option.some Jvm.ClassFile.FieldType.int) [((0 : Nat), (10 : Nat), (13 : Nat), (19 : Nat)), ((0 : Nat), (10 : Nat), (17 : Nat), (21 : Nat))]) ∈ Tw := Tw_of 515 (by decide +kernel) rfl
theorem tw_ml_L_37 : (Jvm.Cond.methodLink "FleetSettingsLaw" (37 : Nat) ({ cls := "FleetSettings", name := "moveMachine", desc := "(II)I" } : Jvm.MethodName)) ∈ Tw := Tw_of 516 (by decide +kernel) rfl
theorem tw_im_X5_moveMachine : (Jvm.Cond.instanceMethod ({ cls := "FleetSettings", name := "moveMachine", desc := "(II)I" } : Jvm.MethodName)) ∈ Tw := Tw_of 517 (by decide +kernel) rfl
theorem tw_sel_X5_moveMachine : (Jvm.Cond.selects "FleetSettings" ({ cls := "FleetSettings", name := "moveMachine", desc := "(II)I" } : Jvm.MethodName) ({ cls := "FleetSettings", name := "moveMachine", desc := "(II)I" } : Jvm.MethodName)) ∈ Tw := Tw_of 518 (by decide +kernel) rfl
theorem tw_code_X5_moveMachine : (Jvm.Cond.code ({ cls := "FleetSettings", name := "moveMachine", desc := "(II)I" } : Jvm.MethodName) prog_1_method_9_code (5 : Nat) (Option.some Jvm.ClassFile.FieldType.int)) ∈ Tw := Tw_of 519 (by decide +kernel) rfl
theorem tw_ml_X5_136 : (Jvm.Cond.methodLink "FleetSettings" (136 : Nat) ({ cls := "FleetSettings", name := "requireMachine", desc := "(I)V" } : Jvm.MethodName)) ∈ Tw := Tw_of 520 (by decide +kernel) rfl
theorem tw_im_X5_requireMachine : (Jvm.Cond.instanceMethod ({ cls := "FleetSettings", name := "requireMachine", desc := "(I)V" } : Jvm.MethodName)) ∈ Tw := Tw_of 522 (by decide +kernel) rfl
theorem tw_code_X5_requireMachine : (Jvm.Cond.code ({ cls := "FleetSettings", name := "requireMachine", desc := "(I)V" } : Jvm.MethodName) prog_1_method_34_code (2 : Nat) (Option.none : Option Jvm.ClassFile.FieldType)) ∈ Tw := Tw_of 523 (by decide +kernel) rfl
theorem tw_ml_L_143 : (Jvm.Cond.methodLink "FleetSettingsLaw" (143 : Nat) ({ cls := "FleetSettingsLaw", name := "work", desc := "(LFleetSettings;II[J)I" } : Jvm.MethodName)) ∈ Tw := Tw_of 526 (by decide +kernel) rfl
theorem tw_st_L_work : (Jvm.Cond.static ({ cls := "FleetSettingsLaw", name := "work", desc := "(LFleetSettings;II[J)I" } : Jvm.MethodName)) ∈ Tw := Tw_of 527 (by decide +kernel) rfl
theorem tw_code_L_work : (Jvm.Cond.codeWith ({ cls := "FleetSettingsLaw", name := "work", desc := "(LFleetSettings;II[J)I" } : Jvm.MethodName) method_10_code (5 : Nat) (Option.some Jvm.ClassFile.FieldType.int) [((0 : Nat), (10 : Nat), (13 : Nat), (19 : Nat)), ((0 : Nat), (10 : Nat), (17 : Nat), (13 : Nat)), ((0 : Nat), (10 : Nat), (21 : Nat), (21 : Nat))]) ∈ Tw := Tw_of 528 (by decide +kernel) rfl
theorem tw_ml_L_40 : (Jvm.Cond.methodLink "FleetSettingsLaw" (40 : Nat) ({ cls := "FleetSettings", name := "work", desc := "(II)I" } : Jvm.MethodName)) ∈ Tw := Tw_of 529 (by decide +kernel) rfl
theorem tw_im_X5_work : (Jvm.Cond.instanceMethod ({ cls := "FleetSettings", name := "work", desc := "(II)I" } : Jvm.MethodName)) ∈ Tw := Tw_of 530 (by decide +kernel) rfl
theorem tw_sel_X5_work : (Jvm.Cond.selects "FleetSettings" ({ cls := "FleetSettings", name := "work", desc := "(II)I" } : Jvm.MethodName) ({ cls := "FleetSettings", name := "work", desc := "(II)I" } : Jvm.MethodName)) ∈ Tw := Tw_of 531 (by decide +kernel) rfl
theorem tw_code_X5_work : (Jvm.Cond.code ({ cls := "FleetSettings", name := "work", desc := "(II)I" } : Jvm.MethodName) prog_1_method_10_code (4 : Nat) (Option.some Jvm.ClassFile.FieldType.int)) ∈ Tw := Tw_of 532 (by decide +kernel) rfl
theorem tw_ml_L_146 : (Jvm.Cond.methodLink "FleetSettingsLaw" (146 : Nat) ({ cls := "FleetSettingsLaw", name := "setPace", desc := "(LFleetSettings;I[J)I" } : Jvm.MethodName)) ∈ Tw := Tw_of 534 (by decide +kernel) rfl
theorem tw_st_L_setPace : (Jvm.Cond.static ({ cls := "FleetSettingsLaw", name := "setPace", desc := "(LFleetSettings;I[J)I" } : Jvm.MethodName)) ∈ Tw := Tw_of 535 (by decide +kernel) rfl
theorem tw_code_L_setPace : (Jvm.Cond.codeWith ({ cls := "FleetSettingsLaw", name := "setPace", desc := "(LFleetSettings;I[J)I" } : Jvm.MethodName) method_11_code (4 : Nat) (Option.some Jvm.ClassFile.FieldType.int) [((0 : Nat), (9 : Nat), (12 : Nat), (13 : Nat))]) ∈ Tw := Tw_of 536 (by decide +kernel) rfl
theorem tw_ml_L_43 : (Jvm.Cond.methodLink "FleetSettingsLaw" (43 : Nat) ({ cls := "FleetSettings", name := "setPace", desc := "(I)I" } : Jvm.MethodName)) ∈ Tw := Tw_of 537 (by decide +kernel) rfl
theorem tw_im_X5_setPace : (Jvm.Cond.instanceMethod ({ cls := "FleetSettings", name := "setPace", desc := "(I)I" } : Jvm.MethodName)) ∈ Tw := Tw_of 538 (by decide +kernel) rfl
theorem tw_sel_X5_setPace : (Jvm.Cond.selects "FleetSettings" ({ cls := "FleetSettings", name := "setPace", desc := "(I)I" } : Jvm.MethodName) ({ cls := "FleetSettings", name := "setPace", desc := "(I)I" } : Jvm.MethodName)) ∈ Tw := Tw_of 539 (by decide +kernel) rfl
theorem tw_code_X5_setPace : (Jvm.Cond.code ({ cls := "FleetSettings", name := "setPace", desc := "(I)I" } : Jvm.MethodName) prog_1_method_11_code (3 : Nat) (Option.some Jvm.ClassFile.FieldType.int)) ∈ Tw := Tw_of 540 (by decide +kernel) rfl
theorem tw_ml_L_149 : (Jvm.Cond.methodLink "FleetSettingsLaw" (149 : Nat) ({ cls := "FleetSettingsLaw", name := "isBusy", desc := "(LFleetSettings;I[J)I" } : Jvm.MethodName)) ∈ Tw := Tw_of 542 (by decide +kernel) rfl
theorem tw_st_L_isBusy : (Jvm.Cond.static ({ cls := "FleetSettingsLaw", name := "isBusy", desc := "(LFleetSettings;I[J)I" } : Jvm.MethodName)) ∈ Tw := Tw_of 543 (by decide +kernel) rfl
theorem tw_code_L_isBusy : (Jvm.Cond.codeWith ({ cls := "FleetSettingsLaw", name := "isBusy", desc := "(LFleetSettings;I[J)I" } : Jvm.MethodName) method_12_code (4 : Nat) (Option.some Jvm.ClassFile.FieldType.int) [((0 : Nat), (16 : Nat), (19 : Nat), (19 : Nat))]) ∈ Tw := Tw_of 544 (by decide +kernel) rfl
theorem tw_ml_L_46 : (Jvm.Cond.methodLink "FleetSettingsLaw" (46 : Nat) ({ cls := "FleetSettings", name := "isBusy", desc := "(I)Z" } : Jvm.MethodName)) ∈ Tw := Tw_of 545 (by decide +kernel) rfl
theorem tw_im_X5_isBusy : (Jvm.Cond.instanceMethod ({ cls := "FleetSettings", name := "isBusy", desc := "(I)Z" } : Jvm.MethodName)) ∈ Tw := Tw_of 546 (by decide +kernel) rfl
theorem tw_sel_X5_isBusy : (Jvm.Cond.selects "FleetSettings" ({ cls := "FleetSettings", name := "isBusy", desc := "(I)Z" } : Jvm.MethodName) ({ cls := "FleetSettings", name := "isBusy", desc := "(I)Z" } : Jvm.MethodName)) ∈ Tw := Tw_of 547 (by decide +kernel) rfl
theorem tw_code_X5_isBusy : (Jvm.Cond.code ({ cls := "FleetSettings", name := "isBusy", desc := "(I)Z" } : Jvm.MethodName) prog_1_method_12_code (2 : Nat) (Option.some Jvm.ClassFile.FieldType.boolean)) ∈ Tw := Tw_of 548 (by decide +kernel) rfl
theorem tw_ml_L_152 : (Jvm.Cond.methodLink "FleetSettingsLaw" (152 : Nat) ({ cls := "FleetSettingsLaw", name := "isStopped", desc := "(LFleetSettings;I[J)I" } : Jvm.MethodName)) ∈ Tw := Tw_of 549 (by decide +kernel) rfl
theorem tw_st_L_isStopped : (Jvm.Cond.static ({ cls := "FleetSettingsLaw", name := "isStopped", desc := "(LFleetSettings;I[J)I" } : Jvm.MethodName)) ∈ Tw := Tw_of 550 (by decide +kernel) rfl
theorem tw_code_L_isStopped : (Jvm.Cond.codeWith ({ cls := "FleetSettingsLaw", name := "isStopped", desc := "(LFleetSettings;I[J)I" } : Jvm.MethodName) method_13_code (4 : Nat) (Option.some Jvm.ClassFile.FieldType.int) [((0 : Nat), (16 : Nat), (19 : Nat), (19 : Nat))]) ∈ Tw := Tw_of 551 (by decide +kernel) rfl
theorem tw_ml_L_50 : (Jvm.Cond.methodLink "FleetSettingsLaw" (50 : Nat) ({ cls := "FleetSettings", name := "isStopped", desc := "(I)Z" } : Jvm.MethodName)) ∈ Tw := Tw_of 552 (by decide +kernel) rfl
theorem tw_im_X5_isStopped : (Jvm.Cond.instanceMethod ({ cls := "FleetSettings", name := "isStopped", desc := "(I)Z" } : Jvm.MethodName)) ∈ Tw := Tw_of 553 (by decide +kernel) rfl
theorem tw_sel_X5_isStopped : (Jvm.Cond.selects "FleetSettings" ({ cls := "FleetSettings", name := "isStopped", desc := "(I)Z" } : Jvm.MethodName) ({ cls := "FleetSettings", name := "isStopped", desc := "(I)Z" } : Jvm.MethodName)) ∈ Tw := Tw_of 554 (by decide +kernel) rfl
theorem tw_code_X5_isStopped : (Jvm.Cond.code ({ cls := "FleetSettings", name := "isStopped", desc := "(I)Z" } : Jvm.MethodName) prog_1_method_13_code (2 : Nat) (Option.some Jvm.ClassFile.FieldType.boolean)) ∈ Tw := Tw_of 555 (by decide +kernel) rfl
theorem tw_ml_L_155 : (Jvm.Cond.methodLink "FleetSettingsLaw" (155 : Nat) ({ cls := "FleetSettingsLaw", name := "propose", desc := "(LFleetSettings;IIII[J)I" } : Jvm.MethodName)) ∈ Tw := Tw_of 556 (by decide +kernel) rfl
theorem tw_st_L_propose : (Jvm.Cond.static ({ cls := "FleetSettingsLaw", name := "propose", desc := "(LFleetSettings;IIII[J)I" } : Jvm.MethodName)) ∈ Tw := Tw_of 557 (by decide +kernel) rfl
theorem tw_code_L_propose : (Jvm.Cond.codeWith ({ cls := "FleetSettingsLaw", name := "propose", desc := "(LFleetSettings;IIII[J)I" } : Jvm.MethodName) method_14_code (7 : Nat) (Option.some Jvm.ClassFile.FieldType.int) [((0 : Nat), (14 : Nat), (17 : Nat), (19 : Nat)), ((0 : Nat), (14 : Nat), (21 : Nat), (13 : Nat)), ((0 : Nat), (14 : Nat), (25 : Nat), (21 : Nat))]) ∈ Tw := Tw_of 558 (by decide +kernel) rfl
theorem tw_ml_L_53 : (Jvm.Cond.methodLink "FleetSettingsLaw" (53 : Nat) ({ cls := "FleetSettings", name := "propose", desc := "(IIII)I" } : Jvm.MethodName)) ∈ Tw := Tw_of 559 (by decide +kernel) rfl
theorem tw_im_X5_propose : (Jvm.Cond.instanceMethod ({ cls := "FleetSettings", name := "propose", desc := "(IIII)I" } : Jvm.MethodName)) ∈ Tw := Tw_of 560 (by decide +kernel) rfl
theorem tw_sel_X5_propose : (Jvm.Cond.selects "FleetSettings" ({ cls := "FleetSettings", name := "propose", desc := "(IIII)I" } : Jvm.MethodName) ({ cls := "FleetSettings", name := "propose", desc := "(IIII)I" } : Jvm.MethodName)) ∈ Tw := Tw_of 561 (by decide +kernel) rfl
theorem tw_code_X5_propose : (Jvm.Cond.code ({ cls := "FleetSettings", name := "propose", desc := "(IIII)I" } : Jvm.MethodName) prog_1_method_14_code (6 : Nat) (Option.some Jvm.ClassFile.FieldType.int)) ∈ Tw := Tw_of 562 (by decide +kernel) rfl
theorem tw_ml_X5_155 : (Jvm.Cond.methodLink "FleetSettings" (155 : Nat) ({ cls := "FleetSettings", name := "requirePlace", desc := "(I)V" } : Jvm.MethodName)) ∈ Tw := Tw_of 563 (by decide +kernel) rfl
theorem tw_im_X5_requirePlace : (Jvm.Cond.instanceMethod ({ cls := "FleetSettings", name := "requirePlace", desc := "(I)V" } : Jvm.MethodName)) ∈ Tw := Tw_of 565 (by decide +kernel) rfl
theorem tw_code_X5_requirePlace : (Jvm.Cond.code ({ cls := "FleetSettings", name := "requirePlace", desc := "(I)V" } : Jvm.MethodName) prog_1_method_35_code (2 : Nat) (Option.none : Option Jvm.ClassFile.FieldType)) ∈ Tw := Tw_of 566 (by decide +kernel) rfl
theorem tw_ml_X5_168 : (Jvm.Cond.methodLink "FleetSettings" (168 : Nat) ({ cls := "FleetSettings", name := "slotOf", desc := "(I)I" } : Jvm.MethodName)) ∈ Tw := Tw_of 567 (by decide +kernel) rfl
theorem tw_im_X5_slotOf : (Jvm.Cond.instanceMethod ({ cls := "FleetSettings", name := "slotOf", desc := "(I)I" } : Jvm.MethodName)) ∈ Tw := Tw_of 569 (by decide +kernel) rfl
theorem tw_code_X5_slotOf : (Jvm.Cond.code ({ cls := "FleetSettings", name := "slotOf", desc := "(I)I" } : Jvm.MethodName) prog_1_method_38_code (2 : Nat) (Option.some Jvm.ClassFile.FieldType.int)) ∈ Tw := Tw_of 570 (by decide +kernel) rfl
theorem tw_ml_X5_158 : (Jvm.Cond.methodLink "FleetSettings" (158 : Nat) ({ cls := "FleetSettings", name := "requireKey", desc := "(I)V" } : Jvm.MethodName)) ∈ Tw := Tw_of 572 (by decide +kernel) rfl
theorem tw_st_X5_requireKey : (Jvm.Cond.static ({ cls := "FleetSettings", name := "requireKey", desc := "(I)V" } : Jvm.MethodName)) ∈ Tw := Tw_of 573 (by decide +kernel) rfl
theorem tw_code_X5_requireKey : (Jvm.Cond.code ({ cls := "FleetSettings", name := "requireKey", desc := "(I)V" } : Jvm.MethodName) prog_1_method_32_code (1 : Nat) (Option.none : Option Jvm.ClassFile.FieldType)) ∈ Tw := Tw_of 574 (by decide +kernel) rfl
theorem tw_ml_X5_175 : (Jvm.Cond.methodLink "FleetSettings" (175 : Nat) ({ cls := "FleetSettings$Change", name := "begin", desc := "(IIII)V" } : Jvm.MethodName)) ∈ Tw := Tw_of 578 (by decide +kernel) rfl
theorem tw_im_X0_begin : (Jvm.Cond.instanceMethod ({ cls := "FleetSettings$Change", name := "begin", desc := "(IIII)V" } : Jvm.MethodName)) ∈ Tw := Tw_of 579 (by decide +kernel) rfl
theorem tw_sel_X0_begin : (Jvm.Cond.selects "FleetSettings$Change" ({ cls := "FleetSettings$Change", name := "begin", desc := "(IIII)V" } : Jvm.MethodName) ({ cls := "FleetSettings$Change", name := "begin", desc := "(IIII)V" } : Jvm.MethodName)) ∈ Tw := Tw_of 580 (by decide +kernel) rfl
theorem tw_code_X0_begin : (Jvm.Cond.code ({ cls := "FleetSettings$Change", name := "begin", desc := "(IIII)V" } : Jvm.MethodName) prog_2_method_2_code (5 : Nat) (Option.none : Option Jvm.ClassFile.FieldType)) ∈ Tw := Tw_of 581 (by decide +kernel) rfl
theorem tw_ml_L_159 : (Jvm.Cond.methodLink "FleetSettingsLaw" (159 : Nat) ({ cls := "FleetSettingsLaw", name := "approve", desc := "(LFleetSettings;II[J)I" } : Jvm.MethodName)) ∈ Tw := Tw_of 582 (by decide +kernel) rfl
theorem tw_st_L_approve : (Jvm.Cond.static ({ cls := "FleetSettingsLaw", name := "approve", desc := "(LFleetSettings;II[J)I" } : Jvm.MethodName)) ∈ Tw := Tw_of 583 (by decide +kernel) rfl
theorem tw_code_L_approve : (Jvm.Cond.codeWith ({ cls := "FleetSettingsLaw", name := "approve", desc := "(LFleetSettings;II[J)I" } : Jvm.MethodName) method_15_code (5 : Nat) (Option.some Jvm.ClassFile.FieldType.int) [((0 : Nat), (10 : Nat), (13 : Nat), (19 : Nat)), ((0 : Nat), (10 : Nat), (17 : Nat), (21 : Nat))]) ∈ Tw := Tw_of 584 (by decide +kernel) rfl
theorem tw_ml_L_57 : (Jvm.Cond.methodLink "FleetSettingsLaw" (57 : Nat) ({ cls := "FleetSettings", name := "approve", desc := "(II)I" } : Jvm.MethodName)) ∈ Tw := Tw_of 585 (by decide +kernel) rfl
theorem tw_im_X5_approve : (Jvm.Cond.instanceMethod ({ cls := "FleetSettings", name := "approve", desc := "(II)I" } : Jvm.MethodName)) ∈ Tw := Tw_of 586 (by decide +kernel) rfl
theorem tw_sel_X5_approve : (Jvm.Cond.selects "FleetSettings" ({ cls := "FleetSettings", name := "approve", desc := "(II)I" } : Jvm.MethodName) ({ cls := "FleetSettings", name := "approve", desc := "(II)I" } : Jvm.MethodName)) ∈ Tw := Tw_of 587 (by decide +kernel) rfl
theorem tw_code_X5_approve : (Jvm.Cond.code ({ cls := "FleetSettings", name := "approve", desc := "(II)I" } : Jvm.MethodName) prog_1_method_15_code (4 : Nat) (Option.some Jvm.ClassFile.FieldType.int)) ∈ Tw := Tw_of 588 (by decide +kernel) rfl
theorem tw_ml_X5_179 : (Jvm.Cond.methodLink "FleetSettings" (179 : Nat) ({ cls := "FleetSettings", name := "requireChange", desc := "(I)V" } : Jvm.MethodName)) ∈ Tw := Tw_of 589 (by decide +kernel) rfl
theorem tw_im_X5_requireChange : (Jvm.Cond.instanceMethod ({ cls := "FleetSettings", name := "requireChange", desc := "(I)V" } : Jvm.MethodName)) ∈ Tw := Tw_of 591 (by decide +kernel) rfl
theorem tw_code_X5_requireChange : (Jvm.Cond.code ({ cls := "FleetSettings", name := "requireChange", desc := "(I)V" } : Jvm.MethodName) prog_1_method_36_code (2 : Nat) (Option.none : Option Jvm.ClassFile.FieldType)) ∈ Tw := Tw_of 592 (by decide +kernel) rfl
theorem tw_ml_X5_182 : (Jvm.Cond.methodLink "FleetSettings" (182 : Nat) ({ cls := "FleetSettings", name := "isOnDuty", desc := "(I)Z" } : Jvm.MethodName)) ∈ Tw := Tw_of 594 (by decide +kernel) rfl
theorem tw_im_X5_isOnDuty : (Jvm.Cond.instanceMethod ({ cls := "FleetSettings", name := "isOnDuty", desc := "(I)Z" } : Jvm.MethodName)) ∈ Tw := Tw_of 596 (by decide +kernel) rfl
theorem tw_code_X5_isOnDuty : (Jvm.Cond.code ({ cls := "FleetSettings", name := "isOnDuty", desc := "(I)Z" } : Jvm.MethodName) prog_1_method_42_code (3 : Nat) (Option.some Jvm.ClassFile.FieldType.boolean)) ∈ Tw := Tw_of 597 (by decide +kernel) rfl
theorem tw_ml_X5_208 : (Jvm.Cond.methodLink "FleetSettings" (208 : Nat) ({ cls := "FleetSettings", name := "contains", desc := "(II)Z" } : Jvm.MethodName)) ∈ Tw := Tw_of 598 (by decide +kernel) rfl
theorem tw_ml_X5_186 : (Jvm.Cond.methodLink "FleetSettings" (186 : Nat) ({ cls := "FleetSettings$Change", name := "canBeApprovedBy", desc := "(I)Z" } : Jvm.MethodName)) ∈ Tw := Tw_of 599 (by decide +kernel) rfl
theorem tw_im_X0_canBeApprovedBy : (Jvm.Cond.instanceMethod ({ cls := "FleetSettings$Change", name := "canBeApprovedBy", desc := "(I)Z" } : Jvm.MethodName)) ∈ Tw := Tw_of 600 (by decide +kernel) rfl
theorem tw_sel_X0_canBeApprovedBy : (Jvm.Cond.selects "FleetSettings$Change" ({ cls := "FleetSettings$Change", name := "canBeApprovedBy", desc := "(I)Z" } : Jvm.MethodName) ({ cls := "FleetSettings$Change", name := "canBeApprovedBy", desc := "(I)Z" } : Jvm.MethodName)) ∈ Tw := Tw_of 601 (by decide +kernel) rfl
theorem tw_code_X0_canBeApprovedBy : (Jvm.Cond.code ({ cls := "FleetSettings$Change", name := "canBeApprovedBy", desc := "(I)Z" } : Jvm.MethodName) prog_2_method_3_code (2 : Nat) (Option.some Jvm.ClassFile.FieldType.boolean)) ∈ Tw := Tw_of 602 (by decide +kernel) rfl
theorem tw_ml_X5_191 : (Jvm.Cond.methodLink "FleetSettings" (191 : Nat) ({ cls := "FleetSettings$Change", name := "addApproval", desc := "(III)V" } : Jvm.MethodName)) ∈ Tw := Tw_of 604 (by decide +kernel) rfl
theorem tw_im_X0_addApproval : (Jvm.Cond.instanceMethod ({ cls := "FleetSettings$Change", name := "addApproval", desc := "(III)V" } : Jvm.MethodName)) ∈ Tw := Tw_of 605 (by decide +kernel) rfl
theorem tw_sel_X0_addApproval : (Jvm.Cond.selects "FleetSettings$Change" ({ cls := "FleetSettings$Change", name := "addApproval", desc := "(III)V" } : Jvm.MethodName) ({ cls := "FleetSettings$Change", name := "addApproval", desc := "(III)V" } : Jvm.MethodName)) ∈ Tw := Tw_of 606 (by decide +kernel) rfl
theorem tw_code_X0_addApproval : (Jvm.Cond.code ({ cls := "FleetSettings$Change", name := "addApproval", desc := "(III)V" } : Jvm.MethodName) prog_2_method_4_code (4 : Nat) (Option.none : Option Jvm.ClassFile.FieldType)) ∈ Tw := Tw_of 607 (by decide +kernel) rfl
theorem tw_ml_X5_198 : (Jvm.Cond.methodLink "FleetSettings" (198 : Nat) ({ cls := "FleetSettings$Change", name := "countGood", desc := "()I" } : Jvm.MethodName)) ∈ Tw := Tw_of 608 (by decide +kernel) rfl
theorem tw_ml_X5_201 : (Jvm.Cond.methodLink "FleetSettings" (201 : Nat) ({ cls := "FleetSettings", name := "hold", desc := "(I)V" } : Jvm.MethodName)) ∈ Tw := Tw_of 609 (by decide +kernel) rfl
theorem tw_im_X5_hold : (Jvm.Cond.instanceMethod ({ cls := "FleetSettings", name := "hold", desc := "(I)V" } : Jvm.MethodName)) ∈ Tw := Tw_of 611 (by decide +kernel) rfl
theorem tw_code_X5_hold : (Jvm.Cond.code ({ cls := "FleetSettings", name := "hold", desc := "(I)V" } : Jvm.MethodName) prog_1_method_43_code (2 : Nat) (Option.none : Option Jvm.ClassFile.FieldType)) ∈ Tw := Tw_of 612 (by decide +kernel) rfl
theorem tw_ml_L_162 : (Jvm.Cond.methodLink "FleetSettingsLaw" (162 : Nat) ({ cls := "FleetSettingsLaw", name := "withdraw", desc := "(LFleetSettings;I)I" } : Jvm.MethodName)) ∈ Tw := Tw_of 613 (by decide +kernel) rfl
theorem tw_st_L_withdraw : (Jvm.Cond.static ({ cls := "FleetSettingsLaw", name := "withdraw", desc := "(LFleetSettings;I)I" } : Jvm.MethodName)) ∈ Tw := Tw_of 614 (by decide +kernel) rfl
theorem tw_code_L_withdraw : (Jvm.Cond.codeWith ({ cls := "FleetSettingsLaw", name := "withdraw", desc := "(LFleetSettings;I)I" } : Jvm.MethodName) method_16_code (3 : Nat) (Option.some Jvm.ClassFile.FieldType.int) [((0 : Nat), (5 : Nat), (8 : Nat), (19 : Nat)), ((0 : Nat), (5 : Nat), (11 : Nat), (21 : Nat))]) ∈ Tw := Tw_of 615 (by decide +kernel) rfl
theorem tw_ml_L_60 : (Jvm.Cond.methodLink "FleetSettingsLaw" (60 : Nat) ({ cls := "FleetSettings", name := "withdraw", desc := "(I)V" } : Jvm.MethodName)) ∈ Tw := Tw_of 616 (by decide +kernel) rfl
theorem tw_im_X5_withdraw : (Jvm.Cond.instanceMethod ({ cls := "FleetSettings", name := "withdraw", desc := "(I)V" } : Jvm.MethodName)) ∈ Tw := Tw_of 617 (by decide +kernel) rfl
theorem tw_sel_X5_withdraw : (Jvm.Cond.selects "FleetSettings" ({ cls := "FleetSettings", name := "withdraw", desc := "(I)V" } : Jvm.MethodName) ({ cls := "FleetSettings", name := "withdraw", desc := "(I)V" } : Jvm.MethodName)) ∈ Tw := Tw_of 618 (by decide +kernel) rfl
theorem tw_code_X5_withdraw : (Jvm.Cond.code ({ cls := "FleetSettings", name := "withdraw", desc := "(I)V" } : Jvm.MethodName) prog_1_method_16_code (3 : Nat) (Option.none : Option Jvm.ClassFile.FieldType)) ∈ Tw := Tw_of 619 (by decide +kernel) rfl
theorem tw_ml_L_165 : (Jvm.Cond.methodLink "FleetSettingsLaw" (165 : Nat) ({ cls := "FleetSettingsLaw", name := "exclude", desc := "(LFleetSettings;IIZ[J)I" } : Jvm.MethodName)) ∈ Tw := Tw_of 621 (by decide +kernel) rfl
theorem tw_st_L_exclude : (Jvm.Cond.static ({ cls := "FleetSettingsLaw", name := "exclude", desc := "(LFleetSettings;IIZ[J)I" } : Jvm.MethodName)) ∈ Tw := Tw_of 622 (by decide +kernel) rfl
theorem tw_code_L_exclude : (Jvm.Cond.codeWith ({ cls := "FleetSettingsLaw", name := "exclude", desc := "(LFleetSettings;IIZ[J)I" } : Jvm.MethodName) method_17_code (6 : Nat) (Option.some Jvm.ClassFile.FieldType.int) [((0 : Nat), (19 : Nat), (22 : Nat), (19 : Nat)), ((0 : Nat), (19 : Nat), (26 : Nat), (13 : Nat))]) ∈ Tw := Tw_of 623 (by decide +kernel) rfl
theorem tw_ml_L_63 : (Jvm.Cond.methodLink "FleetSettingsLaw" (63 : Nat) ({ cls := "FleetSettings", name := "exclude", desc := "(IIZ)Z" } : Jvm.MethodName)) ∈ Tw := Tw_of 624 (by decide +kernel) rfl
theorem tw_im_X5_exclude : (Jvm.Cond.instanceMethod ({ cls := "FleetSettings", name := "exclude", desc := "(IIZ)Z" } : Jvm.MethodName)) ∈ Tw := Tw_of 625 (by decide +kernel) rfl
theorem tw_sel_X5_exclude : (Jvm.Cond.selects "FleetSettings" ({ cls := "FleetSettings", name := "exclude", desc := "(IIZ)Z" } : Jvm.MethodName) ({ cls := "FleetSettings", name := "exclude", desc := "(IIZ)Z" } : Jvm.MethodName)) ∈ Tw := Tw_of 626 (by decide +kernel) rfl
theorem tw_code_X5_exclude : (Jvm.Cond.code ({ cls := "FleetSettings", name := "exclude", desc := "(IIZ)Z" } : Jvm.MethodName) prog_1_method_17_code (5 : Nat) (Option.some Jvm.ClassFile.FieldType.boolean)) ∈ Tw := Tw_of 627 (by decide +kernel) rfl
theorem tw_ml_X5_212 : (Jvm.Cond.methodLink "FleetSettings" (212 : Nat) ({ cls := "FleetSettings", name := "with", desc := "(IIZ)I" } : Jvm.MethodName)) ∈ Tw := Tw_of 629 (by decide +kernel) rfl
theorem tw_ml_L_173 : (Jvm.Cond.methodLink "FleetSettingsLaw" (173 : Nat) ({ cls := "FleetSettingsLaw", name := "state", desc := "(LFleetSettings;I[J)I" } : Jvm.MethodName)) ∈ Tw := Tw_of 630 (by decide +kernel) rfl
theorem tw_st_L_state : (Jvm.Cond.static ({ cls := "FleetSettingsLaw", name := "state", desc := "(LFleetSettings;I[J)I" } : Jvm.MethodName)) ∈ Tw := Tw_of 631 (by decide +kernel) rfl
theorem tw_code_L_state : (Jvm.Cond.codeWith ({ cls := "FleetSettingsLaw", name := "state", desc := "(LFleetSettings;I[J)I" } : Jvm.MethodName) method_18_code (4 : Nat) (Option.some Jvm.ClassFile.FieldType.int) [((0 : Nat), (9 : Nat), (12 : Nat), (19 : Nat))]) ∈ Tw := Tw_of 632 (by decide +kernel) rfl
theorem tw_ml_L_67 : (Jvm.Cond.methodLink "FleetSettingsLaw" (67 : Nat) ({ cls := "FleetSettings", name := "state", desc := "(I)I" } : Jvm.MethodName)) ∈ Tw := Tw_of 633 (by decide +kernel) rfl
theorem tw_im_X5_state : (Jvm.Cond.instanceMethod ({ cls := "FleetSettings", name := "state", desc := "(I)I" } : Jvm.MethodName)) ∈ Tw := Tw_of 634 (by decide +kernel) rfl
theorem tw_sel_X5_state : (Jvm.Cond.selects "FleetSettings" ({ cls := "FleetSettings", name := "state", desc := "(I)I" } : Jvm.MethodName) ({ cls := "FleetSettings", name := "state", desc := "(I)I" } : Jvm.MethodName)) ∈ Tw := Tw_of 635 (by decide +kernel) rfl
theorem tw_code_X5_state : (Jvm.Cond.code ({ cls := "FleetSettings", name := "state", desc := "(I)I" } : Jvm.MethodName) prog_1_method_19_code (2 : Nat) (Option.some Jvm.ClassFile.FieldType.int)) ∈ Tw := Tw_of 636 (by decide +kernel) rfl
theorem tw_ml_L_176 : (Jvm.Cond.methodLink "FleetSettingsLaw" (176 : Nat) ({ cls := "FleetSettingsLaw", name := "rank", desc := "(LFleetSettings;I[J)I" } : Jvm.MethodName)) ∈ Tw := Tw_of 637 (by decide +kernel) rfl
theorem tw_st_L_rank : (Jvm.Cond.static ({ cls := "FleetSettingsLaw", name := "rank", desc := "(LFleetSettings;I[J)I" } : Jvm.MethodName)) ∈ Tw := Tw_of 638 (by decide +kernel) rfl
theorem tw_code_L_rank : (Jvm.Cond.codeWith ({ cls := "FleetSettingsLaw", name := "rank", desc := "(LFleetSettings;I[J)I" } : Jvm.MethodName) method_19_code (4 : Nat) (Option.some Jvm.ClassFile.FieldType.int) [((0 : Nat), (9 : Nat), (12 : Nat), (19 : Nat))]) ∈ Tw := Tw_of 639 (by decide +kernel) rfl
theorem tw_ml_L_70 : (Jvm.Cond.methodLink "FleetSettingsLaw" (70 : Nat) ({ cls := "FleetSettings", name := "rank", desc := "(I)I" } : Jvm.MethodName)) ∈ Tw := Tw_of 640 (by decide +kernel) rfl
theorem tw_im_X5_rank : (Jvm.Cond.instanceMethod ({ cls := "FleetSettings", name := "rank", desc := "(I)I" } : Jvm.MethodName)) ∈ Tw := Tw_of 641 (by decide +kernel) rfl
theorem tw_sel_X5_rank : (Jvm.Cond.selects "FleetSettings" ({ cls := "FleetSettings", name := "rank", desc := "(I)I" } : Jvm.MethodName) ({ cls := "FleetSettings", name := "rank", desc := "(I)I" } : Jvm.MethodName)) ∈ Tw := Tw_of 642 (by decide +kernel) rfl
theorem tw_code_X5_rank : (Jvm.Cond.code ({ cls := "FleetSettings", name := "rank", desc := "(I)I" } : Jvm.MethodName) prog_1_method_20_code (2 : Nat) (Option.some Jvm.ClassFile.FieldType.int)) ∈ Tw := Tw_of 643 (by decide +kernel) rfl
theorem tw_ml_L_179 : (Jvm.Cond.methodLink "FleetSettingsLaw" (179 : Nat) ({ cls := "FleetSettingsLaw", name := "approvals", desc := "(LFleetSettings;I[J)I" } : Jvm.MethodName)) ∈ Tw := Tw_of 644 (by decide +kernel) rfl
theorem tw_st_L_approvals : (Jvm.Cond.static ({ cls := "FleetSettingsLaw", name := "approvals", desc := "(LFleetSettings;I[J)I" } : Jvm.MethodName)) ∈ Tw := Tw_of 645 (by decide +kernel) rfl
theorem tw_code_L_approvals : (Jvm.Cond.codeWith ({ cls := "FleetSettingsLaw", name := "approvals", desc := "(LFleetSettings;I[J)I" } : Jvm.MethodName) method_20_code (4 : Nat) (Option.some Jvm.ClassFile.FieldType.int) [((0 : Nat), (9 : Nat), (12 : Nat), (19 : Nat))]) ∈ Tw := Tw_of 646 (by decide +kernel) rfl
theorem tw_ml_L_73 : (Jvm.Cond.methodLink "FleetSettingsLaw" (73 : Nat) ({ cls := "FleetSettings", name := "approvals", desc := "(I)I" } : Jvm.MethodName)) ∈ Tw := Tw_of 647 (by decide +kernel) rfl
theorem tw_im_X5_approvals : (Jvm.Cond.instanceMethod ({ cls := "FleetSettings", name := "approvals", desc := "(I)I" } : Jvm.MethodName)) ∈ Tw := Tw_of 648 (by decide +kernel) rfl
theorem tw_sel_X5_approvals : (Jvm.Cond.selects "FleetSettings" ({ cls := "FleetSettings", name := "approvals", desc := "(I)I" } : Jvm.MethodName) ({ cls := "FleetSettings", name := "approvals", desc := "(I)I" } : Jvm.MethodName)) ∈ Tw := Tw_of 649 (by decide +kernel) rfl
theorem tw_code_X5_approvals : (Jvm.Cond.code ({ cls := "FleetSettings", name := "approvals", desc := "(I)I" } : Jvm.MethodName) prog_1_method_21_code (2 : Nat) (Option.some Jvm.ClassFile.FieldType.int)) ∈ Tw := Tw_of 650 (by decide +kernel) rfl
theorem tw_ml_L_182 : (Jvm.Cond.methodLink "FleetSettingsLaw" (182 : Nat) ({ cls := "FleetSettingsLaw", name := "told", desc := "(LFleetSettings;II[J)I" } : Jvm.MethodName)) ∈ Tw := Tw_of 651 (by decide +kernel) rfl
theorem tw_st_L_told : (Jvm.Cond.static ({ cls := "FleetSettingsLaw", name := "told", desc := "(LFleetSettings;II[J)I" } : Jvm.MethodName)) ∈ Tw := Tw_of 652 (by decide +kernel) rfl
theorem tw_code_L_told : (Jvm.Cond.codeWith ({ cls := "FleetSettingsLaw", name := "told", desc := "(LFleetSettings;II[J)I" } : Jvm.MethodName) method_21_code (5 : Nat) (Option.some Jvm.ClassFile.FieldType.int) [((0 : Nat), (10 : Nat), (13 : Nat), (19 : Nat))]) ∈ Tw := Tw_of 653 (by decide +kernel) rfl
theorem tw_ml_L_76 : (Jvm.Cond.methodLink "FleetSettingsLaw" (76 : Nat) ({ cls := "FleetSettings", name := "told", desc := "(II)I" } : Jvm.MethodName)) ∈ Tw := Tw_of 654 (by decide +kernel) rfl
theorem tw_im_X5_told : (Jvm.Cond.instanceMethod ({ cls := "FleetSettings", name := "told", desc := "(II)I" } : Jvm.MethodName)) ∈ Tw := Tw_of 655 (by decide +kernel) rfl
theorem tw_sel_X5_told : (Jvm.Cond.selects "FleetSettings" ({ cls := "FleetSettings", name := "told", desc := "(II)I" } : Jvm.MethodName) ({ cls := "FleetSettings", name := "told", desc := "(II)I" } : Jvm.MethodName)) ∈ Tw := Tw_of 656 (by decide +kernel) rfl
theorem tw_code_X5_told : (Jvm.Cond.code ({ cls := "FleetSettings", name := "told", desc := "(II)I" } : Jvm.MethodName) prog_1_method_22_code (4 : Nat) (Option.some Jvm.ClassFile.FieldType.int)) ∈ Tw := Tw_of 657 (by decide +kernel) rfl
theorem tw_ml_X5_222 : (Jvm.Cond.methodLink "FleetSettings" (222 : Nat) ({ cls := "FleetSettings", name := "whatIsToldBy", desc := "(I)I" } : Jvm.MethodName)) ∈ Tw := Tw_of 658 (by decide +kernel) rfl
theorem tw_im_X5_whatIsToldBy : (Jvm.Cond.instanceMethod ({ cls := "FleetSettings", name := "whatIsToldBy", desc := "(I)I" } : Jvm.MethodName)) ∈ Tw := Tw_of 660 (by decide +kernel) rfl
theorem tw_code_X5_whatIsToldBy : (Jvm.Cond.code ({ cls := "FleetSettings", name := "whatIsToldBy", desc := "(I)I" } : Jvm.MethodName) prog_1_method_58_code (2 : Nat) (Option.some Jvm.ClassFile.FieldType.int)) ∈ Tw := Tw_of 661 (by decide +kernel) rfl
theorem tw_ml_L_185 : (Jvm.Cond.methodLink "FleetSettingsLaw" (185 : Nat) ({ cls := "FleetSettingsLaw", name := "taken", desc := "(LFleetSettings;III[J)I" } : Jvm.MethodName)) ∈ Tw := Tw_of 662 (by decide +kernel) rfl
theorem tw_st_L_taken : (Jvm.Cond.static ({ cls := "FleetSettingsLaw", name := "taken", desc := "(LFleetSettings;III[J)I" } : Jvm.MethodName)) ∈ Tw := Tw_of 663 (by decide +kernel) rfl
theorem tw_code_L_taken : (Jvm.Cond.codeWith ({ cls := "FleetSettingsLaw", name := "taken", desc := "(LFleetSettings;III[J)I" } : Jvm.MethodName) method_22_code (6 : Nat) (Option.some Jvm.ClassFile.FieldType.int) [((0 : Nat), (12 : Nat), (15 : Nat), (19 : Nat))]) ∈ Tw := Tw_of 664 (by decide +kernel) rfl
theorem tw_ml_L_79 : (Jvm.Cond.methodLink "FleetSettingsLaw" (79 : Nat) ({ cls := "FleetSettings", name := "taken", desc := "(III)I" } : Jvm.MethodName)) ∈ Tw := Tw_of 665 (by decide +kernel) rfl
theorem tw_im_X5_taken : (Jvm.Cond.instanceMethod ({ cls := "FleetSettings", name := "taken", desc := "(III)I" } : Jvm.MethodName)) ∈ Tw := Tw_of 666 (by decide +kernel) rfl
theorem tw_sel_X5_taken : (Jvm.Cond.selects "FleetSettings" ({ cls := "FleetSettings", name := "taken", desc := "(III)I" } : Jvm.MethodName) ({ cls := "FleetSettings", name := "taken", desc := "(III)I" } : Jvm.MethodName)) ∈ Tw := Tw_of 667 (by decide +kernel) rfl
theorem tw_code_X5_taken : (Jvm.Cond.code ({ cls := "FleetSettings", name := "taken", desc := "(III)I" } : Jvm.MethodName) prog_1_method_23_code (5 : Nat) (Option.some Jvm.ClassFile.FieldType.int)) ∈ Tw := Tw_of 668 (by decide +kernel) rfl
theorem tw_ml_L_189 : (Jvm.Cond.methodLink "FleetSettingsLaw" (189 : Nat) ({ cls := "FleetSettingsLaw", name := "runs", desc := "(LFleetSettings;II[J)I" } : Jvm.MethodName)) ∈ Tw := Tw_of 670 (by decide +kernel) rfl
theorem tw_st_L_runs : (Jvm.Cond.static ({ cls := "FleetSettingsLaw", name := "runs", desc := "(LFleetSettings;II[J)I" } : Jvm.MethodName)) ∈ Tw := Tw_of 671 (by decide +kernel) rfl
theorem tw_code_L_runs : (Jvm.Cond.codeWith ({ cls := "FleetSettingsLaw", name := "runs", desc := "(LFleetSettings;II[J)I" } : Jvm.MethodName) method_23_code (5 : Nat) (Option.some Jvm.ClassFile.FieldType.int) [((0 : Nat), (10 : Nat), (13 : Nat), (19 : Nat))]) ∈ Tw := Tw_of 672 (by decide +kernel) rfl
theorem tw_ml_L_83 : (Jvm.Cond.methodLink "FleetSettingsLaw" (83 : Nat) ({ cls := "FleetSettings", name := "runs", desc := "(II)I" } : Jvm.MethodName)) ∈ Tw := Tw_of 673 (by decide +kernel) rfl
theorem tw_im_X5_runs : (Jvm.Cond.instanceMethod ({ cls := "FleetSettings", name := "runs", desc := "(II)I" } : Jvm.MethodName)) ∈ Tw := Tw_of 674 (by decide +kernel) rfl
theorem tw_sel_X5_runs : (Jvm.Cond.selects "FleetSettings" ({ cls := "FleetSettings", name := "runs", desc := "(II)I" } : Jvm.MethodName) ({ cls := "FleetSettings", name := "runs", desc := "(II)I" } : Jvm.MethodName)) ∈ Tw := Tw_of 675 (by decide +kernel) rfl
theorem tw_code_X5_runs : (Jvm.Cond.code ({ cls := "FleetSettings", name := "runs", desc := "(II)I" } : Jvm.MethodName) prog_1_method_24_code (3 : Nat) (Option.some Jvm.ClassFile.FieldType.int)) ∈ Tw := Tw_of 676 (by decide +kernel) rfl
theorem tw_ml_X5_239 : (Jvm.Cond.methodLink "FleetSettings" (239 : Nat) ({ cls := "FleetSettings", name := "findRunning", desc := "(LFleetSettings$Machine;)V" } : Jvm.MethodName)) ∈ Tw := Tw_of 677 (by decide +kernel) rfl
theorem tw_im_X5_findRunning : (Jvm.Cond.instanceMethod ({ cls := "FleetSettings", name := "findRunning", desc := "(LFleetSettings$Machine;)V" } : Jvm.MethodName)) ∈ Tw := Tw_of 679 (by decide +kernel) rfl
theorem tw_code_X5_findRunning : (Jvm.Cond.code ({ cls := "FleetSettings", name := "findRunning", desc := "(LFleetSettings$Machine;)V" } : Jvm.MethodName) prog_1_method_55_code (2 : Nat) (Option.none : Option Jvm.ClassFile.FieldType)) ∈ Tw := Tw_of 680 (by decide +kernel) rfl
theorem tw_ml_X5_319 : (Jvm.Cond.methodLink "FleetSettings" (319 : Nat) ({ cls := "FleetSettings$Outcome", name := "forget", desc := "()V" } : Jvm.MethodName)) ∈ Tw := Tw_of 681 (by decide +kernel) rfl
theorem tw_im_X3_forget : (Jvm.Cond.instanceMethod ({ cls := "FleetSettings$Outcome", name := "forget", desc := "()V" } : Jvm.MethodName)) ∈ Tw := Tw_of 682 (by decide +kernel) rfl
theorem tw_sel_X3_forget : (Jvm.Cond.selects "FleetSettings$Outcome" ({ cls := "FleetSettings$Outcome", name := "forget", desc := "()V" } : Jvm.MethodName) ({ cls := "FleetSettings$Outcome", name := "forget", desc := "()V" } : Jvm.MethodName)) ∈ Tw := Tw_of 683 (by decide +kernel) rfl
theorem tw_code_X3_forget : (Jvm.Cond.code ({ cls := "FleetSettings$Outcome", name := "forget", desc := "()V" } : Jvm.MethodName) prog_5_method_2_code (1 : Nat) (Option.none : Option Jvm.ClassFile.FieldType)) ∈ Tw := Tw_of 684 (by decide +kernel) rfl
theorem tw_ml_X3_21 : (Jvm.Cond.methodLink "FleetSettings$Outcome" (21 : Nat) ({ cls := "java/util/Arrays", name := "fill", desc := "([II)V" } : Jvm.MethodName)) ∈ Tw := Tw_of 685 (by decide +kernel) rfl
theorem tw_ml_X5_249 : (Jvm.Cond.methodLink "FleetSettings" (249 : Nat) ({ cls := "FleetSettings", name := "findOutcome", desc := "(LFleetSettings$Machine;[I[I)V" } : Jvm.MethodName)) ∈ Tw := Tw_of 686 (by decide +kernel) rfl
theorem tw_im_X5_findOutcome : (Jvm.Cond.instanceMethod ({ cls := "FleetSettings", name := "findOutcome", desc := "(LFleetSettings$Machine;[I[I)V" } : Jvm.MethodName)) ∈ Tw := Tw_of 688 (by decide +kernel) rfl
theorem tw_code_X5_findOutcome : (Jvm.Cond.code ({ cls := "FleetSettings", name := "findOutcome", desc := "(LFleetSettings$Machine;[I[I)V" } : Jvm.MethodName) prog_1_method_56_code (5 : Nat) (Option.none : Option Jvm.ClassFile.FieldType)) ∈ Tw := Tw_of 689 (by decide +kernel) rfl
theorem tw_ml_X5_322 : (Jvm.Cond.methodLink "FleetSettings" (322 : Nat) ({ cls := "FleetSettings", name := "decide", desc := "(LFleetSettings$Machine;[I[II)V" } : Jvm.MethodName)) ∈ Tw := Tw_of 690 (by decide +kernel) rfl
theorem tw_im_X5_decide : (Jvm.Cond.instanceMethod ({ cls := "FleetSettings", name := "decide", desc := "(LFleetSettings$Machine;[I[II)V" } : Jvm.MethodName)) ∈ Tw := Tw_of 692 (by decide +kernel) rfl
theorem tw_code_X5_decide : (Jvm.Cond.code ({ cls := "FleetSettings", name := "decide", desc := "(LFleetSettings$Machine;[I[II)V" } : Jvm.MethodName) prog_1_method_57_code (8 : Nat) (Option.none : Option Jvm.ClassFile.FieldType)) ∈ Tw := Tw_of 693 (by decide +kernel) rfl
theorem tw_ml_X5_330 : (Jvm.Cond.methodLink "FleetSettings" (330 : Nat) ({ cls := "FleetSettings$Outcome", name := "set", desc := "(IIII)V" } : Jvm.MethodName)) ∈ Tw := Tw_of 694 (by decide +kernel) rfl
theorem tw_im_X3_set : (Jvm.Cond.instanceMethod ({ cls := "FleetSettings$Outcome", name := "set", desc := "(IIII)V" } : Jvm.MethodName)) ∈ Tw := Tw_of 695 (by decide +kernel) rfl
theorem tw_sel_X3_set : (Jvm.Cond.selects "FleetSettings$Outcome" ({ cls := "FleetSettings$Outcome", name := "set", desc := "(IIII)V" } : Jvm.MethodName) ({ cls := "FleetSettings$Outcome", name := "set", desc := "(IIII)V" } : Jvm.MethodName)) ∈ Tw := Tw_of 696 (by decide +kernel) rfl
theorem tw_code_X3_set : (Jvm.Cond.code ({ cls := "FleetSettings$Outcome", name := "set", desc := "(IIII)V" } : Jvm.MethodName) prog_5_method_3_code (5 : Nat) (Option.none : Option Jvm.ClassFile.FieldType)) ∈ Tw := Tw_of 697 (by decide +kernel) rfl
theorem tw_ml_X5_326 : (Jvm.Cond.methodLink "FleetSettings" (326 : Nat) ({ cls := "FleetSettings$Outcome", name := "hideExcluded", desc := "([I)V" } : Jvm.MethodName)) ∈ Tw := Tw_of 698 (by decide +kernel) rfl
theorem tw_im_X3_hideExcluded : (Jvm.Cond.instanceMethod ({ cls := "FleetSettings$Outcome", name := "hideExcluded", desc := "([I)V" } : Jvm.MethodName)) ∈ Tw := Tw_of 699 (by decide +kernel) rfl
theorem tw_sel_X3_hideExcluded : (Jvm.Cond.selects "FleetSettings$Outcome" ({ cls := "FleetSettings$Outcome", name := "hideExcluded", desc := "([I)V" } : Jvm.MethodName) ({ cls := "FleetSettings$Outcome", name := "hideExcluded", desc := "([I)V" } : Jvm.MethodName)) ∈ Tw := Tw_of 700 (by decide +kernel) rfl
theorem tw_code_X3_hideExcluded : (Jvm.Cond.code ({ cls := "FleetSettings$Outcome", name := "hideExcluded", desc := "([I)V" } : Jvm.MethodName) prog_5_method_4_code (4 : Nat) (Option.none : Option Jvm.ClassFile.FieldType)) ∈ Tw := Tw_of 701 (by decide +kernel) rfl
theorem tw_ml_X3_35 : (Jvm.Cond.methodLink "FleetSettings$Outcome" (35 : Nat) ({ cls := "FleetSettings$Outcome", name := "yields", desc := "(II)Z" } : Jvm.MethodName)) ∈ Tw := Tw_of 703 (by decide +kernel) rfl
theorem tw_im_X3_yields : (Jvm.Cond.instanceMethod ({ cls := "FleetSettings$Outcome", name := "yields", desc := "(II)Z" } : Jvm.MethodName)) ∈ Tw := Tw_of 705 (by decide +kernel) rfl
theorem tw_code_X3_yields : (Jvm.Cond.code ({ cls := "FleetSettings$Outcome", name := "yields", desc := "(II)Z" } : Jvm.MethodName) prog_5_method_5_code (3 : Nat) (Option.some Jvm.ClassFile.FieldType.boolean)) ∈ Tw := Tw_of 706 (by decide +kernel) rfl
theorem tw_ml_X5_243 : (Jvm.Cond.methodLink "FleetSettings" (243 : Nat) ({ cls := "FleetSettings$Outcome", name := "valueIfShown", desc := "(I)I" } : Jvm.MethodName)) ∈ Tw := Tw_of 708 (by decide +kernel) rfl
theorem tw_im_X3_valueIfShown : (Jvm.Cond.instanceMethod ({ cls := "FleetSettings$Outcome", name := "valueIfShown", desc := "(I)I" } : Jvm.MethodName)) ∈ Tw := Tw_of 709 (by decide +kernel) rfl
theorem tw_sel_X3_valueIfShown : (Jvm.Cond.selects "FleetSettings$Outcome" ({ cls := "FleetSettings$Outcome", name := "valueIfShown", desc := "(I)I" } : Jvm.MethodName) ({ cls := "FleetSettings$Outcome", name := "valueIfShown", desc := "(I)I" } : Jvm.MethodName)) ∈ Tw := Tw_of 710 (by decide +kernel) rfl
theorem tw_code_X3_valueIfShown : (Jvm.Cond.code ({ cls := "FleetSettings$Outcome", name := "valueIfShown", desc := "(I)I" } : Jvm.MethodName) prog_5_method_6_code (2 : Nat) (Option.some Jvm.ClassFile.FieldType.int)) ∈ Tw := Tw_of 711 (by decide +kernel) rfl
theorem tw_ml_L_192 : (Jvm.Cond.methodLink "FleetSettingsLaw" (192 : Nat) ({ cls := "FleetSettingsLaw", name := "layerOf", desc := "(LFleetSettings;II[J)I" } : Jvm.MethodName)) ∈ Tw := Tw_of 712 (by decide +kernel) rfl
theorem tw_st_L_layerOf : (Jvm.Cond.static ({ cls := "FleetSettingsLaw", name := "layerOf", desc := "(LFleetSettings;II[J)I" } : Jvm.MethodName)) ∈ Tw := Tw_of 713 (by decide +kernel) rfl
theorem tw_code_L_layerOf : (Jvm.Cond.codeWith ({ cls := "FleetSettingsLaw", name := "layerOf", desc := "(LFleetSettings;II[J)I" } : Jvm.MethodName) method_24_code (5 : Nat) (Option.some Jvm.ClassFile.FieldType.int) [((0 : Nat), (10 : Nat), (13 : Nat), (19 : Nat))]) ∈ Tw := Tw_of 714 (by decide +kernel) rfl
theorem tw_ml_L_86 : (Jvm.Cond.methodLink "FleetSettingsLaw" (86 : Nat) ({ cls := "FleetSettings", name := "layerOf", desc := "(II)I" } : Jvm.MethodName)) ∈ Tw := Tw_of 715 (by decide +kernel) rfl
theorem tw_im_X5_layerOf : (Jvm.Cond.instanceMethod ({ cls := "FleetSettings", name := "layerOf", desc := "(II)I" } : Jvm.MethodName)) ∈ Tw := Tw_of 716 (by decide +kernel) rfl
theorem tw_sel_X5_layerOf : (Jvm.Cond.selects "FleetSettings" ({ cls := "FleetSettings", name := "layerOf", desc := "(II)I" } : Jvm.MethodName) ({ cls := "FleetSettings", name := "layerOf", desc := "(II)I" } : Jvm.MethodName)) ∈ Tw := Tw_of 717 (by decide +kernel) rfl
theorem tw_code_X5_layerOf : (Jvm.Cond.code ({ cls := "FleetSettings", name := "layerOf", desc := "(II)I" } : Jvm.MethodName) prog_1_method_25_code (3 : Nat) (Option.some Jvm.ClassFile.FieldType.int)) ∈ Tw := Tw_of 718 (by decide +kernel) rfl
theorem tw_ml_X5_246 : (Jvm.Cond.methodLink "FleetSettings" (246 : Nat) ({ cls := "FleetSettings$Outcome", name := "layerIfShown", desc := "(I)I" } : Jvm.MethodName)) ∈ Tw := Tw_of 719 (by decide +kernel) rfl
theorem tw_im_X3_layerIfShown : (Jvm.Cond.instanceMethod ({ cls := "FleetSettings$Outcome", name := "layerIfShown", desc := "(I)I" } : Jvm.MethodName)) ∈ Tw := Tw_of 720 (by decide +kernel) rfl
theorem tw_sel_X3_layerIfShown : (Jvm.Cond.selects "FleetSettings$Outcome" ({ cls := "FleetSettings$Outcome", name := "layerIfShown", desc := "(I)I" } : Jvm.MethodName) ({ cls := "FleetSettings$Outcome", name := "layerIfShown", desc := "(I)I" } : Jvm.MethodName)) ∈ Tw := Tw_of 721 (by decide +kernel) rfl
theorem tw_code_X3_layerIfShown : (Jvm.Cond.code ({ cls := "FleetSettings$Outcome", name := "layerIfShown", desc := "(I)I" } : Jvm.MethodName) prog_5_method_7_code (2 : Nat) (Option.some Jvm.ClassFile.FieldType.int)) ∈ Tw := Tw_of 722 (by decide +kernel) rfl
theorem tw_ml_X3_42 : (Jvm.Cond.methodLink "FleetSettings$Outcome" (42 : Nat) ({ cls := "FleetSettings$Outcome", name := "valueIfShown", desc := "(I)I" } : Jvm.MethodName)) ∈ Tw := Tw_of 723 (by decide +kernel) rfl
theorem tw_ml_L_195 : (Jvm.Cond.methodLink "FleetSettingsLaw" (195 : Nat) ({ cls := "FleetSettingsLaw", name := "due", desc := "(LFleetSettings;II[J)I" } : Jvm.MethodName)) ∈ Tw := Tw_of 724 (by decide +kernel) rfl
theorem tw_st_L_due : (Jvm.Cond.static ({ cls := "FleetSettingsLaw", name := "due", desc := "(LFleetSettings;II[J)I" } : Jvm.MethodName)) ∈ Tw := Tw_of 725 (by decide +kernel) rfl
theorem tw_code_L_due : (Jvm.Cond.codeWith ({ cls := "FleetSettingsLaw", name := "due", desc := "(LFleetSettings;II[J)I" } : Jvm.MethodName) method_25_code (5 : Nat) (Option.some Jvm.ClassFile.FieldType.int) [((0 : Nat), (10 : Nat), (13 : Nat), (19 : Nat))]) ∈ Tw := Tw_of 726 (by decide +kernel) rfl
theorem tw_ml_L_89 : (Jvm.Cond.methodLink "FleetSettingsLaw" (89 : Nat) ({ cls := "FleetSettings", name := "due", desc := "(II)I" } : Jvm.MethodName)) ∈ Tw := Tw_of 727 (by decide +kernel) rfl
theorem tw_im_X5_due : (Jvm.Cond.instanceMethod ({ cls := "FleetSettings", name := "due", desc := "(II)I" } : Jvm.MethodName)) ∈ Tw := Tw_of 728 (by decide +kernel) rfl
theorem tw_sel_X5_due : (Jvm.Cond.selects "FleetSettings" ({ cls := "FleetSettings", name := "due", desc := "(II)I" } : Jvm.MethodName) ({ cls := "FleetSettings", name := "due", desc := "(II)I" } : Jvm.MethodName)) ∈ Tw := Tw_of 729 (by decide +kernel) rfl
theorem tw_code_X5_due : (Jvm.Cond.code ({ cls := "FleetSettings", name := "due", desc := "(II)I" } : Jvm.MethodName) prog_1_method_26_code (3 : Nat) (Option.some Jvm.ClassFile.FieldType.int)) ∈ Tw := Tw_of 730 (by decide +kernel) rfl
theorem tw_ml_L_198 : (Jvm.Cond.methodLink "FleetSettingsLaw" (198 : Nat) ({ cls := "FleetSettingsLaw", name := "dueAnew", desc := "(LFleetSettings;II[J)I" } : Jvm.MethodName)) ∈ Tw := Tw_of 731 (by decide +kernel) rfl
theorem tw_st_L_dueAnew : (Jvm.Cond.static ({ cls := "FleetSettingsLaw", name := "dueAnew", desc := "(LFleetSettings;II[J)I" } : Jvm.MethodName)) ∈ Tw := Tw_of 732 (by decide +kernel) rfl
theorem tw_code_L_dueAnew : (Jvm.Cond.codeWith ({ cls := "FleetSettingsLaw", name := "dueAnew", desc := "(LFleetSettings;II[J)I" } : Jvm.MethodName) method_26_code (5 : Nat) (Option.some Jvm.ClassFile.FieldType.int) [((0 : Nat), (10 : Nat), (13 : Nat), (19 : Nat))]) ∈ Tw := Tw_of 733 (by decide +kernel) rfl
theorem tw_ml_L_92 : (Jvm.Cond.methodLink "FleetSettingsLaw" (92 : Nat) ({ cls := "FleetSettings", name := "dueAnew", desc := "(II)I" } : Jvm.MethodName)) ∈ Tw := Tw_of 734 (by decide +kernel) rfl
theorem tw_im_X5_dueAnew : (Jvm.Cond.instanceMethod ({ cls := "FleetSettings", name := "dueAnew", desc := "(II)I" } : Jvm.MethodName)) ∈ Tw := Tw_of 735 (by decide +kernel) rfl
theorem tw_sel_X5_dueAnew : (Jvm.Cond.selects "FleetSettings" ({ cls := "FleetSettings", name := "dueAnew", desc := "(II)I" } : Jvm.MethodName) ({ cls := "FleetSettings", name := "dueAnew", desc := "(II)I" } : Jvm.MethodName)) ∈ Tw := Tw_of 736 (by decide +kernel) rfl
theorem tw_code_X5_dueAnew : (Jvm.Cond.code ({ cls := "FleetSettings", name := "dueAnew", desc := "(II)I" } : Jvm.MethodName) prog_1_method_27_code (3 : Nat) (Option.some Jvm.ClassFile.FieldType.int)) ∈ Tw := Tw_of 737 (by decide +kernel) rfl
theorem tw_ml_X5_253 : (Jvm.Cond.methodLink "FleetSettings" (253 : Nat) ({ cls := "FleetSettings", name := "findHeadsAnew", desc := "()V" } : Jvm.MethodName)) ∈ Tw := Tw_of 738 (by decide +kernel) rfl
theorem tw_im_X5_findHeadsAnew : (Jvm.Cond.instanceMethod ({ cls := "FleetSettings", name := "findHeadsAnew", desc := "()V" } : Jvm.MethodName)) ∈ Tw := Tw_of 740 (by decide +kernel) rfl
theorem tw_code_X5_findHeadsAnew : (Jvm.Cond.code ({ cls := "FleetSettings", name := "findHeadsAnew", desc := "()V" } : Jvm.MethodName) prog_1_method_46_code (2 : Nat) (Option.none : Option Jvm.ClassFile.FieldType)) ∈ Tw := Tw_of 741 (by decide +kernel) rfl
theorem tw_ml_X5_297 : (Jvm.Cond.methodLink "FleetSettings" (297 : Nat) ({ cls := "FleetSettings$Change", name := "firstHeldMoment", desc := "([LFleetSettings$Person;)I" } : Jvm.MethodName)) ∈ Tw := Tw_of 742 (by decide +kernel) rfl
theorem tw_im_X0_firstHeldMoment : (Jvm.Cond.instanceMethod ({ cls := "FleetSettings$Change", name := "firstHeldMoment", desc := "([LFleetSettings$Person;)I" } : Jvm.MethodName)) ∈ Tw := Tw_of 743 (by decide +kernel) rfl
theorem tw_sel_X0_firstHeldMoment : (Jvm.Cond.selects "FleetSettings$Change" ({ cls := "FleetSettings$Change", name := "firstHeldMoment", desc := "([LFleetSettings$Person;)I" } : Jvm.MethodName) ({ cls := "FleetSettings$Change", name := "firstHeldMoment", desc := "([LFleetSettings$Person;)I" } : Jvm.MethodName)) ∈ Tw := Tw_of 744 (by decide +kernel) rfl
theorem tw_code_X0_firstHeldMoment : (Jvm.Cond.code ({ cls := "FleetSettings$Change", name := "firstHeldMoment", desc := "([LFleetSettings$Person;)I" } : Jvm.MethodName) prog_2_method_8_code (6 : Nat) (Option.some Jvm.ClassFile.FieldType.int)) ∈ Tw := Tw_of 745 (by decide +kernel) rfl
theorem tw_ml_X0_67 : (Jvm.Cond.methodLink "FleetSettings$Change" (67 : Nat) ({ cls := "FleetSettings$Change", name := "countGoodAt", desc := "(I[LFleetSettings$Person;)I" } : Jvm.MethodName)) ∈ Tw := Tw_of 746 (by decide +kernel) rfl
theorem tw_im_X0_countGoodAt : (Jvm.Cond.instanceMethod ({ cls := "FleetSettings$Change", name := "countGoodAt", desc := "(I[LFleetSettings$Person;)I" } : Jvm.MethodName)) ∈ Tw := Tw_of 748 (by decide +kernel) rfl
theorem tw_code_X0_countGoodAt : (Jvm.Cond.code ({ cls := "FleetSettings$Change", name := "countGoodAt", desc := "(I[LFleetSettings$Person;)I" } : Jvm.MethodName) prog_2_method_9_code (7 : Nat) (Option.some Jvm.ClassFile.FieldType.int)) ∈ Tw := Tw_of 749 (by decide +kernel) rfl
theorem tw_ml_X0_61 : (Jvm.Cond.methodLink "FleetSettings$Change" (61 : Nat) ({ cls := "FleetSettings$Person", name := "hasVoided", desc := "(I)Z" } : Jvm.MethodName)) ∈ Tw := Tw_of 750 (by decide +kernel) rfl
theorem tw_im_X4_hasVoided : (Jvm.Cond.instanceMethod ({ cls := "FleetSettings$Person", name := "hasVoided", desc := "(I)Z" } : Jvm.MethodName)) ∈ Tw := Tw_of 751 (by decide +kernel) rfl
theorem tw_sel_X4_hasVoided : (Jvm.Cond.selects "FleetSettings$Person" ({ cls := "FleetSettings$Person", name := "hasVoided", desc := "(I)Z" } : Jvm.MethodName) ({ cls := "FleetSettings$Person", name := "hasVoided", desc := "(I)Z" } : Jvm.MethodName)) ∈ Tw := Tw_of 752 (by decide +kernel) rfl
theorem tw_code_X4_hasVoided : (Jvm.Cond.code ({ cls := "FleetSettings$Person", name := "hasVoided", desc := "(I)Z" } : Jvm.MethodName) prog_6_method_2_code (2 : Nat) (Option.some Jvm.ClassFile.FieldType.boolean)) ∈ Tw := Tw_of 753 (by decide +kernel) rfl
theorem tw_ml_X5_301 : (Jvm.Cond.methodLink "FleetSettings" (301 : Nat) ({ cls := "FleetSettings$Change", name := "isHeldAnew", desc := "([LFleetSettings$Person;)Z" } : Jvm.MethodName)) ∈ Tw := Tw_of 754 (by decide +kernel) rfl
theorem tw_im_X0_isHeldAnew : (Jvm.Cond.instanceMethod ({ cls := "FleetSettings$Change", name := "isHeldAnew", desc := "([LFleetSettings$Person;)Z" } : Jvm.MethodName)) ∈ Tw := Tw_of 755 (by decide +kernel) rfl
theorem tw_sel_X0_isHeldAnew : (Jvm.Cond.selects "FleetSettings$Change" ({ cls := "FleetSettings$Change", name := "isHeldAnew", desc := "([LFleetSettings$Person;)Z" } : Jvm.MethodName) ({ cls := "FleetSettings$Change", name := "isHeldAnew", desc := "([LFleetSettings$Person;)Z" } : Jvm.MethodName)) ∈ Tw := Tw_of 756 (by decide +kernel) rfl
theorem tw_code_X0_isHeldAnew : (Jvm.Cond.code ({ cls := "FleetSettings$Change", name := "isHeldAnew", desc := "([LFleetSettings$Person;)Z" } : Jvm.MethodName) prog_2_method_7_code (4 : Nat) (Option.some Jvm.ClassFile.FieldType.boolean)) ∈ Tw := Tw_of 757 (by decide +kernel) rfl
theorem tw_ml_L_201 : (Jvm.Cond.methodLink "FleetSettingsLaw" (201 : Nat) ({ cls := "FleetSettingsLaw", name := "behind", desc := "(LFleetSettings;I[J)I" } : Jvm.MethodName)) ∈ Tw := Tw_of 758 (by decide +kernel) rfl
theorem tw_st_L_behind : (Jvm.Cond.static ({ cls := "FleetSettingsLaw", name := "behind", desc := "(LFleetSettings;I[J)I" } : Jvm.MethodName)) ∈ Tw := Tw_of 759 (by decide +kernel) rfl
theorem tw_code_L_behind : (Jvm.Cond.codeWith ({ cls := "FleetSettingsLaw", name := "behind", desc := "(LFleetSettings;I[J)I" } : Jvm.MethodName) method_27_code (4 : Nat) (Option.some Jvm.ClassFile.FieldType.int) [((0 : Nat), (9 : Nat), (12 : Nat), (19 : Nat))]) ∈ Tw := Tw_of 760 (by decide +kernel) rfl
theorem tw_ml_L_95 : (Jvm.Cond.methodLink "FleetSettingsLaw" (95 : Nat) ({ cls := "FleetSettings", name := "behind", desc := "(I)I" } : Jvm.MethodName)) ∈ Tw := Tw_of 761 (by decide +kernel) rfl
theorem tw_im_X5_behind : (Jvm.Cond.instanceMethod ({ cls := "FleetSettings", name := "behind", desc := "(I)I" } : Jvm.MethodName)) ∈ Tw := Tw_of 762 (by decide +kernel) rfl
theorem tw_sel_X5_behind : (Jvm.Cond.selects "FleetSettings" ({ cls := "FleetSettings", name := "behind", desc := "(I)I" } : Jvm.MethodName) ({ cls := "FleetSettings", name := "behind", desc := "(I)I" } : Jvm.MethodName)) ∈ Tw := Tw_of 763 (by decide +kernel) rfl
theorem tw_code_X5_behind : (Jvm.Cond.code ({ cls := "FleetSettings", name := "behind", desc := "(I)I" } : Jvm.MethodName) prog_1_method_28_code (5 : Nat) (Option.some Jvm.ClassFile.FieldType.int)) ∈ Tw := Tw_of 764 (by decide +kernel) rfl
theorem tw_ml_L_204 : (Jvm.Cond.methodLink "FleetSettingsLaw" (204 : Nat) ({ cls := "FleetSettingsLaw", name := "hidden", desc := "(LFleetSettings;I[J)I" } : Jvm.MethodName)) ∈ Tw := Tw_of 765 (by decide +kernel) rfl
theorem tw_st_L_hidden : (Jvm.Cond.static ({ cls := "FleetSettingsLaw", name := "hidden", desc := "(LFleetSettings;I[J)I" } : Jvm.MethodName)) ∈ Tw := Tw_of 766 (by decide +kernel) rfl
theorem tw_code_L_hidden : (Jvm.Cond.codeWith ({ cls := "FleetSettingsLaw", name := "hidden", desc := "(LFleetSettings;I[J)I" } : Jvm.MethodName) method_28_code (4 : Nat) (Option.some Jvm.ClassFile.FieldType.int) [((0 : Nat), (9 : Nat), (12 : Nat), (19 : Nat))]) ∈ Tw := Tw_of 767 (by decide +kernel) rfl
theorem tw_ml_L_98 : (Jvm.Cond.methodLink "FleetSettingsLaw" (98 : Nat) ({ cls := "FleetSettings", name := "hidden", desc := "(I)I" } : Jvm.MethodName)) ∈ Tw := Tw_of 768 (by decide +kernel) rfl
theorem tw_im_X5_hidden : (Jvm.Cond.instanceMethod ({ cls := "FleetSettings", name := "hidden", desc := "(I)I" } : Jvm.MethodName)) ∈ Tw := Tw_of 769 (by decide +kernel) rfl
theorem tw_sel_X5_hidden : (Jvm.Cond.selects "FleetSettings" ({ cls := "FleetSettings", name := "hidden", desc := "(I)I" } : Jvm.MethodName) ({ cls := "FleetSettings", name := "hidden", desc := "(I)I" } : Jvm.MethodName)) ∈ Tw := Tw_of 770 (by decide +kernel) rfl
theorem tw_code_X5_hidden : (Jvm.Cond.code ({ cls := "FleetSettings", name := "hidden", desc := "(I)I" } : Jvm.MethodName) prog_1_method_29_code (2 : Nat) (Option.some Jvm.ClassFile.FieldType.int)) ∈ Tw := Tw_of 771 (by decide +kernel) rfl
theorem tw_ml_L_207 : (Jvm.Cond.methodLink "FleetSettingsLaw" (207 : Nat) ({ cls := "FleetSettingsLaw", name := "spread", desc := "(LFleetSettings;I[J)I" } : Jvm.MethodName)) ∈ Tw := Tw_of 772 (by decide +kernel) rfl
theorem tw_st_L_spread : (Jvm.Cond.static ({ cls := "FleetSettingsLaw", name := "spread", desc := "(LFleetSettings;I[J)I" } : Jvm.MethodName)) ∈ Tw := Tw_of 773 (by decide +kernel) rfl
theorem tw_code_L_spread : (Jvm.Cond.codeWith ({ cls := "FleetSettingsLaw", name := "spread", desc := "(LFleetSettings;I[J)I" } : Jvm.MethodName) method_29_code (4 : Nat) (Option.some Jvm.ClassFile.FieldType.int) [((0 : Nat), (9 : Nat), (12 : Nat), (19 : Nat))]) ∈ Tw := Tw_of 774 (by decide +kernel) rfl
theorem tw_ml_L_101 : (Jvm.Cond.methodLink "FleetSettingsLaw" (101 : Nat) ({ cls := "FleetSettings", name := "spread", desc := "(I)I" } : Jvm.MethodName)) ∈ Tw := Tw_of 775 (by decide +kernel) rfl
theorem tw_im_X5_spread : (Jvm.Cond.instanceMethod ({ cls := "FleetSettings", name := "spread", desc := "(I)I" } : Jvm.MethodName)) ∈ Tw := Tw_of 776 (by decide +kernel) rfl
theorem tw_sel_X5_spread : (Jvm.Cond.selects "FleetSettings" ({ cls := "FleetSettings", name := "spread", desc := "(I)I" } : Jvm.MethodName) ({ cls := "FleetSettings", name := "spread", desc := "(I)I" } : Jvm.MethodName)) ∈ Tw := Tw_of 777 (by decide +kernel) rfl
theorem tw_code_X5_spread : (Jvm.Cond.code ({ cls := "FleetSettings", name := "spread", desc := "(I)I" } : Jvm.MethodName) prog_1_method_30_code (5 : Nat) (Option.some Jvm.ClassFile.FieldType.int)) ∈ Tw := Tw_of 778 (by decide +kernel) rfl
theorem tw_cl_L_105 : (Jvm.Cond.classLink "FleetSettingsLaw" (105 : Nat) "FleetSettingsModel") ∈ Tw := Tw_of 779 (by decide +kernel) rfl
theorem tw_ins_X6 : (Jvm.Cond.instantiable "FleetSettingsModel" (26 : Nat)) ∈ Tw := Tw_of 780 (by decide +kernel) rfl
theorem tw_ml_L_107 : (Jvm.Cond.methodLink "FleetSettingsLaw" (107 : Nat) ({ cls := "FleetSettingsModel", name := "<init>", desc := "()V" } : Jvm.MethodName)) ∈ Tw := Tw_of 781 (by decide +kernel) rfl
theorem tw_im_X6_init : (Jvm.Cond.instanceMethod ({ cls := "FleetSettingsModel", name := "<init>", desc := "()V" } : Jvm.MethodName)) ∈ Tw := Tw_of 782 (by decide +kernel) rfl
theorem tw_code_X6_init : (Jvm.Cond.code ({ cls := "FleetSettingsModel", name := "<init>", desc := "()V" } : Jvm.MethodName) prog_8_method_1_code (2 : Nat) (Option.none : Option Jvm.ClassFile.FieldType)) ∈ Tw := Tw_of 783 (by decide +kernel) rfl
theorem tw_ml_X6_1 : (Jvm.Cond.methodLink "FleetSettingsModel" (1 : Nat) ({ cls := "java/lang/Object", name := "<init>", desc := "()V" } : Jvm.MethodName)) ∈ Tw := Tw_of 784 (by decide +kernel) rfl
theorem tw_fl_X6_74 : (Jvm.Cond.fieldLink "FleetSettingsModel" (74 : Nat) "FleetSettingsModel" "thrown" "I") ∈ Tw := Tw_of 785 (by decide +kernel) rfl
theorem tw_fl_X6_109 : (Jvm.Cond.fieldLink "FleetSettingsModel" (109 : Nat) "FleetSettingsModel" "now" "I") ∈ Tw := Tw_of 786 (by decide +kernel) rfl
theorem tw_fl_X6_7 : (Jvm.Cond.fieldLink "FleetSettingsModel" (7 : Nat) "FleetSettingsModel" "duty" "[I") ∈ Tw := Tw_of 787 (by decide +kernel) rfl
theorem tw_fl_X6_13 : (Jvm.Cond.fieldLink "FleetSettingsModel" (13 : Nat) "FleetSettingsModel" "gone" "[I") ∈ Tw := Tw_of 788 (by decide +kernel) rfl
theorem tw_fl_X6_16 : (Jvm.Cond.fieldLink "FleetSettingsModel" (16 : Nat) "FleetSettingsModel" "groups" "I") ∈ Tw := Tw_of 789 (by decide +kernel) rfl
theorem tw_fl_X6_20 : (Jvm.Cond.fieldLink "FleetSettingsModel" (20 : Nat) "FleetSettingsModel" "parent" "[I") ∈ Tw := Tw_of 790 (by decide +kernel) rfl
theorem tw_fl_X6_81 : (Jvm.Cond.fieldLink "FleetSettingsModel" (81 : Nat) "FleetSettingsModel" "machines" "I") ∈ Tw := Tw_of 791 (by decide +kernel) rfl
theorem tw_fl_X6_23 : (Jvm.Cond.fieldLink "FleetSettingsModel" (23 : Nat) "FleetSettingsModel" "pace" "I") ∈ Tw := Tw_of 792 (by decide +kernel) rfl
theorem tw_fl_X6_26 : (Jvm.Cond.fieldLink "FleetSettingsModel" (26 : Nat) "FleetSettingsModel" "group" "[I") ∈ Tw := Tw_of 793 (by decide +kernel) rfl
theorem tw_fl_X6_29 : (Jvm.Cond.fieldLink "FleetSettingsModel" (29 : Nat) "FleetSettingsModel" "until" "[I") ∈ Tw := Tw_of 794 (by decide +kernel) rfl
theorem tw_fl_X6_32 : (Jvm.Cond.fieldLink "FleetSettingsModel" (32 : Nat) "FleetSettingsModel" "taken" "[I") ∈ Tw := Tw_of 795 (by decide +kernel) rfl
theorem tw_fl_X6_84 : (Jvm.Cond.fieldLink "FleetSettingsModel" (84 : Nat) "FleetSettingsModel" "changes" "I") ∈ Tw := Tw_of 796 (by decide +kernel) rfl
theorem tw_fl_X6_160 : (Jvm.Cond.fieldLink "FleetSettingsModel" (160 : Nat) "FleetSettingsModel" "ranks" "I") ∈ Tw := Tw_of 797 (by decide +kernel) rfl
theorem tw_fl_X6_35 : (Jvm.Cond.fieldLink "FleetSettingsModel" (35 : Nat) "FleetSettingsModel" "author" "[I") ∈ Tw := Tw_of 798 (by decide +kernel) rfl
theorem tw_fl_X6_38 : (Jvm.Cond.fieldLink "FleetSettingsModel" (38 : Nat) "FleetSettingsModel" "place" "[I") ∈ Tw := Tw_of 799 (by decide +kernel) rfl
theorem tw_fl_X6_41 : (Jvm.Cond.fieldLink "FleetSettingsModel" (41 : Nat) "FleetSettingsModel" "key" "[I") ∈ Tw := Tw_of 800 (by decide +kernel) rfl
theorem tw_fl_X6_44 : (Jvm.Cond.fieldLink "FleetSettingsModel" (44 : Nat) "FleetSettingsModel" "proposed" "[I") ∈ Tw := Tw_of 801 (by decide +kernel) rfl
theorem tw_fl_X6_47 : (Jvm.Cond.fieldLink "FleetSettingsModel" (47 : Nat) "FleetSettingsModel" "what" "[I") ∈ Tw := Tw_of 802 (by decide +kernel) rfl
theorem tw_fl_X6_50 : (Jvm.Cond.fieldLink "FleetSettingsModel" (50 : Nat) "FleetSettingsModel" "state" "[I") ∈ Tw := Tw_of 803 (by decide +kernel) rfl
theorem tw_fl_X6_53 : (Jvm.Cond.fieldLink "FleetSettingsModel" (53 : Nat) "FleetSettingsModel" "rank" "[I") ∈ Tw := Tw_of 804 (by decide +kernel) rfl
theorem tw_fl_X6_56 : (Jvm.Cond.fieldLink "FleetSettingsModel" (56 : Nat) "FleetSettingsModel" "given" "[I") ∈ Tw := Tw_of 805 (by decide +kernel) rfl
theorem tw_fl_X6_59 : (Jvm.Cond.fieldLink "FleetSettingsModel" (59 : Nat) "FleetSettingsModel" "givenOn" "[I") ∈ Tw := Tw_of 806 (by decide +kernel) rfl
theorem tw_fl_X6_62 : (Jvm.Cond.fieldLink "FleetSettingsModel" (62 : Nat) "FleetSettingsModel" "excludes" "[I") ∈ Tw := Tw_of 807 (by decide +kernel) rfl
theorem tw_fl_X6_65 : (Jvm.Cond.fieldLink "FleetSettingsModel" (65 : Nat) "FleetSettingsModel" "value" "[I") ∈ Tw := Tw_of 808 (by decide +kernel) rfl
theorem tw_fl_X6_68 : (Jvm.Cond.fieldLink "FleetSettingsModel" (68 : Nat) "FleetSettingsModel" "from" "[I") ∈ Tw := Tw_of 809 (by decide +kernel) rfl
theorem tw_fl_X6_71 : (Jvm.Cond.fieldLink "FleetSettingsModel" (71 : Nat) "FleetSettingsModel" "by" "[I") ∈ Tw := Tw_of 810 (by decide +kernel) rfl
theorem tw_ml_L_114 : (Jvm.Cond.methodLink "FleetSettingsLaw" (114 : Nat) ({ cls := "FleetSettingsModel", name := "thrown", desc := "()I" } : Jvm.MethodName)) ∈ Tw := Tw_of 864 (by decide +kernel) rfl
theorem tw_im_X6_thrown : (Jvm.Cond.instanceMethod ({ cls := "FleetSettingsModel", name := "thrown", desc := "()I" } : Jvm.MethodName)) ∈ Tw := Tw_of 865 (by decide +kernel) rfl
theorem tw_sel_X6_thrown : (Jvm.Cond.selects "FleetSettingsModel" ({ cls := "FleetSettingsModel", name := "thrown", desc := "()I" } : Jvm.MethodName) ({ cls := "FleetSettingsModel", name := "thrown", desc := "()I" } : Jvm.MethodName)) ∈ Tw := Tw_of 866 (by decide +kernel) rfl
theorem tw_code_X6_thrown : (Jvm.Cond.code ({ cls := "FleetSettingsModel", name := "thrown", desc := "()I" } : Jvm.MethodName) prog_8_method_2_code (1 : Nat) (Option.some Jvm.ClassFile.FieldType.int)) ∈ Tw := Tw_of 867 (by decide +kernel) rfl
theorem tw_ml_L_113 : (Jvm.Cond.methodLink "FleetSettingsLaw" (113 : Nat) ({ cls := "FleetSettingsModel", name := "setDuty", desc := "(II)I" } : Jvm.MethodName)) ∈ Tw := Tw_of 868 (by decide +kernel) rfl
theorem tw_im_X6_setDuty : (Jvm.Cond.instanceMethod ({ cls := "FleetSettingsModel", name := "setDuty", desc := "(II)I" } : Jvm.MethodName)) ∈ Tw := Tw_of 869 (by decide +kernel) rfl
theorem tw_sel_X6_setDuty : (Jvm.Cond.selects "FleetSettingsModel" ({ cls := "FleetSettingsModel", name := "setDuty", desc := "(II)I" } : Jvm.MethodName) ({ cls := "FleetSettingsModel", name := "setDuty", desc := "(II)I" } : Jvm.MethodName)) ∈ Tw := Tw_of 870 (by decide +kernel) rfl
theorem tw_code_X6_setDuty : (Jvm.Cond.code ({ cls := "FleetSettingsModel", name := "setDuty", desc := "(II)I" } : Jvm.MethodName) prog_8_method_20_code (4 : Nat) (Option.some Jvm.ClassFile.FieldType.int)) ∈ Tw := Tw_of 871 (by decide +kernel) rfl
theorem tw_ml_X6_77 : (Jvm.Cond.methodLink "FleetSettingsModel" (77 : Nat) ({ cls := "FleetSettingsModel", name := "in", desc := "(III)Z" } : Jvm.MethodName)) ∈ Tw := Tw_of 872 (by decide +kernel) rfl
theorem tw_st_X6_in : (Jvm.Cond.static ({ cls := "FleetSettingsModel", name := "in", desc := "(III)Z" } : Jvm.MethodName)) ∈ Tw := Tw_of 873 (by decide +kernel) rfl
theorem tw_code_X6_in : (Jvm.Cond.code ({ cls := "FleetSettingsModel", name := "in", desc := "(III)Z" } : Jvm.MethodName) prog_8_method_4_code (3 : Nat) (Option.some Jvm.ClassFile.FieldType.boolean)) ∈ Tw := Tw_of 874 (by decide +kernel) rfl
theorem tw_ml_X6_112 : (Jvm.Cond.methodLink "FleetSettingsModel" (112 : Nat) ({ cls := "FleetSettingsModel", name := "fails", desc := "(I)I" } : Jvm.MethodName)) ∈ Tw := Tw_of 875 (by decide +kernel) rfl
theorem tw_im_X6_fails : (Jvm.Cond.instanceMethod ({ cls := "FleetSettingsModel", name := "fails", desc := "(I)I" } : Jvm.MethodName)) ∈ Tw := Tw_of 877 (by decide +kernel) rfl
theorem tw_code_X6_fails : (Jvm.Cond.code ({ cls := "FleetSettingsModel", name := "fails", desc := "(I)I" } : Jvm.MethodName) prog_8_method_3_code (2 : Nat) (Option.some Jvm.ClassFile.FieldType.int)) ∈ Tw := Tw_of 878 (by decide +kernel) rfl
theorem tw_ml_L_121 : (Jvm.Cond.methodLink "FleetSettingsLaw" (121 : Nat) ({ cls := "FleetSettingsModel", name := "leave", desc := "(IZ)I" } : Jvm.MethodName)) ∈ Tw := Tw_of 879 (by decide +kernel) rfl
theorem tw_im_X6_leave : (Jvm.Cond.instanceMethod ({ cls := "FleetSettingsModel", name := "leave", desc := "(IZ)I" } : Jvm.MethodName)) ∈ Tw := Tw_of 880 (by decide +kernel) rfl
theorem tw_sel_X6_leave : (Jvm.Cond.selects "FleetSettingsModel" ({ cls := "FleetSettingsModel", name := "leave", desc := "(IZ)I" } : Jvm.MethodName) ({ cls := "FleetSettingsModel", name := "leave", desc := "(IZ)I" } : Jvm.MethodName)) ∈ Tw := Tw_of 881 (by decide +kernel) rfl
theorem tw_code_X6_leave : (Jvm.Cond.code ({ cls := "FleetSettingsModel", name := "leave", desc := "(IZ)I" } : Jvm.MethodName) prog_8_method_23_code (3 : Nat) (Option.some Jvm.ClassFile.FieldType.int)) ∈ Tw := Tw_of 882 (by decide +kernel) rfl
theorem tw_ml_X6_121 : (Jvm.Cond.methodLink "FleetSettingsModel" (121 : Nat) ({ cls := "FleetSettingsModel", name := "isPerson", desc := "(I)Z" } : Jvm.MethodName)) ∈ Tw := Tw_of 883 (by decide +kernel) rfl
theorem tw_st_X6_isPerson : (Jvm.Cond.static ({ cls := "FleetSettingsModel", name := "isPerson", desc := "(I)Z" } : Jvm.MethodName)) ∈ Tw := Tw_of 884 (by decide +kernel) rfl
theorem tw_code_X6_isPerson : (Jvm.Cond.code ({ cls := "FleetSettingsModel", name := "isPerson", desc := "(I)Z" } : Jvm.MethodName) prog_8_method_5_code (1 : Nat) (Option.some Jvm.ClassFile.FieldType.boolean)) ∈ Tw := Tw_of 885 (by decide +kernel) rfl
theorem tw_ml_X6_124 : (Jvm.Cond.methodLink "FleetSettingsModel" (124 : Nat) ({ cls := "FleetSettingsModel", name := "voids", desc := "(I)I" } : Jvm.MethodName)) ∈ Tw := Tw_of 886 (by decide +kernel) rfl
theorem tw_im_X6_voids : (Jvm.Cond.instanceMethod ({ cls := "FleetSettingsModel", name := "voids", desc := "(I)I" } : Jvm.MethodName)) ∈ Tw := Tw_of 888 (by decide +kernel) rfl
theorem tw_code_X6_voids : (Jvm.Cond.code ({ cls := "FleetSettingsModel", name := "voids", desc := "(I)I" } : Jvm.MethodName) prog_8_method_22_code (6 : Nat) (Option.some Jvm.ClassFile.FieldType.int)) ∈ Tw := Tw_of 889 (by decide +kernel) rfl
theorem tw_ml_X6_115 : (Jvm.Cond.methodLink "FleetSettingsModel" (115 : Nat) ({ cls := "FleetSettingsModel", name := "good", desc := "(I)I" } : Jvm.MethodName)) ∈ Tw := Tw_of 890 (by decide +kernel) rfl
theorem tw_im_X6_good : (Jvm.Cond.instanceMethod ({ cls := "FleetSettingsModel", name := "good", desc := "(I)I" } : Jvm.MethodName)) ∈ Tw := Tw_of 892 (by decide +kernel) rfl
theorem tw_code_X6_good : (Jvm.Cond.code ({ cls := "FleetSettingsModel", name := "good", desc := "(I)I" } : Jvm.MethodName) prog_8_method_21_code (4 : Nat) (Option.some Jvm.ClassFile.FieldType.int)) ∈ Tw := Tw_of 893 (by decide +kernel) rfl
theorem tw_ml_X6_118 : (Jvm.Cond.methodLink "FleetSettingsModel" (118 : Nat) ({ cls := "FleetSettingsModel", name := "isHalted", desc := "(I)Z" } : Jvm.MethodName)) ∈ Tw := Tw_of 894 (by decide +kernel) rfl
theorem tw_im_X6_isHalted : (Jvm.Cond.instanceMethod ({ cls := "FleetSettingsModel", name := "isHalted", desc := "(I)Z" } : Jvm.MethodName)) ∈ Tw := Tw_of 896 (by decide +kernel) rfl
theorem tw_code_X6_isHalted : (Jvm.Cond.code ({ cls := "FleetSettingsModel", name := "isHalted", desc := "(I)Z" } : Jvm.MethodName) prog_8_method_18_code (4 : Nat) (Option.some Jvm.ClassFile.FieldType.boolean)) ∈ Tw := Tw_of 897 (by decide +kernel) rfl
theorem tw_ml_X6_102 : (Jvm.Cond.methodLink "FleetSettingsModel" (102 : Nat) ({ cls := "FleetSettingsModel", name := "cells", desc := "(II)I" } : Jvm.MethodName)) ∈ Tw := Tw_of 898 (by decide +kernel) rfl
theorem tw_im_X6_cells : (Jvm.Cond.instanceMethod ({ cls := "FleetSettingsModel", name := "cells", desc := "(II)I" } : Jvm.MethodName)) ∈ Tw := Tw_of 900 (by decide +kernel) rfl
theorem tw_code_X6_cells : (Jvm.Cond.code ({ cls := "FleetSettingsModel", name := "cells", desc := "(II)I" } : Jvm.MethodName) prog_8_method_13_code (3 : Nat) (Option.some Jvm.ClassFile.FieldType.int)) ∈ Tw := Tw_of 901 (by decide +kernel) rfl
theorem tw_ml_L_125 : (Jvm.Cond.methodLink "FleetSettingsLaw" (125 : Nat) ({ cls := "FleetSettingsModel", name := "comeBack", desc := "(I)V" } : Jvm.MethodName)) ∈ Tw := Tw_of 902 (by decide +kernel) rfl
theorem tw_im_X6_comeBack : (Jvm.Cond.instanceMethod ({ cls := "FleetSettingsModel", name := "comeBack", desc := "(I)V" } : Jvm.MethodName)) ∈ Tw := Tw_of 903 (by decide +kernel) rfl
theorem tw_sel_X6_comeBack : (Jvm.Cond.selects "FleetSettingsModel" ({ cls := "FleetSettingsModel", name := "comeBack", desc := "(I)V" } : Jvm.MethodName) ({ cls := "FleetSettingsModel", name := "comeBack", desc := "(I)V" } : Jvm.MethodName)) ∈ Tw := Tw_of 904 (by decide +kernel) rfl
theorem tw_code_X6_comeBack : (Jvm.Cond.code ({ cls := "FleetSettingsModel", name := "comeBack", desc := "(I)V" } : Jvm.MethodName) prog_8_method_24_code (2 : Nat) (Option.none : Option Jvm.ClassFile.FieldType)) ∈ Tw := Tw_of 905 (by decide +kernel) rfl
theorem tw_ml_L_129 : (Jvm.Cond.methodLink "FleetSettingsLaw" (129 : Nat) ({ cls := "FleetSettingsModel", name := "pass", desc := "(I)I" } : Jvm.MethodName)) ∈ Tw := Tw_of 906 (by decide +kernel) rfl
theorem tw_im_X6_pass : (Jvm.Cond.instanceMethod ({ cls := "FleetSettingsModel", name := "pass", desc := "(I)I" } : Jvm.MethodName)) ∈ Tw := Tw_of 907 (by decide +kernel) rfl
theorem tw_sel_X6_pass : (Jvm.Cond.selects "FleetSettingsModel" ({ cls := "FleetSettingsModel", name := "pass", desc := "(I)I" } : Jvm.MethodName) ({ cls := "FleetSettingsModel", name := "pass", desc := "(I)I" } : Jvm.MethodName)) ∈ Tw := Tw_of 908 (by decide +kernel) rfl
theorem tw_code_X6_pass : (Jvm.Cond.code ({ cls := "FleetSettingsModel", name := "pass", desc := "(I)I" } : Jvm.MethodName) prog_8_method_29_code (4 : Nat) (Option.some Jvm.ClassFile.FieldType.int)) ∈ Tw := Tw_of 909 (by decide +kernel) rfl
theorem tw_ml_X6_141 : (Jvm.Cond.methodLink "FleetSettingsModel" (141 : Nat) ({ cls := "FleetSettingsModel", name := "passes", desc := "()I" } : Jvm.MethodName)) ∈ Tw := Tw_of 910 (by decide +kernel) rfl
theorem tw_im_X6_passes : (Jvm.Cond.instanceMethod ({ cls := "FleetSettingsModel", name := "passes", desc := "()I" } : Jvm.MethodName)) ∈ Tw := Tw_of 912 (by decide +kernel) rfl
theorem tw_code_X6_passes : (Jvm.Cond.code ({ cls := "FleetSettingsModel", name := "passes", desc := "()I" } : Jvm.MethodName) prog_8_method_28_code (4 : Nat) (Option.some Jvm.ClassFile.FieldType.int)) ∈ Tw := Tw_of 913 (by decide +kernel) rfl
theorem tw_ml_X6_131 : (Jvm.Cond.methodLink "FleetSettingsModel" (131 : Nat) ({ cls := "FleetSettingsModel", name := "goesBack", desc := "(I)V" } : Jvm.MethodName)) ∈ Tw := Tw_of 914 (by decide +kernel) rfl
theorem tw_im_X6_goesBack : (Jvm.Cond.instanceMethod ({ cls := "FleetSettingsModel", name := "goesBack", desc := "(I)V" } : Jvm.MethodName)) ∈ Tw := Tw_of 916 (by decide +kernel) rfl
theorem tw_code_X6_goesBack : (Jvm.Cond.code ({ cls := "FleetSettingsModel", name := "goesBack", desc := "(I)V" } : Jvm.MethodName) prog_8_method_25_code (7 : Nat) (Option.none : Option Jvm.ClassFile.FieldType)) ∈ Tw := Tw_of 917 (by decide +kernel) rfl
theorem tw_ml_X6_99 : (Jvm.Cond.methodLink "FleetSettingsModel" (99 : Nat) ({ cls := "FleetSettingsModel", name := "slot", desc := "(II)I" } : Jvm.MethodName)) ∈ Tw := Tw_of 918 (by decide +kernel) rfl
theorem tw_im_X6_slot : (Jvm.Cond.instanceMethod ({ cls := "FleetSettingsModel", name := "slot", desc := "(II)I" } : Jvm.MethodName)) ∈ Tw := Tw_of 920 (by decide +kernel) rfl
theorem tw_code_X6_slot : (Jvm.Cond.code ({ cls := "FleetSettingsModel", name := "slot", desc := "(II)I" } : Jvm.MethodName) prog_8_method_12_code (5 : Nat) (Option.some Jvm.ClassFile.FieldType.int)) ∈ Tw := Tw_of 921 (by decide +kernel) rfl
theorem tw_ml_X6_105 : (Jvm.Cond.methodLink "FleetSettingsModel" (105 : Nat) ({ cls := "FleetSettingsModel", name := "topOf", desc := "(III)I" } : Jvm.MethodName)) ∈ Tw := Tw_of 922 (by decide +kernel) rfl
theorem tw_im_X6_topOf : (Jvm.Cond.instanceMethod ({ cls := "FleetSettingsModel", name := "topOf", desc := "(III)I" } : Jvm.MethodName)) ∈ Tw := Tw_of 924 (by decide +kernel) rfl
theorem tw_code_X6_topOf : (Jvm.Cond.code ({ cls := "FleetSettingsModel", name := "topOf", desc := "(III)I" } : Jvm.MethodName) prog_8_method_15_code (4 : Nat) (Option.some Jvm.ClassFile.FieldType.int)) ∈ Tw := Tw_of 925 (by decide +kernel) rfl
theorem tw_ml_X6_91 : (Jvm.Cond.methodLink "FleetSettingsModel" (91 : Nat) ({ cls := "FleetSettingsModel", name := "top", desc := "(II)I" } : Jvm.MethodName)) ∈ Tw := Tw_of 926 (by decide +kernel) rfl
theorem tw_im_X6_top : (Jvm.Cond.instanceMethod ({ cls := "FleetSettingsModel", name := "top", desc := "(II)I" } : Jvm.MethodName)) ∈ Tw := Tw_of 928 (by decide +kernel) rfl
theorem tw_code_X6_top : (Jvm.Cond.code ({ cls := "FleetSettingsModel", name := "top", desc := "(II)I" } : Jvm.MethodName) prog_8_method_14_code (6 : Nat) (Option.some Jvm.ClassFile.FieldType.int)) ∈ Tw := Tw_of 929 (by decide +kernel) rfl
theorem tw_ml_X6_135 : (Jvm.Cond.methodLink "FleetSettingsModel" (135 : Nat) ({ cls := "FleetSettingsModel", name := "works", desc := "(I)Z" } : Jvm.MethodName)) ∈ Tw := Tw_of 930 (by decide +kernel) rfl
theorem tw_im_X6_works : (Jvm.Cond.instanceMethod ({ cls := "FleetSettingsModel", name := "works", desc := "(I)Z" } : Jvm.MethodName)) ∈ Tw := Tw_of 932 (by decide +kernel) rfl
theorem tw_code_X6_works : (Jvm.Cond.code ({ cls := "FleetSettingsModel", name := "works", desc := "(I)Z" } : Jvm.MethodName) prog_8_method_19_code (2 : Nat) (Option.some Jvm.ClassFile.FieldType.boolean)) ∈ Tw := Tw_of 933 (by decide +kernel) rfl
theorem tw_ml_X6_138 : (Jvm.Cond.methodLink "FleetSettingsModel" (138 : Nat) ({ cls := "FleetSettingsModel", name := "takes", desc := "(I)Z" } : Jvm.MethodName)) ∈ Tw := Tw_of 934 (by decide +kernel) rfl
theorem tw_im_X6_takes : (Jvm.Cond.instanceMethod ({ cls := "FleetSettingsModel", name := "takes", desc := "(I)Z" } : Jvm.MethodName)) ∈ Tw := Tw_of 936 (by decide +kernel) rfl
theorem tw_code_X6_takes : (Jvm.Cond.code ({ cls := "FleetSettingsModel", name := "takes", desc := "(I)Z" } : Jvm.MethodName) prog_8_method_27_code (5 : Nat) (Option.some Jvm.ClassFile.FieldType.boolean)) ∈ Tw := Tw_of 937 (by decide +kernel) rfl
theorem tw_ml_X6_95 : (Jvm.Cond.methodLink "FleetSettingsModel" (95 : Nat) ({ cls := "FleetSettingsModel", name := "layers", desc := "(I)I" } : Jvm.MethodName)) ∈ Tw := Tw_of 938 (by decide +kernel) rfl
theorem tw_im_X6_layers : (Jvm.Cond.instanceMethod ({ cls := "FleetSettingsModel", name := "layers", desc := "(I)I" } : Jvm.MethodName)) ∈ Tw := Tw_of 940 (by decide +kernel) rfl
theorem tw_code_X6_layers : (Jvm.Cond.code ({ cls := "FleetSettingsModel", name := "layers", desc := "(I)I" } : Jvm.MethodName) prog_8_method_11_code (4 : Nat) (Option.some Jvm.ClassFile.FieldType.int)) ∈ Tw := Tw_of 941 (by decide +kernel) rfl
theorem tw_ml_X6_127 : (Jvm.Cond.methodLink "FleetSettingsModel" (127 : Nat) ({ cls := "FleetSettingsModel", name := "lags", desc := "(II)Z" } : Jvm.MethodName)) ∈ Tw := Tw_of 942 (by decide +kernel) rfl
theorem tw_im_X6_lags : (Jvm.Cond.instanceMethod ({ cls := "FleetSettingsModel", name := "lags", desc := "(II)Z" } : Jvm.MethodName)) ∈ Tw := Tw_of 944 (by decide +kernel) rfl
theorem tw_code_X6_lags : (Jvm.Cond.code ({ cls := "FleetSettingsModel", name := "lags", desc := "(II)Z" } : Jvm.MethodName) prog_8_method_26_code (6 : Nat) (Option.some Jvm.ClassFile.FieldType.boolean)) ∈ Tw := Tw_of 945 (by decide +kernel) rfl
theorem tw_ml_L_133 : (Jvm.Cond.methodLink "FleetSettingsLaw" (133 : Nat) ({ cls := "FleetSettingsModel", name := "day", desc := "()I" } : Jvm.MethodName)) ∈ Tw := Tw_of 946 (by decide +kernel) rfl
theorem tw_im_X6_day : (Jvm.Cond.instanceMethod ({ cls := "FleetSettingsModel", name := "day", desc := "()I" } : Jvm.MethodName)) ∈ Tw := Tw_of 947 (by decide +kernel) rfl
theorem tw_sel_X6_day : (Jvm.Cond.selects "FleetSettingsModel" ({ cls := "FleetSettingsModel", name := "day", desc := "()I" } : Jvm.MethodName) ({ cls := "FleetSettingsModel", name := "day", desc := "()I" } : Jvm.MethodName)) ∈ Tw := Tw_of 948 (by decide +kernel) rfl
theorem tw_code_X6_day : (Jvm.Cond.code ({ cls := "FleetSettingsModel", name := "day", desc := "()I" } : Jvm.MethodName) prog_8_method_30_code (1 : Nat) (Option.some Jvm.ClassFile.FieldType.int)) ∈ Tw := Tw_of 949 (by decide +kernel) rfl
theorem tw_ml_L_136 : (Jvm.Cond.methodLink "FleetSettingsLaw" (136 : Nat) ({ cls := "FleetSettingsModel", name := "addGroup", desc := "(I)I" } : Jvm.MethodName)) ∈ Tw := Tw_of 950 (by decide +kernel) rfl
theorem tw_im_X6_addGroup : (Jvm.Cond.instanceMethod ({ cls := "FleetSettingsModel", name := "addGroup", desc := "(I)I" } : Jvm.MethodName)) ∈ Tw := Tw_of 951 (by decide +kernel) rfl
theorem tw_sel_X6_addGroup : (Jvm.Cond.selects "FleetSettingsModel" ({ cls := "FleetSettingsModel", name := "addGroup", desc := "(I)I" } : Jvm.MethodName) ({ cls := "FleetSettingsModel", name := "addGroup", desc := "(I)I" } : Jvm.MethodName)) ∈ Tw := Tw_of 952 (by decide +kernel) rfl
theorem tw_code_X6_addGroup : (Jvm.Cond.code ({ cls := "FleetSettingsModel", name := "addGroup", desc := "(I)I" } : Jvm.MethodName) prog_8_method_31_code (2 : Nat) (Option.some Jvm.ClassFile.FieldType.int)) ∈ Tw := Tw_of 953 (by decide +kernel) rfl
theorem tw_ml_X6_87 : (Jvm.Cond.methodLink "FleetSettingsModel" (87 : Nat) ({ cls := "FleetSettingsModel", name := "isGroup", desc := "(I)Z" } : Jvm.MethodName)) ∈ Tw := Tw_of 954 (by decide +kernel) rfl
theorem tw_im_X6_isGroup : (Jvm.Cond.instanceMethod ({ cls := "FleetSettingsModel", name := "isGroup", desc := "(I)Z" } : Jvm.MethodName)) ∈ Tw := Tw_of 956 (by decide +kernel) rfl
theorem tw_code_X6_isGroup : (Jvm.Cond.code ({ cls := "FleetSettingsModel", name := "isGroup", desc := "(I)Z" } : Jvm.MethodName) prog_8_method_7_code (2 : Nat) (Option.some Jvm.ClassFile.FieldType.boolean)) ∈ Tw := Tw_of 957 (by decide +kernel) rfl
theorem tw_ml_L_139 : (Jvm.Cond.methodLink "FleetSettingsLaw" (139 : Nat) ({ cls := "FleetSettingsModel", name := "addMachine", desc := "(I)I" } : Jvm.MethodName)) ∈ Tw := Tw_of 958 (by decide +kernel) rfl
theorem tw_im_X6_addMachine : (Jvm.Cond.instanceMethod ({ cls := "FleetSettingsModel", name := "addMachine", desc := "(I)I" } : Jvm.MethodName)) ∈ Tw := Tw_of 959 (by decide +kernel) rfl
theorem tw_sel_X6_addMachine : (Jvm.Cond.selects "FleetSettingsModel" ({ cls := "FleetSettingsModel", name := "addMachine", desc := "(I)I" } : Jvm.MethodName) ({ cls := "FleetSettingsModel", name := "addMachine", desc := "(I)I" } : Jvm.MethodName)) ∈ Tw := Tw_of 960 (by decide +kernel) rfl
theorem tw_code_X6_addMachine : (Jvm.Cond.code ({ cls := "FleetSettingsModel", name := "addMachine", desc := "(I)I" } : Jvm.MethodName) prog_8_method_32_code (2 : Nat) (Option.some Jvm.ClassFile.FieldType.int)) ∈ Tw := Tw_of 961 (by decide +kernel) rfl
theorem tw_ml_L_142 : (Jvm.Cond.methodLink "FleetSettingsLaw" (142 : Nat) ({ cls := "FleetSettingsModel", name := "moveMachine", desc := "(II)I" } : Jvm.MethodName)) ∈ Tw := Tw_of 962 (by decide +kernel) rfl
theorem tw_im_X6_moveMachine : (Jvm.Cond.instanceMethod ({ cls := "FleetSettingsModel", name := "moveMachine", desc := "(II)I" } : Jvm.MethodName)) ∈ Tw := Tw_of 963 (by decide +kernel) rfl
theorem tw_sel_X6_moveMachine : (Jvm.Cond.selects "FleetSettingsModel" ({ cls := "FleetSettingsModel", name := "moveMachine", desc := "(II)I" } : Jvm.MethodName) ({ cls := "FleetSettingsModel", name := "moveMachine", desc := "(II)I" } : Jvm.MethodName)) ∈ Tw := Tw_of 964 (by decide +kernel) rfl
theorem tw_code_X6_moveMachine : (Jvm.Cond.code ({ cls := "FleetSettingsModel", name := "moveMachine", desc := "(II)I" } : Jvm.MethodName) prog_8_method_34_code (6 : Nat) (Option.some Jvm.ClassFile.FieldType.int)) ∈ Tw := Tw_of 965 (by decide +kernel) rfl
theorem tw_ml_X6_145 : (Jvm.Cond.methodLink "FleetSettingsModel" (145 : Nat) ({ cls := "FleetSettingsModel", name := "isMachine", desc := "(I)Z" } : Jvm.MethodName)) ∈ Tw := Tw_of 966 (by decide +kernel) rfl
theorem tw_im_X6_isMachine : (Jvm.Cond.instanceMethod ({ cls := "FleetSettingsModel", name := "isMachine", desc := "(I)Z" } : Jvm.MethodName)) ∈ Tw := Tw_of 968 (by decide +kernel) rfl
theorem tw_code_X6_isMachine : (Jvm.Cond.code ({ cls := "FleetSettingsModel", name := "isMachine", desc := "(I)Z" } : Jvm.MethodName) prog_8_method_8_code (2 : Nat) (Option.some Jvm.ClassFile.FieldType.boolean)) ∈ Tw := Tw_of 969 (by decide +kernel) rfl
theorem tw_ml_X6_148 : (Jvm.Cond.methodLink "FleetSettingsModel" (148 : Nat) ({ cls := "FleetSettingsModel", name := "isOver", desc := "(II)Z" } : Jvm.MethodName)) ∈ Tw := Tw_of 970 (by decide +kernel) rfl
theorem tw_im_X6_isOver : (Jvm.Cond.instanceMethod ({ cls := "FleetSettingsModel", name := "isOver", desc := "(II)Z" } : Jvm.MethodName)) ∈ Tw := Tw_of 972 (by decide +kernel) rfl
theorem tw_code_X6_isOver : (Jvm.Cond.code ({ cls := "FleetSettingsModel", name := "isOver", desc := "(II)Z" } : Jvm.MethodName) prog_8_method_33_code (4 : Nat) (Option.some Jvm.ClassFile.FieldType.boolean)) ∈ Tw := Tw_of 973 (by decide +kernel) rfl
theorem tw_ml_L_145 : (Jvm.Cond.methodLink "FleetSettingsLaw" (145 : Nat) ({ cls := "FleetSettingsModel", name := "work", desc := "(II)I" } : Jvm.MethodName)) ∈ Tw := Tw_of 974 (by decide +kernel) rfl
theorem tw_im_X6_work : (Jvm.Cond.instanceMethod ({ cls := "FleetSettingsModel", name := "work", desc := "(II)I" } : Jvm.MethodName)) ∈ Tw := Tw_of 975 (by decide +kernel) rfl
theorem tw_sel_X6_work : (Jvm.Cond.selects "FleetSettingsModel" ({ cls := "FleetSettingsModel", name := "work", desc := "(II)I" } : Jvm.MethodName) ({ cls := "FleetSettingsModel", name := "work", desc := "(II)I" } : Jvm.MethodName)) ∈ Tw := Tw_of 976 (by decide +kernel) rfl
theorem tw_code_X6_work : (Jvm.Cond.code ({ cls := "FleetSettingsModel", name := "work", desc := "(II)I" } : Jvm.MethodName) prog_8_method_35_code (3 : Nat) (Option.some Jvm.ClassFile.FieldType.int)) ∈ Tw := Tw_of 977 (by decide +kernel) rfl
theorem tw_ml_L_148 : (Jvm.Cond.methodLink "FleetSettingsLaw" (148 : Nat) ({ cls := "FleetSettingsModel", name := "setPace", desc := "(I)I" } : Jvm.MethodName)) ∈ Tw := Tw_of 978 (by decide +kernel) rfl
theorem tw_im_X6_setPace : (Jvm.Cond.instanceMethod ({ cls := "FleetSettingsModel", name := "setPace", desc := "(I)I" } : Jvm.MethodName)) ∈ Tw := Tw_of 979 (by decide +kernel) rfl
theorem tw_sel_X6_setPace : (Jvm.Cond.selects "FleetSettingsModel" ({ cls := "FleetSettingsModel", name := "setPace", desc := "(I)I" } : Jvm.MethodName) ({ cls := "FleetSettingsModel", name := "setPace", desc := "(I)I" } : Jvm.MethodName)) ∈ Tw := Tw_of 980 (by decide +kernel) rfl
theorem tw_code_X6_setPace : (Jvm.Cond.code ({ cls := "FleetSettingsModel", name := "setPace", desc := "(I)I" } : Jvm.MethodName) prog_8_method_36_code (3 : Nat) (Option.some Jvm.ClassFile.FieldType.int)) ∈ Tw := Tw_of 981 (by decide +kernel) rfl
theorem tw_ml_L_151 : (Jvm.Cond.methodLink "FleetSettingsLaw" (151 : Nat) ({ cls := "FleetSettingsModel", name := "isBusy", desc := "(I)Z" } : Jvm.MethodName)) ∈ Tw := Tw_of 982 (by decide +kernel) rfl
theorem tw_im_X6_isBusy : (Jvm.Cond.instanceMethod ({ cls := "FleetSettingsModel", name := "isBusy", desc := "(I)Z" } : Jvm.MethodName)) ∈ Tw := Tw_of 983 (by decide +kernel) rfl
theorem tw_sel_X6_isBusy : (Jvm.Cond.selects "FleetSettingsModel" ({ cls := "FleetSettingsModel", name := "isBusy", desc := "(I)Z" } : Jvm.MethodName) ({ cls := "FleetSettingsModel", name := "isBusy", desc := "(I)Z" } : Jvm.MethodName)) ∈ Tw := Tw_of 984 (by decide +kernel) rfl
theorem tw_code_X6_isBusy : (Jvm.Cond.code ({ cls := "FleetSettingsModel", name := "isBusy", desc := "(I)Z" } : Jvm.MethodName) prog_8_method_37_code (2 : Nat) (Option.some Jvm.ClassFile.FieldType.boolean)) ∈ Tw := Tw_of 985 (by decide +kernel) rfl
theorem tw_ml_L_154 : (Jvm.Cond.methodLink "FleetSettingsLaw" (154 : Nat) ({ cls := "FleetSettingsModel", name := "isStopped", desc := "(I)Z" } : Jvm.MethodName)) ∈ Tw := Tw_of 986 (by decide +kernel) rfl
theorem tw_im_X6_isStopped : (Jvm.Cond.instanceMethod ({ cls := "FleetSettingsModel", name := "isStopped", desc := "(I)Z" } : Jvm.MethodName)) ∈ Tw := Tw_of 987 (by decide +kernel) rfl
theorem tw_sel_X6_isStopped : (Jvm.Cond.selects "FleetSettingsModel" ({ cls := "FleetSettingsModel", name := "isStopped", desc := "(I)Z" } : Jvm.MethodName) ({ cls := "FleetSettingsModel", name := "isStopped", desc := "(I)Z" } : Jvm.MethodName)) ∈ Tw := Tw_of 988 (by decide +kernel) rfl
theorem tw_code_X6_isStopped : (Jvm.Cond.code ({ cls := "FleetSettingsModel", name := "isStopped", desc := "(I)Z" } : Jvm.MethodName) prog_8_method_38_code (2 : Nat) (Option.some Jvm.ClassFile.FieldType.boolean)) ∈ Tw := Tw_of 989 (by decide +kernel) rfl
theorem tw_ml_L_158 : (Jvm.Cond.methodLink "FleetSettingsLaw" (158 : Nat) ({ cls := "FleetSettingsModel", name := "propose", desc := "(IIII)I" } : Jvm.MethodName)) ∈ Tw := Tw_of 990 (by decide +kernel) rfl
theorem tw_im_X6_propose : (Jvm.Cond.instanceMethod ({ cls := "FleetSettingsModel", name := "propose", desc := "(IIII)I" } : Jvm.MethodName)) ∈ Tw := Tw_of 991 (by decide +kernel) rfl
theorem tw_sel_X6_propose : (Jvm.Cond.selects "FleetSettingsModel" ({ cls := "FleetSettingsModel", name := "propose", desc := "(IIII)I" } : Jvm.MethodName) ({ cls := "FleetSettingsModel", name := "propose", desc := "(IIII)I" } : Jvm.MethodName)) ∈ Tw := Tw_of 992 (by decide +kernel) rfl
theorem tw_code_X6_propose : (Jvm.Cond.code ({ cls := "FleetSettingsModel", name := "propose", desc := "(IIII)I" } : Jvm.MethodName) prog_8_method_39_code (5 : Nat) (Option.some Jvm.ClassFile.FieldType.int)) ∈ Tw := Tw_of 993 (by decide +kernel) rfl
theorem tw_ml_X6_151 : (Jvm.Cond.methodLink "FleetSettingsModel" (151 : Nat) ({ cls := "FleetSettingsModel", name := "isPlace", desc := "(I)Z" } : Jvm.MethodName)) ∈ Tw := Tw_of 994 (by decide +kernel) rfl
theorem tw_im_X6_isPlace : (Jvm.Cond.instanceMethod ({ cls := "FleetSettingsModel", name := "isPlace", desc := "(I)Z" } : Jvm.MethodName)) ∈ Tw := Tw_of 996 (by decide +kernel) rfl
theorem tw_code_X6_isPlace : (Jvm.Cond.code ({ cls := "FleetSettingsModel", name := "isPlace", desc := "(I)Z" } : Jvm.MethodName) prog_8_method_10_code (2 : Nat) (Option.some Jvm.ClassFile.FieldType.boolean)) ∈ Tw := Tw_of 997 (by decide +kernel) rfl
theorem tw_ml_X6_154 : (Jvm.Cond.methodLink "FleetSettingsModel" (154 : Nat) ({ cls := "FleetSettingsModel", name := "isKey", desc := "(I)Z" } : Jvm.MethodName)) ∈ Tw := Tw_of 998 (by decide +kernel) rfl
theorem tw_st_X6_isKey : (Jvm.Cond.static ({ cls := "FleetSettingsModel", name := "isKey", desc := "(I)Z" } : Jvm.MethodName)) ∈ Tw := Tw_of 999 (by decide +kernel) rfl
theorem tw_code_X6_isKey : (Jvm.Cond.code ({ cls := "FleetSettingsModel", name := "isKey", desc := "(I)Z" } : Jvm.MethodName) prog_8_method_6_code (1 : Nat) (Option.some Jvm.ClassFile.FieldType.boolean)) ∈ Tw := Tw_of 1000 (by decide +kernel) rfl
theorem tw_ml_L_161 : (Jvm.Cond.methodLink "FleetSettingsLaw" (161 : Nat) ({ cls := "FleetSettingsModel", name := "approve", desc := "(II)I" } : Jvm.MethodName)) ∈ Tw := Tw_of 1001 (by decide +kernel) rfl
theorem tw_im_X6_approve : (Jvm.Cond.instanceMethod ({ cls := "FleetSettingsModel", name := "approve", desc := "(II)I" } : Jvm.MethodName)) ∈ Tw := Tw_of 1002 (by decide +kernel) rfl
theorem tw_sel_X6_approve : (Jvm.Cond.selects "FleetSettingsModel" ({ cls := "FleetSettingsModel", name := "approve", desc := "(II)I" } : Jvm.MethodName) ({ cls := "FleetSettingsModel", name := "approve", desc := "(II)I" } : Jvm.MethodName)) ∈ Tw := Tw_of 1003 (by decide +kernel) rfl
theorem tw_code_X6_approve : (Jvm.Cond.code ({ cls := "FleetSettingsModel", name := "approve", desc := "(II)I" } : Jvm.MethodName) prog_8_method_40_code (5 : Nat) (Option.some Jvm.ClassFile.FieldType.int)) ∈ Tw := Tw_of 1004 (by decide +kernel) rfl
theorem tw_ml_X6_157 : (Jvm.Cond.methodLink "FleetSettingsModel" (157 : Nat) ({ cls := "FleetSettingsModel", name := "isChange", desc := "(I)Z" } : Jvm.MethodName)) ∈ Tw := Tw_of 1005 (by decide +kernel) rfl
theorem tw_im_X6_isChange : (Jvm.Cond.instanceMethod ({ cls := "FleetSettingsModel", name := "isChange", desc := "(I)Z" } : Jvm.MethodName)) ∈ Tw := Tw_of 1007 (by decide +kernel) rfl
theorem tw_code_X6_isChange : (Jvm.Cond.code ({ cls := "FleetSettingsModel", name := "isChange", desc := "(I)Z" } : Jvm.MethodName) prog_8_method_9_code (2 : Nat) (Option.some Jvm.ClassFile.FieldType.boolean)) ∈ Tw := Tw_of 1008 (by decide +kernel) rfl
theorem tw_ml_L_164 : (Jvm.Cond.methodLink "FleetSettingsLaw" (164 : Nat) ({ cls := "FleetSettingsModel", name := "withdraw", desc := "(I)V" } : Jvm.MethodName)) ∈ Tw := Tw_of 1009 (by decide +kernel) rfl
theorem tw_im_X6_withdraw : (Jvm.Cond.instanceMethod ({ cls := "FleetSettingsModel", name := "withdraw", desc := "(I)V" } : Jvm.MethodName)) ∈ Tw := Tw_of 1010 (by decide +kernel) rfl
theorem tw_sel_X6_withdraw : (Jvm.Cond.selects "FleetSettingsModel" ({ cls := "FleetSettingsModel", name := "withdraw", desc := "(I)V" } : Jvm.MethodName) ({ cls := "FleetSettingsModel", name := "withdraw", desc := "(I)V" } : Jvm.MethodName)) ∈ Tw := Tw_of 1011 (by decide +kernel) rfl
theorem tw_code_X6_withdraw : (Jvm.Cond.code ({ cls := "FleetSettingsModel", name := "withdraw", desc := "(I)V" } : Jvm.MethodName) prog_8_method_41_code (2 : Nat) (Option.none : Option Jvm.ClassFile.FieldType)) ∈ Tw := Tw_of 1012 (by decide +kernel) rfl
theorem tw_ml_L_168 : (Jvm.Cond.methodLink "FleetSettingsLaw" (168 : Nat) ({ cls := "FleetSettingsModel", name := "exclude", desc := "(IIZ)Z" } : Jvm.MethodName)) ∈ Tw := Tw_of 1013 (by decide +kernel) rfl
theorem tw_im_X6_exclude : (Jvm.Cond.instanceMethod ({ cls := "FleetSettingsModel", name := "exclude", desc := "(IIZ)Z" } : Jvm.MethodName)) ∈ Tw := Tw_of 1014 (by decide +kernel) rfl
theorem tw_sel_X6_exclude : (Jvm.Cond.selects "FleetSettingsModel" ({ cls := "FleetSettingsModel", name := "exclude", desc := "(IIZ)Z" } : Jvm.MethodName) ({ cls := "FleetSettingsModel", name := "exclude", desc := "(IIZ)Z" } : Jvm.MethodName)) ∈ Tw := Tw_of 1015 (by decide +kernel) rfl
theorem tw_code_X6_exclude : (Jvm.Cond.code ({ cls := "FleetSettingsModel", name := "exclude", desc := "(IIZ)Z" } : Jvm.MethodName) prog_8_method_42_code (5 : Nat) (Option.some Jvm.ClassFile.FieldType.boolean)) ∈ Tw := Tw_of 1016 (by decide +kernel) rfl
theorem tw_ml_L_172 : (Jvm.Cond.methodLink "FleetSettingsLaw" (172 : Nat) ({ cls := "FleetSettingsModel", name := "changes", desc := "()I" } : Jvm.MethodName)) ∈ Tw := Tw_of 1017 (by decide +kernel) rfl
theorem tw_im_X6_changes : (Jvm.Cond.instanceMethod ({ cls := "FleetSettingsModel", name := "changes", desc := "()I" } : Jvm.MethodName)) ∈ Tw := Tw_of 1018 (by decide +kernel) rfl
theorem tw_sel_X6_changes : (Jvm.Cond.selects "FleetSettingsModel" ({ cls := "FleetSettingsModel", name := "changes", desc := "()I" } : Jvm.MethodName) ({ cls := "FleetSettingsModel", name := "changes", desc := "()I" } : Jvm.MethodName)) ∈ Tw := Tw_of 1019 (by decide +kernel) rfl
theorem tw_code_X6_changes : (Jvm.Cond.code ({ cls := "FleetSettingsModel", name := "changes", desc := "()I" } : Jvm.MethodName) prog_8_method_43_code (1 : Nat) (Option.some Jvm.ClassFile.FieldType.int)) ∈ Tw := Tw_of 1020 (by decide +kernel) rfl
theorem tw_ml_L_175 : (Jvm.Cond.methodLink "FleetSettingsLaw" (175 : Nat) ({ cls := "FleetSettingsModel", name := "state", desc := "(I)I" } : Jvm.MethodName)) ∈ Tw := Tw_of 1021 (by decide +kernel) rfl
theorem tw_im_X6_state : (Jvm.Cond.instanceMethod ({ cls := "FleetSettingsModel", name := "state", desc := "(I)I" } : Jvm.MethodName)) ∈ Tw := Tw_of 1022 (by decide +kernel) rfl
theorem tw_sel_X6_state : (Jvm.Cond.selects "FleetSettingsModel" ({ cls := "FleetSettingsModel", name := "state", desc := "(I)I" } : Jvm.MethodName) ({ cls := "FleetSettingsModel", name := "state", desc := "(I)I" } : Jvm.MethodName)) ∈ Tw := Tw_of 1023 (by decide +kernel) rfl
theorem tw_code_X6_state : (Jvm.Cond.code ({ cls := "FleetSettingsModel", name := "state", desc := "(I)I" } : Jvm.MethodName) prog_8_method_44_code (2 : Nat) (Option.some Jvm.ClassFile.FieldType.int)) ∈ Tw := Tw_of 1024 (by decide +kernel) rfl
theorem tw_ml_L_178 : (Jvm.Cond.methodLink "FleetSettingsLaw" (178 : Nat) ({ cls := "FleetSettingsModel", name := "rank", desc := "(I)I" } : Jvm.MethodName)) ∈ Tw := Tw_of 1025 (by decide +kernel) rfl
theorem tw_im_X6_rank : (Jvm.Cond.instanceMethod ({ cls := "FleetSettingsModel", name := "rank", desc := "(I)I" } : Jvm.MethodName)) ∈ Tw := Tw_of 1026 (by decide +kernel) rfl
theorem tw_sel_X6_rank : (Jvm.Cond.selects "FleetSettingsModel" ({ cls := "FleetSettingsModel", name := "rank", desc := "(I)I" } : Jvm.MethodName) ({ cls := "FleetSettingsModel", name := "rank", desc := "(I)I" } : Jvm.MethodName)) ∈ Tw := Tw_of 1027 (by decide +kernel) rfl
theorem tw_code_X6_rank : (Jvm.Cond.code ({ cls := "FleetSettingsModel", name := "rank", desc := "(I)I" } : Jvm.MethodName) prog_8_method_45_code (2 : Nat) (Option.some Jvm.ClassFile.FieldType.int)) ∈ Tw := Tw_of 1028 (by decide +kernel) rfl
theorem tw_ml_L_181 : (Jvm.Cond.methodLink "FleetSettingsLaw" (181 : Nat) ({ cls := "FleetSettingsModel", name := "approvals", desc := "(I)I" } : Jvm.MethodName)) ∈ Tw := Tw_of 1029 (by decide +kernel) rfl
theorem tw_im_X6_approvals : (Jvm.Cond.instanceMethod ({ cls := "FleetSettingsModel", name := "approvals", desc := "(I)I" } : Jvm.MethodName)) ∈ Tw := Tw_of 1030 (by decide +kernel) rfl
theorem tw_sel_X6_approvals : (Jvm.Cond.selects "FleetSettingsModel" ({ cls := "FleetSettingsModel", name := "approvals", desc := "(I)I" } : Jvm.MethodName) ({ cls := "FleetSettingsModel", name := "approvals", desc := "(I)I" } : Jvm.MethodName)) ∈ Tw := Tw_of 1031 (by decide +kernel) rfl
theorem tw_code_X6_approvals : (Jvm.Cond.code ({ cls := "FleetSettingsModel", name := "approvals", desc := "(I)I" } : Jvm.MethodName) prog_8_method_46_code (2 : Nat) (Option.some Jvm.ClassFile.FieldType.int)) ∈ Tw := Tw_of 1032 (by decide +kernel) rfl
theorem tw_ml_L_184 : (Jvm.Cond.methodLink "FleetSettingsLaw" (184 : Nat) ({ cls := "FleetSettingsModel", name := "told", desc := "(II)I" } : Jvm.MethodName)) ∈ Tw := Tw_of 1033 (by decide +kernel) rfl
theorem tw_im_X6_told : (Jvm.Cond.instanceMethod ({ cls := "FleetSettingsModel", name := "told", desc := "(II)I" } : Jvm.MethodName)) ∈ Tw := Tw_of 1034 (by decide +kernel) rfl
theorem tw_sel_X6_told : (Jvm.Cond.selects "FleetSettingsModel" ({ cls := "FleetSettingsModel", name := "told", desc := "(II)I" } : Jvm.MethodName) ({ cls := "FleetSettingsModel", name := "told", desc := "(II)I" } : Jvm.MethodName)) ∈ Tw := Tw_of 1035 (by decide +kernel) rfl
theorem tw_code_X6_told : (Jvm.Cond.code ({ cls := "FleetSettingsModel", name := "told", desc := "(II)I" } : Jvm.MethodName) prog_8_method_47_code (4 : Nat) (Option.some Jvm.ClassFile.FieldType.int)) ∈ Tw := Tw_of 1036 (by decide +kernel) rfl
theorem tw_ml_L_188 : (Jvm.Cond.methodLink "FleetSettingsLaw" (188 : Nat) ({ cls := "FleetSettingsModel", name := "taken", desc := "(III)I" } : Jvm.MethodName)) ∈ Tw := Tw_of 1037 (by decide +kernel) rfl
theorem tw_im_X6_taken : (Jvm.Cond.instanceMethod ({ cls := "FleetSettingsModel", name := "taken", desc := "(III)I" } : Jvm.MethodName)) ∈ Tw := Tw_of 1038 (by decide +kernel) rfl
theorem tw_sel_X6_taken : (Jvm.Cond.selects "FleetSettingsModel" ({ cls := "FleetSettingsModel", name := "taken", desc := "(III)I" } : Jvm.MethodName) ({ cls := "FleetSettingsModel", name := "taken", desc := "(III)I" } : Jvm.MethodName)) ∈ Tw := Tw_of 1039 (by decide +kernel) rfl
theorem tw_code_X6_taken : (Jvm.Cond.code ({ cls := "FleetSettingsModel", name := "taken", desc := "(III)I" } : Jvm.MethodName) prog_8_method_48_code (4 : Nat) (Option.some Jvm.ClassFile.FieldType.int)) ∈ Tw := Tw_of 1040 (by decide +kernel) rfl
theorem tw_ml_L_191 : (Jvm.Cond.methodLink "FleetSettingsLaw" (191 : Nat) ({ cls := "FleetSettingsModel", name := "runs", desc := "(II)I" } : Jvm.MethodName)) ∈ Tw := Tw_of 1041 (by decide +kernel) rfl
theorem tw_im_X6_runs : (Jvm.Cond.instanceMethod ({ cls := "FleetSettingsModel", name := "runs", desc := "(II)I" } : Jvm.MethodName)) ∈ Tw := Tw_of 1042 (by decide +kernel) rfl
theorem tw_sel_X6_runs : (Jvm.Cond.selects "FleetSettingsModel" ({ cls := "FleetSettingsModel", name := "runs", desc := "(II)I" } : Jvm.MethodName) ({ cls := "FleetSettingsModel", name := "runs", desc := "(II)I" } : Jvm.MethodName)) ∈ Tw := Tw_of 1043 (by decide +kernel) rfl
theorem tw_code_X6_runs : (Jvm.Cond.code ({ cls := "FleetSettingsModel", name := "runs", desc := "(II)I" } : Jvm.MethodName) prog_8_method_50_code (3 : Nat) (Option.some Jvm.ClassFile.FieldType.int)) ∈ Tw := Tw_of 1044 (by decide +kernel) rfl
theorem tw_ml_X6_167 : (Jvm.Cond.methodLink "FleetSettingsModel" (167 : Nat) ({ cls := "FleetSettingsModel", name := "isAsked", desc := "(IIZ)Z" } : Jvm.MethodName)) ∈ Tw := Tw_of 1045 (by decide +kernel) rfl
theorem tw_im_X6_isAsked : (Jvm.Cond.instanceMethod ({ cls := "FleetSettingsModel", name := "isAsked", desc := "(IIZ)Z" } : Jvm.MethodName)) ∈ Tw := Tw_of 1047 (by decide +kernel) rfl
theorem tw_code_X6_isAsked : (Jvm.Cond.code ({ cls := "FleetSettingsModel", name := "isAsked", desc := "(IIZ)Z" } : Jvm.MethodName) prog_8_method_49_code (4 : Nat) (Option.some Jvm.ClassFile.FieldType.boolean)) ∈ Tw := Tw_of 1048 (by decide +kernel) rfl
theorem tw_ml_X6_163 : (Jvm.Cond.methodLink "FleetSettingsModel" (163 : Nat) ({ cls := "FleetSettingsModel", name := "looks", desc := "(IZ)V" } : Jvm.MethodName)) ∈ Tw := Tw_of 1049 (by decide +kernel) rfl
theorem tw_im_X6_looks : (Jvm.Cond.instanceMethod ({ cls := "FleetSettingsModel", name := "looks", desc := "(IZ)V" } : Jvm.MethodName)) ∈ Tw := Tw_of 1051 (by decide +kernel) rfl
theorem tw_code_X6_looks : (Jvm.Cond.code ({ cls := "FleetSettingsModel", name := "looks", desc := "(IZ)V" } : Jvm.MethodName) prog_8_method_16_code (9 : Nat) (Option.none : Option Jvm.ClassFile.FieldType)) ∈ Tw := Tw_of 1052 (by decide +kernel) rfl
theorem tw_ml_X6_171 : (Jvm.Cond.methodLink "FleetSettingsModel" (171 : Nat) ({ cls := "FleetSettingsModel", name := "isHidden", desc := "(I)Z" } : Jvm.MethodName)) ∈ Tw := Tw_of 1053 (by decide +kernel) rfl
theorem tw_im_X6_isHidden : (Jvm.Cond.instanceMethod ({ cls := "FleetSettingsModel", name := "isHidden", desc := "(I)Z" } : Jvm.MethodName)) ∈ Tw := Tw_of 1055 (by decide +kernel) rfl
theorem tw_code_X6_isHidden : (Jvm.Cond.code ({ cls := "FleetSettingsModel", name := "isHidden", desc := "(I)Z" } : Jvm.MethodName) prog_8_method_17_code (5 : Nat) (Option.some Jvm.ClassFile.FieldType.boolean)) ∈ Tw := Tw_of 1056 (by decide +kernel) rfl
theorem tw_ml_L_194 : (Jvm.Cond.methodLink "FleetSettingsLaw" (194 : Nat) ({ cls := "FleetSettingsModel", name := "layerOf", desc := "(II)I" } : Jvm.MethodName)) ∈ Tw := Tw_of 1057 (by decide +kernel) rfl
theorem tw_im_X6_layerOf : (Jvm.Cond.instanceMethod ({ cls := "FleetSettingsModel", name := "layerOf", desc := "(II)I" } : Jvm.MethodName)) ∈ Tw := Tw_of 1058 (by decide +kernel) rfl
theorem tw_sel_X6_layerOf : (Jvm.Cond.selects "FleetSettingsModel" ({ cls := "FleetSettingsModel", name := "layerOf", desc := "(II)I" } : Jvm.MethodName) ({ cls := "FleetSettingsModel", name := "layerOf", desc := "(II)I" } : Jvm.MethodName)) ∈ Tw := Tw_of 1059 (by decide +kernel) rfl
theorem tw_code_X6_layerOf : (Jvm.Cond.code ({ cls := "FleetSettingsModel", name := "layerOf", desc := "(II)I" } : Jvm.MethodName) prog_8_method_51_code (3 : Nat) (Option.some Jvm.ClassFile.FieldType.int)) ∈ Tw := Tw_of 1060 (by decide +kernel) rfl
theorem tw_ml_L_197 : (Jvm.Cond.methodLink "FleetSettingsLaw" (197 : Nat) ({ cls := "FleetSettingsModel", name := "due", desc := "(II)I" } : Jvm.MethodName)) ∈ Tw := Tw_of 1061 (by decide +kernel) rfl
theorem tw_im_X6_due : (Jvm.Cond.instanceMethod ({ cls := "FleetSettingsModel", name := "due", desc := "(II)I" } : Jvm.MethodName)) ∈ Tw := Tw_of 1062 (by decide +kernel) rfl
theorem tw_sel_X6_due : (Jvm.Cond.selects "FleetSettingsModel" ({ cls := "FleetSettingsModel", name := "due", desc := "(II)I" } : Jvm.MethodName) ({ cls := "FleetSettingsModel", name := "due", desc := "(II)I" } : Jvm.MethodName)) ∈ Tw := Tw_of 1063 (by decide +kernel) rfl
theorem tw_code_X6_due : (Jvm.Cond.code ({ cls := "FleetSettingsModel", name := "due", desc := "(II)I" } : Jvm.MethodName) prog_8_method_53_code (3 : Nat) (Option.some Jvm.ClassFile.FieldType.int)) ∈ Tw := Tw_of 1064 (by decide +kernel) rfl
theorem tw_ml_X6_174 : (Jvm.Cond.methodLink "FleetSettingsModel" (174 : Nat) ({ cls := "FleetSettingsModel", name := "isDue", desc := "(II)I" } : Jvm.MethodName)) ∈ Tw := Tw_of 1065 (by decide +kernel) rfl
theorem tw_im_X6_isDue : (Jvm.Cond.instanceMethod ({ cls := "FleetSettingsModel", name := "isDue", desc := "(II)I" } : Jvm.MethodName)) ∈ Tw := Tw_of 1067 (by decide +kernel) rfl
theorem tw_code_X6_isDue : (Jvm.Cond.code ({ cls := "FleetSettingsModel", name := "isDue", desc := "(II)I" } : Jvm.MethodName) prog_8_method_52_code (3 : Nat) (Option.some Jvm.ClassFile.FieldType.int)) ∈ Tw := Tw_of 1068 (by decide +kernel) rfl
theorem tw_ml_L_200 : (Jvm.Cond.methodLink "FleetSettingsLaw" (200 : Nat) ({ cls := "FleetSettingsModel", name := "dueAnew", desc := "(II)I" } : Jvm.MethodName)) ∈ Tw := Tw_of 1069 (by decide +kernel) rfl
theorem tw_im_X6_dueAnew : (Jvm.Cond.instanceMethod ({ cls := "FleetSettingsModel", name := "dueAnew", desc := "(II)I" } : Jvm.MethodName)) ∈ Tw := Tw_of 1070 (by decide +kernel) rfl
theorem tw_sel_X6_dueAnew : (Jvm.Cond.selects "FleetSettingsModel" ({ cls := "FleetSettingsModel", name := "dueAnew", desc := "(II)I" } : Jvm.MethodName) ({ cls := "FleetSettingsModel", name := "dueAnew", desc := "(II)I" } : Jvm.MethodName)) ∈ Tw := Tw_of 1071 (by decide +kernel) rfl
theorem tw_code_X6_dueAnew : (Jvm.Cond.code ({ cls := "FleetSettingsModel", name := "dueAnew", desc := "(II)I" } : Jvm.MethodName) prog_8_method_54_code (3 : Nat) (Option.some Jvm.ClassFile.FieldType.int)) ∈ Tw := Tw_of 1072 (by decide +kernel) rfl
theorem tw_ml_L_203 : (Jvm.Cond.methodLink "FleetSettingsLaw" (203 : Nat) ({ cls := "FleetSettingsModel", name := "behind", desc := "(I)I" } : Jvm.MethodName)) ∈ Tw := Tw_of 1073 (by decide +kernel) rfl
theorem tw_im_X6_behind : (Jvm.Cond.instanceMethod ({ cls := "FleetSettingsModel", name := "behind", desc := "(I)I" } : Jvm.MethodName)) ∈ Tw := Tw_of 1074 (by decide +kernel) rfl
theorem tw_sel_X6_behind : (Jvm.Cond.selects "FleetSettingsModel" ({ cls := "FleetSettingsModel", name := "behind", desc := "(I)I" } : Jvm.MethodName) ({ cls := "FleetSettingsModel", name := "behind", desc := "(I)I" } : Jvm.MethodName)) ∈ Tw := Tw_of 1075 (by decide +kernel) rfl
theorem tw_code_X6_behind : (Jvm.Cond.code ({ cls := "FleetSettingsModel", name := "behind", desc := "(I)I" } : Jvm.MethodName) prog_8_method_55_code (4 : Nat) (Option.some Jvm.ClassFile.FieldType.int)) ∈ Tw := Tw_of 1076 (by decide +kernel) rfl
theorem tw_ml_L_206 : (Jvm.Cond.methodLink "FleetSettingsLaw" (206 : Nat) ({ cls := "FleetSettingsModel", name := "hidden", desc := "(I)I" } : Jvm.MethodName)) ∈ Tw := Tw_of 1077 (by decide +kernel) rfl
theorem tw_im_X6_hidden : (Jvm.Cond.instanceMethod ({ cls := "FleetSettingsModel", name := "hidden", desc := "(I)I" } : Jvm.MethodName)) ∈ Tw := Tw_of 1078 (by decide +kernel) rfl
theorem tw_sel_X6_hidden : (Jvm.Cond.selects "FleetSettingsModel" ({ cls := "FleetSettingsModel", name := "hidden", desc := "(I)I" } : Jvm.MethodName) ({ cls := "FleetSettingsModel", name := "hidden", desc := "(I)I" } : Jvm.MethodName)) ∈ Tw := Tw_of 1079 (by decide +kernel) rfl
theorem tw_code_X6_hidden : (Jvm.Cond.code ({ cls := "FleetSettingsModel", name := "hidden", desc := "(I)I" } : Jvm.MethodName) prog_8_method_56_code (4 : Nat) (Option.some Jvm.ClassFile.FieldType.int)) ∈ Tw := Tw_of 1080 (by decide +kernel) rfl
theorem tw_ml_L_209 : (Jvm.Cond.methodLink "FleetSettingsLaw" (209 : Nat) ({ cls := "FleetSettingsModel", name := "spread", desc := "(I)I" } : Jvm.MethodName)) ∈ Tw := Tw_of 1081 (by decide +kernel) rfl
theorem tw_im_X6_spread : (Jvm.Cond.instanceMethod ({ cls := "FleetSettingsModel", name := "spread", desc := "(I)I" } : Jvm.MethodName)) ∈ Tw := Tw_of 1082 (by decide +kernel) rfl
theorem tw_sel_X6_spread : (Jvm.Cond.selects "FleetSettingsModel" ({ cls := "FleetSettingsModel", name := "spread", desc := "(I)I" } : Jvm.MethodName) ({ cls := "FleetSettingsModel", name := "spread", desc := "(I)I" } : Jvm.MethodName)) ∈ Tw := Tw_of 1083 (by decide +kernel) rfl
theorem tw_code_X6_spread : (Jvm.Cond.code ({ cls := "FleetSettingsModel", name := "spread", desc := "(I)I" } : Jvm.MethodName) prog_8_method_57_code (6 : Nat) (Option.some Jvm.ClassFile.FieldType.int)) ∈ Tw := Tw_of 1084 (by decide +kernel) rfl
theorem tw_ac_long : (Jvm.Cond.arrayClass Jvm.ClassFile.FieldType.long) ∈ Tw := Tw_of 1085 (by decide +kernel) rfl
theorem tw_sel_X5_voidWhatIsNotOld : Cond.selects RX5 yX5_voidWhatIsNotOld yX5_voidWhatIsNotOld ∈ Tw := Tw_of 1 (by decide +kernel) rfl
theorem tw_sel_X5_findHeads : Cond.selects RX5 yX5_findHeads yX5_findHeads ∈ Tw := Tw_of 2 (by decide +kernel) rfl
theorem tw_sel_X5_nearestLayerNotHeld : Cond.selects RX5 yX5_nearestLayerNotHeld yX5_nearestLayerNotHeld ∈ Tw := Tw_of 3 (by decide +kernel) rfl
theorem tw_sel_X5_isTakenNotHeld : Cond.selects RX5 yX5_isTakenNotHeld yX5_isTakenNotHeld ∈ Tw := Tw_of 4 (by decide +kernel) rfl
theorem tw_sel_X5_isChange : Cond.selects RX5 yX5_isChange yX5_isChange ∈ Tw := Tw_of 5 (by decide +kernel) rfl
theorem tw_sel_X5_stepMachines : Cond.selects RX5 yX5_stepMachines yX5_stepMachines ∈ Tw := Tw_of 6 (by decide +kernel) rfl
theorem tw_sel_X5_goBack : Cond.selects RX5 yX5_goBack yX5_goBack ∈ Tw := Tw_of 7 (by decide +kernel) rfl
theorem tw_sel_X5_takeFarthestLayer : Cond.selects RX5 yX5_takeFarthestLayer yX5_takeFarthestLayer ∈ Tw := Tw_of 8 (by decide +kernel) rfl
theorem tw_sel_X5_isBehindIn : Cond.selects RX5 yX5_isBehindIn yX5_isBehindIn ∈ Tw := Tw_of 9 (by decide +kernel) rfl
theorem tw_sel_X5_takeLayer : Cond.selects RX5 yX5_takeLayer yX5_takeLayer ∈ Tw := Tw_of 10 (by decide +kernel) rfl
theorem tw_sel_X5_isAnyBusy : Cond.selects RX5 yX5_isAnyBusy yX5_isAnyBusy ∈ Tw := Tw_of 11 (by decide +kernel) rfl
theorem tw_sel_X5_requireGroup : Cond.selects RX5 yX5_requireGroup yX5_requireGroup ∈ Tw := Tw_of 12 (by decide +kernel) rfl
theorem tw_sel_X2_dropOtherGroups : Cond.selects RX2 yX2_dropOtherGroups yX2_dropOtherGroups ∈ Tw := Tw_of 13 (by decide +kernel) rfl
theorem tw_sel_X2_isLayer : Cond.selects RX2 yX2_isLayer yX2_isLayer ∈ Tw := Tw_of 14 (by decide +kernel) rfl
theorem tw_sel_X2_drop : Cond.selects RX2 yX2_drop yX2_drop ∈ Tw := Tw_of 15 (by decide +kernel) rfl
theorem tw_sel_X5_requireMachine : Cond.selects RX5 yX5_requireMachine yX5_requireMachine ∈ Tw := Tw_of 16 (by decide +kernel) rfl
theorem tw_sel_X5_requirePlace : Cond.selects RX5 yX5_requirePlace yX5_requirePlace ∈ Tw := Tw_of 17 (by decide +kernel) rfl
theorem tw_sel_X5_slotOf : Cond.selects RX5 yX5_slotOf yX5_slotOf ∈ Tw := Tw_of 18 (by decide +kernel) rfl
theorem tw_sel_X5_requireChange : Cond.selects RX5 yX5_requireChange yX5_requireChange ∈ Tw := Tw_of 19 (by decide +kernel) rfl
theorem tw_sel_X5_isOnDuty : Cond.selects RX5 yX5_isOnDuty yX5_isOnDuty ∈ Tw := Tw_of 20 (by decide +kernel) rfl
theorem tw_sel_X5_hold : Cond.selects RX5 yX5_hold yX5_hold ∈ Tw := Tw_of 21 (by decide +kernel) rfl
theorem tw_sel_X5_whatIsToldBy : Cond.selects RX5 yX5_whatIsToldBy yX5_whatIsToldBy ∈ Tw := Tw_of 22 (by decide +kernel) rfl
theorem tw_sel_X5_findRunning : Cond.selects RX5 yX5_findRunning yX5_findRunning ∈ Tw := Tw_of 23 (by decide +kernel) rfl
theorem tw_sel_X5_findOutcome : Cond.selects RX5 yX5_findOutcome yX5_findOutcome ∈ Tw := Tw_of 24 (by decide +kernel) rfl
theorem tw_sel_X5_decide : Cond.selects RX5 yX5_decide yX5_decide ∈ Tw := Tw_of 25 (by decide +kernel) rfl
theorem tw_sel_X3_yields : Cond.selects RX3 yX3_yields yX3_yields ∈ Tw := Tw_of 26 (by decide +kernel) rfl
theorem tw_sel_X5_findHeadsAnew : Cond.selects RX5 yX5_findHeadsAnew yX5_findHeadsAnew ∈ Tw := Tw_of 27 (by decide +kernel) rfl
theorem tw_sel_X0_countGoodAt : Cond.selects RX0 yX0_countGoodAt yX0_countGoodAt ∈ Tw := Tw_of 28 (by decide +kernel) rfl
theorem tw_sel_X6_fails : Cond.selects RX6 yX6_fails yX6_fails ∈ Tw := Tw_of 29 (by decide +kernel) rfl
theorem tw_sel_X6_voids : Cond.selects RX6 yX6_voids yX6_voids ∈ Tw := Tw_of 30 (by decide +kernel) rfl
theorem tw_sel_X6_good : Cond.selects RX6 yX6_good yX6_good ∈ Tw := Tw_of 31 (by decide +kernel) rfl
theorem tw_sel_X6_isHalted : Cond.selects RX6 yX6_isHalted yX6_isHalted ∈ Tw := Tw_of 32 (by decide +kernel) rfl
theorem tw_sel_X6_cells : Cond.selects RX6 yX6_cells yX6_cells ∈ Tw := Tw_of 33 (by decide +kernel) rfl
theorem tw_sel_X6_passes : Cond.selects RX6 yX6_passes yX6_passes ∈ Tw := Tw_of 34 (by decide +kernel) rfl
theorem tw_sel_X6_goesBack : Cond.selects RX6 yX6_goesBack yX6_goesBack ∈ Tw := Tw_of 35 (by decide +kernel) rfl
theorem tw_sel_X6_slot : Cond.selects RX6 yX6_slot yX6_slot ∈ Tw := Tw_of 36 (by decide +kernel) rfl
theorem tw_sel_X6_topOf : Cond.selects RX6 yX6_topOf yX6_topOf ∈ Tw := Tw_of 37 (by decide +kernel) rfl
theorem tw_sel_X6_top : Cond.selects RX6 yX6_top yX6_top ∈ Tw := Tw_of 38 (by decide +kernel) rfl
theorem tw_sel_X6_works : Cond.selects RX6 yX6_works yX6_works ∈ Tw := Tw_of 39 (by decide +kernel) rfl
theorem tw_sel_X6_takes : Cond.selects RX6 yX6_takes yX6_takes ∈ Tw := Tw_of 40 (by decide +kernel) rfl
theorem tw_sel_X6_layers : Cond.selects RX6 yX6_layers yX6_layers ∈ Tw := Tw_of 41 (by decide +kernel) rfl
theorem tw_sel_X6_lags : Cond.selects RX6 yX6_lags yX6_lags ∈ Tw := Tw_of 42 (by decide +kernel) rfl
theorem tw_sel_X6_isGroup : Cond.selects RX6 yX6_isGroup yX6_isGroup ∈ Tw := Tw_of 43 (by decide +kernel) rfl
theorem tw_sel_X6_isMachine : Cond.selects RX6 yX6_isMachine yX6_isMachine ∈ Tw := Tw_of 44 (by decide +kernel) rfl
theorem tw_sel_X6_isOver : Cond.selects RX6 yX6_isOver yX6_isOver ∈ Tw := Tw_of 45 (by decide +kernel) rfl
theorem tw_sel_X6_isPlace : Cond.selects RX6 yX6_isPlace yX6_isPlace ∈ Tw := Tw_of 46 (by decide +kernel) rfl
theorem tw_sel_X6_isChange : Cond.selects RX6 yX6_isChange yX6_isChange ∈ Tw := Tw_of 47 (by decide +kernel) rfl
theorem tw_sel_X6_isAsked : Cond.selects RX6 yX6_isAsked yX6_isAsked ∈ Tw := Tw_of 48 (by decide +kernel) rfl
theorem tw_sel_X6_looks : Cond.selects RX6 yX6_looks yX6_looks ∈ Tw := Tw_of 49 (by decide +kernel) rfl
theorem tw_sel_X6_isHidden : Cond.selects RX6 yX6_isHidden yX6_isHidden ∈ Tw := Tw_of 50 (by decide +kernel) rfl
theorem tw_sel_X6_isDue : Cond.selects RX6 yX6_isDue yX6_isDue ∈ Tw := Tw_of 51 (by decide +kernel) rfl
theorem in_X0 : ∀ w ∈ wsX00, w ∈ Tw := Tw_all (by decide +kernel) (by decide +kernel)
theorem in_X1 : ∀ w ∈ wsX10, w ∈ Tw := Tw_all (by decide +kernel) (by decide +kernel)
theorem in_X2 : ∀ w ∈ wsX20, w ∈ Tw := Tw_all (by decide +kernel) (by decide +kernel)
theorem in_X3 : ∀ w ∈ wsX30, w ∈ Tw := Tw_all (by decide +kernel) (by decide +kernel)
theorem in_X4 : ∀ w ∈ wsX40, w ∈ Tw := Tw_all (by decide +kernel) (by decide +kernel)
theorem in_X5 : ∀ w ∈ wsX50, w ∈ Tw := Tw_all (by decide +kernel) (by decide +kernel)
theorem in_X6 : ∀ w ∈ wsX60, w ∈ Tw := Tw_all (by decide +kernel) (by decide +kernel)
theorem k_X1_18 : GoodIn Tw (va_wsS RX1 18 yJ7_fill_53178 (WS yJ7_fill_53178 cJ7_fill_53178 4 none)) := goodS tw_ml_X1_18 tw_st_J7_fill_53178 tw_ini_J7 (WS_all tw_code_J7_fill_53178)
theorem k_X5_61 : GoodIn Tw (va_wsS RX5 61 yJ7_fill_53178 (WS yJ7_fill_53178 cJ7_fill_53178 4 none)) := goodS tw_ml_X5_61 tw_st_J7_fill_53178 tw_ini_J7 (WS_all tw_code_J7_fill_53178)
theorem k_X2_22 : GoodIn Tw (va_wsS RX2 22 yJ7_fill_53178 (WS yJ7_fill_53178 cJ7_fill_53178 4 none)) := goodS tw_ml_X2_22 tw_st_J7_fill_53178 tw_ini_J7 (WS_all tw_code_J7_fill_53178)
theorem k_X0_22 : GoodIn Tw (va_wsS RX0 22 yJ7_fill_53178 (WS yJ7_fill_53178 cJ7_fill_53178 4 none)) := goodS tw_ml_X0_22 tw_st_J7_fill_53178 tw_ini_J7 (WS_all tw_code_J7_fill_53178)
theorem k_L_130 : GoodIn Tw (wsV RL 130 RX5 yX5_day (WS yX5_day cX5_day 1 (some .int))) := goodV tw_ml_L_130 tw_im_X5_day tw_sel_X5_day tw_ini_X5 (WS_all tw_code_X5_day)
theorem k_L_169 : GoodIn Tw (wsV RL 169 RX5 yX5_changes (WS yX5_changes cX5_changes 1 (some .int))) := goodV tw_ml_L_169 tw_im_X5_changes tw_sel_X5_changes tw_ini_X5 (WS_all tw_code_X5_changes)
theorem k_L_108 : GoodIn Tw (va_wsS RL 108 yL_setDuty (WH yL_setDuty cL_setDuty 5 (some .int) [(0, 10, 13, 13)])) := goodS tw_ml_L_108 tw_st_L_setDuty tw_ini_L (WH_all tw_code_L_setDuty)
theorem k_L_7 : GoodIn Tw (wsV RL 7 RX5 yX5_setDuty (WS yX5_setDuty cX5_setDuty 4 (some .int))) := goodV tw_ml_L_7 tw_im_X5_setDuty tw_sel_X5_setDuty tw_ini_X5 (WS_all tw_code_X5_setDuty)
theorem k_L_118 : GoodIn Tw (va_wsS RL 118 yL_leave (WH yL_leave cL_leave 5 (some .int) [(0, 10, 13, 19), (0, 10, 17, 21)])) := goodS tw_ml_L_118 tw_st_L_leave tw_ini_L (WH_all tw_code_L_leave)
theorem k_L_15 : GoodIn Tw (wsV RL 15 RX5 yX5_leave (WS yX5_leave cX5_leave 4 (some .int))) := goodV tw_ml_L_15 tw_im_X5_leave tw_sel_X5_leave tw_ini_X5 (WS_all tw_code_X5_leave)
theorem k_X5_79 : GoodIn Tw (va_wsS RX5 79 yX5_requirePerson (WS yX5_requirePerson cX5_requirePerson 1 none)) := goodS tw_ml_X5_79 tw_st_X5_requirePerson tw_ini_X5 (WS_all tw_code_X5_requirePerson)
theorem k_X5_106 : GoodIn Tw (wsV RX5 106 RX5 yX5_voidWhatIsNotOld (WS yX5_voidWhatIsNotOld cX5_voidWhatIsNotOld 5 (some .int))) := goodV tw_ml_X5_106 tw_im_X5_voidWhatIsNotOld tw_sel_X5_voidWhatIsNotOld tw_ini_X5 (WS_all tw_code_X5_voidWhatIsNotOld)
theorem k_X5_287 : GoodIn Tw (wsV RX5 287 RX0 yX0_loseByLeaving (WS yX0_loseByLeaving cX0_loseByLeaving 4 (some .boolean))) := goodV tw_ml_X5_287 tw_im_X0_loseByLeaving tw_sel_X0_loseByLeaving tw_ini_X0 (WS_all tw_code_X0_loseByLeaving)
theorem k_X0_57 : GoodIn Tw (wsV RX0 57 RX0 yX0_countGood (WS yX0_countGood cX0_countGood 1 (some .int))) := goodV tw_ml_X0_57 tw_im_X0_countGood tw_sel_X0_countGood tw_ini_X0 (WS_all tw_code_X0_countGood)
theorem k_X0_51 : GoodIn Tw (va_wsS RX0 51 yJ6_bitCount_0f7a4 (WS yJ6_bitCount_0f7a4 cJ6_bitCount_0f7a4 1 (some .int))) := goodS tw_ml_X0_51 tw_st_J6_bitCount_0f7a4 tw_ini_J6 (WS_all tw_code_J6_bitCount_0f7a4)
theorem k_X5_284 : GoodIn Tw (wsV RX5 284 RX5 yX5_findHeads (WS yX5_findHeads cX5_findHeads 2 none)) := goodV tw_ml_X5_284 tw_im_X5_findHeads tw_sel_X5_findHeads tw_ini_X5 (WS_all tw_code_X5_findHeads)
theorem k_X5_290 : GoodIn Tw (wsV RX5 290 RX1 yX1_forgetChanges (WS yX1_forgetChanges cX1_forgetChanges 1 none)) := goodV tw_ml_X5_290 tw_im_X1_forgetChanges tw_sel_X1_forgetChanges tw_ini_X1 (WS_all tw_code_X1_forgetChanges)
theorem k_X5_293 : GoodIn Tw (wsV RX5 293 RX1 yX1_raise (WS yX1_raise cX1_raise 4 none)) := goodV tw_ml_X5_293 tw_im_X1_raise tw_sel_X1_raise tw_ini_X1 (WS_all tw_code_X1_raise)
theorem k_X5_147 : GoodIn Tw (wsV RX5 147 RX5 yX5_nearestLayerNotHeld (WS yX5_nearestLayerNotHeld cX5_nearestLayerNotHeld 4 (some .int))) := goodV tw_ml_X5_147 tw_im_X5_nearestLayerNotHeld tw_sel_X5_nearestLayerNotHeld tw_ini_X5 (WS_all tw_code_X5_nearestLayerNotHeld)
theorem k_X5_171 : GoodIn Tw (va_wsS RX5 171 yX5_cellOf (WS yX5_cellOf cX5_cellOf 2 (some .int))) := goodS tw_ml_X5_171 tw_st_X5_cellOf tw_ini_X5 (WS_all tw_code_X5_cellOf)
theorem k_X5_313 : GoodIn Tw (wsV RX5 313 RX5 yX5_isTakenNotHeld (WS yX5_isTakenNotHeld cX5_isTakenNotHeld 2 (some .boolean))) := goodV tw_ml_X5_313 tw_im_X5_isTakenNotHeld tw_sel_X5_isTakenNotHeld tw_ini_X5 (WS_all tw_code_X5_isTakenNotHeld)
theorem k_X5_276 : GoodIn Tw (wsV RX5 276 RX5 yX5_isChange (WS yX5_isChange cX5_isChange 2 (some .boolean))) := goodV tw_ml_X5_276 tw_im_X5_isChange tw_sel_X5_isChange tw_ini_X5 (WS_all tw_code_X5_isChange)
theorem k_L_122 : GoodIn Tw (va_wsS RL 122 yL_comeBack (WH yL_comeBack cL_comeBack 3 (some .int) [(0, 5, 8, 19), (0, 5, 11, 21)])) := goodS tw_ml_L_122 tw_st_L_comeBack tw_ini_L (WH_all tw_code_L_comeBack)
theorem k_L_23 : GoodIn Tw (wsV RL 23 RX5 yX5_comeBack (WS yX5_comeBack cX5_comeBack 3 none)) := goodV tw_ml_L_23 tw_im_X5_comeBack tw_sel_X5_comeBack tw_ini_X5 (WS_all tw_code_X5_comeBack)
theorem k_L_126 : GoodIn Tw (va_wsS RL 126 yL_pass (WH yL_pass cL_pass 4 (some .int) [(0, 9, 12, 13)])) := goodS tw_ml_L_126 tw_st_L_pass tw_ini_L (WH_all tw_code_L_pass)
theorem k_L_27 : GoodIn Tw (wsV RL 27 RX5 yX5_pass (WS yX5_pass cX5_pass 5 (some .int))) := goodV tw_ml_L_27 tw_im_X5_pass tw_sel_X5_pass tw_ini_X5 (WS_all tw_code_X5_pass)
theorem k_X5_114 : GoodIn Tw (wsV RX5 114 RX5 yX5_stepMachines (WS yX5_stepMachines cX5_stepMachines 6 (some .int))) := goodV tw_ml_X5_114 tw_im_X5_stepMachines tw_sel_X5_stepMachines tw_ini_X5 (WS_all tw_code_X5_stepMachines)
theorem k_X5_305 : GoodIn Tw (wsV RX5 305 RX5 yX5_goBack (WS yX5_goBack cX5_goBack 5 none)) := goodV tw_ml_X5_305 tw_im_X5_goBack tw_sel_X5_goBack tw_ini_X5 (WS_all tw_code_X5_goBack)
theorem k_X5_309 : GoodIn Tw (wsV RX5 309 RX5 yX5_takeFarthestLayer (WS yX5_takeFarthestLayer cX5_takeFarthestLayer 3 (some .boolean))) := goodV tw_ml_X5_309 tw_im_X5_takeFarthestLayer tw_sel_X5_takeFarthestLayer tw_ini_X5 (WS_all tw_code_X5_takeFarthestLayer)
theorem k_X5_256 : GoodIn Tw (wsV RX5 256 RX5 yX5_isBehindIn (WS yX5_isBehindIn cX5_isBehindIn 5 (some .boolean))) := goodV tw_ml_X5_256 tw_im_X5_isBehindIn tw_sel_X5_isBehindIn tw_ini_X5 (WS_all tw_code_X5_isBehindIn)
theorem k_X5_316 : GoodIn Tw (wsV RX5 316 RX5 yX5_takeLayer (WS yX5_takeLayer cX5_takeLayer 5 none)) := goodV tw_ml_X5_316 tw_im_X5_takeLayer tw_sel_X5_takeLayer tw_ini_X5 (WS_all tw_code_X5_takeLayer)
theorem k_X5_118 : GoodIn Tw (wsV RX5 118 RX5 yX5_isAnyBusy (WS yX5_isAnyBusy cX5_isAnyBusy 2 (some .boolean))) := goodV tw_ml_X5_118 tw_im_X5_isAnyBusy tw_sel_X5_isAnyBusy tw_ini_X5 (WS_all tw_code_X5_isAnyBusy)
theorem k_L_134 : GoodIn Tw (va_wsS RL 134 yL_addGroup (WH yL_addGroup cL_addGroup 4 (some .int) [(0, 9, 12, 19), (0, 9, 15, 21)])) := goodS tw_ml_L_134 tw_st_L_addGroup tw_ini_L (WH_all tw_code_L_addGroup)
theorem k_L_31 : GoodIn Tw (wsV RL 31 RX5 yX5_addGroup (WS yX5_addGroup cX5_addGroup 3 (some .int))) := goodV tw_ml_L_31 tw_im_X5_addGroup tw_sel_X5_addGroup tw_ini_X5 (WS_all tw_code_X5_addGroup)
theorem k_X5_122 : GoodIn Tw (wsV RX5 122 RX5 yX5_requireGroup (WS yX5_requireGroup cX5_requireGroup 2 none)) := goodV tw_ml_X5_122 tw_im_X5_requireGroup tw_sel_X5_requireGroup tw_ini_X5 (WS_all tw_code_X5_requireGroup)
theorem k_L_137 : GoodIn Tw (va_wsS RL 137 yL_addMachine (WH yL_addMachine cL_addMachine 4 (some .int) [(0, 9, 12, 19), (0, 9, 15, 21)])) := goodS tw_ml_L_137 tw_st_L_addMachine tw_ini_L (WH_all tw_code_L_addMachine)
theorem k_L_34 : GoodIn Tw (wsV RL 34 RX5 yX5_addMachine (WS yX5_addMachine cX5_addMachine 3 (some .int))) := goodV tw_ml_L_34 tw_im_X5_addMachine tw_sel_X5_addMachine tw_ini_X5 (WS_all tw_code_X5_addMachine)
theorem k_X5_132 : GoodIn Tw (wsV RX5 132 RX2 yX2_enterGroup (WS yX2_enterGroup cX2_enterGroup 4 none)) := goodV tw_ml_X5_132 tw_im_X2_enterGroup tw_sel_X2_enterGroup tw_ini_X2 (WS_all tw_code_X2_enterGroup)
theorem k_X2_34 : GoodIn Tw (wsV RX2 34 RX2 yX2_dropOtherGroups (WS yX2_dropOtherGroups cX2_dropOtherGroups 2 none)) := goodV tw_ml_X2_34 tw_im_X2_dropOtherGroups tw_sel_X2_dropOtherGroups tw_ini_X2 (WS_all tw_code_X2_dropOtherGroups)
theorem k_X2_37 : GoodIn Tw (wsV RX2 37 RX2 yX2_isLayer (WS yX2_isLayer cX2_isLayer 3 (some .boolean))) := goodV tw_ml_X2_37 tw_im_X2_isLayer tw_sel_X2_isLayer tw_ini_X2 (WS_all tw_code_X2_isLayer)
theorem k_X2_41 : GoodIn Tw (wsV RX2 41 RX2 yX2_drop (WS yX2_drop cX2_drop 3 none)) := goodV tw_ml_X2_41 tw_im_X2_drop tw_sel_X2_drop tw_ini_X2 (WS_all tw_code_X2_drop)
theorem k_L_140 : GoodIn Tw (va_wsS RL 140 yL_moveMachine (WH yL_moveMachine cL_moveMachine 5 (some .int) [(0, 10, 13, 19), (0, 10, 17, 21)])) := goodS tw_ml_L_140 tw_st_L_moveMachine tw_ini_L (WH_all tw_code_L_moveMachine)
theorem k_L_37 : GoodIn Tw (wsV RL 37 RX5 yX5_moveMachine (WS yX5_moveMachine cX5_moveMachine 5 (some .int))) := goodV tw_ml_L_37 tw_im_X5_moveMachine tw_sel_X5_moveMachine tw_ini_X5 (WS_all tw_code_X5_moveMachine)
theorem k_X5_136 : GoodIn Tw (wsV RX5 136 RX5 yX5_requireMachine (WS yX5_requireMachine cX5_requireMachine 2 none)) := goodV tw_ml_X5_136 tw_im_X5_requireMachine tw_sel_X5_requireMachine tw_ini_X5 (WS_all tw_code_X5_requireMachine)
theorem k_L_143 : GoodIn Tw (va_wsS RL 143 yL_work (WH yL_work cL_work 5 (some .int) [(0, 10, 13, 19), (0, 10, 17, 13), (0, 10, 21, 21)])) := goodS tw_ml_L_143 tw_st_L_work tw_ini_L (WH_all tw_code_L_work)
theorem k_L_40 : GoodIn Tw (wsV RL 40 RX5 yX5_work (WS yX5_work cX5_work 4 (some .int))) := goodV tw_ml_L_40 tw_im_X5_work tw_sel_X5_work tw_ini_X5 (WS_all tw_code_X5_work)
theorem k_L_146 : GoodIn Tw (va_wsS RL 146 yL_setPace (WH yL_setPace cL_setPace 4 (some .int) [(0, 9, 12, 13)])) := goodS tw_ml_L_146 tw_st_L_setPace tw_ini_L (WH_all tw_code_L_setPace)
theorem k_L_43 : GoodIn Tw (wsV RL 43 RX5 yX5_setPace (WS yX5_setPace cX5_setPace 3 (some .int))) := goodV tw_ml_L_43 tw_im_X5_setPace tw_sel_X5_setPace tw_ini_X5 (WS_all tw_code_X5_setPace)
theorem k_L_149 : GoodIn Tw (va_wsS RL 149 yL_isBusy (WH yL_isBusy cL_isBusy 4 (some .int) [(0, 16, 19, 19)])) := goodS tw_ml_L_149 tw_st_L_isBusy tw_ini_L (WH_all tw_code_L_isBusy)
theorem k_L_46 : GoodIn Tw (wsV RL 46 RX5 yX5_isBusy (WS yX5_isBusy cX5_isBusy 2 (some .boolean))) := goodV tw_ml_L_46 tw_im_X5_isBusy tw_sel_X5_isBusy tw_ini_X5 (WS_all tw_code_X5_isBusy)
theorem k_L_152 : GoodIn Tw (va_wsS RL 152 yL_isStopped (WH yL_isStopped cL_isStopped 4 (some .int) [(0, 16, 19, 19)])) := goodS tw_ml_L_152 tw_st_L_isStopped tw_ini_L (WH_all tw_code_L_isStopped)
theorem k_L_50 : GoodIn Tw (wsV RL 50 RX5 yX5_isStopped (WS yX5_isStopped cX5_isStopped 2 (some .boolean))) := goodV tw_ml_L_50 tw_im_X5_isStopped tw_sel_X5_isStopped tw_ini_X5 (WS_all tw_code_X5_isStopped)
theorem k_L_155 : GoodIn Tw (va_wsS RL 155 yL_propose (WH yL_propose cL_propose 7 (some .int) [(0, 14, 17, 19), (0, 14, 21, 13), (0, 14, 25, 21)])) := goodS tw_ml_L_155 tw_st_L_propose tw_ini_L (WH_all tw_code_L_propose)
theorem k_L_53 : GoodIn Tw (wsV RL 53 RX5 yX5_propose (WS yX5_propose cX5_propose 6 (some .int))) := goodV tw_ml_L_53 tw_im_X5_propose tw_sel_X5_propose tw_ini_X5 (WS_all tw_code_X5_propose)
theorem k_X5_155 : GoodIn Tw (wsV RX5 155 RX5 yX5_requirePlace (WS yX5_requirePlace cX5_requirePlace 2 none)) := goodV tw_ml_X5_155 tw_im_X5_requirePlace tw_sel_X5_requirePlace tw_ini_X5 (WS_all tw_code_X5_requirePlace)
theorem k_X5_168 : GoodIn Tw (wsV RX5 168 RX5 yX5_slotOf (WS yX5_slotOf cX5_slotOf 2 (some .int))) := goodV tw_ml_X5_168 tw_im_X5_slotOf tw_sel_X5_slotOf tw_ini_X5 (WS_all tw_code_X5_slotOf)
theorem k_X5_158 : GoodIn Tw (va_wsS RX5 158 yX5_requireKey (WS yX5_requireKey cX5_requireKey 1 none)) := goodS tw_ml_X5_158 tw_st_X5_requireKey tw_ini_X5 (WS_all tw_code_X5_requireKey)
theorem k_X5_175 : GoodIn Tw (wsV RX5 175 RX0 yX0_begin (WS yX0_begin cX0_begin 5 none)) := goodV tw_ml_X5_175 tw_im_X0_begin tw_sel_X0_begin tw_ini_X0 (WS_all tw_code_X0_begin)
theorem k_L_159 : GoodIn Tw (va_wsS RL 159 yL_approve (WH yL_approve cL_approve 5 (some .int) [(0, 10, 13, 19), (0, 10, 17, 21)])) := goodS tw_ml_L_159 tw_st_L_approve tw_ini_L (WH_all tw_code_L_approve)
theorem k_L_57 : GoodIn Tw (wsV RL 57 RX5 yX5_approve (WS yX5_approve cX5_approve 4 (some .int))) := goodV tw_ml_L_57 tw_im_X5_approve tw_sel_X5_approve tw_ini_X5 (WS_all tw_code_X5_approve)
theorem k_X5_179 : GoodIn Tw (wsV RX5 179 RX5 yX5_requireChange (WS yX5_requireChange cX5_requireChange 2 none)) := goodV tw_ml_X5_179 tw_im_X5_requireChange tw_sel_X5_requireChange tw_ini_X5 (WS_all tw_code_X5_requireChange)
theorem k_X5_182 : GoodIn Tw (wsV RX5 182 RX5 yX5_isOnDuty (WS yX5_isOnDuty cX5_isOnDuty 3 (some .boolean))) := goodV tw_ml_X5_182 tw_im_X5_isOnDuty tw_sel_X5_isOnDuty tw_ini_X5 (WS_all tw_code_X5_isOnDuty)
theorem k_X5_208 : GoodIn Tw (va_wsS RX5 208 yX5_contains (WS yX5_contains cX5_contains 2 (some .boolean))) := goodS tw_ml_X5_208 tw_st_X5_contains tw_ini_X5 (WS_all tw_code_X5_contains)
theorem k_X5_186 : GoodIn Tw (wsV RX5 186 RX0 yX0_canBeApprovedBy (WS yX0_canBeApprovedBy cX0_canBeApprovedBy 2 (some .boolean))) := goodV tw_ml_X5_186 tw_im_X0_canBeApprovedBy tw_sel_X0_canBeApprovedBy tw_ini_X0 (WS_all tw_code_X0_canBeApprovedBy)
theorem k_X5_191 : GoodIn Tw (wsV RX5 191 RX0 yX0_addApproval (WS yX0_addApproval cX0_addApproval 4 none)) := goodV tw_ml_X5_191 tw_im_X0_addApproval tw_sel_X0_addApproval tw_ini_X0 (WS_all tw_code_X0_addApproval)
theorem k_X5_198 : GoodIn Tw (wsV RX5 198 RX0 yX0_countGood (WS yX0_countGood cX0_countGood 1 (some .int))) := goodV tw_ml_X5_198 tw_im_X0_countGood tw_sel_X0_countGood tw_ini_X0 (WS_all tw_code_X0_countGood)
theorem k_X5_201 : GoodIn Tw (wsV RX5 201 RX5 yX5_hold (WS yX5_hold cX5_hold 2 none)) := goodV tw_ml_X5_201 tw_im_X5_hold tw_sel_X5_hold tw_ini_X5 (WS_all tw_code_X5_hold)
theorem k_L_162 : GoodIn Tw (va_wsS RL 162 yL_withdraw (WH yL_withdraw cL_withdraw 3 (some .int) [(0, 5, 8, 19), (0, 5, 11, 21)])) := goodS tw_ml_L_162 tw_st_L_withdraw tw_ini_L (WH_all tw_code_L_withdraw)
theorem k_L_60 : GoodIn Tw (wsV RL 60 RX5 yX5_withdraw (WS yX5_withdraw cX5_withdraw 3 none)) := goodV tw_ml_L_60 tw_im_X5_withdraw tw_sel_X5_withdraw tw_ini_X5 (WS_all tw_code_X5_withdraw)
theorem k_L_165 : GoodIn Tw (va_wsS RL 165 yL_exclude (WH yL_exclude cL_exclude 6 (some .int) [(0, 19, 22, 19), (0, 19, 26, 13)])) := goodS tw_ml_L_165 tw_st_L_exclude tw_ini_L (WH_all tw_code_L_exclude)
theorem k_L_63 : GoodIn Tw (wsV RL 63 RX5 yX5_exclude (WS yX5_exclude cX5_exclude 5 (some .boolean))) := goodV tw_ml_L_63 tw_im_X5_exclude tw_sel_X5_exclude tw_ini_X5 (WS_all tw_code_X5_exclude)
theorem k_X5_212 : GoodIn Tw (va_wsS RX5 212 yX5_with (WS yX5_with cX5_with 3 (some .int))) := goodS tw_ml_X5_212 tw_st_X5_with tw_ini_X5 (WS_all tw_code_X5_with)
theorem k_L_173 : GoodIn Tw (va_wsS RL 173 yL_state (WH yL_state cL_state 4 (some .int) [(0, 9, 12, 19)])) := goodS tw_ml_L_173 tw_st_L_state tw_ini_L (WH_all tw_code_L_state)
theorem k_L_67 : GoodIn Tw (wsV RL 67 RX5 yX5_state (WS yX5_state cX5_state 2 (some .int))) := goodV tw_ml_L_67 tw_im_X5_state tw_sel_X5_state tw_ini_X5 (WS_all tw_code_X5_state)
theorem k_L_176 : GoodIn Tw (va_wsS RL 176 yL_rank (WH yL_rank cL_rank 4 (some .int) [(0, 9, 12, 19)])) := goodS tw_ml_L_176 tw_st_L_rank tw_ini_L (WH_all tw_code_L_rank)
theorem k_L_70 : GoodIn Tw (wsV RL 70 RX5 yX5_rank (WS yX5_rank cX5_rank 2 (some .int))) := goodV tw_ml_L_70 tw_im_X5_rank tw_sel_X5_rank tw_ini_X5 (WS_all tw_code_X5_rank)
theorem k_L_179 : GoodIn Tw (va_wsS RL 179 yL_approvals (WH yL_approvals cL_approvals 4 (some .int) [(0, 9, 12, 19)])) := goodS tw_ml_L_179 tw_st_L_approvals tw_ini_L (WH_all tw_code_L_approvals)
theorem k_L_73 : GoodIn Tw (wsV RL 73 RX5 yX5_approvals (WS yX5_approvals cX5_approvals 2 (some .int))) := goodV tw_ml_L_73 tw_im_X5_approvals tw_sel_X5_approvals tw_ini_X5 (WS_all tw_code_X5_approvals)
theorem k_L_182 : GoodIn Tw (va_wsS RL 182 yL_told (WH yL_told cL_told 5 (some .int) [(0, 10, 13, 19)])) := goodS tw_ml_L_182 tw_st_L_told tw_ini_L (WH_all tw_code_L_told)
theorem k_L_76 : GoodIn Tw (wsV RL 76 RX5 yX5_told (WS yX5_told cX5_told 4 (some .int))) := goodV tw_ml_L_76 tw_im_X5_told tw_sel_X5_told tw_ini_X5 (WS_all tw_code_X5_told)
theorem k_X5_222 : GoodIn Tw (wsV RX5 222 RX5 yX5_whatIsToldBy (WS yX5_whatIsToldBy cX5_whatIsToldBy 2 (some .int))) := goodV tw_ml_X5_222 tw_im_X5_whatIsToldBy tw_sel_X5_whatIsToldBy tw_ini_X5 (WS_all tw_code_X5_whatIsToldBy)
theorem k_L_185 : GoodIn Tw (va_wsS RL 185 yL_taken (WH yL_taken cL_taken 6 (some .int) [(0, 12, 15, 19)])) := goodS tw_ml_L_185 tw_st_L_taken tw_ini_L (WH_all tw_code_L_taken)
theorem k_L_79 : GoodIn Tw (wsV RL 79 RX5 yX5_taken (WS yX5_taken cX5_taken 5 (some .int))) := goodV tw_ml_L_79 tw_im_X5_taken tw_sel_X5_taken tw_ini_X5 (WS_all tw_code_X5_taken)
theorem k_L_189 : GoodIn Tw (va_wsS RL 189 yL_runs (WH yL_runs cL_runs 5 (some .int) [(0, 10, 13, 19)])) := goodS tw_ml_L_189 tw_st_L_runs tw_ini_L (WH_all tw_code_L_runs)
theorem k_L_83 : GoodIn Tw (wsV RL 83 RX5 yX5_runs (WS yX5_runs cX5_runs 3 (some .int))) := goodV tw_ml_L_83 tw_im_X5_runs tw_sel_X5_runs tw_ini_X5 (WS_all tw_code_X5_runs)
theorem k_X5_239 : GoodIn Tw (wsV RX5 239 RX5 yX5_findRunning (WS yX5_findRunning cX5_findRunning 2 none)) := goodV tw_ml_X5_239 tw_im_X5_findRunning tw_sel_X5_findRunning tw_ini_X5 (WS_all tw_code_X5_findRunning)
theorem k_X5_319 : GoodIn Tw (wsV RX5 319 RX3 yX3_forget (WS yX3_forget cX3_forget 1 none)) := goodV tw_ml_X5_319 tw_im_X3_forget tw_sel_X3_forget tw_ini_X3 (WS_all tw_code_X3_forget)
theorem k_X3_21 : GoodIn Tw (va_wsS RX3 21 yJ7_fill_53178 (WS yJ7_fill_53178 cJ7_fill_53178 4 none)) := goodS tw_ml_X3_21 tw_st_J7_fill_53178 tw_ini_J7 (WS_all tw_code_J7_fill_53178)
theorem k_X5_249 : GoodIn Tw (wsV RX5 249 RX5 yX5_findOutcome (WS yX5_findOutcome cX5_findOutcome 5 none)) := goodV tw_ml_X5_249 tw_im_X5_findOutcome tw_sel_X5_findOutcome tw_ini_X5 (WS_all tw_code_X5_findOutcome)
theorem k_X5_322 : GoodIn Tw (wsV RX5 322 RX5 yX5_decide (WS yX5_decide cX5_decide 8 none)) := goodV tw_ml_X5_322 tw_im_X5_decide tw_sel_X5_decide tw_ini_X5 (WS_all tw_code_X5_decide)
theorem k_X5_330 : GoodIn Tw (wsV RX5 330 RX3 yX3_set (WS yX3_set cX3_set 5 none)) := goodV tw_ml_X5_330 tw_im_X3_set tw_sel_X3_set tw_ini_X3 (WS_all tw_code_X3_set)
theorem k_X5_326 : GoodIn Tw (wsV RX5 326 RX3 yX3_hideExcluded (WS yX3_hideExcluded cX3_hideExcluded 4 none)) := goodV tw_ml_X5_326 tw_im_X3_hideExcluded tw_sel_X3_hideExcluded tw_ini_X3 (WS_all tw_code_X3_hideExcluded)
theorem k_X3_35 : GoodIn Tw (wsV RX3 35 RX3 yX3_yields (WS yX3_yields cX3_yields 3 (some .boolean))) := goodV tw_ml_X3_35 tw_im_X3_yields tw_sel_X3_yields tw_ini_X3 (WS_all tw_code_X3_yields)
theorem k_X5_243 : GoodIn Tw (wsV RX5 243 RX3 yX3_valueIfShown (WS yX3_valueIfShown cX3_valueIfShown 2 (some .int))) := goodV tw_ml_X5_243 tw_im_X3_valueIfShown tw_sel_X3_valueIfShown tw_ini_X3 (WS_all tw_code_X3_valueIfShown)
theorem k_L_192 : GoodIn Tw (va_wsS RL 192 yL_layerOf (WH yL_layerOf cL_layerOf 5 (some .int) [(0, 10, 13, 19)])) := goodS tw_ml_L_192 tw_st_L_layerOf tw_ini_L (WH_all tw_code_L_layerOf)
theorem k_L_86 : GoodIn Tw (wsV RL 86 RX5 yX5_layerOf (WS yX5_layerOf cX5_layerOf 3 (some .int))) := goodV tw_ml_L_86 tw_im_X5_layerOf tw_sel_X5_layerOf tw_ini_X5 (WS_all tw_code_X5_layerOf)
theorem k_X5_246 : GoodIn Tw (wsV RX5 246 RX3 yX3_layerIfShown (WS yX3_layerIfShown cX3_layerIfShown 2 (some .int))) := goodV tw_ml_X5_246 tw_im_X3_layerIfShown tw_sel_X3_layerIfShown tw_ini_X3 (WS_all tw_code_X3_layerIfShown)
theorem k_X3_42 : GoodIn Tw (wsV RX3 42 RX3 yX3_valueIfShown (WS yX3_valueIfShown cX3_valueIfShown 2 (some .int))) := goodV tw_ml_X3_42 tw_im_X3_valueIfShown tw_sel_X3_valueIfShown tw_ini_X3 (WS_all tw_code_X3_valueIfShown)
theorem k_L_195 : GoodIn Tw (va_wsS RL 195 yL_due (WH yL_due cL_due 5 (some .int) [(0, 10, 13, 19)])) := goodS tw_ml_L_195 tw_st_L_due tw_ini_L (WH_all tw_code_L_due)
theorem k_L_89 : GoodIn Tw (wsV RL 89 RX5 yX5_due (WS yX5_due cX5_due 3 (some .int))) := goodV tw_ml_L_89 tw_im_X5_due tw_sel_X5_due tw_ini_X5 (WS_all tw_code_X5_due)
theorem k_L_198 : GoodIn Tw (va_wsS RL 198 yL_dueAnew (WH yL_dueAnew cL_dueAnew 5 (some .int) [(0, 10, 13, 19)])) := goodS tw_ml_L_198 tw_st_L_dueAnew tw_ini_L (WH_all tw_code_L_dueAnew)
theorem k_L_92 : GoodIn Tw (wsV RL 92 RX5 yX5_dueAnew (WS yX5_dueAnew cX5_dueAnew 3 (some .int))) := goodV tw_ml_L_92 tw_im_X5_dueAnew tw_sel_X5_dueAnew tw_ini_X5 (WS_all tw_code_X5_dueAnew)
theorem k_X5_253 : GoodIn Tw (wsV RX5 253 RX5 yX5_findHeadsAnew (WS yX5_findHeadsAnew cX5_findHeadsAnew 2 none)) := goodV tw_ml_X5_253 tw_im_X5_findHeadsAnew tw_sel_X5_findHeadsAnew tw_ini_X5 (WS_all tw_code_X5_findHeadsAnew)
theorem k_X5_297 : GoodIn Tw (wsV RX5 297 RX0 yX0_firstHeldMoment (WS yX0_firstHeldMoment cX0_firstHeldMoment 6 (some .int))) := goodV tw_ml_X5_297 tw_im_X0_firstHeldMoment tw_sel_X0_firstHeldMoment tw_ini_X0 (WS_all tw_code_X0_firstHeldMoment)
theorem k_X0_67 : GoodIn Tw (wsV RX0 67 RX0 yX0_countGoodAt (WS yX0_countGoodAt cX0_countGoodAt 7 (some .int))) := goodV tw_ml_X0_67 tw_im_X0_countGoodAt tw_sel_X0_countGoodAt tw_ini_X0 (WS_all tw_code_X0_countGoodAt)
theorem k_X0_61 : GoodIn Tw (wsV RX0 61 RX4 yX4_hasVoided (WS yX4_hasVoided cX4_hasVoided 2 (some .boolean))) := goodV tw_ml_X0_61 tw_im_X4_hasVoided tw_sel_X4_hasVoided tw_ini_X4 (WS_all tw_code_X4_hasVoided)
theorem k_X5_301 : GoodIn Tw (wsV RX5 301 RX0 yX0_isHeldAnew (WS yX0_isHeldAnew cX0_isHeldAnew 4 (some .boolean))) := goodV tw_ml_X5_301 tw_im_X0_isHeldAnew tw_sel_X0_isHeldAnew tw_ini_X0 (WS_all tw_code_X0_isHeldAnew)
theorem k_L_201 : GoodIn Tw (va_wsS RL 201 yL_behind (WH yL_behind cL_behind 4 (some .int) [(0, 9, 12, 19)])) := goodS tw_ml_L_201 tw_st_L_behind tw_ini_L (WH_all tw_code_L_behind)
theorem k_L_95 : GoodIn Tw (wsV RL 95 RX5 yX5_behind (WS yX5_behind cX5_behind 5 (some .int))) := goodV tw_ml_L_95 tw_im_X5_behind tw_sel_X5_behind tw_ini_X5 (WS_all tw_code_X5_behind)
theorem k_L_204 : GoodIn Tw (va_wsS RL 204 yL_hidden (WH yL_hidden cL_hidden 4 (some .int) [(0, 9, 12, 19)])) := goodS tw_ml_L_204 tw_st_L_hidden tw_ini_L (WH_all tw_code_L_hidden)
theorem k_L_98 : GoodIn Tw (wsV RL 98 RX5 yX5_hidden (WS yX5_hidden cX5_hidden 2 (some .int))) := goodV tw_ml_L_98 tw_im_X5_hidden tw_sel_X5_hidden tw_ini_X5 (WS_all tw_code_X5_hidden)
theorem k_L_207 : GoodIn Tw (va_wsS RL 207 yL_spread (WH yL_spread cL_spread 4 (some .int) [(0, 9, 12, 19)])) := goodS tw_ml_L_207 tw_st_L_spread tw_ini_L (WH_all tw_code_L_spread)
theorem k_L_101 : GoodIn Tw (wsV RL 101 RX5 yX5_spread (WS yX5_spread cX5_spread 5 (some .int))) := goodV tw_ml_L_101 tw_im_X5_spread tw_sel_X5_spread tw_ini_X5 (WS_all tw_code_X5_spread)
theorem k_L_114 : GoodIn Tw (wsV RL 114 RX6 yX6_thrown (WS yX6_thrown cX6_thrown 1 (some .int))) := goodV tw_ml_L_114 tw_im_X6_thrown tw_sel_X6_thrown tw_ini_X6 (WS_all tw_code_X6_thrown)
theorem k_L_113 : GoodIn Tw (wsV RL 113 RX6 yX6_setDuty (WS yX6_setDuty cX6_setDuty 4 (some .int))) := goodV tw_ml_L_113 tw_im_X6_setDuty tw_sel_X6_setDuty tw_ini_X6 (WS_all tw_code_X6_setDuty)
theorem k_X6_77 : GoodIn Tw (va_wsS RX6 77 yX6_in (WS yX6_in cX6_in 3 (some .boolean))) := goodS tw_ml_X6_77 tw_st_X6_in tw_ini_X6 (WS_all tw_code_X6_in)
theorem k_X6_112 : GoodIn Tw (wsV RX6 112 RX6 yX6_fails (WS yX6_fails cX6_fails 2 (some .int))) := goodV tw_ml_X6_112 tw_im_X6_fails tw_sel_X6_fails tw_ini_X6 (WS_all tw_code_X6_fails)
theorem k_L_121 : GoodIn Tw (wsV RL 121 RX6 yX6_leave (WS yX6_leave cX6_leave 3 (some .int))) := goodV tw_ml_L_121 tw_im_X6_leave tw_sel_X6_leave tw_ini_X6 (WS_all tw_code_X6_leave)
theorem k_X6_121 : GoodIn Tw (va_wsS RX6 121 yX6_isPerson (WS yX6_isPerson cX6_isPerson 1 (some .boolean))) := goodS tw_ml_X6_121 tw_st_X6_isPerson tw_ini_X6 (WS_all tw_code_X6_isPerson)
theorem k_X6_124 : GoodIn Tw (wsV RX6 124 RX6 yX6_voids (WS yX6_voids cX6_voids 6 (some .int))) := goodV tw_ml_X6_124 tw_im_X6_voids tw_sel_X6_voids tw_ini_X6 (WS_all tw_code_X6_voids)
theorem k_X6_115 : GoodIn Tw (wsV RX6 115 RX6 yX6_good (WS yX6_good cX6_good 4 (some .int))) := goodV tw_ml_X6_115 tw_im_X6_good tw_sel_X6_good tw_ini_X6 (WS_all tw_code_X6_good)
theorem k_X6_118 : GoodIn Tw (wsV RX6 118 RX6 yX6_isHalted (WS yX6_isHalted cX6_isHalted 4 (some .boolean))) := goodV tw_ml_X6_118 tw_im_X6_isHalted tw_sel_X6_isHalted tw_ini_X6 (WS_all tw_code_X6_isHalted)
theorem k_X6_102 : GoodIn Tw (wsV RX6 102 RX6 yX6_cells (WS yX6_cells cX6_cells 3 (some .int))) := goodV tw_ml_X6_102 tw_im_X6_cells tw_sel_X6_cells tw_ini_X6 (WS_all tw_code_X6_cells)
theorem k_L_125 : GoodIn Tw (wsV RL 125 RX6 yX6_comeBack (WS yX6_comeBack cX6_comeBack 2 none)) := goodV tw_ml_L_125 tw_im_X6_comeBack tw_sel_X6_comeBack tw_ini_X6 (WS_all tw_code_X6_comeBack)
theorem k_L_129 : GoodIn Tw (wsV RL 129 RX6 yX6_pass (WS yX6_pass cX6_pass 4 (some .int))) := goodV tw_ml_L_129 tw_im_X6_pass tw_sel_X6_pass tw_ini_X6 (WS_all tw_code_X6_pass)
theorem k_X6_141 : GoodIn Tw (wsV RX6 141 RX6 yX6_passes (WS yX6_passes cX6_passes 4 (some .int))) := goodV tw_ml_X6_141 tw_im_X6_passes tw_sel_X6_passes tw_ini_X6 (WS_all tw_code_X6_passes)
theorem k_X6_131 : GoodIn Tw (wsV RX6 131 RX6 yX6_goesBack (WS yX6_goesBack cX6_goesBack 7 none)) := goodV tw_ml_X6_131 tw_im_X6_goesBack tw_sel_X6_goesBack tw_ini_X6 (WS_all tw_code_X6_goesBack)
theorem k_X6_99 : GoodIn Tw (wsV RX6 99 RX6 yX6_slot (WS yX6_slot cX6_slot 5 (some .int))) := goodV tw_ml_X6_99 tw_im_X6_slot tw_sel_X6_slot tw_ini_X6 (WS_all tw_code_X6_slot)
theorem k_X6_105 : GoodIn Tw (wsV RX6 105 RX6 yX6_topOf (WS yX6_topOf cX6_topOf 4 (some .int))) := goodV tw_ml_X6_105 tw_im_X6_topOf tw_sel_X6_topOf tw_ini_X6 (WS_all tw_code_X6_topOf)
theorem k_X6_91 : GoodIn Tw (wsV RX6 91 RX6 yX6_top (WS yX6_top cX6_top 6 (some .int))) := goodV tw_ml_X6_91 tw_im_X6_top tw_sel_X6_top tw_ini_X6 (WS_all tw_code_X6_top)
theorem k_X6_135 : GoodIn Tw (wsV RX6 135 RX6 yX6_works (WS yX6_works cX6_works 2 (some .boolean))) := goodV tw_ml_X6_135 tw_im_X6_works tw_sel_X6_works tw_ini_X6 (WS_all tw_code_X6_works)
theorem k_X6_138 : GoodIn Tw (wsV RX6 138 RX6 yX6_takes (WS yX6_takes cX6_takes 5 (some .boolean))) := goodV tw_ml_X6_138 tw_im_X6_takes tw_sel_X6_takes tw_ini_X6 (WS_all tw_code_X6_takes)
theorem k_X6_95 : GoodIn Tw (wsV RX6 95 RX6 yX6_layers (WS yX6_layers cX6_layers 4 (some .int))) := goodV tw_ml_X6_95 tw_im_X6_layers tw_sel_X6_layers tw_ini_X6 (WS_all tw_code_X6_layers)
theorem k_X6_127 : GoodIn Tw (wsV RX6 127 RX6 yX6_lags (WS yX6_lags cX6_lags 6 (some .boolean))) := goodV tw_ml_X6_127 tw_im_X6_lags tw_sel_X6_lags tw_ini_X6 (WS_all tw_code_X6_lags)
theorem k_L_133 : GoodIn Tw (wsV RL 133 RX6 yX6_day (WS yX6_day cX6_day 1 (some .int))) := goodV tw_ml_L_133 tw_im_X6_day tw_sel_X6_day tw_ini_X6 (WS_all tw_code_X6_day)
theorem k_L_136 : GoodIn Tw (wsV RL 136 RX6 yX6_addGroup (WS yX6_addGroup cX6_addGroup 2 (some .int))) := goodV tw_ml_L_136 tw_im_X6_addGroup tw_sel_X6_addGroup tw_ini_X6 (WS_all tw_code_X6_addGroup)
theorem k_X6_87 : GoodIn Tw (wsV RX6 87 RX6 yX6_isGroup (WS yX6_isGroup cX6_isGroup 2 (some .boolean))) := goodV tw_ml_X6_87 tw_im_X6_isGroup tw_sel_X6_isGroup tw_ini_X6 (WS_all tw_code_X6_isGroup)
theorem k_L_139 : GoodIn Tw (wsV RL 139 RX6 yX6_addMachine (WS yX6_addMachine cX6_addMachine 2 (some .int))) := goodV tw_ml_L_139 tw_im_X6_addMachine tw_sel_X6_addMachine tw_ini_X6 (WS_all tw_code_X6_addMachine)
theorem k_L_142 : GoodIn Tw (wsV RL 142 RX6 yX6_moveMachine (WS yX6_moveMachine cX6_moveMachine 6 (some .int))) := goodV tw_ml_L_142 tw_im_X6_moveMachine tw_sel_X6_moveMachine tw_ini_X6 (WS_all tw_code_X6_moveMachine)
theorem k_X6_145 : GoodIn Tw (wsV RX6 145 RX6 yX6_isMachine (WS yX6_isMachine cX6_isMachine 2 (some .boolean))) := goodV tw_ml_X6_145 tw_im_X6_isMachine tw_sel_X6_isMachine tw_ini_X6 (WS_all tw_code_X6_isMachine)
theorem k_X6_148 : GoodIn Tw (wsV RX6 148 RX6 yX6_isOver (WS yX6_isOver cX6_isOver 4 (some .boolean))) := goodV tw_ml_X6_148 tw_im_X6_isOver tw_sel_X6_isOver tw_ini_X6 (WS_all tw_code_X6_isOver)
theorem k_L_145 : GoodIn Tw (wsV RL 145 RX6 yX6_work (WS yX6_work cX6_work 3 (some .int))) := goodV tw_ml_L_145 tw_im_X6_work tw_sel_X6_work tw_ini_X6 (WS_all tw_code_X6_work)
theorem k_L_148 : GoodIn Tw (wsV RL 148 RX6 yX6_setPace (WS yX6_setPace cX6_setPace 3 (some .int))) := goodV tw_ml_L_148 tw_im_X6_setPace tw_sel_X6_setPace tw_ini_X6 (WS_all tw_code_X6_setPace)
theorem k_L_151 : GoodIn Tw (wsV RL 151 RX6 yX6_isBusy (WS yX6_isBusy cX6_isBusy 2 (some .boolean))) := goodV tw_ml_L_151 tw_im_X6_isBusy tw_sel_X6_isBusy tw_ini_X6 (WS_all tw_code_X6_isBusy)
theorem k_L_154 : GoodIn Tw (wsV RL 154 RX6 yX6_isStopped (WS yX6_isStopped cX6_isStopped 2 (some .boolean))) := goodV tw_ml_L_154 tw_im_X6_isStopped tw_sel_X6_isStopped tw_ini_X6 (WS_all tw_code_X6_isStopped)
theorem k_L_158 : GoodIn Tw (wsV RL 158 RX6 yX6_propose (WS yX6_propose cX6_propose 5 (some .int))) := goodV tw_ml_L_158 tw_im_X6_propose tw_sel_X6_propose tw_ini_X6 (WS_all tw_code_X6_propose)
theorem k_X6_151 : GoodIn Tw (wsV RX6 151 RX6 yX6_isPlace (WS yX6_isPlace cX6_isPlace 2 (some .boolean))) := goodV tw_ml_X6_151 tw_im_X6_isPlace tw_sel_X6_isPlace tw_ini_X6 (WS_all tw_code_X6_isPlace)
theorem k_X6_154 : GoodIn Tw (va_wsS RX6 154 yX6_isKey (WS yX6_isKey cX6_isKey 1 (some .boolean))) := goodS tw_ml_X6_154 tw_st_X6_isKey tw_ini_X6 (WS_all tw_code_X6_isKey)
theorem k_L_161 : GoodIn Tw (wsV RL 161 RX6 yX6_approve (WS yX6_approve cX6_approve 5 (some .int))) := goodV tw_ml_L_161 tw_im_X6_approve tw_sel_X6_approve tw_ini_X6 (WS_all tw_code_X6_approve)
theorem k_X6_157 : GoodIn Tw (wsV RX6 157 RX6 yX6_isChange (WS yX6_isChange cX6_isChange 2 (some .boolean))) := goodV tw_ml_X6_157 tw_im_X6_isChange tw_sel_X6_isChange tw_ini_X6 (WS_all tw_code_X6_isChange)
theorem k_L_164 : GoodIn Tw (wsV RL 164 RX6 yX6_withdraw (WS yX6_withdraw cX6_withdraw 2 none)) := goodV tw_ml_L_164 tw_im_X6_withdraw tw_sel_X6_withdraw tw_ini_X6 (WS_all tw_code_X6_withdraw)
theorem k_L_168 : GoodIn Tw (wsV RL 168 RX6 yX6_exclude (WS yX6_exclude cX6_exclude 5 (some .boolean))) := goodV tw_ml_L_168 tw_im_X6_exclude tw_sel_X6_exclude tw_ini_X6 (WS_all tw_code_X6_exclude)
theorem k_L_172 : GoodIn Tw (wsV RL 172 RX6 yX6_changes (WS yX6_changes cX6_changes 1 (some .int))) := goodV tw_ml_L_172 tw_im_X6_changes tw_sel_X6_changes tw_ini_X6 (WS_all tw_code_X6_changes)
theorem k_L_175 : GoodIn Tw (wsV RL 175 RX6 yX6_state (WS yX6_state cX6_state 2 (some .int))) := goodV tw_ml_L_175 tw_im_X6_state tw_sel_X6_state tw_ini_X6 (WS_all tw_code_X6_state)
theorem k_L_178 : GoodIn Tw (wsV RL 178 RX6 yX6_rank (WS yX6_rank cX6_rank 2 (some .int))) := goodV tw_ml_L_178 tw_im_X6_rank tw_sel_X6_rank tw_ini_X6 (WS_all tw_code_X6_rank)
theorem k_L_181 : GoodIn Tw (wsV RL 181 RX6 yX6_approvals (WS yX6_approvals cX6_approvals 2 (some .int))) := goodV tw_ml_L_181 tw_im_X6_approvals tw_sel_X6_approvals tw_ini_X6 (WS_all tw_code_X6_approvals)
theorem k_L_184 : GoodIn Tw (wsV RL 184 RX6 yX6_told (WS yX6_told cX6_told 4 (some .int))) := goodV tw_ml_L_184 tw_im_X6_told tw_sel_X6_told tw_ini_X6 (WS_all tw_code_X6_told)
theorem k_L_188 : GoodIn Tw (wsV RL 188 RX6 yX6_taken (WS yX6_taken cX6_taken 4 (some .int))) := goodV tw_ml_L_188 tw_im_X6_taken tw_sel_X6_taken tw_ini_X6 (WS_all tw_code_X6_taken)
theorem k_L_191 : GoodIn Tw (wsV RL 191 RX6 yX6_runs (WS yX6_runs cX6_runs 3 (some .int))) := goodV tw_ml_L_191 tw_im_X6_runs tw_sel_X6_runs tw_ini_X6 (WS_all tw_code_X6_runs)
theorem k_X6_167 : GoodIn Tw (wsV RX6 167 RX6 yX6_isAsked (WS yX6_isAsked cX6_isAsked 4 (some .boolean))) := goodV tw_ml_X6_167 tw_im_X6_isAsked tw_sel_X6_isAsked tw_ini_X6 (WS_all tw_code_X6_isAsked)
theorem k_X6_163 : GoodIn Tw (wsV RX6 163 RX6 yX6_looks (WS yX6_looks cX6_looks 9 none)) := goodV tw_ml_X6_163 tw_im_X6_looks tw_sel_X6_looks tw_ini_X6 (WS_all tw_code_X6_looks)
theorem k_X6_171 : GoodIn Tw (wsV RX6 171 RX6 yX6_isHidden (WS yX6_isHidden cX6_isHidden 5 (some .boolean))) := goodV tw_ml_X6_171 tw_im_X6_isHidden tw_sel_X6_isHidden tw_ini_X6 (WS_all tw_code_X6_isHidden)
theorem k_L_194 : GoodIn Tw (wsV RL 194 RX6 yX6_layerOf (WS yX6_layerOf cX6_layerOf 3 (some .int))) := goodV tw_ml_L_194 tw_im_X6_layerOf tw_sel_X6_layerOf tw_ini_X6 (WS_all tw_code_X6_layerOf)
theorem k_L_197 : GoodIn Tw (wsV RL 197 RX6 yX6_due (WS yX6_due cX6_due 3 (some .int))) := goodV tw_ml_L_197 tw_im_X6_due tw_sel_X6_due tw_ini_X6 (WS_all tw_code_X6_due)
theorem k_X6_174 : GoodIn Tw (wsV RX6 174 RX6 yX6_isDue (WS yX6_isDue cX6_isDue 3 (some .int))) := goodV tw_ml_X6_174 tw_im_X6_isDue tw_sel_X6_isDue tw_ini_X6 (WS_all tw_code_X6_isDue)
theorem k_L_200 : GoodIn Tw (wsV RL 200 RX6 yX6_dueAnew (WS yX6_dueAnew cX6_dueAnew 3 (some .int))) := goodV tw_ml_L_200 tw_im_X6_dueAnew tw_sel_X6_dueAnew tw_ini_X6 (WS_all tw_code_X6_dueAnew)
theorem k_L_203 : GoodIn Tw (wsV RL 203 RX6 yX6_behind (WS yX6_behind cX6_behind 4 (some .int))) := goodV tw_ml_L_203 tw_im_X6_behind tw_sel_X6_behind tw_ini_X6 (WS_all tw_code_X6_behind)
theorem k_L_206 : GoodIn Tw (wsV RL 206 RX6 yX6_hidden (WS yX6_hidden cX6_hidden 4 (some .int))) := goodV tw_ml_L_206 tw_im_X6_hidden tw_sel_X6_hidden tw_ini_X6 (WS_all tw_code_X6_hidden)
theorem k_L_209 : GoodIn Tw (wsV RL 209 RX6 yX6_spread (WS yX6_spread cX6_spread 6 (some .int))) := goodV tw_ml_L_209 tw_im_X6_spread tw_sel_X6_spread tw_ini_X6 (WS_all tw_code_X6_spread)
