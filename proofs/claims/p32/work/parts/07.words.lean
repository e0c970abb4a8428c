/-! the good words of the tables, one by one; what a call of each link asks (written by wip/whole/mk_words.py) -/
def Tw : List Cond := lw_tbl.filter goodWord
theorem Tw_of {w : Cond} (i : Nat) (h : lw_tbl[i]? = some w) (g : goodWord w = true) : w ∈ Tw := List.mem_filter.mpr ⟨List.mem_of_getElem? h, g⟩
theorem Tw_in {w : Cond} (h : w ∈ Tw) : w ∈ lw_tbl := (List.mem_filter.mp h).1
theorem Tw_good {L : List Cond} (h : ∀ w ∈ L, w ∈ Tw) : GoodIn Tw L := fun w hw => ⟨h w hw, good_of_word (List.mem_filter.mp (h w hw)).2⟩
theorem Tw_all {L : List Cond} (h1 : ∀ w ∈ L, w ∈ lw_tbl) (h2 : ∀ w ∈ L, goodWord w = true) : ∀ w ∈ L, w ∈ Tw := fun w hw => List.mem_filter.mpr ⟨h1 w hw, h2 w hw⟩
def WS (y : MethodName) (cc : ByteArray) (maxL : Nat) (ret : Option FieldType) : List Cond := Cond.code y cc maxL ret :: Tw
def WH (y : MethodName) (cc : ByteArray) (maxL : Nat) (ret : Option FieldType) (hh : List (Nat × Nat × Nat × Nat)) : List Cond := Cond.codeWith y cc maxL ret hh :: Tw
theorem WS_all {y : MethodName} {cc : ByteArray} {maxL : Nat} {ret : Option FieldType} (h : Cond.code y cc maxL ret ∈ Tw) : ∀ w ∈ WS y cc maxL ret, w ∈ Tw := fun w hw => by
  rcases List.mem_cons.mp hw with e | e
  · rw [e]; exact h
  · exact e
theorem WH_all {y : MethodName} {cc : ByteArray} {maxL : Nat} {ret : Option FieldType} {hh : List (Nat × Nat × Nat × Nat)} (h : Cond.codeWith y cc maxL ret hh ∈ Tw) : ∀ w ∈ WH y cc maxL ret hh, w ∈ Tw := fun w hw => by
  rcases List.mem_cons.mp hw with e | e
  · rw [e]; exact h
  · exact e
theorem app_all {a b : List Cond} (ha : ∀ w ∈ a, w ∈ Tw) (hb : ∀ w ∈ b, w ∈ Tw) : ∀ w ∈ a ++ b, w ∈ Tw := fun w h => (List.mem_append.mp h).elim (ha w) (hb w)
theorem nil_all : ∀ w ∈ ([] : List Cond), w ∈ Tw := fun _ h => nomatch h
theorem cons_all {c : Cond} {L : List Cond} (hc : c ∈ Tw) (h : ∀ w ∈ L, w ∈ Tw) : ∀ w ∈ c :: L, w ∈ Tw := fun w hw => (List.mem_cons.mp hw).elim (fun e => by rw [e]; exact hc) (h w)
theorem goodV {own C : String} {idx : Nat} {y : MethodName} {L : List Cond} (h1 : Cond.methodLink own idx y ∈ Tw) (h2 : Cond.instanceMethod y ∈ Tw) (h3 : Cond.selects C y y ∈ Tw) (h4 : Cond.initialized C ∈ Tw) (h5 : ∀ w ∈ L, w ∈ Tw) : GoodIn Tw (wsV own idx C y L) :=
  Tw_good (app_all (cons_all h1 (cons_all h2 (cons_all h3 (cons_all h4 nil_all)))) h5)
theorem goodS {own : String} {idx : Nat} {y : MethodName} {L : List Cond} (h1 : Cond.methodLink own idx y ∈ Tw) (h2 : Cond.static y ∈ Tw) (h4 : Cond.initialized y.cls ∈ Tw) (h5 : ∀ w ∈ L, w ∈ Tw) : GoodIn Tw (va_wsS own idx y L) :=
  Tw_good (app_all (cons_all h1 (cons_all h2 (cons_all h4 nil_all))) h5)
theorem tw_ini_L : (Jvm.Cond.initialized "FleetSettingsLaw") ∈ Tw := Tw_of 33 (by decide +kernel) rfl
theorem tw_ini_X5 : (Jvm.Cond.initialized "FleetSettings") ∈ Tw := Tw_of 34 (by decide +kernel) rfl
theorem tw_ini_X1 : (Jvm.Cond.initialized "FleetSettings$Heads") ∈ Tw := Tw_of 35 (by decide +kernel) rfl
theorem tw_ini_X9 : (Jvm.Cond.initialized "FleetSettings$Cells") ∈ Tw := Tw_of 36 (by decide +kernel) rfl
theorem tw_ini_J7 : (Jvm.Cond.initialized "java/util/Arrays") ∈ Tw := Tw_of 37 (by decide +kernel) rfl
theorem tw_ini_X3 : (Jvm.Cond.initialized "FleetSettings$Outcome") ∈ Tw := Tw_of 38 (by decide +kernel) rfl
theorem tw_ini_X4 : (Jvm.Cond.initialized "FleetSettings$Person") ∈ Tw := Tw_of 39 (by decide +kernel) rfl
theorem tw_ini_X2 : (Jvm.Cond.initialized "FleetSettings$Machine") ∈ Tw := Tw_of 40 (by decide +kernel) rfl
theorem tw_ini_X0 : (Jvm.Cond.initialized "FleetSettings$Change") ∈ Tw := Tw_of 41 (by decide +kernel) rfl
theorem tw_ini_THR : (Jvm.Cond.initialized "java/lang/Throwable") ∈ Tw := Tw_of 42 (by decide +kernel) rfl
theorem tw_ini_EXC : (Jvm.Cond.initialized "java/lang/Exception") ∈ Tw := Tw_of 43 (by decide +kernel) rfl
theorem tw_ini_RTE : (Jvm.Cond.initialized "java/lang/RuntimeException") ∈ Tw := Tw_of 44 (by decide +kernel) rfl
theorem tw_ini_IOOBE : (Jvm.Cond.initialized "java/lang/IndexOutOfBoundsException") ∈ Tw := Tw_of 45 (by decide +kernel) rfl
theorem tw_ini_ISE : (Jvm.Cond.initialized "java/lang/IllegalStateException") ∈ Tw := Tw_of 46 (by decide +kernel) rfl
theorem tw_ini_IAE : (Jvm.Cond.initialized "java/lang/IllegalArgumentException") ∈ Tw := Tw_of 47 (by decide +kernel) rfl
theorem tw_ini_J6 : (Jvm.Cond.initialized "java/lang/Integer") ∈ Tw := Tw_of 48 (by decide +kernel) rfl
theorem tw_cl_L_11 : (Jvm.Cond.classLink "FleetSettingsLaw" (11 : Nat) "FleetSettings") ∈ Tw := Tw_of 49 (by decide +kernel) rfl
theorem tw_ins_X5 : (Jvm.Cond.instantiable "FleetSettings" (16 : Nat)) ∈ Tw := Tw_of 50 (by decide +kernel) rfl
theorem tw_ml_L_171 : (Jvm.Cond.methodLink "FleetSettingsLaw" (171 : Nat) ({ cls := "FleetSettings", name := "<init>", desc := "()V" } : Jvm.MethodName)) ∈ Tw := Tw_of 51 (by decide +kernel) rfl
theorem tw_im_X5_init : (Jvm.Cond.instanceMethod ({ cls := "FleetSettings", name := "<init>", desc := "()V" } : Jvm.MethodName)) ∈ Tw := Tw_of 52 (by decide +kernel) rfl
theorem tw_code_X5_init : (Jvm.Cond.code ({ cls := "FleetSettings", name := "<init>", desc := "()V" } : Jvm.MethodName) prog_1_method_1_code (2 : Nat) (Option.none : Option Jvm.ClassFile.FieldType)) ∈ Tw := Tw_of 53 (by decide +kernel) rfl
theorem tw_ml_X5_3 : (Jvm.Cond.methodLink "FleetSettings" (3 : Nat) ({ cls := "java/lang/Object", name := "<init>", desc := "()V" } : Jvm.MethodName)) ∈ Tw := Tw_of 54 (by decide +kernel) rfl
theorem tw_im_objInit : (Jvm.Cond.instanceMethod ({ cls := "java/lang/Object", name := "<init>", desc := "()V" } : Jvm.MethodName)) ∈ Tw := Tw_of 55 (by decide +kernel) rfl
theorem tw_code_objInit : (Jvm.Cond.code ({ cls := "java/lang/Object", name := "<init>", desc := "()V" } : Jvm.MethodName) object_method_1_code (1 : Nat) (Option.none : Option Jvm.ClassFile.FieldType)) ∈ Tw := Tw_of 56 (by decide +kernel) rfl
theorem tw_cl_X5_17 : (Jvm.Cond.classLink "FleetSettings" (17 : Nat) "FleetSettings$Person") ∈ Tw := Tw_of 57 (by decide +kernel) rfl
theorem tw_cl_X5_29 : (Jvm.Cond.classLink "FleetSettings" (29 : Nat) "FleetSettings$Machine") ∈ Tw := Tw_of 59 (by decide +kernel) rfl
theorem tw_cl_X5_35 : (Jvm.Cond.classLink "FleetSettings" (35 : Nat) "FleetSettings$Change") ∈ Tw := Tw_of 61 (by decide +kernel) rfl
theorem tw_cl_X5_44 : (Jvm.Cond.classLink "FleetSettings" (44 : Nat) "FleetSettings$Heads") ∈ Tw := Tw_of 63 (by decide +kernel) rfl
theorem tw_ins_X1 : (Jvm.Cond.instantiable "FleetSettings$Heads" (2 : Nat)) ∈ Tw := Tw_of 64 (by decide +kernel) rfl
theorem tw_ml_X5_46 : (Jvm.Cond.methodLink "FleetSettings" (46 : Nat) ({ cls := "FleetSettings$Heads", name := "<init>", desc := "()V" } : Jvm.MethodName)) ∈ Tw := Tw_of 65 (by decide +kernel) rfl
theorem tw_im_X1_init : (Jvm.Cond.instanceMethod ({ cls := "FleetSettings$Heads", name := "<init>", desc := "()V" } : Jvm.MethodName)) ∈ Tw := Tw_of 66 (by decide +kernel) rfl
theorem tw_code_X1_init : (Jvm.Cond.code ({ cls := "FleetSettings$Heads", name := "<init>", desc := "()V" } : Jvm.MethodName) prog_4_method_1_code (1 : Nat) (Option.none : Option Jvm.ClassFile.FieldType)) ∈ Tw := Tw_of 67 (by decide +kernel) rfl
theorem tw_ml_X1_3 : (Jvm.Cond.methodLink "FleetSettings$Heads" (3 : Nat) ({ cls := "java/lang/Object", name := "<init>", desc := "()V" } : Jvm.MethodName)) ∈ Tw := Tw_of 68 (by decide +kernel) rfl
theorem tw_cl_X1_9 : (Jvm.Cond.classLink "FleetSettings$Heads" (9 : Nat) "FleetSettings$Cells") ∈ Tw := Tw_of 69 (by decide +kernel) rfl
theorem tw_ins_X9 : (Jvm.Cond.instantiable "FleetSettings$Cells" (1 : Nat)) ∈ Tw := Tw_of 70 (by decide +kernel) rfl
theorem tw_ml_X1_11 : (Jvm.Cond.methodLink "FleetSettings$Heads" (11 : Nat) ({ cls := "FleetSettings$Cells", name := "<init>", desc := "()V" } : Jvm.MethodName)) ∈ Tw := Tw_of 71 (by decide +kernel) rfl
theorem tw_im_X9_init : (Jvm.Cond.instanceMethod ({ cls := "FleetSettings$Cells", name := "<init>", desc := "()V" } : Jvm.MethodName)) ∈ Tw := Tw_of 72 (by decide +kernel) rfl
theorem tw_code_X9_init : (Jvm.Cond.code ({ cls := "FleetSettings$Cells", name := "<init>", desc := "()V" } : Jvm.MethodName) prog_2_method_1_code (1 : Nat) (Option.none : Option Jvm.ClassFile.FieldType)) ∈ Tw := Tw_of 73 (by decide +kernel) rfl
theorem tw_ml_X9_3 : (Jvm.Cond.methodLink "FleetSettings$Cells" (3 : Nat) ({ cls := "java/lang/Object", name := "<init>", desc := "()V" } : Jvm.MethodName)) ∈ Tw := Tw_of 74 (by decide +kernel) rfl
theorem tw_ml_X9_15 : (Jvm.Cond.methodLink "FleetSettings$Cells" (15 : Nat) ({ cls := "java/util/Arrays", name := "fill", desc := "([II)V" } : Jvm.MethodName)) ∈ Tw := Tw_of 75 (by decide +kernel) rfl
theorem tw_st_J7_fill_53178 : (Jvm.Cond.static ({ cls := "java/util/Arrays", name := "fill", desc := "([II)V" } : Jvm.MethodName)) ∈ Tw := Tw_of 76 (by decide +kernel) rfl
theorem tw_code_J7_fill_53178 : (Jvm.Cond.code ({ cls := "java/util/Arrays", name := "fill", desc := "([II)V" } : Jvm.MethodName) prog_18_method_103_code (4 : Nat) (Option.none : Option Jvm.ClassFile.FieldType)) ∈ Tw := Tw_of 77 (by decide +kernel) rfl
theorem tw_fl_X9_9 : (Jvm.Cond.fieldLink "FleetSettings$Cells" (9 : Nat) "FleetSettings$Cells" "changeAt" "[I") ∈ Tw := Tw_of 78 (by decide +kernel) rfl
theorem tw_ac_int : (Jvm.Cond.arrayClass Jvm.ClassFile.FieldType.int) ∈ Tw := Tw_of 82 (by decide +kernel) rfl
theorem tw_ml_X1_22 : (Jvm.Cond.methodLink "FleetSettings$Heads" (22 : Nat) ({ cls := "java/util/Arrays", name := "fill", desc := "([II)V" } : Jvm.MethodName)) ∈ Tw := Tw_of 83 (by decide +kernel) rfl
theorem tw_fl_X1_12 : (Jvm.Cond.fieldLink "FleetSettings$Heads" (12 : Nat) "FleetSettings$Heads" "cells" "LFleetSettings$Cells;") ∈ Tw := Tw_of 84 (by decide +kernel) rfl
theorem tw_fl_X5_219 : (Jvm.Cond.fieldLink "FleetSettings" (219 : Nat) "FleetSettings$Heads" "cells" "LFleetSettings$Cells;") ∈ Tw := Tw_of 85 (by decide +kernel) rfl
theorem tw_fl_X1_18 : (Jvm.Cond.fieldLink "FleetSettings$Heads" (18 : Nat) "FleetSettings$Heads" "rankOfChange" "[I") ∈ Tw := Tw_of 86 (by decide +kernel) rfl
theorem tw_cl_X5_54 : (Jvm.Cond.classLink "FleetSettings" (54 : Nat) "FleetSettings$Outcome") ∈ Tw := Tw_of 92 (by decide +kernel) rfl
theorem tw_ins_X3 : (Jvm.Cond.instantiable "FleetSettings$Outcome" (4 : Nat)) ∈ Tw := Tw_of 93 (by decide +kernel) rfl
theorem tw_im_X3_init : (Jvm.Cond.instanceMethod ({ cls := "FleetSettings$Outcome", name := "<init>", desc := "()V" } : Jvm.MethodName)) ∈ Tw := Tw_of 95 (by decide +kernel) rfl
theorem tw_code_X3_init : (Jvm.Cond.code ({ cls := "FleetSettings$Outcome", name := "<init>", desc := "()V" } : Jvm.MethodName) prog_6_method_1_code (1 : Nat) (Option.none : Option Jvm.ClassFile.FieldType)) ∈ Tw := Tw_of 96 (by decide +kernel) rfl
theorem tw_ml_X3_3 : (Jvm.Cond.methodLink "FleetSettings$Outcome" (3 : Nat) ({ cls := "java/lang/Object", name := "<init>", desc := "()V" } : Jvm.MethodName)) ∈ Tw := Tw_of 97 (by decide +kernel) rfl
theorem tw_fl_X3_9 : (Jvm.Cond.fieldLink "FleetSettings$Outcome" (9 : Nat) "FleetSettings$Outcome" "value" "[I") ∈ Tw := Tw_of 98 (by decide +kernel) rfl
theorem tw_fl_X3_15 : (Jvm.Cond.fieldLink "FleetSettings$Outcome" (15 : Nat) "FleetSettings$Outcome" "layer" "[I") ∈ Tw := Tw_of 99 (by decide +kernel) rfl
theorem tw_fl_X3_18 : (Jvm.Cond.fieldLink "FleetSettings$Outcome" (18 : Nat) "FleetSettings$Outcome" "rankOfKey" "[I") ∈ Tw := Tw_of 100 (by decide +kernel) rfl
theorem tw_fl_X3_27 : (Jvm.Cond.fieldLink "FleetSettings$Outcome" (27 : Nat) "FleetSettings$Outcome" "hiddenKeys" "I") ∈ Tw := Tw_of 101 (by decide +kernel) rfl
theorem tw_fl_X5_269 : (Jvm.Cond.fieldLink "FleetSettings" (269 : Nat) "FleetSettings$Outcome" "hiddenKeys" "I") ∈ Tw := Tw_of 102 (by decide +kernel) rfl
theorem tw_ml_X5_61 : (Jvm.Cond.methodLink "FleetSettings" (61 : Nat) ({ cls := "java/util/Arrays", name := "fill", desc := "([II)V" } : Jvm.MethodName)) ∈ Tw := Tw_of 112 (by decide +kernel) rfl
theorem tw_ins_X4 : (Jvm.Cond.instantiable "FleetSettings$Person" (4 : Nat)) ∈ Tw := Tw_of 113 (by decide +kernel) rfl
theorem tw_im_X4_init : (Jvm.Cond.instanceMethod ({ cls := "FleetSettings$Person", name := "<init>", desc := "()V" } : Jvm.MethodName)) ∈ Tw := Tw_of 115 (by decide +kernel) rfl
theorem tw_code_X4_init : (Jvm.Cond.code ({ cls := "FleetSettings$Person", name := "<init>", desc := "()V" } : Jvm.MethodName) prog_7_method_1_code (1 : Nat) (Option.none : Option Jvm.ClassFile.FieldType)) ∈ Tw := Tw_of 116 (by decide +kernel) rfl
theorem tw_ml_X4_3 : (Jvm.Cond.methodLink "FleetSettings$Person" (3 : Nat) ({ cls := "java/lang/Object", name := "<init>", desc := "()V" } : Jvm.MethodName)) ∈ Tw := Tw_of 117 (by decide +kernel) rfl
theorem tw_fl_X4_9 : (Jvm.Cond.fieldLink "FleetSettings$Person" (9 : Nat) "FleetSettings$Person" "isInService" "Z") ∈ Tw := Tw_of 118 (by decide +kernel) rfl
theorem tw_fl_X5_82 : (Jvm.Cond.fieldLink "FleetSettings" (82 : Nat) "FleetSettings$Person" "isInService" "Z") ∈ Tw := Tw_of 119 (by decide +kernel) rfl
theorem tw_fl_X4_15 : (Jvm.Cond.fieldLink "FleetSettings$Person" (15 : Nat) "FleetSettings$Person" "isSuspect" "Z") ∈ Tw := Tw_of 120 (by decide +kernel) rfl
theorem tw_fl_X5_94 : (Jvm.Cond.fieldLink "FleetSettings" (94 : Nat) "FleetSettings$Person" "isSuspect" "Z") ∈ Tw := Tw_of 121 (by decide +kernel) rfl
theorem tw_fl_X4_18 : (Jvm.Cond.fieldLink "FleetSettings$Person" (18 : Nat) "FleetSettings$Person" "leftDay" "I") ∈ Tw := Tw_of 122 (by decide +kernel) rfl
theorem tw_fl_X5_100 : (Jvm.Cond.fieldLink "FleetSettings" (100 : Nat) "FleetSettings$Person" "leftDay" "I") ∈ Tw := Tw_of 123 (by decide +kernel) rfl
theorem tw_fl_X5_103 : (Jvm.Cond.fieldLink "FleetSettings" (103 : Nat) "FleetSettings$Person" "leftMoment" "I") ∈ Tw := Tw_of 124 (by decide +kernel) rfl
theorem tw_fl_X0_75 : (Jvm.Cond.fieldLink "FleetSettings$Change" (75 : Nat) "FleetSettings$Person" "leftMoment" "I") ∈ Tw := Tw_of 125 (by decide +kernel) rfl
theorem tw_ins_X2 : (Jvm.Cond.instantiable "FleetSettings$Machine" (6 : Nat)) ∈ Tw := Tw_of 135 (by decide +kernel) rfl
theorem tw_ml_X5_68 : (Jvm.Cond.methodLink "FleetSettings" (68 : Nat) ({ cls := "FleetSettings$Machine", name := "<init>", desc := "(I)V" } : Jvm.MethodName)) ∈ Tw := Tw_of 136 (by decide +kernel) rfl
theorem tw_im_X2_init : (Jvm.Cond.instanceMethod ({ cls := "FleetSettings$Machine", name := "<init>", desc := "(I)V" } : Jvm.MethodName)) ∈ Tw := Tw_of 137 (by decide +kernel) rfl
theorem tw_code_X2_init : (Jvm.Cond.code ({ cls := "FleetSettings$Machine", name := "<init>", desc := "(I)V" } : Jvm.MethodName) prog_5_method_1_code (2 : Nat) (Option.none : Option Jvm.ClassFile.FieldType)) ∈ Tw := Tw_of 138 (by decide +kernel) rfl
theorem tw_ml_X2_3 : (Jvm.Cond.methodLink "FleetSettings$Machine" (3 : Nat) ({ cls := "java/lang/Object", name := "<init>", desc := "()V" } : Jvm.MethodName)) ∈ Tw := Tw_of 139 (by decide +kernel) rfl
theorem tw_cl_X2_9 : (Jvm.Cond.classLink "FleetSettings$Machine" (9 : Nat) "FleetSettings$Cells") ∈ Tw := Tw_of 140 (by decide +kernel) rfl
theorem tw_ml_X2_11 : (Jvm.Cond.methodLink "FleetSettings$Machine" (11 : Nat) ({ cls := "FleetSettings$Cells", name := "<init>", desc := "()V" } : Jvm.MethodName)) ∈ Tw := Tw_of 141 (by decide +kernel) rfl
theorem tw_fl_X2_22 : (Jvm.Cond.fieldLink "FleetSettings$Machine" (22 : Nat) "FleetSettings$Machine" "ownSlot" "I") ∈ Tw := Tw_of 142 (by decide +kernel) rfl
theorem tw_fl_X2_26 : (Jvm.Cond.fieldLink "FleetSettings$Machine" (26 : Nat) "FleetSettings$Machine" "group" "I") ∈ Tw := Tw_of 143 (by decide +kernel) rfl
theorem tw_fl_X5_144 : (Jvm.Cond.fieldLink "FleetSettings" (144 : Nat) "FleetSettings$Machine" "group" "I") ∈ Tw := Tw_of 144 (by decide +kernel) rfl
theorem tw_fl_X5_139 : (Jvm.Cond.fieldLink "FleetSettings" (139 : Nat) "FleetSettings$Machine" "freeFrom" "I") ∈ Tw := Tw_of 145 (by decide +kernel) rfl
theorem tw_fl_X2_29 : (Jvm.Cond.fieldLink "FleetSettings$Machine" (29 : Nat) "FleetSettings$Machine" "layerCount" "I") ∈ Tw := Tw_of 146 (by decide +kernel) rfl
theorem tw_fl_X5_262 : (Jvm.Cond.fieldLink "FleetSettings" (262 : Nat) "FleetSettings$Machine" "layerCount" "I") ∈ Tw := Tw_of 147 (by decide +kernel) rfl
theorem tw_fl_X2_12 : (Jvm.Cond.fieldLink "FleetSettings$Machine" (12 : Nat) "FleetSettings$Machine" "takenCells" "LFleetSettings$Cells;") ∈ Tw := Tw_of 148 (by decide +kernel) rfl
theorem tw_fl_X5_239 : (Jvm.Cond.fieldLink "FleetSettings" (239 : Nat) "FleetSettings$Machine" "takenCells" "LFleetSettings$Cells;") ∈ Tw := Tw_of 149 (by decide +kernel) rfl
theorem tw_fl_X2_18 : (Jvm.Cond.fieldLink "FleetSettings$Machine" (18 : Nat) "FleetSettings$Machine" "slotOfLayer" "[I") ∈ Tw := Tw_of 150 (by decide +kernel) rfl
theorem tw_ins_X0 : (Jvm.Cond.instantiable "FleetSettings$Change" (8 : Nat)) ∈ Tw := Tw_of 164 (by decide +kernel) rfl
theorem tw_ml_X5_71 : (Jvm.Cond.methodLink "FleetSettings" (71 : Nat) ({ cls := "FleetSettings$Change", name := "<init>", desc := "()V" } : Jvm.MethodName)) ∈ Tw := Tw_of 165 (by decide +kernel) rfl
theorem tw_im_X0_init : (Jvm.Cond.instanceMethod ({ cls := "FleetSettings$Change", name := "<init>", desc := "()V" } : Jvm.MethodName)) ∈ Tw := Tw_of 166 (by decide +kernel) rfl
theorem tw_code_X0_init : (Jvm.Cond.code ({ cls := "FleetSettings$Change", name := "<init>", desc := "()V" } : Jvm.MethodName) prog_3_method_1_code (1 : Nat) (Option.none : Option Jvm.ClassFile.FieldType)) ∈ Tw := Tw_of 167 (by decide +kernel) rfl
theorem tw_ml_X0_3 : (Jvm.Cond.methodLink "FleetSettings$Change" (3 : Nat) ({ cls := "java/lang/Object", name := "<init>", desc := "()V" } : Jvm.MethodName)) ∈ Tw := Tw_of 168 (by decide +kernel) rfl
theorem tw_ml_X0_22 : (Jvm.Cond.methodLink "FleetSettings$Change" (22 : Nat) ({ cls := "java/util/Arrays", name := "fill", desc := "([II)V" } : Jvm.MethodName)) ∈ Tw := Tw_of 169 (by decide +kernel) rfl
theorem tw_fl_X0_28 : (Jvm.Cond.fieldLink "FleetSettings$Change" (28 : Nat) "FleetSettings$Change" "author" "I") ∈ Tw := Tw_of 170 (by decide +kernel) rfl
theorem tw_fl_X0_31 : (Jvm.Cond.fieldLink "FleetSettings$Change" (31 : Nat) "FleetSettings$Change" "cell" "I") ∈ Tw := Tw_of 171 (by decide +kernel) rfl
theorem tw_fl_X5_272 : (Jvm.Cond.fieldLink "FleetSettings" (272 : Nat) "FleetSettings$Change" "cell" "I") ∈ Tw := Tw_of 172 (by decide +kernel) rfl
theorem tw_fl_X0_34 : (Jvm.Cond.fieldLink "FleetSettings$Change" (34 : Nat) "FleetSettings$Change" "what" "I") ∈ Tw := Tw_of 173 (by decide +kernel) rfl
theorem tw_fl_X5_347 : (Jvm.Cond.fieldLink "FleetSettings" (347 : Nat) "FleetSettings$Change" "what" "I") ∈ Tw := Tw_of 174 (by decide +kernel) rfl
theorem tw_fl_X0_37 : (Jvm.Cond.fieldLink "FleetSettings$Change" (37 : Nat) "FleetSettings$Change" "proposedDay" "I") ∈ Tw := Tw_of 175 (by decide +kernel) rfl
theorem tw_fl_X0_9 : (Jvm.Cond.fieldLink "FleetSettings$Change" (9 : Nat) "FleetSettings$Change" "condition" "I") ∈ Tw := Tw_of 176 (by decide +kernel) rfl
theorem tw_fl_X5_195 : (Jvm.Cond.fieldLink "FleetSettings" (195 : Nat) "FleetSettings$Change" "condition" "I") ∈ Tw := Tw_of 177 (by decide +kernel) rfl
theorem tw_fl_X0_40 : (Jvm.Cond.fieldLink "FleetSettings$Change" (40 : Nat) "FleetSettings$Change" "goodApprovers" "I") ∈ Tw := Tw_of 178 (by decide +kernel) rfl
theorem tw_fl_X0_15 : (Jvm.Cond.fieldLink "FleetSettings$Change" (15 : Nat) "FleetSettings$Change" "approvedDay" "[I") ∈ Tw := Tw_of 179 (by decide +kernel) rfl
theorem tw_fl_X0_19 : (Jvm.Cond.fieldLink "FleetSettings$Change" (19 : Nat) "FleetSettings$Change" "approvedMoment" "[I") ∈ Tw := Tw_of 180 (by decide +kernel) rfl
theorem tw_fl_X5_97 : (Jvm.Cond.fieldLink "FleetSettings" (97 : Nat) "FleetSettings" "today" "I") ∈ Tw := Tw_of 198 (by decide +kernel) rfl
theorem tw_fl_X5_9 : (Jvm.Cond.fieldLink "FleetSettings" (9 : Nat) "FleetSettings" "pace" "I") ∈ Tw := Tw_of 199 (by decide +kernel) rfl
theorem tw_fl_X5_13 : (Jvm.Cond.fieldLink "FleetSettings" (13 : Nat) "FleetSettings" "dutySets" "[I") ∈ Tw := Tw_of 200 (by decide +kernel) rfl
theorem tw_fl_X5_19 : (Jvm.Cond.fieldLink "FleetSettings" (19 : Nat) "FleetSettings" "personRows" "[LFleetSettings$Person;") ∈ Tw := Tw_of 201 (by decide +kernel) rfl
theorem tw_fl_X5_23 : (Jvm.Cond.fieldLink "FleetSettings" (23 : Nat) "FleetSettings" "parents" "[I") ∈ Tw := Tw_of 202 (by decide +kernel) rfl
theorem tw_fl_X5_26 : (Jvm.Cond.fieldLink "FleetSettings" (26 : Nat) "FleetSettings" "groupCount" "I") ∈ Tw := Tw_of 203 (by decide +kernel) rfl
theorem tw_fl_X5_31 : (Jvm.Cond.fieldLink "FleetSettings" (31 : Nat) "FleetSettings" "machineRows" "[LFleetSettings$Machine;") ∈ Tw := Tw_of 204 (by decide +kernel) rfl
theorem tw_fl_X5_127 : (Jvm.Cond.fieldLink "FleetSettings" (127 : Nat) "FleetSettings" "machineCount" "I") ∈ Tw := Tw_of 205 (by decide +kernel) rfl
theorem tw_fl_X5_37 : (Jvm.Cond.fieldLink "FleetSettings" (37 : Nat) "FleetSettings" "changeRows" "[LFleetSettings$Change;") ∈ Tw := Tw_of 206 (by decide +kernel) rfl
theorem tw_fl_X5_163 : (Jvm.Cond.fieldLink "FleetSettings" (163 : Nat) "FleetSettings" "changeCount" "I") ∈ Tw := Tw_of 207 (by decide +kernel) rfl
theorem tw_fl_X5_290 : (Jvm.Cond.fieldLink "FleetSettings" (290 : Nat) "FleetSettings" "rankCount" "I") ∈ Tw := Tw_of 208 (by decide +kernel) rfl
theorem tw_fl_X5_91 : (Jvm.Cond.fieldLink "FleetSettings" (91 : Nat) "FleetSettings" "moment" "I") ∈ Tw := Tw_of 209 (by decide +kernel) rfl
theorem tw_fl_X5_41 : (Jvm.Cond.fieldLink "FleetSettings" (41 : Nat) "FleetSettings" "excludedBy" "[I") ∈ Tw := Tw_of 210 (by decide +kernel) rfl
theorem tw_fl_X5_47 : (Jvm.Cond.fieldLink "FleetSettings" (47 : Nat) "FleetSettings" "heads" "LFleetSettings$Heads;") ∈ Tw := Tw_of 211 (by decide +kernel) rfl
theorem tw_fl_X5_51 : (Jvm.Cond.fieldLink "FleetSettings" (51 : Nat) "FleetSettings" "headsAnew" "LFleetSettings$Heads;") ∈ Tw := Tw_of 212 (by decide +kernel) rfl
theorem tw_fl_X5_57 : (Jvm.Cond.fieldLink "FleetSettings" (57 : Nat) "FleetSettings" "outcome" "LFleetSettings$Outcome;") ∈ Tw := Tw_of 213 (by decide +kernel) rfl
theorem tw_ml_L_198 : (Jvm.Cond.methodLink "FleetSettingsLaw" (198 : Nat) ({ cls := "FleetSettings", name := "pass", desc := "(I)I" } : Jvm.MethodName)) ∈ Tw := Tw_of 247 (by decide +kernel) rfl
theorem tw_im_X5_pass : (Jvm.Cond.instanceMethod ({ cls := "FleetSettings", name := "pass", desc := "(I)I" } : Jvm.MethodName)) ∈ Tw := Tw_of 248 (by decide +kernel) rfl
theorem tw_sel_X5_pass : (Jvm.Cond.selects "FleetSettings" ({ cls := "FleetSettings", name := "pass", desc := "(I)I" } : Jvm.MethodName) ({ cls := "FleetSettings", name := "pass", desc := "(I)I" } : Jvm.MethodName)) ∈ Tw := Tw_of 249 (by decide +kernel) rfl
theorem tw_code_X5_pass : (Jvm.Cond.code ({ cls := "FleetSettings", name := "pass", desc := "(I)I" } : Jvm.MethodName) prog_1_method_5_code (5 : Nat) (Option.some Jvm.ClassFile.FieldType.int)) ∈ Tw := Tw_of 250 (by decide +kernel) rfl
theorem tw_cl_X5_72 : (Jvm.Cond.classLink "FleetSettings" (72 : Nat) "java/lang/IllegalArgumentException") ∈ Tw := Tw_of 251 (by decide +kernel) rfl
theorem tw_ins_IAE : (Jvm.Cond.instantiable "java/lang/IllegalArgumentException" (6 : Nat)) ∈ Tw := Tw_of 252 (by decide +kernel) rfl
theorem tw_fl_THR_198 : (Jvm.Cond.fieldLink "java/lang/Throwable" (198 : Nat) "java/lang/Throwable" "backtrace" "Ljava/lang/Object;") ∈ Tw := Tw_of 272 (by decide +kernel) rfl
theorem tw_ml_THR_1 : (Jvm.Cond.methodLink "java/lang/Throwable" (1 : Nat) ({ cls := "java/lang/Object", name := "<init>", desc := "()V" } : Jvm.MethodName)) ∈ Tw := Tw_of 276 (by decide +kernel) rfl
theorem tw_fl_THR_13 : (Jvm.Cond.fieldLink "java/lang/Throwable" (13 : Nat) "java/lang/Throwable" "UNASSIGNED_STACK" "[Ljava/lang/StackTraceElement;") ∈ Tw := Tw_of 277 (by decide +kernel) rfl
theorem tw_fl_THR_20 : (Jvm.Cond.fieldLink "java/lang/Throwable" (20 : Nat) "java/lang/Throwable" "SUPPRESSED_SENTINEL" "Ljava/util/List;") ∈ Tw := Tw_of 279 (by decide +kernel) rfl
theorem tw_ml_THR_27 : (Jvm.Cond.methodLink "java/lang/Throwable" (27 : Nat) ({ cls := "java/lang/Throwable", name := "fillInStackTrace", desc := "()Ljava/lang/Throwable;" } : Jvm.MethodName)) ∈ Tw := Tw_of 281 (by decide +kernel) rfl
theorem tw_ml_THR_202 : (Jvm.Cond.methodLink "java/lang/Throwable" (202 : Nat) ({ cls := "java/lang/Throwable", name := "fillInStackTrace", desc := "(I)Ljava/lang/Throwable;" } : Jvm.MethodName)) ∈ Tw := Tw_of 287 (by decide +kernel) rfl
theorem tw_ins_THR : (Jvm.Cond.instantiable "java/lang/Throwable" (6 : Nat)) ∈ Tw := Tw_of 290 (by decide +kernel) rfl
theorem tw_ml_X5_76 : (Jvm.Cond.methodLink "FleetSettings" (76 : Nat) ({ cls := "java/lang/IllegalArgumentException", name := "<init>", desc := "(Ljava/lang/String;)V" } : Jvm.MethodName)) ∈ Tw := Tw_of 293 (by decide +kernel) rfl
theorem tw_ml_IAE_7 : (Jvm.Cond.methodLink "java/lang/IllegalArgumentException" (7 : Nat) ({ cls := "java/lang/RuntimeException", name := "<init>", desc := "(Ljava/lang/String;)V" } : Jvm.MethodName)) ∈ Tw := Tw_of 296 (by decide +kernel) rfl
theorem tw_ml_RTE_7 : (Jvm.Cond.methodLink "java/lang/RuntimeException" (7 : Nat) ({ cls := "java/lang/Exception", name := "<init>", desc := "(Ljava/lang/String;)V" } : Jvm.MethodName)) ∈ Tw := Tw_of 299 (by decide +kernel) rfl
theorem tw_ml_EXC_7 : (Jvm.Cond.methodLink "java/lang/Exception" (7 : Nat) ({ cls := "java/lang/Throwable", name := "<init>", desc := "(Ljava/lang/String;)V" } : Jvm.MethodName)) ∈ Tw := Tw_of 302 (by decide +kernel) rfl
theorem tw_fl_THR_31 : (Jvm.Cond.fieldLink "java/lang/Throwable" (31 : Nat) "java/lang/Throwable" "detailMessage" "Ljava/lang/String;") ∈ Tw := Tw_of 306 (by decide +kernel) rfl
theorem tw_fl_THR_7 : (Jvm.Cond.fieldLink "java/lang/Throwable" (7 : Nat) "java/lang/Throwable" "cause" "Ljava/lang/Throwable;") ∈ Tw := Tw_of 307 (by decide +kernel) rfl
theorem tw_fl_THR_17 : (Jvm.Cond.fieldLink "java/lang/Throwable" (17 : Nat) "java/lang/Throwable" "stackTrace" "[Ljava/lang/StackTraceElement;") ∈ Tw := Tw_of 308 (by decide +kernel) rfl
theorem tw_fl_THR_24 : (Jvm.Cond.fieldLink "java/lang/Throwable" (24 : Nat) "java/lang/Throwable" "suppressedExceptions" "Ljava/util/List;") ∈ Tw := Tw_of 309 (by decide +kernel) rfl
theorem tw_ac_byte : (Jvm.Cond.arrayClass Jvm.ClassFile.FieldType.byte) ∈ Tw := Tw_of 318 (by decide +kernel) rfl
theorem tw_ml_X5_114 : (Jvm.Cond.methodLink "FleetSettings" (114 : Nat) ({ cls := "FleetSettings", name := "stepMachines", desc := "()I" } : Jvm.MethodName)) ∈ Tw := Tw_of 319 (by decide +kernel) rfl
theorem tw_im_X5_stepMachines : (Jvm.Cond.instanceMethod ({ cls := "FleetSettings", name := "stepMachines", desc := "()I" } : Jvm.MethodName)) ∈ Tw := Tw_of 321 (by decide +kernel) rfl
theorem tw_code_X5_stepMachines : (Jvm.Cond.code ({ cls := "FleetSettings", name := "stepMachines", desc := "()I" } : Jvm.MethodName) prog_1_method_47_code (6 : Nat) (Option.some Jvm.ClassFile.FieldType.int)) ∈ Tw := Tw_of 322 (by decide +kernel) rfl
theorem tw_ml_X5_147 : (Jvm.Cond.methodLink "FleetSettings" (147 : Nat) ({ cls := "FleetSettings", name := "nearestLayerNotHeld", desc := "(LFleetSettings$Machine;)I" } : Jvm.MethodName)) ∈ Tw := Tw_of 323 (by decide +kernel) rfl
theorem tw_im_X5_nearestLayerNotHeld : (Jvm.Cond.instanceMethod ({ cls := "FleetSettings", name := "nearestLayerNotHeld", desc := "(LFleetSettings$Machine;)I" } : Jvm.MethodName)) ∈ Tw := Tw_of 325 (by decide +kernel) rfl
theorem tw_code_X5_nearestLayerNotHeld : (Jvm.Cond.code ({ cls := "FleetSettings", name := "nearestLayerNotHeld", desc := "(LFleetSettings$Machine;)I" } : Jvm.MethodName) prog_1_method_49_code (4 : Nat) (Option.some Jvm.ClassFile.FieldType.int)) ∈ Tw := Tw_of 326 (by decide +kernel) rfl
theorem tw_ml_X5_242 : (Jvm.Cond.methodLink "FleetSettings" (242 : Nat) ({ cls := "FleetSettings$Machine", name := "cellIn", desc := "(II)I" } : Jvm.MethodName)) ∈ Tw := Tw_of 327 (by decide +kernel) rfl
theorem tw_im_X2_cellIn : (Jvm.Cond.instanceMethod ({ cls := "FleetSettings$Machine", name := "cellIn", desc := "(II)I" } : Jvm.MethodName)) ∈ Tw := Tw_of 328 (by decide +kernel) rfl
theorem tw_sel_X2_cellIn : (Jvm.Cond.selects "FleetSettings$Machine" ({ cls := "FleetSettings$Machine", name := "cellIn", desc := "(II)I" } : Jvm.MethodName) ({ cls := "FleetSettings$Machine", name := "cellIn", desc := "(II)I" } : Jvm.MethodName)) ∈ Tw := Tw_of 329 (by decide +kernel) rfl
theorem tw_code_X2_cellIn : (Jvm.Cond.code ({ cls := "FleetSettings$Machine", name := "cellIn", desc := "(II)I" } : Jvm.MethodName) prog_5_method_4_code (3 : Nat) (Option.some Jvm.ClassFile.FieldType.int)) ∈ Tw := Tw_of 330 (by decide +kernel) rfl
theorem tw_ml_X2_39 : (Jvm.Cond.methodLink "FleetSettings$Machine" (39 : Nat) ({ cls := "FleetSettings$Machine", name := "hasLayer", desc := "(I)Z" } : Jvm.MethodName)) ∈ Tw := Tw_of 331 (by decide +kernel) rfl
theorem tw_im_X2_hasLayer : (Jvm.Cond.instanceMethod ({ cls := "FleetSettings$Machine", name := "hasLayer", desc := "(I)Z" } : Jvm.MethodName)) ∈ Tw := Tw_of 332 (by decide +kernel) rfl
theorem tw_sel_X2_hasLayer : (Jvm.Cond.selects "FleetSettings$Machine" ({ cls := "FleetSettings$Machine", name := "hasLayer", desc := "(I)Z" } : Jvm.MethodName) ({ cls := "FleetSettings$Machine", name := "hasLayer", desc := "(I)Z" } : Jvm.MethodName)) ∈ Tw := Tw_of 333 (by decide +kernel) rfl
theorem tw_code_X2_hasLayer : (Jvm.Cond.code ({ cls := "FleetSettings$Machine", name := "hasLayer", desc := "(I)Z" } : Jvm.MethodName) prog_5_method_3_code (2 : Nat) (Option.some Jvm.ClassFile.FieldType.boolean)) ∈ Tw := Tw_of 334 (by decide +kernel) rfl
theorem tw_st_X5_cellOf : (Jvm.Cond.static ({ cls := "FleetSettings", name := "cellOf", desc := "(II)I" } : Jvm.MethodName)) ∈ Tw := Tw_of 336 (by decide +kernel) rfl
theorem tw_code_X5_cellOf : (Jvm.Cond.code ({ cls := "FleetSettings", name := "cellOf", desc := "(II)I" } : Jvm.MethodName) prog_1_method_39_code (2 : Nat) (Option.some Jvm.ClassFile.FieldType.int)) ∈ Tw := Tw_of 337 (by decide +kernel) rfl
theorem tw_ml_X5_223 : (Jvm.Cond.methodLink "FleetSettings" (223 : Nat) ({ cls := "FleetSettings$Cells", name := "get", desc := "(I)I" } : Jvm.MethodName)) ∈ Tw := Tw_of 338 (by decide +kernel) rfl
theorem tw_im_X9_get : (Jvm.Cond.instanceMethod ({ cls := "FleetSettings$Cells", name := "get", desc := "(I)I" } : Jvm.MethodName)) ∈ Tw := Tw_of 339 (by decide +kernel) rfl
theorem tw_sel_X9_get : (Jvm.Cond.selects "FleetSettings$Cells" ({ cls := "FleetSettings$Cells", name := "get", desc := "(I)I" } : Jvm.MethodName) ({ cls := "FleetSettings$Cells", name := "get", desc := "(I)I" } : Jvm.MethodName)) ∈ Tw := Tw_of 340 (by decide +kernel) rfl
theorem tw_code_X9_get : (Jvm.Cond.code ({ cls := "FleetSettings$Cells", name := "get", desc := "(I)I" } : Jvm.MethodName) prog_2_method_3_code (2 : Nat) (Option.some Jvm.ClassFile.FieldType.int)) ∈ Tw := Tw_of 341 (by decide +kernel) rfl
theorem tw_ml_X9_21 : (Jvm.Cond.methodLink "FleetSettings$Cells" (21 : Nat) ({ cls := "FleetSettings$Cells", name := "isCell", desc := "(I)Z" } : Jvm.MethodName)) ∈ Tw := Tw_of 342 (by decide +kernel) rfl
theorem tw_im_X9_isCell : (Jvm.Cond.instanceMethod ({ cls := "FleetSettings$Cells", name := "isCell", desc := "(I)Z" } : Jvm.MethodName)) ∈ Tw := Tw_of 344 (by decide +kernel) rfl
theorem tw_code_X9_isCell : (Jvm.Cond.code ({ cls := "FleetSettings$Cells", name := "isCell", desc := "(I)Z" } : Jvm.MethodName) prog_2_method_5_code (2 : Nat) (Option.some Jvm.ClassFile.FieldType.boolean)) ∈ Tw := Tw_of 345 (by decide +kernel) rfl
theorem tw_ml_X5_325 : (Jvm.Cond.methodLink "FleetSettings" (325 : Nat) ({ cls := "FleetSettings", name := "isTakenNotHeld", desc := "(I)Z" } : Jvm.MethodName)) ∈ Tw := Tw_of 346 (by decide +kernel) rfl
theorem tw_im_X5_isTakenNotHeld : (Jvm.Cond.instanceMethod ({ cls := "FleetSettings", name := "isTakenNotHeld", desc := "(I)Z" } : Jvm.MethodName)) ∈ Tw := Tw_of 348 (by decide +kernel) rfl
theorem tw_code_X5_isTakenNotHeld : (Jvm.Cond.code ({ cls := "FleetSettings", name := "isTakenNotHeld", desc := "(I)Z" } : Jvm.MethodName) prog_1_method_50_code (2 : Nat) (Option.some Jvm.ClassFile.FieldType.boolean)) ∈ Tw := Tw_of 349 (by decide +kernel) rfl
theorem tw_ml_X5_285 : (Jvm.Cond.methodLink "FleetSettings" (285 : Nat) ({ cls := "FleetSettings", name := "isChange", desc := "(I)Z" } : Jvm.MethodName)) ∈ Tw := Tw_of 350 (by decide +kernel) rfl
theorem tw_im_X5_isChange : (Jvm.Cond.instanceMethod ({ cls := "FleetSettings", name := "isChange", desc := "(I)Z" } : Jvm.MethodName)) ∈ Tw := Tw_of 352 (by decide +kernel) rfl
theorem tw_code_X5_isChange : (Jvm.Cond.code ({ cls := "FleetSettings", name := "isChange", desc := "(I)Z" } : Jvm.MethodName) prog_1_method_37_code (2 : Nat) (Option.some Jvm.ClassFile.FieldType.boolean)) ∈ Tw := Tw_of 353 (by decide +kernel) rfl
theorem tw_ml_X5_317 : (Jvm.Cond.methodLink "FleetSettings" (317 : Nat) ({ cls := "FleetSettings", name := "goBack", desc := "(LFleetSettings$Machine;I)V" } : Jvm.MethodName)) ∈ Tw := Tw_of 354 (by decide +kernel) rfl
theorem tw_im_X5_goBack : (Jvm.Cond.instanceMethod ({ cls := "FleetSettings", name := "goBack", desc := "(LFleetSettings$Machine;I)V" } : Jvm.MethodName)) ∈ Tw := Tw_of 356 (by decide +kernel) rfl
theorem tw_code_X5_goBack : (Jvm.Cond.code ({ cls := "FleetSettings", name := "goBack", desc := "(LFleetSettings$Machine;I)V" } : Jvm.MethodName) prog_1_method_51_code (5 : Nat) (Option.none : Option Jvm.ClassFile.FieldType)) ∈ Tw := Tw_of 357 (by decide +kernel) rfl
theorem tw_ml_X5_328 : (Jvm.Cond.methodLink "FleetSettings" (328 : Nat) ({ cls := "FleetSettings$Cells", name := "set", desc := "(II)V" } : Jvm.MethodName)) ∈ Tw := Tw_of 358 (by decide +kernel) rfl
theorem tw_im_X9_set : (Jvm.Cond.instanceMethod ({ cls := "FleetSettings$Cells", name := "set", desc := "(II)V" } : Jvm.MethodName)) ∈ Tw := Tw_of 359 (by decide +kernel) rfl
theorem tw_sel_X9_set : (Jvm.Cond.selects "FleetSettings$Cells" ({ cls := "FleetSettings$Cells", name := "set", desc := "(II)V" } : Jvm.MethodName) ({ cls := "FleetSettings$Cells", name := "set", desc := "(II)V" } : Jvm.MethodName)) ∈ Tw := Tw_of 360 (by decide +kernel) rfl
theorem tw_code_X9_set : (Jvm.Cond.code ({ cls := "FleetSettings$Cells", name := "set", desc := "(II)V" } : Jvm.MethodName) prog_2_method_4_code (3 : Nat) (Option.none : Option Jvm.ClassFile.FieldType)) ∈ Tw := Tw_of 361 (by decide +kernel) rfl
theorem tw_ml_X5_321 : (Jvm.Cond.methodLink "FleetSettings" (321 : Nat) ({ cls := "FleetSettings", name := "takeFarthestLayer", desc := "(LFleetSettings$Machine;)Z" } : Jvm.MethodName)) ∈ Tw := Tw_of 362 (by decide +kernel) rfl
theorem tw_im_X5_takeFarthestLayer : (Jvm.Cond.instanceMethod ({ cls := "FleetSettings", name := "takeFarthestLayer", desc := "(LFleetSettings$Machine;)Z" } : Jvm.MethodName)) ∈ Tw := Tw_of 364 (by decide +kernel) rfl
theorem tw_code_X5_takeFarthestLayer : (Jvm.Cond.code ({ cls := "FleetSettings", name := "takeFarthestLayer", desc := "(LFleetSettings$Machine;)Z" } : Jvm.MethodName) prog_1_method_52_code (3 : Nat) (Option.some Jvm.ClassFile.FieldType.boolean)) ∈ Tw := Tw_of 365 (by decide +kernel) rfl
theorem tw_ml_X5_265 : (Jvm.Cond.methodLink "FleetSettings" (265 : Nat) ({ cls := "FleetSettings", name := "isBehindIn", desc := "(LFleetSettings$Machine;I)Z" } : Jvm.MethodName)) ∈ Tw := Tw_of 366 (by decide +kernel) rfl
theorem tw_im_X5_isBehindIn : (Jvm.Cond.instanceMethod ({ cls := "FleetSettings", name := "isBehindIn", desc := "(LFleetSettings$Machine;I)Z" } : Jvm.MethodName)) ∈ Tw := Tw_of 368 (by decide +kernel) rfl
theorem tw_code_X5_isBehindIn : (Jvm.Cond.code ({ cls := "FleetSettings", name := "isBehindIn", desc := "(LFleetSettings$Machine;I)Z" } : Jvm.MethodName) prog_1_method_54_code (5 : Nat) (Option.some Jvm.ClassFile.FieldType.boolean)) ∈ Tw := Tw_of 369 (by decide +kernel) rfl
theorem tw_ml_X5_331 : (Jvm.Cond.methodLink "FleetSettings" (331 : Nat) ({ cls := "FleetSettings", name := "takeLayer", desc := "(LFleetSettings$Machine;I)V" } : Jvm.MethodName)) ∈ Tw := Tw_of 370 (by decide +kernel) rfl
theorem tw_im_X5_takeLayer : (Jvm.Cond.instanceMethod ({ cls := "FleetSettings", name := "takeLayer", desc := "(LFleetSettings$Machine;I)V" } : Jvm.MethodName)) ∈ Tw := Tw_of 372 (by decide +kernel) rfl
theorem tw_code_X5_takeLayer : (Jvm.Cond.code ({ cls := "FleetSettings", name := "takeLayer", desc := "(LFleetSettings$Machine;I)V" } : Jvm.MethodName) prog_1_method_53_code (5 : Nat) (Option.none : Option Jvm.ClassFile.FieldType)) ∈ Tw := Tw_of 373 (by decide +kernel) rfl
theorem tw_ml_X5_118 : (Jvm.Cond.methodLink "FleetSettings" (118 : Nat) ({ cls := "FleetSettings", name := "isAnyBusy", desc := "()Z" } : Jvm.MethodName)) ∈ Tw := Tw_of 374 (by decide +kernel) rfl
theorem tw_im_X5_isAnyBusy : (Jvm.Cond.instanceMethod ({ cls := "FleetSettings", name := "isAnyBusy", desc := "()Z" } : Jvm.MethodName)) ∈ Tw := Tw_of 376 (by decide +kernel) rfl
theorem tw_code_X5_isAnyBusy : (Jvm.Cond.code ({ cls := "FleetSettings", name := "isAnyBusy", desc := "()Z" } : Jvm.MethodName) prog_1_method_48_code (2 : Nat) (Option.some Jvm.ClassFile.FieldType.boolean)) ∈ Tw := Tw_of 377 (by decide +kernel) rfl
theorem tw_ml_L_179 : (Jvm.Cond.methodLink "FleetSettingsLaw" (179 : Nat) ({ cls := "FleetSettings", name := "addGroup", desc := "(I)I" } : Jvm.MethodName)) ∈ Tw := Tw_of 378 (by decide +kernel) rfl
theorem tw_im_X5_addGroup : (Jvm.Cond.instanceMethod ({ cls := "FleetSettings", name := "addGroup", desc := "(I)I" } : Jvm.MethodName)) ∈ Tw := Tw_of 379 (by decide +kernel) rfl
theorem tw_sel_X5_addGroup : (Jvm.Cond.selects "FleetSettings" ({ cls := "FleetSettings", name := "addGroup", desc := "(I)I" } : Jvm.MethodName) ({ cls := "FleetSettings", name := "addGroup", desc := "(I)I" } : Jvm.MethodName)) ∈ Tw := Tw_of 380 (by decide +kernel) rfl
theorem tw_code_X5_addGroup : (Jvm.Cond.code ({ cls := "FleetSettings", name := "addGroup", desc := "(I)I" } : Jvm.MethodName) prog_1_method_7_code (3 : Nat) (Option.some Jvm.ClassFile.FieldType.int)) ∈ Tw := Tw_of 381 (by decide +kernel) rfl
theorem tw_ml_X5_122 : (Jvm.Cond.methodLink "FleetSettings" (122 : Nat) ({ cls := "FleetSettings", name := "requireGroup", desc := "(I)V" } : Jvm.MethodName)) ∈ Tw := Tw_of 382 (by decide +kernel) rfl
theorem tw_im_X5_requireGroup : (Jvm.Cond.instanceMethod ({ cls := "FleetSettings", name := "requireGroup", desc := "(I)V" } : Jvm.MethodName)) ∈ Tw := Tw_of 384 (by decide +kernel) rfl
theorem tw_code_X5_requireGroup : (Jvm.Cond.code ({ cls := "FleetSettings", name := "requireGroup", desc := "(I)V" } : Jvm.MethodName) prog_1_method_33_code (2 : Nat) (Option.none : Option Jvm.ClassFile.FieldType)) ∈ Tw := Tw_of 385 (by decide +kernel) rfl
theorem tw_cl_X5_234 : (Jvm.Cond.classLink "FleetSettings" (234 : Nat) "java/lang/IndexOutOfBoundsException") ∈ Tw := Tw_of 386 (by decide +kernel) rfl
theorem tw_ins_IOOBE : (Jvm.Cond.instantiable "java/lang/IndexOutOfBoundsException" (6 : Nat)) ∈ Tw := Tw_of 387 (by decide +kernel) rfl
theorem tw_ml_X5_238 : (Jvm.Cond.methodLink "FleetSettings" (238 : Nat) ({ cls := "java/lang/IndexOutOfBoundsException", name := "<init>", desc := "(Ljava/lang/String;)V" } : Jvm.MethodName)) ∈ Tw := Tw_of 396 (by decide +kernel) rfl
theorem tw_ml_IOOBE_7 : (Jvm.Cond.methodLink "java/lang/IndexOutOfBoundsException" (7 : Nat) ({ cls := "java/lang/RuntimeException", name := "<init>", desc := "(Ljava/lang/String;)V" } : Jvm.MethodName)) ∈ Tw := Tw_of 399 (by decide +kernel) rfl
theorem tw_cl_X5_86 : (Jvm.Cond.classLink "FleetSettings" (86 : Nat) "java/lang/IllegalStateException") ∈ Tw := Tw_of 402 (by decide +kernel) rfl
theorem tw_ins_ISE : (Jvm.Cond.instantiable "java/lang/IllegalStateException" (6 : Nat)) ∈ Tw := Tw_of 403 (by decide +kernel) rfl
theorem tw_ml_X5_90 : (Jvm.Cond.methodLink "FleetSettings" (90 : Nat) ({ cls := "java/lang/IllegalStateException", name := "<init>", desc := "(Ljava/lang/String;)V" } : Jvm.MethodName)) ∈ Tw := Tw_of 412 (by decide +kernel) rfl
theorem tw_ml_ISE_7 : (Jvm.Cond.methodLink "java/lang/IllegalStateException" (7 : Nat) ({ cls := "java/lang/RuntimeException", name := "<init>", desc := "(Ljava/lang/String;)V" } : Jvm.MethodName)) ∈ Tw := Tw_of 415 (by decide +kernel) rfl
theorem tw_ml_L_176 : (Jvm.Cond.methodLink "FleetSettingsLaw" (176 : Nat) ({ cls := "FleetSettings", name := "addMachine", desc := "(I)I" } : Jvm.MethodName)) ∈ Tw := Tw_of 418 (by decide +kernel) rfl
theorem tw_im_X5_addMachine : (Jvm.Cond.instanceMethod ({ cls := "FleetSettings", name := "addMachine", desc := "(I)I" } : Jvm.MethodName)) ∈ Tw := Tw_of 419 (by decide +kernel) rfl
theorem tw_sel_X5_addMachine : (Jvm.Cond.selects "FleetSettings" ({ cls := "FleetSettings", name := "addMachine", desc := "(I)I" } : Jvm.MethodName) ({ cls := "FleetSettings", name := "addMachine", desc := "(I)I" } : Jvm.MethodName)) ∈ Tw := Tw_of 420 (by decide +kernel) rfl
theorem tw_code_X5_addMachine : (Jvm.Cond.code ({ cls := "FleetSettings", name := "addMachine", desc := "(I)I" } : Jvm.MethodName) prog_1_method_8_code (3 : Nat) (Option.some Jvm.ClassFile.FieldType.int)) ∈ Tw := Tw_of 421 (by decide +kernel) rfl
theorem tw_ml_X5_132 : (Jvm.Cond.methodLink "FleetSettings" (132 : Nat) ({ cls := "FleetSettings$Machine", name := "enterGroup", desc := "(I[I)V" } : Jvm.MethodName)) ∈ Tw := Tw_of 423 (by decide +kernel) rfl
theorem tw_im_X2_enterGroup : (Jvm.Cond.instanceMethod ({ cls := "FleetSettings$Machine", name := "enterGroup", desc := "(I[I)V" } : Jvm.MethodName)) ∈ Tw := Tw_of 424 (by decide +kernel) rfl
theorem tw_sel_X2_enterGroup : (Jvm.Cond.selects "FleetSettings$Machine" ({ cls := "FleetSettings$Machine", name := "enterGroup", desc := "(I[I)V" } : Jvm.MethodName) ({ cls := "FleetSettings$Machine", name := "enterGroup", desc := "(I[I)V" } : Jvm.MethodName)) ∈ Tw := Tw_of 425 (by decide +kernel) rfl
theorem tw_code_X2_enterGroup : (Jvm.Cond.code ({ cls := "FleetSettings$Machine", name := "enterGroup", desc := "(I[I)V" } : Jvm.MethodName) prog_5_method_2_code (5 : Nat) (Option.none : Option Jvm.ClassFile.FieldType)) ∈ Tw := Tw_of 426 (by decide +kernel) rfl
theorem tw_ml_X2_32 : (Jvm.Cond.methodLink "FleetSettings$Machine" (32 : Nat) ({ cls := "FleetSettings$Machine", name := "addLayer", desc := "(I)V" } : Jvm.MethodName)) ∈ Tw := Tw_of 427 (by decide +kernel) rfl
theorem tw_im_X2_addLayer : (Jvm.Cond.instanceMethod ({ cls := "FleetSettings$Machine", name := "addLayer", desc := "(I)V" } : Jvm.MethodName)) ∈ Tw := Tw_of 429 (by decide +kernel) rfl
theorem tw_code_X2_addLayer : (Jvm.Cond.code ({ cls := "FleetSettings$Machine", name := "addLayer", desc := "(I)V" } : Jvm.MethodName) prog_5_method_5_code (2 : Nat) (Option.none : Option Jvm.ClassFile.FieldType)) ∈ Tw := Tw_of 430 (by decide +kernel) rfl
theorem tw_ml_X2_36 : (Jvm.Cond.methodLink "FleetSettings$Machine" (36 : Nat) ({ cls := "FleetSettings$Machine", name := "dropOtherGroups", desc := "()V" } : Jvm.MethodName)) ∈ Tw := Tw_of 431 (by decide +kernel) rfl
theorem tw_im_X2_dropOtherGroups : (Jvm.Cond.instanceMethod ({ cls := "FleetSettings$Machine", name := "dropOtherGroups", desc := "()V" } : Jvm.MethodName)) ∈ Tw := Tw_of 433 (by decide +kernel) rfl
theorem tw_code_X2_dropOtherGroups : (Jvm.Cond.code ({ cls := "FleetSettings$Machine", name := "dropOtherGroups", desc := "()V" } : Jvm.MethodName) prog_5_method_6_code (2 : Nat) (Option.none : Option Jvm.ClassFile.FieldType)) ∈ Tw := Tw_of 434 (by decide +kernel) rfl
theorem tw_ml_X2_47 : (Jvm.Cond.methodLink "FleetSettings$Machine" (47 : Nat) ({ cls := "FleetSettings$Machine", name := "isAmongLayers", desc := "(I)Z" } : Jvm.MethodName)) ∈ Tw := Tw_of 435 (by decide +kernel) rfl
theorem tw_im_X2_isAmongLayers : (Jvm.Cond.instanceMethod ({ cls := "FleetSettings$Machine", name := "isAmongLayers", desc := "(I)Z" } : Jvm.MethodName)) ∈ Tw := Tw_of 437 (by decide +kernel) rfl
theorem tw_code_X2_isAmongLayers : (Jvm.Cond.code ({ cls := "FleetSettings$Machine", name := "isAmongLayers", desc := "(I)Z" } : Jvm.MethodName) prog_5_method_8_code (3 : Nat) (Option.some Jvm.ClassFile.FieldType.boolean)) ∈ Tw := Tw_of 438 (by decide +kernel) rfl
theorem tw_ml_X2_50 : (Jvm.Cond.methodLink "FleetSettings$Machine" (50 : Nat) ({ cls := "FleetSettings$Machine", name := "drop", desc := "(I)V" } : Jvm.MethodName)) ∈ Tw := Tw_of 439 (by decide +kernel) rfl
theorem tw_im_X2_drop : (Jvm.Cond.instanceMethod ({ cls := "FleetSettings$Machine", name := "drop", desc := "(I)V" } : Jvm.MethodName)) ∈ Tw := Tw_of 441 (by decide +kernel) rfl
theorem tw_code_X2_drop : (Jvm.Cond.code ({ cls := "FleetSettings$Machine", name := "drop", desc := "(I)V" } : Jvm.MethodName) prog_5_method_7_code (3 : Nat) (Option.none : Option Jvm.ClassFile.FieldType)) ∈ Tw := Tw_of 442 (by decide +kernel) rfl
theorem tw_ml_X2_53 : (Jvm.Cond.methodLink "FleetSettings$Machine" (53 : Nat) ({ cls := "FleetSettings$Cells", name := "set", desc := "(II)V" } : Jvm.MethodName)) ∈ Tw := Tw_of 443 (by decide +kernel) rfl
theorem tw_ml_L_172 : (Jvm.Cond.methodLink "FleetSettingsLaw" (172 : Nat) ({ cls := "FleetSettingsLaw", name := "cell", desc := "([II)I" } : Jvm.MethodName)) ∈ Tw := Tw_of 444 (by decide +kernel) rfl
theorem tw_st_L_cell : (Jvm.Cond.static ({ cls := "FleetSettingsLaw", name := "cell", desc := "([II)I" } : Jvm.MethodName)) ∈ Tw := Tw_of 445 (by decide +kernel) rfl
theorem tw_code_L_cell : (Jvm.Cond.code ({ cls := "FleetSettingsLaw", name := "cell", desc := "([II)I" } : Jvm.MethodName) method_2_code (2 : Nat) (Option.some Jvm.ClassFile.FieldType.int)) ∈ Tw := Tw_of 446 (by decide +kernel) rfl
theorem tw_ct_L_7 : (Jvm.Cond.constant "FleetSettingsLaw" (7 : Nat) (52757 : Int32)) ∈ Tw := Tw_of 447 (by decide +kernel) rfl
theorem tw_ct_L_8 : (Jvm.Cond.constant "FleetSettingsLaw" (8 : Nat) (2004163 : Int32)) ∈ Tw := Tw_of 448 (by decide +kernel) rfl
theorem tw_ml_L_125 : (Jvm.Cond.methodLink "FleetSettingsLaw" (125 : Nat) ({ cls := "FleetSettingsLaw", name := "low", desc := "(II)I" } : Jvm.MethodName)) ∈ Tw := Tw_of 449 (by decide +kernel) rfl
theorem tw_st_L_low : (Jvm.Cond.static ({ cls := "FleetSettingsLaw", name := "low", desc := "(II)I" } : Jvm.MethodName)) ∈ Tw := Tw_of 450 (by decide +kernel) rfl
theorem tw_code_L_low : (Jvm.Cond.code ({ cls := "FleetSettingsLaw", name := "low", desc := "(II)I" } : Jvm.MethodName) method_3_code (2 : Nat) (Option.some Jvm.ClassFile.FieldType.int)) ∈ Tw := Tw_of 451 (by decide +kernel) rfl
theorem tw_ct_L_9 : (Jvm.Cond.constant "FleetSettingsLaw" (9 : Nat) (2147483647 : Int32)) ∈ Tw := Tw_of 452 (by decide +kernel) rfl
theorem tw_ml_L_204 : (Jvm.Cond.methodLink "FleetSettingsLaw" (204 : Nat) ({ cls := "FleetSettingsLaw", name := "isSo", desc := "(LFleetSettings;I[I[I[I[I[I[I)Z" } : Jvm.MethodName)) ∈ Tw := Tw_of 453 (by decide +kernel) rfl
theorem tw_st_L_isSo : (Jvm.Cond.static ({ cls := "FleetSettingsLaw", name := "isSo", desc := "(LFleetSettings;I[I[I[I[I[I[I)Z" } : Jvm.MethodName)) ∈ Tw := Tw_of 454 (by decide +kernel) rfl
theorem tw_code_L_isSo : (Jvm.Cond.code ({ cls := "FleetSettingsLaw", name := "isSo", desc := "(LFleetSettings;I[I[I[I[I[I[I)Z" } : Jvm.MethodName) method_17_code (14 : Nat) (Option.some Jvm.ClassFile.FieldType.boolean)) ∈ Tw := Tw_of 455 (by decide +kernel) rfl
theorem tw_ml_L_103 : (Jvm.Cond.methodLink "FleetSettingsLaw" (103 : Nat) ({ cls := "FleetSettings", name := "day", desc := "()I" } : Jvm.MethodName)) ∈ Tw := Tw_of 456 (by decide +kernel) rfl
theorem tw_im_X5_day : (Jvm.Cond.instanceMethod ({ cls := "FleetSettings", name := "day", desc := "()I" } : Jvm.MethodName)) ∈ Tw := Tw_of 457 (by decide +kernel) rfl
theorem tw_sel_X5_day : (Jvm.Cond.selects "FleetSettings" ({ cls := "FleetSettings", name := "day", desc := "()I" } : Jvm.MethodName) ({ cls := "FleetSettings", name := "day", desc := "()I" } : Jvm.MethodName)) ∈ Tw := Tw_of 458 (by decide +kernel) rfl
theorem tw_code_X5_day : (Jvm.Cond.code ({ cls := "FleetSettings", name := "day", desc := "()I" } : Jvm.MethodName) prog_1_method_6_code (1 : Nat) (Option.some Jvm.ClassFile.FieldType.int)) ∈ Tw := Tw_of 459 (by decide +kernel) rfl
theorem tw_ml_L_107 : (Jvm.Cond.methodLink "FleetSettingsLaw" (107 : Nat) ({ cls := "FleetSettings", name := "changes", desc := "()I" } : Jvm.MethodName)) ∈ Tw := Tw_of 460 (by decide +kernel) rfl
theorem tw_im_X5_changes : (Jvm.Cond.instanceMethod ({ cls := "FleetSettings", name := "changes", desc := "()I" } : Jvm.MethodName)) ∈ Tw := Tw_of 461 (by decide +kernel) rfl
theorem tw_sel_X5_changes : (Jvm.Cond.selects "FleetSettings" ({ cls := "FleetSettings", name := "changes", desc := "()I" } : Jvm.MethodName) ({ cls := "FleetSettings", name := "changes", desc := "()I" } : Jvm.MethodName)) ∈ Tw := Tw_of 462 (by decide +kernel) rfl
theorem tw_code_X5_changes : (Jvm.Cond.code ({ cls := "FleetSettings", name := "changes", desc := "()I" } : Jvm.MethodName) prog_1_method_18_code (1 : Nat) (Option.some Jvm.ClassFile.FieldType.int)) ∈ Tw := Tw_of 463 (by decide +kernel) rfl
theorem tw_ml_L_110 : (Jvm.Cond.methodLink "FleetSettingsLaw" (110 : Nat) ({ cls := "FleetSettings", name := "state", desc := "(I)I" } : Jvm.MethodName)) ∈ Tw := Tw_of 464 (by decide +kernel) rfl
theorem tw_im_X5_state : (Jvm.Cond.instanceMethod ({ cls := "FleetSettings", name := "state", desc := "(I)I" } : Jvm.MethodName)) ∈ Tw := Tw_of 465 (by decide +kernel) rfl
theorem tw_sel_X5_state : (Jvm.Cond.selects "FleetSettings" ({ cls := "FleetSettings", name := "state", desc := "(I)I" } : Jvm.MethodName) ({ cls := "FleetSettings", name := "state", desc := "(I)I" } : Jvm.MethodName)) ∈ Tw := Tw_of 466 (by decide +kernel) rfl
theorem tw_code_X5_state : (Jvm.Cond.code ({ cls := "FleetSettings", name := "state", desc := "(I)I" } : Jvm.MethodName) prog_1_method_19_code (2 : Nat) (Option.some Jvm.ClassFile.FieldType.int)) ∈ Tw := Tw_of 467 (by decide +kernel) rfl
theorem tw_ml_X5_179 : (Jvm.Cond.methodLink "FleetSettings" (179 : Nat) ({ cls := "FleetSettings", name := "requireChange", desc := "(I)V" } : Jvm.MethodName)) ∈ Tw := Tw_of 468 (by decide +kernel) rfl
theorem tw_im_X5_requireChange : (Jvm.Cond.instanceMethod ({ cls := "FleetSettings", name := "requireChange", desc := "(I)V" } : Jvm.MethodName)) ∈ Tw := Tw_of 470 (by decide +kernel) rfl
theorem tw_code_X5_requireChange : (Jvm.Cond.code ({ cls := "FleetSettings", name := "requireChange", desc := "(I)V" } : Jvm.MethodName) prog_1_method_36_code (2 : Nat) (Option.none : Option Jvm.ClassFile.FieldType)) ∈ Tw := Tw_of 471 (by decide +kernel) rfl
theorem tw_ml_L_113 : (Jvm.Cond.methodLink "FleetSettingsLaw" (113 : Nat) ({ cls := "FleetSettings", name := "rank", desc := "(I)I" } : Jvm.MethodName)) ∈ Tw := Tw_of 473 (by decide +kernel) rfl
theorem tw_im_X5_rank : (Jvm.Cond.instanceMethod ({ cls := "FleetSettings", name := "rank", desc := "(I)I" } : Jvm.MethodName)) ∈ Tw := Tw_of 474 (by decide +kernel) rfl
theorem tw_sel_X5_rank : (Jvm.Cond.selects "FleetSettings" ({ cls := "FleetSettings", name := "rank", desc := "(I)I" } : Jvm.MethodName) ({ cls := "FleetSettings", name := "rank", desc := "(I)I" } : Jvm.MethodName)) ∈ Tw := Tw_of 475 (by decide +kernel) rfl
theorem tw_code_X5_rank : (Jvm.Cond.code ({ cls := "FleetSettings", name := "rank", desc := "(I)I" } : Jvm.MethodName) prog_1_method_20_code (2 : Nat) (Option.some Jvm.ClassFile.FieldType.int)) ∈ Tw := Tw_of 476 (by decide +kernel) rfl
theorem tw_ml_X5_216 : (Jvm.Cond.methodLink "FleetSettings" (216 : Nat) ({ cls := "FleetSettings$Heads", name := "rankOf", desc := "(I)I" } : Jvm.MethodName)) ∈ Tw := Tw_of 477 (by decide +kernel) rfl
theorem tw_im_X1_rankOf : (Jvm.Cond.instanceMethod ({ cls := "FleetSettings$Heads", name := "rankOf", desc := "(I)I" } : Jvm.MethodName)) ∈ Tw := Tw_of 478 (by decide +kernel) rfl
theorem tw_sel_X1_rankOf : (Jvm.Cond.selects "FleetSettings$Heads" ({ cls := "FleetSettings$Heads", name := "rankOf", desc := "(I)I" } : Jvm.MethodName) ({ cls := "FleetSettings$Heads", name := "rankOf", desc := "(I)I" } : Jvm.MethodName)) ∈ Tw := Tw_of 479 (by decide +kernel) rfl
theorem tw_code_X1_rankOf : (Jvm.Cond.code ({ cls := "FleetSettings$Heads", name := "rankOf", desc := "(I)I" } : Jvm.MethodName) prog_4_method_2_code (2 : Nat) (Option.some Jvm.ClassFile.FieldType.int)) ∈ Tw := Tw_of 480 (by decide +kernel) rfl
theorem tw_ml_X1_28 : (Jvm.Cond.methodLink "FleetSettings$Heads" (28 : Nat) ({ cls := "FleetSettings$Heads", name := "isRanked", desc := "(I)Z" } : Jvm.MethodName)) ∈ Tw := Tw_of 481 (by decide +kernel) rfl
theorem tw_im_X1_isRanked : (Jvm.Cond.instanceMethod ({ cls := "FleetSettings$Heads", name := "isRanked", desc := "(I)Z" } : Jvm.MethodName)) ∈ Tw := Tw_of 483 (by decide +kernel) rfl
theorem tw_code_X1_isRanked : (Jvm.Cond.code ({ cls := "FleetSettings$Heads", name := "isRanked", desc := "(I)Z" } : Jvm.MethodName) prog_4_method_5_code (2 : Nat) (Option.some Jvm.ClassFile.FieldType.boolean)) ∈ Tw := Tw_of 484 (by decide +kernel) rfl
theorem tw_ml_L_116 : (Jvm.Cond.methodLink "FleetSettingsLaw" (116 : Nat) ({ cls := "FleetSettings", name := "approvals", desc := "(I)I" } : Jvm.MethodName)) ∈ Tw := Tw_of 485 (by decide +kernel) rfl
theorem tw_im_X5_approvals : (Jvm.Cond.instanceMethod ({ cls := "FleetSettings", name := "approvals", desc := "(I)I" } : Jvm.MethodName)) ∈ Tw := Tw_of 486 (by decide +kernel) rfl
theorem tw_sel_X5_approvals : (Jvm.Cond.selects "FleetSettings" ({ cls := "FleetSettings", name := "approvals", desc := "(I)I" } : Jvm.MethodName) ({ cls := "FleetSettings", name := "approvals", desc := "(I)I" } : Jvm.MethodName)) ∈ Tw := Tw_of 487 (by decide +kernel) rfl
theorem tw_code_X5_approvals : (Jvm.Cond.code ({ cls := "FleetSettings", name := "approvals", desc := "(I)I" } : Jvm.MethodName) prog_1_method_21_code (2 : Nat) (Option.some Jvm.ClassFile.FieldType.int)) ∈ Tw := Tw_of 488 (by decide +kernel) rfl
theorem tw_ml_X5_198 : (Jvm.Cond.methodLink "FleetSettings" (198 : Nat) ({ cls := "FleetSettings$Change", name := "countGood", desc := "()I" } : Jvm.MethodName)) ∈ Tw := Tw_of 489 (by decide +kernel) rfl
theorem tw_im_X0_countGood : (Jvm.Cond.instanceMethod ({ cls := "FleetSettings$Change", name := "countGood", desc := "()I" } : Jvm.MethodName)) ∈ Tw := Tw_of 490 (by decide +kernel) rfl
theorem tw_sel_X0_countGood : (Jvm.Cond.selects "FleetSettings$Change" ({ cls := "FleetSettings$Change", name := "countGood", desc := "()I" } : Jvm.MethodName) ({ cls := "FleetSettings$Change", name := "countGood", desc := "()I" } : Jvm.MethodName)) ∈ Tw := Tw_of 491 (by decide +kernel) rfl
theorem tw_code_X0_countGood : (Jvm.Cond.code ({ cls := "FleetSettings$Change", name := "countGood", desc := "()I" } : Jvm.MethodName) prog_3_method_5_code (1 : Nat) (Option.some Jvm.ClassFile.FieldType.int)) ∈ Tw := Tw_of 492 (by decide +kernel) rfl
theorem tw_ml_X0_51 : (Jvm.Cond.methodLink "FleetSettings$Change" (51 : Nat) ({ cls := "java/lang/Integer", name := "bitCount", desc := "(I)I" } : Jvm.MethodName)) ∈ Tw := Tw_of 493 (by decide +kernel) rfl
theorem tw_st_J6_bitCount_0f7a4 : (Jvm.Cond.static ({ cls := "java/lang/Integer", name := "bitCount", desc := "(I)I" } : Jvm.MethodName)) ∈ Tw := Tw_of 494 (by decide +kernel) rfl
theorem tw_code_J6_bitCount_0f7a4 : (Jvm.Cond.code ({ cls := "java/lang/Integer", name := "bitCount", desc := "(I)I" } : Jvm.MethodName) prog_14_method_49_code (1 : Nat) (Option.some Jvm.ClassFile.FieldType.int)) ∈ Tw := Tw_of 495 (by decide +kernel) rfl
theorem tw_ct_J6_265 : (Jvm.Cond.constant "java/lang/Integer" (265 : Nat) (1431655765 : Int32)) ∈ Tw := Tw_of 496 (by decide +kernel) rfl
theorem tw_ct_J6_266 : (Jvm.Cond.constant "java/lang/Integer" (266 : Nat) (858993459 : Int32)) ∈ Tw := Tw_of 497 (by decide +kernel) rfl
theorem tw_ct_J6_267 : (Jvm.Cond.constant "java/lang/Integer" (267 : Nat) (252645135 : Int32)) ∈ Tw := Tw_of 498 (by decide +kernel) rfl
theorem tw_ml_L_119 : (Jvm.Cond.methodLink "FleetSettingsLaw" (119 : Nat) ({ cls := "FleetSettingsLaw", name := "good", desc := "(I[I)I" } : Jvm.MethodName)) ∈ Tw := Tw_of 499 (by decide +kernel) rfl
theorem tw_st_L_good : (Jvm.Cond.static ({ cls := "FleetSettingsLaw", name := "good", desc := "(I[I)I" } : Jvm.MethodName)) ∈ Tw := Tw_of 500 (by decide +kernel) rfl
theorem tw_code_L_good : (Jvm.Cond.code ({ cls := "FleetSettingsLaw", name := "good", desc := "(I[I)I" } : Jvm.MethodName) method_16_code (4 : Nat) (Option.some Jvm.ClassFile.FieldType.int)) ∈ Tw := Tw_of 501 (by decide +kernel) rfl
theorem tw_ml_L_122 : (Jvm.Cond.methodLink "FleetSettingsLaw" (122 : Nat) ({ cls := "FleetSettings", name := "spread", desc := "(I)I" } : Jvm.MethodName)) ∈ Tw := Tw_of 502 (by decide +kernel) rfl
theorem tw_im_X5_spread : (Jvm.Cond.instanceMethod ({ cls := "FleetSettings", name := "spread", desc := "(I)I" } : Jvm.MethodName)) ∈ Tw := Tw_of 503 (by decide +kernel) rfl
theorem tw_sel_X5_spread : (Jvm.Cond.selects "FleetSettings" ({ cls := "FleetSettings", name := "spread", desc := "(I)I" } : Jvm.MethodName) ({ cls := "FleetSettings", name := "spread", desc := "(I)I" } : Jvm.MethodName)) ∈ Tw := Tw_of 504 (by decide +kernel) rfl
theorem tw_code_X5_spread : (Jvm.Cond.code ({ cls := "FleetSettings", name := "spread", desc := "(I)I" } : Jvm.MethodName) prog_1_method_30_code (5 : Nat) (Option.some Jvm.ClassFile.FieldType.int)) ∈ Tw := Tw_of 505 (by decide +kernel) rfl
theorem tw_ml_L_45 : (Jvm.Cond.methodLink "FleetSettingsLaw" (45 : Nat) ({ cls := "FleetSettingsLaw", name := "top", desc := "(II[I[I)I" } : Jvm.MethodName)) ∈ Tw := Tw_of 506 (by decide +kernel) rfl
theorem tw_st_L_top : (Jvm.Cond.static ({ cls := "FleetSettingsLaw", name := "top", desc := "(II[I[I)I" } : Jvm.MethodName)) ∈ Tw := Tw_of 507 (by decide +kernel) rfl
theorem tw_code_L_top : (Jvm.Cond.code ({ cls := "FleetSettingsLaw", name := "top", desc := "(II[I[I)I" } : Jvm.MethodName) method_9_code (6 : Nat) (Option.some Jvm.ClassFile.FieldType.int)) ∈ Tw := Tw_of 508 (by decide +kernel) rfl
theorem tw_ml_L_128 : (Jvm.Cond.methodLink "FleetSettingsLaw" (128 : Nat) ({ cls := "FleetSettings", name := "told", desc := "(II)I" } : Jvm.MethodName)) ∈ Tw := Tw_of 509 (by decide +kernel) rfl
theorem tw_im_X5_told : (Jvm.Cond.instanceMethod ({ cls := "FleetSettings", name := "told", desc := "(II)I" } : Jvm.MethodName)) ∈ Tw := Tw_of 510 (by decide +kernel) rfl
theorem tw_sel_X5_told : (Jvm.Cond.selects "FleetSettings" ({ cls := "FleetSettings", name := "told", desc := "(II)I" } : Jvm.MethodName) ({ cls := "FleetSettings", name := "told", desc := "(II)I" } : Jvm.MethodName)) ∈ Tw := Tw_of 511 (by decide +kernel) rfl
theorem tw_code_X5_told : (Jvm.Cond.code ({ cls := "FleetSettings", name := "told", desc := "(II)I" } : Jvm.MethodName) prog_1_method_22_code (4 : Nat) (Option.some Jvm.ClassFile.FieldType.int)) ∈ Tw := Tw_of 512 (by decide +kernel) rfl
theorem tw_ml_X5_155 : (Jvm.Cond.methodLink "FleetSettings" (155 : Nat) ({ cls := "FleetSettings", name := "requirePlace", desc := "(I)V" } : Jvm.MethodName)) ∈ Tw := Tw_of 513 (by decide +kernel) rfl
theorem tw_im_X5_requirePlace : (Jvm.Cond.instanceMethod ({ cls := "FleetSettings", name := "requirePlace", desc := "(I)V" } : Jvm.MethodName)) ∈ Tw := Tw_of 515 (by decide +kernel) rfl
theorem tw_code_X5_requirePlace : (Jvm.Cond.code ({ cls := "FleetSettings", name := "requirePlace", desc := "(I)V" } : Jvm.MethodName) prog_1_method_35_code (2 : Nat) (Option.none : Option Jvm.ClassFile.FieldType)) ∈ Tw := Tw_of 516 (by decide +kernel) rfl
theorem tw_ml_X5_168 : (Jvm.Cond.methodLink "FleetSettings" (168 : Nat) ({ cls := "FleetSettings", name := "slotOf", desc := "(I)I" } : Jvm.MethodName)) ∈ Tw := Tw_of 517 (by decide +kernel) rfl
theorem tw_im_X5_slotOf : (Jvm.Cond.instanceMethod ({ cls := "FleetSettings", name := "slotOf", desc := "(I)I" } : Jvm.MethodName)) ∈ Tw := Tw_of 519 (by decide +kernel) rfl
theorem tw_code_X5_slotOf : (Jvm.Cond.code ({ cls := "FleetSettings", name := "slotOf", desc := "(I)I" } : Jvm.MethodName) prog_1_method_38_code (2 : Nat) (Option.some Jvm.ClassFile.FieldType.int)) ∈ Tw := Tw_of 520 (by decide +kernel) rfl
theorem tw_ml_X5_158 : (Jvm.Cond.methodLink "FleetSettings" (158 : Nat) ({ cls := "FleetSettings", name := "requireKey", desc := "(I)V" } : Jvm.MethodName)) ∈ Tw := Tw_of 522 (by decide +kernel) rfl
theorem tw_st_X5_requireKey : (Jvm.Cond.static ({ cls := "FleetSettings", name := "requireKey", desc := "(I)V" } : Jvm.MethodName)) ∈ Tw := Tw_of 523 (by decide +kernel) rfl
theorem tw_code_X5_requireKey : (Jvm.Cond.code ({ cls := "FleetSettings", name := "requireKey", desc := "(I)V" } : Jvm.MethodName) prog_1_method_32_code (1 : Nat) (Option.none : Option Jvm.ClassFile.FieldType)) ∈ Tw := Tw_of 524 (by decide +kernel) rfl
theorem tw_ml_X5_171 : (Jvm.Cond.methodLink "FleetSettings" (171 : Nat) ({ cls := "FleetSettings", name := "cellOf", desc := "(II)I" } : Jvm.MethodName)) ∈ Tw := Tw_of 526 (by decide +kernel) rfl
theorem tw_ml_X5_228 : (Jvm.Cond.methodLink "FleetSettings" (228 : Nat) ({ cls := "FleetSettings", name := "whatIsToldBy", desc := "(I)I" } : Jvm.MethodName)) ∈ Tw := Tw_of 527 (by decide +kernel) rfl
theorem tw_im_X5_whatIsToldBy : (Jvm.Cond.instanceMethod ({ cls := "FleetSettings", name := "whatIsToldBy", desc := "(I)I" } : Jvm.MethodName)) ∈ Tw := Tw_of 529 (by decide +kernel) rfl
theorem tw_code_X5_whatIsToldBy : (Jvm.Cond.code ({ cls := "FleetSettings", name := "whatIsToldBy", desc := "(I)I" } : Jvm.MethodName) prog_1_method_58_code (2 : Nat) (Option.some Jvm.ClassFile.FieldType.int)) ∈ Tw := Tw_of 530 (by decide +kernel) rfl
theorem tw_ml_L_131 : (Jvm.Cond.methodLink "FleetSettingsLaw" (131 : Nat) ({ cls := "FleetSettingsLaw", name := "isMachine", desc := "(LFleetSettings;I[I[I[I[I[I)Z" } : Jvm.MethodName)) ∈ Tw := Tw_of 531 (by decide +kernel) rfl
theorem tw_st_L_isMachine : (Jvm.Cond.static ({ cls := "FleetSettingsLaw", name := "isMachine", desc := "(LFleetSettings;I[I[I[I[I[I)Z" } : Jvm.MethodName)) ∈ Tw := Tw_of 532 (by decide +kernel) rfl
theorem tw_code_L_isMachine : (Jvm.Cond.code ({ cls := "FleetSettingsLaw", name := "isMachine", desc := "(LFleetSettings;I[I[I[I[I[I)Z" } : Jvm.MethodName) method_15_code (17 : Nat) (Option.some Jvm.ClassFile.FieldType.boolean)) ∈ Tw := Tw_of 533 (by decide +kernel) rfl
theorem tw_ml_L_61 : (Jvm.Cond.methodLink "FleetSettingsLaw" (61 : Nat) ({ cls := "FleetSettingsLaw", name := "stopped", desc := "(I[I[I)Z" } : Jvm.MethodName)) ∈ Tw := Tw_of 534 (by decide +kernel) rfl
theorem tw_st_L_stopped : (Jvm.Cond.static ({ cls := "FleetSettingsLaw", name := "stopped", desc := "(I[I[I)Z" } : Jvm.MethodName)) ∈ Tw := Tw_of 535 (by decide +kernel) rfl
theorem tw_code_L_stopped : (Jvm.Cond.code ({ cls := "FleetSettingsLaw", name := "stopped", desc := "(I[I[I)Z" } : Jvm.MethodName) method_13_code (5 : Nat) (Option.some Jvm.ClassFile.FieldType.boolean)) ∈ Tw := Tw_of 536 (by decide +kernel) rfl
theorem tw_ml_L_65 : (Jvm.Cond.methodLink "FleetSettingsLaw" (65 : Nat) ({ cls := "FleetSettings", name := "isStopped", desc := "(I)Z" } : Jvm.MethodName)) ∈ Tw := Tw_of 537 (by decide +kernel) rfl
theorem tw_im_X5_isStopped : (Jvm.Cond.instanceMethod ({ cls := "FleetSettings", name := "isStopped", desc := "(I)Z" } : Jvm.MethodName)) ∈ Tw := Tw_of 538 (by decide +kernel) rfl
theorem tw_sel_X5_isStopped : (Jvm.Cond.selects "FleetSettings" ({ cls := "FleetSettings", name := "isStopped", desc := "(I)Z" } : Jvm.MethodName) ({ cls := "FleetSettings", name := "isStopped", desc := "(I)Z" } : Jvm.MethodName)) ∈ Tw := Tw_of 539 (by decide +kernel) rfl
theorem tw_code_X5_isStopped : (Jvm.Cond.code ({ cls := "FleetSettings", name := "isStopped", desc := "(I)Z" } : Jvm.MethodName) prog_1_method_13_code (2 : Nat) (Option.some Jvm.ClassFile.FieldType.boolean)) ∈ Tw := Tw_of 540 (by decide +kernel) rfl
theorem tw_ml_X5_136 : (Jvm.Cond.methodLink "FleetSettings" (136 : Nat) ({ cls := "FleetSettings", name := "requireMachine", desc := "(I)V" } : Jvm.MethodName)) ∈ Tw := Tw_of 541 (by decide +kernel) rfl
theorem tw_im_X5_requireMachine : (Jvm.Cond.instanceMethod ({ cls := "FleetSettings", name := "requireMachine", desc := "(I)V" } : Jvm.MethodName)) ∈ Tw := Tw_of 543 (by decide +kernel) rfl
theorem tw_code_X5_requireMachine : (Jvm.Cond.code ({ cls := "FleetSettings", name := "requireMachine", desc := "(I)V" } : Jvm.MethodName) prog_1_method_34_code (2 : Nat) (Option.none : Option Jvm.ClassFile.FieldType)) ∈ Tw := Tw_of 544 (by decide +kernel) rfl
theorem tw_ml_L_69 : (Jvm.Cond.methodLink "FleetSettingsLaw" (69 : Nat) ({ cls := "FleetSettings", name := "isBusy", desc := "(I)Z" } : Jvm.MethodName)) ∈ Tw := Tw_of 546 (by decide +kernel) rfl
theorem tw_im_X5_isBusy : (Jvm.Cond.instanceMethod ({ cls := "FleetSettings", name := "isBusy", desc := "(I)Z" } : Jvm.MethodName)) ∈ Tw := Tw_of 547 (by decide +kernel) rfl
theorem tw_sel_X5_isBusy : (Jvm.Cond.selects "FleetSettings" ({ cls := "FleetSettings", name := "isBusy", desc := "(I)Z" } : Jvm.MethodName) ({ cls := "FleetSettings", name := "isBusy", desc := "(I)Z" } : Jvm.MethodName)) ∈ Tw := Tw_of 548 (by decide +kernel) rfl
theorem tw_code_X5_isBusy : (Jvm.Cond.code ({ cls := "FleetSettings", name := "isBusy", desc := "(I)Z" } : Jvm.MethodName) prog_1_method_12_code (2 : Nat) (Option.some Jvm.ClassFile.FieldType.boolean)) ∈ Tw := Tw_of 549 (by decide +kernel) rfl
theorem tw_ml_L_49 : (Jvm.Cond.methodLink "FleetSettingsLaw" (49 : Nat) ({ cls := "FleetSettingsLaw", name := "layers", desc := "(I[I)I" } : Jvm.MethodName)) ∈ Tw := Tw_of 550 (by decide +kernel) rfl
theorem tw_st_L_layers : (Jvm.Cond.static ({ cls := "FleetSettingsLaw", name := "layers", desc := "(I[I)I" } : Jvm.MethodName)) ∈ Tw := Tw_of 551 (by decide +kernel) rfl
theorem tw_code_L_layers : (Jvm.Cond.code ({ cls := "FleetSettingsLaw", name := "layers", desc := "(I[I)I" } : Jvm.MethodName) method_8_code (3 : Nat) (Option.some Jvm.ClassFile.FieldType.int)) ∈ Tw := Tw_of 552 (by decide +kernel) rfl
theorem tw_ml_L_39 : (Jvm.Cond.methodLink "FleetSettingsLaw" (39 : Nat) ({ cls := "FleetSettingsLaw", name := "slot", desc := "(II[I)I" } : Jvm.MethodName)) ∈ Tw := Tw_of 553 (by decide +kernel) rfl
theorem tw_st_L_slot : (Jvm.Cond.static ({ cls := "FleetSettingsLaw", name := "slot", desc := "(II[I)I" } : Jvm.MethodName)) ∈ Tw := Tw_of 554 (by decide +kernel) rfl
theorem tw_code_L_slot : (Jvm.Cond.code ({ cls := "FleetSettingsLaw", name := "slot", desc := "(II[I)I" } : Jvm.MethodName) method_7_code (5 : Nat) (Option.some Jvm.ClassFile.FieldType.int)) ∈ Tw := Tw_of 555 (by decide +kernel) rfl
theorem tw_ml_L_72 : (Jvm.Cond.methodLink "FleetSettingsLaw" (72 : Nat) ({ cls := "FleetSettings", name := "taken", desc := "(III)I" } : Jvm.MethodName)) ∈ Tw := Tw_of 556 (by decide +kernel) rfl
theorem tw_im_X5_taken : (Jvm.Cond.instanceMethod ({ cls := "FleetSettings", name := "taken", desc := "(III)I" } : Jvm.MethodName)) ∈ Tw := Tw_of 557 (by decide +kernel) rfl
theorem tw_sel_X5_taken : (Jvm.Cond.selects "FleetSettings" ({ cls := "FleetSettings", name := "taken", desc := "(III)I" } : Jvm.MethodName) ({ cls := "FleetSettings", name := "taken", desc := "(III)I" } : Jvm.MethodName)) ∈ Tw := Tw_of 558 (by decide +kernel) rfl
theorem tw_code_X5_taken : (Jvm.Cond.code ({ cls := "FleetSettings", name := "taken", desc := "(III)I" } : Jvm.MethodName) prog_1_method_23_code (5 : Nat) (Option.some Jvm.ClassFile.FieldType.int)) ∈ Tw := Tw_of 559 (by decide +kernel) rfl
theorem tw_ml_X5_231 : (Jvm.Cond.methodLink "FleetSettings" (231 : Nat) ({ cls := "FleetSettings$Machine", name := "hasLayer", desc := "(I)Z" } : Jvm.MethodName)) ∈ Tw := Tw_of 560 (by decide +kernel) rfl
theorem tw_ml_L_76 : (Jvm.Cond.methodLink "FleetSettingsLaw" (76 : Nat) ({ cls := "FleetSettingsLaw", name := "lags", desc := "(II[I[I[I[I)Z" } : Jvm.MethodName)) ∈ Tw := Tw_of 562 (by decide +kernel) rfl
theorem tw_st_L_lags : (Jvm.Cond.static ({ cls := "FleetSettingsLaw", name := "lags", desc := "(II[I[I[I[I)Z" } : Jvm.MethodName)) ∈ Tw := Tw_of 563 (by decide +kernel) rfl
theorem tw_code_L_lags : (Jvm.Cond.code ({ cls := "FleetSettingsLaw", name := "lags", desc := "(II[I[I[I[I)Z" } : Jvm.MethodName) method_14_code (9 : Nat) (Option.some Jvm.ClassFile.FieldType.boolean)) ∈ Tw := Tw_of 564 (by decide +kernel) rfl
theorem tw_ml_L_53 : (Jvm.Cond.methodLink "FleetSettingsLaw" (53 : Nat) ({ cls := "FleetSettingsLaw", name := "counts", desc := "(III[I[I)I" } : Jvm.MethodName)) ∈ Tw := Tw_of 565 (by decide +kernel) rfl
theorem tw_st_L_counts : (Jvm.Cond.static ({ cls := "FleetSettingsLaw", name := "counts", desc := "(III[I[I)I" } : Jvm.MethodName)) ∈ Tw := Tw_of 566 (by decide +kernel) rfl
theorem tw_code_L_counts : (Jvm.Cond.code ({ cls := "FleetSettingsLaw", name := "counts", desc := "(III[I[I)I" } : Jvm.MethodName) method_10_code (5 : Nat) (Option.some Jvm.ClassFile.FieldType.int)) ∈ Tw := Tw_of 567 (by decide +kernel) rfl
theorem tw_ml_L_57 : (Jvm.Cond.methodLink "FleetSettingsLaw" (57 : Nat) ({ cls := "FleetSettingsLaw", name := "decides", desc := "(IIZ[I[I[I[I)I" } : Jvm.MethodName)) ∈ Tw := Tw_of 568 (by decide +kernel) rfl
theorem tw_st_L_decides : (Jvm.Cond.static ({ cls := "FleetSettingsLaw", name := "decides", desc := "(IIZ[I[I[I[I)I" } : Jvm.MethodName)) ∈ Tw := Tw_of 569 (by decide +kernel) rfl
theorem tw_code_L_decides : (Jvm.Cond.code ({ cls := "FleetSettingsLaw", name := "decides", desc := "(IIZ[I[I[I[I)I" } : Jvm.MethodName) method_11_code (12 : Nat) (Option.some Jvm.ClassFile.FieldType.int)) ∈ Tw := Tw_of 570 (by decide +kernel) rfl
theorem tw_ml_L_80 : (Jvm.Cond.methodLink "FleetSettingsLaw" (80 : Nat) ({ cls := "FleetSettingsLaw", name := "hides", desc := "(IIZ[I[I[I[I[I)Z" } : Jvm.MethodName)) ∈ Tw := Tw_of 571 (by decide +kernel) rfl
theorem tw_st_L_hides : (Jvm.Cond.static ({ cls := "FleetSettingsLaw", name := "hides", desc := "(IIZ[I[I[I[I[I)Z" } : Jvm.MethodName)) ∈ Tw := Tw_of 572 (by decide +kernel) rfl
theorem tw_code_L_hides : (Jvm.Cond.code ({ cls := "FleetSettingsLaw", name := "hides", desc := "(IIZ[I[I[I[I[I)Z" } : Jvm.MethodName) method_12_code (13 : Nat) (Option.some Jvm.ClassFile.FieldType.boolean)) ∈ Tw := Tw_of 573 (by decide +kernel) rfl
theorem tw_ml_L_84 : (Jvm.Cond.methodLink "FleetSettingsLaw" (84 : Nat) ({ cls := "FleetSettings", name := "due", desc := "(II)I" } : Jvm.MethodName)) ∈ Tw := Tw_of 574 (by decide +kernel) rfl
theorem tw_im_X5_due : (Jvm.Cond.instanceMethod ({ cls := "FleetSettings", name := "due", desc := "(II)I" } : Jvm.MethodName)) ∈ Tw := Tw_of 575 (by decide +kernel) rfl
theorem tw_sel_X5_due : (Jvm.Cond.selects "FleetSettings" ({ cls := "FleetSettings", name := "due", desc := "(II)I" } : Jvm.MethodName) ({ cls := "FleetSettings", name := "due", desc := "(II)I" } : Jvm.MethodName)) ∈ Tw := Tw_of 576 (by decide +kernel) rfl
theorem tw_code_X5_due : (Jvm.Cond.code ({ cls := "FleetSettings", name := "due", desc := "(II)I" } : Jvm.MethodName) prog_1_method_26_code (3 : Nat) (Option.some Jvm.ClassFile.FieldType.int)) ∈ Tw := Tw_of 577 (by decide +kernel) rfl
theorem tw_ml_X5_255 : (Jvm.Cond.methodLink "FleetSettings" (255 : Nat) ({ cls := "FleetSettings", name := "findOutcome", desc := "(LFleetSettings$Machine;LFleetSettings$Cells;LFleetSettings$Heads;)V" } : Jvm.MethodName)) ∈ Tw := Tw_of 578 (by decide +kernel) rfl
theorem tw_im_X5_findOutcome : (Jvm.Cond.instanceMethod ({ cls := "FleetSettings", name := "findOutcome", desc := "(LFleetSettings$Machine;LFleetSettings$Cells;LFleetSettings$Heads;)V" } : Jvm.MethodName)) ∈ Tw := Tw_of 580 (by decide +kernel) rfl
theorem tw_code_X5_findOutcome : (Jvm.Cond.code ({ cls := "FleetSettings", name := "findOutcome", desc := "(LFleetSettings$Machine;LFleetSettings$Cells;LFleetSettings$Heads;)V" } : Jvm.MethodName) prog_1_method_56_code (5 : Nat) (Option.none : Option Jvm.ClassFile.FieldType)) ∈ Tw := Tw_of 581 (by decide +kernel) rfl
theorem tw_ml_X5_334 : (Jvm.Cond.methodLink "FleetSettings" (334 : Nat) ({ cls := "FleetSettings$Outcome", name := "forget", desc := "()V" } : Jvm.MethodName)) ∈ Tw := Tw_of 582 (by decide +kernel) rfl
theorem tw_im_X3_forget : (Jvm.Cond.instanceMethod ({ cls := "FleetSettings$Outcome", name := "forget", desc := "()V" } : Jvm.MethodName)) ∈ Tw := Tw_of 583 (by decide +kernel) rfl
theorem tw_sel_X3_forget : (Jvm.Cond.selects "FleetSettings$Outcome" ({ cls := "FleetSettings$Outcome", name := "forget", desc := "()V" } : Jvm.MethodName) ({ cls := "FleetSettings$Outcome", name := "forget", desc := "()V" } : Jvm.MethodName)) ∈ Tw := Tw_of 584 (by decide +kernel) rfl
theorem tw_code_X3_forget : (Jvm.Cond.code ({ cls := "FleetSettings$Outcome", name := "forget", desc := "()V" } : Jvm.MethodName) prog_6_method_2_code (1 : Nat) (Option.none : Option Jvm.ClassFile.FieldType)) ∈ Tw := Tw_of 585 (by decide +kernel) rfl
theorem tw_ml_X3_21 : (Jvm.Cond.methodLink "FleetSettings$Outcome" (21 : Nat) ({ cls := "java/util/Arrays", name := "fill", desc := "([II)V" } : Jvm.MethodName)) ∈ Tw := Tw_of 586 (by decide +kernel) rfl
theorem tw_ml_X5_337 : (Jvm.Cond.methodLink "FleetSettings" (337 : Nat) ({ cls := "FleetSettings", name := "decide", desc := "(LFleetSettings$Machine;LFleetSettings$Cells;LFleetSettings$Heads;I)V" } : Jvm.MethodName)) ∈ Tw := Tw_of 587 (by decide +kernel) rfl
theorem tw_im_X5_decide : (Jvm.Cond.instanceMethod ({ cls := "FleetSettings", name := "decide", desc := "(LFleetSettings$Machine;LFleetSettings$Cells;LFleetSettings$Heads;I)V" } : Jvm.MethodName)) ∈ Tw := Tw_of 589 (by decide +kernel) rfl
theorem tw_code_X5_decide : (Jvm.Cond.code ({ cls := "FleetSettings", name := "decide", desc := "(LFleetSettings$Machine;LFleetSettings$Cells;LFleetSettings$Heads;I)V" } : Jvm.MethodName) prog_1_method_57_code (8 : Nat) (Option.none : Option Jvm.ClassFile.FieldType)) ∈ Tw := Tw_of 590 (by decide +kernel) rfl
theorem tw_ml_X5_345 : (Jvm.Cond.methodLink "FleetSettings" (345 : Nat) ({ cls := "FleetSettings$Outcome", name := "set", desc := "(IIII)V" } : Jvm.MethodName)) ∈ Tw := Tw_of 591 (by decide +kernel) rfl
theorem tw_im_X3_set : (Jvm.Cond.instanceMethod ({ cls := "FleetSettings$Outcome", name := "set", desc := "(IIII)V" } : Jvm.MethodName)) ∈ Tw := Tw_of 592 (by decide +kernel) rfl
theorem tw_sel_X3_set : (Jvm.Cond.selects "FleetSettings$Outcome" ({ cls := "FleetSettings$Outcome", name := "set", desc := "(IIII)V" } : Jvm.MethodName) ({ cls := "FleetSettings$Outcome", name := "set", desc := "(IIII)V" } : Jvm.MethodName)) ∈ Tw := Tw_of 593 (by decide +kernel) rfl
theorem tw_code_X3_set : (Jvm.Cond.code ({ cls := "FleetSettings$Outcome", name := "set", desc := "(IIII)V" } : Jvm.MethodName) prog_6_method_3_code (5 : Nat) (Option.none : Option Jvm.ClassFile.FieldType)) ∈ Tw := Tw_of 594 (by decide +kernel) rfl
theorem tw_ml_X5_341 : (Jvm.Cond.methodLink "FleetSettings" (341 : Nat) ({ cls := "FleetSettings$Outcome", name := "hideExcluded", desc := "([I)V" } : Jvm.MethodName)) ∈ Tw := Tw_of 595 (by decide +kernel) rfl
theorem tw_im_X3_hideExcluded : (Jvm.Cond.instanceMethod ({ cls := "FleetSettings$Outcome", name := "hideExcluded", desc := "([I)V" } : Jvm.MethodName)) ∈ Tw := Tw_of 596 (by decide +kernel) rfl
theorem tw_sel_X3_hideExcluded : (Jvm.Cond.selects "FleetSettings$Outcome" ({ cls := "FleetSettings$Outcome", name := "hideExcluded", desc := "([I)V" } : Jvm.MethodName) ({ cls := "FleetSettings$Outcome", name := "hideExcluded", desc := "([I)V" } : Jvm.MethodName)) ∈ Tw := Tw_of 597 (by decide +kernel) rfl
theorem tw_code_X3_hideExcluded : (Jvm.Cond.code ({ cls := "FleetSettings$Outcome", name := "hideExcluded", desc := "([I)V" } : Jvm.MethodName) prog_6_method_4_code (4 : Nat) (Option.none : Option Jvm.ClassFile.FieldType)) ∈ Tw := Tw_of 598 (by decide +kernel) rfl
theorem tw_st_X5_contains : (Jvm.Cond.static ({ cls := "FleetSettings", name := "contains", desc := "(II)Z" } : Jvm.MethodName)) ∈ Tw := Tw_of 600 (by decide +kernel) rfl
theorem tw_code_X5_contains : (Jvm.Cond.code ({ cls := "FleetSettings", name := "contains", desc := "(II)Z" } : Jvm.MethodName) prog_1_method_40_code (2 : Nat) (Option.some Jvm.ClassFile.FieldType.boolean)) ∈ Tw := Tw_of 601 (by decide +kernel) rfl
theorem tw_ml_X3_35 : (Jvm.Cond.methodLink "FleetSettings$Outcome" (35 : Nat) ({ cls := "FleetSettings$Outcome", name := "yields", desc := "(II)Z" } : Jvm.MethodName)) ∈ Tw := Tw_of 602 (by decide +kernel) rfl
theorem tw_im_X3_yields : (Jvm.Cond.instanceMethod ({ cls := "FleetSettings$Outcome", name := "yields", desc := "(II)Z" } : Jvm.MethodName)) ∈ Tw := Tw_of 604 (by decide +kernel) rfl
theorem tw_code_X3_yields : (Jvm.Cond.code ({ cls := "FleetSettings$Outcome", name := "yields", desc := "(II)Z" } : Jvm.MethodName) prog_6_method_5_code (3 : Nat) (Option.some Jvm.ClassFile.FieldType.boolean)) ∈ Tw := Tw_of 605 (by decide +kernel) rfl
theorem tw_st_X5_with : (Jvm.Cond.static ({ cls := "FleetSettings", name := "with", desc := "(IIZ)I" } : Jvm.MethodName)) ∈ Tw := Tw_of 607 (by decide +kernel) rfl
theorem tw_code_X5_with : (Jvm.Cond.code ({ cls := "FleetSettings", name := "with", desc := "(IIZ)I" } : Jvm.MethodName) prog_1_method_41_code (3 : Nat) (Option.some Jvm.ClassFile.FieldType.int)) ∈ Tw := Tw_of 608 (by decide +kernel) rfl
theorem tw_ml_X5_249 : (Jvm.Cond.methodLink "FleetSettings" (249 : Nat) ({ cls := "FleetSettings$Outcome", name := "valueIfShown", desc := "(I)I" } : Jvm.MethodName)) ∈ Tw := Tw_of 609 (by decide +kernel) rfl
theorem tw_im_X3_valueIfShown : (Jvm.Cond.instanceMethod ({ cls := "FleetSettings$Outcome", name := "valueIfShown", desc := "(I)I" } : Jvm.MethodName)) ∈ Tw := Tw_of 610 (by decide +kernel) rfl
theorem tw_sel_X3_valueIfShown : (Jvm.Cond.selects "FleetSettings$Outcome" ({ cls := "FleetSettings$Outcome", name := "valueIfShown", desc := "(I)I" } : Jvm.MethodName) ({ cls := "FleetSettings$Outcome", name := "valueIfShown", desc := "(I)I" } : Jvm.MethodName)) ∈ Tw := Tw_of 611 (by decide +kernel) rfl
theorem tw_code_X3_valueIfShown : (Jvm.Cond.code ({ cls := "FleetSettings$Outcome", name := "valueIfShown", desc := "(I)I" } : Jvm.MethodName) prog_6_method_6_code (2 : Nat) (Option.some Jvm.ClassFile.FieldType.int)) ∈ Tw := Tw_of 612 (by decide +kernel) rfl
theorem tw_ml_L_87 : (Jvm.Cond.methodLink "FleetSettingsLaw" (87 : Nat) ({ cls := "FleetSettings", name := "dueAnew", desc := "(II)I" } : Jvm.MethodName)) ∈ Tw := Tw_of 613 (by decide +kernel) rfl
theorem tw_im_X5_dueAnew : (Jvm.Cond.instanceMethod ({ cls := "FleetSettings", name := "dueAnew", desc := "(II)I" } : Jvm.MethodName)) ∈ Tw := Tw_of 614 (by decide +kernel) rfl
theorem tw_sel_X5_dueAnew : (Jvm.Cond.selects "FleetSettings" ({ cls := "FleetSettings", name := "dueAnew", desc := "(II)I" } : Jvm.MethodName) ({ cls := "FleetSettings", name := "dueAnew", desc := "(II)I" } : Jvm.MethodName)) ∈ Tw := Tw_of 615 (by decide +kernel) rfl
theorem tw_code_X5_dueAnew : (Jvm.Cond.code ({ cls := "FleetSettings", name := "dueAnew", desc := "(II)I" } : Jvm.MethodName) prog_1_method_27_code (3 : Nat) (Option.some Jvm.ClassFile.FieldType.int)) ∈ Tw := Tw_of 616 (by decide +kernel) rfl
theorem tw_ml_X5_259 : (Jvm.Cond.methodLink "FleetSettings" (259 : Nat) ({ cls := "FleetSettings", name := "findHeadsAnew", desc := "()V" } : Jvm.MethodName)) ∈ Tw := Tw_of 617 (by decide +kernel) rfl
theorem tw_im_X5_findHeadsAnew : (Jvm.Cond.instanceMethod ({ cls := "FleetSettings", name := "findHeadsAnew", desc := "()V" } : Jvm.MethodName)) ∈ Tw := Tw_of 619 (by decide +kernel) rfl
theorem tw_code_X5_findHeadsAnew : (Jvm.Cond.code ({ cls := "FleetSettings", name := "findHeadsAnew", desc := "()V" } : Jvm.MethodName) prog_1_method_46_code (2 : Nat) (Option.none : Option Jvm.ClassFile.FieldType)) ∈ Tw := Tw_of 620 (by decide +kernel) rfl
theorem tw_ml_X5_303 : (Jvm.Cond.methodLink "FleetSettings" (303 : Nat) ({ cls := "FleetSettings$Cells", name := "clear", desc := "()V" } : Jvm.MethodName)) ∈ Tw := Tw_of 621 (by decide +kernel) rfl
theorem tw_im_X9_clear : (Jvm.Cond.instanceMethod ({ cls := "FleetSettings$Cells", name := "clear", desc := "()V" } : Jvm.MethodName)) ∈ Tw := Tw_of 622 (by decide +kernel) rfl
theorem tw_sel_X9_clear : (Jvm.Cond.selects "FleetSettings$Cells" ({ cls := "FleetSettings$Cells", name := "clear", desc := "()V" } : Jvm.MethodName) ({ cls := "FleetSettings$Cells", name := "clear", desc := "()V" } : Jvm.MethodName)) ∈ Tw := Tw_of 623 (by decide +kernel) rfl
theorem tw_code_X9_clear : (Jvm.Cond.code ({ cls := "FleetSettings$Cells", name := "clear", desc := "()V" } : Jvm.MethodName) prog_2_method_2_code (1 : Nat) (Option.none : Option Jvm.ClassFile.FieldType)) ∈ Tw := Tw_of 624 (by decide +kernel) rfl
theorem tw_ml_X5_309 : (Jvm.Cond.methodLink "FleetSettings" (309 : Nat) ({ cls := "FleetSettings$Change", name := "firstHeldMoment", desc := "([LFleetSettings$Person;)I" } : Jvm.MethodName)) ∈ Tw := Tw_of 625 (by decide +kernel) rfl
theorem tw_im_X0_firstHeldMoment : (Jvm.Cond.instanceMethod ({ cls := "FleetSettings$Change", name := "firstHeldMoment", desc := "([LFleetSettings$Person;)I" } : Jvm.MethodName)) ∈ Tw := Tw_of 626 (by decide +kernel) rfl
theorem tw_sel_X0_firstHeldMoment : (Jvm.Cond.selects "FleetSettings$Change" ({ cls := "FleetSettings$Change", name := "firstHeldMoment", desc := "([LFleetSettings$Person;)I" } : Jvm.MethodName) ({ cls := "FleetSettings$Change", name := "firstHeldMoment", desc := "([LFleetSettings$Person;)I" } : Jvm.MethodName)) ∈ Tw := Tw_of 627 (by decide +kernel) rfl
theorem tw_code_X0_firstHeldMoment : (Jvm.Cond.code ({ cls := "FleetSettings$Change", name := "firstHeldMoment", desc := "([LFleetSettings$Person;)I" } : Jvm.MethodName) prog_3_method_9_code (6 : Nat) (Option.some Jvm.ClassFile.FieldType.int)) ∈ Tw := Tw_of 628 (by decide +kernel) rfl
theorem tw_ml_X0_71 : (Jvm.Cond.methodLink "FleetSettings$Change" (71 : Nat) ({ cls := "FleetSettings$Change", name := "countGoodAt", desc := "(I[LFleetSettings$Person;)I" } : Jvm.MethodName)) ∈ Tw := Tw_of 629 (by decide +kernel) rfl
theorem tw_im_X0_countGoodAt : (Jvm.Cond.instanceMethod ({ cls := "FleetSettings$Change", name := "countGoodAt", desc := "(I[LFleetSettings$Person;)I" } : Jvm.MethodName)) ∈ Tw := Tw_of 631 (by decide +kernel) rfl
theorem tw_code_X0_countGoodAt : (Jvm.Cond.code ({ cls := "FleetSettings$Change", name := "countGoodAt", desc := "(I[LFleetSettings$Person;)I" } : Jvm.MethodName) prog_3_method_10_code (7 : Nat) (Option.some Jvm.ClassFile.FieldType.int)) ∈ Tw := Tw_of 632 (by decide +kernel) rfl
theorem tw_ml_X0_65 : (Jvm.Cond.methodLink "FleetSettings$Change" (65 : Nat) ({ cls := "FleetSettings$Person", name := "hasVoided", desc := "(I)Z" } : Jvm.MethodName)) ∈ Tw := Tw_of 633 (by decide +kernel) rfl
theorem tw_im_X4_hasVoided : (Jvm.Cond.instanceMethod ({ cls := "FleetSettings$Person", name := "hasVoided", desc := "(I)Z" } : Jvm.MethodName)) ∈ Tw := Tw_of 634 (by decide +kernel) rfl
theorem tw_sel_X4_hasVoided : (Jvm.Cond.selects "FleetSettings$Person" ({ cls := "FleetSettings$Person", name := "hasVoided", desc := "(I)Z" } : Jvm.MethodName) ({ cls := "FleetSettings$Person", name := "hasVoided", desc := "(I)Z" } : Jvm.MethodName)) ∈ Tw := Tw_of 635 (by decide +kernel) rfl
theorem tw_code_X4_hasVoided : (Jvm.Cond.code ({ cls := "FleetSettings$Person", name := "hasVoided", desc := "(I)Z" } : Jvm.MethodName) prog_7_method_2_code (2 : Nat) (Option.some Jvm.ClassFile.FieldType.boolean)) ∈ Tw := Tw_of 636 (by decide +kernel) rfl
theorem tw_ml_X5_293 : (Jvm.Cond.methodLink "FleetSettings" (293 : Nat) ({ cls := "FleetSettings$Heads", name := "setRank", desc := "(II)V" } : Jvm.MethodName)) ∈ Tw := Tw_of 637 (by decide +kernel) rfl
theorem tw_im_X1_setRank : (Jvm.Cond.instanceMethod ({ cls := "FleetSettings$Heads", name := "setRank", desc := "(II)V" } : Jvm.MethodName)) ∈ Tw := Tw_of 638 (by decide +kernel) rfl
theorem tw_sel_X1_setRank : (Jvm.Cond.selects "FleetSettings$Heads" ({ cls := "FleetSettings$Heads", name := "setRank", desc := "(II)V" } : Jvm.MethodName) ({ cls := "FleetSettings$Heads", name := "setRank", desc := "(II)V" } : Jvm.MethodName)) ∈ Tw := Tw_of 639 (by decide +kernel) rfl
theorem tw_code_X1_setRank : (Jvm.Cond.code ({ cls := "FleetSettings$Heads", name := "setRank", desc := "(II)V" } : Jvm.MethodName) prog_4_method_3_code (3 : Nat) (Option.none : Option Jvm.ClassFile.FieldType)) ∈ Tw := Tw_of 640 (by decide +kernel) rfl
theorem tw_ml_X5_313 : (Jvm.Cond.methodLink "FleetSettings" (313 : Nat) ({ cls := "FleetSettings$Change", name := "isHeldAnew", desc := "([LFleetSettings$Person;)Z" } : Jvm.MethodName)) ∈ Tw := Tw_of 641 (by decide +kernel) rfl
theorem tw_im_X0_isHeldAnew : (Jvm.Cond.instanceMethod ({ cls := "FleetSettings$Change", name := "isHeldAnew", desc := "([LFleetSettings$Person;)Z" } : Jvm.MethodName)) ∈ Tw := Tw_of 642 (by decide +kernel) rfl
theorem tw_sel_X0_isHeldAnew : (Jvm.Cond.selects "FleetSettings$Change" ({ cls := "FleetSettings$Change", name := "isHeldAnew", desc := "([LFleetSettings$Person;)Z" } : Jvm.MethodName) ({ cls := "FleetSettings$Change", name := "isHeldAnew", desc := "([LFleetSettings$Person;)Z" } : Jvm.MethodName)) ∈ Tw := Tw_of 643 (by decide +kernel) rfl
theorem tw_code_X0_isHeldAnew : (Jvm.Cond.code ({ cls := "FleetSettings$Change", name := "isHeldAnew", desc := "([LFleetSettings$Person;)Z" } : Jvm.MethodName) prog_3_method_7_code (4 : Nat) (Option.some Jvm.ClassFile.FieldType.boolean)) ∈ Tw := Tw_of 644 (by decide +kernel) rfl
theorem tw_ml_X0_61 : (Jvm.Cond.methodLink "FleetSettings$Change" (61 : Nat) ({ cls := "FleetSettings$Change", name := "isProposalVoided", desc := "([LFleetSettings$Person;)Z" } : Jvm.MethodName)) ∈ Tw := Tw_of 645 (by decide +kernel) rfl
theorem tw_im_X0_isProposalVoided : (Jvm.Cond.instanceMethod ({ cls := "FleetSettings$Change", name := "isProposalVoided", desc := "([LFleetSettings$Person;)Z" } : Jvm.MethodName)) ∈ Tw := Tw_of 647 (by decide +kernel) rfl
theorem tw_code_X0_isProposalVoided : (Jvm.Cond.code ({ cls := "FleetSettings$Change", name := "isProposalVoided", desc := "([LFleetSettings$Person;)Z" } : Jvm.MethodName) prog_3_method_8_code (2 : Nat) (Option.some Jvm.ClassFile.FieldType.boolean)) ∈ Tw := Tw_of 648 (by decide +kernel) rfl
theorem tw_ml_X5_306 : (Jvm.Cond.methodLink "FleetSettings" (306 : Nat) ({ cls := "FleetSettings$Heads", name := "raise", desc := "(II)V" } : Jvm.MethodName)) ∈ Tw := Tw_of 649 (by decide +kernel) rfl
theorem tw_im_X1_raise : (Jvm.Cond.instanceMethod ({ cls := "FleetSettings$Heads", name := "raise", desc := "(II)V" } : Jvm.MethodName)) ∈ Tw := Tw_of 650 (by decide +kernel) rfl
theorem tw_sel_X1_raise : (Jvm.Cond.selects "FleetSettings$Heads" ({ cls := "FleetSettings$Heads", name := "raise", desc := "(II)V" } : Jvm.MethodName) ({ cls := "FleetSettings$Heads", name := "raise", desc := "(II)V" } : Jvm.MethodName)) ∈ Tw := Tw_of 651 (by decide +kernel) rfl
theorem tw_code_X1_raise : (Jvm.Cond.code ({ cls := "FleetSettings$Heads", name := "raise", desc := "(II)V" } : Jvm.MethodName) prog_4_method_4_code (3 : Nat) (Option.none : Option Jvm.ClassFile.FieldType)) ∈ Tw := Tw_of 652 (by decide +kernel) rfl
theorem tw_ml_X1_32 : (Jvm.Cond.methodLink "FleetSettings$Heads" (32 : Nat) ({ cls := "FleetSettings$Cells", name := "get", desc := "(I)I" } : Jvm.MethodName)) ∈ Tw := Tw_of 653 (by decide +kernel) rfl
theorem tw_ml_X1_36 : (Jvm.Cond.methodLink "FleetSettings$Heads" (36 : Nat) ({ cls := "FleetSettings$Heads", name := "rankOf", desc := "(I)I" } : Jvm.MethodName)) ∈ Tw := Tw_of 654 (by decide +kernel) rfl
theorem tw_ml_X1_39 : (Jvm.Cond.methodLink "FleetSettings$Heads" (39 : Nat) ({ cls := "FleetSettings$Cells", name := "set", desc := "(II)V" } : Jvm.MethodName)) ∈ Tw := Tw_of 655 (by decide +kernel) rfl
theorem tw_ml_L_90 : (Jvm.Cond.methodLink "FleetSettingsLaw" (90 : Nat) ({ cls := "FleetSettings", name := "runs", desc := "(II)I" } : Jvm.MethodName)) ∈ Tw := Tw_of 656 (by decide +kernel) rfl
theorem tw_im_X5_runs : (Jvm.Cond.instanceMethod ({ cls := "FleetSettings", name := "runs", desc := "(II)I" } : Jvm.MethodName)) ∈ Tw := Tw_of 657 (by decide +kernel) rfl
theorem tw_sel_X5_runs : (Jvm.Cond.selects "FleetSettings" ({ cls := "FleetSettings", name := "runs", desc := "(II)I" } : Jvm.MethodName) ({ cls := "FleetSettings", name := "runs", desc := "(II)I" } : Jvm.MethodName)) ∈ Tw := Tw_of 658 (by decide +kernel) rfl
theorem tw_code_X5_runs : (Jvm.Cond.code ({ cls := "FleetSettings", name := "runs", desc := "(II)I" } : Jvm.MethodName) prog_1_method_24_code (3 : Nat) (Option.some Jvm.ClassFile.FieldType.int)) ∈ Tw := Tw_of 659 (by decide +kernel) rfl
theorem tw_ml_X5_245 : (Jvm.Cond.methodLink "FleetSettings" (245 : Nat) ({ cls := "FleetSettings", name := "findRunning", desc := "(LFleetSettings$Machine;)V" } : Jvm.MethodName)) ∈ Tw := Tw_of 660 (by decide +kernel) rfl
theorem tw_im_X5_findRunning : (Jvm.Cond.instanceMethod ({ cls := "FleetSettings", name := "findRunning", desc := "(LFleetSettings$Machine;)V" } : Jvm.MethodName)) ∈ Tw := Tw_of 662 (by decide +kernel) rfl
theorem tw_code_X5_findRunning : (Jvm.Cond.code ({ cls := "FleetSettings", name := "findRunning", desc := "(LFleetSettings$Machine;)V" } : Jvm.MethodName) prog_1_method_55_code (2 : Nat) (Option.none : Option Jvm.ClassFile.FieldType)) ∈ Tw := Tw_of 663 (by decide +kernel) rfl
theorem tw_ml_L_93 : (Jvm.Cond.methodLink "FleetSettingsLaw" (93 : Nat) ({ cls := "FleetSettings", name := "layerOf", desc := "(II)I" } : Jvm.MethodName)) ∈ Tw := Tw_of 664 (by decide +kernel) rfl
theorem tw_im_X5_layerOf : (Jvm.Cond.instanceMethod ({ cls := "FleetSettings", name := "layerOf", desc := "(II)I" } : Jvm.MethodName)) ∈ Tw := Tw_of 665 (by decide +kernel) rfl
theorem tw_sel_X5_layerOf : (Jvm.Cond.selects "FleetSettings" ({ cls := "FleetSettings", name := "layerOf", desc := "(II)I" } : Jvm.MethodName) ({ cls := "FleetSettings", name := "layerOf", desc := "(II)I" } : Jvm.MethodName)) ∈ Tw := Tw_of 666 (by decide +kernel) rfl
theorem tw_code_X5_layerOf : (Jvm.Cond.code ({ cls := "FleetSettings", name := "layerOf", desc := "(II)I" } : Jvm.MethodName) prog_1_method_25_code (3 : Nat) (Option.some Jvm.ClassFile.FieldType.int)) ∈ Tw := Tw_of 667 (by decide +kernel) rfl
theorem tw_ml_X5_252 : (Jvm.Cond.methodLink "FleetSettings" (252 : Nat) ({ cls := "FleetSettings$Outcome", name := "layerIfShown", desc := "(I)I" } : Jvm.MethodName)) ∈ Tw := Tw_of 668 (by decide +kernel) rfl
theorem tw_im_X3_layerIfShown : (Jvm.Cond.instanceMethod ({ cls := "FleetSettings$Outcome", name := "layerIfShown", desc := "(I)I" } : Jvm.MethodName)) ∈ Tw := Tw_of 669 (by decide +kernel) rfl
theorem tw_sel_X3_layerIfShown : (Jvm.Cond.selects "FleetSettings$Outcome" ({ cls := "FleetSettings$Outcome", name := "layerIfShown", desc := "(I)I" } : Jvm.MethodName) ({ cls := "FleetSettings$Outcome", name := "layerIfShown", desc := "(I)I" } : Jvm.MethodName)) ∈ Tw := Tw_of 670 (by decide +kernel) rfl
theorem tw_code_X3_layerIfShown : (Jvm.Cond.code ({ cls := "FleetSettings$Outcome", name := "layerIfShown", desc := "(I)I" } : Jvm.MethodName) prog_6_method_7_code (2 : Nat) (Option.some Jvm.ClassFile.FieldType.int)) ∈ Tw := Tw_of 671 (by decide +kernel) rfl
theorem tw_ml_X3_42 : (Jvm.Cond.methodLink "FleetSettings$Outcome" (42 : Nat) ({ cls := "FleetSettings$Outcome", name := "valueIfShown", desc := "(I)I" } : Jvm.MethodName)) ∈ Tw := Tw_of 672 (by decide +kernel) rfl
theorem tw_ml_L_96 : (Jvm.Cond.methodLink "FleetSettingsLaw" (96 : Nat) ({ cls := "FleetSettings", name := "behind", desc := "(I)I" } : Jvm.MethodName)) ∈ Tw := Tw_of 673 (by decide +kernel) rfl
theorem tw_im_X5_behind : (Jvm.Cond.instanceMethod ({ cls := "FleetSettings", name := "behind", desc := "(I)I" } : Jvm.MethodName)) ∈ Tw := Tw_of 674 (by decide +kernel) rfl
theorem tw_sel_X5_behind : (Jvm.Cond.selects "FleetSettings" ({ cls := "FleetSettings", name := "behind", desc := "(I)I" } : Jvm.MethodName) ({ cls := "FleetSettings", name := "behind", desc := "(I)I" } : Jvm.MethodName)) ∈ Tw := Tw_of 675 (by decide +kernel) rfl
theorem tw_code_X5_behind : (Jvm.Cond.code ({ cls := "FleetSettings", name := "behind", desc := "(I)I" } : Jvm.MethodName) prog_1_method_28_code (5 : Nat) (Option.some Jvm.ClassFile.FieldType.int)) ∈ Tw := Tw_of 676 (by decide +kernel) rfl
theorem tw_ml_L_100 : (Jvm.Cond.methodLink "FleetSettingsLaw" (100 : Nat) ({ cls := "FleetSettings", name := "hidden", desc := "(I)I" } : Jvm.MethodName)) ∈ Tw := Tw_of 677 (by decide +kernel) rfl
theorem tw_im_X5_hidden : (Jvm.Cond.instanceMethod ({ cls := "FleetSettings", name := "hidden", desc := "(I)I" } : Jvm.MethodName)) ∈ Tw := Tw_of 678 (by decide +kernel) rfl
theorem tw_sel_X5_hidden : (Jvm.Cond.selects "FleetSettings" ({ cls := "FleetSettings", name := "hidden", desc := "(I)I" } : Jvm.MethodName) ({ cls := "FleetSettings", name := "hidden", desc := "(I)I" } : Jvm.MethodName)) ∈ Tw := Tw_of 679 (by decide +kernel) rfl
theorem tw_code_X5_hidden : (Jvm.Cond.code ({ cls := "FleetSettings", name := "hidden", desc := "(I)I" } : Jvm.MethodName) prog_1_method_29_code (2 : Nat) (Option.some Jvm.ClassFile.FieldType.int)) ∈ Tw := Tw_of 680 (by decide +kernel) rfl
theorem tw_ml_L_201 : (Jvm.Cond.methodLink "FleetSettingsLaw" (201 : Nat) ({ cls := "FleetSettingsLaw", name := "pass", desc := "(I[I[I[I[I)I" } : Jvm.MethodName)) ∈ Tw := Tw_of 681 (by decide +kernel) rfl
theorem tw_st_L_pass : (Jvm.Cond.static ({ cls := "FleetSettingsLaw", name := "pass", desc := "(I[I[I[I[I)I" } : Jvm.MethodName)) ∈ Tw := Tw_of 682 (by decide +kernel) rfl
theorem tw_code_L_pass : (Jvm.Cond.code ({ cls := "FleetSettingsLaw", name := "pass", desc := "(I[I[I[I[I)I" } : Jvm.MethodName) method_21_code (10 : Nat) (Option.some Jvm.ClassFile.FieldType.int)) ∈ Tw := Tw_of 683 (by decide +kernel) rfl
theorem tw_ml_L_135 : (Jvm.Cond.methodLink "FleetSettingsLaw" (135 : Nat) ({ cls := "FleetSettingsLaw", name := "steps", desc := "(II[I[I[I[I)I" } : Jvm.MethodName)) ∈ Tw := Tw_of 684 (by decide +kernel) rfl
theorem tw_st_L_steps : (Jvm.Cond.static ({ cls := "FleetSettingsLaw", name := "steps", desc := "(II[I[I[I[I)I" } : Jvm.MethodName)) ∈ Tw := Tw_of 685 (by decide +kernel) rfl
theorem tw_code_L_steps : (Jvm.Cond.code ({ cls := "FleetSettingsLaw", name := "steps", desc := "(II[I[I[I[I)I" } : Jvm.MethodName) method_20_code (12 : Nat) (Option.some Jvm.ClassFile.FieldType.int)) ∈ Tw := Tw_of 686 (by decide +kernel) rfl
theorem tw_ml_L_182 : (Jvm.Cond.methodLink "FleetSettingsLaw" (182 : Nat) ({ cls := "FleetSettingsLaw", name := "proposes", desc := "(LFleetSettings;I[I[I[I)Z" } : Jvm.MethodName)) ∈ Tw := Tw_of 687 (by decide +kernel) rfl
theorem tw_st_L_proposes : (Jvm.Cond.static ({ cls := "FleetSettingsLaw", name := "proposes", desc := "(LFleetSettings;I[I[I[I)Z" } : Jvm.MethodName)) ∈ Tw := Tw_of 688 (by decide +kernel) rfl
theorem tw_code_L_proposes : (Jvm.Cond.code ({ cls := "FleetSettingsLaw", name := "proposes", desc := "(LFleetSettings;I[I[I[I)Z" } : Jvm.MethodName) method_23_code (12 : Nat) (Option.some Jvm.ClassFile.FieldType.boolean)) ∈ Tw := Tw_of 689 (by decide +kernel) rfl
theorem tw_ml_L_139 : (Jvm.Cond.methodLink "FleetSettingsLaw" (139 : Nat) ({ cls := "FleetSettingsLaw", name := "calls", desc := "(LFleetSettings;IIIII)I" } : Jvm.MethodName)) ∈ Tw := Tw_of 690 (by decide +kernel) rfl
theorem tw_st_L_calls : (Jvm.Cond.static ({ cls := "FleetSettingsLaw", name := "calls", desc := "(LFleetSettings;IIIII)I" } : Jvm.MethodName)) ∈ Tw := Tw_of 691 (by decide +kernel) rfl
theorem tw_code_L_calls : (Jvm.Cond.codeWith ({ cls := "FleetSettingsLaw", name := "calls", desc := "(LFleetSettings;IIIII)I" } : Jvm.MethodName) method_4_code (7 : Nat) (Option.some Jvm.ClassFile.FieldType.int) [((0 : Nat), (74 : Nat), (75 : Nat), (30 : Nat))]) ∈ Tw := Tw_of 692 (by decide +kernel) rfl
theorem tw_cl_L_30 : (Jvm.Cond.classLink "FleetSettingsLaw" (30 : Nat) "java/lang/IllegalStateException") ∈ Tw := Tw_of 693 (by decide +kernel) rfl
theorem tw_ml_L_10 : (Jvm.Cond.methodLink "FleetSettingsLaw" (10 : Nat) ({ cls := "FleetSettings", name := "propose", desc := "(IIII)I" } : Jvm.MethodName)) ∈ Tw := Tw_of 694 (by decide +kernel) rfl
theorem tw_im_X5_propose : (Jvm.Cond.instanceMethod ({ cls := "FleetSettings", name := "propose", desc := "(IIII)I" } : Jvm.MethodName)) ∈ Tw := Tw_of 695 (by decide +kernel) rfl
theorem tw_sel_X5_propose : (Jvm.Cond.selects "FleetSettings" ({ cls := "FleetSettings", name := "propose", desc := "(IIII)I" } : Jvm.MethodName) ({ cls := "FleetSettings", name := "propose", desc := "(IIII)I" } : Jvm.MethodName)) ∈ Tw := Tw_of 696 (by decide +kernel) rfl
theorem tw_code_X5_propose : (Jvm.Cond.code ({ cls := "FleetSettings", name := "propose", desc := "(IIII)I" } : Jvm.MethodName) prog_1_method_14_code (6 : Nat) (Option.some Jvm.ClassFile.FieldType.int)) ∈ Tw := Tw_of 697 (by decide +kernel) rfl
theorem tw_ml_X5_79 : (Jvm.Cond.methodLink "FleetSettings" (79 : Nat) ({ cls := "FleetSettings", name := "requirePerson", desc := "(I)V" } : Jvm.MethodName)) ∈ Tw := Tw_of 698 (by decide +kernel) rfl
theorem tw_st_X5_requirePerson : (Jvm.Cond.static ({ cls := "FleetSettings", name := "requirePerson", desc := "(I)V" } : Jvm.MethodName)) ∈ Tw := Tw_of 699 (by decide +kernel) rfl
theorem tw_code_X5_requirePerson : (Jvm.Cond.code ({ cls := "FleetSettings", name := "requirePerson", desc := "(I)V" } : Jvm.MethodName) prog_1_method_31_code (1 : Nat) (Option.none : Option Jvm.ClassFile.FieldType)) ∈ Tw := Tw_of 700 (by decide +kernel) rfl
theorem tw_ml_X5_175 : (Jvm.Cond.methodLink "FleetSettings" (175 : Nat) ({ cls := "FleetSettings$Change", name := "begin", desc := "(IIII)V" } : Jvm.MethodName)) ∈ Tw := Tw_of 704 (by decide +kernel) rfl
theorem tw_im_X0_begin : (Jvm.Cond.instanceMethod ({ cls := "FleetSettings$Change", name := "begin", desc := "(IIII)V" } : Jvm.MethodName)) ∈ Tw := Tw_of 705 (by decide +kernel) rfl
theorem tw_sel_X0_begin : (Jvm.Cond.selects "FleetSettings$Change" ({ cls := "FleetSettings$Change", name := "begin", desc := "(IIII)V" } : Jvm.MethodName) ({ cls := "FleetSettings$Change", name := "begin", desc := "(IIII)V" } : Jvm.MethodName)) ∈ Tw := Tw_of 706 (by decide +kernel) rfl
theorem tw_code_X0_begin : (Jvm.Cond.code ({ cls := "FleetSettings$Change", name := "begin", desc := "(IIII)V" } : Jvm.MethodName) prog_3_method_2_code (5 : Nat) (Option.none : Option Jvm.ClassFile.FieldType)) ∈ Tw := Tw_of 707 (by decide +kernel) rfl
theorem tw_ml_L_16 : (Jvm.Cond.methodLink "FleetSettingsLaw" (16 : Nat) ({ cls := "FleetSettings", name := "approve", desc := "(II)I" } : Jvm.MethodName)) ∈ Tw := Tw_of 708 (by decide +kernel) rfl
theorem tw_im_X5_approve : (Jvm.Cond.instanceMethod ({ cls := "FleetSettings", name := "approve", desc := "(II)I" } : Jvm.MethodName)) ∈ Tw := Tw_of 709 (by decide +kernel) rfl
theorem tw_sel_X5_approve : (Jvm.Cond.selects "FleetSettings" ({ cls := "FleetSettings", name := "approve", desc := "(II)I" } : Jvm.MethodName) ({ cls := "FleetSettings", name := "approve", desc := "(II)I" } : Jvm.MethodName)) ∈ Tw := Tw_of 710 (by decide +kernel) rfl
theorem tw_code_X5_approve : (Jvm.Cond.code ({ cls := "FleetSettings", name := "approve", desc := "(II)I" } : Jvm.MethodName) prog_1_method_15_code (4 : Nat) (Option.some Jvm.ClassFile.FieldType.int)) ∈ Tw := Tw_of 711 (by decide +kernel) rfl
theorem tw_ml_X5_182 : (Jvm.Cond.methodLink "FleetSettings" (182 : Nat) ({ cls := "FleetSettings", name := "isOnDuty", desc := "(I)Z" } : Jvm.MethodName)) ∈ Tw := Tw_of 712 (by decide +kernel) rfl
theorem tw_im_X5_isOnDuty : (Jvm.Cond.instanceMethod ({ cls := "FleetSettings", name := "isOnDuty", desc := "(I)Z" } : Jvm.MethodName)) ∈ Tw := Tw_of 714 (by decide +kernel) rfl
theorem tw_code_X5_isOnDuty : (Jvm.Cond.code ({ cls := "FleetSettings", name := "isOnDuty", desc := "(I)Z" } : Jvm.MethodName) prog_1_method_42_code (3 : Nat) (Option.some Jvm.ClassFile.FieldType.boolean)) ∈ Tw := Tw_of 715 (by decide +kernel) rfl
theorem tw_ml_X5_208 : (Jvm.Cond.methodLink "FleetSettings" (208 : Nat) ({ cls := "FleetSettings", name := "contains", desc := "(II)Z" } : Jvm.MethodName)) ∈ Tw := Tw_of 716 (by decide +kernel) rfl
theorem tw_ml_X5_186 : (Jvm.Cond.methodLink "FleetSettings" (186 : Nat) ({ cls := "FleetSettings$Change", name := "canBeApprovedBy", desc := "(I)Z" } : Jvm.MethodName)) ∈ Tw := Tw_of 717 (by decide +kernel) rfl
theorem tw_im_X0_canBeApprovedBy : (Jvm.Cond.instanceMethod ({ cls := "FleetSettings$Change", name := "canBeApprovedBy", desc := "(I)Z" } : Jvm.MethodName)) ∈ Tw := Tw_of 718 (by decide +kernel) rfl
theorem tw_sel_X0_canBeApprovedBy : (Jvm.Cond.selects "FleetSettings$Change" ({ cls := "FleetSettings$Change", name := "canBeApprovedBy", desc := "(I)Z" } : Jvm.MethodName) ({ cls := "FleetSettings$Change", name := "canBeApprovedBy", desc := "(I)Z" } : Jvm.MethodName)) ∈ Tw := Tw_of 719 (by decide +kernel) rfl
theorem tw_code_X0_canBeApprovedBy : (Jvm.Cond.code ({ cls := "FleetSettings$Change", name := "canBeApprovedBy", desc := "(I)Z" } : Jvm.MethodName) prog_3_method_3_code (2 : Nat) (Option.some Jvm.ClassFile.FieldType.boolean)) ∈ Tw := Tw_of 720 (by decide +kernel) rfl
theorem tw_ml_X5_191 : (Jvm.Cond.methodLink "FleetSettings" (191 : Nat) ({ cls := "FleetSettings$Change", name := "addApproval", desc := "(III)V" } : Jvm.MethodName)) ∈ Tw := Tw_of 723 (by decide +kernel) rfl
theorem tw_im_X0_addApproval : (Jvm.Cond.instanceMethod ({ cls := "FleetSettings$Change", name := "addApproval", desc := "(III)V" } : Jvm.MethodName)) ∈ Tw := Tw_of 724 (by decide +kernel) rfl
theorem tw_sel_X0_addApproval : (Jvm.Cond.selects "FleetSettings$Change" ({ cls := "FleetSettings$Change", name := "addApproval", desc := "(III)V" } : Jvm.MethodName) ({ cls := "FleetSettings$Change", name := "addApproval", desc := "(III)V" } : Jvm.MethodName)) ∈ Tw := Tw_of 725 (by decide +kernel) rfl
theorem tw_code_X0_addApproval : (Jvm.Cond.code ({ cls := "FleetSettings$Change", name := "addApproval", desc := "(III)V" } : Jvm.MethodName) prog_3_method_4_code (4 : Nat) (Option.none : Option Jvm.ClassFile.FieldType)) ∈ Tw := Tw_of 726 (by decide +kernel) rfl
theorem tw_ml_X5_201 : (Jvm.Cond.methodLink "FleetSettings" (201 : Nat) ({ cls := "FleetSettings", name := "hold", desc := "(I)V" } : Jvm.MethodName)) ∈ Tw := Tw_of 728 (by decide +kernel) rfl
theorem tw_im_X5_hold : (Jvm.Cond.instanceMethod ({ cls := "FleetSettings", name := "hold", desc := "(I)V" } : Jvm.MethodName)) ∈ Tw := Tw_of 730 (by decide +kernel) rfl
theorem tw_code_X5_hold : (Jvm.Cond.code ({ cls := "FleetSettings", name := "hold", desc := "(I)V" } : Jvm.MethodName) prog_1_method_43_code (2 : Nat) (Option.none : Option Jvm.ClassFile.FieldType)) ∈ Tw := Tw_of 731 (by decide +kernel) rfl
theorem tw_ml_X5_297 : (Jvm.Cond.methodLink "FleetSettings" (297 : Nat) ({ cls := "FleetSettings", name := "findHeads", desc := "()V" } : Jvm.MethodName)) ∈ Tw := Tw_of 732 (by decide +kernel) rfl
theorem tw_im_X5_findHeads : (Jvm.Cond.instanceMethod ({ cls := "FleetSettings", name := "findHeads", desc := "()V" } : Jvm.MethodName)) ∈ Tw := Tw_of 734 (by decide +kernel) rfl
theorem tw_code_X5_findHeads : (Jvm.Cond.code ({ cls := "FleetSettings", name := "findHeads", desc := "()V" } : Jvm.MethodName) prog_1_method_45_code (2 : Nat) (Option.none : Option Jvm.ClassFile.FieldType)) ∈ Tw := Tw_of 735 (by decide +kernel) rfl
theorem tw_ml_L_20 : (Jvm.Cond.methodLink "FleetSettingsLaw" (20 : Nat) ({ cls := "FleetSettings", name := "leave", desc := "(IZ)I" } : Jvm.MethodName)) ∈ Tw := Tw_of 736 (by decide +kernel) rfl
theorem tw_im_X5_leave : (Jvm.Cond.instanceMethod ({ cls := "FleetSettings", name := "leave", desc := "(IZ)I" } : Jvm.MethodName)) ∈ Tw := Tw_of 737 (by decide +kernel) rfl
theorem tw_sel_X5_leave : (Jvm.Cond.selects "FleetSettings" ({ cls := "FleetSettings", name := "leave", desc := "(IZ)I" } : Jvm.MethodName) ({ cls := "FleetSettings", name := "leave", desc := "(IZ)I" } : Jvm.MethodName)) ∈ Tw := Tw_of 738 (by decide +kernel) rfl
theorem tw_code_X5_leave : (Jvm.Cond.code ({ cls := "FleetSettings", name := "leave", desc := "(IZ)I" } : Jvm.MethodName) prog_1_method_3_code (4 : Nat) (Option.some Jvm.ClassFile.FieldType.int)) ∈ Tw := Tw_of 739 (by decide +kernel) rfl
theorem tw_ml_X5_106 : (Jvm.Cond.methodLink "FleetSettings" (106 : Nat) ({ cls := "FleetSettings", name := "voidWhatIsNotOld", desc := "(I)I" } : Jvm.MethodName)) ∈ Tw := Tw_of 741 (by decide +kernel) rfl
theorem tw_im_X5_voidWhatIsNotOld : (Jvm.Cond.instanceMethod ({ cls := "FleetSettings", name := "voidWhatIsNotOld", desc := "(I)I" } : Jvm.MethodName)) ∈ Tw := Tw_of 743 (by decide +kernel) rfl
theorem tw_code_X5_voidWhatIsNotOld : (Jvm.Cond.code ({ cls := "FleetSettings", name := "voidWhatIsNotOld", desc := "(I)I" } : Jvm.MethodName) prog_1_method_44_code (5 : Nat) (Option.some Jvm.ClassFile.FieldType.int)) ∈ Tw := Tw_of 744 (by decide +kernel) rfl
theorem tw_ml_X5_300 : (Jvm.Cond.methodLink "FleetSettings" (300 : Nat) ({ cls := "FleetSettings$Change", name := "loseByLeaving", desc := "(II)Z" } : Jvm.MethodName)) ∈ Tw := Tw_of 745 (by decide +kernel) rfl
theorem tw_im_X0_loseByLeaving : (Jvm.Cond.instanceMethod ({ cls := "FleetSettings$Change", name := "loseByLeaving", desc := "(II)Z" } : Jvm.MethodName)) ∈ Tw := Tw_of 746 (by decide +kernel) rfl
theorem tw_sel_X0_loseByLeaving : (Jvm.Cond.selects "FleetSettings$Change" ({ cls := "FleetSettings$Change", name := "loseByLeaving", desc := "(II)Z" } : Jvm.MethodName) ({ cls := "FleetSettings$Change", name := "loseByLeaving", desc := "(II)Z" } : Jvm.MethodName)) ∈ Tw := Tw_of 747 (by decide +kernel) rfl
theorem tw_code_X0_loseByLeaving : (Jvm.Cond.code ({ cls := "FleetSettings$Change", name := "loseByLeaving", desc := "(II)Z" } : Jvm.MethodName) prog_3_method_6_code (4 : Nat) (Option.some Jvm.ClassFile.FieldType.boolean)) ∈ Tw := Tw_of 748 (by decide +kernel) rfl
theorem tw_ml_X0_57 : (Jvm.Cond.methodLink "FleetSettings$Change" (57 : Nat) ({ cls := "FleetSettings$Change", name := "countGood", desc := "()I" } : Jvm.MethodName)) ∈ Tw := Tw_of 749 (by decide +kernel) rfl
theorem tw_ml_L_24 : (Jvm.Cond.methodLink "FleetSettingsLaw" (24 : Nat) ({ cls := "FleetSettings", name := "work", desc := "(II)I" } : Jvm.MethodName)) ∈ Tw := Tw_of 750 (by decide +kernel) rfl
theorem tw_im_X5_work : (Jvm.Cond.instanceMethod ({ cls := "FleetSettings", name := "work", desc := "(II)I" } : Jvm.MethodName)) ∈ Tw := Tw_of 751 (by decide +kernel) rfl
theorem tw_sel_X5_work : (Jvm.Cond.selects "FleetSettings" ({ cls := "FleetSettings", name := "work", desc := "(II)I" } : Jvm.MethodName) ({ cls := "FleetSettings", name := "work", desc := "(II)I" } : Jvm.MethodName)) ∈ Tw := Tw_of 752 (by decide +kernel) rfl
theorem tw_code_X5_work : (Jvm.Cond.code ({ cls := "FleetSettings", name := "work", desc := "(II)I" } : Jvm.MethodName) prog_1_method_10_code (4 : Nat) (Option.some Jvm.ClassFile.FieldType.int)) ∈ Tw := Tw_of 753 (by decide +kernel) rfl
theorem tw_ml_L_27 : (Jvm.Cond.methodLink "FleetSettingsLaw" (27 : Nat) ({ cls := "FleetSettings", name := "moveMachine", desc := "(II)I" } : Jvm.MethodName)) ∈ Tw := Tw_of 755 (by decide +kernel) rfl
theorem tw_im_X5_moveMachine : (Jvm.Cond.instanceMethod ({ cls := "FleetSettings", name := "moveMachine", desc := "(II)I" } : Jvm.MethodName)) ∈ Tw := Tw_of 756 (by decide +kernel) rfl
theorem tw_sel_X5_moveMachine : (Jvm.Cond.selects "FleetSettings" ({ cls := "FleetSettings", name := "moveMachine", desc := "(II)I" } : Jvm.MethodName) ({ cls := "FleetSettings", name := "moveMachine", desc := "(II)I" } : Jvm.MethodName)) ∈ Tw := Tw_of 757 (by decide +kernel) rfl
theorem tw_code_X5_moveMachine : (Jvm.Cond.code ({ cls := "FleetSettings", name := "moveMachine", desc := "(II)I" } : Jvm.MethodName) prog_1_method_9_code (5 : Nat) (Option.some Jvm.ClassFile.FieldType.int)) ∈ Tw := Tw_of 758 (by decide +kernel) rfl
theorem tw_ml_L_190 : (Jvm.Cond.methodLink "FleetSettingsLaw" (190 : Nat) ({ cls := "FleetSettingsLaw", name := "sets", desc := "(LFleetSettings;I[I[I)Z" } : Jvm.MethodName)) ∈ Tw := Tw_of 760 (by decide +kernel) rfl
theorem tw_st_L_sets : (Jvm.Cond.static ({ cls := "FleetSettingsLaw", name := "sets", desc := "(LFleetSettings;I[I[I)Z" } : Jvm.MethodName)) ∈ Tw := Tw_of 761 (by decide +kernel) rfl
theorem tw_code_L_sets : (Jvm.Cond.code ({ cls := "FleetSettingsLaw", name := "sets", desc := "(LFleetSettings;I[I[I)Z" } : Jvm.MethodName) method_24_code (9 : Nat) (Option.some Jvm.ClassFile.FieldType.boolean)) ∈ Tw := Tw_of 762 (by decide +kernel) rfl
theorem tw_ml_L_143 : (Jvm.Cond.methodLink "FleetSettingsLaw" (143 : Nat) ({ cls := "FleetSettings", name := "exclude", desc := "(IIZ)Z" } : Jvm.MethodName)) ∈ Tw := Tw_of 763 (by decide +kernel) rfl
theorem tw_im_X5_exclude : (Jvm.Cond.instanceMethod ({ cls := "FleetSettings", name := "exclude", desc := "(IIZ)Z" } : Jvm.MethodName)) ∈ Tw := Tw_of 764 (by decide +kernel) rfl
theorem tw_sel_X5_exclude : (Jvm.Cond.selects "FleetSettings" ({ cls := "FleetSettings", name := "exclude", desc := "(IIZ)Z" } : Jvm.MethodName) ({ cls := "FleetSettings", name := "exclude", desc := "(IIZ)Z" } : Jvm.MethodName)) ∈ Tw := Tw_of 765 (by decide +kernel) rfl
theorem tw_code_X5_exclude : (Jvm.Cond.code ({ cls := "FleetSettings", name := "exclude", desc := "(IIZ)Z" } : Jvm.MethodName) prog_1_method_17_code (5 : Nat) (Option.some Jvm.ClassFile.FieldType.boolean)) ∈ Tw := Tw_of 766 (by decide +kernel) rfl
theorem tw_ml_X5_212 : (Jvm.Cond.methodLink "FleetSettings" (212 : Nat) ({ cls := "FleetSettings", name := "with", desc := "(IIZ)I" } : Jvm.MethodName)) ∈ Tw := Tw_of 768 (by decide +kernel) rfl
theorem tw_ml_L_147 : (Jvm.Cond.methodLink "FleetSettingsLaw" (147 : Nat) ({ cls := "FleetSettings", name := "setDuty", desc := "(II)I" } : Jvm.MethodName)) ∈ Tw := Tw_of 769 (by decide +kernel) rfl
theorem tw_im_X5_setDuty : (Jvm.Cond.instanceMethod ({ cls := "FleetSettings", name := "setDuty", desc := "(II)I" } : Jvm.MethodName)) ∈ Tw := Tw_of 770 (by decide +kernel) rfl
theorem tw_sel_X5_setDuty : (Jvm.Cond.selects "FleetSettings" ({ cls := "FleetSettings", name := "setDuty", desc := "(II)I" } : Jvm.MethodName) ({ cls := "FleetSettings", name := "setDuty", desc := "(II)I" } : Jvm.MethodName)) ∈ Tw := Tw_of 771 (by decide +kernel) rfl
theorem tw_code_X5_setDuty : (Jvm.Cond.code ({ cls := "FleetSettings", name := "setDuty", desc := "(II)I" } : Jvm.MethodName) prog_1_method_2_code (4 : Nat) (Option.some Jvm.ClassFile.FieldType.int)) ∈ Tw := Tw_of 772 (by decide +kernel) rfl
theorem tw_ml_L_150 : (Jvm.Cond.methodLink "FleetSettingsLaw" (150 : Nat) ({ cls := "FleetSettings", name := "setPace", desc := "(I)I" } : Jvm.MethodName)) ∈ Tw := Tw_of 774 (by decide +kernel) rfl
theorem tw_im_X5_setPace : (Jvm.Cond.instanceMethod ({ cls := "FleetSettings", name := "setPace", desc := "(I)I" } : Jvm.MethodName)) ∈ Tw := Tw_of 775 (by decide +kernel) rfl
theorem tw_sel_X5_setPace : (Jvm.Cond.selects "FleetSettings" ({ cls := "FleetSettings", name := "setPace", desc := "(I)I" } : Jvm.MethodName) ({ cls := "FleetSettings", name := "setPace", desc := "(I)I" } : Jvm.MethodName)) ∈ Tw := Tw_of 776 (by decide +kernel) rfl
theorem tw_code_X5_setPace : (Jvm.Cond.code ({ cls := "FleetSettings", name := "setPace", desc := "(I)I" } : Jvm.MethodName) prog_1_method_11_code (3 : Nat) (Option.some Jvm.ClassFile.FieldType.int)) ∈ Tw := Tw_of 777 (by decide +kernel) rfl
theorem tw_ml_L_194 : (Jvm.Cond.methodLink "FleetSettingsLaw" (194 : Nat) ({ cls := "FleetSettingsLaw", name := "machines", desc := "(LFleetSettings;II[I[I[I[I)Z" } : Jvm.MethodName)) ∈ Tw := Tw_of 779 (by decide +kernel) rfl
theorem tw_st_L_machines : (Jvm.Cond.static ({ cls := "FleetSettingsLaw", name := "machines", desc := "(LFleetSettings;II[I[I[I[I)Z" } : Jvm.MethodName)) ∈ Tw := Tw_of 780 (by decide +kernel) rfl
theorem tw_code_L_machines : (Jvm.Cond.code ({ cls := "FleetSettingsLaw", name := "machines", desc := "(LFleetSettings;II[I[I[I[I)Z" } : Jvm.MethodName) method_25_code (10 : Nat) (Option.some Jvm.ClassFile.FieldType.boolean)) ∈ Tw := Tw_of 781 (by decide +kernel) rfl
theorem tw_ml_L_153 : (Jvm.Cond.methodLink "FleetSettingsLaw" (153 : Nat) ({ cls := "FleetSettingsLaw", name := "moves", desc := "(II[I[I[I)I" } : Jvm.MethodName)) ∈ Tw := Tw_of 782 (by decide +kernel) rfl
theorem tw_st_L_moves : (Jvm.Cond.static ({ cls := "FleetSettingsLaw", name := "moves", desc := "(II[I[I[I)I" } : Jvm.MethodName)) ∈ Tw := Tw_of 783 (by decide +kernel) rfl
theorem tw_code_L_moves : (Jvm.Cond.code ({ cls := "FleetSettingsLaw", name := "moves", desc := "(II[I[I[I)I" } : Jvm.MethodName) method_22_code (8 : Nat) (Option.some Jvm.ClassFile.FieldType.int)) ∈ Tw := Tw_of 784 (by decide +kernel) rfl
theorem tw_ml_L_186 : (Jvm.Cond.methodLink "FleetSettingsLaw" (186 : Nat) ({ cls := "FleetSettingsLaw", name := "persons", desc := "(LFleetSettings;II[I[I[I[I[I[I)Z" } : Jvm.MethodName)) ∈ Tw := Tw_of 785 (by decide +kernel) rfl
theorem tw_st_L_persons : (Jvm.Cond.static ({ cls := "FleetSettingsLaw", name := "persons", desc := "(LFleetSettings;II[I[I[I[I[I[I)Z" } : Jvm.MethodName)) ∈ Tw := Tw_of 786 (by decide +kernel) rfl
theorem tw_code_L_persons : (Jvm.Cond.code ({ cls := "FleetSettingsLaw", name := "persons", desc := "(LFleetSettings;II[I[I[I[I[I[I)Z" } : Jvm.MethodName) method_26_code (12 : Nat) (Option.some Jvm.ClassFile.FieldType.boolean)) ∈ Tw := Tw_of 787 (by decide +kernel) rfl
theorem tw_ml_L_157 : (Jvm.Cond.methodLink "FleetSettingsLaw" (157 : Nat) ({ cls := "FleetSettingsLaw", name := "leaves", desc := "(IZ[I[I[I[I[I[I)I" } : Jvm.MethodName)) ∈ Tw := Tw_of 788 (by decide +kernel) rfl
theorem tw_st_L_leaves : (Jvm.Cond.static ({ cls := "FleetSettingsLaw", name := "leaves", desc := "(IZ[I[I[I[I[I[I)I" } : Jvm.MethodName)) ∈ Tw := Tw_of 789 (by decide +kernel) rfl
theorem tw_code_L_leaves : (Jvm.Cond.code ({ cls := "FleetSettingsLaw", name := "leaves", desc := "(IZ[I[I[I[I[I[I)I" } : Jvm.MethodName) method_19_code (12 : Nat) (Option.some Jvm.ClassFile.FieldType.int)) ∈ Tw := Tw_of 790 (by decide +kernel) rfl
theorem tw_ml_L_161 : (Jvm.Cond.methodLink "FleetSettingsLaw" (161 : Nat) ({ cls := "FleetSettingsLaw", name := "comes", desc := "(LFleetSettings;I)I" } : Jvm.MethodName)) ∈ Tw := Tw_of 791 (by decide +kernel) rfl
theorem tw_st_L_comes : (Jvm.Cond.static ({ cls := "FleetSettingsLaw", name := "comes", desc := "(LFleetSettings;I)I" } : Jvm.MethodName)) ∈ Tw := Tw_of 792 (by decide +kernel) rfl
theorem tw_code_L_comes : (Jvm.Cond.codeWith ({ cls := "FleetSettingsLaw", name := "comes", desc := "(LFleetSettings;I)I" } : Jvm.MethodName) method_5_code (3 : Nat) (Option.some Jvm.ClassFile.FieldType.int) [((0 : Nat), (6 : Nat), (7 : Nat), (30 : Nat))]) ∈ Tw := Tw_of 793 (by decide +kernel) rfl
theorem tw_ml_L_32 : (Jvm.Cond.methodLink "FleetSettingsLaw" (32 : Nat) ({ cls := "FleetSettings", name := "comeBack", desc := "(I)V" } : Jvm.MethodName)) ∈ Tw := Tw_of 794 (by decide +kernel) rfl
theorem tw_im_X5_comeBack : (Jvm.Cond.instanceMethod ({ cls := "FleetSettings", name := "comeBack", desc := "(I)V" } : Jvm.MethodName)) ∈ Tw := Tw_of 795 (by decide +kernel) rfl
theorem tw_sel_X5_comeBack : (Jvm.Cond.selects "FleetSettings" ({ cls := "FleetSettings", name := "comeBack", desc := "(I)V" } : Jvm.MethodName) ({ cls := "FleetSettings", name := "comeBack", desc := "(I)V" } : Jvm.MethodName)) ∈ Tw := Tw_of 796 (by decide +kernel) rfl
theorem tw_code_X5_comeBack : (Jvm.Cond.code ({ cls := "FleetSettings", name := "comeBack", desc := "(I)V" } : Jvm.MethodName) prog_1_method_4_code (3 : Nat) (Option.none : Option Jvm.ClassFile.FieldType)) ∈ Tw := Tw_of 797 (by decide +kernel) rfl
theorem tw_ml_L_165 : (Jvm.Cond.methodLink "FleetSettingsLaw" (165 : Nat) ({ cls := "FleetSettingsLaw", name := "withdraws", desc := "(LFleetSettings;I)I" } : Jvm.MethodName)) ∈ Tw := Tw_of 799 (by decide +kernel) rfl
theorem tw_st_L_withdraws : (Jvm.Cond.static ({ cls := "FleetSettingsLaw", name := "withdraws", desc := "(LFleetSettings;I)I" } : Jvm.MethodName)) ∈ Tw := Tw_of 800 (by decide +kernel) rfl
theorem tw_code_L_withdraws : (Jvm.Cond.codeWith ({ cls := "FleetSettingsLaw", name := "withdraws", desc := "(LFleetSettings;I)I" } : Jvm.MethodName) method_6_code (3 : Nat) (Option.some Jvm.ClassFile.FieldType.int) [((0 : Nat), (6 : Nat), (7 : Nat), (30 : Nat))]) ∈ Tw := Tw_of 801 (by decide +kernel) rfl
theorem tw_ml_L_36 : (Jvm.Cond.methodLink "FleetSettingsLaw" (36 : Nat) ({ cls := "FleetSettings", name := "withdraw", desc := "(I)V" } : Jvm.MethodName)) ∈ Tw := Tw_of 802 (by decide +kernel) rfl
theorem tw_im_X5_withdraw : (Jvm.Cond.instanceMethod ({ cls := "FleetSettings", name := "withdraw", desc := "(I)V" } : Jvm.MethodName)) ∈ Tw := Tw_of 803 (by decide +kernel) rfl
theorem tw_sel_X5_withdraw : (Jvm.Cond.selects "FleetSettings" ({ cls := "FleetSettings", name := "withdraw", desc := "(I)V" } : Jvm.MethodName) ({ cls := "FleetSettings", name := "withdraw", desc := "(I)V" } : Jvm.MethodName)) ∈ Tw := Tw_of 804 (by decide +kernel) rfl
theorem tw_code_X5_withdraw : (Jvm.Cond.code ({ cls := "FleetSettings", name := "withdraw", desc := "(I)V" } : Jvm.MethodName) prog_1_method_16_code (3 : Nat) (Option.none : Option Jvm.ClassFile.FieldType)) ∈ Tw := Tw_of 805 (by decide +kernel) rfl
theorem tw_ml_L_168 : (Jvm.Cond.methodLink "FleetSettingsLaw" (168 : Nat) ({ cls := "FleetSettingsLaw", name := "approves", desc := "(II[I[I[I[I)I" } : Jvm.MethodName)) ∈ Tw := Tw_of 807 (by decide +kernel) rfl
theorem tw_st_L_approves : (Jvm.Cond.static ({ cls := "FleetSettingsLaw", name := "approves", desc := "(II[I[I[I[I)I" } : Jvm.MethodName)) ∈ Tw := Tw_of 808 (by decide +kernel) rfl
theorem tw_code_L_approves : (Jvm.Cond.code ({ cls := "FleetSettingsLaw", name := "approves", desc := "(II[I[I[I[I)I" } : Jvm.MethodName) method_18_code (7 : Nat) (Option.some Jvm.ClassFile.FieldType.int)) ∈ Tw := Tw_of 809 (by decide +kernel) rfl
theorem tw_sel_X5_stepMachines : Cond.selects RX5 yX5_stepMachines yX5_stepMachines ∈ Tw := Tw_of 1 (by decide +kernel) rfl
theorem tw_sel_X5_nearestLayerNotHeld : Cond.selects RX5 yX5_nearestLayerNotHeld yX5_nearestLayerNotHeld ∈ Tw := Tw_of 2 (by decide +kernel) rfl
theorem tw_sel_X9_isCell : Cond.selects RX9 yX9_isCell yX9_isCell ∈ Tw := Tw_of 3 (by decide +kernel) rfl
theorem tw_sel_X5_isTakenNotHeld : Cond.selects RX5 yX5_isTakenNotHeld yX5_isTakenNotHeld ∈ Tw := Tw_of 4 (by decide +kernel) rfl
theorem tw_sel_X5_isChange : Cond.selects RX5 yX5_isChange yX5_isChange ∈ Tw := Tw_of 5 (by decide +kernel) rfl
theorem tw_sel_X5_goBack : Cond.selects RX5 yX5_goBack yX5_goBack ∈ Tw := Tw_of 6 (by decide +kernel) rfl
theorem tw_sel_X5_takeFarthestLayer : Cond.selects RX5 yX5_takeFarthestLayer yX5_takeFarthestLayer ∈ Tw := Tw_of 7 (by decide +kernel) rfl
theorem tw_sel_X5_isBehindIn : Cond.selects RX5 yX5_isBehindIn yX5_isBehindIn ∈ Tw := Tw_of 8 (by decide +kernel) rfl
theorem tw_sel_X5_takeLayer : Cond.selects RX5 yX5_takeLayer yX5_takeLayer ∈ Tw := Tw_of 9 (by decide +kernel) rfl
theorem tw_sel_X5_isAnyBusy : Cond.selects RX5 yX5_isAnyBusy yX5_isAnyBusy ∈ Tw := Tw_of 10 (by decide +kernel) rfl
theorem tw_sel_X5_requireGroup : Cond.selects RX5 yX5_requireGroup yX5_requireGroup ∈ Tw := Tw_of 11 (by decide +kernel) rfl
theorem tw_sel_X2_addLayer : Cond.selects RX2 yX2_addLayer yX2_addLayer ∈ Tw := Tw_of 12 (by decide +kernel) rfl
theorem tw_sel_X2_dropOtherGroups : Cond.selects RX2 yX2_dropOtherGroups yX2_dropOtherGroups ∈ Tw := Tw_of 13 (by decide +kernel) rfl
theorem tw_sel_X2_isAmongLayers : Cond.selects RX2 yX2_isAmongLayers yX2_isAmongLayers ∈ Tw := Tw_of 14 (by decide +kernel) rfl
theorem tw_sel_X2_drop : Cond.selects RX2 yX2_drop yX2_drop ∈ Tw := Tw_of 15 (by decide +kernel) rfl
theorem tw_sel_X5_requireChange : Cond.selects RX5 yX5_requireChange yX5_requireChange ∈ Tw := Tw_of 16 (by decide +kernel) rfl
theorem tw_sel_X1_isRanked : Cond.selects RX1 yX1_isRanked yX1_isRanked ∈ Tw := Tw_of 17 (by decide +kernel) rfl
theorem tw_sel_X5_requirePlace : Cond.selects RX5 yX5_requirePlace yX5_requirePlace ∈ Tw := Tw_of 18 (by decide +kernel) rfl
theorem tw_sel_X5_slotOf : Cond.selects RX5 yX5_slotOf yX5_slotOf ∈ Tw := Tw_of 19 (by decide +kernel) rfl
theorem tw_sel_X5_whatIsToldBy : Cond.selects RX5 yX5_whatIsToldBy yX5_whatIsToldBy ∈ Tw := Tw_of 20 (by decide +kernel) rfl
theorem tw_sel_X5_requireMachine : Cond.selects RX5 yX5_requireMachine yX5_requireMachine ∈ Tw := Tw_of 21 (by decide +kernel) rfl
theorem tw_sel_X5_findOutcome : Cond.selects RX5 yX5_findOutcome yX5_findOutcome ∈ Tw := Tw_of 22 (by decide +kernel) rfl
theorem tw_sel_X5_decide : Cond.selects RX5 yX5_decide yX5_decide ∈ Tw := Tw_of 23 (by decide +kernel) rfl
theorem tw_sel_X3_yields : Cond.selects RX3 yX3_yields yX3_yields ∈ Tw := Tw_of 24 (by decide +kernel) rfl
theorem tw_sel_X5_findHeadsAnew : Cond.selects RX5 yX5_findHeadsAnew yX5_findHeadsAnew ∈ Tw := Tw_of 25 (by decide +kernel) rfl
theorem tw_sel_X0_countGoodAt : Cond.selects RX0 yX0_countGoodAt yX0_countGoodAt ∈ Tw := Tw_of 26 (by decide +kernel) rfl
theorem tw_sel_X0_isProposalVoided : Cond.selects RX0 yX0_isProposalVoided yX0_isProposalVoided ∈ Tw := Tw_of 27 (by decide +kernel) rfl
theorem tw_sel_X5_findRunning : Cond.selects RX5 yX5_findRunning yX5_findRunning ∈ Tw := Tw_of 28 (by decide +kernel) rfl
theorem tw_sel_X5_isOnDuty : Cond.selects RX5 yX5_isOnDuty yX5_isOnDuty ∈ Tw := Tw_of 29 (by decide +kernel) rfl
theorem tw_sel_X5_hold : Cond.selects RX5 yX5_hold yX5_hold ∈ Tw := Tw_of 30 (by decide +kernel) rfl
theorem tw_sel_X5_findHeads : Cond.selects RX5 yX5_findHeads yX5_findHeads ∈ Tw := Tw_of 31 (by decide +kernel) rfl
theorem tw_sel_X5_voidWhatIsNotOld : Cond.selects RX5 yX5_voidWhatIsNotOld yX5_voidWhatIsNotOld ∈ Tw := Tw_of 32 (by decide +kernel) rfl
theorem in_X0 : ∀ w ∈ wsX00, w ∈ Tw := Tw_all (by decide +kernel) (by decide +kernel)
theorem in_X1 : ∀ w ∈ wsX10, w ∈ Tw := Tw_all (by decide +kernel) (by decide +kernel)
theorem in_X2 : ∀ w ∈ wsX20, w ∈ Tw := Tw_all (by decide +kernel) (by decide +kernel)
theorem in_X3 : ∀ w ∈ wsX30, w ∈ Tw := Tw_all (by decide +kernel) (by decide +kernel)
theorem in_X4 : ∀ w ∈ wsX40, w ∈ Tw := Tw_all (by decide +kernel) (by decide +kernel)
theorem in_X5 : ∀ w ∈ wsX50, w ∈ Tw := Tw_all (by decide +kernel) (by decide +kernel)
theorem in_X6 : ∀ w ∈ wsX60, w ∈ Tw := Tw_all (by decide +kernel) (by decide +kernel)
theorem in_X9 : ∀ w ∈ wsX90, w ∈ Tw := Tw_all (by decide +kernel) (by decide +kernel)
theorem k_X9_15 : GoodIn Tw (va_wsS RX9 15 yJ7_fill_53178 (WS yJ7_fill_53178 cJ7_fill_53178 4 none)) := goodS tw_ml_X9_15 tw_st_J7_fill_53178 tw_ini_J7 (WS_all tw_code_J7_fill_53178)
theorem k_X1_22 : GoodIn Tw (va_wsS RX1 22 yJ7_fill_53178 (WS yJ7_fill_53178 cJ7_fill_53178 4 none)) := goodS tw_ml_X1_22 tw_st_J7_fill_53178 tw_ini_J7 (WS_all tw_code_J7_fill_53178)
theorem k_X5_61 : GoodIn Tw (va_wsS RX5 61 yJ7_fill_53178 (WS yJ7_fill_53178 cJ7_fill_53178 4 none)) := goodS tw_ml_X5_61 tw_st_J7_fill_53178 tw_ini_J7 (WS_all tw_code_J7_fill_53178)
theorem k_X0_22 : GoodIn Tw (va_wsS RX0 22 yJ7_fill_53178 (WS yJ7_fill_53178 cJ7_fill_53178 4 none)) := goodS tw_ml_X0_22 tw_st_J7_fill_53178 tw_ini_J7 (WS_all tw_code_J7_fill_53178)
theorem k_L_198 : GoodIn Tw (wsV RL 198 RX5 yX5_pass (WS yX5_pass cX5_pass 5 (some .int))) := goodV tw_ml_L_198 tw_im_X5_pass tw_sel_X5_pass tw_ini_X5 (WS_all tw_code_X5_pass)
theorem k_X5_114 : GoodIn Tw (wsV RX5 114 RX5 yX5_stepMachines (WS yX5_stepMachines cX5_stepMachines 6 (some .int))) := goodV tw_ml_X5_114 tw_im_X5_stepMachines tw_sel_X5_stepMachines tw_ini_X5 (WS_all tw_code_X5_stepMachines)
theorem k_X5_147 : GoodIn Tw (wsV RX5 147 RX5 yX5_nearestLayerNotHeld (WS yX5_nearestLayerNotHeld cX5_nearestLayerNotHeld 4 (some .int))) := goodV tw_ml_X5_147 tw_im_X5_nearestLayerNotHeld tw_sel_X5_nearestLayerNotHeld tw_ini_X5 (WS_all tw_code_X5_nearestLayerNotHeld)
theorem k_X5_242 : GoodIn Tw (wsV RX5 242 RX2 yX2_cellIn (WS yX2_cellIn cX2_cellIn 3 (some .int))) := goodV tw_ml_X5_242 tw_im_X2_cellIn tw_sel_X2_cellIn tw_ini_X2 (WS_all tw_code_X2_cellIn)
theorem k_X2_39 : GoodIn Tw (wsV RX2 39 RX2 yX2_hasLayer (WS yX2_hasLayer cX2_hasLayer 2 (some .boolean))) := goodV tw_ml_X2_39 tw_im_X2_hasLayer tw_sel_X2_hasLayer tw_ini_X2 (WS_all tw_code_X2_hasLayer)
theorem k_X5_223 : GoodIn Tw (wsV RX5 223 RX9 yX9_get (WS yX9_get cX9_get 2 (some .int))) := goodV tw_ml_X5_223 tw_im_X9_get tw_sel_X9_get tw_ini_X9 (WS_all tw_code_X9_get)
theorem k_X9_21 : GoodIn Tw (wsV RX9 21 RX9 yX9_isCell (WS yX9_isCell cX9_isCell 2 (some .boolean))) := goodV tw_ml_X9_21 tw_im_X9_isCell tw_sel_X9_isCell tw_ini_X9 (WS_all tw_code_X9_isCell)
theorem k_X5_325 : GoodIn Tw (wsV RX5 325 RX5 yX5_isTakenNotHeld (WS yX5_isTakenNotHeld cX5_isTakenNotHeld 2 (some .boolean))) := goodV tw_ml_X5_325 tw_im_X5_isTakenNotHeld tw_sel_X5_isTakenNotHeld tw_ini_X5 (WS_all tw_code_X5_isTakenNotHeld)
theorem k_X5_285 : GoodIn Tw (wsV RX5 285 RX5 yX5_isChange (WS yX5_isChange cX5_isChange 2 (some .boolean))) := goodV tw_ml_X5_285 tw_im_X5_isChange tw_sel_X5_isChange tw_ini_X5 (WS_all tw_code_X5_isChange)
theorem k_X5_317 : GoodIn Tw (wsV RX5 317 RX5 yX5_goBack (WS yX5_goBack cX5_goBack 5 none)) := goodV tw_ml_X5_317 tw_im_X5_goBack tw_sel_X5_goBack tw_ini_X5 (WS_all tw_code_X5_goBack)
theorem k_X5_328 : GoodIn Tw (wsV RX5 328 RX9 yX9_set (WS yX9_set cX9_set 3 none)) := goodV tw_ml_X5_328 tw_im_X9_set tw_sel_X9_set tw_ini_X9 (WS_all tw_code_X9_set)
theorem k_X5_321 : GoodIn Tw (wsV RX5 321 RX5 yX5_takeFarthestLayer (WS yX5_takeFarthestLayer cX5_takeFarthestLayer 3 (some .boolean))) := goodV tw_ml_X5_321 tw_im_X5_takeFarthestLayer tw_sel_X5_takeFarthestLayer tw_ini_X5 (WS_all tw_code_X5_takeFarthestLayer)
theorem k_X5_265 : GoodIn Tw (wsV RX5 265 RX5 yX5_isBehindIn (WS yX5_isBehindIn cX5_isBehindIn 5 (some .boolean))) := goodV tw_ml_X5_265 tw_im_X5_isBehindIn tw_sel_X5_isBehindIn tw_ini_X5 (WS_all tw_code_X5_isBehindIn)
theorem k_X5_331 : GoodIn Tw (wsV RX5 331 RX5 yX5_takeLayer (WS yX5_takeLayer cX5_takeLayer 5 none)) := goodV tw_ml_X5_331 tw_im_X5_takeLayer tw_sel_X5_takeLayer tw_ini_X5 (WS_all tw_code_X5_takeLayer)
theorem k_X5_118 : GoodIn Tw (wsV RX5 118 RX5 yX5_isAnyBusy (WS yX5_isAnyBusy cX5_isAnyBusy 2 (some .boolean))) := goodV tw_ml_X5_118 tw_im_X5_isAnyBusy tw_sel_X5_isAnyBusy tw_ini_X5 (WS_all tw_code_X5_isAnyBusy)
theorem k_L_179 : GoodIn Tw (wsV RL 179 RX5 yX5_addGroup (WS yX5_addGroup cX5_addGroup 3 (some .int))) := goodV tw_ml_L_179 tw_im_X5_addGroup tw_sel_X5_addGroup tw_ini_X5 (WS_all tw_code_X5_addGroup)
theorem k_X5_122 : GoodIn Tw (wsV RX5 122 RX5 yX5_requireGroup (WS yX5_requireGroup cX5_requireGroup 2 none)) := goodV tw_ml_X5_122 tw_im_X5_requireGroup tw_sel_X5_requireGroup tw_ini_X5 (WS_all tw_code_X5_requireGroup)
theorem k_L_176 : GoodIn Tw (wsV RL 176 RX5 yX5_addMachine (WS yX5_addMachine cX5_addMachine 3 (some .int))) := goodV tw_ml_L_176 tw_im_X5_addMachine tw_sel_X5_addMachine tw_ini_X5 (WS_all tw_code_X5_addMachine)
theorem k_X5_132 : GoodIn Tw (wsV RX5 132 RX2 yX2_enterGroup (WS yX2_enterGroup cX2_enterGroup 5 none)) := goodV tw_ml_X5_132 tw_im_X2_enterGroup tw_sel_X2_enterGroup tw_ini_X2 (WS_all tw_code_X2_enterGroup)
theorem k_X2_32 : GoodIn Tw (wsV RX2 32 RX2 yX2_addLayer (WS yX2_addLayer cX2_addLayer 2 none)) := goodV tw_ml_X2_32 tw_im_X2_addLayer tw_sel_X2_addLayer tw_ini_X2 (WS_all tw_code_X2_addLayer)
theorem k_X2_36 : GoodIn Tw (wsV RX2 36 RX2 yX2_dropOtherGroups (WS yX2_dropOtherGroups cX2_dropOtherGroups 2 none)) := goodV tw_ml_X2_36 tw_im_X2_dropOtherGroups tw_sel_X2_dropOtherGroups tw_ini_X2 (WS_all tw_code_X2_dropOtherGroups)
theorem k_X2_47 : GoodIn Tw (wsV RX2 47 RX2 yX2_isAmongLayers (WS yX2_isAmongLayers cX2_isAmongLayers 3 (some .boolean))) := goodV tw_ml_X2_47 tw_im_X2_isAmongLayers tw_sel_X2_isAmongLayers tw_ini_X2 (WS_all tw_code_X2_isAmongLayers)
theorem k_X2_50 : GoodIn Tw (wsV RX2 50 RX2 yX2_drop (WS yX2_drop cX2_drop 3 none)) := goodV tw_ml_X2_50 tw_im_X2_drop tw_sel_X2_drop tw_ini_X2 (WS_all tw_code_X2_drop)
theorem k_X2_53 : GoodIn Tw (wsV RX2 53 RX9 yX9_set (WS yX9_set cX9_set 3 none)) := goodV tw_ml_X2_53 tw_im_X9_set tw_sel_X9_set tw_ini_X9 (WS_all tw_code_X9_set)
theorem k_L_172 : GoodIn Tw (va_wsS RL 172 yL_cell (WS yL_cell cL_cell 2 (some .int))) := goodS tw_ml_L_172 tw_st_L_cell tw_ini_L (WS_all tw_code_L_cell)
theorem k_L_125 : GoodIn Tw (va_wsS RL 125 yL_low (WS yL_low cL_low 2 (some .int))) := goodS tw_ml_L_125 tw_st_L_low tw_ini_L (WS_all tw_code_L_low)
theorem k_L_204 : GoodIn Tw (va_wsS RL 204 yL_isSo (WS yL_isSo cL_isSo 14 (some .boolean))) := goodS tw_ml_L_204 tw_st_L_isSo tw_ini_L (WS_all tw_code_L_isSo)
theorem k_L_103 : GoodIn Tw (wsV RL 103 RX5 yX5_day (WS yX5_day cX5_day 1 (some .int))) := goodV tw_ml_L_103 tw_im_X5_day tw_sel_X5_day tw_ini_X5 (WS_all tw_code_X5_day)
theorem k_L_107 : GoodIn Tw (wsV RL 107 RX5 yX5_changes (WS yX5_changes cX5_changes 1 (some .int))) := goodV tw_ml_L_107 tw_im_X5_changes tw_sel_X5_changes tw_ini_X5 (WS_all tw_code_X5_changes)
theorem k_L_110 : GoodIn Tw (wsV RL 110 RX5 yX5_state (WS yX5_state cX5_state 2 (some .int))) := goodV tw_ml_L_110 tw_im_X5_state tw_sel_X5_state tw_ini_X5 (WS_all tw_code_X5_state)
theorem k_X5_179 : GoodIn Tw (wsV RX5 179 RX5 yX5_requireChange (WS yX5_requireChange cX5_requireChange 2 none)) := goodV tw_ml_X5_179 tw_im_X5_requireChange tw_sel_X5_requireChange tw_ini_X5 (WS_all tw_code_X5_requireChange)
theorem k_L_113 : GoodIn Tw (wsV RL 113 RX5 yX5_rank (WS yX5_rank cX5_rank 2 (some .int))) := goodV tw_ml_L_113 tw_im_X5_rank tw_sel_X5_rank tw_ini_X5 (WS_all tw_code_X5_rank)
theorem k_X5_216 : GoodIn Tw (wsV RX5 216 RX1 yX1_rankOf (WS yX1_rankOf cX1_rankOf 2 (some .int))) := goodV tw_ml_X5_216 tw_im_X1_rankOf tw_sel_X1_rankOf tw_ini_X1 (WS_all tw_code_X1_rankOf)
theorem k_X1_28 : GoodIn Tw (wsV RX1 28 RX1 yX1_isRanked (WS yX1_isRanked cX1_isRanked 2 (some .boolean))) := goodV tw_ml_X1_28 tw_im_X1_isRanked tw_sel_X1_isRanked tw_ini_X1 (WS_all tw_code_X1_isRanked)
theorem k_L_116 : GoodIn Tw (wsV RL 116 RX5 yX5_approvals (WS yX5_approvals cX5_approvals 2 (some .int))) := goodV tw_ml_L_116 tw_im_X5_approvals tw_sel_X5_approvals tw_ini_X5 (WS_all tw_code_X5_approvals)
theorem k_X5_198 : GoodIn Tw (wsV RX5 198 RX0 yX0_countGood (WS yX0_countGood cX0_countGood 1 (some .int))) := goodV tw_ml_X5_198 tw_im_X0_countGood tw_sel_X0_countGood tw_ini_X0 (WS_all tw_code_X0_countGood)
theorem k_X0_51 : GoodIn Tw (va_wsS RX0 51 yJ6_bitCount_0f7a4 (WS yJ6_bitCount_0f7a4 cJ6_bitCount_0f7a4 1 (some .int))) := goodS tw_ml_X0_51 tw_st_J6_bitCount_0f7a4 tw_ini_J6 (WS_all tw_code_J6_bitCount_0f7a4)
theorem k_L_119 : GoodIn Tw (va_wsS RL 119 yL_good (WS yL_good cL_good 4 (some .int))) := goodS tw_ml_L_119 tw_st_L_good tw_ini_L (WS_all tw_code_L_good)
theorem k_L_122 : GoodIn Tw (wsV RL 122 RX5 yX5_spread (WS yX5_spread cX5_spread 5 (some .int))) := goodV tw_ml_L_122 tw_im_X5_spread tw_sel_X5_spread tw_ini_X5 (WS_all tw_code_X5_spread)
theorem k_L_45 : GoodIn Tw (va_wsS RL 45 yL_top (WS yL_top cL_top 6 (some .int))) := goodS tw_ml_L_45 tw_st_L_top tw_ini_L (WS_all tw_code_L_top)
theorem k_L_128 : GoodIn Tw (wsV RL 128 RX5 yX5_told (WS yX5_told cX5_told 4 (some .int))) := goodV tw_ml_L_128 tw_im_X5_told tw_sel_X5_told tw_ini_X5 (WS_all tw_code_X5_told)
theorem k_X5_155 : GoodIn Tw (wsV RX5 155 RX5 yX5_requirePlace (WS yX5_requirePlace cX5_requirePlace 2 none)) := goodV tw_ml_X5_155 tw_im_X5_requirePlace tw_sel_X5_requirePlace tw_ini_X5 (WS_all tw_code_X5_requirePlace)
theorem k_X5_168 : GoodIn Tw (wsV RX5 168 RX5 yX5_slotOf (WS yX5_slotOf cX5_slotOf 2 (some .int))) := goodV tw_ml_X5_168 tw_im_X5_slotOf tw_sel_X5_slotOf tw_ini_X5 (WS_all tw_code_X5_slotOf)
theorem k_X5_158 : GoodIn Tw (va_wsS RX5 158 yX5_requireKey (WS yX5_requireKey cX5_requireKey 1 none)) := goodS tw_ml_X5_158 tw_st_X5_requireKey tw_ini_X5 (WS_all tw_code_X5_requireKey)
theorem k_X5_171 : GoodIn Tw (va_wsS RX5 171 yX5_cellOf (WS yX5_cellOf cX5_cellOf 2 (some .int))) := goodS tw_ml_X5_171 tw_st_X5_cellOf tw_ini_X5 (WS_all tw_code_X5_cellOf)
theorem k_X5_228 : GoodIn Tw (wsV RX5 228 RX5 yX5_whatIsToldBy (WS yX5_whatIsToldBy cX5_whatIsToldBy 2 (some .int))) := goodV tw_ml_X5_228 tw_im_X5_whatIsToldBy tw_sel_X5_whatIsToldBy tw_ini_X5 (WS_all tw_code_X5_whatIsToldBy)
theorem k_L_131 : GoodIn Tw (va_wsS RL 131 yL_isMachine (WS yL_isMachine cL_isMachine 17 (some .boolean))) := goodS tw_ml_L_131 tw_st_L_isMachine tw_ini_L (WS_all tw_code_L_isMachine)
theorem k_L_61 : GoodIn Tw (va_wsS RL 61 yL_stopped (WS yL_stopped cL_stopped 5 (some .boolean))) := goodS tw_ml_L_61 tw_st_L_stopped tw_ini_L (WS_all tw_code_L_stopped)
theorem k_L_65 : GoodIn Tw (wsV RL 65 RX5 yX5_isStopped (WS yX5_isStopped cX5_isStopped 2 (some .boolean))) := goodV tw_ml_L_65 tw_im_X5_isStopped tw_sel_X5_isStopped tw_ini_X5 (WS_all tw_code_X5_isStopped)
theorem k_X5_136 : GoodIn Tw (wsV RX5 136 RX5 yX5_requireMachine (WS yX5_requireMachine cX5_requireMachine 2 none)) := goodV tw_ml_X5_136 tw_im_X5_requireMachine tw_sel_X5_requireMachine tw_ini_X5 (WS_all tw_code_X5_requireMachine)
theorem k_L_69 : GoodIn Tw (wsV RL 69 RX5 yX5_isBusy (WS yX5_isBusy cX5_isBusy 2 (some .boolean))) := goodV tw_ml_L_69 tw_im_X5_isBusy tw_sel_X5_isBusy tw_ini_X5 (WS_all tw_code_X5_isBusy)
theorem k_L_49 : GoodIn Tw (va_wsS RL 49 yL_layers (WS yL_layers cL_layers 3 (some .int))) := goodS tw_ml_L_49 tw_st_L_layers tw_ini_L (WS_all tw_code_L_layers)
theorem k_L_39 : GoodIn Tw (va_wsS RL 39 yL_slot (WS yL_slot cL_slot 5 (some .int))) := goodS tw_ml_L_39 tw_st_L_slot tw_ini_L (WS_all tw_code_L_slot)
theorem k_L_72 : GoodIn Tw (wsV RL 72 RX5 yX5_taken (WS yX5_taken cX5_taken 5 (some .int))) := goodV tw_ml_L_72 tw_im_X5_taken tw_sel_X5_taken tw_ini_X5 (WS_all tw_code_X5_taken)
theorem k_X5_231 : GoodIn Tw (wsV RX5 231 RX2 yX2_hasLayer (WS yX2_hasLayer cX2_hasLayer 2 (some .boolean))) := goodV tw_ml_X5_231 tw_im_X2_hasLayer tw_sel_X2_hasLayer tw_ini_X2 (WS_all tw_code_X2_hasLayer)
theorem k_L_76 : GoodIn Tw (va_wsS RL 76 yL_lags (WS yL_lags cL_lags 9 (some .boolean))) := goodS tw_ml_L_76 tw_st_L_lags tw_ini_L (WS_all tw_code_L_lags)
theorem k_L_53 : GoodIn Tw (va_wsS RL 53 yL_counts (WS yL_counts cL_counts 5 (some .int))) := goodS tw_ml_L_53 tw_st_L_counts tw_ini_L (WS_all tw_code_L_counts)
theorem k_L_57 : GoodIn Tw (va_wsS RL 57 yL_decides (WS yL_decides cL_decides 12 (some .int))) := goodS tw_ml_L_57 tw_st_L_decides tw_ini_L (WS_all tw_code_L_decides)
theorem k_L_80 : GoodIn Tw (va_wsS RL 80 yL_hides (WS yL_hides cL_hides 13 (some .boolean))) := goodS tw_ml_L_80 tw_st_L_hides tw_ini_L (WS_all tw_code_L_hides)
theorem k_L_84 : GoodIn Tw (wsV RL 84 RX5 yX5_due (WS yX5_due cX5_due 3 (some .int))) := goodV tw_ml_L_84 tw_im_X5_due tw_sel_X5_due tw_ini_X5 (WS_all tw_code_X5_due)
theorem k_X5_255 : GoodIn Tw (wsV RX5 255 RX5 yX5_findOutcome (WS yX5_findOutcome cX5_findOutcome 5 none)) := goodV tw_ml_X5_255 tw_im_X5_findOutcome tw_sel_X5_findOutcome tw_ini_X5 (WS_all tw_code_X5_findOutcome)
theorem k_X5_334 : GoodIn Tw (wsV RX5 334 RX3 yX3_forget (WS yX3_forget cX3_forget 1 none)) := goodV tw_ml_X5_334 tw_im_X3_forget tw_sel_X3_forget tw_ini_X3 (WS_all tw_code_X3_forget)
theorem k_X3_21 : GoodIn Tw (va_wsS RX3 21 yJ7_fill_53178 (WS yJ7_fill_53178 cJ7_fill_53178 4 none)) := goodS tw_ml_X3_21 tw_st_J7_fill_53178 tw_ini_J7 (WS_all tw_code_J7_fill_53178)
theorem k_X5_337 : GoodIn Tw (wsV RX5 337 RX5 yX5_decide (WS yX5_decide cX5_decide 8 none)) := goodV tw_ml_X5_337 tw_im_X5_decide tw_sel_X5_decide tw_ini_X5 (WS_all tw_code_X5_decide)
theorem k_X5_345 : GoodIn Tw (wsV RX5 345 RX3 yX3_set (WS yX3_set cX3_set 5 none)) := goodV tw_ml_X5_345 tw_im_X3_set tw_sel_X3_set tw_ini_X3 (WS_all tw_code_X3_set)
theorem k_X5_341 : GoodIn Tw (wsV RX5 341 RX3 yX3_hideExcluded (WS yX3_hideExcluded cX3_hideExcluded 4 none)) := goodV tw_ml_X5_341 tw_im_X3_hideExcluded tw_sel_X3_hideExcluded tw_ini_X3 (WS_all tw_code_X3_hideExcluded)
theorem k_X3_35 : GoodIn Tw (wsV RX3 35 RX3 yX3_yields (WS yX3_yields cX3_yields 3 (some .boolean))) := goodV tw_ml_X3_35 tw_im_X3_yields tw_sel_X3_yields tw_ini_X3 (WS_all tw_code_X3_yields)
theorem k_X5_249 : GoodIn Tw (wsV RX5 249 RX3 yX3_valueIfShown (WS yX3_valueIfShown cX3_valueIfShown 2 (some .int))) := goodV tw_ml_X5_249 tw_im_X3_valueIfShown tw_sel_X3_valueIfShown tw_ini_X3 (WS_all tw_code_X3_valueIfShown)
theorem k_L_87 : GoodIn Tw (wsV RL 87 RX5 yX5_dueAnew (WS yX5_dueAnew cX5_dueAnew 3 (some .int))) := goodV tw_ml_L_87 tw_im_X5_dueAnew tw_sel_X5_dueAnew tw_ini_X5 (WS_all tw_code_X5_dueAnew)
theorem k_X5_259 : GoodIn Tw (wsV RX5 259 RX5 yX5_findHeadsAnew (WS yX5_findHeadsAnew cX5_findHeadsAnew 2 none)) := goodV tw_ml_X5_259 tw_im_X5_findHeadsAnew tw_sel_X5_findHeadsAnew tw_ini_X5 (WS_all tw_code_X5_findHeadsAnew)
theorem k_X5_303 : GoodIn Tw (wsV RX5 303 RX9 yX9_clear (WS yX9_clear cX9_clear 1 none)) := goodV tw_ml_X5_303 tw_im_X9_clear tw_sel_X9_clear tw_ini_X9 (WS_all tw_code_X9_clear)
theorem k_X5_309 : GoodIn Tw (wsV RX5 309 RX0 yX0_firstHeldMoment (WS yX0_firstHeldMoment cX0_firstHeldMoment 6 (some .int))) := goodV tw_ml_X5_309 tw_im_X0_firstHeldMoment tw_sel_X0_firstHeldMoment tw_ini_X0 (WS_all tw_code_X0_firstHeldMoment)
theorem k_X0_71 : GoodIn Tw (wsV RX0 71 RX0 yX0_countGoodAt (WS yX0_countGoodAt cX0_countGoodAt 7 (some .int))) := goodV tw_ml_X0_71 tw_im_X0_countGoodAt tw_sel_X0_countGoodAt tw_ini_X0 (WS_all tw_code_X0_countGoodAt)
theorem k_X0_65 : GoodIn Tw (wsV RX0 65 RX4 yX4_hasVoided (WS yX4_hasVoided cX4_hasVoided 2 (some .boolean))) := goodV tw_ml_X0_65 tw_im_X4_hasVoided tw_sel_X4_hasVoided tw_ini_X4 (WS_all tw_code_X4_hasVoided)
theorem k_X5_293 : GoodIn Tw (wsV RX5 293 RX1 yX1_setRank (WS yX1_setRank cX1_setRank 3 none)) := goodV tw_ml_X5_293 tw_im_X1_setRank tw_sel_X1_setRank tw_ini_X1 (WS_all tw_code_X1_setRank)
theorem k_X5_313 : GoodIn Tw (wsV RX5 313 RX0 yX0_isHeldAnew (WS yX0_isHeldAnew cX0_isHeldAnew 4 (some .boolean))) := goodV tw_ml_X5_313 tw_im_X0_isHeldAnew tw_sel_X0_isHeldAnew tw_ini_X0 (WS_all tw_code_X0_isHeldAnew)
theorem k_X0_61 : GoodIn Tw (wsV RX0 61 RX0 yX0_isProposalVoided (WS yX0_isProposalVoided cX0_isProposalVoided 2 (some .boolean))) := goodV tw_ml_X0_61 tw_im_X0_isProposalVoided tw_sel_X0_isProposalVoided tw_ini_X0 (WS_all tw_code_X0_isProposalVoided)
theorem k_X5_306 : GoodIn Tw (wsV RX5 306 RX1 yX1_raise (WS yX1_raise cX1_raise 3 none)) := goodV tw_ml_X5_306 tw_im_X1_raise tw_sel_X1_raise tw_ini_X1 (WS_all tw_code_X1_raise)
theorem k_X1_32 : GoodIn Tw (wsV RX1 32 RX9 yX9_get (WS yX9_get cX9_get 2 (some .int))) := goodV tw_ml_X1_32 tw_im_X9_get tw_sel_X9_get tw_ini_X9 (WS_all tw_code_X9_get)
theorem k_X1_36 : GoodIn Tw (wsV RX1 36 RX1 yX1_rankOf (WS yX1_rankOf cX1_rankOf 2 (some .int))) := goodV tw_ml_X1_36 tw_im_X1_rankOf tw_sel_X1_rankOf tw_ini_X1 (WS_all tw_code_X1_rankOf)
theorem k_X1_39 : GoodIn Tw (wsV RX1 39 RX9 yX9_set (WS yX9_set cX9_set 3 none)) := goodV tw_ml_X1_39 tw_im_X9_set tw_sel_X9_set tw_ini_X9 (WS_all tw_code_X9_set)
theorem k_L_90 : GoodIn Tw (wsV RL 90 RX5 yX5_runs (WS yX5_runs cX5_runs 3 (some .int))) := goodV tw_ml_L_90 tw_im_X5_runs tw_sel_X5_runs tw_ini_X5 (WS_all tw_code_X5_runs)
theorem k_X5_245 : GoodIn Tw (wsV RX5 245 RX5 yX5_findRunning (WS yX5_findRunning cX5_findRunning 2 none)) := goodV tw_ml_X5_245 tw_im_X5_findRunning tw_sel_X5_findRunning tw_ini_X5 (WS_all tw_code_X5_findRunning)
theorem k_L_93 : GoodIn Tw (wsV RL 93 RX5 yX5_layerOf (WS yX5_layerOf cX5_layerOf 3 (some .int))) := goodV tw_ml_L_93 tw_im_X5_layerOf tw_sel_X5_layerOf tw_ini_X5 (WS_all tw_code_X5_layerOf)
theorem k_X5_252 : GoodIn Tw (wsV RX5 252 RX3 yX3_layerIfShown (WS yX3_layerIfShown cX3_layerIfShown 2 (some .int))) := goodV tw_ml_X5_252 tw_im_X3_layerIfShown tw_sel_X3_layerIfShown tw_ini_X3 (WS_all tw_code_X3_layerIfShown)
theorem k_X3_42 : GoodIn Tw (wsV RX3 42 RX3 yX3_valueIfShown (WS yX3_valueIfShown cX3_valueIfShown 2 (some .int))) := goodV tw_ml_X3_42 tw_im_X3_valueIfShown tw_sel_X3_valueIfShown tw_ini_X3 (WS_all tw_code_X3_valueIfShown)
theorem k_L_96 : GoodIn Tw (wsV RL 96 RX5 yX5_behind (WS yX5_behind cX5_behind 5 (some .int))) := goodV tw_ml_L_96 tw_im_X5_behind tw_sel_X5_behind tw_ini_X5 (WS_all tw_code_X5_behind)
theorem k_L_100 : GoodIn Tw (wsV RL 100 RX5 yX5_hidden (WS yX5_hidden cX5_hidden 2 (some .int))) := goodV tw_ml_L_100 tw_im_X5_hidden tw_sel_X5_hidden tw_ini_X5 (WS_all tw_code_X5_hidden)
theorem k_L_201 : GoodIn Tw (va_wsS RL 201 yL_pass (WS yL_pass cL_pass 10 (some .int))) := goodS tw_ml_L_201 tw_st_L_pass tw_ini_L (WS_all tw_code_L_pass)
theorem k_L_135 : GoodIn Tw (va_wsS RL 135 yL_steps (WS yL_steps cL_steps 12 (some .int))) := goodS tw_ml_L_135 tw_st_L_steps tw_ini_L (WS_all tw_code_L_steps)
theorem k_L_182 : GoodIn Tw (va_wsS RL 182 yL_proposes (WS yL_proposes cL_proposes 12 (some .boolean))) := goodS tw_ml_L_182 tw_st_L_proposes tw_ini_L (WS_all tw_code_L_proposes)
theorem k_L_139 : GoodIn Tw (va_wsS RL 139 yL_calls (WH yL_calls cL_calls 7 (some .int) [(0, 74, 75, 30)])) := goodS tw_ml_L_139 tw_st_L_calls tw_ini_L (WH_all tw_code_L_calls)
theorem k_L_10 : GoodIn Tw (wsV RL 10 RX5 yX5_propose (WS yX5_propose cX5_propose 6 (some .int))) := goodV tw_ml_L_10 tw_im_X5_propose tw_sel_X5_propose tw_ini_X5 (WS_all tw_code_X5_propose)
theorem k_X5_79 : GoodIn Tw (va_wsS RX5 79 yX5_requirePerson (WS yX5_requirePerson cX5_requirePerson 1 none)) := goodS tw_ml_X5_79 tw_st_X5_requirePerson tw_ini_X5 (WS_all tw_code_X5_requirePerson)
theorem k_X5_175 : GoodIn Tw (wsV RX5 175 RX0 yX0_begin (WS yX0_begin cX0_begin 5 none)) := goodV tw_ml_X5_175 tw_im_X0_begin tw_sel_X0_begin tw_ini_X0 (WS_all tw_code_X0_begin)
theorem k_L_16 : GoodIn Tw (wsV RL 16 RX5 yX5_approve (WS yX5_approve cX5_approve 4 (some .int))) := goodV tw_ml_L_16 tw_im_X5_approve tw_sel_X5_approve tw_ini_X5 (WS_all tw_code_X5_approve)
theorem k_X5_182 : GoodIn Tw (wsV RX5 182 RX5 yX5_isOnDuty (WS yX5_isOnDuty cX5_isOnDuty 3 (some .boolean))) := goodV tw_ml_X5_182 tw_im_X5_isOnDuty tw_sel_X5_isOnDuty tw_ini_X5 (WS_all tw_code_X5_isOnDuty)
theorem k_X5_208 : GoodIn Tw (va_wsS RX5 208 yX5_contains (WS yX5_contains cX5_contains 2 (some .boolean))) := goodS tw_ml_X5_208 tw_st_X5_contains tw_ini_X5 (WS_all tw_code_X5_contains)
theorem k_X5_186 : GoodIn Tw (wsV RX5 186 RX0 yX0_canBeApprovedBy (WS yX0_canBeApprovedBy cX0_canBeApprovedBy 2 (some .boolean))) := goodV tw_ml_X5_186 tw_im_X0_canBeApprovedBy tw_sel_X0_canBeApprovedBy tw_ini_X0 (WS_all tw_code_X0_canBeApprovedBy)
theorem k_X5_191 : GoodIn Tw (wsV RX5 191 RX0 yX0_addApproval (WS yX0_addApproval cX0_addApproval 4 none)) := goodV tw_ml_X5_191 tw_im_X0_addApproval tw_sel_X0_addApproval tw_ini_X0 (WS_all tw_code_X0_addApproval)
theorem k_X5_201 : GoodIn Tw (wsV RX5 201 RX5 yX5_hold (WS yX5_hold cX5_hold 2 none)) := goodV tw_ml_X5_201 tw_im_X5_hold tw_sel_X5_hold tw_ini_X5 (WS_all tw_code_X5_hold)
theorem k_X5_297 : GoodIn Tw (wsV RX5 297 RX5 yX5_findHeads (WS yX5_findHeads cX5_findHeads 2 none)) := goodV tw_ml_X5_297 tw_im_X5_findHeads tw_sel_X5_findHeads tw_ini_X5 (WS_all tw_code_X5_findHeads)
theorem k_L_20 : GoodIn Tw (wsV RL 20 RX5 yX5_leave (WS yX5_leave cX5_leave 4 (some .int))) := goodV tw_ml_L_20 tw_im_X5_leave tw_sel_X5_leave tw_ini_X5 (WS_all tw_code_X5_leave)
theorem k_X5_106 : GoodIn Tw (wsV RX5 106 RX5 yX5_voidWhatIsNotOld (WS yX5_voidWhatIsNotOld cX5_voidWhatIsNotOld 5 (some .int))) := goodV tw_ml_X5_106 tw_im_X5_voidWhatIsNotOld tw_sel_X5_voidWhatIsNotOld tw_ini_X5 (WS_all tw_code_X5_voidWhatIsNotOld)
theorem k_X5_300 : GoodIn Tw (wsV RX5 300 RX0 yX0_loseByLeaving (WS yX0_loseByLeaving cX0_loseByLeaving 4 (some .boolean))) := goodV tw_ml_X5_300 tw_im_X0_loseByLeaving tw_sel_X0_loseByLeaving tw_ini_X0 (WS_all tw_code_X0_loseByLeaving)
theorem k_X0_57 : GoodIn Tw (wsV RX0 57 RX0 yX0_countGood (WS yX0_countGood cX0_countGood 1 (some .int))) := goodV tw_ml_X0_57 tw_im_X0_countGood tw_sel_X0_countGood tw_ini_X0 (WS_all tw_code_X0_countGood)
theorem k_L_24 : GoodIn Tw (wsV RL 24 RX5 yX5_work (WS yX5_work cX5_work 4 (some .int))) := goodV tw_ml_L_24 tw_im_X5_work tw_sel_X5_work tw_ini_X5 (WS_all tw_code_X5_work)
theorem k_L_27 : GoodIn Tw (wsV RL 27 RX5 yX5_moveMachine (WS yX5_moveMachine cX5_moveMachine 5 (some .int))) := goodV tw_ml_L_27 tw_im_X5_moveMachine tw_sel_X5_moveMachine tw_ini_X5 (WS_all tw_code_X5_moveMachine)
theorem k_L_190 : GoodIn Tw (va_wsS RL 190 yL_sets (WS yL_sets cL_sets 9 (some .boolean))) := goodS tw_ml_L_190 tw_st_L_sets tw_ini_L (WS_all tw_code_L_sets)
theorem k_L_143 : GoodIn Tw (wsV RL 143 RX5 yX5_exclude (WS yX5_exclude cX5_exclude 5 (some .boolean))) := goodV tw_ml_L_143 tw_im_X5_exclude tw_sel_X5_exclude tw_ini_X5 (WS_all tw_code_X5_exclude)
theorem k_X5_212 : GoodIn Tw (va_wsS RX5 212 yX5_with (WS yX5_with cX5_with 3 (some .int))) := goodS tw_ml_X5_212 tw_st_X5_with tw_ini_X5 (WS_all tw_code_X5_with)
theorem k_L_147 : GoodIn Tw (wsV RL 147 RX5 yX5_setDuty (WS yX5_setDuty cX5_setDuty 4 (some .int))) := goodV tw_ml_L_147 tw_im_X5_setDuty tw_sel_X5_setDuty tw_ini_X5 (WS_all tw_code_X5_setDuty)
theorem k_L_150 : GoodIn Tw (wsV RL 150 RX5 yX5_setPace (WS yX5_setPace cX5_setPace 3 (some .int))) := goodV tw_ml_L_150 tw_im_X5_setPace tw_sel_X5_setPace tw_ini_X5 (WS_all tw_code_X5_setPace)
theorem k_L_194 : GoodIn Tw (va_wsS RL 194 yL_machines (WS yL_machines cL_machines 10 (some .boolean))) := goodS tw_ml_L_194 tw_st_L_machines tw_ini_L (WS_all tw_code_L_machines)
theorem k_L_153 : GoodIn Tw (va_wsS RL 153 yL_moves (WS yL_moves cL_moves 8 (some .int))) := goodS tw_ml_L_153 tw_st_L_moves tw_ini_L (WS_all tw_code_L_moves)
theorem k_L_186 : GoodIn Tw (va_wsS RL 186 yL_persons (WS yL_persons cL_persons 12 (some .boolean))) := goodS tw_ml_L_186 tw_st_L_persons tw_ini_L (WS_all tw_code_L_persons)
theorem k_L_157 : GoodIn Tw (va_wsS RL 157 yL_leaves (WS yL_leaves cL_leaves 12 (some .int))) := goodS tw_ml_L_157 tw_st_L_leaves tw_ini_L (WS_all tw_code_L_leaves)
theorem k_L_161 : GoodIn Tw (va_wsS RL 161 yL_comes (WH yL_comes cL_comes 3 (some .int) [(0, 6, 7, 30)])) := goodS tw_ml_L_161 tw_st_L_comes tw_ini_L (WH_all tw_code_L_comes)
theorem k_L_32 : GoodIn Tw (wsV RL 32 RX5 yX5_comeBack (WS yX5_comeBack cX5_comeBack 3 none)) := goodV tw_ml_L_32 tw_im_X5_comeBack tw_sel_X5_comeBack tw_ini_X5 (WS_all tw_code_X5_comeBack)
theorem k_L_165 : GoodIn Tw (va_wsS RL 165 yL_withdraws (WH yL_withdraws cL_withdraws 3 (some .int) [(0, 6, 7, 30)])) := goodS tw_ml_L_165 tw_st_L_withdraws tw_ini_L (WH_all tw_code_L_withdraws)
theorem k_L_36 : GoodIn Tw (wsV RL 36 RX5 yX5_withdraw (WS yX5_withdraw cX5_withdraw 3 none)) := goodV tw_ml_L_36 tw_im_X5_withdraw tw_sel_X5_withdraw tw_ini_X5 (WS_all tw_code_X5_withdraw)
theorem k_L_168 : GoodIn Tw (va_wsS RL 168 yL_approves (WS yL_approves cL_approves 7 (some .int))) := goodS tw_ml_L_168 tw_st_L_approves tw_ini_L (WS_all tw_code_L_approves)
