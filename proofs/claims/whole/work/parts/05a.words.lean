/-! CODES, a: the tables' words that rows need, the methods, their words. Written by wip/whole/gen_code.py -/
def atC : List Cond → Nat → Option Cond
  | [], _ => none
  | w :: _, 0 => some w
  | _ :: t, n + 1 => atC t n
theorem atC_mem {w : Cond} : ∀ {L : List Cond} {n : Nat}, atC L n = some w → w ∈ L := by
  intro L
  induction L with
  | nil => intro n h; cases h
  | cons a t ih =>
    intro n h
    cases n with
    | zero => injection h with h; subst h; exact List.mem_cons_self
    | succ n => exact List.mem_cons_of_mem _ (ih h)
theorem in_tables_1_1 {w : Cond} (n : Nat) (h : atC tables_1_1 n = some w) : w ∈ lw_tbl := List.mem_append_right _ (List.mem_append_left _ (atC_mem h))
theorem in_tables_1_2 {w : Cond} (n : Nat) (h : atC tables_1_2 n = some w) : w ∈ lw_tbl := List.mem_append_right _ (List.mem_append_right _ (List.mem_append_left _ (atC_mem h)))
theorem in_tables_1_3 {w : Cond} (n : Nat) (h : atC tables_1_3 n = some w) : w ∈ lw_tbl := List.mem_append_right _ (List.mem_append_right _ (List.mem_append_right _ (List.mem_append_left _ (atC_mem h))))
theorem in_tables_1_4 {w : Cond} (n : Nat) (h : atC tables_1_4 n = some w) : w ∈ lw_tbl := List.mem_append_right _ (List.mem_append_right _ (List.mem_append_right _ (List.mem_append_right _ (List.mem_append_left _ (atC_mem h)))))
theorem in_tables_1_5 {w : Cond} (n : Nat) (h : atC tables_1_5 n = some w) : w ∈ lw_tbl := List.mem_append_right _ (List.mem_append_right _ (List.mem_append_right _ (List.mem_append_right _ (List.mem_append_right _ (List.mem_append_left _ (atC_mem h))))))
theorem in_tables_1_6 {w : Cond} (n : Nat) (h : atC tables_1_6 n = some w) : w ∈ lw_tbl := List.mem_append_right _ (List.mem_append_right _ (List.mem_append_right _ (List.mem_append_right _ (List.mem_append_right _ (List.mem_append_right _ (List.mem_append_left _ (atC_mem h)))))))
theorem in_tables_1_7 {w : Cond} (n : Nat) (h : atC tables_1_7 n = some w) : w ∈ lw_tbl := List.mem_append_right _ (List.mem_append_right _ (List.mem_append_right _ (List.mem_append_right _ (List.mem_append_right _ (List.mem_append_right _ (List.mem_append_right _ (List.mem_append_left _ (atC_mem h))))))))
theorem in_tables_1_8 {w : Cond} (n : Nat) (h : atC tables_1_8 n = some w) : w ∈ lw_tbl := List.mem_append_right _ (List.mem_append_right _ (List.mem_append_right _ (List.mem_append_right _ (List.mem_append_right _ (List.mem_append_right _ (List.mem_append_right _ (List.mem_append_right _ (List.mem_append_left _ (atC_mem h)))))))))
theorem in_tables_1_9 {w : Cond} (n : Nat) (h : atC tables_1_9 n = some w) : w ∈ lw_tbl := List.mem_append_right _ (List.mem_append_right _ (List.mem_append_right _ (List.mem_append_right _ (List.mem_append_right _ (List.mem_append_right _ (List.mem_append_right _ (List.mem_append_right _ (List.mem_append_right _ (List.mem_append_left _ (atC_mem h))))))))))
theorem in_tables_1_10 {w : Cond} (n : Nat) (h : atC tables_1_10 n = some w) : w ∈ lw_tbl := List.mem_append_right _ (List.mem_append_right _ (List.mem_append_right _ (List.mem_append_right _ (List.mem_append_right _ (List.mem_append_right _ (List.mem_append_right _ (List.mem_append_right _ (List.mem_append_right _ (List.mem_append_right _ (List.mem_append_left _ (atC_mem h)))))))))))
theorem in_tables_1_11 {w : Cond} (n : Nat) (h : atC tables_1_11 n = some w) : w ∈ lw_tbl := List.mem_append_right _ (List.mem_append_right _ (List.mem_append_right _ (List.mem_append_right _ (List.mem_append_right _ (List.mem_append_right _ (List.mem_append_right _ (List.mem_append_right _ (List.mem_append_right _ (List.mem_append_right _ (List.mem_append_right _ (atC_mem h)))))))))))
theorem inT {w : Cond} (i : Nat) (h : tables_1[i]? = some w) : w ∈ lw_tbl := List.mem_append_right _ (List.mem_of_getElem? h)
theorem w_0 : Cond.initialized "SnowKeepsLaw" ∈ lw_tbl := in_tables_1_1 0 rfl
theorem w_1 : Cond.initialized "SnowKeeps" ∈ lw_tbl := in_tables_1_1 1 rfl
theorem w_2 : Cond.initialized "SnowKeeps$Snow" ∈ lw_tbl := in_tables_1_1 2 rfl
theorem w_3 : Cond.initialized "SnowKeeps$Plain" ∈ lw_tbl := in_tables_1_1 3 rfl
theorem w_4 : Cond.initialized "java/util/Arrays" ∈ lw_tbl := in_tables_1_1 4 rfl
theorem w_5 : Cond.initialized "SnowKeeps$Leads" ∈ lw_tbl := in_tables_1_1 5 rfl
theorem w_6 : Cond.initialized "SnowKeeps$Turns" ∈ lw_tbl := in_tables_1_1 6 rfl
theorem w_7 : Cond.initialized "SnowKeeps$Guides" ∈ lw_tbl := in_tables_1_1 7 rfl
theorem w_8 : Cond.initialized "SnowKeeps$Trails" ∈ lw_tbl := in_tables_1_1 8 rfl
theorem w_9 : Cond.initialized "SnowKeeps$Wander" ∈ lw_tbl := in_tables_1_1 9 rfl
theorem w_10 : Cond.initialized "SnowKeeps$Sign" ∈ lw_tbl := in_tables_1_1 10 rfl
theorem w_11 : Cond.initialized "SnowKeeps$Unlike" ∈ lw_tbl := in_tables_1_1 11 rfl
theorem w_12 : Cond.initialized "SnowKeeps$Tray" ∈ lw_tbl := in_tables_1_1 12 rfl
theorem w_13 : Cond.initialized "SnowKeepsModel" ∈ lw_tbl := in_tables_1_1 13 rfl
theorem w_17 : Cond.initialized "java/lang/IllegalArgumentException" ∈ lw_tbl := in_tables_1_1 17 rfl
theorem w_18 : Cond.initialized "SnowKeeps$Reader" ∈ lw_tbl := in_tables_1_1 18 rfl
theorem w_19 : Cond.initialized "java/lang/String" ∈ lw_tbl := in_tables_1_1 19 rfl
theorem w_20 : Cond.initialized "java/lang/StringLatin1" ∈ lw_tbl := in_tables_1_1 20 rfl
theorem w_21 : Cond.initialized "jdk/internal/util/Preconditions" ∈ lw_tbl := in_tables_1_1 21 rfl
theorem w_23 : Cond.initialized "java/lang/System" ∈ lw_tbl := in_tables_1_1 23 rfl
theorem w_24 : Cond.initialized "java/util/NoSuchElementException" ∈ lw_tbl := in_tables_1_1 24 rfl
theorem w_25 : Cond.initialized "java/lang/Math" ∈ lw_tbl := in_tables_1_1 25 rfl
theorem w_26 : Cond.initialized "java/lang/IllegalStateException" ∈ lw_tbl := in_tables_1_1 26 rfl
theorem w_28 : Cond.initialized "java/lang/Integer" ∈ lw_tbl := in_tables_1_1 28 rfl
theorem w_32 : Cond.initialized "java/lang/IndexOutOfBoundsException" ∈ lw_tbl := in_tables_1_1 32 rfl
theorem w_34 : Cond.classLink "SnowKeepsLaw" (8 : Nat) "SnowKeeps" ∈ lw_tbl := in_tables_1_1 34 rfl
theorem w_35 : Cond.instantiable "SnowKeeps" (20 : Nat) ∈ lw_tbl := in_tables_1_1 35 rfl
theorem w_36 : Cond.methodLink "SnowKeepsLaw" (176 : Nat) ({ cls := "SnowKeeps", name := "<init>", desc := "()V" } : MethodName) ∈ lw_tbl := in_tables_1_1 36 rfl
theorem w_37 : Cond.instanceMethod ({ cls := "SnowKeeps", name := "<init>", desc := "()V" } : MethodName) ∈ lw_tbl := in_tables_1_1 37 rfl
theorem w_38 : Cond.code ({ cls := "SnowKeeps", name := "<init>", desc := "()V" } : MethodName) prog_1_method_1_code (2 : Nat) (Option.none : Option FieldType) ∈ lw_tbl := in_tables_1_1 38 rfl
theorem w_39 : Cond.methodLink "SnowKeeps" (3 : Nat) ({ cls := "java/lang/Object", name := "<init>", desc := "()V" } : MethodName) ∈ lw_tbl := in_tables_1_1 39 rfl
theorem w_40 : Cond.instanceMethod ({ cls := "java/lang/Object", name := "<init>", desc := "()V" } : MethodName) ∈ lw_tbl := in_tables_1_1 40 rfl
theorem w_41 : Cond.code ({ cls := "java/lang/Object", name := "<init>", desc := "()V" } : MethodName) object_method_1_code (1 : Nat) (Option.none : Option FieldType) ∈ lw_tbl := in_tables_1_1 41 rfl
theorem w_42 : Cond.classLink "SnowKeeps" (23 : Nat) "SnowKeeps$Snow" ∈ lw_tbl := in_tables_1_1 42 rfl
theorem w_43 : Cond.instantiable "SnowKeeps$Snow" (10 : Nat) ∈ lw_tbl := in_tables_1_1 43 rfl
theorem w_44 : Cond.methodLinkNest "SnowKeeps" (25 : Nat) ({ cls := "SnowKeeps$Snow", name := "<init>", desc := "()V" } : MethodName) "SnowKeeps" ∈ lw_tbl := in_tables_1_1 44 rfl
theorem w_45 : Cond.instanceMethod ({ cls := "SnowKeeps$Snow", name := "<init>", desc := "()V" } : MethodName) ∈ lw_tbl := in_tables_1_1 45 rfl
theorem w_46 : Cond.code ({ cls := "SnowKeeps$Snow", name := "<init>", desc := "()V" } : MethodName) prog_7_method_1_code (1 : Nat) (Option.none : Option FieldType) ∈ lw_tbl := in_tables_1_1 46 rfl
theorem w_47 : Cond.methodLink "SnowKeeps$Snow" (3 : Nat) ({ cls := "java/lang/Object", name := "<init>", desc := "()V" } : MethodName) ∈ lw_tbl := in_tables_1_1 47 rfl
theorem w_48 : Cond.classLink "SnowKeeps$Snow" (9 : Nat) "SnowKeeps$Plain" ∈ lw_tbl := in_tables_1_1 48 rfl
theorem w_49 : Cond.instantiable "SnowKeeps$Plain" (13 : Nat) ∈ lw_tbl := in_tables_1_1 49 rfl
theorem w_50 : Cond.methodLink "SnowKeeps$Snow" (11 : Nat) ({ cls := "SnowKeeps$Plain", name := "<init>", desc := "()V" } : MethodName) ∈ lw_tbl := in_tables_1_1 50 rfl
theorem w_51 : Cond.instanceMethod ({ cls := "SnowKeeps$Plain", name := "<init>", desc := "()V" } : MethodName) ∈ lw_tbl := in_tables_1_1 51 rfl
theorem w_52 : Cond.code ({ cls := "SnowKeeps$Plain", name := "<init>", desc := "()V" } : MethodName) prog_4_method_1_code (1 : Nat) (Option.none : Option FieldType) ∈ lw_tbl := in_tables_1_1 52 rfl
theorem w_53 : Cond.methodLink "SnowKeeps$Plain" (3 : Nat) ({ cls := "java/lang/Object", name := "<init>", desc := "()V" } : MethodName) ∈ lw_tbl := in_tables_1_1 53 rfl
theorem w_54 : Cond.methodLink "SnowKeeps$Plain" (52 : Nat) ({ cls := "java/util/Arrays", name := "fill", desc := "([II)V" } : MethodName) ∈ lw_tbl := in_tables_1_1 54 rfl
theorem w_55 : Cond.static ({ cls := "java/util/Arrays", name := "fill", desc := "([II)V" } : MethodName) ∈ lw_tbl := in_tables_1_1 55 rfl
theorem w_56 : Cond.code ({ cls := "java/util/Arrays", name := "fill", desc := "([II)V" } : MethodName) prog_38_method_103_code (4 : Nat) (Option.none : Option FieldType) ∈ lw_tbl := in_tables_1_1 56 rfl
theorem w_57 : Cond.fieldLink "SnowKeeps$Plain" (9 : Nat) "SnowKeeps$Plain" "lines" "I" ∈ lw_tbl := in_tables_1_1 57 rfl
theorem w_58 : Cond.fieldLink "SnowKeeps" (132 : Nat) "SnowKeeps$Plain" "lines" "I" ∈ lw_tbl := in_tables_1_1 58 rfl
theorem w_59 : Cond.fieldLink "SnowKeeps$Reader" (132 : Nat) "SnowKeeps$Plain" "lines" "I" ∈ lw_tbl := in_tables_1_1 59 rfl
theorem w_60 : Cond.fieldLink "SnowKeeps$Plain" (15 : Nat) "SnowKeeps$Plain" "places" "I" ∈ lw_tbl := in_tables_1_1 60 rfl
theorem w_61 : Cond.fieldLink "SnowKeeps$Reader" (64 : Nat) "SnowKeeps$Plain" "places" "I" ∈ lw_tbl := in_tables_1_1 61 rfl
theorem w_62 : Cond.fieldLink "SnowKeeps$Wander" (42 : Nat) "SnowKeeps$Plain" "places" "I" ∈ lw_tbl := in_tables_1_1 62 rfl
theorem w_63 : Cond.fieldLink "SnowKeeps$Sign" (60 : Nat) "SnowKeeps$Plain" "places" "I" ∈ lw_tbl := in_tables_1_1 63 rfl
theorem w_64 : Cond.fieldLink "SnowKeeps$Trails" (76 : Nat) "SnowKeeps$Plain" "places" "I" ∈ lw_tbl := in_tables_1_1 64 rfl
theorem w_65 : Cond.fieldLink "SnowKeeps" (370 : Nat) "SnowKeeps$Plain" "places" "I" ∈ lw_tbl := in_tables_1_1 65 rfl
theorem w_66 : Cond.fieldLink "SnowKeeps$Plain" (18 : Nat) "SnowKeeps$Plain" "paths" "I" ∈ lw_tbl := in_tables_1_1 66 rfl
theorem w_67 : Cond.fieldLink "SnowKeeps$Leads" (21 : Nat) "SnowKeeps$Plain" "paths" "I" ∈ lw_tbl := in_tables_1_1 67 rfl
theorem w_68 : Cond.fieldLink "SnowKeeps$Sign" (43 : Nat) "SnowKeeps$Plain" "paths" "I" ∈ lw_tbl := in_tables_1_1 68 rfl
theorem w_69 : Cond.fieldLink "SnowKeeps$Reader" (94 : Nat) "SnowKeeps$Plain" "paths" "I" ∈ lw_tbl := in_tables_1_1 69 rfl
theorem w_70 : Cond.fieldLink "SnowKeeps" (141 : Nat) "SnowKeeps$Plain" "paths" "I" ∈ lw_tbl := in_tables_1_1 70 rfl
theorem w_71 : Cond.fieldLink "SnowKeeps$Plain" (21 : Nat) "SnowKeeps$Plain" "walkers" "I" ∈ lw_tbl := in_tables_1_1 71 rfl
theorem w_72 : Cond.fieldLink "SnowKeeps$Reader" (105 : Nat) "SnowKeeps$Plain" "walkers" "I" ∈ lw_tbl := in_tables_1_1 72 rfl
theorem w_73 : Cond.fieldLink "SnowKeeps$Snow" (91 : Nat) "SnowKeeps$Plain" "walkers" "I" ∈ lw_tbl := in_tables_1_1 73 rfl
theorem w_74 : Cond.fieldLink "SnowKeeps" (265 : Nat) "SnowKeeps$Plain" "walkers" "I" ∈ lw_tbl := in_tables_1_1 74 rfl
theorem w_75 : Cond.fieldLink "SnowKeeps$Snow" (18 : Nat) "SnowKeeps$Plain" "keepTold" "I" ∈ lw_tbl := in_tables_1_1 75 rfl
theorem w_76 : Cond.fieldLink "SnowKeeps$Plain" (24 : Nat) "SnowKeeps$Plain" "keepTold" "I" ∈ lw_tbl := in_tables_1_1 76 rfl
theorem w_77 : Cond.fieldLink "SnowKeeps$Reader" (120 : Nat) "SnowKeeps$Plain" "keepTold" "I" ∈ lw_tbl := in_tables_1_1 77 rfl
theorem w_78 : Cond.fieldLink "SnowKeeps$Plain" (27 : Nat) "SnowKeeps$Plain" "mostRemembered" "I" ∈ lw_tbl := in_tables_1_1 78 rfl
theorem w_79 : Cond.fieldLink "SnowKeeps$Reader" (129 : Nat) "SnowKeeps$Plain" "mostRemembered" "I" ∈ lw_tbl := in_tables_1_1 79 rfl
theorem w_80 : Cond.fieldLink "SnowKeeps$Snow" (117 : Nat) "SnowKeeps$Plain" "mostRemembered" "I" ∈ lw_tbl := in_tables_1_1 80 rfl
theorem w_81 : Cond.fieldLink "SnowKeeps" (451 : Nat) "SnowKeeps$Plain" "mostRemembered" "I" ∈ lw_tbl := in_tables_1_1 81 rfl
theorem w_82 : Cond.fieldLink "SnowKeeps$Plain" (30 : Nat) "SnowKeeps$Plain" "stormEvery" "I" ∈ lw_tbl := in_tables_1_1 82 rfl
theorem w_83 : Cond.fieldLink "SnowKeeps$Turns" (47 : Nat) "SnowKeeps$Plain" "stormEvery" "I" ∈ lw_tbl := in_tables_1_1 83 rfl
theorem w_84 : Cond.fieldLink "SnowKeeps$Snow" (85 : Nat) "SnowKeeps$Plain" "stormEvery" "I" ∈ lw_tbl := in_tables_1_1 84 rfl
theorem w_85 : Cond.fieldLink "SnowKeeps$Reader" (123 : Nat) "SnowKeeps$Plain" "stormEvery" "I" ∈ lw_tbl := in_tables_1_1 85 rfl
theorem w_86 : Cond.fieldLink "SnowKeeps" (445 : Nat) "SnowKeeps$Plain" "stormEvery" "I" ∈ lw_tbl := in_tables_1_1 86 rfl
theorem w_87 : Cond.fieldLink "SnowKeeps$Plain" (33 : Nat) "SnowKeeps$Plain" "stormTakes" "I" ∈ lw_tbl := in_tables_1_1 87 rfl
theorem w_88 : Cond.fieldLink "SnowKeeps$Snow" (88 : Nat) "SnowKeeps$Plain" "stormTakes" "I" ∈ lw_tbl := in_tables_1_1 88 rfl
theorem w_89 : Cond.fieldLink "SnowKeeps$Reader" (126 : Nat) "SnowKeeps$Plain" "stormTakes" "I" ∈ lw_tbl := in_tables_1_1 89 rfl
theorem w_90 : Cond.fieldLink "SnowKeeps" (448 : Nat) "SnowKeeps$Plain" "stormTakes" "I" ∈ lw_tbl := in_tables_1_1 90 rfl
theorem w_91 : Cond.fieldLink "SnowKeeps$Plain" (36 : Nat) "SnowKeeps$Plain" "begins" "[I" ∈ lw_tbl := in_tables_1_1 91 rfl
theorem w_92 : Cond.fieldLink "SnowKeeps$Plain" (40 : Nat) "SnowKeeps$Plain" "wayOf" "[I" ∈ lw_tbl := in_tables_1_1 92 rfl
theorem w_93 : Cond.fieldLink "SnowKeeps$Plain" (43 : Nat) "SnowKeeps$Plain" "home" "[I" ∈ lw_tbl := in_tables_1_1 93 rfl
theorem w_94 : Cond.fieldLink "SnowKeeps$Snow" (50 : Nat) "SnowKeeps$Plain" "home" "[I" ∈ lw_tbl := in_tables_1_1 94 rfl
theorem w_95 : Cond.fieldLink "SnowKeeps$Plain" (46 : Nat) "SnowKeeps$Plain" "beatLength" "[I" ∈ lw_tbl := in_tables_1_1 95 rfl
theorem w_96 : Cond.fieldLink "SnowKeeps$Snow" (94 : Nat) "SnowKeeps$Plain" "beatLength" "[I" ∈ lw_tbl := in_tables_1_1 96 rfl
theorem w_97 : Cond.fieldLink "SnowKeeps" (218 : Nat) "SnowKeeps$Plain" "beatLength" "[I" ∈ lw_tbl := in_tables_1_1 97 rfl
theorem w_98 : Cond.fieldLink "SnowKeeps$Plain" (49 : Nat) "SnowKeeps$Plain" "beats" "[I" ∈ lw_tbl := in_tables_1_1 98 rfl
theorem w_126 : Cond.arrayClass FieldType.byte ∈ lw_tbl := in_tables_1_1 126 rfl
theorem w_127 : Cond.arrayClass FieldType.int ∈ lw_tbl := in_tables_1_1 127 rfl
theorem w_128 : Cond.fieldLink "SnowKeeps$Snow" (12 : Nat) "SnowKeeps$Snow" "plain" "LSnowKeeps$Plain;" ∈ lw_tbl := in_tables_1_1 128 rfl
theorem w_129 : Cond.fieldLink "SnowKeeps$Turns" (43 : Nat) "SnowKeeps$Snow" "plain" "LSnowKeeps$Plain;" ∈ lw_tbl := in_tables_1_1 129 rfl
theorem w_130 : Cond.fieldLink "SnowKeeps$Leads" (36 : Nat) "SnowKeeps$Snow" "plain" "LSnowKeeps$Plain;" ∈ lw_tbl := in_tables_1_1 130 rfl
theorem w_131 : Cond.fieldLink "SnowKeeps" (137 : Nat) "SnowKeeps$Snow" "plain" "LSnowKeeps$Plain;" ∈ lw_tbl := in_tables_1_1 131 rfl
theorem w_132 : Cond.fieldLink "SnowKeeps$Snow" (22 : Nat) "SnowKeeps$Snow" "mostKept" "I" ∈ lw_tbl := in_tables_1_1 132 rfl
theorem w_133 : Cond.fieldLink "SnowKeeps" (196 : Nat) "SnowKeeps$Snow" "mostKept" "I" ∈ lw_tbl := in_tables_1_1 133 rfl
theorem w_134 : Cond.fieldLink "SnowKeeps$Snow" (25 : Nat) "SnowKeeps$Snow" "kept" "I" ∈ lw_tbl := in_tables_1_1 134 rfl
theorem w_135 : Cond.fieldLink "SnowKeeps$Leads" (31 : Nat) "SnowKeeps$Snow" "kept" "I" ∈ lw_tbl := in_tables_1_1 135 rfl
theorem w_136 : Cond.fieldLink "SnowKeeps$Turns" (55 : Nat) "SnowKeeps$Snow" "kept" "I" ∈ lw_tbl := in_tables_1_1 136 rfl
theorem w_137 : Cond.fieldLink "SnowKeeps" (188 : Nat) "SnowKeeps$Snow" "kept" "I" ∈ lw_tbl := in_tables_1_1 137 rfl
theorem w_138 : Cond.fieldLink "SnowKeeps$Snow" (28 : Nat) "SnowKeeps$Snow" "steps" "I" ∈ lw_tbl := in_tables_1_1 138 rfl
theorem w_139 : Cond.fieldLink "SnowKeeps$Turns" (52 : Nat) "SnowKeeps$Snow" "steps" "I" ∈ lw_tbl := in_tables_1_1 139 rfl
theorem w_140 : Cond.fieldLink "SnowKeeps" (442 : Nat) "SnowKeeps$Snow" "steps" "I" ∈ lw_tbl := in_tables_1_1 140 rfl
theorem w_141 : Cond.fieldLink "SnowKeeps$Snow" (31 : Nat) "SnowKeeps$Snow" "logged" "I" ∈ lw_tbl := in_tables_1_1 141 rfl
theorem w_142 : Cond.fieldLink "SnowKeeps$Snow" (34 : Nat) "SnowKeeps$Snow" "wayLog" "[I" ∈ lw_tbl := in_tables_1_1 142 rfl
theorem w_143 : Cond.fieldLink "SnowKeeps$Snow" (38 : Nat) "SnowKeeps$Snow" "whoseLog" "[I" ∈ lw_tbl := in_tables_1_1 143 rfl
theorem w_144 : Cond.fieldLink "SnowKeeps$Snow" (41 : Nat) "SnowKeeps$Snow" "stands" "[I" ∈ lw_tbl := in_tables_1_1 144 rfl
theorem w_145 : Cond.fieldLink "SnowKeeps$Turns" (58 : Nat) "SnowKeeps$Snow" "stands" "[I" ∈ lw_tbl := in_tables_1_1 145 rfl
theorem w_146 : Cond.fieldLink "SnowKeeps" (173 : Nat) "SnowKeeps$Snow" "stands" "[I" ∈ lw_tbl := in_tables_1_1 146 rfl
theorem w_147 : Cond.fieldLink "SnowKeeps$Snow" (44 : Nat) "SnowKeeps$Snow" "made" "[I" ∈ lw_tbl := in_tables_1_1 147 rfl
theorem w_148 : Cond.fieldLink "SnowKeeps" (176 : Nat) "SnowKeeps$Snow" "made" "[I" ∈ lw_tbl := in_tables_1_1 148 rfl
theorem w_149 : Cond.fieldLink "SnowKeeps$Snow" (47 : Nat) "SnowKeeps$Snow" "next" "[I" ∈ lw_tbl := in_tables_1_1 149 rfl
theorem w_150 : Cond.fieldLink "SnowKeeps$Turns" (62 : Nat) "SnowKeeps$Snow" "next" "[I" ∈ lw_tbl := in_tables_1_1 150 rfl
theorem w_151 : Cond.fieldLink "SnowKeeps" (215 : Nat) "SnowKeeps$Snow" "next" "[I" ∈ lw_tbl := in_tables_1_1 151 rfl
theorem w_174 : Cond.classLink "SnowKeeps" (37 : Nat) "SnowKeeps$Tray" ∈ lw_tbl := in_tables_1_1 174 rfl
theorem w_176 : Cond.classLink "SnowKeeps" (43 : Nat) "SnowKeeps$Leads" ∈ lw_tbl := in_tables_1_1 176 rfl
theorem w_177 : Cond.instantiable "SnowKeeps$Leads" (1 : Nat) ∈ lw_tbl := in_tables_1_1 177 rfl
theorem w_178 : Cond.methodLinkNest "SnowKeeps" (45 : Nat) ({ cls := "SnowKeeps$Leads", name := "<init>", desc := "()V" } : MethodName) "SnowKeeps" ∈ lw_tbl := in_tables_1_1 178 rfl
theorem w_179 : Cond.instanceMethod ({ cls := "SnowKeeps$Leads", name := "<init>", desc := "()V" } : MethodName) ∈ lw_tbl := in_tables_1_1 179 rfl
theorem w_180 : Cond.code ({ cls := "SnowKeeps$Leads", name := "<init>", desc := "()V" } : MethodName) prog_3_method_1_code (1 : Nat) (Option.none : Option FieldType) ∈ lw_tbl := in_tables_1_1 180 rfl
theorem w_181 : Cond.methodLink "SnowKeeps$Leads" (3 : Nat) ({ cls := "java/lang/Object", name := "<init>", desc := "()V" } : MethodName) ∈ lw_tbl := in_tables_1_1 181 rfl
theorem w_182 : Cond.fieldLink "SnowKeeps$Leads" (9 : Nat) "SnowKeeps$Leads" "onwardFrom" "[I" ∈ lw_tbl := in_tables_1_1 182 rfl
theorem w_186 : Cond.classLink "SnowKeeps" (53 : Nat) "SnowKeeps$Turns" ∈ lw_tbl := in_tables_1_1 186 rfl
theorem w_187 : Cond.instantiable "SnowKeeps$Turns" (3 : Nat) ∈ lw_tbl := in_tables_1_1 187 rfl
theorem w_188 : Cond.methodLinkNest "SnowKeeps" (55 : Nat) ({ cls := "SnowKeeps$Turns", name := "<init>", desc := "()V" } : MethodName) "SnowKeeps" ∈ lw_tbl := in_tables_1_1 188 rfl
theorem w_189 : Cond.instanceMethod ({ cls := "SnowKeeps$Turns", name := "<init>", desc := "()V" } : MethodName) ∈ lw_tbl := in_tables_1_1 189 rfl
theorem w_190 : Cond.code ({ cls := "SnowKeeps$Turns", name := "<init>", desc := "()V" } : MethodName) prog_10_method_1_code (1 : Nat) (Option.none : Option FieldType) ∈ lw_tbl := in_tables_1_1 190 rfl
theorem w_191 : Cond.methodLink "SnowKeeps$Turns" (3 : Nat) ({ cls := "java/lang/Object", name := "<init>", desc := "()V" } : MethodName) ∈ lw_tbl := in_tables_1_1 191 rfl
theorem w_192 : Cond.classLink "SnowKeeps$Turns" (11 : Nat) "[[I" ∈ lw_tbl := in_tables_1_1 192 rfl
theorem w_194 : Cond.fieldLink "SnowKeeps$Turns" (13 : Nat) "SnowKeeps$Turns" "states" "[[I" ∈ lw_tbl := in_tables_1_1 194 rfl
theorem w_195 : Cond.fieldLink "SnowKeeps$Turns" (16 : Nat) "SnowKeeps$Turns" "first" "I" ∈ lw_tbl := in_tables_1_1 195 rfl
theorem w_196 : Cond.fieldLink "SnowKeeps" (235 : Nat) "SnowKeeps$Turns" "first" "I" ∈ lw_tbl := in_tables_1_1 196 rfl
theorem w_197 : Cond.fieldLink "SnowKeeps$Turns" (20 : Nat) "SnowKeeps$Turns" "length" "I" ∈ lw_tbl := in_tables_1_1 197 rfl
theorem w_198 : Cond.fieldLink "SnowKeeps" (232 : Nat) "SnowKeeps$Turns" "length" "I" ∈ lw_tbl := in_tables_1_1 198 rfl
theorem w_206 : Cond.classLink "SnowKeeps" (60 : Nat) "SnowKeeps$Guides" ∈ lw_tbl := in_tables_1_1 206 rfl
theorem w_207 : Cond.instantiable "SnowKeeps$Guides" (2 : Nat) ∈ lw_tbl := in_tables_1_1 207 rfl
theorem w_208 : Cond.methodLinkNest "SnowKeeps" (62 : Nat) ({ cls := "SnowKeeps$Guides", name := "<init>", desc := "()V" } : MethodName) "SnowKeeps" ∈ lw_tbl := in_tables_1_1 208 rfl
theorem w_209 : Cond.instanceMethod ({ cls := "SnowKeeps$Guides", name := "<init>", desc := "()V" } : MethodName) ∈ lw_tbl := in_tables_1_1 209 rfl
theorem w_210 : Cond.code ({ cls := "SnowKeeps$Guides", name := "<init>", desc := "()V" } : MethodName) prog_2_method_1_code (1 : Nat) (Option.none : Option FieldType) ∈ lw_tbl := in_tables_1_1 210 rfl
theorem w_211 : Cond.methodLink "SnowKeeps$Guides" (3 : Nat) ({ cls := "java/lang/Object", name := "<init>", desc := "()V" } : MethodName) ∈ lw_tbl := in_tables_1_1 211 rfl
theorem w_212 : Cond.classLink "SnowKeeps$Guides" (15 : Nat) "[[I" ∈ lw_tbl := in_tables_1_1 212 rfl
theorem w_213 : Cond.fieldLink "SnowKeeps$Guides" (9 : Nat) "SnowKeeps$Guides" "far" "[I" ∈ lw_tbl := in_tables_1_1 213 rfl
theorem w_214 : Cond.fieldLink "SnowKeeps" (348 : Nat) "SnowKeeps$Guides" "far" "[I" ∈ lw_tbl := in_tables_1_1 214 rfl
theorem w_215 : Cond.fieldLink "SnowKeeps$Guides" (17 : Nat) "SnowKeeps$Guides" "left" "[[I" ∈ lw_tbl := in_tables_1_1 215 rfl
theorem w_221 : Cond.classLink "SnowKeeps" (67 : Nat) "SnowKeeps$Trails" ∈ lw_tbl := in_tables_1_1 221 rfl
theorem w_222 : Cond.instantiable "SnowKeeps$Trails" (10 : Nat) ∈ lw_tbl := in_tables_1_1 222 rfl
theorem w_223 : Cond.methodLinkNest "SnowKeeps" (69 : Nat) ({ cls := "SnowKeeps$Trails", name := "<init>", desc := "()V" } : MethodName) "SnowKeeps" ∈ lw_tbl := in_tables_1_1 223 rfl
theorem w_224 : Cond.instanceMethod ({ cls := "SnowKeeps$Trails", name := "<init>", desc := "()V" } : MethodName) ∈ lw_tbl := in_tables_1_1 224 rfl
theorem w_225 : Cond.code ({ cls := "SnowKeeps$Trails", name := "<init>", desc := "()V" } : MethodName) prog_8_method_1_code (1 : Nat) (Option.none : Option FieldType) ∈ lw_tbl := in_tables_1_1 225 rfl
theorem w_226 : Cond.methodLink "SnowKeeps$Trails" (3 : Nat) ({ cls := "java/lang/Object", name := "<init>", desc := "()V" } : MethodName) ∈ lw_tbl := in_tables_1_1 226 rfl
theorem w_227 : Cond.classLink "SnowKeeps$Trails" (9 : Nat) "SnowKeeps$Plain" ∈ lw_tbl := in_tables_1_1 227 rfl
theorem w_228 : Cond.methodLink "SnowKeeps$Trails" (11 : Nat) ({ cls := "SnowKeeps$Plain", name := "<init>", desc := "()V" } : MethodName) ∈ lw_tbl := in_tables_1_1 228 rfl
theorem w_229 : Cond.fieldLink "SnowKeeps$Trails" (12 : Nat) "SnowKeeps$Trails" "plain" "LSnowKeeps$Plain;" ∈ lw_tbl := in_tables_1_1 229 rfl
theorem w_230 : Cond.fieldLink "SnowKeeps$Trails" (18 : Nat) "SnowKeeps$Trails" "slots" "I" ∈ lw_tbl := in_tables_1_1 230 rfl
theorem w_231 : Cond.fieldLink "SnowKeeps$Trails" (22 : Nat) "SnowKeeps$Trails" "full" "I" ∈ lw_tbl := in_tables_1_1 231 rfl
theorem w_232 : Cond.fieldLink "SnowKeeps$Trails" (25 : Nat) "SnowKeeps$Trails" "slotWay" "[I" ∈ lw_tbl := in_tables_1_1 232 rfl
theorem w_233 : Cond.fieldLink "SnowKeeps$Trails" (29 : Nat) "SnowKeeps$Trails" "slotTimes" "[I" ∈ lw_tbl := in_tables_1_1 233 rfl
theorem w_234 : Cond.fieldLink "SnowKeeps$Trails" (32 : Nat) "SnowKeeps$Trails" "shift" "[I" ∈ lw_tbl := in_tables_1_1 234 rfl
theorem w_235 : Cond.fieldLink "SnowKeeps$Trails" (35 : Nat) "SnowKeeps$Trails" "mask" "[I" ∈ lw_tbl := in_tables_1_1 235 rfl
theorem w_236 : Cond.fieldLink "SnowKeeps$Trails" (38 : Nat) "SnowKeeps$Trails" "coming" "[J" ∈ lw_tbl := in_tables_1_1 236 rfl
theorem w_237 : Cond.fieldLink "SnowKeeps$Trails" (42 : Nat) "SnowKeeps$Trails" "going" "[J" ∈ lw_tbl := in_tables_1_1 237 rfl
theorem w_238 : Cond.fieldLink "SnowKeeps$Trails" (45 : Nat) "SnowKeeps$Trails" "where" "[I" ∈ lw_tbl := in_tables_1_1 238 rfl
theorem w_260 : Cond.arrayClass FieldType.long ∈ lw_tbl := in_tables_1_2 20 rfl
theorem w_261 : Cond.classLink "SnowKeeps" (74 : Nat) "SnowKeeps$Wander" ∈ lw_tbl := in_tables_1_2 21 rfl
theorem w_262 : Cond.instantiable "SnowKeeps$Wander" (5 : Nat) ∈ lw_tbl := in_tables_1_2 22 rfl
theorem w_263 : Cond.methodLinkNest "SnowKeeps" (76 : Nat) ({ cls := "SnowKeeps$Wander", name := "<init>", desc := "()V" } : MethodName) "SnowKeeps" ∈ lw_tbl := in_tables_1_2 23 rfl
theorem w_264 : Cond.instanceMethod ({ cls := "SnowKeeps$Wander", name := "<init>", desc := "()V" } : MethodName) ∈ lw_tbl := in_tables_1_2 24 rfl
theorem w_265 : Cond.code ({ cls := "SnowKeeps$Wander", name := "<init>", desc := "()V" } : MethodName) prog_12_method_1_code (1 : Nat) (Option.none : Option FieldType) ∈ lw_tbl := in_tables_1_2 25 rfl
theorem w_266 : Cond.methodLink "SnowKeeps$Wander" (3 : Nat) ({ cls := "java/lang/Object", name := "<init>", desc := "()V" } : MethodName) ∈ lw_tbl := in_tables_1_2 26 rfl
theorem w_267 : Cond.classLink "SnowKeeps$Wander" (9 : Nat) "SnowKeeps$Plain" ∈ lw_tbl := in_tables_1_2 27 rfl
theorem w_268 : Cond.methodLink "SnowKeeps$Wander" (11 : Nat) ({ cls := "SnowKeeps$Plain", name := "<init>", desc := "()V" } : MethodName) ∈ lw_tbl := in_tables_1_2 28 rfl
theorem w_269 : Cond.fieldLink "SnowKeeps$Wander" (12 : Nat) "SnowKeeps$Wander" "plain" "LSnowKeeps$Plain;" ∈ lw_tbl := in_tables_1_2 29 rfl
theorem w_270 : Cond.fieldLink "SnowKeeps$Leads" (56 : Nat) "SnowKeeps$Wander" "plain" "LSnowKeeps$Plain;" ∈ lw_tbl := in_tables_1_2 30 rfl
theorem w_271 : Cond.fieldLink "SnowKeeps$Wander" (18 : Nat) "SnowKeeps$Wander" "most" "I" ∈ lw_tbl := in_tables_1_2 31 rfl
theorem w_272 : Cond.fieldLink "SnowKeeps$Wander" (22 : Nat) "SnowKeeps$Wander" "depth" "I" ∈ lw_tbl := in_tables_1_2 32 rfl
theorem w_273 : Cond.fieldLink "SnowKeeps$Leads" (51 : Nat) "SnowKeeps$Wander" "depth" "I" ∈ lw_tbl := in_tables_1_2 33 rfl
theorem w_274 : Cond.fieldLink "SnowKeeps" (387 : Nat) "SnowKeeps$Wander" "depth" "I" ∈ lw_tbl := in_tables_1_2 34 rfl
theorem w_275 : Cond.fieldLink "SnowKeeps$Wander" (25 : Nat) "SnowKeeps$Wander" "places" "[I" ∈ lw_tbl := in_tables_1_2 35 rfl
theorem w_276 : Cond.fieldLink "SnowKeeps$Wander" (29 : Nat) "SnowKeeps$Wander" "ways" "[I" ∈ lw_tbl := in_tables_1_2 36 rfl
theorem w_277 : Cond.fieldLink "SnowKeeps$Leads" (57 : Nat) "SnowKeeps$Wander" "ways" "[I" ∈ lw_tbl := in_tables_1_2 37 rfl
theorem w_278 : Cond.fieldLink "SnowKeeps" (502 : Nat) "SnowKeeps$Wander" "ways" "[I" ∈ lw_tbl := in_tables_1_2 38 rfl
theorem w_290 : Cond.classLink "SnowKeeps" (81 : Nat) "SnowKeeps$Sign" ∈ lw_tbl := in_tables_1_2 50 rfl
theorem w_291 : Cond.instantiable "SnowKeeps$Sign" (5 : Nat) ∈ lw_tbl := in_tables_1_2 51 rfl
theorem w_292 : Cond.methodLinkNest "SnowKeeps" (83 : Nat) ({ cls := "SnowKeeps$Sign", name := "<init>", desc := "()V" } : MethodName) "SnowKeeps" ∈ lw_tbl := in_tables_1_2 52 rfl
theorem w_293 : Cond.instanceMethod ({ cls := "SnowKeeps$Sign", name := "<init>", desc := "()V" } : MethodName) ∈ lw_tbl := in_tables_1_2 53 rfl
theorem w_294 : Cond.code ({ cls := "SnowKeeps$Sign", name := "<init>", desc := "()V" } : MethodName) prog_6_method_1_code (1 : Nat) (Option.none : Option FieldType) ∈ lw_tbl := in_tables_1_2 54 rfl
theorem w_295 : Cond.methodLink "SnowKeeps$Sign" (5 : Nat) ({ cls := "java/lang/Object", name := "<init>", desc := "()V" } : MethodName) ∈ lw_tbl := in_tables_1_2 55 rfl
theorem w_296 : Cond.fieldLink "SnowKeeps$Sign" (11 : Nat) "SnowKeeps$Sign" "bitOf" "[I" ∈ lw_tbl := in_tables_1_2 56 rfl
theorem w_297 : Cond.fieldLink "SnowKeeps" (420 : Nat) "SnowKeeps$Sign" "bitOf" "[I" ∈ lw_tbl := in_tables_1_2 57 rfl
theorem w_298 : Cond.fieldLink "SnowKeeps$Sign" (15 : Nat) "SnowKeeps$Sign" "size" "I" ∈ lw_tbl := in_tables_1_2 58 rfl
theorem w_299 : Cond.fieldLink "SnowKeeps$Sign" (19 : Nat) "SnowKeeps$Sign" "firstTold" "I" ∈ lw_tbl := in_tables_1_2 59 rfl
theorem w_300 : Cond.fieldLink "SnowKeeps$Sign" (22 : Nat) "SnowKeeps$Sign" "far" "[I" ∈ lw_tbl := in_tables_1_2 60 rfl
theorem w_301 : Cond.fieldLink "SnowKeeps$Sign" (25 : Nat) "SnowKeeps$Sign" "queue" "[I" ∈ lw_tbl := in_tables_1_2 61 rfl
theorem w_313 : Cond.classLink "SnowKeeps" (88 : Nat) "SnowKeeps$Unlike" ∈ lw_tbl := in_tables_1_2 73 rfl
theorem w_314 : Cond.instantiable "SnowKeeps$Unlike" (2 : Nat) ∈ lw_tbl := in_tables_1_2 74 rfl
theorem w_315 : Cond.methodLinkNest "SnowKeeps" (90 : Nat) ({ cls := "SnowKeeps$Unlike", name := "<init>", desc := "()V" } : MethodName) "SnowKeeps" ∈ lw_tbl := in_tables_1_2 75 rfl
theorem w_316 : Cond.instanceMethod ({ cls := "SnowKeeps$Unlike", name := "<init>", desc := "()V" } : MethodName) ∈ lw_tbl := in_tables_1_2 76 rfl
theorem w_317 : Cond.code ({ cls := "SnowKeeps$Unlike", name := "<init>", desc := "()V" } : MethodName) prog_11_method_1_code (1 : Nat) (Option.none : Option FieldType) ∈ lw_tbl := in_tables_1_2 77 rfl
theorem w_318 : Cond.methodLink "SnowKeeps$Unlike" (3 : Nat) ({ cls := "java/lang/Object", name := "<init>", desc := "()V" } : MethodName) ∈ lw_tbl := in_tables_1_2 78 rfl
theorem w_319 : Cond.fieldLink "SnowKeeps$Unlike" (9 : Nat) "SnowKeeps$Unlike" "size" "I" ∈ lw_tbl := in_tables_1_2 79 rfl
theorem w_320 : Cond.fieldLink "SnowKeeps" (406 : Nat) "SnowKeeps$Unlike" "size" "I" ∈ lw_tbl := in_tables_1_2 80 rfl
theorem w_321 : Cond.fieldLink "SnowKeeps$Unlike" (15 : Nat) "SnowKeeps$Unlike" "sets" "[J" ∈ lw_tbl := in_tables_1_2 81 rfl
theorem w_327 : Cond.instantiable "SnowKeeps$Tray" (3 : Nat) ∈ lw_tbl := in_tables_1_2 87 rfl
theorem w_328 : Cond.methodLinkNest "SnowKeeps" (108 : Nat) ({ cls := "SnowKeeps$Tray", name := "<init>", desc := "()V" } : MethodName) "SnowKeeps" ∈ lw_tbl := in_tables_1_2 88 rfl
theorem w_329 : Cond.instanceMethod ({ cls := "SnowKeeps$Tray", name := "<init>", desc := "()V" } : MethodName) ∈ lw_tbl := in_tables_1_2 89 rfl
theorem w_330 : Cond.code ({ cls := "SnowKeeps$Tray", name := "<init>", desc := "()V" } : MethodName) prog_9_method_1_code (1 : Nat) (Option.none : Option FieldType) ∈ lw_tbl := in_tables_1_2 90 rfl
theorem w_331 : Cond.methodLink "SnowKeeps$Tray" (3 : Nat) ({ cls := "java/lang/Object", name := "<init>", desc := "()V" } : MethodName) ∈ lw_tbl := in_tables_1_2 91 rfl
theorem w_332 : Cond.fieldLink "SnowKeeps$Tray" (9 : Nat) "SnowKeeps$Tray" "sort" "I" ∈ lw_tbl := in_tables_1_2 92 rfl
theorem w_333 : Cond.fieldLink "SnowKeeps$Tray" (15 : Nat) "SnowKeeps$Tray" "many" "I" ∈ lw_tbl := in_tables_1_2 93 rfl
theorem w_334 : Cond.fieldLink "SnowKeeps$Sign" (34 : Nat) "SnowKeeps$Tray" "many" "I" ∈ lw_tbl := in_tables_1_2 94 rfl
theorem w_335 : Cond.fieldLink "SnowKeeps" (246 : Nat) "SnowKeeps$Tray" "many" "I" ∈ lw_tbl := in_tables_1_2 95 rfl
theorem w_336 : Cond.fieldLink "SnowKeeps$Tray" (18 : Nat) "SnowKeeps$Tray" "numbers" "[J" ∈ lw_tbl := in_tables_1_2 96 rfl
theorem w_344 : Cond.fieldLink "SnowKeeps" (9 : Nat) "SnowKeeps" "tape" "[B" ∈ lw_tbl := in_tables_1_2 104 rfl
theorem w_345 : Cond.fieldLink "SnowKeeps" (13 : Nat) "SnowKeeps" "taped" "I" ∈ lw_tbl := in_tables_1_2 105 rfl
theorem w_346 : Cond.fieldLink "SnowKeeps" (17 : Nat) "SnowKeeps" "fault" "I" ∈ lw_tbl := in_tables_1_2 106 rfl
theorem w_347 : Cond.fieldLink "SnowKeeps" (20 : Nat) "SnowKeeps" "faultPlace" "I" ∈ lw_tbl := in_tables_1_2 107 rfl
theorem w_348 : Cond.fieldLink "SnowKeeps" (26 : Nat) "SnowKeeps" "now" "LSnowKeeps$Snow;" ∈ lw_tbl := in_tables_1_2 108 rfl
theorem w_349 : Cond.fieldLink "SnowKeeps" (30 : Nat) "SnowKeeps" "trial" "LSnowKeeps$Snow;" ∈ lw_tbl := in_tables_1_2 109 rfl
theorem w_350 : Cond.fieldLink "SnowKeeps" (33 : Nat) "SnowKeeps" "images" "[LSnowKeeps$Snow;" ∈ lw_tbl := in_tables_1_2 110 rfl
theorem w_351 : Cond.fieldLink "SnowKeeps" (39 : Nat) "SnowKeeps" "trays" "[LSnowKeeps$Tray;" ∈ lw_tbl := in_tables_1_2 111 rfl
theorem w_352 : Cond.fieldLink "SnowKeeps" (46 : Nat) "SnowKeeps" "leads" "LSnowKeeps$Leads;" ∈ lw_tbl := in_tables_1_2 112 rfl
theorem w_353 : Cond.fieldLink "SnowKeeps" (50 : Nat) "SnowKeeps" "wolfLeads" "LSnowKeeps$Leads;" ∈ lw_tbl := in_tables_1_2 113 rfl
theorem w_354 : Cond.fieldLink "SnowKeeps" (56 : Nat) "SnowKeeps" "turns" "LSnowKeeps$Turns;" ∈ lw_tbl := in_tables_1_2 114 rfl
theorem w_355 : Cond.fieldLink "SnowKeeps" (63 : Nat) "SnowKeeps" "guidesOut" "LSnowKeeps$Guides;" ∈ lw_tbl := in_tables_1_2 115 rfl
theorem w_356 : Cond.fieldLink "SnowKeeps" (70 : Nat) "SnowKeeps" "trails" "LSnowKeeps$Trails;" ∈ lw_tbl := in_tables_1_2 116 rfl
theorem w_357 : Cond.fieldLink "SnowKeeps" (77 : Nat) "SnowKeeps" "wander" "LSnowKeeps$Wander;" ∈ lw_tbl := in_tables_1_2 117 rfl
theorem w_358 : Cond.fieldLink "SnowKeeps" (84 : Nat) "SnowKeeps" "sign" "LSnowKeeps$Sign;" ∈ lw_tbl := in_tables_1_2 118 rfl
theorem w_359 : Cond.fieldLink "SnowKeeps" (91 : Nat) "SnowKeeps" "unlike" "LSnowKeeps$Unlike;" ∈ lw_tbl := in_tables_1_2 119 rfl
theorem w_360 : Cond.fieldLink "SnowKeeps" (95 : Nat) "SnowKeeps" "bag" "[I" ∈ lw_tbl := in_tables_1_2 120 rfl
theorem w_361 : Cond.fieldLink "SnowKeeps" (99 : Nat) "SnowKeeps" "blurRow" "[I" ∈ lw_tbl := in_tables_1_2 121 rfl
theorem w_362 : Cond.fieldLink "SnowKeeps" (102 : Nat) "SnowKeeps" "blurSteps" "I" ∈ lw_tbl := in_tables_1_2 122 rfl
theorem w_363 : Cond.fieldLink "SnowKeeps" (105 : Nat) "SnowKeeps" "blurPlaces" "I" ∈ lw_tbl := in_tables_1_2 123 rfl
theorem w_405 : Cond.methodLink "SnowKeepsLaw" (180 : Nat) ({ cls := "SnowKeeps", name := "feed", desc := "(IIIII)I" } : MethodName) ∈ lw_tbl := in_tables_1_2 165 rfl
theorem w_406 : Cond.instanceMethod ({ cls := "SnowKeeps", name := "feed", desc := "(IIIII)I" } : MethodName) ∈ lw_tbl := in_tables_1_2 166 rfl
theorem w_407 : Cond.selects "SnowKeeps" ({ cls := "SnowKeeps", name := "feed", desc := "(IIIII)I" } : MethodName) ({ cls := "SnowKeeps", name := "feed", desc := "(IIIII)I" } : MethodName) ∈ lw_tbl := in_tables_1_2 167 rfl
theorem w_408 : Cond.code ({ cls := "SnowKeeps", name := "feed", desc := "(IIIII)I" } : MethodName) prog_1_method_2_code (6 : Nat) (Option.some FieldType.int) ∈ lw_tbl := in_tables_1_2 168 rfl
theorem w_409 : Cond.methodLink "SnowKeeps" (109 : Nat) ({ cls := "SnowKeeps", name := "putOnTape", desc := "(I)V" } : MethodName) ∈ lw_tbl := in_tables_1_2 169 rfl
theorem w_411 : Cond.instanceMethod ({ cls := "SnowKeeps", name := "putOnTape", desc := "(I)V" } : MethodName) ∈ lw_tbl := in_tables_1_2 171 rfl
theorem w_412 : Cond.code ({ cls := "SnowKeeps", name := "putOnTape", desc := "(I)V" } : MethodName) prog_1_method_66_code (3 : Nat) (Option.none : Option FieldType) ∈ lw_tbl := in_tables_1_2 172 rfl
theorem w_413 : Cond.methodLink "SnowKeepsLaw" (195 : Nat) ({ cls := "SnowKeeps", name := "fault", desc := "(I)I" } : MethodName) ∈ lw_tbl := in_tables_1_2 173 rfl
theorem w_414 : Cond.instanceMethod ({ cls := "SnowKeeps", name := "fault", desc := "(I)I" } : MethodName) ∈ lw_tbl := in_tables_1_2 174 rfl
theorem w_415 : Cond.selects "SnowKeeps" ({ cls := "SnowKeeps", name := "fault", desc := "(I)I" } : MethodName) ({ cls := "SnowKeeps", name := "fault", desc := "(I)I" } : MethodName) ∈ lw_tbl := in_tables_1_2 175 rfl
theorem w_416 : Cond.code ({ cls := "SnowKeeps", name := "fault", desc := "(I)I" } : MethodName) prog_1_method_4_code (2 : Nat) (Option.some FieldType.int) ∈ lw_tbl := in_tables_1_2 176 rfl
theorem w_417 : Cond.methodLink "SnowKeepsLaw" (215 : Nat) ({ cls := "SnowKeeps", name := "step", desc := "(II)I" } : MethodName) ∈ lw_tbl := in_tables_1_2 177 rfl
theorem w_418 : Cond.instanceMethod ({ cls := "SnowKeeps", name := "step", desc := "(II)I" } : MethodName) ∈ lw_tbl := in_tables_1_2 178 rfl
theorem w_419 : Cond.selects "SnowKeeps" ({ cls := "SnowKeeps", name := "step", desc := "(II)I" } : MethodName) ({ cls := "SnowKeeps", name := "step", desc := "(II)I" } : MethodName) ∈ lw_tbl := in_tables_1_2 179 rfl
theorem w_420 : Cond.code ({ cls := "SnowKeeps", name := "step", desc := "(II)I" } : MethodName) prog_1_method_10_code (4 : Nat) (Option.some FieldType.int) ∈ lw_tbl := in_tables_1_2 180 rfl
theorem w_421 : Cond.methodLink "SnowKeeps" (204 : Nat) ({ cls := "SnowKeeps$Snow", name := "whyNot", desc := "(II)I" } : MethodName) ∈ lw_tbl := in_tables_1_2 181 rfl
theorem w_422 : Cond.instanceMethod ({ cls := "SnowKeeps$Snow", name := "whyNot", desc := "(II)I" } : MethodName) ∈ lw_tbl := in_tables_1_2 182 rfl
theorem w_423 : Cond.selects "SnowKeeps$Snow" ({ cls := "SnowKeeps$Snow", name := "whyNot", desc := "(II)I" } : MethodName) ({ cls := "SnowKeeps$Snow", name := "whyNot", desc := "(II)I" } : MethodName) ∈ lw_tbl := in_tables_1_2 183 rfl
theorem w_424 : Cond.code ({ cls := "SnowKeeps$Snow", name := "whyNot", desc := "(II)I" } : MethodName) prog_7_method_4_code (3 : Nat) (Option.some FieldType.int) ∈ lw_tbl := in_tables_1_2 184 rfl
theorem w_425 : Cond.methodLink "SnowKeeps$Snow" (65 : Nat) ({ cls := "SnowKeeps$Plain", name := "hasWalker", desc := "(I)Z" } : MethodName) ∈ lw_tbl := in_tables_1_2 185 rfl
theorem w_426 : Cond.instanceMethod ({ cls := "SnowKeeps$Plain", name := "hasWalker", desc := "(I)Z" } : MethodName) ∈ lw_tbl := in_tables_1_2 186 rfl
theorem w_427 : Cond.selects "SnowKeeps$Plain" ({ cls := "SnowKeeps$Plain", name := "hasWalker", desc := "(I)Z" } : MethodName) ({ cls := "SnowKeeps$Plain", name := "hasWalker", desc := "(I)Z" } : MethodName) ∈ lw_tbl := in_tables_1_2 187 rfl
theorem w_428 : Cond.code ({ cls := "SnowKeeps$Plain", name := "hasWalker", desc := "(I)Z" } : MethodName) prog_4_method_3_code (2 : Nat) (Option.some FieldType.boolean) ∈ lw_tbl := in_tables_1_2 188 rfl
theorem w_429 : Cond.methodLink "SnowKeeps$Snow" (69 : Nat) ({ cls := "SnowKeeps$Plain", name := "way", desc := "(II)I" } : MethodName) ∈ lw_tbl := in_tables_1_2 189 rfl
theorem w_430 : Cond.instanceMethod ({ cls := "SnowKeeps$Plain", name := "way", desc := "(II)I" } : MethodName) ∈ lw_tbl := in_tables_1_2 190 rfl
theorem w_431 : Cond.selects "SnowKeeps$Plain" ({ cls := "SnowKeeps$Plain", name := "way", desc := "(II)I" } : MethodName) ({ cls := "SnowKeeps$Plain", name := "way", desc := "(II)I" } : MethodName) ∈ lw_tbl := in_tables_1_2 191 rfl
theorem w_432 : Cond.code ({ cls := "SnowKeeps$Plain", name := "way", desc := "(II)I" } : MethodName) prog_4_method_4_code (3 : Nat) (Option.some FieldType.int) ∈ lw_tbl := in_tables_1_2 192 rfl
theorem w_433 : Cond.methodLink "SnowKeeps$Plain" (58 : Nat) ({ cls := "SnowKeeps$Plain", name := "hasPlace", desc := "(I)Z" } : MethodName) ∈ lw_tbl := in_tables_1_2 193 rfl
theorem w_434 : Cond.instanceMethod ({ cls := "SnowKeeps$Plain", name := "hasPlace", desc := "(I)Z" } : MethodName) ∈ lw_tbl := in_tables_1_2 194 rfl
theorem w_435 : Cond.selects "SnowKeeps$Plain" ({ cls := "SnowKeeps$Plain", name := "hasPlace", desc := "(I)Z" } : MethodName) ({ cls := "SnowKeeps$Plain", name := "hasPlace", desc := "(I)Z" } : MethodName) ∈ lw_tbl := in_tables_1_2 195 rfl
theorem w_436 : Cond.code ({ cls := "SnowKeeps$Plain", name := "hasPlace", desc := "(I)Z" } : MethodName) prog_4_method_2_code (2 : Nat) (Option.some FieldType.boolean) ∈ lw_tbl := in_tables_1_2 196 rfl
theorem w_437 : Cond.methodLink "SnowKeeps" (207 : Nat) ({ cls := "SnowKeeps$Snow", name := "go", desc := "(II)V" } : MethodName) ∈ lw_tbl := in_tables_1_2 197 rfl
theorem w_438 : Cond.instanceMethod ({ cls := "SnowKeeps$Snow", name := "go", desc := "(II)V" } : MethodName) ∈ lw_tbl := in_tables_1_2 198 rfl
theorem w_439 : Cond.selects "SnowKeeps$Snow" ({ cls := "SnowKeeps$Snow", name := "go", desc := "(II)V" } : MethodName) ({ cls := "SnowKeeps$Snow", name := "go", desc := "(II)V" } : MethodName) ∈ lw_tbl := in_tables_1_2 199 rfl
theorem w_440 : Cond.code ({ cls := "SnowKeeps$Snow", name := "go", desc := "(II)V" } : MethodName) prog_7_method_5_code (3 : Nat) (Option.none : Option FieldType) ∈ lw_tbl := in_tables_1_2 200 rfl
theorem w_441 : Cond.methodLink "SnowKeeps$Snow" (73 : Nat) ({ cls := "SnowKeeps$Snow", name := "whyNot", desc := "(II)I" } : MethodName) ∈ lw_tbl := in_tables_1_2 201 rfl
theorem w_442 : Cond.methodLink "SnowKeeps$Snow" (76 : Nat) ({ cls := "SnowKeeps$Snow", name := "log", desc := "(II)V" } : MethodName) ∈ lw_tbl := in_tables_1_2 202 rfl
theorem w_444 : Cond.instanceMethod ({ cls := "SnowKeeps$Snow", name := "log", desc := "(II)V" } : MethodName) ∈ lw_tbl := in_tables_1_2 204 rfl
theorem w_445 : Cond.code ({ cls := "SnowKeeps$Snow", name := "log", desc := "(II)V" } : MethodName) prog_7_method_6_code (3 : Nat) (Option.none : Option FieldType) ∈ lw_tbl := in_tables_1_2 205 rfl
theorem w_446 : Cond.methodLink "SnowKeeps$Snow" (53 : Nat) ({ cls := "java/lang/System", name := "arraycopy", desc := "(Ljava/lang/Object;ILjava/lang/Object;II)V" } : MethodName) ∈ lw_tbl := in_tables_1_2 206 rfl
theorem w_447 : Cond.static ({ cls := "java/lang/System", name := "arraycopy", desc := "(Ljava/lang/Object;ILjava/lang/Object;II)V" } : MethodName) ∈ lw_tbl := in_tables_1_2 207 rfl
theorem w_448 : Cond.native ({ cls := "java/lang/System", name := "arraycopy", desc := "(Ljava/lang/Object;ILjava/lang/Object;II)V" } : MethodName) ∈ lw_tbl := in_tables_1_2 208 rfl
theorem w_449 : Cond.methodLink "SnowKeeps$Snow" (80 : Nat) ({ cls := "java/lang/Math", name := "min", desc := "(II)I" } : MethodName) ∈ lw_tbl := in_tables_1_2 209 rfl
theorem w_450 : Cond.static ({ cls := "java/lang/Math", name := "min", desc := "(II)I" } : MethodName) ∈ lw_tbl := in_tables_1_2 210 rfl
theorem w_451 : Cond.code ({ cls := "java/lang/Math", name := "min", desc := "(II)I" } : MethodName) prog_27_method_69_code (2 : Nat) (Option.some FieldType.int) ∈ lw_tbl := in_tables_1_2 211 rfl
theorem w_452 : Cond.methodLink "SnowKeepsLaw" (222 : Nat) ({ cls := "SnowKeeps", name := "noon", desc := "()I" } : MethodName) ∈ lw_tbl := in_tables_1_2 212 rfl
theorem w_453 : Cond.instanceMethod ({ cls := "SnowKeeps", name := "noon", desc := "()I" } : MethodName) ∈ lw_tbl := in_tables_1_2 213 rfl
theorem w_454 : Cond.selects "SnowKeeps" ({ cls := "SnowKeeps", name := "noon", desc := "()I" } : MethodName) ({ cls := "SnowKeeps", name := "noon", desc := "()I" } : MethodName) ∈ lw_tbl := in_tables_1_2 214 rfl
theorem w_455 : Cond.code ({ cls := "SnowKeeps", name := "noon", desc := "()I" } : MethodName) prog_1_method_12_code (2 : Nat) (Option.some FieldType.int) ∈ lw_tbl := in_tables_1_2 215 rfl
theorem w_456 : Cond.methodLink "SnowKeepsLaw" (258 : Nat) ({ cls := "SnowKeeps", name := "bare", desc := "()I" } : MethodName) ∈ lw_tbl := in_tables_1_2 216 rfl
theorem w_457 : Cond.instanceMethod ({ cls := "SnowKeeps", name := "bare", desc := "()I" } : MethodName) ∈ lw_tbl := in_tables_1_2 217 rfl
theorem w_458 : Cond.selects "SnowKeeps" ({ cls := "SnowKeeps", name := "bare", desc := "()I" } : MethodName) ({ cls := "SnowKeeps", name := "bare", desc := "()I" } : MethodName) ∈ lw_tbl := in_tables_1_2 218 rfl
theorem w_459 : Cond.code ({ cls := "SnowKeeps", name := "bare", desc := "()I" } : MethodName) prog_1_method_23_code (4 : Nat) (Option.some FieldType.int) ∈ lw_tbl := in_tables_1_2 219 rfl
theorem w_460 : Cond.methodLink "SnowKeeps" (257 : Nat) ({ cls := "SnowKeeps$Snow", name := "waysWithPrints", desc := "()I" } : MethodName) ∈ lw_tbl := in_tables_1_2 220 rfl
theorem w_461 : Cond.instanceMethod ({ cls := "SnowKeeps$Snow", name := "waysWithPrints", desc := "()I" } : MethodName) ∈ lw_tbl := in_tables_1_2 221 rfl
theorem w_462 : Cond.selects "SnowKeeps$Snow" ({ cls := "SnowKeeps$Snow", name := "waysWithPrints", desc := "()I" } : MethodName) ({ cls := "SnowKeeps$Snow", name := "waysWithPrints", desc := "()I" } : MethodName) ∈ lw_tbl := in_tables_1_2 222 rfl
theorem w_463 : Cond.code ({ cls := "SnowKeeps$Snow", name := "waysWithPrints", desc := "()I" } : MethodName) prog_7_method_22_code (3 : Nat) (Option.some FieldType.int) ∈ lw_tbl := in_tables_1_2 223 rfl
theorem w_464 : Cond.methodLink "SnowKeeps$Snow" (107 : Nat) ({ cls := "SnowKeeps$Snow", name := "wayKept", desc := "(I)I" } : MethodName) ∈ lw_tbl := in_tables_1_2 224 rfl
theorem w_465 : Cond.instanceMethod ({ cls := "SnowKeeps$Snow", name := "wayKept", desc := "(I)I" } : MethodName) ∈ lw_tbl := in_tables_1_2 225 rfl
theorem w_466 : Cond.selects "SnowKeeps$Snow" ({ cls := "SnowKeeps$Snow", name := "wayKept", desc := "(I)I" } : MethodName) ({ cls := "SnowKeeps$Snow", name := "wayKept", desc := "(I)I" } : MethodName) ∈ lw_tbl := in_tables_1_2 226 rfl
theorem w_467 : Cond.code ({ cls := "SnowKeeps$Snow", name := "wayKept", desc := "(I)I" } : MethodName) prog_7_method_9_code (2 : Nat) (Option.some FieldType.int) ∈ lw_tbl := in_tables_1_2 227 rfl
theorem w_468 : Cond.methodLink "SnowKeeps$Snow" (113 : Nat) ({ cls := "SnowKeeps$Snow", name := "logAt", desc := "([III)I" } : MethodName) ∈ lw_tbl := in_tables_1_2 228 rfl
theorem w_470 : Cond.instanceMethod ({ cls := "SnowKeeps$Snow", name := "logAt", desc := "([III)I" } : MethodName) ∈ lw_tbl := in_tables_1_2 230 rfl
theorem w_471 : Cond.code ({ cls := "SnowKeeps$Snow", name := "logAt", desc := "([III)I" } : MethodName) prog_7_method_14_code (5 : Nat) (Option.some FieldType.int) ∈ lw_tbl := in_tables_1_2 231 rfl
theorem w_472 : Cond.methodLink "SnowKeepsLaw" (277 : Nat) ({ cls := "SnowKeeps", name := "wolves", desc := "()I" } : MethodName) ∈ lw_tbl := in_tables_1_2 232 rfl
theorem w_473 : Cond.instanceMethod ({ cls := "SnowKeeps", name := "wolves", desc := "()I" } : MethodName) ∈ lw_tbl := in_tables_1_2 233 rfl
theorem w_474 : Cond.selects "SnowKeeps" ({ cls := "SnowKeeps", name := "wolves", desc := "()I" } : MethodName) ({ cls := "SnowKeeps", name := "wolves", desc := "()I" } : MethodName) ∈ lw_tbl := in_tables_1_2 234 rfl
theorem w_475 : Cond.code ({ cls := "SnowKeeps", name := "wolves", desc := "()I" } : MethodName) prog_1_method_29_code (1 : Nat) (Option.some FieldType.int) ∈ lw_tbl := in_tables_1_2 235 rfl
theorem w_476 : Cond.methodLink "SnowKeeps" (308 : Nat) ({ cls := "SnowKeeps$Snow", name := "remembered", desc := "()I" } : MethodName) ∈ lw_tbl := in_tables_1_2 236 rfl
theorem w_477 : Cond.instanceMethod ({ cls := "SnowKeeps$Snow", name := "remembered", desc := "()I" } : MethodName) ∈ lw_tbl := in_tables_1_2 237 rfl
theorem w_478 : Cond.selects "SnowKeeps$Snow" ({ cls := "SnowKeeps$Snow", name := "remembered", desc := "()I" } : MethodName) ({ cls := "SnowKeeps$Snow", name := "remembered", desc := "()I" } : MethodName) ∈ lw_tbl := in_tables_1_2 238 rfl
theorem w_479 : Cond.code ({ cls := "SnowKeeps$Snow", name := "remembered", desc := "()I" } : MethodName) prog_7_method_11_code (1 : Nat) (Option.some FieldType.int) ∈ lw_tbl := in_tables_1_2 239 rfl
theorem w_480 : Cond.methodLink "SnowKeepsLaw" (320 : Nat) ({ cls := "SnowKeeps", name := "starts", desc := "()I" } : MethodName) ∈ lw_tbl := in_tables_1_3 0 rfl
theorem w_481 : Cond.instanceMethod ({ cls := "SnowKeeps", name := "starts", desc := "()I" } : MethodName) ∈ lw_tbl := in_tables_1_3 1 rfl
theorem w_482 : Cond.selects "SnowKeeps" ({ cls := "SnowKeeps", name := "starts", desc := "()I" } : MethodName) ({ cls := "SnowKeeps", name := "starts", desc := "()I" } : MethodName) ∈ lw_tbl := in_tables_1_3 2 rfl
theorem w_483 : Cond.code ({ cls := "SnowKeeps", name := "starts", desc := "()I" } : MethodName) prog_1_method_42_code (3 : Nat) (Option.some FieldType.int) ∈ lw_tbl := in_tables_1_3 3 rfl
theorem w_484 : Cond.methodLink "SnowKeeps" (357 : Nat) ({ cls := "SnowKeeps", name := "takeKept", desc := "(I)Z" } : MethodName) ∈ lw_tbl := in_tables_1_3 4 rfl
theorem w_486 : Cond.instanceMethod ({ cls := "SnowKeeps", name := "takeKept", desc := "(I)Z" } : MethodName) ∈ lw_tbl := in_tables_1_3 6 rfl
theorem w_487 : Cond.code ({ cls := "SnowKeeps", name := "takeKept", desc := "(I)Z" } : MethodName) prog_1_method_70_code (4 : Nat) (Option.some FieldType.boolean) ∈ lw_tbl := in_tables_1_3 7 rfl
theorem w_488 : Cond.methodLink "SnowKeeps" (493 : Nat) ({ cls := "java/util/Arrays", name := "fill", desc := "([II)V" } : MethodName) ∈ lw_tbl := in_tables_1_3 8 rfl
theorem w_489 : Cond.methodLink "SnowKeeps" (185 : Nat) ({ cls := "SnowKeeps$Snow", name := "wayKept", desc := "(I)I" } : MethodName) ∈ lw_tbl := in_tables_1_3 9 rfl
theorem w_490 : Cond.methodLink "SnowKeeps" (499 : Nat) ({ cls := "SnowKeeps$Trails", name := "load", desc := "(LSnowKeeps$Plain;[I)V" } : MethodName) ∈ lw_tbl := in_tables_1_3 10 rfl
theorem w_491 : Cond.instanceMethod ({ cls := "SnowKeeps$Trails", name := "load", desc := "(LSnowKeeps$Plain;[I)V" } : MethodName) ∈ lw_tbl := in_tables_1_3 11 rfl
theorem w_492 : Cond.selects "SnowKeeps$Trails" ({ cls := "SnowKeeps$Trails", name := "load", desc := "(LSnowKeeps$Plain;[I)V" } : MethodName) ({ cls := "SnowKeeps$Trails", name := "load", desc := "(LSnowKeeps$Plain;[I)V" } : MethodName) ∈ lw_tbl := in_tables_1_3 12 rfl
theorem w_493 : Cond.code ({ cls := "SnowKeeps$Trails", name := "load", desc := "(LSnowKeeps$Plain;[I)V" } : MethodName) prog_8_method_2_code (6 : Nat) (Option.none : Option FieldType) ∈ lw_tbl := in_tables_1_3 13 rfl
theorem w_494 : Cond.methodLink "SnowKeeps$Trails" (48 : Nat) ({ cls := "SnowKeeps$Trails", name := "bitsFor", desc := "(I)I" } : MethodName) ∈ lw_tbl := in_tables_1_3 14 rfl
theorem w_495 : Cond.static ({ cls := "SnowKeeps$Trails", name := "bitsFor", desc := "(I)I" } : MethodName) ∈ lw_tbl := in_tables_1_3 15 rfl
theorem w_496 : Cond.code ({ cls := "SnowKeeps$Trails", name := "bitsFor", desc := "(I)I" } : MethodName) prog_8_method_3_code (2 : Nat) (Option.some FieldType.int) ∈ lw_tbl := in_tables_1_3 16 rfl
theorem w_497 : Cond.methodLink "SnowKeeps" (363 : Nat) ({ cls := "SnowKeeps$Trails", name := "comeFrom", desc := "(I)J" } : MethodName) ∈ lw_tbl := in_tables_1_3 17 rfl
theorem w_498 : Cond.instanceMethod ({ cls := "SnowKeeps$Trails", name := "comeFrom", desc := "(I)J" } : MethodName) ∈ lw_tbl := in_tables_1_3 18 rfl
theorem w_499 : Cond.selects "SnowKeeps$Trails" ({ cls := "SnowKeeps$Trails", name := "comeFrom", desc := "(I)J" } : MethodName) ({ cls := "SnowKeeps$Trails", name := "comeFrom", desc := "(I)J" } : MethodName) ∈ lw_tbl := in_tables_1_3 19 rfl
theorem w_500 : Cond.code ({ cls := "SnowKeeps$Trails", name := "comeFrom", desc := "(I)J" } : MethodName) prog_8_method_5_code (2 : Nat) (Option.some FieldType.long) ∈ lw_tbl := in_tables_1_3 20 rfl
theorem w_501 : Cond.methodLink "SnowKeeps$Trails" (55 : Nat) ({ cls := "SnowKeeps$Trails", name := "countComing", desc := "(I[J)V" } : MethodName) ∈ lw_tbl := in_tables_1_3 21 rfl
theorem w_503 : Cond.instanceMethod ({ cls := "SnowKeeps$Trails", name := "countComing", desc := "(I[J)V" } : MethodName) ∈ lw_tbl := in_tables_1_3 23 rfl
theorem w_504 : Cond.code ({ cls := "SnowKeeps$Trails", name := "countComing", desc := "(I[J)V" } : MethodName) prog_8_method_6_code (6 : Nat) (Option.none : Option FieldType) ∈ lw_tbl := in_tables_1_3 24 rfl
theorem w_505 : Cond.methodLink "SnowKeeps$Trails" (59 : Nat) ({ cls := "java/util/Arrays", name := "fill", desc := "([JIIJ)V" } : MethodName) ∈ lw_tbl := in_tables_1_3 25 rfl
theorem w_506 : Cond.static ({ cls := "java/util/Arrays", name := "fill", desc := "([JIIJ)V" } : MethodName) ∈ lw_tbl := in_tables_1_3 26 rfl
theorem w_507 : Cond.code ({ cls := "java/util/Arrays", name := "fill", desc := "([JIIJ)V" } : MethodName) prog_38_method_102_code (6 : Nat) (Option.none : Option FieldType) ∈ lw_tbl := in_tables_1_3 27 rfl
theorem w_508 : Cond.methodLink "java/util/Arrays" (13 : Nat) ({ cls := "java/util/Arrays", name := "rangeCheck", desc := "(III)V" } : MethodName) ∈ lw_tbl := in_tables_1_3 28 rfl
theorem w_509 : Cond.static ({ cls := "java/util/Arrays", name := "rangeCheck", desc := "(III)V" } : MethodName) ∈ lw_tbl := in_tables_1_3 29 rfl
theorem w_510 : Cond.code ({ cls := "java/util/Arrays", name := "rangeCheck", desc := "(III)V" } : MethodName) prog_38_method_30_code (3 : Nat) (Option.none : Option FieldType) ∈ lw_tbl := in_tables_1_3 30 rfl
theorem w_511 : Cond.classLink "java/util/Arrays" (43 : Nat) "java/lang/IllegalArgumentException" ∈ lw_tbl := in_tables_1_3 31 rfl
theorem w_513 : Cond.castable "java/lang/IllegalArgumentException" "java/lang/IllegalArgumentException" ∈ lw_tbl := in_tables_1_3 33 rfl
theorem w_609 : Cond.static ({ cls := "java/lang/Math", name := "max", desc := "(II)I" } : MethodName) ∈ lw_tbl := in_tables_1_3 129 rfl
theorem w_610 : Cond.code ({ cls := "java/lang/Math", name := "max", desc := "(II)I" } : MethodName) prog_27_method_65_code (2 : Nat) (Option.some FieldType.int) ∈ lw_tbl := in_tables_1_3 130 rfl
theorem w_645 : Cond.fieldLink "java/lang/String" (1053 : Nat) "jdk/internal/util/Preconditions" "SIOOBE_FORMATTER" "Ljava/util/function/BiFunction;" ∈ lw_tbl := in_tables_1_3 165 rfl
theorem w_660 : Cond.instanceMethod ({ cls := "java/lang/String", name := "length", desc := "()I" } : MethodName) ∈ lw_tbl := in_tables_1_3 180 rfl
theorem w_661 : Cond.selects "java/lang/String" ({ cls := "java/lang/String", name := "length", desc := "()I" } : MethodName) ({ cls := "java/lang/String", name := "length", desc := "()I" } : MethodName) ∈ lw_tbl := in_tables_1_3 181 rfl
theorem w_662 : Cond.code ({ cls := "java/lang/String", name := "length", desc := "()I" } : MethodName) prog_30_method_54_code (1 : Nat) (Option.some FieldType.int) ∈ lw_tbl := in_tables_1_3 182 rfl
theorem w_663 : Cond.methodLink "java/lang/String" (335 : Nat) ({ cls := "java/lang/String", name := "coder", desc := "()B" } : MethodName) ∈ lw_tbl := in_tables_1_3 183 rfl
theorem w_664 : Cond.instanceMethod ({ cls := "java/lang/String", name := "coder", desc := "()B" } : MethodName) ∈ lw_tbl := in_tables_1_3 184 rfl
theorem w_665 : Cond.selects "java/lang/String" ({ cls := "java/lang/String", name := "coder", desc := "()B" } : MethodName) ({ cls := "java/lang/String", name := "coder", desc := "()B" } : MethodName) ∈ lw_tbl := in_tables_1_3 185 rfl
theorem w_666 : Cond.code ({ cls := "java/lang/String", name := "coder", desc := "()B" } : MethodName) prog_30_method_152_code (1 : Nat) (Option.some FieldType.byte) ∈ lw_tbl := in_tables_1_3 186 rfl
theorem w_667 : Cond.fieldLink "java/lang/String" (38 : Nat) "java/lang/String" "COMPACT_STRINGS" "Z" ∈ lw_tbl := in_tables_1_3 187 rfl
theorem w_804 : Cond.fieldLink "java/lang/String" (9 : Nat) "java/lang/String" "value" "[B" ∈ lw_tbl := in_tables_1_4 84 rfl
theorem w_805 : Cond.fieldLink "java/lang/String" (15 : Nat) "java/lang/String" "coder" "B" ∈ lw_tbl := in_tables_1_4 85 rfl
theorem w_815 : Cond.classLink "java/util/Arrays" (68 : Nat) "java/lang/ArrayIndexOutOfBoundsException" ∈ lw_tbl := in_tables_1_4 95 rfl
theorem w_841 : Cond.methodLink "SnowKeeps$Trails" (65 : Nat) ({ cls := "SnowKeeps$Trails", name := "mayGoOn", desc := "(II)Z" } : MethodName) ∈ lw_tbl := in_tables_1_4 121 rfl
theorem w_843 : Cond.instanceMethod ({ cls := "SnowKeeps$Trails", name := "mayGoOn", desc := "(II)Z" } : MethodName) ∈ lw_tbl := in_tables_1_4 123 rfl
theorem w_844 : Cond.code ({ cls := "SnowKeeps$Trails", name := "mayGoOn", desc := "(II)Z" } : MethodName) prog_8_method_4_code (3 : Nat) (Option.some FieldType.boolean) ∈ lw_tbl := in_tables_1_4 124 rfl
theorem w_845 : Cond.methodLink "SnowKeeps$Trails" (52 : Nat) ({ cls := "SnowKeeps$Plain", name := "begin", desc := "(I)I" } : MethodName) ∈ lw_tbl := in_tables_1_4 125 rfl
theorem w_846 : Cond.instanceMethod ({ cls := "SnowKeeps$Plain", name := "begin", desc := "(I)I" } : MethodName) ∈ lw_tbl := in_tables_1_4 126 rfl
theorem w_847 : Cond.selects "SnowKeeps$Plain" ({ cls := "SnowKeeps$Plain", name := "begin", desc := "(I)I" } : MethodName) ({ cls := "SnowKeeps$Plain", name := "begin", desc := "(I)I" } : MethodName) ∈ lw_tbl := in_tables_1_4 127 rfl
theorem w_848 : Cond.code ({ cls := "SnowKeeps$Plain", name := "begin", desc := "(I)I" } : MethodName) prog_4_method_5_code (2 : Nat) (Option.some FieldType.int) ∈ lw_tbl := in_tables_1_4 128 rfl
theorem w_849 : Cond.methodLink "SnowKeeps$Trails" (69 : Nat) ({ cls := "SnowKeeps$Plain", name := "end", desc := "(I)I" } : MethodName) ∈ lw_tbl := in_tables_1_4 129 rfl
theorem w_850 : Cond.instanceMethod ({ cls := "SnowKeeps$Plain", name := "end", desc := "(I)I" } : MethodName) ∈ lw_tbl := in_tables_1_4 130 rfl
theorem w_851 : Cond.selects "SnowKeeps$Plain" ({ cls := "SnowKeeps$Plain", name := "end", desc := "(I)I" } : MethodName) ({ cls := "SnowKeeps$Plain", name := "end", desc := "(I)I" } : MethodName) ∈ lw_tbl := in_tables_1_4 131 rfl
theorem w_852 : Cond.code ({ cls := "SnowKeeps$Plain", name := "end", desc := "(I)I" } : MethodName) prog_4_method_6_code (2 : Nat) (Option.some FieldType.int) ∈ lw_tbl := in_tables_1_4 132 rfl
theorem w_853 : Cond.methodLink "SnowKeepsLaw" (373 : Nat) ({ cls := "SnowKeeps", name := "count", desc := "(I)I" } : MethodName) ∈ lw_tbl := in_tables_1_4 133 rfl
theorem w_854 : Cond.instanceMethod ({ cls := "SnowKeeps", name := "count", desc := "(I)I" } : MethodName) ∈ lw_tbl := in_tables_1_4 134 rfl
theorem w_855 : Cond.selects "SnowKeeps" ({ cls := "SnowKeeps", name := "count", desc := "(I)I" } : MethodName) ({ cls := "SnowKeeps", name := "count", desc := "(I)I" } : MethodName) ∈ lw_tbl := in_tables_1_4 135 rfl
theorem w_856 : Cond.code ({ cls := "SnowKeeps", name := "count", desc := "(I)I" } : MethodName) prog_1_method_58_code (2 : Nat) (Option.some FieldType.int) ∈ lw_tbl := in_tables_1_4 136 rfl
theorem w_857 : Cond.methodLink "SnowKeepsLaw" (185 : Nat) ({ cls := "SnowKeepsLaw", name := "plain", desc := "(LSnowKeeps;I[J)I" } : MethodName) ∈ lw_tbl := in_tables_1_4 137 rfl
theorem w_858 : Cond.static ({ cls := "SnowKeepsLaw", name := "plain", desc := "(LSnowKeeps;I[J)I" } : MethodName) ∈ lw_tbl := in_tables_1_4 138 rfl
theorem w_859 : Cond.codeWith ({ cls := "SnowKeepsLaw", name := "plain", desc := "(LSnowKeeps;I[J)I" } : MethodName) method_3_code (4 : Nat) (Option.some FieldType.int) [((0 : Nat), (9 : Nat), (12 : Nat), (13 : Nat))] ∈ lw_tbl := in_tables_1_4 139 rfl
theorem w_860 : Cond.classLink "SnowKeepsLaw" (13 : Nat) "java/lang/IllegalArgumentException" ∈ lw_tbl := in_tables_1_4 140 rfl
theorem w_861 : Cond.methodLink "SnowKeepsLaw" (7 : Nat) ({ cls := "SnowKeeps", name := "plain", desc := "(I)I" } : MethodName) ∈ lw_tbl := in_tables_1_4 141 rfl
theorem w_862 : Cond.instanceMethod ({ cls := "SnowKeeps", name := "plain", desc := "(I)I" } : MethodName) ∈ lw_tbl := in_tables_1_4 142 rfl
theorem w_863 : Cond.selects "SnowKeeps" ({ cls := "SnowKeeps", name := "plain", desc := "(I)I" } : MethodName) ({ cls := "SnowKeeps", name := "plain", desc := "(I)I" } : MethodName) ∈ lw_tbl := in_tables_1_4 143 rfl
theorem w_864 : Cond.code ({ cls := "SnowKeeps", name := "plain", desc := "(I)I" } : MethodName) prog_1_method_3_code (4 : Nat) (Option.some FieldType.int) ∈ lw_tbl := in_tables_1_4 144 rfl
theorem w_865 : Cond.methodLink "SnowKeeps" (113 : Nat) ({ cls := "SnowKeeps", name := "askWithin", desc := "(III)V" } : MethodName) ∈ lw_tbl := in_tables_1_4 145 rfl
theorem w_866 : Cond.static ({ cls := "SnowKeeps", name := "askWithin", desc := "(III)V" } : MethodName) ∈ lw_tbl := in_tables_1_4 146 rfl
theorem w_867 : Cond.code ({ cls := "SnowKeeps", name := "askWithin", desc := "(III)V" } : MethodName) prog_1_method_64_code (3 : Nat) (Option.none : Option FieldType) ∈ lw_tbl := in_tables_1_4 147 rfl
theorem w_868 : Cond.classLink "SnowKeeps" (295 : Nat) "java/lang/IllegalArgumentException" ∈ lw_tbl := in_tables_1_4 148 rfl
theorem w_871 : Cond.classLink "SnowKeeps" (117 : Nat) "SnowKeeps$Reader" ∈ lw_tbl := in_tables_1_4 151 rfl
theorem w_872 : Cond.instantiable "SnowKeeps$Reader" (8 : Nat) ∈ lw_tbl := in_tables_1_4 152 rfl
theorem w_873 : Cond.methodLink "SnowKeeps" (119 : Nat) ({ cls := "SnowKeeps$Reader", name := "<init>", desc := "([BI)V" } : MethodName) ∈ lw_tbl := in_tables_1_4 153 rfl
theorem w_874 : Cond.instanceMethod ({ cls := "SnowKeeps$Reader", name := "<init>", desc := "([BI)V" } : MethodName) ∈ lw_tbl := in_tables_1_4 154 rfl
theorem w_875 : Cond.code ({ cls := "SnowKeeps$Reader", name := "<init>", desc := "([BI)V" } : MethodName) prog_5_method_1_code (3 : Nat) (Option.none : Option FieldType) ∈ lw_tbl := in_tables_1_4 155 rfl
theorem w_876 : Cond.methodLink "SnowKeeps$Reader" (3 : Nat) ({ cls := "java/lang/Object", name := "<init>", desc := "()V" } : MethodName) ∈ lw_tbl := in_tables_1_4 156 rfl
theorem w_877 : Cond.fieldLink "SnowKeeps$Reader" (30 : Nat) "SnowKeeps$Reader" "text" "[B" ∈ lw_tbl := in_tables_1_4 157 rfl
theorem w_878 : Cond.fieldLink "SnowKeeps$Reader" (34 : Nat) "SnowKeeps$Reader" "length" "I" ∈ lw_tbl := in_tables_1_4 158 rfl
theorem w_879 : Cond.fieldLink "SnowKeeps$Reader" (11 : Nat) "SnowKeeps$Reader" "kind" "I" ∈ lw_tbl := in_tables_1_4 159 rfl
theorem w_880 : Cond.fieldLink "SnowKeeps$Reader" (15 : Nat) "SnowKeeps$Reader" "begin" "I" ∈ lw_tbl := in_tables_1_4 160 rfl
theorem w_881 : Cond.fieldLink "SnowKeeps$Reader" (18 : Nat) "SnowKeeps$Reader" "end" "I" ∈ lw_tbl := in_tables_1_4 161 rfl
theorem w_882 : Cond.fieldLink "SnowKeeps$Reader" (21 : Nat) "SnowKeeps$Reader" "number" "I" ∈ lw_tbl := in_tables_1_4 162 rfl
theorem w_883 : Cond.fieldLink "SnowKeeps$Reader" (24 : Nat) "SnowKeeps$Reader" "fault" "I" ∈ lw_tbl := in_tables_1_4 163 rfl
theorem w_884 : Cond.fieldLink "SnowKeeps" (126 : Nat) "SnowKeeps$Reader" "fault" "I" ∈ lw_tbl := in_tables_1_4 164 rfl
theorem w_885 : Cond.fieldLink "SnowKeeps$Reader" (27 : Nat) "SnowKeeps$Reader" "faultPlace" "I" ∈ lw_tbl := in_tables_1_4 165 rfl
theorem w_886 : Cond.fieldLink "SnowKeeps" (127 : Nat) "SnowKeeps$Reader" "faultPlace" "I" ∈ lw_tbl := in_tables_1_4 166 rfl
theorem w_904 : Cond.methodLink "SnowKeeps" (122 : Nat) ({ cls := "SnowKeeps$Reader", name := "tell", desc := "()LSnowKeeps$Plain;" } : MethodName) ∈ lw_tbl := in_tables_1_4 184 rfl
theorem w_905 : Cond.instanceMethod ({ cls := "SnowKeeps$Reader", name := "tell", desc := "()LSnowKeeps$Plain;" } : MethodName) ∈ lw_tbl := in_tables_1_4 185 rfl
theorem w_906 : Cond.selects "SnowKeeps$Reader" ({ cls := "SnowKeeps$Reader", name := "tell", desc := "()LSnowKeeps$Plain;" } : MethodName) ({ cls := "SnowKeeps$Reader", name := "tell", desc := "()LSnowKeeps$Plain;" } : MethodName) ∈ lw_tbl := in_tables_1_4 186 rfl
theorem w_907 : Cond.code ({ cls := "SnowKeeps$Reader", name := "tell", desc := "()LSnowKeeps$Plain;" } : MethodName) prog_5_method_2_code (3 : Nat) (Option.some (FieldType.object "SnowKeeps$Plain")) ∈ lw_tbl := in_tables_1_4 187 rfl
theorem w_908 : Cond.classLink "SnowKeeps$Reader" (37 : Nat) "SnowKeeps$Plain" ∈ lw_tbl := in_tables_1_4 188 rfl
theorem w_909 : Cond.methodLink "SnowKeeps$Reader" (39 : Nat) ({ cls := "SnowKeeps$Plain", name := "<init>", desc := "()V" } : MethodName) ∈ lw_tbl := in_tables_1_4 189 rfl
theorem w_910 : Cond.methodLink "SnowKeeps$Reader" (40 : Nat) ({ cls := "SnowKeeps$Reader", name := "advance", desc := "()V" } : MethodName) ∈ lw_tbl := in_tables_1_4 190 rfl
theorem w_912 : Cond.instanceMethod ({ cls := "SnowKeeps$Reader", name := "advance", desc := "()V" } : MethodName) ∈ lw_tbl := in_tables_1_4 192 rfl
theorem w_913 : Cond.code ({ cls := "SnowKeeps$Reader", name := "advance", desc := "()V" } : MethodName) prog_5_method_15_code (1 : Nat) (Option.none : Option FieldType) ∈ lw_tbl := in_tables_1_4 193 rfl
theorem w_914 : Cond.methodLink "SnowKeeps$Reader" (144 : Nat) ({ cls := "SnowKeeps$Reader", name := "isLetter", desc := "(I)Z" } : MethodName) ∈ lw_tbl := in_tables_1_4 194 rfl
theorem w_915 : Cond.static ({ cls := "SnowKeeps$Reader", name := "isLetter", desc := "(I)Z" } : MethodName) ∈ lw_tbl := in_tables_1_4 195 rfl
theorem w_916 : Cond.code ({ cls := "SnowKeeps$Reader", name := "isLetter", desc := "(I)Z" } : MethodName) prog_5_method_17_code (1 : Nat) (Option.some FieldType.boolean) ∈ lw_tbl := in_tables_1_4 196 rfl
theorem w_917 : Cond.methodLink "SnowKeeps$Reader" (147 : Nat) ({ cls := "SnowKeeps$Reader", name := "isDigit", desc := "(I)Z" } : MethodName) ∈ lw_tbl := in_tables_1_4 197 rfl
theorem w_918 : Cond.static ({ cls := "SnowKeeps$Reader", name := "isDigit", desc := "(I)Z" } : MethodName) ∈ lw_tbl := in_tables_1_4 198 rfl
theorem w_919 : Cond.code ({ cls := "SnowKeeps$Reader", name := "isDigit", desc := "(I)Z" } : MethodName) prog_5_method_18_code (1 : Nat) (Option.some FieldType.boolean) ∈ lw_tbl := in_tables_1_4 199 rfl
theorem w_920 : Cond.methodLink "SnowKeeps$Reader" (150 : Nat) ({ cls := "SnowKeeps$Reader", name := "advanceDigits", desc := "()V" } : MethodName) ∈ lw_tbl := in_tables_1_4 200 rfl
theorem w_922 : Cond.instanceMethod ({ cls := "SnowKeeps$Reader", name := "advanceDigits", desc := "()V" } : MethodName) ∈ lw_tbl := in_tables_1_4 202 rfl
theorem w_923 : Cond.code ({ cls := "SnowKeeps$Reader", name := "advanceDigits", desc := "()V" } : MethodName) prog_5_method_16_code (1 : Nat) (Option.none : Option FieldType) ∈ lw_tbl := in_tables_1_4 203 rfl
theorem w_924 : Cond.methodLink "SnowKeeps$Reader" (43 : Nat) ({ cls := "SnowKeeps$Reader", name := "tellPlaces", desc := "(LSnowKeeps$Plain;)Z" } : MethodName) ∈ lw_tbl := in_tables_1_4 204 rfl
theorem w_926 : Cond.instanceMethod ({ cls := "SnowKeeps$Reader", name := "tellPlaces", desc := "(LSnowKeeps$Plain;)Z" } : MethodName) ∈ lw_tbl := in_tables_1_4 206 rfl
theorem w_927 : Cond.code ({ cls := "SnowKeeps$Reader", name := "tellPlaces", desc := "(LSnowKeeps$Plain;)Z" } : MethodName) prog_5_method_3_code (2 : Nat) (Option.some FieldType.boolean) ∈ lw_tbl := in_tables_1_4 207 rfl
theorem w_929 : Cond.methodLink "SnowKeeps$Reader" (52 : Nat) ({ cls := "SnowKeeps$Reader", name := "isWord", desc := "(Ljava/lang/String;)Z" } : MethodName) ∈ lw_tbl := in_tables_1_4 209 rfl
theorem w_931 : Cond.instanceMethod ({ cls := "SnowKeeps$Reader", name := "isWord", desc := "(Ljava/lang/String;)Z" } : MethodName) ∈ lw_tbl := in_tables_1_4 211 rfl
theorem w_932 : Cond.code ({ cls := "SnowKeeps$Reader", name := "isWord", desc := "(Ljava/lang/String;)Z" } : MethodName) prog_5_method_13_code (3 : Nat) (Option.some FieldType.boolean) ∈ lw_tbl := in_tables_1_4 212 rfl
theorem w_933 : Cond.methodLink "SnowKeeps$Reader" (135 : Nat) ({ cls := "java/lang/String", name := "length", desc := "()I" } : MethodName) ∈ lw_tbl := in_tables_1_4 213 rfl
theorem w_934 : Cond.methodLink "SnowKeeps$Reader" (140 : Nat) ({ cls := "java/lang/String", name := "charAt", desc := "(I)C" } : MethodName) ∈ lw_tbl := in_tables_1_4 214 rfl
theorem w_935 : Cond.instanceMethod ({ cls := "java/lang/String", name := "charAt", desc := "(I)C" } : MethodName) ∈ lw_tbl := in_tables_1_4 215 rfl
theorem w_936 : Cond.selects "java/lang/String" ({ cls := "java/lang/String", name := "charAt", desc := "(I)C" } : MethodName) ({ cls := "java/lang/String", name := "charAt", desc := "(I)C" } : MethodName) ∈ lw_tbl := in_tables_1_4 216 rfl
theorem w_937 : Cond.code ({ cls := "java/lang/String", name := "charAt", desc := "(I)C" } : MethodName) prog_30_method_56_code (2 : Nat) (Option.some FieldType.char) ∈ lw_tbl := in_tables_1_4 217 rfl
theorem w_938 : Cond.methodLink "java/lang/String" (492 : Nat) ({ cls := "java/lang/String", name := "isLatin1", desc := "()Z" } : MethodName) ∈ lw_tbl := in_tables_1_4 218 rfl
theorem w_939 : Cond.instanceMethod ({ cls := "java/lang/String", name := "isLatin1", desc := "()Z" } : MethodName) ∈ lw_tbl := in_tables_1_4 219 rfl
theorem w_940 : Cond.selects "java/lang/String" ({ cls := "java/lang/String", name := "isLatin1", desc := "()Z" } : MethodName) ({ cls := "java/lang/String", name := "isLatin1", desc := "()Z" } : MethodName) ∈ lw_tbl := in_tables_1_4 220 rfl
theorem w_941 : Cond.code ({ cls := "java/lang/String", name := "isLatin1", desc := "()Z" } : MethodName) prog_30_method_154_code (1 : Nat) (Option.some FieldType.boolean) ∈ lw_tbl := in_tables_1_4 221 rfl
theorem w_942 : Cond.methodLink "java/lang/String" (495 : Nat) ({ cls := "java/lang/StringLatin1", name := "charAt", desc := "([BI)C" } : MethodName) ∈ lw_tbl := in_tables_1_4 222 rfl
theorem w_943 : Cond.static ({ cls := "java/lang/StringLatin1", name := "charAt", desc := "([BI)C" } : MethodName) ∈ lw_tbl := in_tables_1_4 223 rfl
theorem w_944 : Cond.code ({ cls := "java/lang/StringLatin1", name := "charAt", desc := "([BI)C" } : MethodName) prog_32_method_2_code (2 : Nat) (Option.some FieldType.char) ∈ lw_tbl := in_tables_1_4 224 rfl
theorem w_945 : Cond.methodLink "java/lang/StringLatin1" (9 : Nat) ({ cls := "java/lang/String", name := "checkIndex", desc := "(II)V" } : MethodName) ∈ lw_tbl := in_tables_1_4 225 rfl
theorem w_946 : Cond.static ({ cls := "java/lang/String", name := "checkIndex", desc := "(II)V" } : MethodName) ∈ lw_tbl := in_tables_1_4 226 rfl
theorem w_947 : Cond.code ({ cls := "java/lang/String", name := "checkIndex", desc := "(II)V" } : MethodName) prog_30_method_155_code (2 : Nat) (Option.none : Option FieldType) ∈ lw_tbl := in_tables_1_4 227 rfl
theorem w_948 : Cond.methodLink "java/lang/String" (1059 : Nat) ({ cls := "jdk/internal/util/Preconditions", name := "checkIndex", desc := "(IILjava/util/function/BiFunction;)I" } : MethodName) ∈ lw_tbl := in_tables_1_4 228 rfl
theorem w_949 : Cond.static ({ cls := "jdk/internal/util/Preconditions", name := "checkIndex", desc := "(IILjava/util/function/BiFunction;)I" } : MethodName) ∈ lw_tbl := in_tables_1_4 229 rfl
theorem w_950 : Cond.code ({ cls := "jdk/internal/util/Preconditions", name := "checkIndex", desc := "(IILjava/util/function/BiFunction;)I" } : MethodName) prog_41_method_11_code (3 : Nat) (Option.some FieldType.int) ∈ lw_tbl := in_tables_1_4 230 rfl
theorem w_951 : Cond.methodLink "java/lang/String" (498 : Nat) ({ cls := "java/lang/StringUTF16", name := "charAt", desc := "([BI)C" } : MethodName) ∈ lw_tbl := in_tables_1_4 231 rfl
theorem w_958 : Cond.methodLink "SnowKeeps$Reader" (56 : Nat) ({ cls := "SnowKeeps$Reader", name := "fail", desc := "(I)Z" } : MethodName) ∈ lw_tbl := in_tables_1_4 238 rfl
theorem w_960 : Cond.instanceMethod ({ cls := "SnowKeeps$Reader", name := "fail", desc := "(I)Z" } : MethodName) ∈ lw_tbl := in_tables_1_5 0 rfl
theorem w_961 : Cond.code ({ cls := "SnowKeeps$Reader", name := "fail", desc := "(I)Z" } : MethodName) prog_5_method_14_code (2 : Nat) (Option.some FieldType.boolean) ∈ lw_tbl := in_tables_1_5 1 rfl
theorem w_962 : Cond.methodLink "SnowKeeps$Reader" (60 : Nat) ({ cls := "SnowKeeps$Reader", name := "isNumber", desc := "(II)Z" } : MethodName) ∈ lw_tbl := in_tables_1_5 2 rfl
theorem w_964 : Cond.instanceMethod ({ cls := "SnowKeeps$Reader", name := "isNumber", desc := "(II)Z" } : MethodName) ∈ lw_tbl := in_tables_1_5 4 rfl
theorem w_965 : Cond.code ({ cls := "SnowKeeps$Reader", name := "isNumber", desc := "(II)Z" } : MethodName) prog_5_method_12_code (3 : Nat) (Option.some FieldType.boolean) ∈ lw_tbl := in_tables_1_5 5 rfl
theorem w_966 : Cond.methodLink "SnowKeeps$Reader" (66 : Nat) ({ cls := "SnowKeeps$Reader", name := "endLine", desc := "(LSnowKeeps$Plain;)Z" } : MethodName) ∈ lw_tbl := in_tables_1_5 6 rfl
theorem w_968 : Cond.instanceMethod ({ cls := "SnowKeeps$Reader", name := "endLine", desc := "(LSnowKeeps$Plain;)Z" } : MethodName) ∈ lw_tbl := in_tables_1_5 8 rfl
theorem w_969 : Cond.code ({ cls := "SnowKeeps$Reader", name := "endLine", desc := "(LSnowKeeps$Plain;)Z" } : MethodName) prog_5_method_11_code (2 : Nat) (Option.some FieldType.boolean) ∈ lw_tbl := in_tables_1_5 9 rfl
theorem w_970 : Cond.methodLink "SnowKeeps$Reader" (47 : Nat) ({ cls := "SnowKeeps$Reader", name := "tellLine", desc := "(LSnowKeeps$Plain;)Z" } : MethodName) ∈ lw_tbl := in_tables_1_5 10 rfl
theorem w_972 : Cond.instanceMethod ({ cls := "SnowKeeps$Reader", name := "tellLine", desc := "(LSnowKeeps$Plain;)Z" } : MethodName) ∈ lw_tbl := in_tables_1_5 12 rfl
theorem w_973 : Cond.code ({ cls := "SnowKeeps$Reader", name := "tellLine", desc := "(LSnowKeeps$Plain;)Z" } : MethodName) prog_5_method_4_code (3 : Nat) (Option.some FieldType.boolean) ∈ lw_tbl := in_tables_1_5 13 rfl
theorem w_975 : Cond.methodLink "SnowKeeps$Reader" (71 : Nat) ({ cls := "SnowKeeps$Reader", name := "tellPath", desc := "(LSnowKeeps$Plain;)Z" } : MethodName) ∈ lw_tbl := in_tables_1_5 15 rfl
theorem w_977 : Cond.instanceMethod ({ cls := "SnowKeeps$Reader", name := "tellPath", desc := "(LSnowKeeps$Plain;)Z" } : MethodName) ∈ lw_tbl := in_tables_1_5 17 rfl
theorem w_978 : Cond.code ({ cls := "SnowKeeps$Reader", name := "tellPath", desc := "(LSnowKeeps$Plain;)Z" } : MethodName) prog_5_method_5_code (3 : Nat) (Option.some FieldType.boolean) ∈ lw_tbl := in_tables_1_5 18 rfl
theorem w_979 : Cond.methodLink "SnowKeeps$Reader" (97 : Nat) ({ cls := "SnowKeeps$Plain", name := "way", desc := "(II)I" } : MethodName) ∈ lw_tbl := in_tables_1_5 19 rfl
theorem w_980 : Cond.methodLink "SnowKeeps$Reader" (101 : Nat) ({ cls := "SnowKeeps$Plain", name := "addPath", desc := "(II)V" } : MethodName) ∈ lw_tbl := in_tables_1_5 20 rfl
theorem w_981 : Cond.instanceMethod ({ cls := "SnowKeeps$Plain", name := "addPath", desc := "(II)V" } : MethodName) ∈ lw_tbl := in_tables_1_5 21 rfl
theorem w_982 : Cond.selects "SnowKeeps$Plain" ({ cls := "SnowKeeps$Plain", name := "addPath", desc := "(II)V" } : MethodName) ({ cls := "SnowKeeps$Plain", name := "addPath", desc := "(II)V" } : MethodName) ∈ lw_tbl := in_tables_1_5 22 rfl
theorem w_983 : Cond.code ({ cls := "SnowKeeps$Plain", name := "addPath", desc := "(II)V" } : MethodName) prog_4_method_7_code (3 : Nat) (Option.none : Option FieldType) ∈ lw_tbl := in_tables_1_5 23 rfl
theorem w_985 : Cond.methodLink "SnowKeeps$Reader" (76 : Nat) ({ cls := "SnowKeeps$Reader", name := "tellWalker", desc := "(LSnowKeeps$Plain;)Z" } : MethodName) ∈ lw_tbl := in_tables_1_5 25 rfl
theorem w_987 : Cond.instanceMethod ({ cls := "SnowKeeps$Reader", name := "tellWalker", desc := "(LSnowKeeps$Plain;)Z" } : MethodName) ∈ lw_tbl := in_tables_1_5 27 rfl
theorem w_988 : Cond.code ({ cls := "SnowKeeps$Reader", name := "tellWalker", desc := "(LSnowKeeps$Plain;)Z" } : MethodName) prog_5_method_6_code (2 : Nat) (Option.some FieldType.boolean) ∈ lw_tbl := in_tables_1_5 28 rfl
theorem w_989 : Cond.methodLink "SnowKeeps$Reader" (108 : Nat) ({ cls := "SnowKeeps$Plain", name := "addWalker", desc := "(I)V" } : MethodName) ∈ lw_tbl := in_tables_1_5 29 rfl
theorem w_990 : Cond.instanceMethod ({ cls := "SnowKeeps$Plain", name := "addWalker", desc := "(I)V" } : MethodName) ∈ lw_tbl := in_tables_1_5 30 rfl
theorem w_991 : Cond.selects "SnowKeeps$Plain" ({ cls := "SnowKeeps$Plain", name := "addWalker", desc := "(I)V" } : MethodName) ({ cls := "SnowKeeps$Plain", name := "addWalker", desc := "(I)V" } : MethodName) ∈ lw_tbl := in_tables_1_5 31 rfl
theorem w_992 : Cond.code ({ cls := "SnowKeeps$Plain", name := "addWalker", desc := "(I)V" } : MethodName) prog_4_method_8_code (2 : Nat) (Option.none : Option FieldType) ∈ lw_tbl := in_tables_1_5 32 rfl
theorem w_994 : Cond.methodLink "SnowKeeps$Reader" (114 : Nat) ({ cls := "SnowKeeps$Reader", name := "tellBeat", desc := "(LSnowKeeps$Plain;)Z" } : MethodName) ∈ lw_tbl := in_tables_1_5 34 rfl
theorem w_996 : Cond.instanceMethod ({ cls := "SnowKeeps$Reader", name := "tellBeat", desc := "(LSnowKeeps$Plain;)Z" } : MethodName) ∈ lw_tbl := in_tables_1_5 36 rfl
theorem w_997 : Cond.code ({ cls := "SnowKeeps$Reader", name := "tellBeat", desc := "(LSnowKeeps$Plain;)Z" } : MethodName) prog_5_method_7_code (3 : Nat) (Option.some FieldType.boolean) ∈ lw_tbl := in_tables_1_5 37 rfl
theorem w_998 : Cond.methodLink "SnowKeeps$Reader" (117 : Nat) ({ cls := "SnowKeeps$Plain", name := "addToBeat", desc := "(I)V" } : MethodName) ∈ lw_tbl := in_tables_1_5 38 rfl
theorem w_999 : Cond.instanceMethod ({ cls := "SnowKeeps$Plain", name := "addToBeat", desc := "(I)V" } : MethodName) ∈ lw_tbl := in_tables_1_5 39 rfl
theorem w_1000 : Cond.selects "SnowKeeps$Plain" ({ cls := "SnowKeeps$Plain", name := "addToBeat", desc := "(I)V" } : MethodName) ({ cls := "SnowKeeps$Plain", name := "addToBeat", desc := "(I)V" } : MethodName) ∈ lw_tbl := in_tables_1_5 40 rfl
theorem w_1001 : Cond.code ({ cls := "SnowKeeps$Plain", name := "addToBeat", desc := "(I)V" } : MethodName) prog_4_method_9_code (3 : Nat) (Option.none : Option FieldType) ∈ lw_tbl := in_tables_1_5 41 rfl
theorem w_1003 : Cond.methodLink "SnowKeeps$Reader" (81 : Nat) ({ cls := "SnowKeeps$Reader", name := "tellKeep", desc := "(LSnowKeeps$Plain;)Z" } : MethodName) ∈ lw_tbl := in_tables_1_5 43 rfl
theorem w_1005 : Cond.instanceMethod ({ cls := "SnowKeeps$Reader", name := "tellKeep", desc := "(LSnowKeeps$Plain;)Z" } : MethodName) ∈ lw_tbl := in_tables_1_5 45 rfl
theorem w_1006 : Cond.code ({ cls := "SnowKeeps$Reader", name := "tellKeep", desc := "(LSnowKeeps$Plain;)Z" } : MethodName) prog_5_method_8_code (2 : Nat) (Option.some FieldType.boolean) ∈ lw_tbl := in_tables_1_5 46 rfl
theorem w_1008 : Cond.methodLink "SnowKeeps$Reader" (86 : Nat) ({ cls := "SnowKeeps$Reader", name := "tellStorm", desc := "(LSnowKeeps$Plain;)Z" } : MethodName) ∈ lw_tbl := in_tables_1_5 48 rfl
theorem w_1010 : Cond.instanceMethod ({ cls := "SnowKeeps$Reader", name := "tellStorm", desc := "(LSnowKeeps$Plain;)Z" } : MethodName) ∈ lw_tbl := in_tables_1_5 50 rfl
theorem w_1011 : Cond.code ({ cls := "SnowKeeps$Reader", name := "tellStorm", desc := "(LSnowKeeps$Plain;)Z" } : MethodName) prog_5_method_9_code (2 : Nat) (Option.some FieldType.boolean) ∈ lw_tbl := in_tables_1_5 51 rfl
theorem w_1013 : Cond.methodLink "SnowKeeps$Reader" (91 : Nat) ({ cls := "SnowKeeps$Reader", name := "tellWolves", desc := "(LSnowKeeps$Plain;)Z" } : MethodName) ∈ lw_tbl := in_tables_1_5 53 rfl
theorem w_1015 : Cond.instanceMethod ({ cls := "SnowKeeps$Reader", name := "tellWolves", desc := "(LSnowKeeps$Plain;)Z" } : MethodName) ∈ lw_tbl := in_tables_1_5 55 rfl
theorem w_1016 : Cond.code ({ cls := "SnowKeeps$Reader", name := "tellWolves", desc := "(LSnowKeeps$Plain;)Z" } : MethodName) prog_5_method_10_code (2 : Nat) (Option.some FieldType.boolean) ∈ lw_tbl := in_tables_1_5 56 rfl
theorem w_1017 : Cond.methodLink "SnowKeeps" (128 : Nat) ({ cls := "SnowKeeps$Snow", name := "begin", desc := "(LSnowKeeps$Plain;)V" } : MethodName) ∈ lw_tbl := in_tables_1_5 57 rfl
theorem w_1018 : Cond.instanceMethod ({ cls := "SnowKeeps$Snow", name := "begin", desc := "(LSnowKeeps$Plain;)V" } : MethodName) ∈ lw_tbl := in_tables_1_5 58 rfl
theorem w_1019 : Cond.selects "SnowKeeps$Snow" ({ cls := "SnowKeeps$Snow", name := "begin", desc := "(LSnowKeeps$Plain;)V" } : MethodName) ({ cls := "SnowKeeps$Snow", name := "begin", desc := "(LSnowKeeps$Plain;)V" } : MethodName) ∈ lw_tbl := in_tables_1_5 59 rfl
theorem w_1020 : Cond.code ({ cls := "SnowKeeps$Snow", name := "begin", desc := "(LSnowKeeps$Plain;)V" } : MethodName) prog_7_method_2_code (2 : Nat) (Option.none : Option FieldType) ∈ lw_tbl := in_tables_1_5 60 rfl
theorem w_1021 : Cond.methodLink "SnowKeeps$Snow" (59 : Nat) ({ cls := "java/util/Arrays", name := "fill", desc := "([II)V" } : MethodName) ∈ lw_tbl := in_tables_1_5 61 rfl
theorem w_1022 : Cond.methodLink "SnowKeepsLaw" (199 : Nat) ({ cls := "SnowKeepsLaw", name := "path", desc := "(LSnowKeeps;II[J)I" } : MethodName) ∈ lw_tbl := in_tables_1_5 62 rfl
theorem w_1023 : Cond.static ({ cls := "SnowKeepsLaw", name := "path", desc := "(LSnowKeeps;II[J)I" } : MethodName) ∈ lw_tbl := in_tables_1_5 63 rfl
theorem w_1024 : Cond.codeWith ({ cls := "SnowKeepsLaw", name := "path", desc := "(LSnowKeeps;II[J)I" } : MethodName) method_4_code (5 : Nat) (Option.some FieldType.int) [((0 : Nat), (10 : Nat), (13 : Nat), (19 : Nat)), ((0 : Nat), (10 : Nat), (17 : Nat), (13 : Nat))] ∈ lw_tbl := in_tables_1_5 64 rfl
theorem w_1025 : Cond.classLink "SnowKeepsLaw" (19 : Nat) "java/util/NoSuchElementException" ∈ lw_tbl := in_tables_1_5 65 rfl
theorem w_1026 : Cond.methodLink "SnowKeepsLaw" (15 : Nat) ({ cls := "SnowKeeps", name := "path", desc := "(II)I" } : MethodName) ∈ lw_tbl := in_tables_1_5 66 rfl
theorem w_1027 : Cond.instanceMethod ({ cls := "SnowKeeps", name := "path", desc := "(II)I" } : MethodName) ∈ lw_tbl := in_tables_1_5 67 rfl
theorem w_1028 : Cond.selects "SnowKeeps" ({ cls := "SnowKeeps", name := "path", desc := "(II)I" } : MethodName) ({ cls := "SnowKeeps", name := "path", desc := "(II)I" } : MethodName) ∈ lw_tbl := in_tables_1_5 68 rfl
theorem w_1029 : Cond.code ({ cls := "SnowKeeps", name := "path", desc := "(II)I" } : MethodName) prog_1_method_5_code (4 : Nat) (Option.some FieldType.int) ∈ lw_tbl := in_tables_1_5 69 rfl
theorem w_1030 : Cond.classLink "SnowKeeps" (144 : Nat) "java/util/NoSuchElementException" ∈ lw_tbl := in_tables_1_5 70 rfl
theorem w_1032 : Cond.castable "java/util/NoSuchElementException" "java/util/NoSuchElementException" ∈ lw_tbl := in_tables_1_5 72 rfl
theorem w_1046 : Cond.methodLink "SnowKeeps" (151 : Nat) ({ cls := "SnowKeeps$Plain", name := "begin", desc := "(I)I" } : MethodName) ∈ lw_tbl := in_tables_1_5 86 rfl
theorem w_1047 : Cond.methodLink "SnowKeeps" (154 : Nat) ({ cls := "SnowKeeps$Plain", name := "end", desc := "(I)I" } : MethodName) ∈ lw_tbl := in_tables_1_5 87 rfl
theorem w_1048 : Cond.methodLink "SnowKeeps" (157 : Nat) ({ cls := "SnowKeeps$Snow", name := "printsAlong", desc := "(I)I" } : MethodName) ∈ lw_tbl := in_tables_1_5 88 rfl
theorem w_1049 : Cond.instanceMethod ({ cls := "SnowKeeps$Snow", name := "printsAlong", desc := "(I)I" } : MethodName) ∈ lw_tbl := in_tables_1_5 89 rfl
theorem w_1050 : Cond.selects "SnowKeeps$Snow" ({ cls := "SnowKeeps$Snow", name := "printsAlong", desc := "(I)I" } : MethodName) ({ cls := "SnowKeeps$Snow", name := "printsAlong", desc := "(I)I" } : MethodName) ∈ lw_tbl := in_tables_1_5 90 rfl
theorem w_1051 : Cond.code ({ cls := "SnowKeeps$Snow", name := "printsAlong", desc := "(I)I" } : MethodName) prog_7_method_15_code (4 : Nat) (Option.some FieldType.int) ∈ lw_tbl := in_tables_1_5 91 rfl
theorem w_1052 : Cond.methodLink "SnowKeepsLaw" (203 : Nat) ({ cls := "SnowKeepsLaw", name := "distance", desc := "(LSnowKeeps;II[J)I" } : MethodName) ∈ lw_tbl := in_tables_1_5 92 rfl
theorem w_1053 : Cond.static ({ cls := "SnowKeepsLaw", name := "distance", desc := "(LSnowKeeps;II[J)I" } : MethodName) ∈ lw_tbl := in_tables_1_5 93 rfl
theorem w_1054 : Cond.codeWith ({ cls := "SnowKeepsLaw", name := "distance", desc := "(LSnowKeeps;II[J)I" } : MethodName) method_5_code (5 : Nat) (Option.some FieldType.int) [((0 : Nat), (10 : Nat), (13 : Nat), (19 : Nat))] ∈ lw_tbl := in_tables_1_5 94 rfl
theorem w_1055 : Cond.methodLink "SnowKeepsLaw" (21 : Nat) ({ cls := "SnowKeeps", name := "distance", desc := "(II)I" } : MethodName) ∈ lw_tbl := in_tables_1_5 95 rfl
theorem w_1056 : Cond.instanceMethod ({ cls := "SnowKeeps", name := "distance", desc := "(II)I" } : MethodName) ∈ lw_tbl := in_tables_1_5 96 rfl
theorem w_1057 : Cond.selects "SnowKeeps" ({ cls := "SnowKeeps", name := "distance", desc := "(II)I" } : MethodName) ({ cls := "SnowKeeps", name := "distance", desc := "(II)I" } : MethodName) ∈ lw_tbl := in_tables_1_5 97 rfl
theorem w_1058 : Cond.code ({ cls := "SnowKeeps", name := "distance", desc := "(II)I" } : MethodName) prog_1_method_6_code (3 : Nat) (Option.some FieldType.int) ∈ lw_tbl := in_tables_1_5 98 rfl
theorem w_1059 : Cond.methodLink "SnowKeeps" (160 : Nat) ({ cls := "SnowKeeps", name := "askPlace", desc := "(I)V" } : MethodName) ∈ lw_tbl := in_tables_1_5 99 rfl
theorem w_1061 : Cond.instanceMethod ({ cls := "SnowKeeps", name := "askPlace", desc := "(I)V" } : MethodName) ∈ lw_tbl := in_tables_1_5 101 rfl
theorem w_1062 : Cond.code ({ cls := "SnowKeeps", name := "askPlace", desc := "(I)V" } : MethodName) prog_1_method_59_code (2 : Nat) (Option.none : Option FieldType) ∈ lw_tbl := in_tables_1_5 102 rfl
theorem w_1063 : Cond.methodLink "SnowKeeps" (454 : Nat) ({ cls := "SnowKeeps$Plain", name := "hasPlace", desc := "(I)Z" } : MethodName) ∈ lw_tbl := in_tables_1_5 103 rfl
theorem w_1065 : Cond.methodLink "SnowKeeps" (163 : Nat) ({ cls := "SnowKeeps$Leads", name := "takePaths", desc := "(LSnowKeeps$Plain;)V" } : MethodName) ∈ lw_tbl := in_tables_1_5 105 rfl
theorem w_1066 : Cond.instanceMethod ({ cls := "SnowKeeps$Leads", name := "takePaths", desc := "(LSnowKeeps$Plain;)V" } : MethodName) ∈ lw_tbl := in_tables_1_5 106 rfl
theorem w_1067 : Cond.selects "SnowKeeps$Leads" ({ cls := "SnowKeeps$Leads", name := "takePaths", desc := "(LSnowKeeps$Plain;)V" } : MethodName) ({ cls := "SnowKeeps$Leads", name := "takePaths", desc := "(LSnowKeeps$Plain;)V" } : MethodName) ∈ lw_tbl := in_tables_1_5 107 rfl
theorem w_1068 : Cond.code ({ cls := "SnowKeeps$Leads", name := "takePaths", desc := "(LSnowKeeps$Plain;)V" } : MethodName) prog_3_method_2_code (3 : Nat) (Option.none : Option FieldType) ∈ lw_tbl := in_tables_1_5 108 rfl
theorem w_1069 : Cond.methodLink "SnowKeeps$Leads" (15 : Nat) ({ cls := "java/util/Arrays", name := "fill", desc := "([II)V" } : MethodName) ∈ lw_tbl := in_tables_1_5 109 rfl
theorem w_1070 : Cond.methodLink "SnowKeeps$Leads" (27 : Nat) ({ cls := "SnowKeeps$Leads", name := "lead", desc := "(LSnowKeeps$Plain;I)V" } : MethodName) ∈ lw_tbl := in_tables_1_5 110 rfl
theorem w_1072 : Cond.instanceMethod ({ cls := "SnowKeeps$Leads", name := "lead", desc := "(LSnowKeeps$Plain;I)V" } : MethodName) ∈ lw_tbl := in_tables_1_5 112 rfl
theorem w_1073 : Cond.code ({ cls := "SnowKeeps$Leads", name := "lead", desc := "(LSnowKeeps$Plain;I)V" } : MethodName) prog_3_method_6_code (4 : Nat) (Option.none : Option FieldType) ∈ lw_tbl := in_tables_1_5 113 rfl
theorem w_1074 : Cond.methodLink "SnowKeeps$Leads" (60 : Nat) ({ cls := "SnowKeeps$Plain", name := "begin", desc := "(I)I" } : MethodName) ∈ lw_tbl := in_tables_1_5 114 rfl
theorem w_1075 : Cond.methodLink "SnowKeeps$Leads" (63 : Nat) ({ cls := "SnowKeeps$Plain", name := "end", desc := "(I)I" } : MethodName) ∈ lw_tbl := in_tables_1_5 115 rfl
theorem w_1076 : Cond.methodLink "SnowKeeps" (166 : Nat) ({ cls := "SnowKeeps$Leads", name := "fewest", desc := "(II)I" } : MethodName) ∈ lw_tbl := in_tables_1_5 116 rfl
theorem w_1077 : Cond.instanceMethod ({ cls := "SnowKeeps$Leads", name := "fewest", desc := "(II)I" } : MethodName) ∈ lw_tbl := in_tables_1_5 117 rfl
theorem w_1078 : Cond.selects "SnowKeeps$Leads" ({ cls := "SnowKeeps$Leads", name := "fewest", desc := "(II)I" } : MethodName) ({ cls := "SnowKeeps$Leads", name := "fewest", desc := "(II)I" } : MethodName) ∈ lw_tbl := in_tables_1_5 118 rfl
theorem w_1079 : Cond.code ({ cls := "SnowKeeps$Leads", name := "fewest", desc := "(II)I" } : MethodName) prog_3_method_9_code (5 : Nat) (Option.some FieldType.int) ∈ lw_tbl := in_tables_1_5 119 rfl
theorem w_1080 : Cond.methodLink "SnowKeeps$Leads" (66 : Nat) ({ cls := "SnowKeeps$Leads", name := "onward", desc := "(I)I" } : MethodName) ∈ lw_tbl := in_tables_1_5 120 rfl
theorem w_1081 : Cond.instanceMethod ({ cls := "SnowKeeps$Leads", name := "onward", desc := "(I)I" } : MethodName) ∈ lw_tbl := in_tables_1_5 121 rfl
theorem w_1082 : Cond.selects "SnowKeeps$Leads" ({ cls := "SnowKeeps$Leads", name := "onward", desc := "(I)I" } : MethodName) ({ cls := "SnowKeeps$Leads", name := "onward", desc := "(I)I" } : MethodName) ∈ lw_tbl := in_tables_1_5 122 rfl
theorem w_1083 : Cond.code ({ cls := "SnowKeeps$Leads", name := "onward", desc := "(I)I" } : MethodName) prog_3_method_7_code (4 : Nat) (Option.some FieldType.int) ∈ lw_tbl := in_tables_1_5 123 rfl
theorem w_1084 : Cond.methodLink "SnowKeepsLaw" (206 : Nat) ({ cls := "SnowKeepsLaw", name := "walker", desc := "(LSnowKeeps;II[J)I" } : MethodName) ∈ lw_tbl := in_tables_1_5 124 rfl
theorem w_1085 : Cond.static ({ cls := "SnowKeepsLaw", name := "walker", desc := "(LSnowKeeps;II[J)I" } : MethodName) ∈ lw_tbl := in_tables_1_5 125 rfl
theorem w_1086 : Cond.codeWith ({ cls := "SnowKeepsLaw", name := "walker", desc := "(LSnowKeeps;II[J)I" } : MethodName) method_6_code (5 : Nat) (Option.some FieldType.int) [((0 : Nat), (10 : Nat), (13 : Nat), (19 : Nat)), ((0 : Nat), (10 : Nat), (17 : Nat), (13 : Nat))] ∈ lw_tbl := in_tables_1_5 126 rfl
theorem w_1087 : Cond.methodLink "SnowKeepsLaw" (24 : Nat) ({ cls := "SnowKeeps", name := "walker", desc := "(II)I" } : MethodName) ∈ lw_tbl := in_tables_1_5 127 rfl
theorem w_1088 : Cond.instanceMethod ({ cls := "SnowKeeps", name := "walker", desc := "(II)I" } : MethodName) ∈ lw_tbl := in_tables_1_5 128 rfl
theorem w_1089 : Cond.selects "SnowKeeps" ({ cls := "SnowKeeps", name := "walker", desc := "(II)I" } : MethodName) ({ cls := "SnowKeeps", name := "walker", desc := "(II)I" } : MethodName) ∈ lw_tbl := in_tables_1_5 129 rfl
theorem w_1090 : Cond.code ({ cls := "SnowKeeps", name := "walker", desc := "(II)I" } : MethodName) prog_1_method_7_code (4 : Nat) (Option.some FieldType.int) ∈ lw_tbl := in_tables_1_5 130 rfl
theorem w_1091 : Cond.methodLink "SnowKeeps" (170 : Nat) ({ cls := "SnowKeeps", name := "askWalker", desc := "(I)V" } : MethodName) ∈ lw_tbl := in_tables_1_5 131 rfl
theorem w_1093 : Cond.instanceMethod ({ cls := "SnowKeeps", name := "askWalker", desc := "(I)V" } : MethodName) ∈ lw_tbl := in_tables_1_5 133 rfl
theorem w_1094 : Cond.code ({ cls := "SnowKeeps", name := "askWalker", desc := "(I)V" } : MethodName) prog_1_method_60_code (2 : Nat) (Option.none : Option FieldType) ∈ lw_tbl := in_tables_1_5 134 rfl
theorem w_1095 : Cond.methodLink "SnowKeeps" (459 : Nat) ({ cls := "SnowKeeps$Plain", name := "hasWalker", desc := "(I)Z" } : MethodName) ∈ lw_tbl := in_tables_1_5 135 rfl
theorem w_1097 : Cond.methodLink "SnowKeeps" (179 : Nat) ({ cls := "SnowKeeps$Snow", name := "printsOf", desc := "(II)I" } : MethodName) ∈ lw_tbl := in_tables_1_5 137 rfl
theorem w_1098 : Cond.instanceMethod ({ cls := "SnowKeeps$Snow", name := "printsOf", desc := "(II)I" } : MethodName) ∈ lw_tbl := in_tables_1_5 138 rfl
theorem w_1099 : Cond.selects "SnowKeeps$Snow" ({ cls := "SnowKeeps$Snow", name := "printsOf", desc := "(II)I" } : MethodName) ({ cls := "SnowKeeps$Snow", name := "printsOf", desc := "(II)I" } : MethodName) ∈ lw_tbl := in_tables_1_5 139 rfl
theorem w_1100 : Cond.code ({ cls := "SnowKeeps$Snow", name := "printsOf", desc := "(II)I" } : MethodName) prog_7_method_17_code (5 : Nat) (Option.some FieldType.int) ∈ lw_tbl := in_tables_1_5 140 rfl
theorem w_1101 : Cond.methodLink "SnowKeeps$Snow" (103 : Nat) ({ cls := "SnowKeeps$Snow", name := "whoseKept", desc := "(I)I" } : MethodName) ∈ lw_tbl := in_tables_1_5 141 rfl
theorem w_1102 : Cond.instanceMethod ({ cls := "SnowKeeps$Snow", name := "whoseKept", desc := "(I)I" } : MethodName) ∈ lw_tbl := in_tables_1_5 142 rfl
theorem w_1103 : Cond.selects "SnowKeeps$Snow" ({ cls := "SnowKeeps$Snow", name := "whoseKept", desc := "(I)I" } : MethodName) ({ cls := "SnowKeeps$Snow", name := "whoseKept", desc := "(I)I" } : MethodName) ∈ lw_tbl := in_tables_1_5 143 rfl
theorem w_1104 : Cond.code ({ cls := "SnowKeeps$Snow", name := "whoseKept", desc := "(I)I" } : MethodName) prog_7_method_10_code (2 : Nat) (Option.some FieldType.int) ∈ lw_tbl := in_tables_1_5 144 rfl
theorem w_1105 : Cond.methodLink "SnowKeeps" (182 : Nat) ({ cls := "SnowKeeps$Snow", name := "eldestOf", desc := "(I)I" } : MethodName) ∈ lw_tbl := in_tables_1_5 145 rfl
theorem w_1106 : Cond.instanceMethod ({ cls := "SnowKeeps$Snow", name := "eldestOf", desc := "(I)I" } : MethodName) ∈ lw_tbl := in_tables_1_5 146 rfl
theorem w_1107 : Cond.selects "SnowKeeps$Snow" ({ cls := "SnowKeeps$Snow", name := "eldestOf", desc := "(I)I" } : MethodName) ({ cls := "SnowKeeps$Snow", name := "eldestOf", desc := "(I)I" } : MethodName) ∈ lw_tbl := in_tables_1_5 147 rfl
theorem w_1108 : Cond.code ({ cls := "SnowKeeps$Snow", name := "eldestOf", desc := "(I)I" } : MethodName) prog_7_method_18_code (3 : Nat) (Option.some FieldType.int) ∈ lw_tbl := in_tables_1_5 148 rfl
theorem w_1109 : Cond.methodLink "SnowKeepsLaw" (209 : Nat) ({ cls := "SnowKeepsLaw", name := "print", desc := "(LSnowKeeps;II[J)I" } : MethodName) ∈ lw_tbl := in_tables_1_5 149 rfl
theorem w_1110 : Cond.static ({ cls := "SnowKeepsLaw", name := "print", desc := "(LSnowKeeps;II[J)I" } : MethodName) ∈ lw_tbl := in_tables_1_5 150 rfl
theorem w_1111 : Cond.codeWith ({ cls := "SnowKeepsLaw", name := "print", desc := "(LSnowKeeps;II[J)I" } : MethodName) method_7_code (5 : Nat) (Option.some FieldType.int) [((0 : Nat), (10 : Nat), (13 : Nat), (19 : Nat)), ((0 : Nat), (10 : Nat), (17 : Nat), (13 : Nat))] ∈ lw_tbl := in_tables_1_5 151 rfl
theorem w_1112 : Cond.methodLink "SnowKeepsLaw" (27 : Nat) ({ cls := "SnowKeeps", name := "print", desc := "(II)I" } : MethodName) ∈ lw_tbl := in_tables_1_5 152 rfl
theorem w_1113 : Cond.instanceMethod ({ cls := "SnowKeeps", name := "print", desc := "(II)I" } : MethodName) ∈ lw_tbl := in_tables_1_5 153 rfl
theorem w_1114 : Cond.selects "SnowKeeps" ({ cls := "SnowKeeps", name := "print", desc := "(II)I" } : MethodName) ({ cls := "SnowKeeps", name := "print", desc := "(II)I" } : MethodName) ∈ lw_tbl := in_tables_1_5 154 rfl
theorem w_1115 : Cond.code ({ cls := "SnowKeeps", name := "print", desc := "(II)I" } : MethodName) prog_1_method_8_code (3 : Nat) (Option.some FieldType.int) ∈ lw_tbl := in_tables_1_5 155 rfl
theorem w_1117 : Cond.methodLink "SnowKeeps" (193 : Nat) ({ cls := "SnowKeeps$Snow", name := "whoseKept", desc := "(I)I" } : MethodName) ∈ lw_tbl := in_tables_1_5 157 rfl
theorem w_1118 : Cond.methodLink "SnowKeepsLaw" (212 : Nat) ({ cls := "SnowKeepsLaw", name := "keep", desc := "(LSnowKeeps;I[J)I" } : MethodName) ∈ lw_tbl := in_tables_1_5 158 rfl
theorem w_1119 : Cond.static ({ cls := "SnowKeepsLaw", name := "keep", desc := "(LSnowKeeps;I[J)I" } : MethodName) ∈ lw_tbl := in_tables_1_5 159 rfl
theorem w_1120 : Cond.codeWith ({ cls := "SnowKeepsLaw", name := "keep", desc := "(LSnowKeeps;I[J)I" } : MethodName) method_8_code (4 : Nat) (Option.some FieldType.int) [((0 : Nat), (9 : Nat), (12 : Nat), (13 : Nat))] ∈ lw_tbl := in_tables_1_5 160 rfl
theorem w_1121 : Cond.methodLink "SnowKeepsLaw" (30 : Nat) ({ cls := "SnowKeeps", name := "keep", desc := "(I)I" } : MethodName) ∈ lw_tbl := in_tables_1_5 161 rfl
theorem w_1122 : Cond.instanceMethod ({ cls := "SnowKeeps", name := "keep", desc := "(I)I" } : MethodName) ∈ lw_tbl := in_tables_1_5 162 rfl
theorem w_1123 : Cond.selects "SnowKeeps" ({ cls := "SnowKeeps", name := "keep", desc := "(I)I" } : MethodName) ({ cls := "SnowKeeps", name := "keep", desc := "(I)I" } : MethodName) ∈ lw_tbl := in_tables_1_5 163 rfl
theorem w_1124 : Cond.code ({ cls := "SnowKeeps", name := "keep", desc := "(I)I" } : MethodName) prog_1_method_9_code (2 : Nat) (Option.some FieldType.int) ∈ lw_tbl := in_tables_1_5 164 rfl
theorem w_1125 : Cond.methodLink "SnowKeeps" (199 : Nat) ({ cls := "java/lang/Math", name := "min", desc := "(II)I" } : MethodName) ∈ lw_tbl := in_tables_1_5 165 rfl
theorem w_1126 : Cond.methodLink "SnowKeepsLaw" (219 : Nat) ({ cls := "SnowKeepsLaw", name := "storm", desc := "(LSnowKeeps;I[J)I" } : MethodName) ∈ lw_tbl := in_tables_1_5 166 rfl
theorem w_1127 : Cond.static ({ cls := "SnowKeepsLaw", name := "storm", desc := "(LSnowKeeps;I[J)I" } : MethodName) ∈ lw_tbl := in_tables_1_5 167 rfl
theorem w_1128 : Cond.codeWith ({ cls := "SnowKeepsLaw", name := "storm", desc := "(LSnowKeeps;I[J)I" } : MethodName) method_9_code (4 : Nat) (Option.some FieldType.int) [((0 : Nat), (9 : Nat), (12 : Nat), (13 : Nat))] ∈ lw_tbl := in_tables_1_5 168 rfl
theorem w_1129 : Cond.methodLink "SnowKeepsLaw" (33 : Nat) ({ cls := "SnowKeeps", name := "storm", desc := "(I)I" } : MethodName) ∈ lw_tbl := in_tables_1_5 169 rfl
theorem w_1130 : Cond.instanceMethod ({ cls := "SnowKeeps", name := "storm", desc := "(I)I" } : MethodName) ∈ lw_tbl := in_tables_1_5 170 rfl
theorem w_1131 : Cond.selects "SnowKeeps" ({ cls := "SnowKeeps", name := "storm", desc := "(I)I" } : MethodName) ({ cls := "SnowKeeps", name := "storm", desc := "(I)I" } : MethodName) ∈ lw_tbl := in_tables_1_5 171 rfl
theorem w_1132 : Cond.code ({ cls := "SnowKeeps", name := "storm", desc := "(I)I" } : MethodName) prog_1_method_11_code (2 : Nat) (Option.some FieldType.int) ∈ lw_tbl := in_tables_1_5 172 rfl
theorem w_1133 : Cond.methodLink "SnowKeepsLaw" (226 : Nat) ({ cls := "SnowKeepsLaw", name := "rounds", desc := "(LSnowKeeps;I[J)I" } : MethodName) ∈ lw_tbl := in_tables_1_5 173 rfl
theorem w_1134 : Cond.static ({ cls := "SnowKeepsLaw", name := "rounds", desc := "(LSnowKeeps;I[J)I" } : MethodName) ∈ lw_tbl := in_tables_1_5 174 rfl
theorem w_1135 : Cond.codeWith ({ cls := "SnowKeepsLaw", name := "rounds", desc := "(LSnowKeeps;I[J)I" } : MethodName) method_10_code (4 : Nat) (Option.some FieldType.int) [((0 : Nat), (9 : Nat), (12 : Nat), (13 : Nat))] ∈ lw_tbl := in_tables_1_5 175 rfl
theorem w_1136 : Cond.methodLink "SnowKeepsLaw" (36 : Nat) ({ cls := "SnowKeeps", name := "rounds", desc := "(I)I" } : MethodName) ∈ lw_tbl := in_tables_1_5 176 rfl
theorem w_1137 : Cond.instanceMethod ({ cls := "SnowKeeps", name := "rounds", desc := "(I)I" } : MethodName) ∈ lw_tbl := in_tables_1_5 177 rfl
theorem w_1138 : Cond.selects "SnowKeeps" ({ cls := "SnowKeeps", name := "rounds", desc := "(I)I" } : MethodName) ({ cls := "SnowKeeps", name := "rounds", desc := "(I)I" } : MethodName) ∈ lw_tbl := in_tables_1_5 178 rfl
theorem w_1139 : Cond.code ({ cls := "SnowKeeps", name := "rounds", desc := "(I)I" } : MethodName) prog_1_method_13_code (4 : Nat) (Option.some FieldType.int) ∈ lw_tbl := in_tables_1_5 179 rfl
theorem w_1140 : Cond.methodLink "SnowKeeps" (211 : Nat) ({ cls := "SnowKeeps$Snow", name := "turn", desc := "()I" } : MethodName) ∈ lw_tbl := in_tables_1_5 180 rfl
theorem w_1141 : Cond.instanceMethod ({ cls := "SnowKeeps$Snow", name := "turn", desc := "()I" } : MethodName) ∈ lw_tbl := in_tables_1_5 181 rfl
theorem w_1142 : Cond.selects "SnowKeeps$Snow" ({ cls := "SnowKeeps$Snow", name := "turn", desc := "()I" } : MethodName) ({ cls := "SnowKeeps$Snow", name := "turn", desc := "()I" } : MethodName) ∈ lw_tbl := in_tables_1_5 182 rfl
theorem w_1143 : Cond.code ({ cls := "SnowKeeps$Snow", name := "turn", desc := "()I" } : MethodName) prog_7_method_7_code (4 : Nat) (Option.some FieldType.int) ∈ lw_tbl := in_tables_1_5 183 rfl
theorem w_1144 : Cond.methodLink "SnowKeeps$Snow" (97 : Nat) ({ cls := "SnowKeeps$Plain", name := "inBeat", desc := "(II)I" } : MethodName) ∈ lw_tbl := in_tables_1_5 184 rfl
theorem w_1145 : Cond.instanceMethod ({ cls := "SnowKeeps$Plain", name := "inBeat", desc := "(II)I" } : MethodName) ∈ lw_tbl := in_tables_1_5 185 rfl
theorem w_1146 : Cond.selects "SnowKeeps$Plain" ({ cls := "SnowKeeps$Plain", name := "inBeat", desc := "(II)I" } : MethodName) ({ cls := "SnowKeeps$Plain", name := "inBeat", desc := "(II)I" } : MethodName) ∈ lw_tbl := in_tables_1_5 186 rfl
theorem w_1147 : Cond.code ({ cls := "SnowKeeps$Plain", name := "inBeat", desc := "(II)I" } : MethodName) prog_4_method_10_code (3 : Nat) (Option.some FieldType.int) ∈ lw_tbl := in_tables_1_5 187 rfl
theorem w_1148 : Cond.methodLink "SnowKeeps$Plain" (62 : Nat) ({ cls := "SnowKeeps$Plain", name := "hasWalker", desc := "(I)Z" } : MethodName) ∈ lw_tbl := in_tables_1_5 188 rfl
theorem w_1149 : Cond.methodLink "SnowKeeps$Snow" (100 : Nat) ({ cls := "SnowKeeps$Snow", name := "go", desc := "(II)V" } : MethodName) ∈ lw_tbl := in_tables_1_5 189 rfl
theorem w_1150 : Cond.methodLink "SnowKeepsLaw" (229 : Nat) ({ cls := "SnowKeepsLaw", name := "beat", desc := "(LSnowKeeps;II[J)I" } : MethodName) ∈ lw_tbl := in_tables_1_5 190 rfl
theorem w_1151 : Cond.static ({ cls := "SnowKeepsLaw", name := "beat", desc := "(LSnowKeeps;II[J)I" } : MethodName) ∈ lw_tbl := in_tables_1_5 191 rfl
theorem w_1152 : Cond.codeWith ({ cls := "SnowKeepsLaw", name := "beat", desc := "(LSnowKeeps;II[J)I" } : MethodName) method_11_code (5 : Nat) (Option.some FieldType.int) [((0 : Nat), (10 : Nat), (13 : Nat), (19 : Nat)), ((0 : Nat), (10 : Nat), (17 : Nat), (13 : Nat))] ∈ lw_tbl := in_tables_1_5 192 rfl
theorem w_1153 : Cond.methodLink "SnowKeepsLaw" (39 : Nat) ({ cls := "SnowKeeps", name := "beat", desc := "(II)I" } : MethodName) ∈ lw_tbl := in_tables_1_5 193 rfl
theorem w_1154 : Cond.instanceMethod ({ cls := "SnowKeeps", name := "beat", desc := "(II)I" } : MethodName) ∈ lw_tbl := in_tables_1_5 194 rfl
theorem w_1155 : Cond.selects "SnowKeeps" ({ cls := "SnowKeeps", name := "beat", desc := "(II)I" } : MethodName) ({ cls := "SnowKeeps", name := "beat", desc := "(II)I" } : MethodName) ∈ lw_tbl := in_tables_1_5 195 rfl
theorem w_1156 : Cond.code ({ cls := "SnowKeeps", name := "beat", desc := "(II)I" } : MethodName) prog_1_method_14_code (3 : Nat) (Option.some FieldType.int) ∈ lw_tbl := in_tables_1_5 196 rfl
theorem w_1157 : Cond.methodLink "SnowKeeps" (221 : Nat) ({ cls := "SnowKeeps$Plain", name := "inBeat", desc := "(II)I" } : MethodName) ∈ lw_tbl := in_tables_1_5 197 rfl
theorem w_1158 : Cond.methodLink "SnowKeepsLaw" (232 : Nat) ({ cls := "SnowKeepsLaw", name := "again", desc := "(LSnowKeeps;I[J)I" } : MethodName) ∈ lw_tbl := in_tables_1_5 198 rfl
theorem w_1159 : Cond.static ({ cls := "SnowKeepsLaw", name := "again", desc := "(LSnowKeeps;I[J)I" } : MethodName) ∈ lw_tbl := in_tables_1_5 199 rfl
theorem w_1160 : Cond.codeWith ({ cls := "SnowKeepsLaw", name := "again", desc := "(LSnowKeeps;I[J)I" } : MethodName) method_12_code (4 : Nat) (Option.some FieldType.int) [((0 : Nat), (9 : Nat), (12 : Nat), (13 : Nat))] ∈ lw_tbl := in_tables_1_5 200 rfl
theorem w_1161 : Cond.methodLink "SnowKeepsLaw" (42 : Nat) ({ cls := "SnowKeeps", name := "again", desc := "(I)I" } : MethodName) ∈ lw_tbl := in_tables_1_5 201 rfl
theorem w_1162 : Cond.instanceMethod ({ cls := "SnowKeeps", name := "again", desc := "(I)I" } : MethodName) ∈ lw_tbl := in_tables_1_5 202 rfl
theorem w_1163 : Cond.selects "SnowKeeps" ({ cls := "SnowKeeps", name := "again", desc := "(I)I" } : MethodName) ({ cls := "SnowKeeps", name := "again", desc := "(I)I" } : MethodName) ∈ lw_tbl := in_tables_1_5 203 rfl
theorem w_1164 : Cond.code ({ cls := "SnowKeeps", name := "again", desc := "(I)I" } : MethodName) prog_1_method_15_code (2 : Nat) (Option.some FieldType.int) ∈ lw_tbl := in_tables_1_5 204 rfl
theorem w_1165 : Cond.methodLink "SnowKeeps" (224 : Nat) ({ cls := "SnowKeeps$Snow", name := "take", desc := "(LSnowKeeps$Snow;)V" } : MethodName) ∈ lw_tbl := in_tables_1_5 205 rfl
theorem w_1166 : Cond.instanceMethod ({ cls := "SnowKeeps$Snow", name := "take", desc := "(LSnowKeeps$Snow;)V" } : MethodName) ∈ lw_tbl := in_tables_1_5 206 rfl
theorem w_1167 : Cond.selects "SnowKeeps$Snow" ({ cls := "SnowKeeps$Snow", name := "take", desc := "(LSnowKeeps$Snow;)V" } : MethodName) ({ cls := "SnowKeeps$Snow", name := "take", desc := "(LSnowKeeps$Snow;)V" } : MethodName) ∈ lw_tbl := in_tables_1_5 207 rfl
theorem w_1168 : Cond.code ({ cls := "SnowKeeps$Snow", name := "take", desc := "(LSnowKeeps$Snow;)V" } : MethodName) prog_7_method_3_code (2 : Nat) (Option.none : Option FieldType) ∈ lw_tbl := in_tables_1_5 208 rfl
theorem w_1169 : Cond.methodLink "SnowKeeps" (228 : Nat) ({ cls := "SnowKeeps$Turns", name := "comesAgain", desc := "(LSnowKeeps$Snow;)Z" } : MethodName) ∈ lw_tbl := in_tables_1_5 209 rfl
theorem w_1170 : Cond.instanceMethod ({ cls := "SnowKeeps$Turns", name := "comesAgain", desc := "(LSnowKeeps$Snow;)Z" } : MethodName) ∈ lw_tbl := in_tables_1_5 210 rfl
theorem w_1171 : Cond.selects "SnowKeeps$Turns" ({ cls := "SnowKeeps$Turns", name := "comesAgain", desc := "(LSnowKeeps$Snow;)Z" } : MethodName) ({ cls := "SnowKeeps$Turns", name := "comesAgain", desc := "(LSnowKeeps$Snow;)Z" } : MethodName) ∈ lw_tbl := in_tables_1_5 211 rfl
theorem w_1172 : Cond.code ({ cls := "SnowKeeps$Turns", name := "comesAgain", desc := "(LSnowKeeps$Snow;)Z" } : MethodName) prog_10_method_2_code (4 : Nat) (Option.some FieldType.boolean) ∈ lw_tbl := in_tables_1_5 212 rfl
theorem w_1173 : Cond.methodLink "SnowKeeps$Turns" (23 : Nat) ({ cls := "SnowKeeps$Turns", name := "note", desc := "(LSnowKeeps$Snow;[I)V" } : MethodName) ∈ lw_tbl := in_tables_1_5 213 rfl
theorem w_1174 : Cond.static ({ cls := "SnowKeeps$Turns", name := "note", desc := "(LSnowKeeps$Snow;[I)V" } : MethodName) ∈ lw_tbl := in_tables_1_5 214 rfl
theorem w_1175 : Cond.code ({ cls := "SnowKeeps$Turns", name := "note", desc := "(LSnowKeeps$Snow;[I)V" } : MethodName) prog_10_method_3_code (3 : Nat) (Option.none : Option FieldType) ∈ lw_tbl := in_tables_1_5 215 rfl
theorem w_1176 : Cond.methodLink "SnowKeeps$Turns" (37 : Nat) ({ cls := "java/util/Arrays", name := "fill", desc := "([II)V" } : MethodName) ∈ lw_tbl := in_tables_1_5 216 rfl
theorem w_1177 : Cond.methodLink "SnowKeeps$Turns" (65 : Nat) ({ cls := "SnowKeeps$Snow", name := "wayKept", desc := "(I)I" } : MethodName) ∈ lw_tbl := in_tables_1_5 217 rfl
theorem w_1178 : Cond.methodLink "SnowKeeps$Turns" (69 : Nat) ({ cls := "SnowKeeps$Snow", name := "whoseKept", desc := "(I)I" } : MethodName) ∈ lw_tbl := in_tables_1_5 218 rfl
theorem w_1179 : Cond.methodLink "SnowKeeps$Turns" (27 : Nat) ({ cls := "SnowKeeps$Turns", name := "isSame", desc := "([I[I)Z" } : MethodName) ∈ lw_tbl := in_tables_1_5 219 rfl
theorem w_1180 : Cond.static ({ cls := "SnowKeeps$Turns", name := "isSame", desc := "([I[I)Z" } : MethodName) ∈ lw_tbl := in_tables_1_5 220 rfl
theorem w_1181 : Cond.code ({ cls := "SnowKeeps$Turns", name := "isSame", desc := "([I[I)Z" } : MethodName) prog_10_method_4_code (3 : Nat) (Option.some FieldType.boolean) ∈ lw_tbl := in_tables_1_5 221 rfl
theorem w_1182 : Cond.methodLink "SnowKeeps$Turns" (31 : Nat) ({ cls := "SnowKeeps$Snow", name := "turn", desc := "()I" } : MethodName) ∈ lw_tbl := in_tables_1_5 222 rfl
theorem w_1183 : Cond.methodLink "SnowKeepsLaw" (235 : Nat) ({ cls := "SnowKeepsLaw", name := "judge", desc := "(LSnowKeeps;II[J)I" } : MethodName) ∈ lw_tbl := in_tables_1_5 223 rfl
theorem w_1184 : Cond.static ({ cls := "SnowKeepsLaw", name := "judge", desc := "(LSnowKeeps;II[J)I" } : MethodName) ∈ lw_tbl := in_tables_1_5 224 rfl
theorem w_1185 : Cond.codeWith ({ cls := "SnowKeepsLaw", name := "judge", desc := "(LSnowKeeps;II[J)I" } : MethodName) method_13_code (5 : Nat) (Option.some FieldType.int) [((0 : Nat), (10 : Nat), (13 : Nat), (19 : Nat)), ((0 : Nat), (10 : Nat), (17 : Nat), (48 : Nat)), ((0 : Nat), (10 : Nat), (21 : Nat), (13 : Nat))] ∈ lw_tbl := in_tables_1_5 225 rfl
theorem w_1186 : Cond.classLink "SnowKeepsLaw" (48 : Nat) "java/lang/IllegalStateException" ∈ lw_tbl := in_tables_1_5 226 rfl
theorem w_1187 : Cond.methodLink "SnowKeepsLaw" (45 : Nat) ({ cls := "SnowKeeps", name := "judge", desc := "(II)I" } : MethodName) ∈ lw_tbl := in_tables_1_5 227 rfl
theorem w_1188 : Cond.instanceMethod ({ cls := "SnowKeeps", name := "judge", desc := "(II)I" } : MethodName) ∈ lw_tbl := in_tables_1_5 228 rfl
theorem w_1189 : Cond.selects "SnowKeeps" ({ cls := "SnowKeeps", name := "judge", desc := "(II)I" } : MethodName) ({ cls := "SnowKeeps", name := "judge", desc := "(II)I" } : MethodName) ∈ lw_tbl := in_tables_1_5 229 rfl
theorem w_1190 : Cond.code ({ cls := "SnowKeeps", name := "judge", desc := "(II)I" } : MethodName) prog_1_method_16_code (6 : Nat) (Option.some FieldType.int) ∈ lw_tbl := in_tables_1_5 230 rfl
theorem w_1191 : Cond.methodLink "SnowKeeps" (238 : Nat) ({ cls := "SnowKeeps", name := "askTold", desc := "(I)LSnowKeeps$Tray;" } : MethodName) ∈ lw_tbl := in_tables_1_5 231 rfl
theorem w_1193 : Cond.instanceMethod ({ cls := "SnowKeeps", name := "askTold", desc := "(I)LSnowKeeps$Tray;" } : MethodName) ∈ lw_tbl := in_tables_1_5 233 rfl
theorem w_1194 : Cond.code ({ cls := "SnowKeeps", name := "askTold", desc := "(I)LSnowKeeps$Tray;" } : MethodName) prog_1_method_62_code (3 : Nat) (Option.some (FieldType.object "SnowKeeps$Tray")) ∈ lw_tbl := in_tables_1_5 234 rfl
theorem w_1195 : Cond.methodLink "SnowKeeps" (426 : Nat) ({ cls := "SnowKeeps", name := "askTray", desc := "(I)LSnowKeeps$Tray;" } : MethodName) ∈ lw_tbl := in_tables_1_5 235 rfl
theorem w_1197 : Cond.instanceMethod ({ cls := "SnowKeeps", name := "askTray", desc := "(I)LSnowKeeps$Tray;" } : MethodName) ∈ lw_tbl := in_tables_1_5 237 rfl
theorem w_1198 : Cond.code ({ cls := "SnowKeeps", name := "askTray", desc := "(I)LSnowKeeps$Tray;" } : MethodName) prog_1_method_61_code (2 : Nat) (Option.some (FieldType.object "SnowKeeps$Tray")) ∈ lw_tbl := in_tables_1_5 238 rfl
theorem w_1200 : Cond.methodLink "SnowKeeps" (466 : Nat) ({ cls := "SnowKeeps$Tray", name := "isMissing", desc := "()Z" } : MethodName) ∈ lw_tbl := in_tables_1_6 0 rfl
theorem w_1201 : Cond.instanceMethod ({ cls := "SnowKeeps$Tray", name := "isMissing", desc := "()Z" } : MethodName) ∈ lw_tbl := in_tables_1_6 1 rfl
theorem w_1202 : Cond.selects "SnowKeeps$Tray" ({ cls := "SnowKeeps$Tray", name := "isMissing", desc := "()Z" } : MethodName) ({ cls := "SnowKeeps$Tray", name := "isMissing", desc := "()Z" } : MethodName) ∈ lw_tbl := in_tables_1_6 2 rfl
theorem w_1203 : Cond.code ({ cls := "SnowKeeps$Tray", name := "isMissing", desc := "()Z" } : MethodName) prog_9_method_2_code (1 : Nat) (Option.some FieldType.boolean) ∈ lw_tbl := in_tables_1_6 3 rfl
theorem w_1204 : Cond.classLink "SnowKeeps" (268 : Nat) "java/lang/IllegalStateException" ∈ lw_tbl := in_tables_1_6 4 rfl
theorem w_1206 : Cond.castable "java/lang/IllegalStateException" "java/lang/IllegalStateException" ∈ lw_tbl := in_tables_1_6 6 rfl
theorem w_1220 : Cond.methodLink "SnowKeeps" (242 : Nat) ({ cls := "SnowKeeps", name := "makeTold", desc := "(LSnowKeeps$Snow;LSnowKeeps$Tray;)I" } : MethodName) ∈ lw_tbl := in_tables_1_6 20 rfl
theorem w_1221 : Cond.static ({ cls := "SnowKeeps", name := "makeTold", desc := "(LSnowKeeps$Snow;LSnowKeeps$Tray;)I" } : MethodName) ∈ lw_tbl := in_tables_1_6 21 rfl
theorem w_1222 : Cond.code ({ cls := "SnowKeeps", name := "makeTold", desc := "(LSnowKeeps$Snow;LSnowKeeps$Tray;)I" } : MethodName) prog_1_method_67_code (5 : Nat) (Option.some FieldType.int) ∈ lw_tbl := in_tables_1_6 22 rfl
theorem w_1223 : Cond.methodLink "SnowKeeps" (249 : Nat) ({ cls := "SnowKeeps$Tray", name := "numberAt", desc := "(I)J" } : MethodName) ∈ lw_tbl := in_tables_1_6 23 rfl
theorem w_1224 : Cond.instanceMethod ({ cls := "SnowKeeps$Tray", name := "numberAt", desc := "(I)J" } : MethodName) ∈ lw_tbl := in_tables_1_6 24 rfl
theorem w_1225 : Cond.selects "SnowKeeps$Tray" ({ cls := "SnowKeeps$Tray", name := "numberAt", desc := "(I)J" } : MethodName) ({ cls := "SnowKeeps$Tray", name := "numberAt", desc := "(I)J" } : MethodName) ∈ lw_tbl := in_tables_1_6 25 rfl
theorem w_1226 : Cond.code ({ cls := "SnowKeeps$Tray", name := "numberAt", desc := "(I)J" } : MethodName) prog_9_method_4_code (2 : Nat) (Option.some FieldType.long) ∈ lw_tbl := in_tables_1_6 26 rfl
theorem w_1227 : Cond.methodLink "SnowKeeps" (253 : Nat) ({ cls := "SnowKeeps", name := "whyNotTold", desc := "(LSnowKeeps$Snow;J)I" } : MethodName) ∈ lw_tbl := in_tables_1_6 27 rfl
theorem w_1228 : Cond.static ({ cls := "SnowKeeps", name := "whyNotTold", desc := "(LSnowKeeps$Snow;J)I" } : MethodName) ∈ lw_tbl := in_tables_1_6 28 rfl
theorem w_1229 : Cond.code ({ cls := "SnowKeeps", name := "whyNotTold", desc := "(LSnowKeeps$Snow;J)I" } : MethodName) prog_1_method_68_code (3 : Nat) (Option.some FieldType.int) ∈ lw_tbl := in_tables_1_6 29 rfl
theorem w_1230 : Cond.constantLong "SnowKeeps" (481 : Nat) (100 : Int64) ∈ lw_tbl := in_tables_1_6 30 rfl
theorem w_1231 : Cond.methodLink "SnowKeeps" (260 : Nat) ({ cls := "java/lang/Integer", name := "bitCount", desc := "(I)I" } : MethodName) ∈ lw_tbl := in_tables_1_6 31 rfl
theorem w_1232 : Cond.static ({ cls := "java/lang/Integer", name := "bitCount", desc := "(I)I" } : MethodName) ∈ lw_tbl := in_tables_1_6 32 rfl
theorem w_1233 : Cond.code ({ cls := "java/lang/Integer", name := "bitCount", desc := "(I)I" } : MethodName) prog_26_method_49_code (1 : Nat) (Option.some FieldType.int) ∈ lw_tbl := in_tables_1_6 33 rfl
theorem w_1234 : Cond.constant "java/lang/Integer" (265 : Nat) (1431655765 : Int32) ∈ lw_tbl := in_tables_1_6 34 rfl
theorem w_1235 : Cond.constant "java/lang/Integer" (266 : Nat) (858993459 : Int32) ∈ lw_tbl := in_tables_1_6 35 rfl
theorem w_1236 : Cond.constant "java/lang/Integer" (267 : Nat) (252645135 : Int32) ∈ lw_tbl := in_tables_1_6 36 rfl
theorem w_1237 : Cond.methodLink "SnowKeepsLaw" (238 : Nat) ({ cls := "SnowKeepsLaw", name := "perform", desc := "(LSnowKeeps;I[J)I" } : MethodName) ∈ lw_tbl := in_tables_1_6 37 rfl
theorem w_1238 : Cond.static ({ cls := "SnowKeepsLaw", name := "perform", desc := "(LSnowKeeps;I[J)I" } : MethodName) ∈ lw_tbl := in_tables_1_6 38 rfl
theorem w_1239 : Cond.codeWith ({ cls := "SnowKeepsLaw", name := "perform", desc := "(LSnowKeeps;I[J)I" } : MethodName) method_14_code (4 : Nat) (Option.some FieldType.int) [((0 : Nat), (9 : Nat), (12 : Nat), (19 : Nat)), ((0 : Nat), (9 : Nat), (15 : Nat), (48 : Nat))] ∈ lw_tbl := in_tables_1_6 39 rfl
theorem w_1240 : Cond.methodLink "SnowKeepsLaw" (50 : Nat) ({ cls := "SnowKeeps", name := "perform", desc := "(I)I" } : MethodName) ∈ lw_tbl := in_tables_1_6 40 rfl
theorem w_1241 : Cond.instanceMethod ({ cls := "SnowKeeps", name := "perform", desc := "(I)I" } : MethodName) ∈ lw_tbl := in_tables_1_6 41 rfl
theorem w_1242 : Cond.selects "SnowKeeps" ({ cls := "SnowKeeps", name := "perform", desc := "(I)I" } : MethodName) ({ cls := "SnowKeeps", name := "perform", desc := "(I)I" } : MethodName) ∈ lw_tbl := in_tables_1_6 42 rfl
theorem w_1243 : Cond.code ({ cls := "SnowKeeps", name := "perform", desc := "(I)I" } : MethodName) prog_1_method_17_code (2 : Nat) (Option.some FieldType.int) ∈ lw_tbl := in_tables_1_6 43 rfl
theorem w_1244 : Cond.methodLink "SnowKeepsLaw" (241 : Nat) ({ cls := "SnowKeepsLaw", name := "day", desc := "(LSnowKeeps;II[J)I" } : MethodName) ∈ lw_tbl := in_tables_1_6 44 rfl
theorem w_1245 : Cond.static ({ cls := "SnowKeepsLaw", name := "day", desc := "(LSnowKeeps;II[J)I" } : MethodName) ∈ lw_tbl := in_tables_1_6 45 rfl
theorem w_1246 : Cond.codeWith ({ cls := "SnowKeepsLaw", name := "day", desc := "(LSnowKeeps;II[J)I" } : MethodName) method_15_code (5 : Nat) (Option.some FieldType.int) [((0 : Nat), (10 : Nat), (13 : Nat), (13 : Nat)), ((0 : Nat), (10 : Nat), (17 : Nat), (48 : Nat))] ∈ lw_tbl := in_tables_1_6 46 rfl
theorem w_1247 : Cond.methodLink "SnowKeepsLaw" (53 : Nat) ({ cls := "SnowKeeps", name := "day", desc := "(II)I" } : MethodName) ∈ lw_tbl := in_tables_1_6 47 rfl
theorem w_1248 : Cond.instanceMethod ({ cls := "SnowKeeps", name := "day", desc := "(II)I" } : MethodName) ∈ lw_tbl := in_tables_1_6 48 rfl
theorem w_1249 : Cond.selects "SnowKeeps" ({ cls := "SnowKeeps", name := "day", desc := "(II)I" } : MethodName) ({ cls := "SnowKeeps", name := "day", desc := "(II)I" } : MethodName) ∈ lw_tbl := in_tables_1_6 49 rfl
theorem w_1250 : Cond.code ({ cls := "SnowKeeps", name := "day", desc := "(II)I" } : MethodName) prog_1_method_18_code (9 : Nat) (Option.some FieldType.int) ∈ lw_tbl := in_tables_1_6 50 rfl
theorem w_1252 : Cond.constant "SnowKeeps" (273 : Nat) (1103515245 : Int32) ∈ lw_tbl := in_tables_1_6 52 rfl
theorem w_1253 : Cond.methodLink "SnowKeeps" (274 : Nat) ({ cls := "SnowKeeps$Plain", name := "near", desc := "(I)I" } : MethodName) ∈ lw_tbl := in_tables_1_6 53 rfl
theorem w_1254 : Cond.instanceMethod ({ cls := "SnowKeeps$Plain", name := "near", desc := "(I)I" } : MethodName) ∈ lw_tbl := in_tables_1_6 54 rfl
theorem w_1255 : Cond.selects "SnowKeeps$Plain" ({ cls := "SnowKeeps$Plain", name := "near", desc := "(I)I" } : MethodName) ({ cls := "SnowKeeps$Plain", name := "near", desc := "(I)I" } : MethodName) ∈ lw_tbl := in_tables_1_6 55 rfl
theorem w_1256 : Cond.code ({ cls := "SnowKeeps$Plain", name := "near", desc := "(I)I" } : MethodName) prog_4_method_11_code (4 : Nat) (Option.some FieldType.int) ∈ lw_tbl := in_tables_1_6 56 rfl
theorem w_1257 : Cond.methodLink "SnowKeeps$Plain" (65 : Nat) ({ cls := "SnowKeeps$Plain", name := "way", desc := "(II)I" } : MethodName) ∈ lw_tbl := in_tables_1_6 57 rfl
theorem w_1258 : Cond.methodLink "SnowKeeps" (277 : Nat) ({ cls := "SnowKeeps$Plain", name := "neighbour", desc := "(II)I" } : MethodName) ∈ lw_tbl := in_tables_1_6 58 rfl
theorem w_1259 : Cond.instanceMethod ({ cls := "SnowKeeps$Plain", name := "neighbour", desc := "(II)I" } : MethodName) ∈ lw_tbl := in_tables_1_6 59 rfl
theorem w_1260 : Cond.selects "SnowKeeps$Plain" ({ cls := "SnowKeeps$Plain", name := "neighbour", desc := "(II)I" } : MethodName) ({ cls := "SnowKeeps$Plain", name := "neighbour", desc := "(II)I" } : MethodName) ∈ lw_tbl := in_tables_1_6 60 rfl
theorem w_1261 : Cond.code ({ cls := "SnowKeeps$Plain", name := "neighbour", desc := "(II)I" } : MethodName) prog_4_method_12_code (5 : Nat) (Option.some FieldType.int) ∈ lw_tbl := in_tables_1_6 61 rfl
theorem w_1262 : Cond.methodLink "SnowKeepsLaw" (244 : Nat) ({ cls := "SnowKeepsLaw", name := "behind", desc := "(LSnowKeeps;III[J)I" } : MethodName) ∈ lw_tbl := in_tables_1_6 62 rfl
theorem w_1263 : Cond.static ({ cls := "SnowKeepsLaw", name := "behind", desc := "(LSnowKeeps;III[J)I" } : MethodName) ∈ lw_tbl := in_tables_1_6 63 rfl
theorem w_1264 : Cond.codeWith ({ cls := "SnowKeepsLaw", name := "behind", desc := "(LSnowKeeps;III[J)I" } : MethodName) method_16_code (6 : Nat) (Option.some FieldType.int) [((0 : Nat), (12 : Nat), (15 : Nat), (19 : Nat)), ((0 : Nat), (12 : Nat), (19 : Nat), (48 : Nat))] ∈ lw_tbl := in_tables_1_6 64 rfl
theorem w_1265 : Cond.methodLink "SnowKeepsLaw" (56 : Nat) ({ cls := "SnowKeeps", name := "behind", desc := "(III)I" } : MethodName) ∈ lw_tbl := in_tables_1_6 65 rfl
theorem w_1266 : Cond.instanceMethod ({ cls := "SnowKeeps", name := "behind", desc := "(III)I" } : MethodName) ∈ lw_tbl := in_tables_1_6 66 rfl
theorem w_1267 : Cond.selects "SnowKeeps" ({ cls := "SnowKeeps", name := "behind", desc := "(III)I" } : MethodName) ({ cls := "SnowKeeps", name := "behind", desc := "(III)I" } : MethodName) ∈ lw_tbl := in_tables_1_6 67 rfl
theorem w_1268 : Cond.code ({ cls := "SnowKeeps", name := "behind", desc := "(III)I" } : MethodName) prog_1_method_19_code (5 : Nat) (Option.some FieldType.int) ∈ lw_tbl := in_tables_1_6 68 rfl
theorem w_1269 : Cond.methodLink "SnowKeeps" (280 : Nat) ({ cls := "SnowKeeps$Plain", name := "way", desc := "(II)I" } : MethodName) ∈ lw_tbl := in_tables_1_6 69 rfl
theorem w_1270 : Cond.methodLink "SnowKeepsLaw" (248 : Nat) ({ cls := "SnowKeepsLaw", name := "prints", desc := "(LSnowKeeps;II[J)I" } : MethodName) ∈ lw_tbl := in_tables_1_6 70 rfl
theorem w_1271 : Cond.static ({ cls := "SnowKeepsLaw", name := "prints", desc := "(LSnowKeeps;II[J)I" } : MethodName) ∈ lw_tbl := in_tables_1_6 71 rfl
theorem w_1272 : Cond.codeWith ({ cls := "SnowKeepsLaw", name := "prints", desc := "(LSnowKeeps;II[J)I" } : MethodName) method_17_code (5 : Nat) (Option.some FieldType.int) [((0 : Nat), (10 : Nat), (13 : Nat), (19 : Nat))] ∈ lw_tbl := in_tables_1_6 72 rfl
theorem w_1273 : Cond.methodLink "SnowKeepsLaw" (60 : Nat) ({ cls := "SnowKeeps", name := "prints", desc := "(II)I" } : MethodName) ∈ lw_tbl := in_tables_1_6 73 rfl
theorem w_1274 : Cond.instanceMethod ({ cls := "SnowKeeps", name := "prints", desc := "(II)I" } : MethodName) ∈ lw_tbl := in_tables_1_6 74 rfl
theorem w_1275 : Cond.selects "SnowKeeps" ({ cls := "SnowKeeps", name := "prints", desc := "(II)I" } : MethodName) ({ cls := "SnowKeeps", name := "prints", desc := "(II)I" } : MethodName) ∈ lw_tbl := in_tables_1_6 75 rfl
theorem w_1276 : Cond.code ({ cls := "SnowKeeps", name := "prints", desc := "(II)I" } : MethodName) prog_1_method_20_code (3 : Nat) (Option.some FieldType.int) ∈ lw_tbl := in_tables_1_6 76 rfl
theorem w_1277 : Cond.methodLink "SnowKeepsLaw" (251 : Nat) ({ cls := "SnowKeepsLaw", name := "age", desc := "(LSnowKeeps;II[J)I" } : MethodName) ∈ lw_tbl := in_tables_1_6 77 rfl
theorem w_1278 : Cond.static ({ cls := "SnowKeepsLaw", name := "age", desc := "(LSnowKeeps;II[J)I" } : MethodName) ∈ lw_tbl := in_tables_1_6 78 rfl
theorem w_1279 : Cond.codeWith ({ cls := "SnowKeepsLaw", name := "age", desc := "(LSnowKeeps;II[J)I" } : MethodName) method_18_code (5 : Nat) (Option.some FieldType.int) [((0 : Nat), (10 : Nat), (13 : Nat), (19 : Nat))] ∈ lw_tbl := in_tables_1_6 79 rfl
theorem w_1280 : Cond.methodLink "SnowKeepsLaw" (63 : Nat) ({ cls := "SnowKeeps", name := "age", desc := "(II)I" } : MethodName) ∈ lw_tbl := in_tables_1_6 80 rfl
theorem w_1281 : Cond.instanceMethod ({ cls := "SnowKeeps", name := "age", desc := "(II)I" } : MethodName) ∈ lw_tbl := in_tables_1_6 81 rfl
theorem w_1282 : Cond.selects "SnowKeeps" ({ cls := "SnowKeeps", name := "age", desc := "(II)I" } : MethodName) ({ cls := "SnowKeeps", name := "age", desc := "(II)I" } : MethodName) ∈ lw_tbl := in_tables_1_6 82 rfl
theorem w_1283 : Cond.code ({ cls := "SnowKeeps", name := "age", desc := "(II)I" } : MethodName) prog_1_method_21_code (4 : Nat) (Option.some FieldType.int) ∈ lw_tbl := in_tables_1_6 83 rfl
theorem w_1284 : Cond.methodLink "SnowKeeps" (283 : Nat) ({ cls := "SnowKeeps$Snow", name := "latestAlong", desc := "(I)I" } : MethodName) ∈ lw_tbl := in_tables_1_6 84 rfl
theorem w_1285 : Cond.instanceMethod ({ cls := "SnowKeeps$Snow", name := "latestAlong", desc := "(I)I" } : MethodName) ∈ lw_tbl := in_tables_1_6 85 rfl
theorem w_1286 : Cond.selects "SnowKeeps$Snow" ({ cls := "SnowKeeps$Snow", name := "latestAlong", desc := "(I)I" } : MethodName) ({ cls := "SnowKeeps$Snow", name := "latestAlong", desc := "(I)I" } : MethodName) ∈ lw_tbl := in_tables_1_6 86 rfl
theorem w_1287 : Cond.code ({ cls := "SnowKeeps$Snow", name := "latestAlong", desc := "(I)I" } : MethodName) prog_7_method_16_code (4 : Nat) (Option.some FieldType.int) ∈ lw_tbl := in_tables_1_6 87 rfl
theorem w_1288 : Cond.methodLink "SnowKeepsLaw" (254 : Nat) ({ cls := "SnowKeepsLaw", name := "seen", desc := "(LSnowKeeps;IZ[J)I" } : MethodName) ∈ lw_tbl := in_tables_1_6 88 rfl
theorem w_1289 : Cond.static ({ cls := "SnowKeepsLaw", name := "seen", desc := "(LSnowKeeps;IZ[J)I" } : MethodName) ∈ lw_tbl := in_tables_1_6 89 rfl
theorem w_1290 : Cond.codeWith ({ cls := "SnowKeepsLaw", name := "seen", desc := "(LSnowKeeps;IZ[J)I" } : MethodName) method_19_code (5 : Nat) (Option.some FieldType.int) [((0 : Nat), (10 : Nat), (13 : Nat), (19 : Nat))] ∈ lw_tbl := in_tables_1_6 90 rfl
theorem w_1291 : Cond.methodLink "SnowKeepsLaw" (66 : Nat) ({ cls := "SnowKeeps", name := "seen", desc := "(IZ)I" } : MethodName) ∈ lw_tbl := in_tables_1_6 91 rfl
theorem w_1292 : Cond.instanceMethod ({ cls := "SnowKeeps", name := "seen", desc := "(IZ)I" } : MethodName) ∈ lw_tbl := in_tables_1_6 92 rfl
theorem w_1293 : Cond.selects "SnowKeeps" ({ cls := "SnowKeeps", name := "seen", desc := "(IZ)I" } : MethodName) ({ cls := "SnowKeeps", name := "seen", desc := "(IZ)I" } : MethodName) ∈ lw_tbl := in_tables_1_6 93 rfl
theorem w_1294 : Cond.code ({ cls := "SnowKeeps", name := "seen", desc := "(IZ)I" } : MethodName) prog_1_method_22_code (8 : Nat) (Option.some FieldType.int) ∈ lw_tbl := in_tables_1_6 94 rfl
theorem w_1295 : Cond.methodLink "SnowKeepsLaw" (262 : Nat) ({ cls := "SnowKeepsLaw", name := "crossing", desc := "(LSnowKeeps;II[J)I" } : MethodName) ∈ lw_tbl := in_tables_1_6 95 rfl
theorem w_1296 : Cond.static ({ cls := "SnowKeepsLaw", name := "crossing", desc := "(LSnowKeeps;II[J)I" } : MethodName) ∈ lw_tbl := in_tables_1_6 96 rfl
theorem w_1297 : Cond.codeWith ({ cls := "SnowKeepsLaw", name := "crossing", desc := "(LSnowKeeps;II[J)I" } : MethodName) method_20_code (5 : Nat) (Option.some FieldType.int) [((0 : Nat), (10 : Nat), (13 : Nat), (19 : Nat))] ∈ lw_tbl := in_tables_1_6 97 rfl
theorem w_1298 : Cond.methodLink "SnowKeepsLaw" (70 : Nat) ({ cls := "SnowKeeps", name := "crossing", desc := "(II)I" } : MethodName) ∈ lw_tbl := in_tables_1_6 98 rfl
theorem w_1299 : Cond.instanceMethod ({ cls := "SnowKeeps", name := "crossing", desc := "(II)I" } : MethodName) ∈ lw_tbl := in_tables_1_6 99 rfl
theorem w_1300 : Cond.selects "SnowKeeps" ({ cls := "SnowKeeps", name := "crossing", desc := "(II)I" } : MethodName) ({ cls := "SnowKeeps", name := "crossing", desc := "(II)I" } : MethodName) ∈ lw_tbl := in_tables_1_6 100 rfl
theorem w_1301 : Cond.code ({ cls := "SnowKeeps", name := "crossing", desc := "(II)I" } : MethodName) prog_1_method_24_code (3 : Nat) (Option.some FieldType.int) ∈ lw_tbl := in_tables_1_6 101 rfl
theorem w_1302 : Cond.methodLink "SnowKeeps" (286 : Nat) ({ cls := "SnowKeeps$Snow", name := "touchedBy", desc := "(I)I" } : MethodName) ∈ lw_tbl := in_tables_1_6 102 rfl
theorem w_1303 : Cond.instanceMethod ({ cls := "SnowKeeps$Snow", name := "touchedBy", desc := "(I)I" } : MethodName) ∈ lw_tbl := in_tables_1_6 103 rfl
theorem w_1304 : Cond.selects "SnowKeeps$Snow" ({ cls := "SnowKeeps$Snow", name := "touchedBy", desc := "(I)I" } : MethodName) ({ cls := "SnowKeeps$Snow", name := "touchedBy", desc := "(I)I" } : MethodName) ∈ lw_tbl := in_tables_1_6 104 rfl
theorem w_1305 : Cond.code ({ cls := "SnowKeeps$Snow", name := "touchedBy", desc := "(I)I" } : MethodName) prog_7_method_21_code (4 : Nat) (Option.some FieldType.int) ∈ lw_tbl := in_tables_1_6 105 rfl
theorem w_1306 : Cond.methodLink "SnowKeeps$Snow" (110 : Nat) ({ cls := "SnowKeeps$Plain", name := "begin", desc := "(I)I" } : MethodName) ∈ lw_tbl := in_tables_1_6 106 rfl
theorem w_1307 : Cond.methodLink "SnowKeeps$Snow" (124 : Nat) ({ cls := "SnowKeeps$Plain", name := "end", desc := "(I)I" } : MethodName) ∈ lw_tbl := in_tables_1_6 107 rfl
theorem w_1308 : Cond.methodLink "SnowKeepsLaw" (265 : Nat) ({ cls := "SnowKeepsLaw", name := "fades", desc := "(LSnowKeeps;II[J)I" } : MethodName) ∈ lw_tbl := in_tables_1_6 108 rfl
theorem w_1309 : Cond.static ({ cls := "SnowKeepsLaw", name := "fades", desc := "(LSnowKeeps;II[J)I" } : MethodName) ∈ lw_tbl := in_tables_1_6 109 rfl
theorem w_1310 : Cond.codeWith ({ cls := "SnowKeepsLaw", name := "fades", desc := "(LSnowKeeps;II[J)I" } : MethodName) method_21_code (5 : Nat) (Option.some FieldType.int) [((0 : Nat), (10 : Nat), (13 : Nat), (19 : Nat))] ∈ lw_tbl := in_tables_1_6 110 rfl
theorem w_1311 : Cond.methodLink "SnowKeepsLaw" (73 : Nat) ({ cls := "SnowKeeps", name := "fades", desc := "(II)I" } : MethodName) ∈ lw_tbl := in_tables_1_6 111 rfl
theorem w_1312 : Cond.instanceMethod ({ cls := "SnowKeeps", name := "fades", desc := "(II)I" } : MethodName) ∈ lw_tbl := in_tables_1_6 112 rfl
theorem w_1313 : Cond.selects "SnowKeeps" ({ cls := "SnowKeeps", name := "fades", desc := "(II)I" } : MethodName) ({ cls := "SnowKeeps", name := "fades", desc := "(II)I" } : MethodName) ∈ lw_tbl := in_tables_1_6 113 rfl
theorem w_1314 : Cond.code ({ cls := "SnowKeeps", name := "fades", desc := "(II)I" } : MethodName) prog_1_method_25_code (3 : Nat) (Option.some FieldType.int) ∈ lw_tbl := in_tables_1_6 114 rfl
theorem w_1315 : Cond.methodLink "SnowKeeps" (289 : Nat) ({ cls := "SnowKeeps$Snow", name := "stepsTillGone", desc := "(I)I" } : MethodName) ∈ lw_tbl := in_tables_1_6 115 rfl
theorem w_1316 : Cond.instanceMethod ({ cls := "SnowKeeps$Snow", name := "stepsTillGone", desc := "(I)I" } : MethodName) ∈ lw_tbl := in_tables_1_6 116 rfl
theorem w_1317 : Cond.selects "SnowKeeps$Snow" ({ cls := "SnowKeeps$Snow", name := "stepsTillGone", desc := "(I)I" } : MethodName) ({ cls := "SnowKeeps$Snow", name := "stepsTillGone", desc := "(I)I" } : MethodName) ∈ lw_tbl := in_tables_1_6 117 rfl
theorem w_1318 : Cond.code ({ cls := "SnowKeeps$Snow", name := "stepsTillGone", desc := "(I)I" } : MethodName) prog_7_method_20_code (2 : Nat) (Option.some FieldType.int) ∈ lw_tbl := in_tables_1_6 118 rfl
theorem w_1319 : Cond.methodLink "SnowKeepsLaw" (268 : Nat) ({ cls := "SnowKeepsLaw", name := "hired", desc := "(LSnowKeeps;I[J)I" } : MethodName) ∈ lw_tbl := in_tables_1_6 119 rfl
theorem w_1320 : Cond.static ({ cls := "SnowKeepsLaw", name := "hired", desc := "(LSnowKeeps;I[J)I" } : MethodName) ∈ lw_tbl := in_tables_1_6 120 rfl
theorem w_1321 : Cond.codeWith ({ cls := "SnowKeepsLaw", name := "hired", desc := "(LSnowKeeps;I[J)I" } : MethodName) method_22_code (4 : Nat) (Option.some FieldType.int) [((0 : Nat), (9 : Nat), (12 : Nat), (19 : Nat))] ∈ lw_tbl := in_tables_1_6 121 rfl
theorem w_1322 : Cond.methodLink "SnowKeepsLaw" (76 : Nat) ({ cls := "SnowKeeps", name := "hired", desc := "(I)I" } : MethodName) ∈ lw_tbl := in_tables_1_6 122 rfl
theorem w_1323 : Cond.instanceMethod ({ cls := "SnowKeeps", name := "hired", desc := "(I)I" } : MethodName) ∈ lw_tbl := in_tables_1_6 123 rfl
theorem w_1324 : Cond.selects "SnowKeeps" ({ cls := "SnowKeeps", name := "hired", desc := "(I)I" } : MethodName) ({ cls := "SnowKeeps", name := "hired", desc := "(I)I" } : MethodName) ∈ lw_tbl := in_tables_1_6 124 rfl
theorem w_1325 : Cond.code ({ cls := "SnowKeeps", name := "hired", desc := "(I)I" } : MethodName) prog_1_method_26_code (2 : Nat) (Option.some FieldType.int) ∈ lw_tbl := in_tables_1_6 125 rfl
theorem w_1326 : Cond.methodLink "SnowKeeps" (292 : Nat) ({ cls := "SnowKeeps$Snow", name := "latestOf", desc := "(I)I" } : MethodName) ∈ lw_tbl := in_tables_1_6 126 rfl
theorem w_1327 : Cond.instanceMethod ({ cls := "SnowKeeps$Snow", name := "latestOf", desc := "(I)I" } : MethodName) ∈ lw_tbl := in_tables_1_6 127 rfl
theorem w_1328 : Cond.selects "SnowKeeps$Snow" ({ cls := "SnowKeeps$Snow", name := "latestOf", desc := "(I)I" } : MethodName) ({ cls := "SnowKeeps$Snow", name := "latestOf", desc := "(I)I" } : MethodName) ∈ lw_tbl := in_tables_1_6 128 rfl
theorem w_1329 : Cond.code ({ cls := "SnowKeeps$Snow", name := "latestOf", desc := "(I)I" } : MethodName) prog_7_method_19_code (3 : Nat) (Option.some FieldType.int) ∈ lw_tbl := in_tables_1_6 129 rfl
theorem w_1330 : Cond.methodLink "SnowKeepsLaw" (271 : Nat) ({ cls := "SnowKeepsLaw", name := "remains", desc := "(LSnowKeeps;II[J)I" } : MethodName) ∈ lw_tbl := in_tables_1_6 130 rfl
theorem w_1331 : Cond.static ({ cls := "SnowKeepsLaw", name := "remains", desc := "(LSnowKeeps;II[J)I" } : MethodName) ∈ lw_tbl := in_tables_1_6 131 rfl
theorem w_1332 : Cond.codeWith ({ cls := "SnowKeepsLaw", name := "remains", desc := "(LSnowKeeps;II[J)I" } : MethodName) method_23_code (5 : Nat) (Option.some FieldType.int) [((0 : Nat), (10 : Nat), (13 : Nat), (19 : Nat)), ((0 : Nat), (10 : Nat), (17 : Nat), (13 : Nat))] ∈ lw_tbl := in_tables_1_6 132 rfl
theorem w_1333 : Cond.methodLink "SnowKeepsLaw" (79 : Nat) ({ cls := "SnowKeeps", name := "remains", desc := "(II)I" } : MethodName) ∈ lw_tbl := in_tables_1_6 133 rfl
theorem w_1334 : Cond.instanceMethod ({ cls := "SnowKeeps", name := "remains", desc := "(II)I" } : MethodName) ∈ lw_tbl := in_tables_1_6 134 rfl
theorem w_1335 : Cond.selects "SnowKeeps" ({ cls := "SnowKeeps", name := "remains", desc := "(II)I" } : MethodName) ({ cls := "SnowKeeps", name := "remains", desc := "(II)I" } : MethodName) ∈ lw_tbl := in_tables_1_6 135 rfl
theorem w_1336 : Cond.code ({ cls := "SnowKeeps", name := "remains", desc := "(II)I" } : MethodName) prog_1_method_27_code (5 : Nat) (Option.some FieldType.int) ∈ lw_tbl := in_tables_1_6 136 rfl
theorem w_1338 : Cond.methodLink "SnowKeeps" (300 : Nat) ({ cls := "java/lang/Math", name := "min", desc := "(JJ)J" } : MethodName) ∈ lw_tbl := in_tables_1_6 138 rfl
theorem w_1339 : Cond.static ({ cls := "java/lang/Math", name := "min", desc := "(JJ)J" } : MethodName) ∈ lw_tbl := in_tables_1_6 139 rfl
theorem w_1340 : Cond.code ({ cls := "java/lang/Math", name := "min", desc := "(JJ)J" } : MethodName) prog_27_method_70_code (4 : Nat) (Option.some FieldType.long) ∈ lw_tbl := in_tables_1_6 140 rfl
theorem w_1341 : Cond.methodLink "SnowKeeps" (303 : Nat) ({ cls := "java/lang/Math", name := "max", desc := "(JJ)J" } : MethodName) ∈ lw_tbl := in_tables_1_6 141 rfl
theorem w_1342 : Cond.static ({ cls := "java/lang/Math", name := "max", desc := "(JJ)J" } : MethodName) ∈ lw_tbl := in_tables_1_6 142 rfl
theorem w_1343 : Cond.code ({ cls := "java/lang/Math", name := "max", desc := "(JJ)J" } : MethodName) prog_27_method_66_code (4 : Nat) (Option.some FieldType.long) ∈ lw_tbl := in_tables_1_6 143 rfl
theorem w_1344 : Cond.methodLink "SnowKeepsLaw" (274 : Nat) ({ cls := "SnowKeepsLaw", name := "hires", desc := "(LSnowKeeps;II[J)I" } : MethodName) ∈ lw_tbl := in_tables_1_6 144 rfl
theorem w_1345 : Cond.static ({ cls := "SnowKeepsLaw", name := "hires", desc := "(LSnowKeeps;II[J)I" } : MethodName) ∈ lw_tbl := in_tables_1_6 145 rfl
theorem w_1346 : Cond.codeWith ({ cls := "SnowKeepsLaw", name := "hires", desc := "(LSnowKeeps;II[J)I" } : MethodName) method_24_code (5 : Nat) (Option.some FieldType.int) [((0 : Nat), (10 : Nat), (13 : Nat), (19 : Nat)), ((0 : Nat), (10 : Nat), (17 : Nat), (13 : Nat))] ∈ lw_tbl := in_tables_1_6 146 rfl
theorem w_1347 : Cond.methodLink "SnowKeepsLaw" (82 : Nat) ({ cls := "SnowKeeps", name := "hires", desc := "(II)I" } : MethodName) ∈ lw_tbl := in_tables_1_6 147 rfl
theorem w_1348 : Cond.instanceMethod ({ cls := "SnowKeeps", name := "hires", desc := "(II)I" } : MethodName) ∈ lw_tbl := in_tables_1_6 148 rfl
theorem w_1349 : Cond.selects "SnowKeeps" ({ cls := "SnowKeeps", name := "hires", desc := "(II)I" } : MethodName) ({ cls := "SnowKeeps", name := "hires", desc := "(II)I" } : MethodName) ∈ lw_tbl := in_tables_1_6 149 rfl
theorem w_1350 : Cond.code ({ cls := "SnowKeeps", name := "hires", desc := "(II)I" } : MethodName) prog_1_method_28_code (3 : Nat) (Option.some FieldType.int) ∈ lw_tbl := in_tables_1_6 150 rfl
theorem w_1352 : Cond.methodLink "SnowKeepsLaw" (281 : Nat) ({ cls := "SnowKeepsLaw", name := "wolf", desc := "(LSnowKeeps;II[J)I" } : MethodName) ∈ lw_tbl := in_tables_1_6 152 rfl
theorem w_1353 : Cond.static ({ cls := "SnowKeepsLaw", name := "wolf", desc := "(LSnowKeeps;II[J)I" } : MethodName) ∈ lw_tbl := in_tables_1_6 153 rfl
theorem w_1354 : Cond.codeWith ({ cls := "SnowKeepsLaw", name := "wolf", desc := "(LSnowKeeps;II[J)I" } : MethodName) method_25_code (5 : Nat) (Option.some FieldType.int) [((0 : Nat), (10 : Nat), (13 : Nat), (19 : Nat)), ((0 : Nat), (10 : Nat), (17 : Nat), (13 : Nat))] ∈ lw_tbl := in_tables_1_6 154 rfl
theorem w_1355 : Cond.methodLink "SnowKeepsLaw" (85 : Nat) ({ cls := "SnowKeeps", name := "wolf", desc := "(II)I" } : MethodName) ∈ lw_tbl := in_tables_1_6 155 rfl
theorem w_1356 : Cond.instanceMethod ({ cls := "SnowKeeps", name := "wolf", desc := "(II)I" } : MethodName) ∈ lw_tbl := in_tables_1_6 156 rfl
theorem w_1357 : Cond.selects "SnowKeeps" ({ cls := "SnowKeeps", name := "wolf", desc := "(II)I" } : MethodName) ({ cls := "SnowKeeps", name := "wolf", desc := "(II)I" } : MethodName) ∈ lw_tbl := in_tables_1_6 157 rfl
theorem w_1358 : Cond.code ({ cls := "SnowKeeps", name := "wolf", desc := "(II)I" } : MethodName) prog_1_method_30_code (3 : Nat) (Option.some FieldType.int) ∈ lw_tbl := in_tables_1_6 158 rfl
theorem w_1360 : Cond.methodLink "SnowKeeps" (313 : Nat) ({ cls := "SnowKeeps$Snow", name := "wayRemembered", desc := "(I)I" } : MethodName) ∈ lw_tbl := in_tables_1_6 160 rfl
theorem w_1361 : Cond.instanceMethod ({ cls := "SnowKeeps$Snow", name := "wayRemembered", desc := "(I)I" } : MethodName) ∈ lw_tbl := in_tables_1_6 161 rfl
theorem w_1362 : Cond.selects "SnowKeeps$Snow" ({ cls := "SnowKeeps$Snow", name := "wayRemembered", desc := "(I)I" } : MethodName) ({ cls := "SnowKeeps$Snow", name := "wayRemembered", desc := "(I)I" } : MethodName) ∈ lw_tbl := in_tables_1_6 162 rfl
theorem w_1363 : Cond.code ({ cls := "SnowKeeps$Snow", name := "wayRemembered", desc := "(I)I" } : MethodName) prog_7_method_12_code (2 : Nat) (Option.some FieldType.int) ∈ lw_tbl := in_tables_1_6 163 rfl
theorem w_1364 : Cond.methodLink "SnowKeeps$Snow" (120 : Nat) ({ cls := "SnowKeeps$Snow", name := "remembered", desc := "()I" } : MethodName) ∈ lw_tbl := in_tables_1_6 164 rfl
theorem w_1365 : Cond.methodLink "SnowKeeps" (316 : Nat) ({ cls := "SnowKeeps$Snow", name := "whoseRemembered", desc := "(I)I" } : MethodName) ∈ lw_tbl := in_tables_1_6 165 rfl
theorem w_1366 : Cond.instanceMethod ({ cls := "SnowKeeps$Snow", name := "whoseRemembered", desc := "(I)I" } : MethodName) ∈ lw_tbl := in_tables_1_6 166 rfl
theorem w_1367 : Cond.selects "SnowKeeps$Snow" ({ cls := "SnowKeeps$Snow", name := "whoseRemembered", desc := "(I)I" } : MethodName) ({ cls := "SnowKeeps$Snow", name := "whoseRemembered", desc := "(I)I" } : MethodName) ∈ lw_tbl := in_tables_1_6 167 rfl
theorem w_1368 : Cond.code ({ cls := "SnowKeeps$Snow", name := "whoseRemembered", desc := "(I)I" } : MethodName) prog_7_method_13_code (2 : Nat) (Option.some FieldType.int) ∈ lw_tbl := in_tables_1_6 168 rfl
theorem w_1369 : Cond.methodLink "SnowKeepsLaw" (284 : Nat) ({ cls := "SnowKeepsLaw", name := "hound", desc := "(LSnowKeeps;II[J)I" } : MethodName) ∈ lw_tbl := in_tables_1_6 169 rfl
theorem w_1370 : Cond.static ({ cls := "SnowKeepsLaw", name := "hound", desc := "(LSnowKeeps;II[J)I" } : MethodName) ∈ lw_tbl := in_tables_1_6 170 rfl
theorem w_1371 : Cond.codeWith ({ cls := "SnowKeepsLaw", name := "hound", desc := "(LSnowKeeps;II[J)I" } : MethodName) method_26_code (5 : Nat) (Option.some FieldType.int) [((0 : Nat), (10 : Nat), (13 : Nat), (19 : Nat)), ((0 : Nat), (10 : Nat), (17 : Nat), (13 : Nat))] ∈ lw_tbl := in_tables_1_6 171 rfl
theorem w_1372 : Cond.methodLink "SnowKeepsLaw" (88 : Nat) ({ cls := "SnowKeeps", name := "hound", desc := "(II)I" } : MethodName) ∈ lw_tbl := in_tables_1_6 172 rfl
theorem w_1373 : Cond.instanceMethod ({ cls := "SnowKeeps", name := "hound", desc := "(II)I" } : MethodName) ∈ lw_tbl := in_tables_1_6 173 rfl
theorem w_1374 : Cond.selects "SnowKeeps" ({ cls := "SnowKeeps", name := "hound", desc := "(II)I" } : MethodName) ({ cls := "SnowKeeps", name := "hound", desc := "(II)I" } : MethodName) ∈ lw_tbl := in_tables_1_6 174 rfl
theorem w_1375 : Cond.code ({ cls := "SnowKeeps", name := "hound", desc := "(II)I" } : MethodName) prog_1_method_31_code (6 : Nat) (Option.some FieldType.int) ∈ lw_tbl := in_tables_1_6 175 rfl
theorem w_1376 : Cond.methodLink "SnowKeepsLaw" (287 : Nat) ({ cls := "SnowKeepsLaw", name := "hunter", desc := "(LSnowKeeps;II[J)I" } : MethodName) ∈ lw_tbl := in_tables_1_6 176 rfl
theorem w_1377 : Cond.static ({ cls := "SnowKeepsLaw", name := "hunter", desc := "(LSnowKeeps;II[J)I" } : MethodName) ∈ lw_tbl := in_tables_1_6 177 rfl
theorem w_1378 : Cond.codeWith ({ cls := "SnowKeepsLaw", name := "hunter", desc := "(LSnowKeeps;II[J)I" } : MethodName) method_27_code (5 : Nat) (Option.some FieldType.int) [((0 : Nat), (10 : Nat), (13 : Nat), (19 : Nat)), ((0 : Nat), (10 : Nat), (17 : Nat), (13 : Nat))] ∈ lw_tbl := in_tables_1_6 178 rfl
theorem w_1379 : Cond.methodLink "SnowKeepsLaw" (91 : Nat) ({ cls := "SnowKeeps", name := "hunter", desc := "(II)I" } : MethodName) ∈ lw_tbl := in_tables_1_6 179 rfl
theorem w_1380 : Cond.instanceMethod ({ cls := "SnowKeeps", name := "hunter", desc := "(II)I" } : MethodName) ∈ lw_tbl := in_tables_1_6 180 rfl
theorem w_1381 : Cond.selects "SnowKeeps" ({ cls := "SnowKeeps", name := "hunter", desc := "(II)I" } : MethodName) ({ cls := "SnowKeeps", name := "hunter", desc := "(II)I" } : MethodName) ∈ lw_tbl := in_tables_1_6 181 rfl
theorem w_1382 : Cond.code ({ cls := "SnowKeeps", name := "hunter", desc := "(II)I" } : MethodName) prog_1_method_32_code (3 : Nat) (Option.some FieldType.int) ∈ lw_tbl := in_tables_1_6 182 rfl
theorem w_1383 : Cond.methodLink "SnowKeeps" (319 : Nat) ({ cls := "SnowKeeps$Leads", name := "takePrints", desc := "(LSnowKeeps$Snow;I)V" } : MethodName) ∈ lw_tbl := in_tables_1_6 183 rfl
theorem w_1384 : Cond.instanceMethod ({ cls := "SnowKeeps$Leads", name := "takePrints", desc := "(LSnowKeeps$Snow;I)V" } : MethodName) ∈ lw_tbl := in_tables_1_6 184 rfl
theorem w_1385 : Cond.selects "SnowKeeps$Leads" ({ cls := "SnowKeeps$Leads", name := "takePrints", desc := "(LSnowKeeps$Snow;I)V" } : MethodName) ({ cls := "SnowKeeps$Leads", name := "takePrints", desc := "(LSnowKeeps$Snow;I)V" } : MethodName) ∈ lw_tbl := in_tables_1_6 185 rfl
theorem w_1386 : Cond.code ({ cls := "SnowKeeps$Leads", name := "takePrints", desc := "(LSnowKeeps$Snow;I)V" } : MethodName) prog_3_method_3_code (4 : Nat) (Option.none : Option FieldType) ∈ lw_tbl := in_tables_1_6 186 rfl
theorem w_1387 : Cond.methodLink "SnowKeeps$Leads" (40 : Nat) ({ cls := "SnowKeeps$Snow", name := "wayKept", desc := "(I)I" } : MethodName) ∈ lw_tbl := in_tables_1_6 187 rfl
theorem w_1388 : Cond.methodLink "SnowKeeps" (323 : Nat) ({ cls := "SnowKeeps$Leads", name := "behindSteps", desc := "(II)I" } : MethodName) ∈ lw_tbl := in_tables_1_6 188 rfl
theorem w_1389 : Cond.instanceMethod ({ cls := "SnowKeeps$Leads", name := "behindSteps", desc := "(II)I" } : MethodName) ∈ lw_tbl := in_tables_1_6 189 rfl
theorem w_1390 : Cond.selects "SnowKeeps$Leads" ({ cls := "SnowKeeps$Leads", name := "behindSteps", desc := "(II)I" } : MethodName) ({ cls := "SnowKeeps$Leads", name := "behindSteps", desc := "(II)I" } : MethodName) ∈ lw_tbl := in_tables_1_6 190 rfl
theorem w_1391 : Cond.code ({ cls := "SnowKeeps$Leads", name := "behindSteps", desc := "(II)I" } : MethodName) prog_3_method_8_code (5 : Nat) (Option.some FieldType.int) ∈ lw_tbl := in_tables_1_6 191 rfl
theorem w_1392 : Cond.methodLink "SnowKeepsLaw" (290 : Nat) ({ cls := "SnowKeepsLaw", name := "hunts", desc := "(LSnowKeeps;II[J)I" } : MethodName) ∈ lw_tbl := in_tables_1_6 192 rfl
theorem w_1393 : Cond.static ({ cls := "SnowKeepsLaw", name := "hunts", desc := "(LSnowKeeps;II[J)I" } : MethodName) ∈ lw_tbl := in_tables_1_6 193 rfl
theorem w_1394 : Cond.codeWith ({ cls := "SnowKeepsLaw", name := "hunts", desc := "(LSnowKeeps;II[J)I" } : MethodName) method_28_code (5 : Nat) (Option.some FieldType.int) [((0 : Nat), (10 : Nat), (13 : Nat), (19 : Nat))] ∈ lw_tbl := in_tables_1_6 194 rfl
theorem w_1395 : Cond.methodLink "SnowKeepsLaw" (94 : Nat) ({ cls := "SnowKeeps", name := "hunts", desc := "(II)I" } : MethodName) ∈ lw_tbl := in_tables_1_6 195 rfl
theorem w_1396 : Cond.instanceMethod ({ cls := "SnowKeeps", name := "hunts", desc := "(II)I" } : MethodName) ∈ lw_tbl := in_tables_1_6 196 rfl
theorem w_1397 : Cond.selects "SnowKeeps" ({ cls := "SnowKeeps", name := "hunts", desc := "(II)I" } : MethodName) ({ cls := "SnowKeeps", name := "hunts", desc := "(II)I" } : MethodName) ∈ lw_tbl := in_tables_1_6 197 rfl
theorem w_1398 : Cond.code ({ cls := "SnowKeeps", name := "hunts", desc := "(II)I" } : MethodName) prog_1_method_33_code (3 : Nat) (Option.some FieldType.int) ∈ lw_tbl := in_tables_1_6 198 rfl
theorem w_1399 : Cond.methodLink "SnowKeepsLaw" (293 : Nat) ({ cls := "SnowKeepsLaw", name := "meets", desc := "(LSnowKeeps;II[J)I" } : MethodName) ∈ lw_tbl := in_tables_1_6 199 rfl
theorem w_1400 : Cond.static ({ cls := "SnowKeepsLaw", name := "meets", desc := "(LSnowKeeps;II[J)I" } : MethodName) ∈ lw_tbl := in_tables_1_6 200 rfl
theorem w_1401 : Cond.codeWith ({ cls := "SnowKeepsLaw", name := "meets", desc := "(LSnowKeeps;II[J)I" } : MethodName) method_29_code (5 : Nat) (Option.some FieldType.int) [((0 : Nat), (10 : Nat), (13 : Nat), (19 : Nat))] ∈ lw_tbl := in_tables_1_6 201 rfl
theorem w_1402 : Cond.methodLink "SnowKeepsLaw" (97 : Nat) ({ cls := "SnowKeeps", name := "meets", desc := "(II)I" } : MethodName) ∈ lw_tbl := in_tables_1_6 202 rfl
theorem w_1403 : Cond.instanceMethod ({ cls := "SnowKeeps", name := "meets", desc := "(II)I" } : MethodName) ∈ lw_tbl := in_tables_1_6 203 rfl
theorem w_1404 : Cond.selects "SnowKeeps" ({ cls := "SnowKeeps", name := "meets", desc := "(II)I" } : MethodName) ({ cls := "SnowKeeps", name := "meets", desc := "(II)I" } : MethodName) ∈ lw_tbl := in_tables_1_6 204 rfl
theorem w_1405 : Cond.code ({ cls := "SnowKeeps", name := "meets", desc := "(II)I" } : MethodName) prog_1_method_34_code (6 : Nat) (Option.some FieldType.int) ∈ lw_tbl := in_tables_1_6 205 rfl
theorem w_1406 : Cond.methodLink "SnowKeeps" (326 : Nat) ({ cls := "SnowKeeps$Leads", name := "takeRemembered", desc := "(LSnowKeeps$Snow;)V" } : MethodName) ∈ lw_tbl := in_tables_1_6 206 rfl
theorem w_1407 : Cond.instanceMethod ({ cls := "SnowKeeps$Leads", name := "takeRemembered", desc := "(LSnowKeeps$Snow;)V" } : MethodName) ∈ lw_tbl := in_tables_1_6 207 rfl
theorem w_1408 : Cond.selects "SnowKeeps$Leads" ({ cls := "SnowKeeps$Leads", name := "takeRemembered", desc := "(LSnowKeeps$Snow;)V" } : MethodName) ({ cls := "SnowKeeps$Leads", name := "takeRemembered", desc := "(LSnowKeeps$Snow;)V" } : MethodName) ∈ lw_tbl := in_tables_1_6 208 rfl
theorem w_1409 : Cond.code ({ cls := "SnowKeeps$Leads", name := "takeRemembered", desc := "(LSnowKeeps$Snow;)V" } : MethodName) prog_3_method_4_code (3 : Nat) (Option.none : Option FieldType) ∈ lw_tbl := in_tables_1_6 209 rfl
theorem w_1410 : Cond.methodLink "SnowKeeps$Leads" (44 : Nat) ({ cls := "SnowKeeps$Snow", name := "remembered", desc := "()I" } : MethodName) ∈ lw_tbl := in_tables_1_6 210 rfl
theorem w_1411 : Cond.methodLink "SnowKeeps$Leads" (48 : Nat) ({ cls := "SnowKeeps$Snow", name := "wayRemembered", desc := "(I)I" } : MethodName) ∈ lw_tbl := in_tables_1_6 211 rfl
theorem w_1412 : Cond.methodLink "SnowKeeps" (329 : Nat) ({ cls := "SnowKeeps$Leads", name := "onward", desc := "(I)I" } : MethodName) ∈ lw_tbl := in_tables_1_6 212 rfl
theorem w_1413 : Cond.methodLink "SnowKeepsLaw" (296 : Nat) ({ cls := "SnowKeepsLaw", name := "blur", desc := "(LSnowKeeps;III[J)I" } : MethodName) ∈ lw_tbl := in_tables_1_6 213 rfl
theorem w_1414 : Cond.static ({ cls := "SnowKeepsLaw", name := "blur", desc := "(LSnowKeeps;III[J)I" } : MethodName) ∈ lw_tbl := in_tables_1_6 214 rfl
theorem w_1415 : Cond.codeWith ({ cls := "SnowKeepsLaw", name := "blur", desc := "(LSnowKeeps;III[J)I" } : MethodName) method_30_code (6 : Nat) (Option.some FieldType.int) [((0 : Nat), (12 : Nat), (15 : Nat), (19 : Nat)), ((0 : Nat), (12 : Nat), (19 : Nat), (13 : Nat))] ∈ lw_tbl := in_tables_1_6 215 rfl
theorem w_1416 : Cond.methodLink "SnowKeepsLaw" (100 : Nat) ({ cls := "SnowKeeps", name := "blur", desc := "(III)I" } : MethodName) ∈ lw_tbl := in_tables_1_6 216 rfl
theorem w_1417 : Cond.instanceMethod ({ cls := "SnowKeeps", name := "blur", desc := "(III)I" } : MethodName) ∈ lw_tbl := in_tables_1_6 217 rfl
theorem w_1418 : Cond.selects "SnowKeeps" ({ cls := "SnowKeeps", name := "blur", desc := "(III)I" } : MethodName) ({ cls := "SnowKeeps", name := "blur", desc := "(III)I" } : MethodName) ∈ lw_tbl := in_tables_1_6 218 rfl
theorem w_1419 : Cond.code ({ cls := "SnowKeeps", name := "blur", desc := "(III)I" } : MethodName) prog_1_method_35_code (4 : Nat) (Option.some FieldType.int) ∈ lw_tbl := in_tables_1_6 219 rfl
theorem w_1420 : Cond.methodLink "SnowKeeps" (332 : Nat) ({ cls := "SnowKeeps", name := "seekBlur", desc := "(II)V" } : MethodName) ∈ lw_tbl := in_tables_1_6 220 rfl
theorem w_1422 : Cond.instanceMethod ({ cls := "SnowKeeps", name := "seekBlur", desc := "(II)V" } : MethodName) ∈ lw_tbl := in_tables_1_6 222 rfl
theorem w_1423 : Cond.code ({ cls := "SnowKeeps", name := "seekBlur", desc := "(II)V" } : MethodName) prog_1_method_69_code (9 : Nat) (Option.none : Option FieldType) ∈ lw_tbl := in_tables_1_6 223 rfl
theorem w_1424 : Cond.methodLink "SnowKeeps" (383 : Nat) ({ cls := "SnowKeeps$Wander", name := "begin", desc := "(LSnowKeeps$Plain;II)Z" } : MethodName) ∈ lw_tbl := in_tables_1_6 224 rfl
theorem w_1425 : Cond.instanceMethod ({ cls := "SnowKeeps$Wander", name := "begin", desc := "(LSnowKeeps$Plain;II)Z" } : MethodName) ∈ lw_tbl := in_tables_1_6 225 rfl
theorem w_1426 : Cond.selects "SnowKeeps$Wander" ({ cls := "SnowKeeps$Wander", name := "begin", desc := "(LSnowKeeps$Plain;II)Z" } : MethodName) ({ cls := "SnowKeeps$Wander", name := "begin", desc := "(LSnowKeeps$Plain;II)Z" } : MethodName) ∈ lw_tbl := in_tables_1_6 226 rfl
theorem w_1427 : Cond.code ({ cls := "SnowKeeps$Wander", name := "begin", desc := "(LSnowKeeps$Plain;II)Z" } : MethodName) prog_12_method_2_code (4 : Nat) (Option.some FieldType.boolean) ∈ lw_tbl := in_tables_1_6 227 rfl
theorem w_1428 : Cond.methodLink "SnowKeeps$Wander" (32 : Nat) ({ cls := "java/lang/Math", name := "min", desc := "(II)I" } : MethodName) ∈ lw_tbl := in_tables_1_6 228 rfl
theorem w_1429 : Cond.constant "SnowKeeps" (386 : Nat) (1000000 : Int32) ∈ lw_tbl := in_tables_1_6 229 rfl
theorem w_1430 : Cond.methodLink "SnowKeeps" (483 : Nat) ({ cls := "java/lang/Math", name := "max", desc := "(II)I" } : MethodName) ∈ lw_tbl := in_tables_1_6 230 rfl
theorem w_1431 : Cond.methodLink "SnowKeeps" (485 : Nat) ({ cls := "SnowKeeps$Leads", name := "takeRow", desc := "(LSnowKeeps$Wander;I)V" } : MethodName) ∈ lw_tbl := in_tables_1_6 231 rfl
theorem w_1432 : Cond.instanceMethod ({ cls := "SnowKeeps$Leads", name := "takeRow", desc := "(LSnowKeeps$Wander;I)V" } : MethodName) ∈ lw_tbl := in_tables_1_6 232 rfl
theorem w_1433 : Cond.selects "SnowKeeps$Leads" ({ cls := "SnowKeeps$Leads", name := "takeRow", desc := "(LSnowKeeps$Wander;I)V" } : MethodName) ({ cls := "SnowKeeps$Leads", name := "takeRow", desc := "(LSnowKeeps$Wander;I)V" } : MethodName) ∈ lw_tbl := in_tables_1_6 233 rfl
theorem w_1434 : Cond.code ({ cls := "SnowKeeps$Leads", name := "takeRow", desc := "(LSnowKeeps$Wander;I)V" } : MethodName) prog_3_method_5_code (4 : Nat) (Option.none : Option FieldType) ∈ lw_tbl := in_tables_1_6 234 rfl
theorem w_1435 : Cond.methodLink "SnowKeeps" (489 : Nat) ({ cls := "SnowKeeps$Wander", name := "copyPlaces", desc := "([I)V" } : MethodName) ∈ lw_tbl := in_tables_1_6 235 rfl
theorem w_1436 : Cond.instanceMethod ({ cls := "SnowKeeps$Wander", name := "copyPlaces", desc := "([I)V" } : MethodName) ∈ lw_tbl := in_tables_1_6 236 rfl
theorem w_1437 : Cond.selects "SnowKeeps$Wander" ({ cls := "SnowKeeps$Wander", name := "copyPlaces", desc := "([I)V" } : MethodName) ({ cls := "SnowKeeps$Wander", name := "copyPlaces", desc := "([I)V" } : MethodName) ∈ lw_tbl := in_tables_1_6 237 rfl
theorem w_1438 : Cond.code ({ cls := "SnowKeeps$Wander", name := "copyPlaces", desc := "([I)V" } : MethodName) prog_12_method_6_code (3 : Nat) (Option.none : Option FieldType) ∈ lw_tbl := in_tables_1_6 238 rfl
theorem w_1439 : Cond.methodLink "SnowKeeps" (393 : Nat) ({ cls := "SnowKeeps$Wander", name := "forth", desc := "()Z" } : MethodName) ∈ lw_tbl := in_tables_1_6 239 rfl
theorem w_1440 : Cond.instanceMethod ({ cls := "SnowKeeps$Wander", name := "forth", desc := "()Z" } : MethodName) ∈ lw_tbl := in_tables_1_7 0 rfl
theorem w_1441 : Cond.selects "SnowKeeps$Wander" ({ cls := "SnowKeeps$Wander", name := "forth", desc := "()Z" } : MethodName) ({ cls := "SnowKeeps$Wander", name := "forth", desc := "()Z" } : MethodName) ∈ lw_tbl := in_tables_1_7 1 rfl
theorem w_1442 : Cond.code ({ cls := "SnowKeeps$Wander", name := "forth", desc := "()Z" } : MethodName) prog_12_method_3_code (2 : Nat) (Option.some FieldType.boolean) ∈ lw_tbl := in_tables_1_7 2 rfl
theorem w_1443 : Cond.methodLink "SnowKeeps$Wander" (38 : Nat) ({ cls := "SnowKeeps$Wander", name := "goOn", desc := "(I)Z" } : MethodName) ∈ lw_tbl := in_tables_1_7 3 rfl
theorem w_1445 : Cond.instanceMethod ({ cls := "SnowKeeps$Wander", name := "goOn", desc := "(I)Z" } : MethodName) ∈ lw_tbl := in_tables_1_7 5 rfl
theorem w_1446 : Cond.code ({ cls := "SnowKeeps$Wander", name := "goOn", desc := "(I)Z" } : MethodName) prog_12_method_4_code (4 : Nat) (Option.some FieldType.boolean) ∈ lw_tbl := in_tables_1_7 6 rfl
theorem w_1447 : Cond.methodLink "SnowKeeps$Wander" (44 : Nat) ({ cls := "SnowKeeps$Plain", name := "way", desc := "(II)I" } : MethodName) ∈ lw_tbl := in_tables_1_7 7 rfl
theorem w_1448 : Cond.methodLink "SnowKeepsLaw" (299 : Nat) ({ cls := "SnowKeepsLaw", name := "homes", desc := "(LSnowKeeps;II[J)I" } : MethodName) ∈ lw_tbl := in_tables_1_7 8 rfl
theorem w_1449 : Cond.static ({ cls := "SnowKeepsLaw", name := "homes", desc := "(LSnowKeeps;II[J)I" } : MethodName) ∈ lw_tbl := in_tables_1_7 9 rfl
theorem w_1450 : Cond.codeWith ({ cls := "SnowKeepsLaw", name := "homes", desc := "(LSnowKeeps;II[J)I" } : MethodName) method_31_code (5 : Nat) (Option.some FieldType.int) [((0 : Nat), (10 : Nat), (13 : Nat), (13 : Nat))] ∈ lw_tbl := in_tables_1_7 10 rfl
theorem w_1451 : Cond.methodLink "SnowKeepsLaw" (103 : Nat) ({ cls := "SnowKeeps", name := "homes", desc := "(II)I" } : MethodName) ∈ lw_tbl := in_tables_1_7 11 rfl
theorem w_1452 : Cond.instanceMethod ({ cls := "SnowKeeps", name := "homes", desc := "(II)I" } : MethodName) ∈ lw_tbl := in_tables_1_7 12 rfl
theorem w_1453 : Cond.selects "SnowKeeps" ({ cls := "SnowKeeps", name := "homes", desc := "(II)I" } : MethodName) ({ cls := "SnowKeeps", name := "homes", desc := "(II)I" } : MethodName) ∈ lw_tbl := in_tables_1_7 13 rfl
theorem w_1454 : Cond.code ({ cls := "SnowKeeps", name := "homes", desc := "(II)I" } : MethodName) prog_1_method_36_code (6 : Nat) (Option.some FieldType.int) ∈ lw_tbl := in_tables_1_7 14 rfl
theorem w_1455 : Cond.methodLink "SnowKeeps" (335 : Nat) ({ cls := "SnowKeeps$Guides", name := "goAllOut", desc := "(I)V" } : MethodName) ∈ lw_tbl := in_tables_1_7 15 rfl
theorem w_1456 : Cond.instanceMethod ({ cls := "SnowKeeps$Guides", name := "goAllOut", desc := "(I)V" } : MethodName) ∈ lw_tbl := in_tables_1_7 16 rfl
theorem w_1457 : Cond.selects "SnowKeeps$Guides" ({ cls := "SnowKeeps$Guides", name := "goAllOut", desc := "(I)V" } : MethodName) ({ cls := "SnowKeeps$Guides", name := "goAllOut", desc := "(I)V" } : MethodName) ∈ lw_tbl := in_tables_1_7 17 rfl
theorem w_1458 : Cond.code ({ cls := "SnowKeeps$Guides", name := "goAllOut", desc := "(I)V" } : MethodName) prog_2_method_2_code (2 : Nat) (Option.none : Option FieldType) ∈ lw_tbl := in_tables_1_7 18 rfl
theorem w_1459 : Cond.methodLink "SnowKeeps$Guides" (20 : Nat) ({ cls := "java/lang/Math", name := "min", desc := "(II)I" } : MethodName) ∈ lw_tbl := in_tables_1_7 19 rfl
theorem w_1460 : Cond.methodLink "SnowKeeps$Guides" (26 : Nat) ({ cls := "java/util/Arrays", name := "fill", desc := "([II)V" } : MethodName) ∈ lw_tbl := in_tables_1_7 20 rfl
theorem w_1461 : Cond.methodLink "SnowKeeps" (338 : Nat) ({ cls := "SnowKeeps$Guides", name := "comeHome", desc := "(III)Z" } : MethodName) ∈ lw_tbl := in_tables_1_7 21 rfl
theorem w_1462 : Cond.instanceMethod ({ cls := "SnowKeeps$Guides", name := "comeHome", desc := "(III)Z" } : MethodName) ∈ lw_tbl := in_tables_1_7 22 rfl
theorem w_1463 : Cond.selects "SnowKeeps$Guides" ({ cls := "SnowKeeps$Guides", name := "comeHome", desc := "(III)Z" } : MethodName) ({ cls := "SnowKeeps$Guides", name := "comeHome", desc := "(III)Z" } : MethodName) ∈ lw_tbl := in_tables_1_7 23 rfl
theorem w_1464 : Cond.code ({ cls := "SnowKeeps$Guides", name := "comeHome", desc := "(III)Z" } : MethodName) prog_2_method_3_code (8 : Nat) (Option.some FieldType.boolean) ∈ lw_tbl := in_tables_1_7 24 rfl
theorem w_1465 : Cond.methodLink "SnowKeeps$Guides" (32 : Nat) ({ cls := "java/lang/Math", name := "max", desc := "(II)I" } : MethodName) ∈ lw_tbl := in_tables_1_7 25 rfl
theorem w_1466 : Cond.methodLink "SnowKeepsLaw" (302 : Nat) ({ cls := "SnowKeepsLaw", name := "bargain", desc := "(LSnowKeeps;I[J)I" } : MethodName) ∈ lw_tbl := in_tables_1_7 26 rfl
theorem w_1467 : Cond.static ({ cls := "SnowKeepsLaw", name := "bargain", desc := "(LSnowKeeps;I[J)I" } : MethodName) ∈ lw_tbl := in_tables_1_7 27 rfl
theorem w_1468 : Cond.codeWith ({ cls := "SnowKeepsLaw", name := "bargain", desc := "(LSnowKeeps;I[J)I" } : MethodName) method_32_code (4 : Nat) (Option.some FieldType.int) [((0 : Nat), (9 : Nat), (12 : Nat), (19 : Nat)), ((0 : Nat), (9 : Nat), (15 : Nat), (48 : Nat)), ((0 : Nat), (9 : Nat), (18 : Nat), (13 : Nat))] ∈ lw_tbl := in_tables_1_7 28 rfl
theorem w_1469 : Cond.methodLink "SnowKeepsLaw" (106 : Nat) ({ cls := "SnowKeeps", name := "bargain", desc := "(I)I" } : MethodName) ∈ lw_tbl := in_tables_1_7 29 rfl
theorem w_1470 : Cond.instanceMethod ({ cls := "SnowKeeps", name := "bargain", desc := "(I)I" } : MethodName) ∈ lw_tbl := in_tables_1_7 30 rfl
theorem w_1471 : Cond.selects "SnowKeeps" ({ cls := "SnowKeeps", name := "bargain", desc := "(I)I" } : MethodName) ({ cls := "SnowKeeps", name := "bargain", desc := "(I)I" } : MethodName) ∈ lw_tbl := in_tables_1_7 31 rfl
theorem w_1472 : Cond.code ({ cls := "SnowKeeps", name := "bargain", desc := "(I)I" } : MethodName) prog_1_method_37_code (6 : Nat) (Option.some FieldType.int) ∈ lw_tbl := in_tables_1_7 32 rfl
theorem w_1474 : Cond.constantLong "SnowKeeps" (344 : Nat) (30 : Int64) ∈ lw_tbl := in_tables_1_7 34 rfl
theorem w_1476 : Cond.methodLink "SnowKeeps" (351 : Nat) ({ cls := "SnowKeeps$Guides", name := "bestSet", desc := "(II)I" } : MethodName) ∈ lw_tbl := in_tables_1_7 36 rfl
theorem w_1477 : Cond.instanceMethod ({ cls := "SnowKeeps$Guides", name := "bestSet", desc := "(II)I" } : MethodName) ∈ lw_tbl := in_tables_1_7 37 rfl
theorem w_1478 : Cond.selects "SnowKeeps$Guides" ({ cls := "SnowKeeps$Guides", name := "bestSet", desc := "(II)I" } : MethodName) ({ cls := "SnowKeeps$Guides", name := "bestSet", desc := "(II)I" } : MethodName) ∈ lw_tbl := in_tables_1_7 38 rfl
theorem w_1479 : Cond.code ({ cls := "SnowKeeps$Guides", name := "bestSet", desc := "(II)I" } : MethodName) prog_2_method_4_code (8 : Nat) (Option.some FieldType.int) ∈ lw_tbl := in_tables_1_7 39 rfl
theorem w_1480 : Cond.methodLink "SnowKeeps$Guides" (35 : Nat) ({ cls := "java/lang/Integer", name := "bitCount", desc := "(I)I" } : MethodName) ∈ lw_tbl := in_tables_1_7 40 rfl
theorem w_1481 : Cond.methodLink "SnowKeeps$Guides" (41 : Nat) ({ cls := "SnowKeeps$Guides", name := "stepsOut", desc := "(I)I" } : MethodName) ∈ lw_tbl := in_tables_1_7 41 rfl
theorem w_1483 : Cond.instanceMethod ({ cls := "SnowKeeps$Guides", name := "stepsOut", desc := "(I)I" } : MethodName) ∈ lw_tbl := in_tables_1_7 43 rfl
theorem w_1484 : Cond.code ({ cls := "SnowKeeps$Guides", name := "stepsOut", desc := "(I)I" } : MethodName) prog_2_method_5_code (4 : Nat) (Option.some FieldType.int) ∈ lw_tbl := in_tables_1_7 44 rfl
theorem w_1485 : Cond.methodLink "SnowKeeps$Guides" (44 : Nat) ({ cls := "SnowKeeps$Guides", name := "comeHome", desc := "(III)Z" } : MethodName) ∈ lw_tbl := in_tables_1_7 45 rfl
theorem w_1486 : Cond.methodLink "SnowKeepsLaw" (305 : Nat) ({ cls := "SnowKeepsLaw", name := "retrace", desc := "(LSnowKeeps;II[J)I" } : MethodName) ∈ lw_tbl := in_tables_1_7 46 rfl
theorem w_1487 : Cond.static ({ cls := "SnowKeepsLaw", name := "retrace", desc := "(LSnowKeeps;II[J)I" } : MethodName) ∈ lw_tbl := in_tables_1_7 47 rfl
theorem w_1488 : Cond.codeWith ({ cls := "SnowKeepsLaw", name := "retrace", desc := "(LSnowKeeps;II[J)I" } : MethodName) method_33_code (5 : Nat) (Option.some FieldType.int) [((0 : Nat), (10 : Nat), (13 : Nat), (19 : Nat)), ((0 : Nat), (10 : Nat), (17 : Nat), (13 : Nat))] ∈ lw_tbl := in_tables_1_7 48 rfl
theorem w_1489 : Cond.methodLink "SnowKeepsLaw" (109 : Nat) ({ cls := "SnowKeeps", name := "retrace", desc := "(II)I" } : MethodName) ∈ lw_tbl := in_tables_1_7 49 rfl
theorem w_1490 : Cond.instanceMethod ({ cls := "SnowKeeps", name := "retrace", desc := "(II)I" } : MethodName) ∈ lw_tbl := in_tables_1_7 50 rfl
theorem w_1491 : Cond.selects "SnowKeeps" ({ cls := "SnowKeeps", name := "retrace", desc := "(II)I" } : MethodName) ({ cls := "SnowKeeps", name := "retrace", desc := "(II)I" } : MethodName) ∈ lw_tbl := in_tables_1_7 51 rfl
theorem w_1492 : Cond.code ({ cls := "SnowKeeps", name := "retrace", desc := "(II)I" } : MethodName) prog_1_method_38_code (4 : Nat) (Option.some FieldType.int) ∈ lw_tbl := in_tables_1_7 52 rfl
theorem w_1493 : Cond.methodLink "SnowKeeps" (354 : Nat) ({ cls := "SnowKeeps$Snow", name := "turnBack", desc := "(I)I" } : MethodName) ∈ lw_tbl := in_tables_1_7 53 rfl
theorem w_1494 : Cond.instanceMethod ({ cls := "SnowKeeps$Snow", name := "turnBack", desc := "(I)I" } : MethodName) ∈ lw_tbl := in_tables_1_7 54 rfl
theorem w_1495 : Cond.selects "SnowKeeps$Snow" ({ cls := "SnowKeeps$Snow", name := "turnBack", desc := "(I)I" } : MethodName) ({ cls := "SnowKeeps$Snow", name := "turnBack", desc := "(I)I" } : MethodName) ∈ lw_tbl := in_tables_1_7 55 rfl
theorem w_1496 : Cond.code ({ cls := "SnowKeeps$Snow", name := "turnBack", desc := "(I)I" } : MethodName) prog_7_method_8_code (5 : Nat) (Option.some FieldType.int) ∈ lw_tbl := in_tables_1_7 56 rfl
theorem w_1497 : Cond.methodLink "SnowKeepsLaw" (308 : Nat) ({ cls := "SnowKeepsLaw", name := "goesBack", desc := "(LSnowKeeps;I[J)I" } : MethodName) ∈ lw_tbl := in_tables_1_7 57 rfl
theorem w_1498 : Cond.static ({ cls := "SnowKeepsLaw", name := "goesBack", desc := "(LSnowKeeps;I[J)I" } : MethodName) ∈ lw_tbl := in_tables_1_7 58 rfl
theorem w_1499 : Cond.codeWith ({ cls := "SnowKeepsLaw", name := "goesBack", desc := "(LSnowKeeps;I[J)I" } : MethodName) method_34_code (4 : Nat) (Option.some FieldType.int) [((0 : Nat), (9 : Nat), (12 : Nat), (19 : Nat))] ∈ lw_tbl := in_tables_1_7 59 rfl
theorem w_1500 : Cond.methodLink "SnowKeepsLaw" (112 : Nat) ({ cls := "SnowKeeps", name := "goesBack", desc := "(I)I" } : MethodName) ∈ lw_tbl := in_tables_1_7 60 rfl
theorem w_1501 : Cond.instanceMethod ({ cls := "SnowKeeps", name := "goesBack", desc := "(I)I" } : MethodName) ∈ lw_tbl := in_tables_1_7 61 rfl
theorem w_1502 : Cond.selects "SnowKeeps" ({ cls := "SnowKeeps", name := "goesBack", desc := "(I)I" } : MethodName) ({ cls := "SnowKeeps", name := "goesBack", desc := "(I)I" } : MethodName) ∈ lw_tbl := in_tables_1_7 62 rfl
theorem w_1503 : Cond.code ({ cls := "SnowKeeps", name := "goesBack", desc := "(I)I" } : MethodName) prog_1_method_39_code (2 : Nat) (Option.some FieldType.int) ∈ lw_tbl := in_tables_1_7 63 rfl
theorem w_1504 : Cond.methodLink "SnowKeepsLaw" (311 : Nat) ({ cls := "SnowKeepsLaw", name := "rows", desc := "(LSnowKeeps;I[J)I" } : MethodName) ∈ lw_tbl := in_tables_1_7 64 rfl
theorem w_1505 : Cond.static ({ cls := "SnowKeepsLaw", name := "rows", desc := "(LSnowKeeps;I[J)I" } : MethodName) ∈ lw_tbl := in_tables_1_7 65 rfl
theorem w_1506 : Cond.codeWith ({ cls := "SnowKeepsLaw", name := "rows", desc := "(LSnowKeeps;I[J)I" } : MethodName) method_35_code (4 : Nat) (Option.some FieldType.int) [((0 : Nat), (8 : Nat), (11 : Nat), (19 : Nat))] ∈ lw_tbl := in_tables_1_7 66 rfl
theorem w_1507 : Cond.methodLink "SnowKeepsLaw" (115 : Nat) ({ cls := "SnowKeeps", name := "rows", desc := "(I)J" } : MethodName) ∈ lw_tbl := in_tables_1_7 67 rfl
theorem w_1508 : Cond.instanceMethod ({ cls := "SnowKeeps", name := "rows", desc := "(I)J" } : MethodName) ∈ lw_tbl := in_tables_1_7 68 rfl
theorem w_1509 : Cond.selects "SnowKeeps" ({ cls := "SnowKeeps", name := "rows", desc := "(I)J" } : MethodName) ({ cls := "SnowKeeps", name := "rows", desc := "(I)J" } : MethodName) ∈ lw_tbl := in_tables_1_7 69 rfl
theorem w_1510 : Cond.code ({ cls := "SnowKeeps", name := "rows", desc := "(I)J" } : MethodName) prog_1_method_40_code (2 : Nat) (Option.some FieldType.long) ∈ lw_tbl := in_tables_1_7 70 rfl
theorem w_1511 : Cond.constantLong "SnowKeeps" (361 : Nat) (-1000 : Int64) ∈ lw_tbl := in_tables_1_7 71 rfl
theorem w_1512 : Cond.methodLink "SnowKeepsLaw" (316 : Nat) ({ cls := "SnowKeepsLaw", name := "row", desc := "(LSnowKeeps;IJI[J)I" } : MethodName) ∈ lw_tbl := in_tables_1_7 72 rfl
theorem w_1513 : Cond.static ({ cls := "SnowKeepsLaw", name := "row", desc := "(LSnowKeeps;IJI[J)I" } : MethodName) ∈ lw_tbl := in_tables_1_7 73 rfl
theorem w_1514 : Cond.codeWith ({ cls := "SnowKeepsLaw", name := "row", desc := "(LSnowKeeps;IJI[J)I" } : MethodName) method_36_code (7 : Nat) (Option.some FieldType.int) [((0 : Nat), (13 : Nat), (16 : Nat), (19 : Nat))] ∈ lw_tbl := in_tables_1_7 74 rfl
theorem w_1515 : Cond.methodLink "SnowKeepsLaw" (119 : Nat) ({ cls := "SnowKeeps", name := "row", desc := "(IJI)I" } : MethodName) ∈ lw_tbl := in_tables_1_7 75 rfl
theorem w_1516 : Cond.instanceMethod ({ cls := "SnowKeeps", name := "row", desc := "(IJI)I" } : MethodName) ∈ lw_tbl := in_tables_1_7 76 rfl
theorem w_1517 : Cond.selects "SnowKeeps" ({ cls := "SnowKeeps", name := "row", desc := "(IJI)I" } : MethodName) ({ cls := "SnowKeeps", name := "row", desc := "(IJI)I" } : MethodName) ∈ lw_tbl := in_tables_1_7 77 rfl
theorem w_1518 : Cond.code ({ cls := "SnowKeeps", name := "row", desc := "(IJI)I" } : MethodName) prog_1_method_41_code (5 : Nat) (Option.some FieldType.int) ∈ lw_tbl := in_tables_1_7 78 rfl
theorem w_1519 : Cond.methodLink "SnowKeeps" (366 : Nat) ({ cls := "SnowKeeps$Trails", name := "placeOf", desc := "(IJI)I" } : MethodName) ∈ lw_tbl := in_tables_1_7 79 rfl
theorem w_1520 : Cond.instanceMethod ({ cls := "SnowKeeps$Trails", name := "placeOf", desc := "(IJI)I" } : MethodName) ∈ lw_tbl := in_tables_1_7 80 rfl
theorem w_1521 : Cond.selects "SnowKeeps$Trails" ({ cls := "SnowKeeps$Trails", name := "placeOf", desc := "(IJI)I" } : MethodName) ({ cls := "SnowKeeps$Trails", name := "placeOf", desc := "(IJI)I" } : MethodName) ∈ lw_tbl := in_tables_1_7 81 rfl
theorem w_1522 : Cond.code ({ cls := "SnowKeeps$Trails", name := "placeOf", desc := "(IJI)I" } : MethodName) prog_8_method_8_code (14 : Nat) (Option.some FieldType.int) ∈ lw_tbl := in_tables_1_7 82 rfl
theorem w_1523 : Cond.methodLink "SnowKeeps$Trails" (72 : Nat) ({ cls := "SnowKeeps$Trails", name := "goFrom", desc := "(I)J" } : MethodName) ∈ lw_tbl := in_tables_1_7 83 rfl
theorem w_1525 : Cond.instanceMethod ({ cls := "SnowKeeps$Trails", name := "goFrom", desc := "(I)J" } : MethodName) ∈ lw_tbl := in_tables_1_7 85 rfl
theorem w_1526 : Cond.code ({ cls := "SnowKeeps$Trails", name := "goFrom", desc := "(I)J" } : MethodName) prog_8_method_7_code (4 : Nat) (Option.some FieldType.long) ∈ lw_tbl := in_tables_1_7 86 rfl
theorem w_1527 : Cond.methodLink "SnowKeeps$Trails" (79 : Nat) ({ cls := "SnowKeeps$Trails", name := "slotTo", desc := "(II)I" } : MethodName) ∈ lw_tbl := in_tables_1_7 87 rfl
theorem w_1529 : Cond.instanceMethod ({ cls := "SnowKeeps$Trails", name := "slotTo", desc := "(II)I" } : MethodName) ∈ lw_tbl := in_tables_1_7 89 rfl
theorem w_1530 : Cond.code ({ cls := "SnowKeeps$Trails", name := "slotTo", desc := "(II)I" } : MethodName) prog_8_method_9_code (4 : Nat) (Option.some FieldType.int) ∈ lw_tbl := in_tables_1_7 90 rfl
theorem w_1531 : Cond.methodLink "SnowKeepsLaw" (324 : Nat) ({ cls := "SnowKeepsLaw", name := "sure", desc := "(LSnowKeeps;IZ[J)I" } : MethodName) ∈ lw_tbl := in_tables_1_7 91 rfl
theorem w_1532 : Cond.static ({ cls := "SnowKeepsLaw", name := "sure", desc := "(LSnowKeeps;IZ[J)I" } : MethodName) ∈ lw_tbl := in_tables_1_7 92 rfl
theorem w_1533 : Cond.codeWith ({ cls := "SnowKeepsLaw", name := "sure", desc := "(LSnowKeeps;IZ[J)I" } : MethodName) method_37_code (5 : Nat) (Option.some FieldType.int) [((0 : Nat), (10 : Nat), (13 : Nat), (19 : Nat))] ∈ lw_tbl := in_tables_1_7 93 rfl
theorem w_1534 : Cond.methodLink "SnowKeepsLaw" (123 : Nat) ({ cls := "SnowKeeps", name := "sure", desc := "(IZ)I" } : MethodName) ∈ lw_tbl := in_tables_1_7 94 rfl
theorem w_1535 : Cond.instanceMethod ({ cls := "SnowKeeps", name := "sure", desc := "(IZ)I" } : MethodName) ∈ lw_tbl := in_tables_1_7 95 rfl
theorem w_1536 : Cond.selects "SnowKeeps" ({ cls := "SnowKeeps", name := "sure", desc := "(IZ)I" } : MethodName) ({ cls := "SnowKeeps", name := "sure", desc := "(IZ)I" } : MethodName) ∈ lw_tbl := in_tables_1_7 96 rfl
theorem w_1537 : Cond.code ({ cls := "SnowKeeps", name := "sure", desc := "(IZ)I" } : MethodName) prog_1_method_43_code (3 : Nat) (Option.some FieldType.int) ∈ lw_tbl := in_tables_1_7 97 rfl
theorem w_1538 : Cond.methodLink "SnowKeeps" (373 : Nat) ({ cls := "SnowKeeps$Trails", name := "onlyFirst", desc := "(I)I" } : MethodName) ∈ lw_tbl := in_tables_1_7 98 rfl
theorem w_1539 : Cond.instanceMethod ({ cls := "SnowKeeps$Trails", name := "onlyFirst", desc := "(I)I" } : MethodName) ∈ lw_tbl := in_tables_1_7 99 rfl
theorem w_1540 : Cond.selects "SnowKeeps$Trails" ({ cls := "SnowKeeps$Trails", name := "onlyFirst", desc := "(I)I" } : MethodName) ({ cls := "SnowKeeps$Trails", name := "onlyFirst", desc := "(I)I" } : MethodName) ∈ lw_tbl := in_tables_1_7 100 rfl
theorem w_1541 : Cond.code ({ cls := "SnowKeeps$Trails", name := "onlyFirst", desc := "(I)I" } : MethodName) prog_8_method_10_code (4 : Nat) (Option.some FieldType.int) ∈ lw_tbl := in_tables_1_7 101 rfl
theorem w_1542 : Cond.methodLink "SnowKeeps" (376 : Nat) ({ cls := "SnowKeeps$Trails", name := "onlyLast", desc := "(I)I" } : MethodName) ∈ lw_tbl := in_tables_1_7 102 rfl
theorem w_1543 : Cond.instanceMethod ({ cls := "SnowKeeps$Trails", name := "onlyLast", desc := "(I)I" } : MethodName) ∈ lw_tbl := in_tables_1_7 103 rfl
theorem w_1544 : Cond.selects "SnowKeeps$Trails" ({ cls := "SnowKeeps$Trails", name := "onlyLast", desc := "(I)I" } : MethodName) ({ cls := "SnowKeeps$Trails", name := "onlyLast", desc := "(I)I" } : MethodName) ∈ lw_tbl := in_tables_1_7 104 rfl
theorem w_1545 : Cond.code ({ cls := "SnowKeeps$Trails", name := "onlyLast", desc := "(I)I" } : MethodName) prog_8_method_11_code (5 : Nat) (Option.some FieldType.int) ∈ lw_tbl := in_tables_1_7 105 rfl
theorem w_1546 : Cond.methodLink "SnowKeepsLaw" (327 : Nat) ({ cls := "SnowKeepsLaw", name := "two", desc := "(LSnowKeeps;II[J)I" } : MethodName) ∈ lw_tbl := in_tables_1_7 106 rfl
theorem w_1547 : Cond.static ({ cls := "SnowKeepsLaw", name := "two", desc := "(LSnowKeeps;II[J)I" } : MethodName) ∈ lw_tbl := in_tables_1_7 107 rfl
theorem w_1548 : Cond.codeWith ({ cls := "SnowKeepsLaw", name := "two", desc := "(LSnowKeeps;II[J)I" } : MethodName) method_38_code (5 : Nat) (Option.some FieldType.int) [((0 : Nat), (9 : Nat), (12 : Nat), (19 : Nat))] ∈ lw_tbl := in_tables_1_7 108 rfl
theorem w_1549 : Cond.methodLink "SnowKeepsLaw" (126 : Nat) ({ cls := "SnowKeeps", name := "two", desc := "(II)J" } : MethodName) ∈ lw_tbl := in_tables_1_7 109 rfl
theorem w_1550 : Cond.instanceMethod ({ cls := "SnowKeeps", name := "two", desc := "(II)J" } : MethodName) ∈ lw_tbl := in_tables_1_7 110 rfl
theorem w_1551 : Cond.selects "SnowKeeps" ({ cls := "SnowKeeps", name := "two", desc := "(II)J" } : MethodName) ({ cls := "SnowKeeps", name := "two", desc := "(II)J" } : MethodName) ∈ lw_tbl := in_tables_1_7 111 rfl
theorem w_1552 : Cond.code ({ cls := "SnowKeeps", name := "two", desc := "(II)J" } : MethodName) prog_1_method_44_code (3 : Nat) (Option.some FieldType.long) ∈ lw_tbl := in_tables_1_7 112 rfl
theorem w_1553 : Cond.methodLink "SnowKeeps" (379 : Nat) ({ cls := "SnowKeeps$Trails", name := "pairs", desc := "(II)J" } : MethodName) ∈ lw_tbl := in_tables_1_7 113 rfl
theorem w_1554 : Cond.instanceMethod ({ cls := "SnowKeeps$Trails", name := "pairs", desc := "(II)J" } : MethodName) ∈ lw_tbl := in_tables_1_7 114 rfl
theorem w_1555 : Cond.selects "SnowKeeps$Trails" ({ cls := "SnowKeeps$Trails", name := "pairs", desc := "(II)J" } : MethodName) ({ cls := "SnowKeeps$Trails", name := "pairs", desc := "(II)J" } : MethodName) ∈ lw_tbl := in_tables_1_7 115 rfl
theorem w_1556 : Cond.code ({ cls := "SnowKeeps$Trails", name := "pairs", desc := "(II)J" } : MethodName) prog_8_method_12_code (6 : Nat) (Option.some FieldType.long) ∈ lw_tbl := in_tables_1_7 116 rfl
theorem w_1557 : Cond.methodLink "SnowKeepsLaw" (330 : Nat) ({ cls := "SnowKeepsLaw", name := "clear", desc := "(LSnowKeeps;IIZ[J)I" } : MethodName) ∈ lw_tbl := in_tables_1_7 117 rfl
theorem w_1558 : Cond.static ({ cls := "SnowKeepsLaw", name := "clear", desc := "(LSnowKeeps;IIZ[J)I" } : MethodName) ∈ lw_tbl := in_tables_1_7 118 rfl
theorem w_1559 : Cond.codeWith ({ cls := "SnowKeepsLaw", name := "clear", desc := "(LSnowKeeps;IIZ[J)I" } : MethodName) method_39_code (6 : Nat) (Option.some FieldType.int) [((0 : Nat), (12 : Nat), (15 : Nat), (19 : Nat)), ((0 : Nat), (12 : Nat), (19 : Nat), (13 : Nat))] ∈ lw_tbl := in_tables_1_7 119 rfl
theorem w_1560 : Cond.methodLink "SnowKeepsLaw" (130 : Nat) ({ cls := "SnowKeeps", name := "clear", desc := "(IIZ)I" } : MethodName) ∈ lw_tbl := in_tables_1_7 120 rfl
theorem w_1561 : Cond.instanceMethod ({ cls := "SnowKeeps", name := "clear", desc := "(IIZ)I" } : MethodName) ∈ lw_tbl := in_tables_1_7 121 rfl
theorem w_1562 : Cond.selects "SnowKeeps" ({ cls := "SnowKeeps", name := "clear", desc := "(IIZ)I" } : MethodName) ({ cls := "SnowKeeps", name := "clear", desc := "(IIZ)I" } : MethodName) ∈ lw_tbl := in_tables_1_7 122 rfl
theorem w_1563 : Cond.code ({ cls := "SnowKeeps", name := "clear", desc := "(IIZ)I" } : MethodName) prog_1_method_45_code (7 : Nat) (Option.some FieldType.int) ∈ lw_tbl := in_tables_1_7 123 rfl
theorem w_1564 : Cond.methodLink "SnowKeeps" (390 : Nat) ({ cls := "SnowKeeps", name := "isTheOnlyRow", desc := "(I)Z" } : MethodName) ∈ lw_tbl := in_tables_1_7 124 rfl
theorem w_1566 : Cond.instanceMethod ({ cls := "SnowKeeps", name := "isTheOnlyRow", desc := "(I)Z" } : MethodName) ∈ lw_tbl := in_tables_1_7 126 rfl
theorem w_1567 : Cond.code ({ cls := "SnowKeeps", name := "isTheOnlyRow", desc := "(I)Z" } : MethodName) prog_1_method_71_code (3 : Nat) (Option.some FieldType.boolean) ∈ lw_tbl := in_tables_1_7 127 rfl
theorem w_1568 : Cond.methodLink "SnowKeepsLaw" (334 : Nat) ({ cls := "SnowKeepsLaw", name := "signs", desc := "(LSnowKeeps;II[J)I" } : MethodName) ∈ lw_tbl := in_tables_1_7 128 rfl
theorem w_1569 : Cond.static ({ cls := "SnowKeepsLaw", name := "signs", desc := "(LSnowKeeps;II[J)I" } : MethodName) ∈ lw_tbl := in_tables_1_7 129 rfl
theorem w_1570 : Cond.codeWith ({ cls := "SnowKeepsLaw", name := "signs", desc := "(LSnowKeeps;II[J)I" } : MethodName) method_40_code (5 : Nat) (Option.some FieldType.int) [((0 : Nat), (10 : Nat), (13 : Nat), (19 : Nat)), ((0 : Nat), (10 : Nat), (17 : Nat), (13 : Nat))] ∈ lw_tbl := in_tables_1_7 130 rfl
theorem w_1571 : Cond.methodLink "SnowKeepsLaw" (134 : Nat) ({ cls := "SnowKeeps", name := "signs", desc := "(II)I" } : MethodName) ∈ lw_tbl := in_tables_1_7 131 rfl
theorem w_1572 : Cond.instanceMethod ({ cls := "SnowKeeps", name := "signs", desc := "(II)I" } : MethodName) ∈ lw_tbl := in_tables_1_7 132 rfl
theorem w_1573 : Cond.selects "SnowKeeps" ({ cls := "SnowKeeps", name := "signs", desc := "(II)I" } : MethodName) ({ cls := "SnowKeeps", name := "signs", desc := "(II)I" } : MethodName) ∈ lw_tbl := in_tables_1_7 133 rfl
theorem w_1574 : Cond.code ({ cls := "SnowKeeps", name := "signs", desc := "(II)I" } : MethodName) prog_1_method_46_code (5 : Nat) (Option.some FieldType.int) ∈ lw_tbl := in_tables_1_7 134 rfl
theorem w_1575 : Cond.methodLink "SnowKeeps" (397 : Nat) ({ cls := "SnowKeeps$Unlike", name := "empty", desc := "()V" } : MethodName) ∈ lw_tbl := in_tables_1_7 135 rfl
theorem w_1576 : Cond.instanceMethod ({ cls := "SnowKeeps$Unlike", name := "empty", desc := "()V" } : MethodName) ∈ lw_tbl := in_tables_1_7 136 rfl
theorem w_1577 : Cond.selects "SnowKeeps$Unlike" ({ cls := "SnowKeeps$Unlike", name := "empty", desc := "()V" } : MethodName) ({ cls := "SnowKeeps$Unlike", name := "empty", desc := "()V" } : MethodName) ∈ lw_tbl := in_tables_1_7 137 rfl
theorem w_1578 : Cond.code ({ cls := "SnowKeeps$Unlike", name := "empty", desc := "()V" } : MethodName) prog_11_method_2_code (1 : Nat) (Option.none : Option FieldType) ∈ lw_tbl := in_tables_1_7 138 rfl
theorem w_1579 : Cond.constantLong "SnowKeeps$Unlike" (19 : Nat) (-1 : Int64) ∈ lw_tbl := in_tables_1_7 139 rfl
theorem w_1580 : Cond.methodLink "SnowKeeps$Unlike" (21 : Nat) ({ cls := "java/util/Arrays", name := "fill", desc := "([JJ)V" } : MethodName) ∈ lw_tbl := in_tables_1_7 140 rfl
theorem w_1581 : Cond.static ({ cls := "java/util/Arrays", name := "fill", desc := "([JJ)V" } : MethodName) ∈ lw_tbl := in_tables_1_7 141 rfl
theorem w_1582 : Cond.code ({ cls := "java/util/Arrays", name := "fill", desc := "([JJ)V" } : MethodName) prog_38_method_101_code (5 : Nat) (Option.none : Option FieldType) ∈ lw_tbl := in_tables_1_7 142 rfl
theorem w_1583 : Cond.methodLink "SnowKeeps" (400 : Nat) ({ cls := "SnowKeeps$Wander", name := "lastWays", desc := "(I)I" } : MethodName) ∈ lw_tbl := in_tables_1_7 143 rfl
theorem w_1584 : Cond.instanceMethod ({ cls := "SnowKeeps$Wander", name := "lastWays", desc := "(I)I" } : MethodName) ∈ lw_tbl := in_tables_1_7 144 rfl
theorem w_1585 : Cond.selects "SnowKeeps$Wander" ({ cls := "SnowKeeps$Wander", name := "lastWays", desc := "(I)I" } : MethodName) ({ cls := "SnowKeeps$Wander", name := "lastWays", desc := "(I)I" } : MethodName) ∈ lw_tbl := in_tables_1_7 145 rfl
theorem w_1586 : Cond.code ({ cls := "SnowKeeps$Wander", name := "lastWays", desc := "(I)I" } : MethodName) prog_12_method_5_code (4 : Nat) (Option.some FieldType.int) ∈ lw_tbl := in_tables_1_7 146 rfl
theorem w_1587 : Cond.methodLink "SnowKeeps$Wander" (47 : Nat) ({ cls := "java/lang/Math", name := "max", desc := "(II)I" } : MethodName) ∈ lw_tbl := in_tables_1_7 147 rfl
theorem w_1588 : Cond.methodLink "SnowKeeps" (403 : Nat) ({ cls := "SnowKeeps$Unlike", name := "put", desc := "(I)V" } : MethodName) ∈ lw_tbl := in_tables_1_7 148 rfl
theorem w_1589 : Cond.instanceMethod ({ cls := "SnowKeeps$Unlike", name := "put", desc := "(I)V" } : MethodName) ∈ lw_tbl := in_tables_1_7 149 rfl
theorem w_1590 : Cond.selects "SnowKeeps$Unlike" ({ cls := "SnowKeeps$Unlike", name := "put", desc := "(I)V" } : MethodName) ({ cls := "SnowKeeps$Unlike", name := "put", desc := "(I)V" } : MethodName) ∈ lw_tbl := in_tables_1_7 150 rfl
theorem w_1591 : Cond.code ({ cls := "SnowKeeps$Unlike", name := "put", desc := "(I)V" } : MethodName) prog_11_method_3_code (7 : Nat) (Option.none : Option FieldType) ∈ lw_tbl := in_tables_1_7 151 rfl
theorem w_1592 : Cond.constantLong "SnowKeeps$Unlike" (27 : Nat) (4294967295 : Int64) ∈ lw_tbl := in_tables_1_7 152 rfl
theorem w_1593 : Cond.constant "SnowKeeps$Unlike" (29 : Nat) (-1640531535 : Int32) ∈ lw_tbl := in_tables_1_7 153 rfl
theorem w_1594 : Cond.methodLink "SnowKeepsLaw" (337 : Nat) ({ cls := "SnowKeepsLaw", name := "writes", desc := "(LSnowKeeps;II[J)I" } : MethodName) ∈ lw_tbl := in_tables_1_7 154 rfl
theorem w_1595 : Cond.static ({ cls := "SnowKeepsLaw", name := "writes", desc := "(LSnowKeeps;II[J)I" } : MethodName) ∈ lw_tbl := in_tables_1_7 155 rfl
theorem w_1596 : Cond.codeWith ({ cls := "SnowKeepsLaw", name := "writes", desc := "(LSnowKeeps;II[J)I" } : MethodName) method_41_code (5 : Nat) (Option.some FieldType.int) [((0 : Nat), (10 : Nat), (13 : Nat), (19 : Nat)), ((0 : Nat), (10 : Nat), (17 : Nat), (48 : Nat)), ((0 : Nat), (10 : Nat), (21 : Nat), (13 : Nat))] ∈ lw_tbl := in_tables_1_7 156 rfl
theorem w_1597 : Cond.methodLink "SnowKeepsLaw" (137 : Nat) ({ cls := "SnowKeeps", name := "writes", desc := "(II)I" } : MethodName) ∈ lw_tbl := in_tables_1_7 157 rfl
theorem w_1598 : Cond.instanceMethod ({ cls := "SnowKeeps", name := "writes", desc := "(II)I" } : MethodName) ∈ lw_tbl := in_tables_1_7 158 rfl
theorem w_1599 : Cond.selects "SnowKeeps" ({ cls := "SnowKeeps", name := "writes", desc := "(II)I" } : MethodName) ({ cls := "SnowKeeps", name := "writes", desc := "(II)I" } : MethodName) ∈ lw_tbl := in_tables_1_7 159 rfl
theorem w_1600 : Cond.code ({ cls := "SnowKeeps", name := "writes", desc := "(II)I" } : MethodName) prog_1_method_47_code (3 : Nat) (Option.some FieldType.int) ∈ lw_tbl := in_tables_1_7 160 rfl
theorem w_1601 : Cond.methodLink "SnowKeeps" (409 : Nat) ({ cls := "SnowKeeps", name := "takeSign", desc := "(LSnowKeeps$Tray;)V" } : MethodName) ∈ lw_tbl := in_tables_1_7 161 rfl
theorem w_1603 : Cond.instanceMethod ({ cls := "SnowKeeps", name := "takeSign", desc := "(LSnowKeeps$Tray;)V" } : MethodName) ∈ lw_tbl := in_tables_1_7 163 rfl
theorem w_1604 : Cond.code ({ cls := "SnowKeeps", name := "takeSign", desc := "(LSnowKeeps$Tray;)V" } : MethodName) prog_1_method_65_code (2 : Nat) (Option.none : Option FieldType) ∈ lw_tbl := in_tables_1_7 164 rfl
theorem w_1605 : Cond.methodLink "SnowKeeps" (475 : Nat) ({ cls := "SnowKeeps$Sign", name := "load", desc := "(LSnowKeeps$Plain;LSnowKeeps$Tray;)Z" } : MethodName) ∈ lw_tbl := in_tables_1_7 165 rfl
theorem w_1606 : Cond.instanceMethod ({ cls := "SnowKeeps$Sign", name := "load", desc := "(LSnowKeeps$Plain;LSnowKeeps$Tray;)Z" } : MethodName) ∈ lw_tbl := in_tables_1_7 166 rfl
theorem w_1607 : Cond.selects "SnowKeeps$Sign" ({ cls := "SnowKeeps$Sign", name := "load", desc := "(LSnowKeeps$Plain;LSnowKeeps$Tray;)Z" } : MethodName) ({ cls := "SnowKeeps$Sign", name := "load", desc := "(LSnowKeeps$Plain;LSnowKeeps$Tray;)Z" } : MethodName) ∈ lw_tbl := in_tables_1_7 167 rfl
theorem w_1608 : Cond.code ({ cls := "SnowKeeps$Sign", name := "load", desc := "(LSnowKeeps$Plain;LSnowKeeps$Tray;)Z" } : MethodName) prog_6_method_2_code (7 : Nat) (Option.some FieldType.boolean) ∈ lw_tbl := in_tables_1_7 168 rfl
theorem w_1609 : Cond.methodLink "SnowKeeps$Sign" (28 : Nat) ({ cls := "java/util/Arrays", name := "fill", desc := "([II)V" } : MethodName) ∈ lw_tbl := in_tables_1_7 169 rfl
theorem w_1610 : Cond.methodLink "SnowKeeps$Sign" (39 : Nat) ({ cls := "SnowKeeps$Tray", name := "numberAt", desc := "(I)J" } : MethodName) ∈ lw_tbl := in_tables_1_7 170 rfl
theorem w_1612 : Cond.methodLink "SnowKeeps" (413 : Nat) ({ cls := "SnowKeeps", name := "writtenFrom", desc := "(I)I" } : MethodName) ∈ lw_tbl := in_tables_1_7 172 rfl
theorem w_1614 : Cond.instanceMethod ({ cls := "SnowKeeps", name := "writtenFrom", desc := "(I)I" } : MethodName) ∈ lw_tbl := in_tables_1_7 174 rfl
theorem w_1615 : Cond.code ({ cls := "SnowKeeps", name := "writtenFrom", desc := "(I)I" } : MethodName) prog_1_method_72_code (3 : Nat) (Option.some FieldType.int) ∈ lw_tbl := in_tables_1_7 175 rfl
theorem w_1616 : Cond.methodLink "SnowKeeps" (505 : Nat) ({ cls := "SnowKeeps$Sign", name := "fewestAlong", desc := "(LSnowKeeps$Plain;I)I" } : MethodName) ∈ lw_tbl := in_tables_1_7 176 rfl
theorem w_1617 : Cond.instanceMethod ({ cls := "SnowKeeps$Sign", name := "fewestAlong", desc := "(LSnowKeeps$Plain;I)I" } : MethodName) ∈ lw_tbl := in_tables_1_7 177 rfl
theorem w_1618 : Cond.selects "SnowKeeps$Sign" ({ cls := "SnowKeeps$Sign", name := "fewestAlong", desc := "(LSnowKeeps$Plain;I)I" } : MethodName) ({ cls := "SnowKeeps$Sign", name := "fewestAlong", desc := "(LSnowKeeps$Plain;I)I" } : MethodName) ∈ lw_tbl := in_tables_1_7 178 rfl
theorem w_1619 : Cond.code ({ cls := "SnowKeeps$Sign", name := "fewestAlong", desc := "(LSnowKeeps$Plain;I)I" } : MethodName) prog_6_method_3_code (3 : Nat) (Option.some FieldType.int) ∈ lw_tbl := in_tables_1_7 179 rfl
theorem w_1620 : Cond.methodLink "SnowKeeps$Sign" (48 : Nat) ({ cls := "SnowKeeps$Sign", name := "fewest", desc := "(LSnowKeeps$Plain;IZ)I" } : MethodName) ∈ lw_tbl := in_tables_1_7 180 rfl
theorem w_1622 : Cond.instanceMethod ({ cls := "SnowKeeps$Sign", name := "fewest", desc := "(LSnowKeeps$Plain;IZ)I" } : MethodName) ∈ lw_tbl := in_tables_1_7 182 rfl
theorem w_1623 : Cond.code ({ cls := "SnowKeeps$Sign", name := "fewest", desc := "(LSnowKeeps$Plain;IZ)I" } : MethodName) prog_6_method_5_code (13 : Nat) (Option.some FieldType.int) ∈ lw_tbl := in_tables_1_7 183 rfl
theorem w_1624 : Cond.methodLink "SnowKeeps$Sign" (56 : Nat) ({ cls := "SnowKeeps$Plain", name := "hasPlace", desc := "(I)Z" } : MethodName) ∈ lw_tbl := in_tables_1_7 184 rfl
theorem w_1625 : Cond.methodLink "SnowKeeps$Sign" (63 : Nat) ({ cls := "SnowKeeps$Plain", name := "way", desc := "(II)I" } : MethodName) ∈ lw_tbl := in_tables_1_7 185 rfl
theorem w_1626 : Cond.methodLink "SnowKeepsLaw" (340 : Nat) ({ cls := "SnowKeepsLaw", name := "pens", desc := "(LSnowKeeps;I[J)I" } : MethodName) ∈ lw_tbl := in_tables_1_7 186 rfl
theorem w_1627 : Cond.static ({ cls := "SnowKeepsLaw", name := "pens", desc := "(LSnowKeeps;I[J)I" } : MethodName) ∈ lw_tbl := in_tables_1_7 187 rfl
theorem w_1628 : Cond.codeWith ({ cls := "SnowKeepsLaw", name := "pens", desc := "(LSnowKeeps;I[J)I" } : MethodName) method_42_code (4 : Nat) (Option.some FieldType.int) [((0 : Nat), (9 : Nat), (12 : Nat), (19 : Nat)), ((0 : Nat), (9 : Nat), (15 : Nat), (48 : Nat)), ((0 : Nat), (9 : Nat), (18 : Nat), (13 : Nat))] ∈ lw_tbl := in_tables_1_7 188 rfl
theorem w_1629 : Cond.methodLink "SnowKeepsLaw" (140 : Nat) ({ cls := "SnowKeeps", name := "pens", desc := "(I)I" } : MethodName) ∈ lw_tbl := in_tables_1_7 189 rfl
theorem w_1630 : Cond.instanceMethod ({ cls := "SnowKeeps", name := "pens", desc := "(I)I" } : MethodName) ∈ lw_tbl := in_tables_1_7 190 rfl
theorem w_1631 : Cond.selects "SnowKeeps" ({ cls := "SnowKeeps", name := "pens", desc := "(I)I" } : MethodName) ({ cls := "SnowKeeps", name := "pens", desc := "(I)I" } : MethodName) ∈ lw_tbl := in_tables_1_7 191 rfl
theorem w_1632 : Cond.code ({ cls := "SnowKeeps", name := "pens", desc := "(I)I" } : MethodName) prog_1_method_48_code (4 : Nat) (Option.some FieldType.int) ∈ lw_tbl := in_tables_1_7 192 rfl
theorem w_1633 : Cond.methodLink "SnowKeepsLaw" (343 : Nat) ({ cls := "SnowKeepsLaw", name := "patrol", desc := "(LSnowKeeps;I[J)I" } : MethodName) ∈ lw_tbl := in_tables_1_7 193 rfl
theorem w_1634 : Cond.static ({ cls := "SnowKeepsLaw", name := "patrol", desc := "(LSnowKeeps;I[J)I" } : MethodName) ∈ lw_tbl := in_tables_1_7 194 rfl
theorem w_1635 : Cond.codeWith ({ cls := "SnowKeepsLaw", name := "patrol", desc := "(LSnowKeeps;I[J)I" } : MethodName) method_43_code (4 : Nat) (Option.some FieldType.int) [((0 : Nat), (9 : Nat), (12 : Nat), (19 : Nat)), ((0 : Nat), (9 : Nat), (15 : Nat), (48 : Nat)), ((0 : Nat), (9 : Nat), (18 : Nat), (13 : Nat))] ∈ lw_tbl := in_tables_1_7 195 rfl
theorem w_1636 : Cond.methodLink "SnowKeepsLaw" (143 : Nat) ({ cls := "SnowKeeps", name := "patrol", desc := "(I)I" } : MethodName) ∈ lw_tbl := in_tables_1_7 196 rfl
theorem w_1637 : Cond.instanceMethod ({ cls := "SnowKeeps", name := "patrol", desc := "(I)I" } : MethodName) ∈ lw_tbl := in_tables_1_7 197 rfl
theorem w_1638 : Cond.selects "SnowKeeps" ({ cls := "SnowKeeps", name := "patrol", desc := "(I)I" } : MethodName) ({ cls := "SnowKeeps", name := "patrol", desc := "(I)I" } : MethodName) ∈ lw_tbl := in_tables_1_7 198 rfl
theorem w_1639 : Cond.code ({ cls := "SnowKeeps", name := "patrol", desc := "(I)I" } : MethodName) prog_1_method_49_code (2 : Nat) (Option.some FieldType.int) ∈ lw_tbl := in_tables_1_7 199 rfl
theorem w_1640 : Cond.methodLink "SnowKeeps" (416 : Nat) ({ cls := "SnowKeeps$Sign", name := "fewestRound", desc := "(LSnowKeeps$Plain;)I" } : MethodName) ∈ lw_tbl := in_tables_1_7 200 rfl
theorem w_1641 : Cond.instanceMethod ({ cls := "SnowKeeps$Sign", name := "fewestRound", desc := "(LSnowKeeps$Plain;)I" } : MethodName) ∈ lw_tbl := in_tables_1_7 201 rfl
theorem w_1642 : Cond.selects "SnowKeeps$Sign" ({ cls := "SnowKeeps$Sign", name := "fewestRound", desc := "(LSnowKeeps$Plain;)I" } : MethodName) ({ cls := "SnowKeeps$Sign", name := "fewestRound", desc := "(LSnowKeeps$Plain;)I" } : MethodName) ∈ lw_tbl := in_tables_1_7 202 rfl
theorem w_1643 : Cond.code ({ cls := "SnowKeeps$Sign", name := "fewestRound", desc := "(LSnowKeeps$Plain;)I" } : MethodName) prog_6_method_4_code (2 : Nat) (Option.some FieldType.int) ∈ lw_tbl := in_tables_1_7 203 rfl
theorem w_1644 : Cond.methodLink "SnowKeeps$Sign" (52 : Nat) ({ cls := "SnowKeeps$Plain", name := "begin", desc := "(I)I" } : MethodName) ∈ lw_tbl := in_tables_1_7 204 rfl
theorem w_1645 : Cond.methodLink "SnowKeepsLaw" (346 : Nat) ({ cls := "SnowKeepsLaw", name := "tends", desc := "(LSnowKeeps;I[J)I" } : MethodName) ∈ lw_tbl := in_tables_1_7 205 rfl
theorem w_1646 : Cond.static ({ cls := "SnowKeepsLaw", name := "tends", desc := "(LSnowKeeps;I[J)I" } : MethodName) ∈ lw_tbl := in_tables_1_7 206 rfl
theorem w_1647 : Cond.codeWith ({ cls := "SnowKeepsLaw", name := "tends", desc := "(LSnowKeeps;I[J)I" } : MethodName) method_44_code (4 : Nat) (Option.some FieldType.int) [((0 : Nat), (16 : Nat), (19 : Nat), (19 : Nat)), ((0 : Nat), (16 : Nat), (22 : Nat), (48 : Nat)), ((0 : Nat), (16 : Nat), (25 : Nat), (13 : Nat))] ∈ lw_tbl := in_tables_1_7 207 rfl
theorem w_1648 : Cond.methodLink "SnowKeepsLaw" (146 : Nat) ({ cls := "SnowKeeps", name := "tends", desc := "(I)Z" } : MethodName) ∈ lw_tbl := in_tables_1_7 208 rfl
theorem w_1649 : Cond.instanceMethod ({ cls := "SnowKeeps", name := "tends", desc := "(I)Z" } : MethodName) ∈ lw_tbl := in_tables_1_7 209 rfl
theorem w_1650 : Cond.selects "SnowKeeps" ({ cls := "SnowKeeps", name := "tends", desc := "(I)Z" } : MethodName) ({ cls := "SnowKeeps", name := "tends", desc := "(I)Z" } : MethodName) ∈ lw_tbl := in_tables_1_7 210 rfl
theorem w_1651 : Cond.code ({ cls := "SnowKeeps", name := "tends", desc := "(I)Z" } : MethodName) prog_1_method_50_code (3 : Nat) (Option.some FieldType.boolean) ∈ lw_tbl := in_tables_1_7 211 rfl
theorem w_1652 : Cond.methodLink "SnowKeepsLaw" (349 : Nat) ({ cls := "SnowKeepsLaw", name := "crowd", desc := "(LSnowKeeps;I[J)I" } : MethodName) ∈ lw_tbl := in_tables_1_7 212 rfl
theorem w_1653 : Cond.static ({ cls := "SnowKeepsLaw", name := "crowd", desc := "(LSnowKeeps;I[J)I" } : MethodName) ∈ lw_tbl := in_tables_1_7 213 rfl
theorem w_1654 : Cond.codeWith ({ cls := "SnowKeepsLaw", name := "crowd", desc := "(LSnowKeeps;I[J)I" } : MethodName) method_45_code (4 : Nat) (Option.some FieldType.int) [((0 : Nat), (9 : Nat), (12 : Nat), (19 : Nat)), ((0 : Nat), (9 : Nat), (15 : Nat), (48 : Nat)), ((0 : Nat), (9 : Nat), (18 : Nat), (13 : Nat))] ∈ lw_tbl := in_tables_1_7 214 rfl
theorem w_1655 : Cond.methodLink "SnowKeepsLaw" (150 : Nat) ({ cls := "SnowKeeps", name := "crowd", desc := "(I)I" } : MethodName) ∈ lw_tbl := in_tables_1_7 215 rfl
theorem w_1656 : Cond.instanceMethod ({ cls := "SnowKeeps", name := "crowd", desc := "(I)I" } : MethodName) ∈ lw_tbl := in_tables_1_7 216 rfl
theorem w_1657 : Cond.selects "SnowKeeps" ({ cls := "SnowKeeps", name := "crowd", desc := "(I)I" } : MethodName) ({ cls := "SnowKeeps", name := "crowd", desc := "(I)I" } : MethodName) ∈ lw_tbl := in_tables_1_7 217 rfl
theorem w_1658 : Cond.code ({ cls := "SnowKeeps", name := "crowd", desc := "(I)I" } : MethodName) prog_1_method_51_code (3 : Nat) (Option.some FieldType.int) ∈ lw_tbl := in_tables_1_7 218 rfl
theorem w_1659 : Cond.methodLink "SnowKeepsLaw" (352 : Nat) ({ cls := "SnowKeepsLaw", name := "lasts", desc := "(LSnowKeeps;I[J)I" } : MethodName) ∈ lw_tbl := in_tables_1_7 219 rfl
theorem w_1660 : Cond.static ({ cls := "SnowKeepsLaw", name := "lasts", desc := "(LSnowKeeps;I[J)I" } : MethodName) ∈ lw_tbl := in_tables_1_7 220 rfl
theorem w_1661 : Cond.codeWith ({ cls := "SnowKeepsLaw", name := "lasts", desc := "(LSnowKeeps;I[J)I" } : MethodName) method_46_code (4 : Nat) (Option.some FieldType.int) [((0 : Nat), (9 : Nat), (12 : Nat), (19 : Nat)), ((0 : Nat), (9 : Nat), (15 : Nat), (48 : Nat)), ((0 : Nat), (9 : Nat), (18 : Nat), (13 : Nat))] ∈ lw_tbl := in_tables_1_7 221 rfl
theorem w_1662 : Cond.methodLink "SnowKeepsLaw" (153 : Nat) ({ cls := "SnowKeeps", name := "lasts", desc := "(I)I" } : MethodName) ∈ lw_tbl := in_tables_1_7 222 rfl
theorem w_1663 : Cond.instanceMethod ({ cls := "SnowKeeps", name := "lasts", desc := "(I)I" } : MethodName) ∈ lw_tbl := in_tables_1_7 223 rfl
theorem w_1664 : Cond.selects "SnowKeeps" ({ cls := "SnowKeeps", name := "lasts", desc := "(I)I" } : MethodName) ({ cls := "SnowKeeps", name := "lasts", desc := "(I)I" } : MethodName) ∈ lw_tbl := in_tables_1_7 224 rfl
theorem w_1665 : Cond.code ({ cls := "SnowKeeps", name := "lasts", desc := "(I)I" } : MethodName) prog_1_method_52_code (5 : Nat) (Option.some FieldType.int) ∈ lw_tbl := in_tables_1_7 225 rfl
theorem w_1666 : Cond.methodLink "SnowKeepsLaw" (355 : Nat) ({ cls := "SnowKeepsLaw", name := "reads", desc := "(LSnowKeeps;I[J)I" } : MethodName) ∈ lw_tbl := in_tables_1_7 226 rfl
theorem w_1667 : Cond.static ({ cls := "SnowKeepsLaw", name := "reads", desc := "(LSnowKeeps;I[J)I" } : MethodName) ∈ lw_tbl := in_tables_1_7 227 rfl
theorem w_1668 : Cond.codeWith ({ cls := "SnowKeepsLaw", name := "reads", desc := "(LSnowKeeps;I[J)I" } : MethodName) method_47_code (4 : Nat) (Option.some FieldType.int) [((0 : Nat), (9 : Nat), (12 : Nat), (19 : Nat)), ((0 : Nat), (9 : Nat), (15 : Nat), (48 : Nat))] ∈ lw_tbl := in_tables_1_7 228 rfl
theorem w_1669 : Cond.methodLink "SnowKeepsLaw" (156 : Nat) ({ cls := "SnowKeeps", name := "reads", desc := "(I)I" } : MethodName) ∈ lw_tbl := in_tables_1_7 229 rfl
theorem w_1670 : Cond.instanceMethod ({ cls := "SnowKeeps", name := "reads", desc := "(I)I" } : MethodName) ∈ lw_tbl := in_tables_1_7 230 rfl
theorem w_1671 : Cond.selects "SnowKeeps" ({ cls := "SnowKeeps", name := "reads", desc := "(I)I" } : MethodName) ({ cls := "SnowKeeps", name := "reads", desc := "(I)I" } : MethodName) ∈ lw_tbl := in_tables_1_7 231 rfl
theorem w_1672 : Cond.code ({ cls := "SnowKeeps", name := "reads", desc := "(I)I" } : MethodName) prog_1_method_53_code (6 : Nat) (Option.some FieldType.int) ∈ lw_tbl := in_tables_1_7 232 rfl
theorem w_1673 : Cond.methodLink "SnowKeeps" (423 : Nat) ({ cls := "SnowKeeps$Tray", name := "put", desc := "(IJ)J" } : MethodName) ∈ lw_tbl := in_tables_1_7 233 rfl
theorem w_1674 : Cond.instanceMethod ({ cls := "SnowKeeps$Tray", name := "put", desc := "(IJ)J" } : MethodName) ∈ lw_tbl := in_tables_1_7 234 rfl
theorem w_1675 : Cond.selects "SnowKeeps$Tray" ({ cls := "SnowKeeps$Tray", name := "put", desc := "(IJ)J" } : MethodName) ({ cls := "SnowKeeps$Tray", name := "put", desc := "(IJ)J" } : MethodName) ∈ lw_tbl := in_tables_1_7 235 rfl
theorem w_1676 : Cond.code ({ cls := "SnowKeeps$Tray", name := "put", desc := "(IJ)J" } : MethodName) prog_9_method_5_code (4 : Nat) (Option.some FieldType.long) ∈ lw_tbl := in_tables_1_7 236 rfl
theorem w_1677 : Cond.methodLink "SnowKeeps$Tray" (28 : Nat) ({ cls := "SnowKeeps$Tray", name := "cut", desc := "(J)J" } : MethodName) ∈ lw_tbl := in_tables_1_7 237 rfl
theorem w_1679 : Cond.instanceMethod ({ cls := "SnowKeeps$Tray", name := "cut", desc := "(J)J" } : MethodName) ∈ lw_tbl := in_tables_1_7 239 rfl
theorem w_1680 : Cond.code ({ cls := "SnowKeeps$Tray", name := "cut", desc := "(J)J" } : MethodName) prog_9_method_6_code (3 : Nat) (Option.some FieldType.long) ∈ lw_tbl := in_tables_1_8 0 rfl
theorem w_1681 : Cond.methodLink "SnowKeepsLaw" (358 : Nat) ({ cls := "SnowKeepsLaw", name := "tray", desc := "(LSnowKeeps;III)I" } : MethodName) ∈ lw_tbl := in_tables_1_8 1 rfl
theorem w_1682 : Cond.static ({ cls := "SnowKeepsLaw", name := "tray", desc := "(LSnowKeeps;III)I" } : MethodName) ∈ lw_tbl := in_tables_1_8 2 rfl
theorem w_1683 : Cond.codeWith ({ cls := "SnowKeepsLaw", name := "tray", desc := "(LSnowKeeps;III)I" } : MethodName) method_48_code (5 : Nat) (Option.some FieldType.int) [((0 : Nat), (7 : Nat), (10 : Nat), (19 : Nat)), ((0 : Nat), (7 : Nat), (14 : Nat), (13 : Nat))] ∈ lw_tbl := in_tables_1_8 3 rfl
theorem w_1684 : Cond.methodLink "SnowKeepsLaw" (159 : Nat) ({ cls := "SnowKeeps", name := "tray", desc := "(III)V" } : MethodName) ∈ lw_tbl := in_tables_1_8 4 rfl
theorem w_1685 : Cond.instanceMethod ({ cls := "SnowKeeps", name := "tray", desc := "(III)V" } : MethodName) ∈ lw_tbl := in_tables_1_8 5 rfl
theorem w_1686 : Cond.selects "SnowKeeps" ({ cls := "SnowKeeps", name := "tray", desc := "(III)V" } : MethodName) ({ cls := "SnowKeeps", name := "tray", desc := "(III)V" } : MethodName) ∈ lw_tbl := in_tables_1_8 6 rfl
theorem w_1687 : Cond.code ({ cls := "SnowKeeps", name := "tray", desc := "(III)V" } : MethodName) prog_1_method_54_code (5 : Nat) (Option.none : Option FieldType) ∈ lw_tbl := in_tables_1_8 7 rfl
theorem w_1688 : Cond.methodLink "SnowKeeps" (429 : Nat) ({ cls := "SnowKeeps$Tray", name := "lay", desc := "(II)V" } : MethodName) ∈ lw_tbl := in_tables_1_8 8 rfl
theorem w_1689 : Cond.instanceMethod ({ cls := "SnowKeeps$Tray", name := "lay", desc := "(II)V" } : MethodName) ∈ lw_tbl := in_tables_1_8 9 rfl
theorem w_1690 : Cond.selects "SnowKeeps$Tray" ({ cls := "SnowKeeps$Tray", name := "lay", desc := "(II)V" } : MethodName) ({ cls := "SnowKeeps$Tray", name := "lay", desc := "(II)V" } : MethodName) ∈ lw_tbl := in_tables_1_8 10 rfl
theorem w_1691 : Cond.code ({ cls := "SnowKeeps$Tray", name := "lay", desc := "(II)V" } : MethodName) prog_9_method_3_code (3 : Nat) (Option.none : Option FieldType) ∈ lw_tbl := in_tables_1_8 11 rfl
theorem w_1692 : Cond.methodLink "SnowKeeps$Tray" (22 : Nat) ({ cls := "java/util/Arrays", name := "fill", desc := "([JJ)V" } : MethodName) ∈ lw_tbl := in_tables_1_8 12 rfl
theorem w_1693 : Cond.methodLink "SnowKeepsLaw" (362 : Nat) ({ cls := "SnowKeepsLaw", name := "write", desc := "(LSnowKeeps;IIJ[J)I" } : MethodName) ∈ lw_tbl := in_tables_1_8 13 rfl
theorem w_1694 : Cond.static ({ cls := "SnowKeepsLaw", name := "write", desc := "(LSnowKeeps;IIJ[J)I" } : MethodName) ∈ lw_tbl := in_tables_1_8 14 rfl
theorem w_1695 : Cond.codeWith ({ cls := "SnowKeepsLaw", name := "write", desc := "(LSnowKeeps;IIJ[J)I" } : MethodName) method_49_code (7 : Nat) (Option.some FieldType.int) [((0 : Nat), (11 : Nat), (14 : Nat), (19 : Nat)), ((0 : Nat), (11 : Nat), (18 : Nat), (48 : Nat)), ((0 : Nat), (11 : Nat), (22 : Nat), (167 : Nat))] ∈ lw_tbl := in_tables_1_8 15 rfl
theorem w_1696 : Cond.classLink "SnowKeepsLaw" (167 : Nat) "java/lang/IndexOutOfBoundsException" ∈ lw_tbl := in_tables_1_8 16 rfl
theorem w_1697 : Cond.methodLink "SnowKeepsLaw" (163 : Nat) ({ cls := "SnowKeeps", name := "write", desc := "(IIJ)J" } : MethodName) ∈ lw_tbl := in_tables_1_8 17 rfl
theorem w_1698 : Cond.instanceMethod ({ cls := "SnowKeeps", name := "write", desc := "(IIJ)J" } : MethodName) ∈ lw_tbl := in_tables_1_8 18 rfl
theorem w_1699 : Cond.selects "SnowKeeps" ({ cls := "SnowKeeps", name := "write", desc := "(IIJ)J" } : MethodName) ({ cls := "SnowKeeps", name := "write", desc := "(IIJ)J" } : MethodName) ∈ lw_tbl := in_tables_1_8 19 rfl
theorem w_1700 : Cond.code ({ cls := "SnowKeeps", name := "write", desc := "(IIJ)J" } : MethodName) prog_1_method_55_code (6 : Nat) (Option.some FieldType.long) ∈ lw_tbl := in_tables_1_8 20 rfl
theorem w_1701 : Cond.classLink "SnowKeeps" (432 : Nat) "java/lang/IndexOutOfBoundsException" ∈ lw_tbl := in_tables_1_8 21 rfl
theorem w_1703 : Cond.castable "java/lang/IndexOutOfBoundsException" "java/lang/IndexOutOfBoundsException" ∈ lw_tbl := in_tables_1_8 23 rfl
theorem w_1714 : Cond.methodLink "SnowKeepsLaw" (366 : Nat) ({ cls := "SnowKeepsLaw", name := "image", desc := "(LSnowKeeps;I)I" } : MethodName) ∈ lw_tbl := in_tables_1_8 34 rfl
theorem w_1715 : Cond.static ({ cls := "SnowKeepsLaw", name := "image", desc := "(LSnowKeeps;I)I" } : MethodName) ∈ lw_tbl := in_tables_1_8 35 rfl
theorem w_1716 : Cond.codeWith ({ cls := "SnowKeepsLaw", name := "image", desc := "(LSnowKeeps;I)I" } : MethodName) method_50_code (3 : Nat) (Option.some FieldType.int) [((0 : Nat), (5 : Nat), (8 : Nat), (19 : Nat))] ∈ lw_tbl := in_tables_1_8 36 rfl
theorem w_1717 : Cond.methodLink "SnowKeepsLaw" (169 : Nat) ({ cls := "SnowKeeps", name := "image", desc := "(I)V" } : MethodName) ∈ lw_tbl := in_tables_1_8 37 rfl
theorem w_1718 : Cond.instanceMethod ({ cls := "SnowKeeps", name := "image", desc := "(I)V" } : MethodName) ∈ lw_tbl := in_tables_1_8 38 rfl
theorem w_1719 : Cond.selects "SnowKeeps" ({ cls := "SnowKeeps", name := "image", desc := "(I)V" } : MethodName) ({ cls := "SnowKeeps", name := "image", desc := "(I)V" } : MethodName) ∈ lw_tbl := in_tables_1_8 39 rfl
theorem w_1720 : Cond.code ({ cls := "SnowKeeps", name := "image", desc := "(I)V" } : MethodName) prog_1_method_56_code (2 : Nat) (Option.none : Option FieldType) ∈ lw_tbl := in_tables_1_8 40 rfl
theorem w_1721 : Cond.methodLink "SnowKeeps" (437 : Nat) ({ cls := "SnowKeeps", name := "askImage", desc := "(I)V" } : MethodName) ∈ lw_tbl := in_tables_1_8 41 rfl
theorem w_1722 : Cond.static ({ cls := "SnowKeeps", name := "askImage", desc := "(I)V" } : MethodName) ∈ lw_tbl := in_tables_1_8 42 rfl
theorem w_1723 : Cond.code ({ cls := "SnowKeeps", name := "askImage", desc := "(I)V" } : MethodName) prog_1_method_63_code (1 : Nat) (Option.none : Option FieldType) ∈ lw_tbl := in_tables_1_8 43 rfl
theorem w_1725 : Cond.methodLink "SnowKeepsLaw" (370 : Nat) ({ cls := "SnowKeepsLaw", name := "restore", desc := "(LSnowKeeps;I)I" } : MethodName) ∈ lw_tbl := in_tables_1_8 45 rfl
theorem w_1726 : Cond.static ({ cls := "SnowKeepsLaw", name := "restore", desc := "(LSnowKeeps;I)I" } : MethodName) ∈ lw_tbl := in_tables_1_8 46 rfl
theorem w_1727 : Cond.codeWith ({ cls := "SnowKeepsLaw", name := "restore", desc := "(LSnowKeeps;I)I" } : MethodName) method_51_code (3 : Nat) (Option.some FieldType.int) [((0 : Nat), (5 : Nat), (8 : Nat), (19 : Nat)), ((0 : Nat), (5 : Nat), (11 : Nat), (48 : Nat))] ∈ lw_tbl := in_tables_1_8 47 rfl
theorem w_1728 : Cond.methodLink "SnowKeepsLaw" (173 : Nat) ({ cls := "SnowKeeps", name := "restore", desc := "(I)V" } : MethodName) ∈ lw_tbl := in_tables_1_8 48 rfl
theorem w_1729 : Cond.instanceMethod ({ cls := "SnowKeeps", name := "restore", desc := "(I)V" } : MethodName) ∈ lw_tbl := in_tables_1_8 49 rfl
theorem w_1730 : Cond.selects "SnowKeeps" ({ cls := "SnowKeeps", name := "restore", desc := "(I)V" } : MethodName) ({ cls := "SnowKeeps", name := "restore", desc := "(I)V" } : MethodName) ∈ lw_tbl := in_tables_1_8 50 rfl
theorem w_1731 : Cond.code ({ cls := "SnowKeeps", name := "restore", desc := "(I)V" } : MethodName) prog_1_method_57_code (2 : Nat) (Option.none : Option FieldType) ∈ lw_tbl := in_tables_1_8 51 rfl
theorem w_1733 : Cond.classLink "SnowKeepsLaw" (177 : Nat) "SnowKeepsModel" ∈ lw_tbl := in_tables_1_8 53 rfl
theorem w_1734 : Cond.instantiable "SnowKeepsModel" (56 : Nat) ∈ lw_tbl := in_tables_1_8 54 rfl
theorem w_1735 : Cond.methodLink "SnowKeepsLaw" (179 : Nat) ({ cls := "SnowKeepsModel", name := "<init>", desc := "()V" } : MethodName) ∈ lw_tbl := in_tables_1_8 55 rfl
theorem w_1736 : Cond.instanceMethod ({ cls := "SnowKeepsModel", name := "<init>", desc := "()V" } : MethodName) ∈ lw_tbl := in_tables_1_8 56 rfl
theorem w_1737 : Cond.code ({ cls := "SnowKeepsModel", name := "<init>", desc := "()V" } : MethodName) prog_14_method_1_code (1 : Nat) (Option.none : Option FieldType) ∈ lw_tbl := in_tables_1_8 57 rfl
theorem w_1738 : Cond.methodLink "SnowKeepsModel" (1 : Nat) ({ cls := "java/lang/Object", name := "<init>", desc := "()V" } : MethodName) ∈ lw_tbl := in_tables_1_8 58 rfl
theorem w_1739 : Cond.fieldLink "SnowKeepsModel" (9 : Nat) "SnowKeepsModel" "known" "[I" ∈ lw_tbl := in_tables_1_8 59 rfl
theorem w_1740 : Cond.fieldLink "SnowKeepsModel" (13 : Nat) "SnowKeepsModel" "fresh" "[I" ∈ lw_tbl := in_tables_1_8 60 rfl
theorem w_1741 : Cond.fieldLink "SnowKeepsModel" (16 : Nat) "SnowKeepsModel" "kept" "[I" ∈ lw_tbl := in_tables_1_8 61 rfl
theorem w_1742 : Cond.fieldLink "SnowKeepsModel" (19 : Nat) "SnowKeepsModel" "images" "[I" ∈ lw_tbl := in_tables_1_8 62 rfl
theorem w_1743 : Cond.fieldLink "SnowKeepsModel" (22 : Nat) "SnowKeepsModel" "isImage" "[Z" ∈ lw_tbl := in_tables_1_8 63 rfl
theorem w_1744 : Cond.fieldLink "SnowKeepsModel" (100 : Nat) "SnowKeepsModel" "thrown" "I" ∈ lw_tbl := in_tables_1_8 64 rfl
theorem w_1745 : Cond.fieldLink "SnowKeepsModel" (26 : Nat) "SnowKeepsModel" "tape" "[I" ∈ lw_tbl := in_tables_1_8 65 rfl
theorem w_1746 : Cond.fieldLink "SnowKeepsModel" (103 : Nat) "SnowKeepsModel" "taped" "I" ∈ lw_tbl := in_tables_1_8 66 rfl
theorem w_1747 : Cond.fieldLink "SnowKeepsModel" (106 : Nat) "SnowKeepsModel" "length" "I" ∈ lw_tbl := in_tables_1_8 67 rfl
theorem w_1748 : Cond.fieldLink "SnowKeepsModel" (109 : Nat) "SnowKeepsModel" "at" "I" ∈ lw_tbl := in_tables_1_8 68 rfl
theorem w_1749 : Cond.fieldLink "SnowKeepsModel" (112 : Nat) "SnowKeepsModel" "begin" "I" ∈ lw_tbl := in_tables_1_8 69 rfl
theorem w_1750 : Cond.fieldLink "SnowKeepsModel" (115 : Nat) "SnowKeepsModel" "token" "I" ∈ lw_tbl := in_tables_1_8 70 rfl
theorem w_1751 : Cond.fieldLink "SnowKeepsModel" (129 : Nat) "SnowKeepsModel" "value" "I" ∈ lw_tbl := in_tables_1_8 71 rfl
theorem w_1752 : Cond.fieldLink "SnowKeepsModel" (132 : Nat) "SnowKeepsModel" "bad" "I" ∈ lw_tbl := in_tables_1_8 72 rfl
theorem w_1753 : Cond.fieldLink "SnowKeepsModel" (135 : Nat) "SnowKeepsModel" "badPlace" "I" ∈ lw_tbl := in_tables_1_8 73 rfl
theorem w_1754 : Cond.fieldLink "SnowKeepsModel" (211 : Nat) "SnowKeepsModel" "faultKind" "I" ∈ lw_tbl := in_tables_1_8 74 rfl
theorem w_1755 : Cond.fieldLink "SnowKeepsModel" (29 : Nat) "SnowKeepsModel" "faultPlace" "I" ∈ lw_tbl := in_tables_1_8 75 rfl
theorem w_1756 : Cond.fieldLink "SnowKeepsModel" (33 : Nat) "SnowKeepsModel" "far" "[I" ∈ lw_tbl := in_tables_1_8 76 rfl
theorem w_1757 : Cond.fieldLink "SnowKeepsModel" (279 : Nat) "SnowKeepsModel" "isCalm" "Z" ∈ lw_tbl := in_tables_1_8 77 rfl
theorem w_1758 : Cond.fieldLink "SnowKeepsModel" (318 : Nat) "SnowKeepsModel" "state" "I" ∈ lw_tbl := in_tables_1_8 78 rfl
theorem w_1759 : Cond.fieldLink "SnowKeepsModel" (36 : Nat) "SnowKeepsModel" "back" "[I" ∈ lw_tbl := in_tables_1_8 79 rfl
theorem w_1760 : Cond.fieldLink "SnowKeepsModel" (39 : Nat) "SnowKeepsModel" "ownPrint" "[I" ∈ lw_tbl := in_tables_1_8 80 rfl
theorem w_1761 : Cond.fieldLink "SnowKeepsModel" (345 : Nat) "SnowKeepsModel" "backWhere" "I" ∈ lw_tbl := in_tables_1_8 81 rfl
theorem w_1762 : Cond.fieldLink "SnowKeepsModel" (42 : Nat) "SnowKeepsModel" "states" "[I" ∈ lw_tbl := in_tables_1_8 82 rfl
theorem w_1763 : Cond.fieldLink "SnowKeepsModel" (45 : Nat) "SnowKeepsModel" "blurs" "[I" ∈ lw_tbl := in_tables_1_8 83 rfl
theorem w_1764 : Cond.fieldLink "SnowKeepsModel" (48 : Nat) "SnowKeepsModel" "bestBlurs" "[I" ∈ lw_tbl := in_tables_1_8 84 rfl
theorem w_1765 : Cond.fieldLink "SnowKeepsModel" (51 : Nat) "SnowKeepsModel" "levels" "[I" ∈ lw_tbl := in_tables_1_8 85 rfl
theorem w_1766 : Cond.fieldLink "SnowKeepsModel" (371 : Nat) "SnowKeepsModel" "blurFrom" "I" ∈ lw_tbl := in_tables_1_8 86 rfl
theorem w_1767 : Cond.fieldLink "SnowKeepsModel" (374 : Nat) "SnowKeepsModel" "blurMost" "I" ∈ lw_tbl := in_tables_1_8 87 rfl
theorem w_1768 : Cond.fieldLink "SnowKeepsModel" (377 : Nat) "SnowKeepsModel" "blurSteps" "I" ∈ lw_tbl := in_tables_1_8 88 rfl
theorem w_1769 : Cond.fieldLink "SnowKeepsModel" (54 : Nat) "SnowKeepsModel" "outs" "[I" ∈ lw_tbl := in_tables_1_8 89 rfl
theorem w_1770 : Cond.fieldLink "SnowKeepsModel" (57 : Nat) "SnowKeepsModel" "guidePrint" "[I" ∈ lw_tbl := in_tables_1_8 90 rfl
theorem w_1771 : Cond.fieldLink "SnowKeepsModel" (60 : Nat) "SnowKeepsModel" "left" "[I" ∈ lw_tbl := in_tables_1_8 91 rfl
theorem w_1772 : Cond.fieldLink "SnowKeepsModel" (63 : Nat) "SnowKeepsModel" "taken" "[I" ∈ lw_tbl := in_tables_1_8 92 rfl
theorem w_1773 : Cond.fieldLink "SnowKeepsModel" (66 : Nat) "SnowKeepsModel" "rowPlaces" "[I" ∈ lw_tbl := in_tables_1_8 93 rfl
theorem w_1774 : Cond.fieldLink "SnowKeepsModel" (395 : Nat) "SnowKeepsModel" "leftMany" "I" ∈ lw_tbl := in_tables_1_8 94 rfl
theorem w_1775 : Cond.fieldLink "SnowKeepsModel" (398 : Nat) "SnowKeepsModel" "rowDeep" "I" ∈ lw_tbl := in_tables_1_8 95 rfl
theorem w_1776 : Cond.fieldLink "SnowKeepsModel" (405 : Nat) "SnowKeepsModel" "sureFirst" "I" ∈ lw_tbl := in_tables_1_8 96 rfl
theorem w_1777 : Cond.fieldLink "SnowKeepsModel" (408 : Nat) "SnowKeepsModel" "sureLast" "I" ∈ lw_tbl := in_tables_1_8 97 rfl
theorem w_1778 : Cond.fieldLink "SnowKeepsModel" (401 : Nat) "SnowKeepsModel" "rowsFound" "J" ∈ lw_tbl := in_tables_1_8 98 rfl
theorem w_1779 : Cond.fieldLink "SnowKeepsModel" (411 : Nat) "SnowKeepsModel" "rowWanted" "J" ∈ lw_tbl := in_tables_1_8 99 rfl
theorem w_1780 : Cond.fieldLink "SnowKeepsModel" (414 : Nat) "SnowKeepsModel" "isStopped" "Z" ∈ lw_tbl := in_tables_1_8 100 rfl
theorem w_1781 : Cond.fieldLink "SnowKeepsModel" (69 : Nat) "SnowKeepsModel" "signs" "[I" ∈ lw_tbl := in_tables_1_8 101 rfl
theorem w_1782 : Cond.fieldLink "SnowKeepsModel" (72 : Nat) "SnowKeepsModel" "steps" "[I" ∈ lw_tbl := in_tables_1_8 102 rfl
theorem w_1783 : Cond.fieldLink "SnowKeepsModel" (75 : Nat) "SnowKeepsModel" "isSign" "[Z" ∈ lw_tbl := in_tables_1_8 103 rfl
theorem w_1784 : Cond.fieldLink "SnowKeepsModel" (440 : Nat) "SnowKeepsModel" "signMany" "I" ∈ lw_tbl := in_tables_1_8 104 rfl
theorem w_1785 : Cond.fieldLink "SnowKeepsModel" (78 : Nat) "SnowKeepsModel" "sign" "[I" ∈ lw_tbl := in_tables_1_8 105 rfl
theorem w_1786 : Cond.fieldLink "SnowKeepsModel" (81 : Nat) "SnowKeepsModel" "queue" "[I" ∈ lw_tbl := in_tables_1_8 106 rfl
theorem w_1787 : Cond.fieldLink "SnowKeepsModel" (84 : Nat) "SnowKeepsModel" "farther" "[I" ∈ lw_tbl := in_tables_1_8 107 rfl
theorem w_1788 : Cond.fieldLink "SnowKeepsModel" (452 : Nat) "SnowKeepsModel" "signWays" "I" ∈ lw_tbl := in_tables_1_8 108 rfl
theorem w_1789 : Cond.fieldLink "SnowKeepsModel" (473 : Nat) "SnowKeepsModel" "clearMany" "J" ∈ lw_tbl := in_tables_1_8 109 rfl
theorem w_1790 : Cond.fieldLink "SnowKeepsModel" (87 : Nat) "SnowKeepsModel" "gone" "[I" ∈ lw_tbl := in_tables_1_8 110 rfl
theorem w_1791 : Cond.fieldLink "SnowKeepsModel" (476 : Nat) "SnowKeepsModel" "goneMany" "I" ∈ lw_tbl := in_tables_1_8 111 rfl
theorem w_1792 : Cond.fieldLink "SnowKeepsModel" (90 : Nat) "SnowKeepsModel" "tSort" "[I" ∈ lw_tbl := in_tables_1_8 112 rfl
theorem w_1793 : Cond.fieldLink "SnowKeepsModel" (93 : Nat) "SnowKeepsModel" "tMany" "[I" ∈ lw_tbl := in_tables_1_8 113 rfl
theorem w_1794 : Cond.fieldLink "SnowKeepsModel" (96 : Nat) "SnowKeepsModel" "numbers" "[J" ∈ lw_tbl := in_tables_1_8 114 rfl
theorem w_1908 : Cond.arrayClass FieldType.boolean ∈ lw_tbl := in_tables_1_8 228 rfl
theorem w_1909 : Cond.methodLink "SnowKeepsLaw" (191 : Nat) ({ cls := "SnowKeepsModel", name := "thrown", desc := "()I" } : MethodName) ∈ lw_tbl := in_tables_1_8 229 rfl
theorem w_1910 : Cond.instanceMethod ({ cls := "SnowKeepsModel", name := "thrown", desc := "()I" } : MethodName) ∈ lw_tbl := in_tables_1_8 230 rfl
theorem w_1911 : Cond.selects "SnowKeepsModel" ({ cls := "SnowKeepsModel", name := "thrown", desc := "()I" } : MethodName) ({ cls := "SnowKeepsModel", name := "thrown", desc := "()I" } : MethodName) ∈ lw_tbl := in_tables_1_8 231 rfl
theorem w_1912 : Cond.code ({ cls := "SnowKeepsModel", name := "thrown", desc := "()I" } : MethodName) prog_14_method_2_code (1 : Nat) (Option.some FieldType.int) ∈ lw_tbl := in_tables_1_8 232 rfl
theorem w_1913 : Cond.methodLink "SnowKeepsLaw" (184 : Nat) ({ cls := "SnowKeepsModel", name := "feed", desc := "(IIIII)I" } : MethodName) ∈ lw_tbl := in_tables_1_8 233 rfl
theorem w_1914 : Cond.instanceMethod ({ cls := "SnowKeepsModel", name := "feed", desc := "(IIIII)I" } : MethodName) ∈ lw_tbl := in_tables_1_8 234 rfl
theorem w_1915 : Cond.selects "SnowKeepsModel" ({ cls := "SnowKeepsModel", name := "feed", desc := "(IIIII)I" } : MethodName) ({ cls := "SnowKeepsModel", name := "feed", desc := "(IIIII)I" } : MethodName) ∈ lw_tbl := in_tables_1_8 235 rfl
theorem w_1916 : Cond.code ({ cls := "SnowKeepsModel", name := "feed", desc := "(IIIII)I" } : MethodName) prog_14_method_6_code (8 : Nat) (Option.some FieldType.int) ∈ lw_tbl := in_tables_1_8 236 rfl
theorem w_1917 : Cond.methodLink "SnowKeepsLaw" (190 : Nat) ({ cls := "SnowKeepsModel", name := "plain", desc := "(I)I" } : MethodName) ∈ lw_tbl := in_tables_1_8 237 rfl
theorem w_1918 : Cond.instanceMethod ({ cls := "SnowKeepsModel", name := "plain", desc := "(I)I" } : MethodName) ∈ lw_tbl := in_tables_1_8 238 rfl
theorem w_1919 : Cond.selects "SnowKeepsModel" ({ cls := "SnowKeepsModel", name := "plain", desc := "(I)I" } : MethodName) ({ cls := "SnowKeepsModel", name := "plain", desc := "(I)I" } : MethodName) ∈ lw_tbl := in_tables_1_8 239 rfl
theorem w_1920 : Cond.code ({ cls := "SnowKeepsModel", name := "plain", desc := "(I)I" } : MethodName) prog_14_method_23_code (3 : Nat) (Option.some FieldType.int) ∈ lw_tbl := in_tables_1_9 0 rfl
theorem w_1921 : Cond.methodLink "SnowKeepsModel" (158 : Nat) ({ cls := "SnowKeepsModel", name := "within", desc := "(JJJ)Z" } : MethodName) ∈ lw_tbl := in_tables_1_9 1 rfl
theorem w_1922 : Cond.static ({ cls := "SnowKeepsModel", name := "within", desc := "(JJJ)Z" } : MethodName) ∈ lw_tbl := in_tables_1_9 2 rfl
theorem w_1923 : Cond.code ({ cls := "SnowKeepsModel", name := "within", desc := "(JJJ)Z" } : MethodName) prog_14_method_4_code (6 : Nat) (Option.some FieldType.boolean) ∈ lw_tbl := in_tables_1_9 3 rfl
theorem w_1924 : Cond.methodLink "SnowKeepsModel" (203 : Nat) ({ cls := "SnowKeepsModel", name := "fails", desc := "(I)I" } : MethodName) ∈ lw_tbl := in_tables_1_9 4 rfl
theorem w_1926 : Cond.instanceMethod ({ cls := "SnowKeepsModel", name := "fails", desc := "(I)I" } : MethodName) ∈ lw_tbl := in_tables_1_9 6 rfl
theorem w_1927 : Cond.code ({ cls := "SnowKeepsModel", name := "fails", desc := "(I)I" } : MethodName) prog_14_method_3_code (2 : Nat) (Option.some FieldType.int) ∈ lw_tbl := in_tables_1_9 7 rfl
theorem w_1928 : Cond.methodLink "SnowKeepsModel" (151 : Nat) ({ cls := "SnowKeepsModel", name := "readsOn", desc := "()V" } : MethodName) ∈ lw_tbl := in_tables_1_9 8 rfl
theorem w_1930 : Cond.instanceMethod ({ cls := "SnowKeepsModel", name := "readsOn", desc := "()V" } : MethodName) ∈ lw_tbl := in_tables_1_9 10 rfl
theorem w_1931 : Cond.code ({ cls := "SnowKeepsModel", name := "readsOn", desc := "()V" } : MethodName) prog_14_method_10_code (2 : Nat) (Option.none : Option FieldType) ∈ lw_tbl := in_tables_1_9 11 rfl
theorem w_1932 : Cond.methodLink "SnowKeepsModel" (118 : Nat) ({ cls := "SnowKeepsModel", name := "isLetter", desc := "(I)Z" } : MethodName) ∈ lw_tbl := in_tables_1_9 12 rfl
theorem w_1933 : Cond.static ({ cls := "SnowKeepsModel", name := "isLetter", desc := "(I)Z" } : MethodName) ∈ lw_tbl := in_tables_1_9 13 rfl
theorem w_1934 : Cond.code ({ cls := "SnowKeepsModel", name := "isLetter", desc := "(I)Z" } : MethodName) prog_14_method_8_code (1 : Nat) (Option.some FieldType.boolean) ∈ lw_tbl := in_tables_1_9 14 rfl
theorem w_1935 : Cond.methodLink "SnowKeepsModel" (122 : Nat) ({ cls := "SnowKeepsModel", name := "see", desc := "(I)I" } : MethodName) ∈ lw_tbl := in_tables_1_9 15 rfl
theorem w_1937 : Cond.instanceMethod ({ cls := "SnowKeepsModel", name := "see", desc := "(I)I" } : MethodName) ∈ lw_tbl := in_tables_1_9 17 rfl
theorem w_1938 : Cond.code ({ cls := "SnowKeepsModel", name := "see", desc := "(I)I" } : MethodName) prog_14_method_7_code (2 : Nat) (Option.some FieldType.int) ∈ lw_tbl := in_tables_1_9 18 rfl
theorem w_1939 : Cond.methodLink "SnowKeepsModel" (126 : Nat) ({ cls := "SnowKeepsModel", name := "isDigit", desc := "(I)Z" } : MethodName) ∈ lw_tbl := in_tables_1_9 19 rfl
theorem w_1940 : Cond.static ({ cls := "SnowKeepsModel", name := "isDigit", desc := "(I)Z" } : MethodName) ∈ lw_tbl := in_tables_1_9 20 rfl
theorem w_1941 : Cond.code ({ cls := "SnowKeepsModel", name := "isDigit", desc := "(I)Z" } : MethodName) prog_14_method_9_code (1 : Nat) (Option.some FieldType.boolean) ∈ lw_tbl := in_tables_1_9 21 rfl
theorem w_1943 : Cond.methodLink "SnowKeepsModel" (175 : Nat) ({ cls := "SnowKeepsModel", name := "took", desc := "(Ljava/lang/String;)Z" } : MethodName) ∈ lw_tbl := in_tables_1_9 23 rfl
theorem w_1945 : Cond.instanceMethod ({ cls := "SnowKeepsModel", name := "took", desc := "(Ljava/lang/String;)Z" } : MethodName) ∈ lw_tbl := in_tables_1_9 25 rfl
theorem w_1946 : Cond.code ({ cls := "SnowKeepsModel", name := "took", desc := "(Ljava/lang/String;)Z" } : MethodName) prog_14_method_13_code (3 : Nat) (Option.some FieldType.boolean) ∈ lw_tbl := in_tables_1_9 26 rfl
theorem w_1947 : Cond.methodLink "SnowKeepsModel" (147 : Nat) ({ cls := "SnowKeepsModel", name := "isWord", desc := "(Ljava/lang/String;)Z" } : MethodName) ∈ lw_tbl := in_tables_1_9 27 rfl
theorem w_1949 : Cond.instanceMethod ({ cls := "SnowKeepsModel", name := "isWord", desc := "(Ljava/lang/String;)Z" } : MethodName) ∈ lw_tbl := in_tables_1_9 29 rfl
theorem w_1950 : Cond.code ({ cls := "SnowKeepsModel", name := "isWord", desc := "(Ljava/lang/String;)Z" } : MethodName) prog_14_method_12_code (4 : Nat) (Option.some FieldType.boolean) ∈ lw_tbl := in_tables_1_9 30 rfl
theorem w_1951 : Cond.methodLink "SnowKeepsModel" (138 : Nat) ({ cls := "java/lang/String", name := "length", desc := "()I" } : MethodName) ∈ lw_tbl := in_tables_1_9 31 rfl
theorem w_1952 : Cond.methodLink "SnowKeepsModel" (143 : Nat) ({ cls := "java/lang/String", name := "charAt", desc := "(I)C" } : MethodName) ∈ lw_tbl := in_tables_1_9 32 rfl
theorem w_1953 : Cond.methodLink "SnowKeepsModel" (154 : Nat) ({ cls := "SnowKeepsModel", name := "blames", desc := "(I)V" } : MethodName) ∈ lw_tbl := in_tables_1_9 33 rfl
theorem w_1955 : Cond.instanceMethod ({ cls := "SnowKeepsModel", name := "blames", desc := "(I)V" } : MethodName) ∈ lw_tbl := in_tables_1_9 35 rfl
theorem w_1956 : Cond.code ({ cls := "SnowKeepsModel", name := "blames", desc := "(I)V" } : MethodName) prog_14_method_11_code (2 : Nat) (Option.none : Option FieldType) ∈ lw_tbl := in_tables_1_9 36 rfl
theorem w_1957 : Cond.methodLink "SnowKeepsModel" (162 : Nat) ({ cls := "SnowKeepsModel", name := "number", desc := "(II)I" } : MethodName) ∈ lw_tbl := in_tables_1_9 37 rfl
theorem w_1959 : Cond.instanceMethod ({ cls := "SnowKeepsModel", name := "number", desc := "(II)I" } : MethodName) ∈ lw_tbl := in_tables_1_9 39 rfl
theorem w_1960 : Cond.code ({ cls := "SnowKeepsModel", name := "number", desc := "(II)I" } : MethodName) prog_14_method_14_code (4 : Nat) (Option.some FieldType.int) ∈ lw_tbl := in_tables_1_9 40 rfl
theorem w_1961 : Cond.methodLink "SnowKeepsModel" (200 : Nat) ({ cls := "SnowKeepsModel", name := "readStop", desc := "()V" } : MethodName) ∈ lw_tbl := in_tables_1_9 41 rfl
theorem w_1963 : Cond.instanceMethod ({ cls := "SnowKeepsModel", name := "readStop", desc := "()V" } : MethodName) ∈ lw_tbl := in_tables_1_9 43 rfl
theorem w_1964 : Cond.code ({ cls := "SnowKeepsModel", name := "readStop", desc := "()V" } : MethodName) prog_14_method_21_code (1 : Nat) (Option.none : Option FieldType) ∈ lw_tbl := in_tables_1_9 44 rfl
theorem w_1965 : Cond.methodLink "SnowKeepsModel" (208 : Nat) ({ cls := "SnowKeepsModel", name := "readLine", desc := "()V" } : MethodName) ∈ lw_tbl := in_tables_1_9 45 rfl
theorem w_1967 : Cond.instanceMethod ({ cls := "SnowKeepsModel", name := "readLine", desc := "()V" } : MethodName) ∈ lw_tbl := in_tables_1_9 47 rfl
theorem w_1968 : Cond.code ({ cls := "SnowKeepsModel", name := "readLine", desc := "()V" } : MethodName) prog_14_method_22_code (1 : Nat) (Option.none : Option FieldType) ∈ lw_tbl := in_tables_1_9 48 rfl
theorem w_1970 : Cond.methodLink "SnowKeepsModel" (183 : Nat) ({ cls := "SnowKeepsModel", name := "readPath", desc := "()V" } : MethodName) ∈ lw_tbl := in_tables_1_9 50 rfl
theorem w_1972 : Cond.instanceMethod ({ cls := "SnowKeepsModel", name := "readPath", desc := "()V" } : MethodName) ∈ lw_tbl := in_tables_1_9 52 rfl
theorem w_1973 : Cond.code ({ cls := "SnowKeepsModel", name := "readPath", desc := "()V" } : MethodName) prog_14_method_17_code (3 : Nat) (Option.none : Option FieldType) ∈ lw_tbl := in_tables_1_9 53 rfl
theorem w_1974 : Cond.methodLink "SnowKeepsModel" (166 : Nat) ({ cls := "SnowKeepsModel", name := "place", desc := "()I" } : MethodName) ∈ lw_tbl := in_tables_1_9 54 rfl
theorem w_1976 : Cond.instanceMethod ({ cls := "SnowKeepsModel", name := "place", desc := "()I" } : MethodName) ∈ lw_tbl := in_tables_1_9 56 rfl
theorem w_1977 : Cond.code ({ cls := "SnowKeepsModel", name := "place", desc := "()I" } : MethodName) prog_14_method_16_code (1 : Nat) (Option.some FieldType.int) ∈ lw_tbl := in_tables_1_9 57 rfl
theorem w_1978 : Cond.methodLink "SnowKeepsModel" (169 : Nat) ({ cls := "SnowKeepsModel", name := "pathOf", desc := "([III)I" } : MethodName) ∈ lw_tbl := in_tables_1_9 58 rfl
theorem w_1979 : Cond.static ({ cls := "SnowKeepsModel", name := "pathOf", desc := "([III)I" } : MethodName) ∈ lw_tbl := in_tables_1_9 59 rfl
theorem w_1980 : Cond.code ({ cls := "SnowKeepsModel", name := "pathOf", desc := "([III)I" } : MethodName) prog_14_method_15_code (6 : Nat) (Option.some FieldType.int) ∈ lw_tbl := in_tables_1_9 60 rfl
theorem w_1982 : Cond.methodLink "SnowKeepsModel" (188 : Nat) ({ cls := "SnowKeepsModel", name := "readWalker", desc := "()V" } : MethodName) ∈ lw_tbl := in_tables_1_9 62 rfl
theorem w_1984 : Cond.instanceMethod ({ cls := "SnowKeepsModel", name := "readWalker", desc := "()V" } : MethodName) ∈ lw_tbl := in_tables_1_9 64 rfl
theorem w_1985 : Cond.code ({ cls := "SnowKeepsModel", name := "readWalker", desc := "()V" } : MethodName) prog_14_method_18_code (3 : Nat) (Option.none : Option FieldType) ∈ lw_tbl := in_tables_1_9 65 rfl
theorem w_1987 : Cond.methodLink "SnowKeepsModel" (178 : Nat) ({ cls := "SnowKeepsModel", name := "readBeat", desc := "(I)V" } : MethodName) ∈ lw_tbl := in_tables_1_9 67 rfl
theorem w_1989 : Cond.instanceMethod ({ cls := "SnowKeepsModel", name := "readBeat", desc := "(I)V" } : MethodName) ∈ lw_tbl := in_tables_1_9 69 rfl
theorem w_1990 : Cond.code ({ cls := "SnowKeepsModel", name := "readBeat", desc := "(I)V" } : MethodName) prog_14_method_19_code (3 : Nat) (Option.none : Option FieldType) ∈ lw_tbl := in_tables_1_9 70 rfl
theorem w_1993 : Cond.methodLink "SnowKeepsModel" (195 : Nat) ({ cls := "SnowKeepsModel", name := "readStorm", desc := "()V" } : MethodName) ∈ lw_tbl := in_tables_1_9 73 rfl
theorem w_1995 : Cond.instanceMethod ({ cls := "SnowKeepsModel", name := "readStorm", desc := "()V" } : MethodName) ∈ lw_tbl := in_tables_1_9 75 rfl
theorem w_1996 : Cond.code ({ cls := "SnowKeepsModel", name := "readStorm", desc := "()V" } : MethodName) prog_14_method_20_code (3 : Nat) (Option.none : Option FieldType) ∈ lw_tbl := in_tables_1_9 76 rfl
theorem w_1998 : Cond.methodLink "SnowKeepsModel" (214 : Nat) ({ cls := "SnowKeepsModel", name := "copies", desc := "([I[I)V" } : MethodName) ∈ lw_tbl := in_tables_1_9 78 rfl
theorem w_1999 : Cond.static ({ cls := "SnowKeepsModel", name := "copies", desc := "([I[I)V" } : MethodName) ∈ lw_tbl := in_tables_1_9 79 rfl
theorem w_2000 : Cond.code ({ cls := "SnowKeepsModel", name := "copies", desc := "([I[I)V" } : MethodName) prog_14_method_5_code (3 : Nat) (Option.none : Option FieldType) ∈ lw_tbl := in_tables_1_9 80 rfl
theorem w_2001 : Cond.methodLink "SnowKeepsLaw" (198 : Nat) ({ cls := "SnowKeepsModel", name := "fault", desc := "(I)I" } : MethodName) ∈ lw_tbl := in_tables_1_9 81 rfl
theorem w_2002 : Cond.instanceMethod ({ cls := "SnowKeepsModel", name := "fault", desc := "(I)I" } : MethodName) ∈ lw_tbl := in_tables_1_9 82 rfl
theorem w_2003 : Cond.selects "SnowKeepsModel" ({ cls := "SnowKeepsModel", name := "fault", desc := "(I)I" } : MethodName) ({ cls := "SnowKeepsModel", name := "fault", desc := "(I)I" } : MethodName) ∈ lw_tbl := in_tables_1_9 83 rfl
theorem w_2004 : Cond.code ({ cls := "SnowKeepsModel", name := "fault", desc := "(I)I" } : MethodName) prog_14_method_24_code (2 : Nat) (Option.some FieldType.int) ∈ lw_tbl := in_tables_1_9 84 rfl
theorem w_2005 : Cond.methodLink "SnowKeepsLaw" (202 : Nat) ({ cls := "SnowKeepsModel", name := "path", desc := "(II)I" } : MethodName) ∈ lw_tbl := in_tables_1_9 85 rfl
theorem w_2006 : Cond.instanceMethod ({ cls := "SnowKeepsModel", name := "path", desc := "(II)I" } : MethodName) ∈ lw_tbl := in_tables_1_9 86 rfl
theorem w_2007 : Cond.selects "SnowKeepsModel" ({ cls := "SnowKeepsModel", name := "path", desc := "(II)I" } : MethodName) ({ cls := "SnowKeepsModel", name := "path", desc := "(II)I" } : MethodName) ∈ lw_tbl := in_tables_1_9 87 rfl
theorem w_2008 : Cond.code ({ cls := "SnowKeepsModel", name := "path", desc := "(II)I" } : MethodName) prog_14_method_37_code (3 : Nat) (Option.some FieldType.int) ∈ lw_tbl := in_tables_1_9 88 rfl
theorem w_2009 : Cond.constantLong "SnowKeepsModel" (229 : Nat) (3 : Int64) ∈ lw_tbl := in_tables_1_9 89 rfl
theorem w_2010 : Cond.methodLink "SnowKeepsModel" (231 : Nat) ({ cls := "SnowKeepsModel", name := "printsOf", desc := "(I)I" } : MethodName) ∈ lw_tbl := in_tables_1_9 90 rfl
theorem w_2012 : Cond.instanceMethod ({ cls := "SnowKeepsModel", name := "printsOf", desc := "(I)I" } : MethodName) ∈ lw_tbl := in_tables_1_9 92 rfl
theorem w_2013 : Cond.code ({ cls := "SnowKeepsModel", name := "printsOf", desc := "(I)I" } : MethodName) prog_14_method_36_code (4 : Nat) (Option.some FieldType.int) ∈ lw_tbl := in_tables_1_9 93 rfl
theorem w_2014 : Cond.methodLink "SnowKeepsModel" (223 : Nat) ({ cls := "SnowKeepsModel", name := "many", desc := "()I" } : MethodName) ∈ lw_tbl := in_tables_1_9 94 rfl
theorem w_2016 : Cond.instanceMethod ({ cls := "SnowKeepsModel", name := "many", desc := "()I" } : MethodName) ∈ lw_tbl := in_tables_1_9 96 rfl
theorem w_2017 : Cond.code ({ cls := "SnowKeepsModel", name := "many", desc := "()I" } : MethodName) prog_14_method_27_code (1 : Nat) (Option.some FieldType.int) ∈ lw_tbl := in_tables_1_9 97 rfl
theorem w_2018 : Cond.methodLink "SnowKeepsModel" (226 : Nat) ({ cls := "SnowKeepsModel", name := "wayOf", desc := "(I)I" } : MethodName) ∈ lw_tbl := in_tables_1_9 98 rfl
theorem w_2020 : Cond.instanceMethod ({ cls := "SnowKeepsModel", name := "wayOf", desc := "(I)I" } : MethodName) ∈ lw_tbl := in_tables_1_9 100 rfl
theorem w_2021 : Cond.code ({ cls := "SnowKeepsModel", name := "wayOf", desc := "(I)I" } : MethodName) prog_14_method_33_code (2 : Nat) (Option.some FieldType.int) ∈ lw_tbl := in_tables_1_9 101 rfl
theorem w_2022 : Cond.methodLink "SnowKeepsLaw" (205 : Nat) ({ cls := "SnowKeepsModel", name := "distance", desc := "(II)I" } : MethodName) ∈ lw_tbl := in_tables_1_9 102 rfl
theorem w_2023 : Cond.instanceMethod ({ cls := "SnowKeepsModel", name := "distance", desc := "(II)I" } : MethodName) ∈ lw_tbl := in_tables_1_9 103 rfl
theorem w_2024 : Cond.selects "SnowKeepsModel" ({ cls := "SnowKeepsModel", name := "distance", desc := "(II)I" } : MethodName) ({ cls := "SnowKeepsModel", name := "distance", desc := "(II)I" } : MethodName) ∈ lw_tbl := in_tables_1_9 104 rfl
theorem w_2025 : Cond.code ({ cls := "SnowKeepsModel", name := "distance", desc := "(II)I" } : MethodName) prog_14_method_39_code (3 : Nat) (Option.some FieldType.int) ∈ lw_tbl := in_tables_1_9 105 rfl
theorem w_2026 : Cond.methodLink "SnowKeepsModel" (240 : Nat) ({ cls := "SnowKeepsModel", name := "isPlace", desc := "(J)Z" } : MethodName) ∈ lw_tbl := in_tables_1_9 106 rfl
theorem w_2028 : Cond.instanceMethod ({ cls := "SnowKeepsModel", name := "isPlace", desc := "(J)Z" } : MethodName) ∈ lw_tbl := in_tables_1_9 108 rfl
theorem w_2029 : Cond.code ({ cls := "SnowKeepsModel", name := "isPlace", desc := "(J)Z" } : MethodName) prog_14_method_28_code (3 : Nat) (Option.some FieldType.boolean) ∈ lw_tbl := in_tables_1_9 109 rfl
theorem w_2030 : Cond.methodLink "SnowKeepsModel" (218 : Nat) ({ cls := "SnowKeepsModel", name := "places", desc := "()I" } : MethodName) ∈ lw_tbl := in_tables_1_9 110 rfl
theorem w_2032 : Cond.instanceMethod ({ cls := "SnowKeepsModel", name := "places", desc := "()I" } : MethodName) ∈ lw_tbl := in_tables_1_9 112 rfl
theorem w_2033 : Cond.code ({ cls := "SnowKeepsModel", name := "places", desc := "()I" } : MethodName) prog_14_method_25_code (1 : Nat) (Option.some FieldType.int) ∈ lw_tbl := in_tables_1_9 113 rfl
theorem w_2034 : Cond.methodLink "SnowKeepsModel" (244 : Nat) ({ cls := "SnowKeepsModel", name := "laysFar", desc := "(IZ)V" } : MethodName) ∈ lw_tbl := in_tables_1_9 114 rfl
theorem w_2036 : Cond.instanceMethod ({ cls := "SnowKeepsModel", name := "laysFar", desc := "(IZ)V" } : MethodName) ∈ lw_tbl := in_tables_1_9 116 rfl
theorem w_2037 : Cond.code ({ cls := "SnowKeepsModel", name := "laysFar", desc := "(IZ)V" } : MethodName) prog_14_method_38_code (5 : Nat) (Option.none : Option FieldType) ∈ lw_tbl := in_tables_1_9 117 rfl
theorem w_2038 : Cond.methodLink "SnowKeepsModel" (234 : Nat) ({ cls := "SnowKeepsModel", name := "from", desc := "(I)I" } : MethodName) ∈ lw_tbl := in_tables_1_9 118 rfl
theorem w_2040 : Cond.instanceMethod ({ cls := "SnowKeepsModel", name := "from", desc := "(I)I" } : MethodName) ∈ lw_tbl := in_tables_1_9 120 rfl
theorem w_2041 : Cond.code ({ cls := "SnowKeepsModel", name := "from", desc := "(I)I" } : MethodName) prog_14_method_31_code (2 : Nat) (Option.some FieldType.int) ∈ lw_tbl := in_tables_1_9 121 rfl
theorem w_2042 : Cond.methodLink "SnowKeepsModel" (237 : Nat) ({ cls := "SnowKeepsModel", name := "to", desc := "(I)I" } : MethodName) ∈ lw_tbl := in_tables_1_9 122 rfl
theorem w_2044 : Cond.instanceMethod ({ cls := "SnowKeepsModel", name := "to", desc := "(I)I" } : MethodName) ∈ lw_tbl := in_tables_1_9 124 rfl
theorem w_2045 : Cond.code ({ cls := "SnowKeepsModel", name := "to", desc := "(I)I" } : MethodName) prog_14_method_32_code (2 : Nat) (Option.some FieldType.int) ∈ lw_tbl := in_tables_1_9 125 rfl
theorem w_2046 : Cond.methodLink "SnowKeepsLaw" (208 : Nat) ({ cls := "SnowKeepsModel", name := "walker", desc := "(II)I" } : MethodName) ∈ lw_tbl := in_tables_1_9 126 rfl
theorem w_2047 : Cond.instanceMethod ({ cls := "SnowKeepsModel", name := "walker", desc := "(II)I" } : MethodName) ∈ lw_tbl := in_tables_1_9 127 rfl
theorem w_2048 : Cond.selects "SnowKeepsModel" ({ cls := "SnowKeepsModel", name := "walker", desc := "(II)I" } : MethodName) ({ cls := "SnowKeepsModel", name := "walker", desc := "(II)I" } : MethodName) ∈ lw_tbl := in_tables_1_9 128 rfl
theorem w_2049 : Cond.code ({ cls := "SnowKeepsModel", name := "walker", desc := "(II)I" } : MethodName) prog_14_method_42_code (5 : Nat) (Option.some FieldType.int) ∈ lw_tbl := in_tables_1_9 129 rfl
theorem w_2050 : Cond.methodLink "SnowKeepsModel" (251 : Nat) ({ cls := "SnowKeepsModel", name := "isWalker", desc := "(J)Z" } : MethodName) ∈ lw_tbl := in_tables_1_9 130 rfl
theorem w_2052 : Cond.instanceMethod ({ cls := "SnowKeepsModel", name := "isWalker", desc := "(J)Z" } : MethodName) ∈ lw_tbl := in_tables_1_9 132 rfl
theorem w_2053 : Cond.code ({ cls := "SnowKeepsModel", name := "isWalker", desc := "(J)Z" } : MethodName) prog_14_method_29_code (3 : Nat) (Option.some FieldType.boolean) ∈ lw_tbl := in_tables_1_9 133 rfl
theorem w_2054 : Cond.methodLink "SnowKeepsModel" (220 : Nat) ({ cls := "SnowKeepsModel", name := "walkers", desc := "()I" } : MethodName) ∈ lw_tbl := in_tables_1_9 134 rfl
theorem w_2056 : Cond.instanceMethod ({ cls := "SnowKeepsModel", name := "walkers", desc := "()I" } : MethodName) ∈ lw_tbl := in_tables_1_9 136 rfl
theorem w_2057 : Cond.code ({ cls := "SnowKeepsModel", name := "walkers", desc := "()I" } : MethodName) prog_14_method_26_code (1 : Nat) (Option.some FieldType.int) ∈ lw_tbl := in_tables_1_9 137 rfl
theorem w_2058 : Cond.methodLink "SnowKeepsModel" (248 : Nat) ({ cls := "SnowKeepsModel", name := "whose", desc := "(I)I" } : MethodName) ∈ lw_tbl := in_tables_1_9 138 rfl
theorem w_2060 : Cond.instanceMethod ({ cls := "SnowKeepsModel", name := "whose", desc := "(I)I" } : MethodName) ∈ lw_tbl := in_tables_1_9 140 rfl
theorem w_2061 : Cond.code ({ cls := "SnowKeepsModel", name := "whose", desc := "(I)I" } : MethodName) prog_14_method_34_code (2 : Nat) (Option.some FieldType.int) ∈ lw_tbl := in_tables_1_9 141 rfl
theorem w_2062 : Cond.methodLink "SnowKeepsModel" (254 : Nat) ({ cls := "SnowKeepsModel", name := "eldestOf", desc := "(I)I" } : MethodName) ∈ lw_tbl := in_tables_1_9 142 rfl
theorem w_2064 : Cond.instanceMethod ({ cls := "SnowKeepsModel", name := "eldestOf", desc := "(I)I" } : MethodName) ∈ lw_tbl := in_tables_1_9 144 rfl
theorem w_2065 : Cond.code ({ cls := "SnowKeepsModel", name := "eldestOf", desc := "(I)I" } : MethodName) prog_14_method_40_code (3 : Nat) (Option.some FieldType.int) ∈ lw_tbl := in_tables_1_9 145 rfl
theorem w_2066 : Cond.methodLink "SnowKeepsLaw" (211 : Nat) ({ cls := "SnowKeepsModel", name := "print", desc := "(II)I" } : MethodName) ∈ lw_tbl := in_tables_1_9 146 rfl
theorem w_2067 : Cond.instanceMethod ({ cls := "SnowKeepsModel", name := "print", desc := "(II)I" } : MethodName) ∈ lw_tbl := in_tables_1_9 147 rfl
theorem w_2068 : Cond.selects "SnowKeepsModel" ({ cls := "SnowKeepsModel", name := "print", desc := "(II)I" } : MethodName) ({ cls := "SnowKeepsModel", name := "print", desc := "(II)I" } : MethodName) ∈ lw_tbl := in_tables_1_9 148 rfl
theorem w_2069 : Cond.code ({ cls := "SnowKeepsModel", name := "print", desc := "(II)I" } : MethodName) prog_14_method_43_code (3 : Nat) (Option.some FieldType.int) ∈ lw_tbl := in_tables_1_9 149 rfl
theorem w_2070 : Cond.constantLong "SnowKeepsModel" (257 : Nat) (2 : Int64) ∈ lw_tbl := in_tables_1_9 150 rfl
theorem w_2071 : Cond.methodLink "SnowKeepsLaw" (214 : Nat) ({ cls := "SnowKeepsModel", name := "keep", desc := "(I)I" } : MethodName) ∈ lw_tbl := in_tables_1_9 151 rfl
theorem w_2072 : Cond.instanceMethod ({ cls := "SnowKeepsModel", name := "keep", desc := "(I)I" } : MethodName) ∈ lw_tbl := in_tables_1_9 152 rfl
theorem w_2073 : Cond.selects "SnowKeepsModel" ({ cls := "SnowKeepsModel", name := "keep", desc := "(I)I" } : MethodName) ({ cls := "SnowKeepsModel", name := "keep", desc := "(I)I" } : MethodName) ∈ lw_tbl := in_tables_1_9 153 rfl
theorem w_2074 : Cond.code ({ cls := "SnowKeepsModel", name := "keep", desc := "(I)I" } : MethodName) prog_14_method_45_code (2 : Nat) (Option.some FieldType.int) ∈ lw_tbl := in_tables_1_9 154 rfl
theorem w_2075 : Cond.constantLong "SnowKeepsModel" (259 : Nat) (60 : Int64) ∈ lw_tbl := in_tables_1_9 155 rfl
theorem w_2076 : Cond.methodLink "SnowKeepsModel" (261 : Nat) ({ cls := "java/lang/Math", name := "max", desc := "(II)I" } : MethodName) ∈ lw_tbl := in_tables_1_9 156 rfl
theorem w_2077 : Cond.methodLink "SnowKeepsModel" (266 : Nat) ({ cls := "SnowKeepsModel", name := "loses", desc := "(I)V" } : MethodName) ∈ lw_tbl := in_tables_1_9 157 rfl
theorem w_2079 : Cond.instanceMethod ({ cls := "SnowKeepsModel", name := "loses", desc := "(I)V" } : MethodName) ∈ lw_tbl := in_tables_1_9 159 rfl
theorem w_2080 : Cond.code ({ cls := "SnowKeepsModel", name := "loses", desc := "(I)V" } : MethodName) prog_14_method_44_code (3 : Nat) (Option.none : Option FieldType) ∈ lw_tbl := in_tables_1_9 160 rfl
theorem w_2081 : Cond.methodLink "SnowKeepsLaw" (218 : Nat) ({ cls := "SnowKeepsModel", name := "step", desc := "(II)I" } : MethodName) ∈ lw_tbl := in_tables_1_9 161 rfl
theorem w_2082 : Cond.instanceMethod ({ cls := "SnowKeepsModel", name := "step", desc := "(II)I" } : MethodName) ∈ lw_tbl := in_tables_1_9 162 rfl
theorem w_2083 : Cond.selects "SnowKeepsModel" ({ cls := "SnowKeepsModel", name := "step", desc := "(II)I" } : MethodName) ({ cls := "SnowKeepsModel", name := "step", desc := "(II)I" } : MethodName) ∈ lw_tbl := in_tables_1_9 163 rfl
theorem w_2084 : Cond.code ({ cls := "SnowKeepsModel", name := "step", desc := "(II)I" } : MethodName) prog_14_method_50_code (4 : Nat) (Option.some FieldType.int) ∈ lw_tbl := in_tables_1_9 164 rfl
theorem w_2085 : Cond.methodLink "SnowKeepsModel" (289 : Nat) ({ cls := "SnowKeepsModel", name := "whyNot", desc := "(JJ)I" } : MethodName) ∈ lw_tbl := in_tables_1_9 165 rfl
theorem w_2087 : Cond.instanceMethod ({ cls := "SnowKeepsModel", name := "whyNot", desc := "(JJ)I" } : MethodName) ∈ lw_tbl := in_tables_1_9 167 rfl
theorem w_2088 : Cond.code ({ cls := "SnowKeepsModel", name := "whyNot", desc := "(JJ)I" } : MethodName) prog_14_method_46_code (5 : Nat) (Option.some FieldType.int) ∈ lw_tbl := in_tables_1_9 168 rfl
theorem w_2089 : Cond.methodLink "SnowKeepsModel" (269 : Nat) ({ cls := "SnowKeepsModel", name := "where", desc := "(I)I" } : MethodName) ∈ lw_tbl := in_tables_1_9 169 rfl
theorem w_2091 : Cond.instanceMethod ({ cls := "SnowKeepsModel", name := "where", desc := "(I)I" } : MethodName) ∈ lw_tbl := in_tables_1_9 171 rfl
theorem w_2092 : Cond.code ({ cls := "SnowKeepsModel", name := "where", desc := "(I)I" } : MethodName) prog_14_method_35_code (2 : Nat) (Option.some FieldType.int) ∈ lw_tbl := in_tables_1_9 172 rfl
theorem w_2093 : Cond.methodLink "SnowKeepsModel" (272 : Nat) ({ cls := "SnowKeepsModel", name := "way", desc := "(II)I" } : MethodName) ∈ lw_tbl := in_tables_1_9 173 rfl
theorem w_2095 : Cond.instanceMethod ({ cls := "SnowKeepsModel", name := "way", desc := "(II)I" } : MethodName) ∈ lw_tbl := in_tables_1_9 175 rfl
theorem w_2096 : Cond.code ({ cls := "SnowKeepsModel", name := "way", desc := "(II)I" } : MethodName) prog_14_method_30_code (4 : Nat) (Option.some FieldType.int) ∈ lw_tbl := in_tables_1_9 176 rfl
theorem w_2097 : Cond.methodLink "SnowKeepsModel" (293 : Nat) ({ cls := "SnowKeepsModel", name := "goes", desc := "(II)V" } : MethodName) ∈ lw_tbl := in_tables_1_9 177 rfl
theorem w_2099 : Cond.instanceMethod ({ cls := "SnowKeepsModel", name := "goes", desc := "(II)V" } : MethodName) ∈ lw_tbl := in_tables_1_9 179 rfl
theorem w_2100 : Cond.code ({ cls := "SnowKeepsModel", name := "goes", desc := "(II)V" } : MethodName) prog_14_method_49_code (4 : Nat) (Option.none : Option FieldType) ∈ lw_tbl := in_tables_1_9 180 rfl
theorem w_2101 : Cond.methodLink "SnowKeepsModel" (275 : Nat) ({ cls := "SnowKeepsModel", name := "remembers", desc := "(II)V" } : MethodName) ∈ lw_tbl := in_tables_1_9 181 rfl
theorem w_2103 : Cond.instanceMethod ({ cls := "SnowKeepsModel", name := "remembers", desc := "(II)V" } : MethodName) ∈ lw_tbl := in_tables_1_9 183 rfl
theorem w_2104 : Cond.code ({ cls := "SnowKeepsModel", name := "remembers", desc := "(II)V" } : MethodName) prog_14_method_48_code (5 : Nat) (Option.none : Option FieldType) ∈ lw_tbl := in_tables_1_9 184 rfl
theorem w_2105 : Cond.methodLink "SnowKeepsModel" (283 : Nat) ({ cls := "SnowKeepsModel", name := "allSteps", desc := "()I" } : MethodName) ∈ lw_tbl := in_tables_1_9 185 rfl
theorem w_2107 : Cond.instanceMethod ({ cls := "SnowKeepsModel", name := "allSteps", desc := "()I" } : MethodName) ∈ lw_tbl := in_tables_1_9 187 rfl
theorem w_2108 : Cond.code ({ cls := "SnowKeepsModel", name := "allSteps", desc := "()I" } : MethodName) prog_14_method_47_code (3 : Nat) (Option.some FieldType.int) ∈ lw_tbl := in_tables_1_9 188 rfl
theorem w_2109 : Cond.methodLink "SnowKeepsModel" (286 : Nat) ({ cls := "java/lang/Math", name := "min", desc := "(II)I" } : MethodName) ∈ lw_tbl := in_tables_1_9 189 rfl
theorem w_2110 : Cond.methodLink "SnowKeepsLaw" (221 : Nat) ({ cls := "SnowKeepsModel", name := "storm", desc := "(I)I" } : MethodName) ∈ lw_tbl := in_tables_1_9 190 rfl
theorem w_2111 : Cond.instanceMethod ({ cls := "SnowKeepsModel", name := "storm", desc := "(I)I" } : MethodName) ∈ lw_tbl := in_tables_1_9 191 rfl
theorem w_2112 : Cond.selects "SnowKeepsModel" ({ cls := "SnowKeepsModel", name := "storm", desc := "(I)I" } : MethodName) ({ cls := "SnowKeepsModel", name := "storm", desc := "(I)I" } : MethodName) ∈ lw_tbl := in_tables_1_9 192 rfl
theorem w_2113 : Cond.code ({ cls := "SnowKeepsModel", name := "storm", desc := "(I)I" } : MethodName) prog_14_method_51_code (2 : Nat) (Option.some FieldType.int) ∈ lw_tbl := in_tables_1_9 193 rfl
theorem w_2114 : Cond.methodLink "SnowKeepsLaw" (237 : Nat) ({ cls := "SnowKeepsModel", name := "judge", desc := "(II)I" } : MethodName) ∈ lw_tbl := in_tables_1_9 194 rfl
theorem w_2115 : Cond.instanceMethod ({ cls := "SnowKeepsModel", name := "judge", desc := "(II)I" } : MethodName) ∈ lw_tbl := in_tables_1_9 195 rfl
theorem w_2116 : Cond.selects "SnowKeepsModel" ({ cls := "SnowKeepsModel", name := "judge", desc := "(II)I" } : MethodName) ({ cls := "SnowKeepsModel", name := "judge", desc := "(II)I" } : MethodName) ∈ lw_tbl := in_tables_1_9 196 rfl
theorem w_2117 : Cond.code ({ cls := "SnowKeepsModel", name := "judge", desc := "(II)I" } : MethodName) prog_14_method_57_code (7 : Nat) (Option.some FieldType.int) ∈ lw_tbl := in_tables_1_9 197 rfl
theorem w_2118 : Cond.methodLink "SnowKeepsModel" (305 : Nat) ({ cls := "SnowKeepsModel", name := "trayFault", desc := "(I)I" } : MethodName) ∈ lw_tbl := in_tables_1_9 198 rfl
theorem w_2120 : Cond.instanceMethod ({ cls := "SnowKeepsModel", name := "trayFault", desc := "(I)I" } : MethodName) ∈ lw_tbl := in_tables_1_9 200 rfl
theorem w_2121 : Cond.code ({ cls := "SnowKeepsModel", name := "trayFault", desc := "(I)I" } : MethodName) prog_14_method_52_code (2 : Nat) (Option.some FieldType.int) ∈ lw_tbl := in_tables_1_9 201 rfl
theorem w_2122 : Cond.methodLink "SnowKeepsModel" (296 : Nat) ({ cls := "SnowKeepsModel", name := "isTray", desc := "(I)Z" } : MethodName) ∈ lw_tbl := in_tables_1_9 202 rfl
theorem w_2123 : Cond.static ({ cls := "SnowKeepsModel", name := "isTray", desc := "(I)Z" } : MethodName) ∈ lw_tbl := in_tables_1_9 203 rfl
theorem w_2124 : Cond.code ({ cls := "SnowKeepsModel", name := "isTray", desc := "(I)Z" } : MethodName) prog_14_method_129_code (1 : Nat) (Option.some FieldType.boolean) ∈ lw_tbl := in_tables_1_9 204 rfl
theorem w_2125 : Cond.methodLink "SnowKeepsModel" (308 : Nat) ({ cls := "SnowKeepsModel", name := "goesBy", desc := "(I)I" } : MethodName) ∈ lw_tbl := in_tables_1_9 205 rfl
theorem w_2127 : Cond.instanceMethod ({ cls := "SnowKeepsModel", name := "goesBy", desc := "(I)I" } : MethodName) ∈ lw_tbl := in_tables_1_9 207 rfl
theorem w_2128 : Cond.code ({ cls := "SnowKeepsModel", name := "goesBy", desc := "(I)I" } : MethodName) prog_14_method_54_code (3 : Nat) (Option.some FieldType.int) ∈ lw_tbl := in_tables_1_9 208 rfl
theorem w_2129 : Cond.methodLink "SnowKeepsModel" (301 : Nat) ({ cls := "SnowKeepsModel", name := "whyTold", desc := "(J)I" } : MethodName) ∈ lw_tbl := in_tables_1_9 209 rfl
theorem w_2131 : Cond.instanceMethod ({ cls := "SnowKeepsModel", name := "whyTold", desc := "(J)I" } : MethodName) ∈ lw_tbl := in_tables_1_9 211 rfl
theorem w_2132 : Cond.code ({ cls := "SnowKeepsModel", name := "whyTold", desc := "(J)I" } : MethodName) prog_14_method_53_code (3 : Nat) (Option.some FieldType.int) ∈ lw_tbl := in_tables_1_9 212 rfl
theorem w_2133 : Cond.constantLong "SnowKeepsModel" (299 : Nat) (100 : Int64) ∈ lw_tbl := in_tables_1_9 213 rfl
theorem w_2134 : Cond.methodLink "SnowKeepsModel" (311 : Nat) ({ cls := "SnowKeepsModel", name := "printed", desc := "()I" } : MethodName) ∈ lw_tbl := in_tables_1_9 214 rfl
theorem w_2136 : Cond.instanceMethod ({ cls := "SnowKeepsModel", name := "printed", desc := "()I" } : MethodName) ∈ lw_tbl := in_tables_1_9 216 rfl
theorem w_2137 : Cond.code ({ cls := "SnowKeepsModel", name := "printed", desc := "()I" } : MethodName) prog_14_method_55_code (3 : Nat) (Option.some FieldType.int) ∈ lw_tbl := in_tables_1_9 217 rfl
theorem w_2138 : Cond.methodLink "SnowKeepsModel" (314 : Nat) ({ cls := "SnowKeepsModel", name := "size", desc := "(I)I" } : MethodName) ∈ lw_tbl := in_tables_1_9 218 rfl
theorem w_2139 : Cond.static ({ cls := "SnowKeepsModel", name := "size", desc := "(I)I" } : MethodName) ∈ lw_tbl := in_tables_1_9 219 rfl
theorem w_2140 : Cond.code ({ cls := "SnowKeepsModel", name := "size", desc := "(I)I" } : MethodName) prog_14_method_56_code (3 : Nat) (Option.some FieldType.int) ∈ lw_tbl := in_tables_1_9 220 rfl
theorem w_2141 : Cond.methodLink "SnowKeepsLaw" (240 : Nat) ({ cls := "SnowKeepsModel", name := "perform", desc := "(I)I" } : MethodName) ∈ lw_tbl := in_tables_1_9 221 rfl
theorem w_2142 : Cond.instanceMethod ({ cls := "SnowKeepsModel", name := "perform", desc := "(I)I" } : MethodName) ∈ lw_tbl := in_tables_1_9 222 rfl
theorem w_2143 : Cond.selects "SnowKeepsModel" ({ cls := "SnowKeepsModel", name := "perform", desc := "(I)I" } : MethodName) ({ cls := "SnowKeepsModel", name := "perform", desc := "(I)I" } : MethodName) ∈ lw_tbl := in_tables_1_9 223 rfl
theorem w_2144 : Cond.code ({ cls := "SnowKeepsModel", name := "perform", desc := "(I)I" } : MethodName) prog_14_method_58_code (2 : Nat) (Option.some FieldType.int) ∈ lw_tbl := in_tables_1_9 224 rfl
theorem w_2145 : Cond.methodLink "SnowKeepsLaw" (243 : Nat) ({ cls := "SnowKeepsModel", name := "day", desc := "(II)I" } : MethodName) ∈ lw_tbl := in_tables_1_9 225 rfl
theorem w_2146 : Cond.instanceMethod ({ cls := "SnowKeepsModel", name := "day", desc := "(II)I" } : MethodName) ∈ lw_tbl := in_tables_1_9 226 rfl
theorem w_2147 : Cond.selects "SnowKeepsModel" ({ cls := "SnowKeepsModel", name := "day", desc := "(II)I" } : MethodName) ({ cls := "SnowKeepsModel", name := "day", desc := "(II)I" } : MethodName) ∈ lw_tbl := in_tables_1_9 227 rfl
theorem w_2148 : Cond.code ({ cls := "SnowKeepsModel", name := "day", desc := "(II)I" } : MethodName) prog_14_method_61_code (9 : Nat) (Option.some FieldType.int) ∈ lw_tbl := in_tables_1_9 228 rfl
theorem w_2149 : Cond.methodLink "SnowKeepsModel" (321 : Nat) ({ cls := "SnowKeepsModel", name := "draw", desc := "(I)I" } : MethodName) ∈ lw_tbl := in_tables_1_9 229 rfl
theorem w_2151 : Cond.instanceMethod ({ cls := "SnowKeepsModel", name := "draw", desc := "(I)I" } : MethodName) ∈ lw_tbl := in_tables_1_9 231 rfl
theorem w_2152 : Cond.code ({ cls := "SnowKeepsModel", name := "draw", desc := "(I)I" } : MethodName) prog_14_method_59_code (2 : Nat) (Option.some FieldType.int) ∈ lw_tbl := in_tables_1_9 232 rfl
theorem w_2153 : Cond.constant "SnowKeepsModel" (317 : Nat) (1103515245 : Int32) ∈ lw_tbl := in_tables_1_9 233 rfl
theorem w_2154 : Cond.methodLink "SnowKeepsModel" (324 : Nat) ({ cls := "SnowKeepsModel", name := "besides", desc := "(I)I" } : MethodName) ∈ lw_tbl := in_tables_1_9 234 rfl
theorem w_2156 : Cond.instanceMethod ({ cls := "SnowKeepsModel", name := "besides", desc := "(I)I" } : MethodName) ∈ lw_tbl := in_tables_1_9 236 rfl
theorem w_2157 : Cond.code ({ cls := "SnowKeepsModel", name := "besides", desc := "(I)I" } : MethodName) prog_14_method_60_code (4 : Nat) (Option.some FieldType.int) ∈ lw_tbl := in_tables_1_9 237 rfl
theorem w_2158 : Cond.methodLink "SnowKeepsLaw" (247 : Nat) ({ cls := "SnowKeepsModel", name := "behind", desc := "(III)I" } : MethodName) ∈ lw_tbl := in_tables_1_9 238 rfl
theorem w_2159 : Cond.instanceMethod ({ cls := "SnowKeepsModel", name := "behind", desc := "(III)I" } : MethodName) ∈ lw_tbl := in_tables_1_9 239 rfl
theorem w_2160 : Cond.selects "SnowKeepsModel" ({ cls := "SnowKeepsModel", name := "behind", desc := "(III)I" } : MethodName) ({ cls := "SnowKeepsModel", name := "behind", desc := "(III)I" } : MethodName) ∈ lw_tbl := in_tables_1_10 0 rfl
theorem w_2161 : Cond.code ({ cls := "SnowKeepsModel", name := "behind", desc := "(III)I" } : MethodName) prog_14_method_63_code (5 : Nat) (Option.some FieldType.int) ∈ lw_tbl := in_tables_1_10 1 rfl
theorem w_2162 : Cond.methodLink "SnowKeepsModel" (327 : Nat) ({ cls := "SnowKeepsModel", name := "between", desc := "(II)I" } : MethodName) ∈ lw_tbl := in_tables_1_10 2 rfl
theorem w_2164 : Cond.instanceMethod ({ cls := "SnowKeepsModel", name := "between", desc := "(II)I" } : MethodName) ∈ lw_tbl := in_tables_1_10 4 rfl
theorem w_2165 : Cond.code ({ cls := "SnowKeepsModel", name := "between", desc := "(II)I" } : MethodName) prog_14_method_62_code (4 : Nat) (Option.some FieldType.int) ∈ lw_tbl := in_tables_1_10 5 rfl
theorem w_2166 : Cond.methodLink "SnowKeepsLaw" (250 : Nat) ({ cls := "SnowKeepsModel", name := "prints", desc := "(II)I" } : MethodName) ∈ lw_tbl := in_tables_1_10 6 rfl
theorem w_2167 : Cond.instanceMethod ({ cls := "SnowKeepsModel", name := "prints", desc := "(II)I" } : MethodName) ∈ lw_tbl := in_tables_1_10 7 rfl
theorem w_2168 : Cond.selects "SnowKeepsModel" ({ cls := "SnowKeepsModel", name := "prints", desc := "(II)I" } : MethodName) ({ cls := "SnowKeepsModel", name := "prints", desc := "(II)I" } : MethodName) ∈ lw_tbl := in_tables_1_10 8 rfl
theorem w_2169 : Cond.code ({ cls := "SnowKeepsModel", name := "prints", desc := "(II)I" } : MethodName) prog_14_method_64_code (3 : Nat) (Option.some FieldType.int) ∈ lw_tbl := in_tables_1_10 9 rfl
theorem w_2170 : Cond.methodLink "SnowKeepsLaw" (253 : Nat) ({ cls := "SnowKeepsModel", name := "age", desc := "(II)I" } : MethodName) ∈ lw_tbl := in_tables_1_10 10 rfl
theorem w_2171 : Cond.instanceMethod ({ cls := "SnowKeepsModel", name := "age", desc := "(II)I" } : MethodName) ∈ lw_tbl := in_tables_1_10 11 rfl
theorem w_2172 : Cond.selects "SnowKeepsModel" ({ cls := "SnowKeepsModel", name := "age", desc := "(II)I" } : MethodName) ({ cls := "SnowKeepsModel", name := "age", desc := "(II)I" } : MethodName) ∈ lw_tbl := in_tables_1_10 12 rfl
theorem w_2173 : Cond.code ({ cls := "SnowKeepsModel", name := "age", desc := "(II)I" } : MethodName) prog_14_method_66_code (4 : Nat) (Option.some FieldType.int) ∈ lw_tbl := in_tables_1_10 13 rfl
theorem w_2174 : Cond.methodLink "SnowKeepsModel" (330 : Nat) ({ cls := "SnowKeepsModel", name := "latestAlong", desc := "(I)I" } : MethodName) ∈ lw_tbl := in_tables_1_10 14 rfl
theorem w_2176 : Cond.instanceMethod ({ cls := "SnowKeepsModel", name := "latestAlong", desc := "(I)I" } : MethodName) ∈ lw_tbl := in_tables_1_10 16 rfl
theorem w_2177 : Cond.code ({ cls := "SnowKeepsModel", name := "latestAlong", desc := "(I)I" } : MethodName) prog_14_method_65_code (3 : Nat) (Option.some FieldType.int) ∈ lw_tbl := in_tables_1_10 17 rfl
theorem w_2178 : Cond.methodLink "SnowKeepsLaw" (257 : Nat) ({ cls := "SnowKeepsModel", name := "seen", desc := "(IZ)I" } : MethodName) ∈ lw_tbl := in_tables_1_10 18 rfl
theorem w_2179 : Cond.instanceMethod ({ cls := "SnowKeepsModel", name := "seen", desc := "(IZ)I" } : MethodName) ∈ lw_tbl := in_tables_1_10 19 rfl
theorem w_2180 : Cond.selects "SnowKeepsModel" ({ cls := "SnowKeepsModel", name := "seen", desc := "(IZ)I" } : MethodName) ({ cls := "SnowKeepsModel", name := "seen", desc := "(IZ)I" } : MethodName) ∈ lw_tbl := in_tables_1_10 20 rfl
theorem w_2181 : Cond.code ({ cls := "SnowKeepsModel", name := "seen", desc := "(IZ)I" } : MethodName) prog_14_method_67_code (7 : Nat) (Option.some FieldType.int) ∈ lw_tbl := in_tables_1_10 21 rfl
theorem w_2182 : Cond.methodLink "SnowKeepsLaw" (261 : Nat) ({ cls := "SnowKeepsModel", name := "bare", desc := "()I" } : MethodName) ∈ lw_tbl := in_tables_1_10 22 rfl
theorem w_2183 : Cond.instanceMethod ({ cls := "SnowKeepsModel", name := "bare", desc := "()I" } : MethodName) ∈ lw_tbl := in_tables_1_10 23 rfl
theorem w_2184 : Cond.selects "SnowKeepsModel" ({ cls := "SnowKeepsModel", name := "bare", desc := "()I" } : MethodName) ({ cls := "SnowKeepsModel", name := "bare", desc := "()I" } : MethodName) ∈ lw_tbl := in_tables_1_10 24 rfl
theorem w_2185 : Cond.code ({ cls := "SnowKeepsModel", name := "bare", desc := "()I" } : MethodName) prog_14_method_68_code (3 : Nat) (Option.some FieldType.int) ∈ lw_tbl := in_tables_1_10 25 rfl
theorem w_2186 : Cond.methodLink "SnowKeepsLaw" (264 : Nat) ({ cls := "SnowKeepsModel", name := "crossing", desc := "(II)I" } : MethodName) ∈ lw_tbl := in_tables_1_10 26 rfl
theorem w_2187 : Cond.instanceMethod ({ cls := "SnowKeepsModel", name := "crossing", desc := "(II)I" } : MethodName) ∈ lw_tbl := in_tables_1_10 27 rfl
theorem w_2188 : Cond.selects "SnowKeepsModel" ({ cls := "SnowKeepsModel", name := "crossing", desc := "(II)I" } : MethodName) ({ cls := "SnowKeepsModel", name := "crossing", desc := "(II)I" } : MethodName) ∈ lw_tbl := in_tables_1_10 28 rfl
theorem w_2189 : Cond.code ({ cls := "SnowKeepsModel", name := "crossing", desc := "(II)I" } : MethodName) prog_14_method_70_code (3 : Nat) (Option.some FieldType.int) ∈ lw_tbl := in_tables_1_10 29 rfl
theorem w_2190 : Cond.methodLink "SnowKeepsModel" (333 : Nat) ({ cls := "SnowKeepsModel", name := "touched", desc := "(I)I" } : MethodName) ∈ lw_tbl := in_tables_1_10 30 rfl
theorem w_2192 : Cond.instanceMethod ({ cls := "SnowKeepsModel", name := "touched", desc := "(I)I" } : MethodName) ∈ lw_tbl := in_tables_1_10 32 rfl
theorem w_2193 : Cond.code ({ cls := "SnowKeepsModel", name := "touched", desc := "(I)I" } : MethodName) prog_14_method_69_code (4 : Nat) (Option.some FieldType.int) ∈ lw_tbl := in_tables_1_10 33 rfl
theorem w_2194 : Cond.methodLink "SnowKeepsLaw" (267 : Nat) ({ cls := "SnowKeepsModel", name := "fades", desc := "(II)I" } : MethodName) ∈ lw_tbl := in_tables_1_10 34 rfl
theorem w_2195 : Cond.instanceMethod ({ cls := "SnowKeepsModel", name := "fades", desc := "(II)I" } : MethodName) ∈ lw_tbl := in_tables_1_10 35 rfl
theorem w_2196 : Cond.selects "SnowKeepsModel" ({ cls := "SnowKeepsModel", name := "fades", desc := "(II)I" } : MethodName) ({ cls := "SnowKeepsModel", name := "fades", desc := "(II)I" } : MethodName) ∈ lw_tbl := in_tables_1_10 36 rfl
theorem w_2197 : Cond.code ({ cls := "SnowKeepsModel", name := "fades", desc := "(II)I" } : MethodName) prog_14_method_72_code (3 : Nat) (Option.some FieldType.int) ∈ lw_tbl := in_tables_1_10 37 rfl
theorem w_2198 : Cond.methodLink "SnowKeepsModel" (336 : Nat) ({ cls := "SnowKeepsModel", name := "till", desc := "(I)I" } : MethodName) ∈ lw_tbl := in_tables_1_10 38 rfl
theorem w_2200 : Cond.instanceMethod ({ cls := "SnowKeepsModel", name := "till", desc := "(I)I" } : MethodName) ∈ lw_tbl := in_tables_1_10 40 rfl
theorem w_2201 : Cond.code ({ cls := "SnowKeepsModel", name := "till", desc := "(I)I" } : MethodName) prog_14_method_71_code (2 : Nat) (Option.some FieldType.int) ∈ lw_tbl := in_tables_1_10 41 rfl
theorem w_2202 : Cond.methodLink "SnowKeepsLaw" (270 : Nat) ({ cls := "SnowKeepsModel", name := "hired", desc := "(I)I" } : MethodName) ∈ lw_tbl := in_tables_1_10 42 rfl
theorem w_2203 : Cond.instanceMethod ({ cls := "SnowKeepsModel", name := "hired", desc := "(I)I" } : MethodName) ∈ lw_tbl := in_tables_1_10 43 rfl
theorem w_2204 : Cond.selects "SnowKeepsModel" ({ cls := "SnowKeepsModel", name := "hired", desc := "(I)I" } : MethodName) ({ cls := "SnowKeepsModel", name := "hired", desc := "(I)I" } : MethodName) ∈ lw_tbl := in_tables_1_10 44 rfl
theorem w_2205 : Cond.code ({ cls := "SnowKeepsModel", name := "hired", desc := "(I)I" } : MethodName) prog_14_method_73_code (2 : Nat) (Option.some FieldType.int) ∈ lw_tbl := in_tables_1_10 45 rfl
theorem w_2206 : Cond.methodLink "SnowKeepsModel" (339 : Nat) ({ cls := "SnowKeepsModel", name := "latestOf", desc := "(I)I" } : MethodName) ∈ lw_tbl := in_tables_1_10 46 rfl
theorem w_2208 : Cond.instanceMethod ({ cls := "SnowKeepsModel", name := "latestOf", desc := "(I)I" } : MethodName) ∈ lw_tbl := in_tables_1_10 48 rfl
theorem w_2209 : Cond.code ({ cls := "SnowKeepsModel", name := "latestOf", desc := "(I)I" } : MethodName) prog_14_method_41_code (3 : Nat) (Option.some FieldType.int) ∈ lw_tbl := in_tables_1_10 49 rfl
theorem w_2210 : Cond.methodLink "SnowKeepsLaw" (273 : Nat) ({ cls := "SnowKeepsModel", name := "remains", desc := "(II)I" } : MethodName) ∈ lw_tbl := in_tables_1_10 50 rfl
theorem w_2211 : Cond.instanceMethod ({ cls := "SnowKeepsModel", name := "remains", desc := "(II)I" } : MethodName) ∈ lw_tbl := in_tables_1_10 51 rfl
theorem w_2212 : Cond.selects "SnowKeepsModel" ({ cls := "SnowKeepsModel", name := "remains", desc := "(II)I" } : MethodName) ({ cls := "SnowKeepsModel", name := "remains", desc := "(II)I" } : MethodName) ∈ lw_tbl := in_tables_1_10 52 rfl
theorem w_2213 : Cond.code ({ cls := "SnowKeepsModel", name := "remains", desc := "(II)I" } : MethodName) prog_14_method_74_code (5 : Nat) (Option.some FieldType.int) ∈ lw_tbl := in_tables_1_10 53 rfl
theorem w_2214 : Cond.methodLink "SnowKeepsLaw" (286 : Nat) ({ cls := "SnowKeepsModel", name := "hound", desc := "(II)I" } : MethodName) ∈ lw_tbl := in_tables_1_10 54 rfl
theorem w_2215 : Cond.instanceMethod ({ cls := "SnowKeepsModel", name := "hound", desc := "(II)I" } : MethodName) ∈ lw_tbl := in_tables_1_10 55 rfl
theorem w_2216 : Cond.selects "SnowKeepsModel" ({ cls := "SnowKeepsModel", name := "hound", desc := "(II)I" } : MethodName) ({ cls := "SnowKeepsModel", name := "hound", desc := "(II)I" } : MethodName) ∈ lw_tbl := in_tables_1_10 56 rfl
theorem w_2217 : Cond.code ({ cls := "SnowKeepsModel", name := "hound", desc := "(II)I" } : MethodName) prog_14_method_75_code (6 : Nat) (Option.some FieldType.int) ∈ lw_tbl := in_tables_1_10 57 rfl
theorem w_2218 : Cond.methodLink "SnowKeepsLaw" (289 : Nat) ({ cls := "SnowKeepsModel", name := "hunter", desc := "(II)I" } : MethodName) ∈ lw_tbl := in_tables_1_10 58 rfl
theorem w_2219 : Cond.instanceMethod ({ cls := "SnowKeepsModel", name := "hunter", desc := "(II)I" } : MethodName) ∈ lw_tbl := in_tables_1_10 59 rfl
theorem w_2220 : Cond.selects "SnowKeepsModel" ({ cls := "SnowKeepsModel", name := "hunter", desc := "(II)I" } : MethodName) ({ cls := "SnowKeepsModel", name := "hunter", desc := "(II)I" } : MethodName) ∈ lw_tbl := in_tables_1_10 60 rfl
theorem w_2221 : Cond.code ({ cls := "SnowKeepsModel", name := "hunter", desc := "(II)I" } : MethodName) prog_14_method_76_code (7 : Nat) (Option.some FieldType.int) ∈ lw_tbl := in_tables_1_10 61 rfl
theorem w_2222 : Cond.methodLink "SnowKeepsLaw" (292 : Nat) ({ cls := "SnowKeepsModel", name := "hunts", desc := "(II)I" } : MethodName) ∈ lw_tbl := in_tables_1_10 62 rfl
theorem w_2223 : Cond.instanceMethod ({ cls := "SnowKeepsModel", name := "hunts", desc := "(II)I" } : MethodName) ∈ lw_tbl := in_tables_1_10 63 rfl
theorem w_2224 : Cond.selects "SnowKeepsModel" ({ cls := "SnowKeepsModel", name := "hunts", desc := "(II)I" } : MethodName) ({ cls := "SnowKeepsModel", name := "hunts", desc := "(II)I" } : MethodName) ∈ lw_tbl := in_tables_1_10 64 rfl
theorem w_2225 : Cond.code ({ cls := "SnowKeepsModel", name := "hunts", desc := "(II)I" } : MethodName) prog_14_method_77_code (3 : Nat) (Option.some FieldType.int) ∈ lw_tbl := in_tables_1_10 65 rfl
theorem w_2226 : Cond.methodLink "SnowKeepsLaw" (307 : Nat) ({ cls := "SnowKeepsModel", name := "retrace", desc := "(II)I" } : MethodName) ∈ lw_tbl := in_tables_1_10 66 rfl
theorem w_2227 : Cond.instanceMethod ({ cls := "SnowKeepsModel", name := "retrace", desc := "(II)I" } : MethodName) ∈ lw_tbl := in_tables_1_10 67 rfl
theorem w_2228 : Cond.selects "SnowKeepsModel" ({ cls := "SnowKeepsModel", name := "retrace", desc := "(II)I" } : MethodName) ({ cls := "SnowKeepsModel", name := "retrace", desc := "(II)I" } : MethodName) ∈ lw_tbl := in_tables_1_10 68 rfl
theorem w_2229 : Cond.code ({ cls := "SnowKeepsModel", name := "retrace", desc := "(II)I" } : MethodName) prog_14_method_79_code (4 : Nat) (Option.some FieldType.int) ∈ lw_tbl := in_tables_1_10 69 rfl
theorem w_2230 : Cond.methodLink "SnowKeepsModel" (342 : Nat) ({ cls := "SnowKeepsModel", name := "backs", desc := "(I)I" } : MethodName) ∈ lw_tbl := in_tables_1_10 70 rfl
theorem w_2232 : Cond.instanceMethod ({ cls := "SnowKeepsModel", name := "backs", desc := "(I)I" } : MethodName) ∈ lw_tbl := in_tables_1_10 72 rfl
theorem w_2233 : Cond.code ({ cls := "SnowKeepsModel", name := "backs", desc := "(I)I" } : MethodName) prog_14_method_78_code (6 : Nat) (Option.some FieldType.int) ∈ lw_tbl := in_tables_1_10 73 rfl
theorem w_2234 : Cond.methodLink "SnowKeepsLaw" (310 : Nat) ({ cls := "SnowKeepsModel", name := "goesBack", desc := "(I)I" } : MethodName) ∈ lw_tbl := in_tables_1_10 74 rfl
theorem w_2235 : Cond.instanceMethod ({ cls := "SnowKeepsModel", name := "goesBack", desc := "(I)I" } : MethodName) ∈ lw_tbl := in_tables_1_10 75 rfl
theorem w_2236 : Cond.selects "SnowKeepsModel" ({ cls := "SnowKeepsModel", name := "goesBack", desc := "(I)I" } : MethodName) ({ cls := "SnowKeepsModel", name := "goesBack", desc := "(I)I" } : MethodName) ∈ lw_tbl := in_tables_1_10 76 rfl
theorem w_2237 : Cond.code ({ cls := "SnowKeepsModel", name := "goesBack", desc := "(I)I" } : MethodName) prog_14_method_80_code (2 : Nat) (Option.some FieldType.int) ∈ lw_tbl := in_tables_1_10 77 rfl
theorem w_2238 : Cond.methodLink "SnowKeepsLaw" (225 : Nat) ({ cls := "SnowKeepsModel", name := "noon", desc := "()I" } : MethodName) ∈ lw_tbl := in_tables_1_10 78 rfl
theorem w_2239 : Cond.instanceMethod ({ cls := "SnowKeepsModel", name := "noon", desc := "()I" } : MethodName) ∈ lw_tbl := in_tables_1_10 79 rfl
theorem w_2240 : Cond.selects "SnowKeepsModel" ({ cls := "SnowKeepsModel", name := "noon", desc := "()I" } : MethodName) ({ cls := "SnowKeepsModel", name := "noon", desc := "()I" } : MethodName) ∈ lw_tbl := in_tables_1_10 80 rfl
theorem w_2241 : Cond.code ({ cls := "SnowKeepsModel", name := "noon", desc := "()I" } : MethodName) prog_14_method_81_code (2 : Nat) (Option.some FieldType.int) ∈ lw_tbl := in_tables_1_10 81 rfl
theorem w_2242 : Cond.methodLink "SnowKeepsLaw" (228 : Nat) ({ cls := "SnowKeepsModel", name := "rounds", desc := "(I)I" } : MethodName) ∈ lw_tbl := in_tables_1_10 82 rfl
theorem w_2243 : Cond.instanceMethod ({ cls := "SnowKeepsModel", name := "rounds", desc := "(I)I" } : MethodName) ∈ lw_tbl := in_tables_1_10 83 rfl
theorem w_2244 : Cond.selects "SnowKeepsModel" ({ cls := "SnowKeepsModel", name := "rounds", desc := "(I)I" } : MethodName) ({ cls := "SnowKeepsModel", name := "rounds", desc := "(I)I" } : MethodName) ∈ lw_tbl := in_tables_1_10 84 rfl
theorem w_2245 : Cond.code ({ cls := "SnowKeepsModel", name := "rounds", desc := "(I)I" } : MethodName) prog_14_method_84_code (4 : Nat) (Option.some FieldType.int) ∈ lw_tbl := in_tables_1_10 85 rfl
theorem w_2246 : Cond.methodLink "SnowKeepsModel" (351 : Nat) ({ cls := "SnowKeepsModel", name := "turn", desc := "()I" } : MethodName) ∈ lw_tbl := in_tables_1_10 86 rfl
theorem w_2248 : Cond.instanceMethod ({ cls := "SnowKeepsModel", name := "turn", desc := "()I" } : MethodName) ∈ lw_tbl := in_tables_1_10 88 rfl
theorem w_2249 : Cond.code ({ cls := "SnowKeepsModel", name := "turn", desc := "()I" } : MethodName) prog_14_method_83_code (4 : Nat) (Option.some FieldType.int) ∈ lw_tbl := in_tables_1_10 89 rfl
theorem w_2250 : Cond.methodLink "SnowKeepsModel" (348 : Nat) ({ cls := "SnowKeepsModel", name := "beats", desc := "(I)I" } : MethodName) ∈ lw_tbl := in_tables_1_10 90 rfl
theorem w_2252 : Cond.instanceMethod ({ cls := "SnowKeepsModel", name := "beats", desc := "(I)I" } : MethodName) ∈ lw_tbl := in_tables_1_10 92 rfl
theorem w_2253 : Cond.code ({ cls := "SnowKeepsModel", name := "beats", desc := "(I)I" } : MethodName) prog_14_method_82_code (2 : Nat) (Option.some FieldType.int) ∈ lw_tbl := in_tables_1_10 93 rfl
theorem w_2254 : Cond.methodLink "SnowKeepsLaw" (231 : Nat) ({ cls := "SnowKeepsModel", name := "beat", desc := "(II)I" } : MethodName) ∈ lw_tbl := in_tables_1_10 94 rfl
theorem w_2255 : Cond.instanceMethod ({ cls := "SnowKeepsModel", name := "beat", desc := "(II)I" } : MethodName) ∈ lw_tbl := in_tables_1_10 95 rfl
theorem w_2256 : Cond.selects "SnowKeepsModel" ({ cls := "SnowKeepsModel", name := "beat", desc := "(II)I" } : MethodName) ({ cls := "SnowKeepsModel", name := "beat", desc := "(II)I" } : MethodName) ∈ lw_tbl := in_tables_1_10 96 rfl
theorem w_2257 : Cond.code ({ cls := "SnowKeepsModel", name := "beat", desc := "(II)I" } : MethodName) prog_14_method_85_code (3 : Nat) (Option.some FieldType.int) ∈ lw_tbl := in_tables_1_10 97 rfl
theorem w_2258 : Cond.constantLong "SnowKeepsModel" (354 : Nat) (-1 : Int64) ∈ lw_tbl := in_tables_1_10 98 rfl
theorem w_2259 : Cond.methodLink "SnowKeepsLaw" (234 : Nat) ({ cls := "SnowKeepsModel", name := "again", desc := "(I)I" } : MethodName) ∈ lw_tbl := in_tables_1_10 99 rfl
theorem w_2260 : Cond.instanceMethod ({ cls := "SnowKeepsModel", name := "again", desc := "(I)I" } : MethodName) ∈ lw_tbl := in_tables_1_10 100 rfl
theorem w_2261 : Cond.selects "SnowKeepsModel" ({ cls := "SnowKeepsModel", name := "again", desc := "(I)I" } : MethodName) ({ cls := "SnowKeepsModel", name := "again", desc := "(I)I" } : MethodName) ∈ lw_tbl := in_tables_1_10 101 rfl
theorem w_2262 : Cond.code ({ cls := "SnowKeepsModel", name := "again", desc := "(I)I" } : MethodName) prog_14_method_88_code (6 : Nat) (Option.some FieldType.int) ∈ lw_tbl := in_tables_1_10 102 rfl
theorem w_2263 : Cond.methodLink "SnowKeepsModel" (356 : Nat) ({ cls := "SnowKeepsModel", name := "laysState", desc := "(I)V" } : MethodName) ∈ lw_tbl := in_tables_1_10 103 rfl
theorem w_2265 : Cond.instanceMethod ({ cls := "SnowKeepsModel", name := "laysState", desc := "(I)V" } : MethodName) ∈ lw_tbl := in_tables_1_10 105 rfl
theorem w_2266 : Cond.code ({ cls := "SnowKeepsModel", name := "laysState", desc := "(I)V" } : MethodName) prog_14_method_86_code (3 : Nat) (Option.none : Option FieldType) ∈ lw_tbl := in_tables_1_10 106 rfl
theorem w_2267 : Cond.methodLink "SnowKeepsModel" (359 : Nat) ({ cls := "SnowKeepsModel", name := "areAlike", desc := "(II)Z" } : MethodName) ∈ lw_tbl := in_tables_1_10 107 rfl
theorem w_2269 : Cond.instanceMethod ({ cls := "SnowKeepsModel", name := "areAlike", desc := "(II)Z" } : MethodName) ∈ lw_tbl := in_tables_1_10 109 rfl
theorem w_2270 : Cond.code ({ cls := "SnowKeepsModel", name := "areAlike", desc := "(II)Z" } : MethodName) prog_14_method_87_code (4 : Nat) (Option.some FieldType.boolean) ∈ lw_tbl := in_tables_1_10 110 rfl
theorem w_2271 : Cond.methodLink "SnowKeepsLaw" (276 : Nat) ({ cls := "SnowKeepsModel", name := "hires", desc := "(II)I" } : MethodName) ∈ lw_tbl := in_tables_1_10 111 rfl
theorem w_2272 : Cond.instanceMethod ({ cls := "SnowKeepsModel", name := "hires", desc := "(II)I" } : MethodName) ∈ lw_tbl := in_tables_1_10 112 rfl
theorem w_2273 : Cond.selects "SnowKeepsModel" ({ cls := "SnowKeepsModel", name := "hires", desc := "(II)I" } : MethodName) ({ cls := "SnowKeepsModel", name := "hires", desc := "(II)I" } : MethodName) ∈ lw_tbl := in_tables_1_10 113 rfl
theorem w_2274 : Cond.code ({ cls := "SnowKeepsModel", name := "hires", desc := "(II)I" } : MethodName) prog_14_method_89_code (4 : Nat) (Option.some FieldType.int) ∈ lw_tbl := in_tables_1_10 114 rfl
theorem w_2275 : Cond.constantLong "SnowKeepsModel" (363 : Nat) (30 : Int64) ∈ lw_tbl := in_tables_1_10 115 rfl
theorem w_2276 : Cond.methodLink "SnowKeepsLaw" (280 : Nat) ({ cls := "SnowKeepsModel", name := "wolves", desc := "()I" } : MethodName) ∈ lw_tbl := in_tables_1_10 116 rfl
theorem w_2277 : Cond.instanceMethod ({ cls := "SnowKeepsModel", name := "wolves", desc := "()I" } : MethodName) ∈ lw_tbl := in_tables_1_10 117 rfl
theorem w_2278 : Cond.selects "SnowKeepsModel" ({ cls := "SnowKeepsModel", name := "wolves", desc := "()I" } : MethodName) ({ cls := "SnowKeepsModel", name := "wolves", desc := "()I" } : MethodName) ∈ lw_tbl := in_tables_1_10 118 rfl
theorem w_2279 : Cond.code ({ cls := "SnowKeepsModel", name := "wolves", desc := "()I" } : MethodName) prog_14_method_90_code (1 : Nat) (Option.some FieldType.int) ∈ lw_tbl := in_tables_1_10 119 rfl
theorem w_2280 : Cond.methodLink "SnowKeepsLaw" (283 : Nat) ({ cls := "SnowKeepsModel", name := "wolf", desc := "(II)I" } : MethodName) ∈ lw_tbl := in_tables_1_10 120 rfl
theorem w_2281 : Cond.instanceMethod ({ cls := "SnowKeepsModel", name := "wolf", desc := "(II)I" } : MethodName) ∈ lw_tbl := in_tables_1_10 121 rfl
theorem w_2282 : Cond.selects "SnowKeepsModel" ({ cls := "SnowKeepsModel", name := "wolf", desc := "(II)I" } : MethodName) ({ cls := "SnowKeepsModel", name := "wolf", desc := "(II)I" } : MethodName) ∈ lw_tbl := in_tables_1_10 122 rfl
theorem w_2283 : Cond.code ({ cls := "SnowKeepsModel", name := "wolf", desc := "(II)I" } : MethodName) prog_14_method_92_code (3 : Nat) (Option.some FieldType.int) ∈ lw_tbl := in_tables_1_10 123 rfl
theorem w_2284 : Cond.methodLink "SnowKeepsModel" (365 : Nat) ({ cls := "SnowKeepsModel", name := "wolfWay", desc := "(I)I" } : MethodName) ∈ lw_tbl := in_tables_1_10 124 rfl
theorem w_2286 : Cond.instanceMethod ({ cls := "SnowKeepsModel", name := "wolfWay", desc := "(I)I" } : MethodName) ∈ lw_tbl := in_tables_1_10 126 rfl
theorem w_2287 : Cond.code ({ cls := "SnowKeepsModel", name := "wolfWay", desc := "(I)I" } : MethodName) prog_14_method_91_code (2 : Nat) (Option.some FieldType.int) ∈ lw_tbl := in_tables_1_10 127 rfl
theorem w_2288 : Cond.methodLink "SnowKeepsLaw" (295 : Nat) ({ cls := "SnowKeepsModel", name := "meets", desc := "(II)I" } : MethodName) ∈ lw_tbl := in_tables_1_10 128 rfl
theorem w_2289 : Cond.instanceMethod ({ cls := "SnowKeepsModel", name := "meets", desc := "(II)I" } : MethodName) ∈ lw_tbl := in_tables_1_10 129 rfl
theorem w_2290 : Cond.selects "SnowKeepsModel" ({ cls := "SnowKeepsModel", name := "meets", desc := "(II)I" } : MethodName) ({ cls := "SnowKeepsModel", name := "meets", desc := "(II)I" } : MethodName) ∈ lw_tbl := in_tables_1_10 130 rfl
theorem w_2291 : Cond.code ({ cls := "SnowKeepsModel", name := "meets", desc := "(II)I" } : MethodName) prog_14_method_94_code (8 : Nat) (Option.some FieldType.int) ∈ lw_tbl := in_tables_1_10 131 rfl
theorem w_2292 : Cond.methodLink "SnowKeepsModel" (368 : Nat) ({ cls := "SnowKeepsModel", name := "huntedOn", desc := "(I)I" } : MethodName) ∈ lw_tbl := in_tables_1_10 132 rfl
theorem w_2294 : Cond.instanceMethod ({ cls := "SnowKeepsModel", name := "huntedOn", desc := "(I)I" } : MethodName) ∈ lw_tbl := in_tables_1_10 134 rfl
theorem w_2295 : Cond.code ({ cls := "SnowKeepsModel", name := "huntedOn", desc := "(I)I" } : MethodName) prog_14_method_93_code (4 : Nat) (Option.some FieldType.int) ∈ lw_tbl := in_tables_1_10 135 rfl
theorem w_2296 : Cond.methodLink "SnowKeepsLaw" (298 : Nat) ({ cls := "SnowKeepsModel", name := "blur", desc := "(III)I" } : MethodName) ∈ lw_tbl := in_tables_1_10 136 rfl
theorem w_2297 : Cond.instanceMethod ({ cls := "SnowKeepsModel", name := "blur", desc := "(III)I" } : MethodName) ∈ lw_tbl := in_tables_1_10 137 rfl
theorem w_2298 : Cond.selects "SnowKeepsModel" ({ cls := "SnowKeepsModel", name := "blur", desc := "(III)I" } : MethodName) ({ cls := "SnowKeepsModel", name := "blur", desc := "(III)I" } : MethodName) ∈ lw_tbl := in_tables_1_10 138 rfl
theorem w_2299 : Cond.code ({ cls := "SnowKeepsModel", name := "blur", desc := "(III)I" } : MethodName) prog_14_method_96_code (4 : Nat) (Option.some FieldType.int) ∈ lw_tbl := in_tables_1_10 139 rfl
theorem w_2300 : Cond.constantLong "SnowKeepsModel" (384 : Nat) (10 : Int64) ∈ lw_tbl := in_tables_1_10 140 rfl
theorem w_2301 : Cond.constantLong "SnowKeepsModel" (386 : Nat) (12 : Int64) ∈ lw_tbl := in_tables_1_10 141 rfl
theorem w_2302 : Cond.methodLink "SnowKeepsModel" (380 : Nat) ({ cls := "SnowKeepsModel", name := "blursOn", desc := "(III)V" } : MethodName) ∈ lw_tbl := in_tables_1_10 142 rfl
theorem w_2304 : Cond.instanceMethod ({ cls := "SnowKeepsModel", name := "blursOn", desc := "(III)V" } : MethodName) ∈ lw_tbl := in_tables_1_10 144 rfl
theorem w_2305 : Cond.code ({ cls := "SnowKeepsModel", name := "blursOn", desc := "(III)V" } : MethodName) prog_14_method_95_code (7 : Nat) (Option.none : Option FieldType) ∈ lw_tbl := in_tables_1_10 145 rfl
theorem w_2306 : Cond.methodLink "SnowKeepsLaw" (301 : Nat) ({ cls := "SnowKeepsModel", name := "homes", desc := "(II)I" } : MethodName) ∈ lw_tbl := in_tables_1_10 146 rfl
theorem w_2307 : Cond.instanceMethod ({ cls := "SnowKeepsModel", name := "homes", desc := "(II)I" } : MethodName) ∈ lw_tbl := in_tables_1_10 147 rfl
theorem w_2308 : Cond.selects "SnowKeepsModel" ({ cls := "SnowKeepsModel", name := "homes", desc := "(II)I" } : MethodName) ({ cls := "SnowKeepsModel", name := "homes", desc := "(II)I" } : MethodName) ∈ lw_tbl := in_tables_1_10 148 rfl
theorem w_2309 : Cond.code ({ cls := "SnowKeepsModel", name := "homes", desc := "(II)I" } : MethodName) prog_14_method_97_code (4 : Nat) (Option.some FieldType.int) ∈ lw_tbl := in_tables_1_10 149 rfl
theorem w_2310 : Cond.constantLong "SnowKeepsModel" (388 : Nat) (4 : Int64) ∈ lw_tbl := in_tables_1_10 150 rfl
theorem w_2311 : Cond.constantLong "SnowKeepsModel" (390 : Nat) (9 : Int64) ∈ lw_tbl := in_tables_1_10 151 rfl
theorem w_2312 : Cond.methodLink "SnowKeepsLaw" (304 : Nat) ({ cls := "SnowKeepsModel", name := "bargain", desc := "(I)I" } : MethodName) ∈ lw_tbl := in_tables_1_10 152 rfl
theorem w_2313 : Cond.instanceMethod ({ cls := "SnowKeepsModel", name := "bargain", desc := "(I)I" } : MethodName) ∈ lw_tbl := in_tables_1_10 153 rfl
theorem w_2314 : Cond.selects "SnowKeepsModel" ({ cls := "SnowKeepsModel", name := "bargain", desc := "(I)I" } : MethodName) ({ cls := "SnowKeepsModel", name := "bargain", desc := "(I)I" } : MethodName) ∈ lw_tbl := in_tables_1_10 154 rfl
theorem w_2315 : Cond.code ({ cls := "SnowKeepsModel", name := "bargain", desc := "(I)I" } : MethodName) prog_14_method_99_code (7 : Nat) (Option.some FieldType.int) ∈ lw_tbl := in_tables_1_10 155 rfl
theorem w_2316 : Cond.methodLink "SnowKeepsModel" (392 : Nat) ({ cls := "SnowKeepsModel", name := "comeHome", desc := "(I)Z" } : MethodName) ∈ lw_tbl := in_tables_1_10 156 rfl
theorem w_2318 : Cond.instanceMethod ({ cls := "SnowKeepsModel", name := "comeHome", desc := "(I)Z" } : MethodName) ∈ lw_tbl := in_tables_1_10 158 rfl
theorem w_2319 : Cond.code ({ cls := "SnowKeepsModel", name := "comeHome", desc := "(I)Z" } : MethodName) prog_14_method_98_code (5 : Nat) (Option.some FieldType.boolean) ∈ lw_tbl := in_tables_1_10 159 rfl
theorem w_2320 : Cond.methodLink "SnowKeepsLaw" (313 : Nat) ({ cls := "SnowKeepsModel", name := "rows", desc := "(I)J" } : MethodName) ∈ lw_tbl := in_tables_1_10 160 rfl
theorem w_2321 : Cond.instanceMethod ({ cls := "SnowKeepsModel", name := "rows", desc := "(I)J" } : MethodName) ∈ lw_tbl := in_tables_1_10 161 rfl
theorem w_2322 : Cond.selects "SnowKeepsModel" ({ cls := "SnowKeepsModel", name := "rows", desc := "(I)J" } : MethodName) ({ cls := "SnowKeepsModel", name := "rows", desc := "(I)J" } : MethodName) ∈ lw_tbl := in_tables_1_10 162 rfl
theorem w_2323 : Cond.code ({ cls := "SnowKeepsModel", name := "rows", desc := "(I)J" } : MethodName) prog_14_method_104_code (2 : Nat) (Option.some FieldType.long) ∈ lw_tbl := in_tables_1_10 163 rfl
theorem w_2324 : Cond.methodLink "SnowKeepsModel" (420 : Nat) ({ cls := "SnowKeepsModel", name := "isSpent", desc := "()Z" } : MethodName) ∈ lw_tbl := in_tables_1_10 164 rfl
theorem w_2326 : Cond.instanceMethod ({ cls := "SnowKeepsModel", name := "isSpent", desc := "()Z" } : MethodName) ∈ lw_tbl := in_tables_1_10 166 rfl
theorem w_2327 : Cond.code ({ cls := "SnowKeepsModel", name := "isSpent", desc := "()Z" } : MethodName) prog_14_method_103_code (1 : Nat) (Option.some FieldType.boolean) ∈ lw_tbl := in_tables_1_10 167 rfl
theorem w_2328 : Cond.constantLong "SnowKeepsModel" (424 : Nat) (-1000 : Int64) ∈ lw_tbl := in_tables_1_10 168 rfl
theorem w_2329 : Cond.methodLink "SnowKeepsModel" (426 : Nat) ({ cls := "SnowKeepsModel", name := "laysLeft", desc := "()V" } : MethodName) ∈ lw_tbl := in_tables_1_10 169 rfl
theorem w_2331 : Cond.instanceMethod ({ cls := "SnowKeepsModel", name := "laysLeft", desc := "()V" } : MethodName) ∈ lw_tbl := in_tables_1_10 171 rfl
theorem w_2332 : Cond.code ({ cls := "SnowKeepsModel", name := "laysLeft", desc := "()V" } : MethodName) prog_14_method_100_code (2 : Nat) (Option.none : Option FieldType) ∈ lw_tbl := in_tables_1_10 172 rfl
theorem w_2333 : Cond.methodLink "SnowKeepsModel" (429 : Nat) ({ cls := "SnowKeepsModel", name := "rowsFrom", desc := "(IJ)J" } : MethodName) ∈ lw_tbl := in_tables_1_10 173 rfl
theorem w_2335 : Cond.instanceMethod ({ cls := "SnowKeepsModel", name := "rowsFrom", desc := "(IJ)J" } : MethodName) ∈ lw_tbl := in_tables_1_10 175 rfl
theorem w_2336 : Cond.code ({ cls := "SnowKeepsModel", name := "rowsFrom", desc := "(IJ)J" } : MethodName) prog_14_method_102_code (4 : Nat) (Option.some FieldType.long) ∈ lw_tbl := in_tables_1_10 176 rfl
theorem w_2337 : Cond.methodLink "SnowKeepsModel" (417 : Nat) ({ cls := "SnowKeepsModel", name := "goesRows", desc := "(II)V" } : MethodName) ∈ lw_tbl := in_tables_1_10 177 rfl
theorem w_2339 : Cond.instanceMethod ({ cls := "SnowKeepsModel", name := "goesRows", desc := "(II)V" } : MethodName) ∈ lw_tbl := in_tables_1_10 179 rfl
theorem w_2340 : Cond.code ({ cls := "SnowKeepsModel", name := "goesRows", desc := "(II)V" } : MethodName) prog_14_method_101_code (5 : Nat) (Option.none : Option FieldType) ∈ lw_tbl := in_tables_1_10 180 rfl
theorem w_2341 : Cond.methodLink "SnowKeepsLaw" (319 : Nat) ({ cls := "SnowKeepsModel", name := "row", desc := "(IJI)I" } : MethodName) ∈ lw_tbl := in_tables_1_10 181 rfl
theorem w_2342 : Cond.instanceMethod ({ cls := "SnowKeepsModel", name := "row", desc := "(IJI)I" } : MethodName) ∈ lw_tbl := in_tables_1_10 182 rfl
theorem w_2343 : Cond.selects "SnowKeepsModel" ({ cls := "SnowKeepsModel", name := "row", desc := "(IJI)I" } : MethodName) ({ cls := "SnowKeepsModel", name := "row", desc := "(IJI)I" } : MethodName) ∈ lw_tbl := in_tables_1_10 183 rfl
theorem w_2344 : Cond.code ({ cls := "SnowKeepsModel", name := "row", desc := "(IJI)I" } : MethodName) prog_14_method_105_code (5 : Nat) (Option.some FieldType.int) ∈ lw_tbl := in_tables_1_10 184 rfl
theorem w_2345 : Cond.methodLink "SnowKeepsLaw" (323 : Nat) ({ cls := "SnowKeepsModel", name := "starts", desc := "()I" } : MethodName) ∈ lw_tbl := in_tables_1_10 185 rfl
theorem w_2346 : Cond.instanceMethod ({ cls := "SnowKeepsModel", name := "starts", desc := "()I" } : MethodName) ∈ lw_tbl := in_tables_1_10 186 rfl
theorem w_2347 : Cond.selects "SnowKeepsModel" ({ cls := "SnowKeepsModel", name := "starts", desc := "()I" } : MethodName) ({ cls := "SnowKeepsModel", name := "starts", desc := "()I" } : MethodName) ∈ lw_tbl := in_tables_1_10 187 rfl
theorem w_2348 : Cond.code ({ cls := "SnowKeepsModel", name := "starts", desc := "()I" } : MethodName) prog_14_method_106_code (3 : Nat) (Option.some FieldType.int) ∈ lw_tbl := in_tables_1_10 188 rfl
theorem w_2349 : Cond.methodLink "SnowKeepsLaw" (326 : Nat) ({ cls := "SnowKeepsModel", name := "sure", desc := "(IZ)I" } : MethodName) ∈ lw_tbl := in_tables_1_10 189 rfl
theorem w_2350 : Cond.instanceMethod ({ cls := "SnowKeepsModel", name := "sure", desc := "(IZ)I" } : MethodName) ∈ lw_tbl := in_tables_1_10 190 rfl
theorem w_2351 : Cond.selects "SnowKeepsModel" ({ cls := "SnowKeepsModel", name := "sure", desc := "(IZ)I" } : MethodName) ({ cls := "SnowKeepsModel", name := "sure", desc := "(IZ)I" } : MethodName) ∈ lw_tbl := in_tables_1_10 191 rfl
theorem w_2352 : Cond.code ({ cls := "SnowKeepsModel", name := "sure", desc := "(IZ)I" } : MethodName) prog_14_method_107_code (3 : Nat) (Option.some FieldType.int) ∈ lw_tbl := in_tables_1_10 192 rfl
theorem w_2353 : Cond.methodLink "SnowKeepsLaw" (329 : Nat) ({ cls := "SnowKeepsModel", name := "two", desc := "(II)J" } : MethodName) ∈ lw_tbl := in_tables_1_10 193 rfl
theorem w_2354 : Cond.instanceMethod ({ cls := "SnowKeepsModel", name := "two", desc := "(II)J" } : MethodName) ∈ lw_tbl := in_tables_1_10 194 rfl
theorem w_2355 : Cond.selects "SnowKeepsModel" ({ cls := "SnowKeepsModel", name := "two", desc := "(II)J" } : MethodName) ({ cls := "SnowKeepsModel", name := "two", desc := "(II)J" } : MethodName) ∈ lw_tbl := in_tables_1_10 195 rfl
theorem w_2356 : Cond.code ({ cls := "SnowKeepsModel", name := "two", desc := "(II)J" } : MethodName) prog_14_method_110_code (4 : Nat) (Option.some FieldType.long) ∈ lw_tbl := in_tables_1_10 196 rfl
theorem w_2357 : Cond.methodLink "SnowKeepsModel" (436 : Nat) ({ cls := "SnowKeepsModel", name := "parts", desc := "(III)J" } : MethodName) ∈ lw_tbl := in_tables_1_10 197 rfl
theorem w_2359 : Cond.instanceMethod ({ cls := "SnowKeepsModel", name := "parts", desc := "(III)J" } : MethodName) ∈ lw_tbl := in_tables_1_10 199 rfl
theorem w_2360 : Cond.code ({ cls := "SnowKeepsModel", name := "parts", desc := "(III)J" } : MethodName) prog_14_method_108_code (10 : Nat) (Option.some FieldType.long) ∈ lw_tbl := in_tables_1_10 200 rfl
theorem w_2361 : Cond.methodLink "SnowKeepsModel" (433 : Nat) ({ cls := "SnowKeepsModel", name := "exchanges", desc := "()V" } : MethodName) ∈ lw_tbl := in_tables_1_10 201 rfl
theorem w_2363 : Cond.instanceMethod ({ cls := "SnowKeepsModel", name := "exchanges", desc := "()V" } : MethodName) ∈ lw_tbl := in_tables_1_10 203 rfl
theorem w_2364 : Cond.code ({ cls := "SnowKeepsModel", name := "exchanges", desc := "()V" } : MethodName) prog_14_method_109_code (3 : Nat) (Option.none : Option FieldType) ∈ lw_tbl := in_tables_1_10 204 rfl
theorem w_2365 : Cond.methodLink "SnowKeepsLaw" (336 : Nat) ({ cls := "SnowKeepsModel", name := "signs", desc := "(II)I" } : MethodName) ∈ lw_tbl := in_tables_1_10 205 rfl
theorem w_2366 : Cond.instanceMethod ({ cls := "SnowKeepsModel", name := "signs", desc := "(II)I" } : MethodName) ∈ lw_tbl := in_tables_1_10 206 rfl
theorem w_2367 : Cond.selects "SnowKeepsModel" ({ cls := "SnowKeepsModel", name := "signs", desc := "(II)I" } : MethodName) ({ cls := "SnowKeepsModel", name := "signs", desc := "(II)I" } : MethodName) ∈ lw_tbl := in_tables_1_10 207 rfl
theorem w_2368 : Cond.code ({ cls := "SnowKeepsModel", name := "signs", desc := "(II)I" } : MethodName) prog_14_method_113_code (4 : Nat) (Option.some FieldType.int) ∈ lw_tbl := in_tables_1_10 208 rfl
theorem w_2369 : Cond.constantLong "SnowKeepsModel" (450 : Nat) (6 : Int64) ∈ lw_tbl := in_tables_1_10 209 rfl
theorem w_2370 : Cond.methodLink "SnowKeepsModel" (447 : Nat) ({ cls := "SnowKeepsModel", name := "walks", desc := "(III)V" } : MethodName) ∈ lw_tbl := in_tables_1_10 210 rfl
theorem w_2372 : Cond.instanceMethod ({ cls := "SnowKeepsModel", name := "walks", desc := "(III)V" } : MethodName) ∈ lw_tbl := in_tables_1_10 212 rfl
theorem w_2373 : Cond.code ({ cls := "SnowKeepsModel", name := "walks", desc := "(III)V" } : MethodName) prog_14_method_112_code (7 : Nat) (Option.none : Option FieldType) ∈ lw_tbl := in_tables_1_10 213 rfl
theorem w_2374 : Cond.methodLink "SnowKeepsModel" (444 : Nat) ({ cls := "SnowKeepsModel", name := "meetsSign", desc := "(I)V" } : MethodName) ∈ lw_tbl := in_tables_1_10 214 rfl
theorem w_2376 : Cond.instanceMethod ({ cls := "SnowKeepsModel", name := "meetsSign", desc := "(I)V" } : MethodName) ∈ lw_tbl := in_tables_1_10 216 rfl
theorem w_2377 : Cond.code ({ cls := "SnowKeepsModel", name := "meetsSign", desc := "(I)V" } : MethodName) prog_14_method_111_code (3 : Nat) (Option.none : Option FieldType) ∈ lw_tbl := in_tables_1_10 217 rfl
theorem w_2378 : Cond.constant "SnowKeepsModel" (443 : Nat) (40503 : Int32) ∈ lw_tbl := in_tables_1_10 218 rfl
theorem w_2379 : Cond.methodLink "SnowKeepsLaw" (339 : Nat) ({ cls := "SnowKeepsModel", name := "writes", desc := "(II)I" } : MethodName) ∈ lw_tbl := in_tables_1_10 219 rfl
theorem w_2380 : Cond.instanceMethod ({ cls := "SnowKeepsModel", name := "writes", desc := "(II)I" } : MethodName) ∈ lw_tbl := in_tables_1_10 220 rfl
theorem w_2381 : Cond.selects "SnowKeepsModel" ({ cls := "SnowKeepsModel", name := "writes", desc := "(II)I" } : MethodName) ({ cls := "SnowKeepsModel", name := "writes", desc := "(II)I" } : MethodName) ∈ lw_tbl := in_tables_1_10 221 rfl
theorem w_2382 : Cond.code ({ cls := "SnowKeepsModel", name := "writes", desc := "(II)I" } : MethodName) prog_14_method_118_code (3 : Nat) (Option.some FieldType.int) ∈ lw_tbl := in_tables_1_10 222 rfl
theorem w_2383 : Cond.methodLink "SnowKeepsModel" (461 : Nat) ({ cls := "SnowKeepsModel", name := "signFault", desc := "(I)I" } : MethodName) ∈ lw_tbl := in_tables_1_10 223 rfl
theorem w_2385 : Cond.instanceMethod ({ cls := "SnowKeepsModel", name := "signFault", desc := "(I)I" } : MethodName) ∈ lw_tbl := in_tables_1_10 225 rfl
theorem w_2386 : Cond.code ({ cls := "SnowKeepsModel", name := "signFault", desc := "(I)I" } : MethodName) prog_14_method_114_code (6 : Nat) (Option.some FieldType.int) ∈ lw_tbl := in_tables_1_10 226 rfl
theorem w_2387 : Cond.methodLink "SnowKeepsModel" (455 : Nat) ({ cls := "SnowKeepsModel", name := "placeIn", desc := "(I)I" } : MethodName) ∈ lw_tbl := in_tables_1_10 227 rfl
theorem w_2389 : Cond.instanceMethod ({ cls := "SnowKeepsModel", name := "placeIn", desc := "(I)I" } : MethodName) ∈ lw_tbl := in_tables_1_10 229 rfl
theorem w_2390 : Cond.code ({ cls := "SnowKeepsModel", name := "placeIn", desc := "(I)I" } : MethodName) prog_14_method_115_code (3 : Nat) (Option.some FieldType.int) ∈ lw_tbl := in_tables_1_10 230 rfl
theorem w_2391 : Cond.methodLink "SnowKeepsModel" (464 : Nat) ({ cls := "SnowKeepsModel", name := "written", desc := "(I)I" } : MethodName) ∈ lw_tbl := in_tables_1_10 231 rfl
theorem w_2393 : Cond.instanceMethod ({ cls := "SnowKeepsModel", name := "written", desc := "(I)I" } : MethodName) ∈ lw_tbl := in_tables_1_10 233 rfl
theorem w_2394 : Cond.code ({ cls := "SnowKeepsModel", name := "written", desc := "(I)I" } : MethodName) prog_14_method_117_code (5 : Nat) (Option.some FieldType.int) ∈ lw_tbl := in_tables_1_10 234 rfl
theorem w_2395 : Cond.methodLink "SnowKeepsModel" (458 : Nat) ({ cls := "SnowKeepsModel", name := "laysFarther", desc := "(IZ)V" } : MethodName) ∈ lw_tbl := in_tables_1_10 235 rfl
theorem w_2397 : Cond.instanceMethod ({ cls := "SnowKeepsModel", name := "laysFarther", desc := "(IZ)V" } : MethodName) ∈ lw_tbl := in_tables_1_10 237 rfl
theorem w_2398 : Cond.code ({ cls := "SnowKeepsModel", name := "laysFarther", desc := "(IZ)V" } : MethodName) prog_14_method_116_code (9 : Nat) (Option.none : Option FieldType) ∈ lw_tbl := in_tables_1_10 238 rfl
theorem w_2399 : Cond.methodLink "SnowKeepsLaw" (342 : Nat) ({ cls := "SnowKeepsModel", name := "pens", desc := "(I)I" } : MethodName) ∈ lw_tbl := in_tables_1_10 239 rfl
theorem w_2400 : Cond.instanceMethod ({ cls := "SnowKeepsModel", name := "pens", desc := "(I)I" } : MethodName) ∈ lw_tbl := in_tables_1_11 0 rfl
theorem w_2401 : Cond.selects "SnowKeepsModel" ({ cls := "SnowKeepsModel", name := "pens", desc := "(I)I" } : MethodName) ({ cls := "SnowKeepsModel", name := "pens", desc := "(I)I" } : MethodName) ∈ lw_tbl := in_tables_1_11 1 rfl
theorem w_2402 : Cond.code ({ cls := "SnowKeepsModel", name := "pens", desc := "(I)I" } : MethodName) prog_14_method_119_code (4 : Nat) (Option.some FieldType.int) ∈ lw_tbl := in_tables_1_11 2 rfl
theorem w_2403 : Cond.methodLink "SnowKeepsLaw" (345 : Nat) ({ cls := "SnowKeepsModel", name := "patrol", desc := "(I)I" } : MethodName) ∈ lw_tbl := in_tables_1_11 3 rfl
theorem w_2404 : Cond.instanceMethod ({ cls := "SnowKeepsModel", name := "patrol", desc := "(I)I" } : MethodName) ∈ lw_tbl := in_tables_1_11 4 rfl
theorem w_2405 : Cond.selects "SnowKeepsModel" ({ cls := "SnowKeepsModel", name := "patrol", desc := "(I)I" } : MethodName) ({ cls := "SnowKeepsModel", name := "patrol", desc := "(I)I" } : MethodName) ∈ lw_tbl := in_tables_1_11 5 rfl
theorem w_2406 : Cond.code ({ cls := "SnowKeepsModel", name := "patrol", desc := "(I)I" } : MethodName) prog_14_method_121_code (2 : Nat) (Option.some FieldType.int) ∈ lw_tbl := in_tables_1_11 6 rfl
theorem w_2407 : Cond.methodLink "SnowKeepsModel" (467 : Nat) ({ cls := "SnowKeepsModel", name := "patrolled", desc := "()I" } : MethodName) ∈ lw_tbl := in_tables_1_11 7 rfl
theorem w_2409 : Cond.instanceMethod ({ cls := "SnowKeepsModel", name := "patrolled", desc := "()I" } : MethodName) ∈ lw_tbl := in_tables_1_11 9 rfl
theorem w_2410 : Cond.code ({ cls := "SnowKeepsModel", name := "patrolled", desc := "()I" } : MethodName) prog_14_method_120_code (4 : Nat) (Option.some FieldType.int) ∈ lw_tbl := in_tables_1_11 10 rfl
theorem w_2411 : Cond.methodLink "SnowKeepsLaw" (348 : Nat) ({ cls := "SnowKeepsModel", name := "tends", desc := "(I)Z" } : MethodName) ∈ lw_tbl := in_tables_1_11 11 rfl
theorem w_2412 : Cond.instanceMethod ({ cls := "SnowKeepsModel", name := "tends", desc := "(I)Z" } : MethodName) ∈ lw_tbl := in_tables_1_11 12 rfl
theorem w_2413 : Cond.selects "SnowKeepsModel" ({ cls := "SnowKeepsModel", name := "tends", desc := "(I)Z" } : MethodName) ({ cls := "SnowKeepsModel", name := "tends", desc := "(I)Z" } : MethodName) ∈ lw_tbl := in_tables_1_11 13 rfl
theorem w_2414 : Cond.code ({ cls := "SnowKeepsModel", name := "tends", desc := "(I)Z" } : MethodName) prog_14_method_122_code (3 : Nat) (Option.some FieldType.boolean) ∈ lw_tbl := in_tables_1_11 14 rfl
theorem w_2415 : Cond.methodLink "SnowKeepsLaw" (351 : Nat) ({ cls := "SnowKeepsModel", name := "crowd", desc := "(I)I" } : MethodName) ∈ lw_tbl := in_tables_1_11 15 rfl
theorem w_2416 : Cond.instanceMethod ({ cls := "SnowKeepsModel", name := "crowd", desc := "(I)I" } : MethodName) ∈ lw_tbl := in_tables_1_11 16 rfl
theorem w_2417 : Cond.selects "SnowKeepsModel" ({ cls := "SnowKeepsModel", name := "crowd", desc := "(I)I" } : MethodName) ({ cls := "SnowKeepsModel", name := "crowd", desc := "(I)I" } : MethodName) ∈ lw_tbl := in_tables_1_11 17 rfl
theorem w_2418 : Cond.code ({ cls := "SnowKeepsModel", name := "crowd", desc := "(I)I" } : MethodName) prog_14_method_123_code (4 : Nat) (Option.some FieldType.int) ∈ lw_tbl := in_tables_1_11 18 rfl
theorem w_2419 : Cond.methodLink "SnowKeepsLaw" (354 : Nat) ({ cls := "SnowKeepsModel", name := "lasts", desc := "(I)I" } : MethodName) ∈ lw_tbl := in_tables_1_11 19 rfl
theorem w_2420 : Cond.instanceMethod ({ cls := "SnowKeepsModel", name := "lasts", desc := "(I)I" } : MethodName) ∈ lw_tbl := in_tables_1_11 20 rfl
theorem w_2421 : Cond.selects "SnowKeepsModel" ({ cls := "SnowKeepsModel", name := "lasts", desc := "(I)I" } : MethodName) ({ cls := "SnowKeepsModel", name := "lasts", desc := "(I)I" } : MethodName) ∈ lw_tbl := in_tables_1_11 21 rfl
theorem w_2422 : Cond.code ({ cls := "SnowKeepsModel", name := "lasts", desc := "(I)I" } : MethodName) prog_14_method_124_code (5 : Nat) (Option.some FieldType.int) ∈ lw_tbl := in_tables_1_11 22 rfl
theorem w_2423 : Cond.methodLink "SnowKeepsLaw" (333 : Nat) ({ cls := "SnowKeepsModel", name := "clear", desc := "(IIZ)I" } : MethodName) ∈ lw_tbl := in_tables_1_11 23 rfl
theorem w_2424 : Cond.instanceMethod ({ cls := "SnowKeepsModel", name := "clear", desc := "(IIZ)I" } : MethodName) ∈ lw_tbl := in_tables_1_11 24 rfl
theorem w_2425 : Cond.selects "SnowKeepsModel" ({ cls := "SnowKeepsModel", name := "clear", desc := "(IIZ)I" } : MethodName) ({ cls := "SnowKeepsModel", name := "clear", desc := "(IIZ)I" } : MethodName) ∈ lw_tbl := in_tables_1_11 25 rfl
theorem w_2426 : Cond.code ({ cls := "SnowKeepsModel", name := "clear", desc := "(IIZ)I" } : MethodName) prog_14_method_127_code (5 : Nat) (Option.some FieldType.int) ∈ lw_tbl := in_tables_1_11 26 rfl
theorem w_2427 : Cond.constantLong "SnowKeepsModel" (483 : Nat) (5 : Int64) ∈ lw_tbl := in_tables_1_11 27 rfl
theorem w_2428 : Cond.methodLink "SnowKeepsModel" (479 : Nat) ({ cls := "SnowKeepsModel", name := "clears", desc := "(IIIZ)V" } : MethodName) ∈ lw_tbl := in_tables_1_11 28 rfl
theorem w_2430 : Cond.instanceMethod ({ cls := "SnowKeepsModel", name := "clears", desc := "(IIIZ)V" } : MethodName) ∈ lw_tbl := in_tables_1_11 30 rfl
theorem w_2431 : Cond.code ({ cls := "SnowKeepsModel", name := "clears", desc := "(IIIZ)V" } : MethodName) prog_14_method_125_code (7 : Nat) (Option.none : Option FieldType) ∈ lw_tbl := in_tables_1_11 31 rfl
theorem w_2432 : Cond.methodLink "SnowKeepsModel" (470 : Nat) ({ cls := "SnowKeepsModel", name := "isOnly", desc := "(I)Z" } : MethodName) ∈ lw_tbl := in_tables_1_11 32 rfl
theorem w_2434 : Cond.instanceMethod ({ cls := "SnowKeepsModel", name := "isOnly", desc := "(I)Z" } : MethodName) ∈ lw_tbl := in_tables_1_11 34 rfl
theorem w_2435 : Cond.code ({ cls := "SnowKeepsModel", name := "isOnly", desc := "(I)Z" } : MethodName) prog_14_method_126_code (3 : Nat) (Option.some FieldType.boolean) ∈ lw_tbl := in_tables_1_11 35 rfl
theorem w_2436 : Cond.methodLink "SnowKeepsLaw" (357 : Nat) ({ cls := "SnowKeepsModel", name := "reads", desc := "(I)I" } : MethodName) ∈ lw_tbl := in_tables_1_11 36 rfl
theorem w_2437 : Cond.instanceMethod ({ cls := "SnowKeepsModel", name := "reads", desc := "(I)I" } : MethodName) ∈ lw_tbl := in_tables_1_11 37 rfl
theorem w_2438 : Cond.selects "SnowKeepsModel" ({ cls := "SnowKeepsModel", name := "reads", desc := "(I)I" } : MethodName) ({ cls := "SnowKeepsModel", name := "reads", desc := "(I)I" } : MethodName) ∈ lw_tbl := in_tables_1_11 38 rfl
theorem w_2439 : Cond.code ({ cls := "SnowKeepsModel", name := "reads", desc := "(I)I" } : MethodName) prog_14_method_128_code (4 : Nat) (Option.some FieldType.int) ∈ lw_tbl := in_tables_1_11 39 rfl
theorem w_2440 : Cond.methodLink "SnowKeepsModel" (485 : Nat) ({ cls := "SnowKeepsModel", name := "cut", desc := "(IIJ)J" } : MethodName) ∈ lw_tbl := in_tables_1_11 40 rfl
theorem w_2442 : Cond.instanceMethod ({ cls := "SnowKeepsModel", name := "cut", desc := "(IIJ)J" } : MethodName) ∈ lw_tbl := in_tables_1_11 42 rfl
theorem w_2443 : Cond.code ({ cls := "SnowKeepsModel", name := "cut", desc := "(IIJ)J" } : MethodName) prog_14_method_131_code (6 : Nat) (Option.some FieldType.long) ∈ lw_tbl := in_tables_1_11 43 rfl
theorem w_2444 : Cond.methodLink "SnowKeepsLaw" (361 : Nat) ({ cls := "SnowKeepsModel", name := "tray", desc := "(III)V" } : MethodName) ∈ lw_tbl := in_tables_1_11 44 rfl
theorem w_2445 : Cond.instanceMethod ({ cls := "SnowKeepsModel", name := "tray", desc := "(III)V" } : MethodName) ∈ lw_tbl := in_tables_1_11 45 rfl
theorem w_2446 : Cond.selects "SnowKeepsModel" ({ cls := "SnowKeepsModel", name := "tray", desc := "(III)V" } : MethodName) ({ cls := "SnowKeepsModel", name := "tray", desc := "(III)V" } : MethodName) ∈ lw_tbl := in_tables_1_11 46 rfl
theorem w_2447 : Cond.code ({ cls := "SnowKeepsModel", name := "tray", desc := "(III)V" } : MethodName) prog_14_method_130_code (5 : Nat) (Option.none : Option FieldType) ∈ lw_tbl := in_tables_1_11 47 rfl
theorem w_2448 : Cond.methodLink "SnowKeepsLaw" (365 : Nat) ({ cls := "SnowKeepsModel", name := "write", desc := "(IIJ)J" } : MethodName) ∈ lw_tbl := in_tables_1_11 48 rfl
theorem w_2449 : Cond.instanceMethod ({ cls := "SnowKeepsModel", name := "write", desc := "(IIJ)J" } : MethodName) ∈ lw_tbl := in_tables_1_11 49 rfl
theorem w_2450 : Cond.selects "SnowKeepsModel" ({ cls := "SnowKeepsModel", name := "write", desc := "(IIJ)J" } : MethodName) ({ cls := "SnowKeepsModel", name := "write", desc := "(IIJ)J" } : MethodName) ∈ lw_tbl := in_tables_1_11 50 rfl
theorem w_2451 : Cond.code ({ cls := "SnowKeepsModel", name := "write", desc := "(IIJ)J" } : MethodName) prog_14_method_132_code (5 : Nat) (Option.some FieldType.long) ∈ lw_tbl := in_tables_1_11 51 rfl
theorem w_2452 : Cond.methodLink "SnowKeepsLaw" (369 : Nat) ({ cls := "SnowKeepsModel", name := "image", desc := "(I)V" } : MethodName) ∈ lw_tbl := in_tables_1_11 52 rfl
theorem w_2453 : Cond.instanceMethod ({ cls := "SnowKeepsModel", name := "image", desc := "(I)V" } : MethodName) ∈ lw_tbl := in_tables_1_11 53 rfl
theorem w_2454 : Cond.selects "SnowKeepsModel" ({ cls := "SnowKeepsModel", name := "image", desc := "(I)V" } : MethodName) ({ cls := "SnowKeepsModel", name := "image", desc := "(I)V" } : MethodName) ∈ lw_tbl := in_tables_1_11 54 rfl
theorem w_2455 : Cond.code ({ cls := "SnowKeepsModel", name := "image", desc := "(I)V" } : MethodName) prog_14_method_133_code (3 : Nat) (Option.none : Option FieldType) ∈ lw_tbl := in_tables_1_11 55 rfl
theorem w_2456 : Cond.methodLink "SnowKeepsLaw" (372 : Nat) ({ cls := "SnowKeepsModel", name := "restore", desc := "(I)V" } : MethodName) ∈ lw_tbl := in_tables_1_11 56 rfl
theorem w_2457 : Cond.instanceMethod ({ cls := "SnowKeepsModel", name := "restore", desc := "(I)V" } : MethodName) ∈ lw_tbl := in_tables_1_11 57 rfl
theorem w_2458 : Cond.selects "SnowKeepsModel" ({ cls := "SnowKeepsModel", name := "restore", desc := "(I)V" } : MethodName) ({ cls := "SnowKeepsModel", name := "restore", desc := "(I)V" } : MethodName) ∈ lw_tbl := in_tables_1_11 58 rfl
theorem w_2459 : Cond.code ({ cls := "SnowKeepsModel", name := "restore", desc := "(I)V" } : MethodName) prog_14_method_134_code (3 : Nat) (Option.none : Option FieldType) ∈ lw_tbl := in_tables_1_11 59 rfl
theorem w_2460 : Cond.methodLink "SnowKeepsLaw" (376 : Nat) ({ cls := "SnowKeepsModel", name := "count", desc := "(I)I" } : MethodName) ∈ lw_tbl := in_tables_1_11 60 rfl
theorem w_2461 : Cond.instanceMethod ({ cls := "SnowKeepsModel", name := "count", desc := "(I)I" } : MethodName) ∈ lw_tbl := in_tables_1_11 61 rfl
theorem w_2462 : Cond.selects "SnowKeepsModel" ({ cls := "SnowKeepsModel", name := "count", desc := "(I)I" } : MethodName) ({ cls := "SnowKeepsModel", name := "count", desc := "(I)I" } : MethodName) ∈ lw_tbl := in_tables_1_11 62 rfl
theorem w_2463 : Cond.code ({ cls := "SnowKeepsModel", name := "count", desc := "(I)I" } : MethodName) prog_14_method_135_code (2 : Nat) (Option.some FieldType.int) ∈ lw_tbl := in_tables_1_11 63 rfl
theorem w_2464 : Cond.constantLong "SnowKeepsLaw" (314 : Nat) (4294967295 : Int64) ∈ lw_tbl := in_tables_1_11 64 rfl
