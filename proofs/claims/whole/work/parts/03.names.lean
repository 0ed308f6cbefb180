/-- the words that stay true under warmer tables -/
def wd_g (w : Cond) : Bool := goodWord w || (match w with | .declares _ => true | .castable _ _ => true | _ => false)
theorem wd_stay {args a' : Array Value} {s U : State} (hW : s.WarmedH U.vm) {w : Cond} (hg : wd_g w = true) (h : w.before args s = true) : w.before a' U = true := by
  by_cases g : goodWord w = true
  · exact word_at hW (good_of_word g) h
  · have hot : w.onTables = true ∧ w.warmOk s := by
      cases w <;> simp_all [wd_g, Cond.onTables, Cond.warmOk]
    exact va_tabs hot.1 (u := s.setVm U.vm) rfl (Cond.before_warmed hW w hot.2 h)
def wd_TB : List Cond := lw_tbl.filter wd_g
theorem wd_all : ∀ w ∈ wd_TB, wd_g w = true := fun w h => (List.mem_filter.mp h).2
theorem wd_mem {w : Cond} (h : w ∈ lw_tbl) (hg : wd_g w = true) : w ∈ wd_TB := List.mem_filter.mpr ⟨h, hg⟩
theorem wd_at {w : Cond} (i : Nat) (h : lw_tbl[i]? = some w) (hg : wd_g w = true) : w ∈ wd_TB := wd_mem (List.mem_of_getElem? h) hg
theorem sl_H_undo : Cond.selects "HouseThreads2" ⟨"HouseThreads2", "undo", "(LHouseThreads2$Part;I)I"⟩ ⟨"HouseThreads2", "undo", "(LHouseThreads2$Part;I)I"⟩ ∈ wd_TB := wd_at 0 (by decide +kernel) (by decide +kernel)
theorem sl_H_takeBack : Cond.selects "HouseThreads2" ⟨"HouseThreads2", "takeBack", "(LHouseThreads2$Part;I)V"⟩ ⟨"HouseThreads2", "takeBack", "(LHouseThreads2$Part;I)V"⟩ ∈ wd_TB := wd_at 1 (by decide +kernel) (by decide +kernel)
theorem sl_H_freePlaces : Cond.selects "HouseThreads2" ⟨"HouseThreads2", "freePlaces", "(LHouseThreads2$Part;)V"⟩ ⟨"HouseThreads2", "freePlaces", "(LHouseThreads2$Part;)V"⟩ ∈ wd_TB := wd_at 2 (by decide +kernel) (by decide +kernel)
theorem sl_H_doneParts : Cond.selects "HouseThreads2" ⟨"HouseThreads2", "doneParts", "()I"⟩ ⟨"HouseThreads2", "doneParts", "()I"⟩ ∈ wd_TB := wd_at 3 (by decide +kernel) (by decide +kernel)
theorem sl_Throwable_fillInStackTrace : Cond.selects "java/lang/Throwable" ⟨"java/lang/Throwable", "fillInStackTrace", "(I)Ljava/lang/Throwable;"⟩ ⟨"java/lang/Throwable", "fillInStackTrace", "(I)Ljava/lang/Throwable;"⟩ ∈ wd_TB := wd_at 4 (by decide +kernel) (by decide +kernel)
theorem sl_H_existingPart : Cond.selects "HouseThreads2" ⟨"HouseThreads2", "existingPart", "(I)LHouseThreads2$Part;"⟩ ⟨"HouseThreads2", "existingPart", "(I)LHouseThreads2$Part;"⟩ ∈ wd_TB := wd_at 5 (by decide +kernel) (by decide +kernel)
theorem sl_H_isPart : Cond.selects "HouseThreads2" ⟨"HouseThreads2", "isPart", "(I)Z"⟩ ⟨"HouseThreads2", "isPart", "(I)Z"⟩ ∈ wd_TB := wd_at 6 (by decide +kernel) (by decide +kernel)
theorem sl_H_isStep : Cond.selects "HouseThreads2" ⟨"HouseThreads2", "isStep", "(III)Z"⟩ ⟨"HouseThreads2", "isStep", "(III)Z"⟩ ∈ wd_TB := wd_at 7 (by decide +kernel) (by decide +kernel)
theorem sl_H_takeTurn : Cond.selects "HouseThreads2" ⟨"HouseThreads2", "takeTurn", "(LHouseThreads2$Part;)V"⟩ ⟨"HouseThreads2", "takeTurn", "(LHouseThreads2$Part;)V"⟩ ∈ wd_TB := wd_at 8 (by decide +kernel) (by decide +kernel)
theorem sl_H_finish : Cond.selects "HouseThreads2" ⟨"HouseThreads2", "finish", "(LHouseThreads2$Part;)V"⟩ ⟨"HouseThreads2", "finish", "(LHouseThreads2$Part;)V"⟩ ∈ wd_TB := wd_at 9 (by decide +kernel) (by decide +kernel)
theorem sl_H_tryChange : Cond.selects "HouseThreads2" ⟨"HouseThreads2", "tryChange", "(LHouseThreads2$Part;)V"⟩ ⟨"HouseThreads2", "tryChange", "(LHouseThreads2$Part;)V"⟩ ∈ wd_TB := wd_at 10 (by decide +kernel) (by decide +kernel)
theorem sl_H_getsPlace : Cond.selects "HouseThreads2" ⟨"HouseThreads2", "getsPlace", "(LHouseThreads2$Part;I)Z"⟩ ⟨"HouseThreads2", "getsPlace", "(LHouseThreads2$Part;I)Z"⟩ ∈ wd_TB := wd_at 11 (by decide +kernel) (by decide +kernel)
theorem sl_H_breakRing : Cond.selects "HouseThreads2" ⟨"HouseThreads2", "breakRing", "(LHouseThreads2$Part;)V"⟩ ⟨"HouseThreads2", "breakRing", "(LHouseThreads2$Part;)V"⟩ ∈ wd_TB := wd_at 12 (by decide +kernel) (by decide +kernel)
theorem sl_H_partInTheWayOf : Cond.selects "HouseThreads2" ⟨"HouseThreads2", "partInTheWayOf", "(LHouseThreads2$Part;)I"⟩ ⟨"HouseThreads2", "partInTheWayOf", "(LHouseThreads2$Part;)I"⟩ ∈ wd_TB := wd_at 13 (by decide +kernel) (by decide +kernel)
theorem sl_H_stepIsDone : Cond.selects "HouseThreads2" ⟨"HouseThreads2", "stepIsDone", "(LHouseThreads2$Part;)V"⟩ ⟨"HouseThreads2", "stepIsDone", "(LHouseThreads2$Part;)V"⟩ ∈ wd_TB := wd_at 14 (by decide +kernel) (by decide +kernel)
theorem sl_H_trySend : Cond.selects "HouseThreads2" ⟨"HouseThreads2", "trySend", "(LHouseThreads2$Part;)V"⟩ ⟨"HouseThreads2", "trySend", "(LHouseThreads2$Part;)V"⟩ ∈ wd_TB := wd_at 15 (by decide +kernel) (by decide +kernel)
theorem sl_H_tryHear : Cond.selects "HouseThreads2" ⟨"HouseThreads2", "tryHear", "(LHouseThreads2$Part;)V"⟩ ⟨"HouseThreads2", "tryHear", "(LHouseThreads2$Part;)V"⟩ ∈ wd_TB := wd_at 16 (by decide +kernel) (by decide +kernel)
theorem sl_H_checkMessage : Cond.selects "HouseThreads2" ⟨"HouseThreads2", "checkMessage", "(I)V"⟩ ⟨"HouseThreads2", "checkMessage", "(I)V"⟩ ∈ wd_TB := wd_at 17 (by decide +kernel) (by decide +kernel)
theorem sl_H_heldPlaces : Cond.selects "HouseThreads2" ⟨"HouseThreads2", "heldPlaces", "(LHouseThreads2$Part;)I"⟩ ⟨"HouseThreads2", "heldPlaces", "(LHouseThreads2$Part;)I"⟩ ∈ wd_TB := wd_at 18 (by decide +kernel) (by decide +kernel)
theorem sl_M_isPart : Cond.selects "HouseThreads2Model" ⟨"HouseThreads2Model", "isPart", "(I)Z"⟩ ⟨"HouseThreads2Model", "isPart", "(I)Z"⟩ ∈ wd_TB := wd_at 19 (by decide +kernel) (by decide +kernel)
theorem sl_M_isStep : Cond.selects "HouseThreads2Model" ⟨"HouseThreads2Model", "isStep", "(III)Z"⟩ ⟨"HouseThreads2Model", "isStep", "(III)Z"⟩ ∈ wd_TB := wd_at 20 (by decide +kernel) (by decide +kernel)
theorem sl_M_haveTurn : Cond.selects "HouseThreads2Model" ⟨"HouseThreads2Model", "haveTurn", "(I)V"⟩ ⟨"HouseThreads2Model", "haveTurn", "(I)V"⟩ ∈ wd_TB := wd_at 21 (by decide +kernel) (by decide +kernel)
theorem sl_M_tryStep : Cond.selects "HouseThreads2Model" ⟨"HouseThreads2Model", "tryStep", "(I)V"⟩ ⟨"HouseThreads2Model", "tryStep", "(I)V"⟩ ∈ wd_TB := wd_at 22 (by decide +kernel) (by decide +kernel)
theorem sl_M_undo : Cond.selects "HouseThreads2Model" ⟨"HouseThreads2Model", "undo", "(II)V"⟩ ⟨"HouseThreads2Model", "undo", "(II)V"⟩ ∈ wd_TB := wd_at 23 (by decide +kernel) (by decide +kernel)
theorem sl_M_release : Cond.selects "HouseThreads2Model" ⟨"HouseThreads2Model", "release", "(I)V"⟩ ⟨"HouseThreads2Model", "release", "(I)V"⟩ ∈ wd_TB := wd_at 24 (by decide +kernel) (by decide +kernel)
theorem sl_M_send : Cond.selects "HouseThreads2Model" ⟨"HouseThreads2Model", "send", "(II)V"⟩ ⟨"HouseThreads2Model", "send", "(II)V"⟩ ∈ wd_TB := wd_at 25 (by decide +kernel) (by decide +kernel)
theorem sl_M_wasDone : Cond.selects "HouseThreads2Model" ⟨"HouseThreads2Model", "wasDone", "(I)V"⟩ ⟨"HouseThreads2Model", "wasDone", "(I)V"⟩ ∈ wd_TB := wd_at 26 (by decide +kernel) (by decide +kernel)
theorem sl_M_takes : Cond.selects "HouseThreads2Model" ⟨"HouseThreads2Model", "takes", "(II)Z"⟩ ⟨"HouseThreads2Model", "takes", "(II)Z"⟩ ∈ wd_TB := wd_at 27 (by decide +kernel) (by decide +kernel)
theorem sl_M_breakRing : Cond.selects "HouseThreads2Model" ⟨"HouseThreads2Model", "breakRing", "(I)V"⟩ ⟨"HouseThreads2Model", "breakRing", "(I)V"⟩ ∈ wd_TB := wd_at 28 (by decide +kernel) (by decide +kernel)
theorem sl_M_hear : Cond.selects "HouseThreads2Model" ⟨"HouseThreads2Model", "hear", "(II)V"⟩ ⟨"HouseThreads2Model", "hear", "(II)V"⟩ ∈ wd_TB := wd_at 29 (by decide +kernel) (by decide +kernel)
theorem sl_M_isMessage : Cond.selects "HouseThreads2Model" ⟨"HouseThreads2Model", "isMessage", "(I)Z"⟩ ⟨"HouseThreads2Model", "isMessage", "(I)Z"⟩ ∈ wd_TB := wd_at 30 (by decide +kernel) (by decide +kernel)
theorem ii_L : (Jvm.Cond.initialized "HouseThreads2Law") ∈ wd_TB := wd_at 31 (by decide +kernel) (by decide +kernel)
theorem ii_H : (Jvm.Cond.initialized "HouseThreads2") ∈ wd_TB := wd_at 32 (by decide +kernel) (by decide +kernel)
theorem ii_Q : (Jvm.Cond.initialized "HouseThreads2$Post") ∈ wd_TB := wd_at 33 (by decide +kernel) (by decide +kernel)
theorem ii_P : (Jvm.Cond.initialized "HouseThreads2$Part") ∈ wd_TB := wd_at 34 (by decide +kernel) (by decide +kernel)
theorem ii_M : (Jvm.Cond.initialized "HouseThreads2Model") ∈ wd_TB := wd_at 35 (by decide +kernel) (by decide +kernel)
theorem ii_Throwable : (Jvm.Cond.initialized "java/lang/Throwable") ∈ wd_TB := wd_at 36 (by decide +kernel) (by decide +kernel)
theorem ii_Exception : (Jvm.Cond.initialized "java/lang/Exception") ∈ wd_TB := wd_at 37 (by decide +kernel) (by decide +kernel)
theorem ii_RuntimeException : (Jvm.Cond.initialized "java/lang/RuntimeException") ∈ wd_TB := wd_at 38 (by decide +kernel) (by decide +kernel)
theorem ii_IllegalArgumentException : (Jvm.Cond.initialized "java/lang/IllegalArgumentException") ∈ wd_TB := wd_at 39 (by decide +kernel) (by decide +kernel)
theorem ii_UnsupportedOperationException : (Jvm.Cond.initialized "java/lang/UnsupportedOperationException") ∈ wd_TB := wd_at 40 (by decide +kernel) (by decide +kernel)
theorem ii_NoSuchElementException : (Jvm.Cond.initialized "java/util/NoSuchElementException") ∈ wd_TB := wd_at 41 (by decide +kernel) (by decide +kernel)
theorem ii_IllegalStateException : (Jvm.Cond.initialized "java/lang/IllegalStateException") ∈ wd_TB := wd_at 42 (by decide +kernel) (by decide +kernel)
theorem cl_L_8 : (Jvm.Cond.classLink "HouseThreads2Law" (8 : Nat) "HouseThreads2") ∈ wd_TB := wd_at 43 (by decide +kernel) (by decide +kernel)
theorem ib_H : (Jvm.Cond.instantiable "HouseThreads2" (10 : Nat)) ∈ wd_TB := wd_at 44 (by decide +kernel) (by decide +kernel)
theorem ml_L_58 : (Jvm.Cond.methodLink "HouseThreads2Law" (58 : Nat) ({ cls := "HouseThreads2", name := "<init>", desc := "()V" } : Jvm.MethodName)) ∈ wd_TB := wd_at 45 (by decide +kernel) (by decide +kernel)
theorem im_H_init : (Jvm.Cond.instanceMethod ({ cls := "HouseThreads2", name := "<init>", desc := "()V" } : Jvm.MethodName)) ∈ wd_TB := wd_at 46 (by decide +kernel) (by decide +kernel)
theorem cd_H_init : (Jvm.Cond.code ({ cls := "HouseThreads2", name := "<init>", desc := "()V" } : Jvm.MethodName) prog_1_method_1_code (2 : Nat) (Option.none : Option Jvm.ClassFile.FieldType)) ∈ wd_TB := wd_at 47 (by decide +kernel) (by decide +kernel)
theorem ml_H_1 : (Jvm.Cond.methodLink "HouseThreads2" (1 : Nat) ({ cls := "java/lang/Object", name := "<init>", desc := "()V" } : Jvm.MethodName)) ∈ wd_TB := wd_at 48 (by decide +kernel) (by decide +kernel)
theorem im_Object_init : (Jvm.Cond.instanceMethod ({ cls := "java/lang/Object", name := "<init>", desc := "()V" } : Jvm.MethodName)) ∈ wd_TB := wd_at 49 (by decide +kernel) (by decide +kernel)
theorem cd_Object_init : (Jvm.Cond.code ({ cls := "java/lang/Object", name := "<init>", desc := "()V" } : Jvm.MethodName) object_method_1_code (1 : Nat) (Option.none : Option Jvm.ClassFile.FieldType)) ∈ wd_TB := wd_at 50 (by decide +kernel) (by decide +kernel)
theorem cl_H_16 : (Jvm.Cond.classLink "HouseThreads2" (16 : Nat) "HouseThreads2$Part") ∈ wd_TB := wd_at 51 (by decide +kernel) (by decide +kernel)
theorem cl_H_22 : (Jvm.Cond.classLink "HouseThreads2" (22 : Nat) "HouseThreads2$Post") ∈ wd_TB := wd_at 53 (by decide +kernel) (by decide +kernel)
theorem ib_Q : (Jvm.Cond.instantiable "HouseThreads2$Post" (5 : Nat)) ∈ wd_TB := wd_at 54 (by decide +kernel) (by decide +kernel)
theorem im_Q_init : (Jvm.Cond.instanceMethod ({ cls := "HouseThreads2$Post", name := "<init>", desc := "()V" } : Jvm.MethodName)) ∈ wd_TB := wd_at 56 (by decide +kernel) (by decide +kernel)
theorem cd_Q_init : (Jvm.Cond.code ({ cls := "HouseThreads2$Post", name := "<init>", desc := "()V" } : Jvm.MethodName) prog_3_method_1_code (1 : Nat) (Option.none : Option Jvm.ClassFile.FieldType)) ∈ wd_TB := wd_at 57 (by decide +kernel) (by decide +kernel)
theorem ml_Q_3 : (Jvm.Cond.methodLink "HouseThreads2$Post" (3 : Nat) ({ cls := "java/lang/Object", name := "<init>", desc := "()V" } : Jvm.MethodName)) ∈ wd_TB := wd_at 58 (by decide +kernel) (by decide +kernel)
theorem fl_Q_9 : (Jvm.Cond.fieldLink "HouseThreads2$Post" (9 : Nat) "HouseThreads2$Post" "state" "[I") ∈ wd_TB := wd_at 59 (by decide +kernel) (by decide +kernel)
theorem fl_H_111 : (Jvm.Cond.fieldLink "HouseThreads2" (111 : Nat) "HouseThreads2$Post" "state" "[I") ∈ wd_TB := wd_at 60 (by decide +kernel) (by decide +kernel)
theorem fl_Q_15 : (Jvm.Cond.fieldLink "HouseThreads2$Post" (15 : Nat) "HouseThreads2$Post" "from" "[I") ∈ wd_TB := wd_at 61 (by decide +kernel) (by decide +kernel)
theorem fl_H_137 : (Jvm.Cond.fieldLink "HouseThreads2" (137 : Nat) "HouseThreads2$Post" "from" "[I") ∈ wd_TB := wd_at 62 (by decide +kernel) (by decide +kernel)
theorem fl_Q_18 : (Jvm.Cond.fieldLink "HouseThreads2$Post" (18 : Nat) "HouseThreads2$Post" "to" "[I") ∈ wd_TB := wd_at 63 (by decide +kernel) (by decide +kernel)
theorem fl_H_115 : (Jvm.Cond.fieldLink "HouseThreads2" (115 : Nat) "HouseThreads2$Post" "to" "[I") ∈ wd_TB := wd_at 64 (by decide +kernel) (by decide +kernel)
theorem fl_Q_21 : (Jvm.Cond.fieldLink "HouseThreads2$Post" (21 : Nat) "HouseThreads2$Post" "value" "[I") ∈ wd_TB := wd_at 65 (by decide +kernel) (by decide +kernel)
theorem fl_H_140 : (Jvm.Cond.fieldLink "HouseThreads2" (140 : Nat) "HouseThreads2$Post" "value" "[I") ∈ wd_TB := wd_at 66 (by decide +kernel) (by decide +kernel)
theorem fl_Q_24 : (Jvm.Cond.fieldLink "HouseThreads2$Post" (24 : Nat) "HouseThreads2$Post" "sent" "I") ∈ wd_TB := wd_at 67 (by decide +kernel) (by decide +kernel)
theorem fl_H_158 : (Jvm.Cond.fieldLink "HouseThreads2" (158 : Nat) "HouseThreads2$Post" "sent" "I") ∈ wd_TB := wd_at 68 (by decide +kernel) (by decide +kernel)
theorem ac_int : (Jvm.Cond.arrayClass Jvm.ClassFile.FieldType.int) ∈ wd_TB := wd_at 80 (by decide +kernel) (by decide +kernel)
theorem ib_P : (Jvm.Cond.instantiable "HouseThreads2$Part" (11 : Nat)) ∈ wd_TB := wd_at 81 (by decide +kernel) (by decide +kernel)
theorem ml_H_32 : (Jvm.Cond.methodLink "HouseThreads2" (32 : Nat) ({ cls := "HouseThreads2$Part", name := "<init>", desc := "(I)V" } : Jvm.MethodName)) ∈ wd_TB := wd_at 82 (by decide +kernel) (by decide +kernel)
theorem im_P_init : (Jvm.Cond.instanceMethod ({ cls := "HouseThreads2$Part", name := "<init>", desc := "(I)V" } : Jvm.MethodName)) ∈ wd_TB := wd_at 83 (by decide +kernel) (by decide +kernel)
theorem cd_P_init : (Jvm.Cond.code ({ cls := "HouseThreads2$Part", name := "<init>", desc := "(I)V" } : Jvm.MethodName) prog_2_method_1_code (2 : Nat) (Option.none : Option Jvm.ClassFile.FieldType)) ∈ wd_TB := wd_at 84 (by decide +kernel) (by decide +kernel)
theorem ml_P_3 : (Jvm.Cond.methodLink "HouseThreads2$Part" (3 : Nat) ({ cls := "java/lang/Object", name := "<init>", desc := "()V" } : Jvm.MethodName)) ∈ wd_TB := wd_at 85 (by decide +kernel) (by decide +kernel)
theorem fl_P_32 : (Jvm.Cond.fieldLink "HouseThreads2$Part" (32 : Nat) "HouseThreads2$Part" "number" "I") ∈ wd_TB := wd_at 86 (by decide +kernel) (by decide +kernel)
theorem fl_H_211 : (Jvm.Cond.fieldLink "HouseThreads2" (211 : Nat) "HouseThreads2$Part" "number" "I") ∈ wd_TB := wd_at 87 (by decide +kernel) (by decide +kernel)
theorem fl_H_51 : (Jvm.Cond.fieldLink "HouseThreads2" (51 : Nat) "HouseThreads2$Part" "rank" "I") ∈ wd_TB := wd_at 88 (by decide +kernel) (by decide +kernel)
theorem fl_P_41 : (Jvm.Cond.fieldLink "HouseThreads2$Part" (41 : Nat) "HouseThreads2$Part" "rank" "I") ∈ wd_TB := wd_at 89 (by decide +kernel) (by decide +kernel)
theorem fl_P_9 : (Jvm.Cond.fieldLink "HouseThreads2$Part" (9 : Nat) "HouseThreads2$Part" "state" "I") ∈ wd_TB := wd_at 90 (by decide +kernel) (by decide +kernel)
theorem fl_H_67 : (Jvm.Cond.fieldLink "HouseThreads2" (67 : Nat) "HouseThreads2$Part" "state" "I") ∈ wd_TB := wd_at 91 (by decide +kernel) (by decide +kernel)
theorem fl_H_64 : (Jvm.Cond.fieldLink "HouseThreads2" (64 : Nat) "HouseThreads2$Part" "at" "I") ∈ wd_TB := wd_at 92 (by decide +kernel) (by decide +kernel)
theorem fl_P_38 : (Jvm.Cond.fieldLink "HouseThreads2$Part" (38 : Nat) "HouseThreads2$Part" "at" "I") ∈ wd_TB := wd_at 93 (by decide +kernel) (by decide +kernel)
theorem fl_P_35 : (Jvm.Cond.fieldLink "HouseThreads2$Part" (35 : Nat) "HouseThreads2$Part" "length" "I") ∈ wd_TB := wd_at 94 (by decide +kernel) (by decide +kernel)
theorem fl_H_80 : (Jvm.Cond.fieldLink "HouseThreads2" (80 : Nat) "HouseThreads2$Part" "length" "I") ∈ wd_TB := wd_at 95 (by decide +kernel) (by decide +kernel)
theorem fl_H_153 : (Jvm.Cond.fieldLink "HouseThreads2" (153 : Nat) "HouseThreads2$Part" "timesUndone" "I") ∈ wd_TB := wd_at 96 (by decide +kernel) (by decide +kernel)
theorem fl_P_15 : (Jvm.Cond.fieldLink "HouseThreads2$Part" (15 : Nat) "HouseThreads2$Part" "stepKind" "[I") ∈ wd_TB := wd_at 97 (by decide +kernel) (by decide +kernel)
theorem fl_H_186 : (Jvm.Cond.fieldLink "HouseThreads2" (186 : Nat) "HouseThreads2$Part" "stepKind" "[I") ∈ wd_TB := wd_at 98 (by decide +kernel) (by decide +kernel)
theorem fl_P_19 : (Jvm.Cond.fieldLink "HouseThreads2$Part" (19 : Nat) "HouseThreads2$Part" "stepA" "[I") ∈ wd_TB := wd_at 99 (by decide +kernel) (by decide +kernel)
theorem fl_H_198 : (Jvm.Cond.fieldLink "HouseThreads2" (198 : Nat) "HouseThreads2$Part" "stepA" "[I") ∈ wd_TB := wd_at 100 (by decide +kernel) (by decide +kernel)
theorem fl_P_22 : (Jvm.Cond.fieldLink "HouseThreads2$Part" (22 : Nat) "HouseThreads2$Part" "stepB" "[I") ∈ wd_TB := wd_at 101 (by decide +kernel) (by decide +kernel)
theorem fl_H_205 : (Jvm.Cond.fieldLink "HouseThreads2" (205 : Nat) "HouseThreads2$Part" "stepB" "[I") ∈ wd_TB := wd_at 102 (by decide +kernel) (by decide +kernel)
theorem fl_P_25 : (Jvm.Cond.fieldLink "HouseThreads2$Part" (25 : Nat) "HouseThreads2$Part" "stepFails" "[Z") ∈ wd_TB := wd_at 103 (by decide +kernel) (by decide +kernel)
theorem fl_H_85 : (Jvm.Cond.fieldLink "HouseThreads2" (85 : Nat) "HouseThreads2$Part" "stepFails" "[Z") ∈ wd_TB := wd_at 104 (by decide +kernel) (by decide +kernel)
theorem fl_P_29 : (Jvm.Cond.fieldLink "HouseThreads2$Part" (29 : Nat) "HouseThreads2$Part" "stepMessage" "[I") ∈ wd_TB := wd_at 105 (by decide +kernel) (by decide +kernel)
theorem fl_H_218 : (Jvm.Cond.fieldLink "HouseThreads2" (218 : Nat) "HouseThreads2$Part" "stepMessage" "[I") ∈ wd_TB := wd_at 106 (by decide +kernel) (by decide +kernel)
theorem ac_boolean : (Jvm.Cond.arrayClass Jvm.ClassFile.FieldType.boolean) ∈ wd_TB := wd_at 130 (by decide +kernel) (by decide +kernel)
theorem fl_H_9 : (Jvm.Cond.fieldLink "HouseThreads2" (9 : Nat) "HouseThreads2" "placeValue" "[I") ∈ wd_TB := wd_at 131 (by decide +kernel) (by decide +kernel)
theorem fl_H_13 : (Jvm.Cond.fieldLink "HouseThreads2" (13 : Nat) "HouseThreads2" "placeHolder" "[I") ∈ wd_TB := wd_at 132 (by decide +kernel) (by decide +kernel)
theorem fl_H_18 : (Jvm.Cond.fieldLink "HouseThreads2" (18 : Nat) "HouseThreads2" "parts" "[LHouseThreads2$Part;") ∈ wd_TB := wd_at 133 (by decide +kernel) (by decide +kernel)
theorem fl_H_25 : (Jvm.Cond.fieldLink "HouseThreads2" (25 : Nat) "HouseThreads2" "post" "LHouseThreads2$Post;") ∈ wd_TB := wd_at 134 (by decide +kernel) (by decide +kernel)
theorem fl_H_29 : (Jvm.Cond.fieldLink "HouseThreads2" (29 : Nat) "HouseThreads2" "logged" "[I") ∈ wd_TB := wd_at 135 (by decide +kernel) (by decide +kernel)
theorem fl_H_42 : (Jvm.Cond.fieldLink "HouseThreads2" (42 : Nat) "HouseThreads2" "partCount" "I") ∈ wd_TB := wd_at 136 (by decide +kernel) (by decide +kernel)
theorem fl_H_126 : (Jvm.Cond.fieldLink "HouseThreads2" (126 : Nat) "HouseThreads2" "loggedCount" "I") ∈ wd_TB := wd_at 137 (by decide +kernel) (by decide +kernel)
theorem fl_H_105 : (Jvm.Cond.fieldLink "HouseThreads2" (105 : Nat) "HouseThreads2" "stepsDone" "I") ∈ wd_TB := wd_at 138 (by decide +kernel) (by decide +kernel)
theorem fl_H_161 : (Jvm.Cond.fieldLink "HouseThreads2" (161 : Nat) "HouseThreads2" "abortedCount" "I") ∈ wd_TB := wd_at 139 (by decide +kernel) (by decide +kernel)
theorem fl_H_89 : (Jvm.Cond.fieldLink "HouseThreads2" (89 : Nat) "HouseThreads2" "messagesAreLost" "Z") ∈ wd_TB := wd_at 140 (by decide +kernel) (by decide +kernel)
theorem ml_L_80 : (Jvm.Cond.methodLink "HouseThreads2Law" (80 : Nat) ({ cls := "HouseThreads2", name := "losing", desc := "(Z)V" } : Jvm.MethodName)) ∈ wd_TB := wd_at 162 (by decide +kernel) (by decide +kernel)
theorem im_H_losing : (Jvm.Cond.instanceMethod ({ cls := "HouseThreads2", name := "losing", desc := "(Z)V" } : Jvm.MethodName)) ∈ wd_TB := wd_at 163 (by decide +kernel) (by decide +kernel)
theorem sl_H_losing : (Jvm.Cond.selects "HouseThreads2" ({ cls := "HouseThreads2", name := "losing", desc := "(Z)V" } : Jvm.MethodName) ({ cls := "HouseThreads2", name := "losing", desc := "(Z)V" } : Jvm.MethodName)) ∈ wd_TB := wd_at 164 (by decide +kernel) (by decide +kernel)
theorem cd_H_losing : (Jvm.Cond.code ({ cls := "HouseThreads2", name := "losing", desc := "(Z)V" } : Jvm.MethodName) prog_1_method_5_code (2 : Nat) (Option.none : Option Jvm.ClassFile.FieldType)) ∈ wd_TB := wd_at 165 (by decide +kernel) (by decide +kernel)
theorem ml_L_101 : (Jvm.Cond.methodLink "HouseThreads2Law" (101 : Nat) ({ cls := "HouseThreads2", name := "close", desc := "()I" } : Jvm.MethodName)) ∈ wd_TB := wd_at 166 (by decide +kernel) (by decide +kernel)
theorem im_H_close : (Jvm.Cond.instanceMethod ({ cls := "HouseThreads2", name := "close", desc := "()I" } : Jvm.MethodName)) ∈ wd_TB := wd_at 167 (by decide +kernel) (by decide +kernel)
theorem sl_H_close : (Jvm.Cond.selects "HouseThreads2" ({ cls := "HouseThreads2", name := "close", desc := "()I" } : Jvm.MethodName) ({ cls := "HouseThreads2", name := "close", desc := "()I" } : Jvm.MethodName)) ∈ wd_TB := wd_at 168 (by decide +kernel) (by decide +kernel)
theorem cd_H_close : (Jvm.Cond.code ({ cls := "HouseThreads2", name := "close", desc := "()I" } : Jvm.MethodName) prog_1_method_11_code (4 : Nat) (Option.some Jvm.ClassFile.FieldType.int)) ∈ wd_TB := wd_at 169 (by decide +kernel) (by decide +kernel)
theorem ml_H_120 : (Jvm.Cond.methodLink "HouseThreads2" (120 : Nat) ({ cls := "HouseThreads2", name := "undo", desc := "(LHouseThreads2$Part;I)I" } : Jvm.MethodName)) ∈ wd_TB := wd_at 170 (by decide +kernel) (by decide +kernel)
theorem im_H_undo : (Jvm.Cond.instanceMethod ({ cls := "HouseThreads2", name := "undo", desc := "(LHouseThreads2$Part;I)I" } : Jvm.MethodName)) ∈ wd_TB := wd_at 172 (by decide +kernel) (by decide +kernel)
theorem cd_H_undo : (Jvm.Cond.code ({ cls := "HouseThreads2", name := "undo", desc := "(LHouseThreads2$Part;I)I" } : Jvm.MethodName) prog_1_method_32_code (5 : Nat) (Option.some Jvm.ClassFile.FieldType.int)) ∈ wd_TB := wd_at 173 (by decide +kernel) (by decide +kernel)
theorem ml_H_238 : (Jvm.Cond.methodLink "HouseThreads2" (238 : Nat) ({ cls := "HouseThreads2", name := "takeBack", desc := "(LHouseThreads2$Part;I)V" } : Jvm.MethodName)) ∈ wd_TB := wd_at 174 (by decide +kernel) (by decide +kernel)
theorem im_H_takeBack : (Jvm.Cond.instanceMethod ({ cls := "HouseThreads2", name := "takeBack", desc := "(LHouseThreads2$Part;I)V" } : Jvm.MethodName)) ∈ wd_TB := wd_at 176 (by decide +kernel) (by decide +kernel)
theorem cd_H_takeBack : (Jvm.Cond.code ({ cls := "HouseThreads2", name := "takeBack", desc := "(LHouseThreads2$Part;I)V" } : Jvm.MethodName) prog_1_method_33_code (4 : Nat) (Option.none : Option Jvm.ClassFile.FieldType)) ∈ wd_TB := wd_at 177 (by decide +kernel) (by decide +kernel)
theorem ml_H_228 : (Jvm.Cond.methodLink "HouseThreads2" (228 : Nat) ({ cls := "HouseThreads2", name := "freePlaces", desc := "(LHouseThreads2$Part;)V" } : Jvm.MethodName)) ∈ wd_TB := wd_at 178 (by decide +kernel) (by decide +kernel)
theorem im_H_freePlaces : (Jvm.Cond.instanceMethod ({ cls := "HouseThreads2", name := "freePlaces", desc := "(LHouseThreads2$Part;)V" } : Jvm.MethodName)) ∈ wd_TB := wd_at 180 (by decide +kernel) (by decide +kernel)
theorem cd_H_freePlaces : (Jvm.Cond.code ({ cls := "HouseThreads2", name := "freePlaces", desc := "(LHouseThreads2$Part;)V" } : Jvm.MethodName) prog_1_method_34_code (3 : Nat) (Option.none : Option Jvm.ClassFile.FieldType)) ∈ wd_TB := wd_at 181 (by decide +kernel) (by decide +kernel)
theorem ml_L_118 : (Jvm.Cond.methodLink "HouseThreads2Law" (118 : Nat) ({ cls := "HouseThreads2", name := "count", desc := "(I)I" } : Jvm.MethodName)) ∈ wd_TB := wd_at 182 (by decide +kernel) (by decide +kernel)
theorem im_H_count : (Jvm.Cond.instanceMethod ({ cls := "HouseThreads2", name := "count", desc := "(I)I" } : Jvm.MethodName)) ∈ wd_TB := wd_at 183 (by decide +kernel) (by decide +kernel)
theorem sl_H_count : (Jvm.Cond.selects "HouseThreads2" ({ cls := "HouseThreads2", name := "count", desc := "(I)I" } : Jvm.MethodName) ({ cls := "HouseThreads2", name := "count", desc := "(I)I" } : Jvm.MethodName)) ∈ wd_TB := wd_at 184 (by decide +kernel) (by decide +kernel)
theorem cd_H_count : (Jvm.Cond.code ({ cls := "HouseThreads2", name := "count", desc := "(I)I" } : Jvm.MethodName) prog_1_method_16_code (2 : Nat) (Option.some Jvm.ClassFile.FieldType.int)) ∈ wd_TB := wd_at 185 (by decide +kernel) (by decide +kernel)
theorem ml_H_164 : (Jvm.Cond.methodLink "HouseThreads2" (164 : Nat) ({ cls := "HouseThreads2", name := "doneParts", desc := "()I" } : Jvm.MethodName)) ∈ wd_TB := wd_at 186 (by decide +kernel) (by decide +kernel)
theorem im_H_doneParts : (Jvm.Cond.instanceMethod ({ cls := "HouseThreads2", name := "doneParts", desc := "()I" } : Jvm.MethodName)) ∈ wd_TB := wd_at 188 (by decide +kernel) (by decide +kernel)
theorem cd_H_doneParts : (Jvm.Cond.code ({ cls := "HouseThreads2", name := "doneParts", desc := "()I" } : Jvm.MethodName) prog_1_method_36_code (3 : Nat) (Option.some Jvm.ClassFile.FieldType.int)) ∈ wd_TB := wd_at 189 (by decide +kernel) (by decide +kernel)
theorem ml_H_167 : (Jvm.Cond.methodLink "HouseThreads2" (167 : Nat) ({ cls := "HouseThreads2$Post", name := "onTheirWay", desc := "()I" } : Jvm.MethodName)) ∈ wd_TB := wd_at 190 (by decide +kernel) (by decide +kernel)
theorem im_Q_onTheirWay : (Jvm.Cond.instanceMethod ({ cls := "HouseThreads2$Post", name := "onTheirWay", desc := "()I" } : Jvm.MethodName)) ∈ wd_TB := wd_at 191 (by decide +kernel) (by decide +kernel)
theorem sl_Q_onTheirWay : (Jvm.Cond.selects "HouseThreads2$Post" ({ cls := "HouseThreads2$Post", name := "onTheirWay", desc := "()I" } : Jvm.MethodName) ({ cls := "HouseThreads2$Post", name := "onTheirWay", desc := "()I" } : Jvm.MethodName)) ∈ wd_TB := wd_at 192 (by decide +kernel) (by decide +kernel)
theorem cd_Q_onTheirWay : (Jvm.Cond.code ({ cls := "HouseThreads2$Post", name := "onTheirWay", desc := "()I" } : Jvm.MethodName) prog_3_method_4_code (3 : Nat) (Option.some Jvm.ClassFile.FieldType.int)) ∈ wd_TB := wd_at 193 (by decide +kernel) (by decide +kernel)
theorem ml_L_62 : (Jvm.Cond.methodLink "HouseThreads2Law" (62 : Nat) ({ cls := "HouseThreads2Law", name := "part", desc := "(LHouseThreads2;I[J)I" } : Jvm.MethodName)) ∈ wd_TB := wd_at 194 (by decide +kernel) (by decide +kernel)
theorem ss_L_part : (Jvm.Cond.static ({ cls := "HouseThreads2Law", name := "part", desc := "(LHouseThreads2;I[J)I" } : Jvm.MethodName)) ∈ wd_TB := wd_at 195 (by decide +kernel) (by decide +kernel)
theorem cw_L_part : (Jvm.Cond.codeWith ({ cls := "HouseThreads2Law", name := "part", desc := "(LHouseThreads2;I[J)I" } : Jvm.MethodName) method_3_code (4 : Nat) (Option.some Jvm.ClassFile.FieldType.int) [((0 : Nat), (9 : Nat), (12 : Nat), (13 : Nat)), ((0 : Nat), (9 : Nat), (15 : Nat), (15 : Nat))]) ∈ wd_TB := wd_at 196 (by decide +kernel) (by decide +kernel)
theorem cl_L_13 : (Jvm.Cond.classLink "HouseThreads2Law" (13 : Nat) "java/lang/IllegalArgumentException") ∈ wd_TB := wd_at 197 (by decide +kernel) (by decide +kernel)
theorem cl_L_15 : (Jvm.Cond.classLink "HouseThreads2Law" (15 : Nat) "java/lang/UnsupportedOperationException") ∈ wd_TB := wd_at 198 (by decide +kernel) (by decide +kernel)
theorem ml_L_7 : (Jvm.Cond.methodLink "HouseThreads2Law" (7 : Nat) ({ cls := "HouseThreads2", name := "part", desc := "(I)I" } : Jvm.MethodName)) ∈ wd_TB := wd_at 199 (by decide +kernel) (by decide +kernel)
theorem im_H_part : (Jvm.Cond.instanceMethod ({ cls := "HouseThreads2", name := "part", desc := "(I)I" } : Jvm.MethodName)) ∈ wd_TB := wd_at 200 (by decide +kernel) (by decide +kernel)
theorem sl_H_part : (Jvm.Cond.selects "HouseThreads2" ({ cls := "HouseThreads2", name := "part", desc := "(I)I" } : Jvm.MethodName) ({ cls := "HouseThreads2", name := "part", desc := "(I)I" } : Jvm.MethodName)) ∈ wd_TB := wd_at 201 (by decide +kernel) (by decide +kernel)
theorem cd_H_part : (Jvm.Cond.code ({ cls := "HouseThreads2", name := "part", desc := "(I)I" } : Jvm.MethodName) prog_1_method_2_code (2 : Nat) (Option.some Jvm.ClassFile.FieldType.int)) ∈ wd_TB := wd_at 202 (by decide +kernel) (by decide +kernel)
theorem cl_H_35 : (Jvm.Cond.classLink "HouseThreads2" (35 : Nat) "java/lang/IllegalArgumentException") ∈ wd_TB := wd_at 203 (by decide +kernel) (by decide +kernel)
theorem ib_IllegalArgumentException : (Jvm.Cond.instantiable "java/lang/IllegalArgumentException" (6 : Nat)) ∈ wd_TB := wd_at 204 (by decide +kernel) (by decide +kernel)
theorem ca_IllegalArgumentException : (Jvm.Cond.castable "java/lang/IllegalArgumentException" "java/lang/IllegalArgumentException") ∈ wd_TB := wd_at 205 (by decide +kernel) (by decide +kernel)
theorem ib_Throwable : (Jvm.Cond.instantiable "java/lang/Throwable" (6 : Nat)) ∈ wd_TB := wd_at 243 (by decide +kernel) (by decide +kernel)
theorem ml_H_39 : (Jvm.Cond.methodLink "HouseThreads2" (39 : Nat) ({ cls := "java/lang/IllegalArgumentException", name := "<init>", desc := "(Ljava/lang/String;)V" } : Jvm.MethodName)) ∈ wd_TB := wd_at 246 (by decide +kernel) (by decide +kernel)
theorem im_IllegalArgumentException_init : (Jvm.Cond.instanceMethod ({ cls := "java/lang/IllegalArgumentException", name := "<init>", desc := "(Ljava/lang/String;)V" } : Jvm.MethodName)) ∈ wd_TB := wd_at 247 (by decide +kernel) (by decide +kernel)
theorem cd_IllegalArgumentException_init : (Jvm.Cond.code ({ cls := "java/lang/IllegalArgumentException", name := "<init>", desc := "(Ljava/lang/String;)V" } : Jvm.MethodName) prog_7_method_2_code (2 : Nat) (Option.none : Option Jvm.ClassFile.FieldType)) ∈ wd_TB := wd_at 248 (by decide +kernel) (by decide +kernel)
theorem ml_IllegalArgumentException_7 : (Jvm.Cond.methodLink "java/lang/IllegalArgumentException" (7 : Nat) ({ cls := "java/lang/RuntimeException", name := "<init>", desc := "(Ljava/lang/String;)V" } : Jvm.MethodName)) ∈ wd_TB := wd_at 249 (by decide +kernel) (by decide +kernel)
theorem im_RuntimeException_init : (Jvm.Cond.instanceMethod ({ cls := "java/lang/RuntimeException", name := "<init>", desc := "(Ljava/lang/String;)V" } : Jvm.MethodName)) ∈ wd_TB := wd_at 250 (by decide +kernel) (by decide +kernel)
theorem cd_RuntimeException_init : (Jvm.Cond.code ({ cls := "java/lang/RuntimeException", name := "<init>", desc := "(Ljava/lang/String;)V" } : Jvm.MethodName) prog_9_method_2_code (2 : Nat) (Option.none : Option Jvm.ClassFile.FieldType)) ∈ wd_TB := wd_at 251 (by decide +kernel) (by decide +kernel)
theorem ml_RuntimeException_7 : (Jvm.Cond.methodLink "java/lang/RuntimeException" (7 : Nat) ({ cls := "java/lang/Exception", name := "<init>", desc := "(Ljava/lang/String;)V" } : Jvm.MethodName)) ∈ wd_TB := wd_at 252 (by decide +kernel) (by decide +kernel)
theorem im_Exception_init : (Jvm.Cond.instanceMethod ({ cls := "java/lang/Exception", name := "<init>", desc := "(Ljava/lang/String;)V" } : Jvm.MethodName)) ∈ wd_TB := wd_at 253 (by decide +kernel) (by decide +kernel)
theorem cd_Exception_init : (Jvm.Cond.code ({ cls := "java/lang/Exception", name := "<init>", desc := "(Ljava/lang/String;)V" } : Jvm.MethodName) prog_6_method_2_code (2 : Nat) (Option.none : Option Jvm.ClassFile.FieldType)) ∈ wd_TB := wd_at 254 (by decide +kernel) (by decide +kernel)
theorem ml_Exception_7 : (Jvm.Cond.methodLink "java/lang/Exception" (7 : Nat) ({ cls := "java/lang/Throwable", name := "<init>", desc := "(Ljava/lang/String;)V" } : Jvm.MethodName)) ∈ wd_TB := wd_at 255 (by decide +kernel) (by decide +kernel)
theorem ac_byte : (Jvm.Cond.arrayClass Jvm.ClassFile.FieldType.byte) ∈ wd_TB := wd_at 271 (by decide +kernel) (by decide +kernel)
theorem cl_H_46 : (Jvm.Cond.classLink "HouseThreads2" (46 : Nat) "java/lang/UnsupportedOperationException") ∈ wd_TB := wd_at 272 (by decide +kernel) (by decide +kernel)
theorem ib_UnsupportedOperationException : (Jvm.Cond.instantiable "java/lang/UnsupportedOperationException" (6 : Nat)) ∈ wd_TB := wd_at 273 (by decide +kernel) (by decide +kernel)
theorem ca_UnsupportedOperationException : (Jvm.Cond.castable "java/lang/UnsupportedOperationException" "java/lang/UnsupportedOperationException") ∈ wd_TB := wd_at 274 (by decide +kernel) (by decide +kernel)
theorem ml_H_50 : (Jvm.Cond.methodLink "HouseThreads2" (50 : Nat) ({ cls := "java/lang/UnsupportedOperationException", name := "<init>", desc := "(Ljava/lang/String;)V" } : Jvm.MethodName)) ∈ wd_TB := wd_at 282 (by decide +kernel) (by decide +kernel)
theorem im_UnsupportedOperationException_init : (Jvm.Cond.instanceMethod ({ cls := "java/lang/UnsupportedOperationException", name := "<init>", desc := "(Ljava/lang/String;)V" } : Jvm.MethodName)) ∈ wd_TB := wd_at 283 (by decide +kernel) (by decide +kernel)
theorem cd_UnsupportedOperationException_init : (Jvm.Cond.code ({ cls := "java/lang/UnsupportedOperationException", name := "<init>", desc := "(Ljava/lang/String;)V" } : Jvm.MethodName) prog_12_method_2_code (2 : Nat) (Option.none : Option Jvm.ClassFile.FieldType)) ∈ wd_TB := wd_at 284 (by decide +kernel) (by decide +kernel)
theorem ml_UnsupportedOperationException_7 : (Jvm.Cond.methodLink "java/lang/UnsupportedOperationException" (7 : Nat) ({ cls := "java/lang/RuntimeException", name := "<init>", desc := "(Ljava/lang/String;)V" } : Jvm.MethodName)) ∈ wd_TB := wd_at 285 (by decide +kernel) (by decide +kernel)
theorem ml_L_72 : (Jvm.Cond.methodLink "HouseThreads2Law" (72 : Nat) ({ cls := "HouseThreads2Law", name := "step", desc := "(LHouseThreads2;IIII[J)I" } : Jvm.MethodName)) ∈ wd_TB := wd_at 288 (by decide +kernel) (by decide +kernel)
theorem ss_L_step : (Jvm.Cond.static ({ cls := "HouseThreads2Law", name := "step", desc := "(LHouseThreads2;IIII[J)I" } : Jvm.MethodName)) ∈ wd_TB := wd_at 289 (by decide +kernel) (by decide +kernel)
theorem cw_L_step : (Jvm.Cond.codeWith ({ cls := "HouseThreads2Law", name := "step", desc := "(LHouseThreads2;IIII[J)I" } : Jvm.MethodName) method_4_code (7 : Nat) (Option.some Jvm.ClassFile.FieldType.int) [((0 : Nat), (14 : Nat), (17 : Nat), (21 : Nat)), ((0 : Nat), (14 : Nat), (21 : Nat), (13 : Nat)), ((0 : Nat), (14 : Nat), (25 : Nat), (23 : Nat)), ((0 : Nat), (14 : Nat), (29 : Nat), (15 : Nat))]) ∈ wd_TB := wd_at 290 (by decide +kernel) (by decide +kernel)
theorem cl_L_21 : (Jvm.Cond.classLink "HouseThreads2Law" (21 : Nat) "java/util/NoSuchElementException") ∈ wd_TB := wd_at 291 (by decide +kernel) (by decide +kernel)
theorem cl_L_23 : (Jvm.Cond.classLink "HouseThreads2Law" (23 : Nat) "java/lang/IllegalStateException") ∈ wd_TB := wd_at 292 (by decide +kernel) (by decide +kernel)
theorem ml_L_17 : (Jvm.Cond.methodLink "HouseThreads2Law" (17 : Nat) ({ cls := "HouseThreads2", name := "step", desc := "(IIII)I" } : Jvm.MethodName)) ∈ wd_TB := wd_at 293 (by decide +kernel) (by decide +kernel)
theorem im_H_step : (Jvm.Cond.instanceMethod ({ cls := "HouseThreads2", name := "step", desc := "(IIII)I" } : Jvm.MethodName)) ∈ wd_TB := wd_at 294 (by decide +kernel) (by decide +kernel)
theorem sl_H_step : (Jvm.Cond.selects "HouseThreads2" ({ cls := "HouseThreads2", name := "step", desc := "(IIII)I" } : Jvm.MethodName) ({ cls := "HouseThreads2", name := "step", desc := "(IIII)I" } : Jvm.MethodName)) ∈ wd_TB := wd_at 295 (by decide +kernel) (by decide +kernel)
theorem cd_H_step : (Jvm.Cond.code ({ cls := "HouseThreads2", name := "step", desc := "(IIII)I" } : Jvm.MethodName) prog_1_method_3_code (6 : Nat) (Option.some Jvm.ClassFile.FieldType.int)) ∈ wd_TB := wd_at 296 (by decide +kernel) (by decide +kernel)
theorem ml_H_54 : (Jvm.Cond.methodLink "HouseThreads2" (54 : Nat) ({ cls := "HouseThreads2", name := "existingPart", desc := "(I)LHouseThreads2$Part;" } : Jvm.MethodName)) ∈ wd_TB := wd_at 297 (by decide +kernel) (by decide +kernel)
theorem im_H_existingPart : (Jvm.Cond.instanceMethod ({ cls := "HouseThreads2", name := "existingPart", desc := "(I)LHouseThreads2$Part;" } : Jvm.MethodName)) ∈ wd_TB := wd_at 299 (by decide +kernel) (by decide +kernel)
theorem cd_H_existingPart : (Jvm.Cond.code ({ cls := "HouseThreads2", name := "existingPart", desc := "(I)LHouseThreads2$Part;" } : Jvm.MethodName) prog_1_method_17_code (2 : Nat) (Option.some (Jvm.ClassFile.FieldType.object "HouseThreads2$Part"))) ∈ wd_TB := wd_at 300 (by decide +kernel) (by decide +kernel)
theorem ml_H_170 : (Jvm.Cond.methodLink "HouseThreads2" (170 : Nat) ({ cls := "HouseThreads2", name := "isPart", desc := "(I)Z" } : Jvm.MethodName)) ∈ wd_TB := wd_at 301 (by decide +kernel) (by decide +kernel)
theorem im_H_isPart : (Jvm.Cond.instanceMethod ({ cls := "HouseThreads2", name := "isPart", desc := "(I)Z" } : Jvm.MethodName)) ∈ wd_TB := wd_at 303 (by decide +kernel) (by decide +kernel)
theorem cd_H_isPart : (Jvm.Cond.code ({ cls := "HouseThreads2", name := "isPart", desc := "(I)Z" } : Jvm.MethodName) prog_1_method_19_code (2 : Nat) (Option.some Jvm.ClassFile.FieldType.boolean)) ∈ wd_TB := wd_at 304 (by decide +kernel) (by decide +kernel)
theorem cl_H_173 : (Jvm.Cond.classLink "HouseThreads2" (173 : Nat) "java/util/NoSuchElementException") ∈ wd_TB := wd_at 305 (by decide +kernel) (by decide +kernel)
theorem ib_NoSuchElementException : (Jvm.Cond.instantiable "java/util/NoSuchElementException" (6 : Nat)) ∈ wd_TB := wd_at 306 (by decide +kernel) (by decide +kernel)
theorem ca_NoSuchElementException : (Jvm.Cond.castable "java/util/NoSuchElementException" "java/util/NoSuchElementException") ∈ wd_TB := wd_at 307 (by decide +kernel) (by decide +kernel)
theorem ml_H_177 : (Jvm.Cond.methodLink "HouseThreads2" (177 : Nat) ({ cls := "java/util/NoSuchElementException", name := "<init>", desc := "(Ljava/lang/String;)V" } : Jvm.MethodName)) ∈ wd_TB := wd_at 315 (by decide +kernel) (by decide +kernel)
theorem im_NoSuchElementException_init : (Jvm.Cond.instanceMethod ({ cls := "java/util/NoSuchElementException", name := "<init>", desc := "(Ljava/lang/String;)V" } : Jvm.MethodName)) ∈ wd_TB := wd_at 316 (by decide +kernel) (by decide +kernel)
theorem cd_NoSuchElementException_init : (Jvm.Cond.code ({ cls := "java/util/NoSuchElementException", name := "<init>", desc := "(Ljava/lang/String;)V" } : Jvm.MethodName) prog_13_method_4_code (2 : Nat) (Option.none : Option Jvm.ClassFile.FieldType)) ∈ wd_TB := wd_at 317 (by decide +kernel) (by decide +kernel)
theorem ml_NoSuchElementException_13 : (Jvm.Cond.methodLink "java/util/NoSuchElementException" (13 : Nat) ({ cls := "java/lang/RuntimeException", name := "<init>", desc := "(Ljava/lang/String;)V" } : Jvm.MethodName)) ∈ wd_TB := wd_at 318 (by decide +kernel) (by decide +kernel)
theorem ml_H_58 : (Jvm.Cond.methodLink "HouseThreads2" (58 : Nat) ({ cls := "HouseThreads2", name := "isStep", desc := "(III)Z" } : Jvm.MethodName)) ∈ wd_TB := wd_at 321 (by decide +kernel) (by decide +kernel)
theorem im_H_isStep : (Jvm.Cond.instanceMethod ({ cls := "HouseThreads2", name := "isStep", desc := "(III)Z" } : Jvm.MethodName)) ∈ wd_TB := wd_at 323 (by decide +kernel) (by decide +kernel)
theorem cd_H_isStep : (Jvm.Cond.code ({ cls := "HouseThreads2", name := "isStep", desc := "(III)Z" } : Jvm.MethodName) prog_1_method_21_code (4 : Nat) (Option.some Jvm.ClassFile.FieldType.boolean)) ∈ wd_TB := wd_at 324 (by decide +kernel) (by decide +kernel)
theorem ml_H_131 : (Jvm.Cond.methodLink "HouseThreads2" (131 : Nat) ({ cls := "HouseThreads2", name := "isPlace", desc := "(I)Z" } : Jvm.MethodName)) ∈ wd_TB := wd_at 325 (by decide +kernel) (by decide +kernel)
theorem ss_H_isPlace : (Jvm.Cond.static ({ cls := "HouseThreads2", name := "isPlace", desc := "(I)Z" } : Jvm.MethodName)) ∈ wd_TB := wd_at 326 (by decide +kernel) (by decide +kernel)
theorem cd_H_isPlace : (Jvm.Cond.code ({ cls := "HouseThreads2", name := "isPlace", desc := "(I)Z" } : Jvm.MethodName) prog_1_method_20_code (1 : Nat) (Option.some Jvm.ClassFile.FieldType.boolean)) ∈ wd_TB := wd_at 327 (by decide +kernel) (by decide +kernel)
theorem ml_H_180 : (Jvm.Cond.methodLink "HouseThreads2" (180 : Nat) ({ cls := "HouseThreads2", name := "isAmount", desc := "(I)Z" } : Jvm.MethodName)) ∈ wd_TB := wd_at 328 (by decide +kernel) (by decide +kernel)
theorem ss_H_isAmount : (Jvm.Cond.static ({ cls := "HouseThreads2", name := "isAmount", desc := "(I)Z" } : Jvm.MethodName)) ∈ wd_TB := wd_at 329 (by decide +kernel) (by decide +kernel)
theorem cd_H_isAmount : (Jvm.Cond.code ({ cls := "HouseThreads2", name := "isAmount", desc := "(I)Z" } : Jvm.MethodName) prog_1_method_22_code (1 : Nat) (Option.some Jvm.ClassFile.FieldType.boolean)) ∈ wd_TB := wd_at 330 (by decide +kernel) (by decide +kernel)
theorem cl_H_70 : (Jvm.Cond.classLink "HouseThreads2" (70 : Nat) "java/lang/IllegalStateException") ∈ wd_TB := wd_at 332 (by decide +kernel) (by decide +kernel)
theorem ib_IllegalStateException : (Jvm.Cond.instantiable "java/lang/IllegalStateException" (6 : Nat)) ∈ wd_TB := wd_at 333 (by decide +kernel) (by decide +kernel)
theorem ca_IllegalStateException : (Jvm.Cond.castable "java/lang/IllegalStateException" "java/lang/IllegalStateException") ∈ wd_TB := wd_at 334 (by decide +kernel) (by decide +kernel)
theorem ml_H_74 : (Jvm.Cond.methodLink "HouseThreads2" (74 : Nat) ({ cls := "java/lang/IllegalStateException", name := "<init>", desc := "(Ljava/lang/String;)V" } : Jvm.MethodName)) ∈ wd_TB := wd_at 342 (by decide +kernel) (by decide +kernel)
theorem im_IllegalStateException_init : (Jvm.Cond.instanceMethod ({ cls := "java/lang/IllegalStateException", name := "<init>", desc := "(Ljava/lang/String;)V" } : Jvm.MethodName)) ∈ wd_TB := wd_at 343 (by decide +kernel) (by decide +kernel)
theorem cd_IllegalStateException_init : (Jvm.Cond.code ({ cls := "java/lang/IllegalStateException", name := "<init>", desc := "(Ljava/lang/String;)V" } : Jvm.MethodName) prog_8_method_2_code (2 : Nat) (Option.none : Option Jvm.ClassFile.FieldType)) ∈ wd_TB := wd_at 344 (by decide +kernel) (by decide +kernel)
theorem ml_IllegalStateException_7 : (Jvm.Cond.methodLink "java/lang/IllegalStateException" (7 : Nat) ({ cls := "java/lang/RuntimeException", name := "<init>", desc := "(Ljava/lang/String;)V" } : Jvm.MethodName)) ∈ wd_TB := wd_at 345 (by decide +kernel) (by decide +kernel)
theorem ml_H_75 : (Jvm.Cond.methodLink "HouseThreads2" (75 : Nat) ({ cls := "HouseThreads2$Part", name := "append", desc := "(III)Z" } : Jvm.MethodName)) ∈ wd_TB := wd_at 348 (by decide +kernel) (by decide +kernel)
theorem im_P_append : (Jvm.Cond.instanceMethod ({ cls := "HouseThreads2$Part", name := "append", desc := "(III)Z" } : Jvm.MethodName)) ∈ wd_TB := wd_at 349 (by decide +kernel) (by decide +kernel)
theorem sl_P_append : (Jvm.Cond.selects "HouseThreads2$Part" ({ cls := "HouseThreads2$Part", name := "append", desc := "(III)Z" } : Jvm.MethodName) ({ cls := "HouseThreads2$Part", name := "append", desc := "(III)Z" } : Jvm.MethodName)) ∈ wd_TB := wd_at 350 (by decide +kernel) (by decide +kernel)
theorem cd_P_append : (Jvm.Cond.code ({ cls := "HouseThreads2$Part", name := "append", desc := "(III)Z" } : Jvm.MethodName) prog_2_method_2_code (4 : Nat) (Option.some Jvm.ClassFile.FieldType.boolean)) ∈ wd_TB := wd_at 351 (by decide +kernel) (by decide +kernel)
theorem ml_L_76 : (Jvm.Cond.methodLink "HouseThreads2Law" (76 : Nat) ({ cls := "HouseThreads2Law", name := "fails", desc := "(LHouseThreads2;IIZ)I" } : Jvm.MethodName)) ∈ wd_TB := wd_at 353 (by decide +kernel) (by decide +kernel)
theorem ss_L_fails : (Jvm.Cond.static ({ cls := "HouseThreads2Law", name := "fails", desc := "(LHouseThreads2;IIZ)I" } : Jvm.MethodName)) ∈ wd_TB := wd_at 354 (by decide +kernel) (by decide +kernel)
theorem cw_L_fails : (Jvm.Cond.codeWith ({ cls := "HouseThreads2Law", name := "fails", desc := "(LHouseThreads2;IIZ)I" } : Jvm.MethodName) method_5_code (5 : Nat) (Option.some Jvm.ClassFile.FieldType.int) [((0 : Nat), (7 : Nat), (10 : Nat), (21 : Nat)), ((0 : Nat), (7 : Nat), (14 : Nat), (13 : Nat))]) ∈ wd_TB := wd_at 355 (by decide +kernel) (by decide +kernel)
theorem ml_L_25 : (Jvm.Cond.methodLink "HouseThreads2Law" (25 : Nat) ({ cls := "HouseThreads2", name := "fails", desc := "(IIZ)V" } : Jvm.MethodName)) ∈ wd_TB := wd_at 356 (by decide +kernel) (by decide +kernel)
theorem im_H_fails : (Jvm.Cond.instanceMethod ({ cls := "HouseThreads2", name := "fails", desc := "(IIZ)V" } : Jvm.MethodName)) ∈ wd_TB := wd_at 357 (by decide +kernel) (by decide +kernel)
theorem sl_H_fails : (Jvm.Cond.selects "HouseThreads2" ({ cls := "HouseThreads2", name := "fails", desc := "(IIZ)V" } : Jvm.MethodName) ({ cls := "HouseThreads2", name := "fails", desc := "(IIZ)V" } : Jvm.MethodName)) ∈ wd_TB := wd_at 358 (by decide +kernel) (by decide +kernel)
theorem cd_H_fails : (Jvm.Cond.code ({ cls := "HouseThreads2", name := "fails", desc := "(IIZ)V" } : Jvm.MethodName) prog_1_method_4_code (5 : Nat) (Option.none : Option Jvm.ClassFile.FieldType)) ∈ wd_TB := wd_at 359 (by decide +kernel) (by decide +kernel)
theorem ml_L_85 : (Jvm.Cond.methodLink "HouseThreads2Law" (85 : Nat) ({ cls := "HouseThreads2Law", name := "turn", desc := "(LHouseThreads2;I[J)I" } : Jvm.MethodName)) ∈ wd_TB := wd_at 361 (by decide +kernel) (by decide +kernel)
theorem ss_L_turn : (Jvm.Cond.static ({ cls := "HouseThreads2Law", name := "turn", desc := "(LHouseThreads2;I[J)I" } : Jvm.MethodName)) ∈ wd_TB := wd_at 362 (by decide +kernel) (by decide +kernel)
theorem cw_L_turn : (Jvm.Cond.codeWith ({ cls := "HouseThreads2Law", name := "turn", desc := "(LHouseThreads2;I[J)I" } : Jvm.MethodName) method_6_code (4 : Nat) (Option.some Jvm.ClassFile.FieldType.int) [((0 : Nat), (9 : Nat), (12 : Nat), (21 : Nat)), ((0 : Nat), (9 : Nat), (15 : Nat), (23 : Nat))]) ∈ wd_TB := wd_at 363 (by decide +kernel) (by decide +kernel)
theorem ml_L_29 : (Jvm.Cond.methodLink "HouseThreads2Law" (29 : Nat) ({ cls := "HouseThreads2", name := "turn", desc := "(I)I" } : Jvm.MethodName)) ∈ wd_TB := wd_at 364 (by decide +kernel) (by decide +kernel)
theorem im_H_turn : (Jvm.Cond.instanceMethod ({ cls := "HouseThreads2", name := "turn", desc := "(I)I" } : Jvm.MethodName)) ∈ wd_TB := wd_at 365 (by decide +kernel) (by decide +kernel)
theorem sl_H_turn : (Jvm.Cond.selects "HouseThreads2" ({ cls := "HouseThreads2", name := "turn", desc := "(I)I" } : Jvm.MethodName) ({ cls := "HouseThreads2", name := "turn", desc := "(I)I" } : Jvm.MethodName)) ∈ wd_TB := wd_at 366 (by decide +kernel) (by decide +kernel)
theorem cd_H_turn : (Jvm.Cond.code ({ cls := "HouseThreads2", name := "turn", desc := "(I)I" } : Jvm.MethodName) prog_1_method_6_code (3 : Nat) (Option.some Jvm.ClassFile.FieldType.int)) ∈ wd_TB := wd_at 367 (by decide +kernel) (by decide +kernel)
theorem ml_H_93 : (Jvm.Cond.methodLink "HouseThreads2" (93 : Nat) ({ cls := "HouseThreads2$Part", name := "mayHaveTurn", desc := "()Z" } : Jvm.MethodName)) ∈ wd_TB := wd_at 368 (by decide +kernel) (by decide +kernel)
theorem im_P_mayHaveTurn : (Jvm.Cond.instanceMethod ({ cls := "HouseThreads2$Part", name := "mayHaveTurn", desc := "()Z" } : Jvm.MethodName)) ∈ wd_TB := wd_at 369 (by decide +kernel) (by decide +kernel)
theorem sl_P_mayHaveTurn : (Jvm.Cond.selects "HouseThreads2$Part" ({ cls := "HouseThreads2$Part", name := "mayHaveTurn", desc := "()Z" } : Jvm.MethodName) ({ cls := "HouseThreads2$Part", name := "mayHaveTurn", desc := "()Z" } : Jvm.MethodName)) ∈ wd_TB := wd_at 370 (by decide +kernel) (by decide +kernel)
theorem cd_P_mayHaveTurn : (Jvm.Cond.code ({ cls := "HouseThreads2$Part", name := "mayHaveTurn", desc := "()Z" } : Jvm.MethodName) prog_2_method_3_code (1 : Nat) (Option.some Jvm.ClassFile.FieldType.boolean)) ∈ wd_TB := wd_at 371 (by decide +kernel) (by decide +kernel)
theorem ml_H_99 : (Jvm.Cond.methodLink "HouseThreads2" (99 : Nat) ({ cls := "HouseThreads2", name := "takeTurn", desc := "(LHouseThreads2$Part;)V" } : Jvm.MethodName)) ∈ wd_TB := wd_at 373 (by decide +kernel) (by decide +kernel)
theorem im_H_takeTurn : (Jvm.Cond.instanceMethod ({ cls := "HouseThreads2", name := "takeTurn", desc := "(LHouseThreads2$Part;)V" } : Jvm.MethodName)) ∈ wd_TB := wd_at 375 (by decide +kernel) (by decide +kernel)
theorem cd_H_takeTurn : (Jvm.Cond.code ({ cls := "HouseThreads2", name := "takeTurn", desc := "(LHouseThreads2$Part;)V" } : Jvm.MethodName) prog_1_method_23_code (2 : Nat) (Option.none : Option Jvm.ClassFile.FieldType)) ∈ wd_TB := wd_at 376 (by decide +kernel) (by decide +kernel)
theorem ml_H_183 : (Jvm.Cond.methodLink "HouseThreads2" (183 : Nat) ({ cls := "HouseThreads2", name := "finish", desc := "(LHouseThreads2$Part;)V" } : Jvm.MethodName)) ∈ wd_TB := wd_at 377 (by decide +kernel) (by decide +kernel)
theorem im_H_finish : (Jvm.Cond.instanceMethod ({ cls := "HouseThreads2", name := "finish", desc := "(LHouseThreads2$Part;)V" } : Jvm.MethodName)) ∈ wd_TB := wd_at 379 (by decide +kernel) (by decide +kernel)
theorem cd_H_finish : (Jvm.Cond.code ({ cls := "HouseThreads2", name := "finish", desc := "(LHouseThreads2$Part;)V" } : Jvm.MethodName) prog_1_method_29_code (2 : Nat) (Option.none : Option Jvm.ClassFile.FieldType)) ∈ wd_TB := wd_at 380 (by decide +kernel) (by decide +kernel)
theorem ml_H_189 : (Jvm.Cond.methodLink "HouseThreads2" (189 : Nat) ({ cls := "HouseThreads2", name := "tryChange", desc := "(LHouseThreads2$Part;)V" } : Jvm.MethodName)) ∈ wd_TB := wd_at 381 (by decide +kernel) (by decide +kernel)
theorem im_H_tryChange : (Jvm.Cond.instanceMethod ({ cls := "HouseThreads2", name := "tryChange", desc := "(LHouseThreads2$Part;)V" } : Jvm.MethodName)) ∈ wd_TB := wd_at 383 (by decide +kernel) (by decide +kernel)
theorem cd_H_tryChange : (Jvm.Cond.code ({ cls := "HouseThreads2", name := "tryChange", desc := "(LHouseThreads2$Part;)V" } : Jvm.MethodName) prog_1_method_24_code (3 : Nat) (Option.none : Option Jvm.ClassFile.FieldType)) ∈ wd_TB := wd_at 384 (by decide +kernel) (by decide +kernel)
theorem ml_H_201 : (Jvm.Cond.methodLink "HouseThreads2" (201 : Nat) ({ cls := "HouseThreads2", name := "getsPlace", desc := "(LHouseThreads2$Part;I)Z" } : Jvm.MethodName)) ∈ wd_TB := wd_at 385 (by decide +kernel) (by decide +kernel)
theorem im_H_getsPlace : (Jvm.Cond.instanceMethod ({ cls := "HouseThreads2", name := "getsPlace", desc := "(LHouseThreads2$Part;I)Z" } : Jvm.MethodName)) ∈ wd_TB := wd_at 387 (by decide +kernel) (by decide +kernel)
theorem cd_H_getsPlace : (Jvm.Cond.code ({ cls := "HouseThreads2", name := "getsPlace", desc := "(LHouseThreads2$Part;I)Z" } : Jvm.MethodName) prog_1_method_27_code (4 : Nat) (Option.some Jvm.ClassFile.FieldType.boolean)) ∈ wd_TB := wd_at 388 (by decide +kernel) (by decide +kernel)
theorem ml_H_225 : (Jvm.Cond.methodLink "HouseThreads2" (225 : Nat) ({ cls := "HouseThreads2", name := "breakRing", desc := "(LHouseThreads2$Part;)V" } : Jvm.MethodName)) ∈ wd_TB := wd_at 389 (by decide +kernel) (by decide +kernel)
theorem im_H_breakRing : (Jvm.Cond.instanceMethod ({ cls := "HouseThreads2", name := "breakRing", desc := "(LHouseThreads2$Part;)V" } : Jvm.MethodName)) ∈ wd_TB := wd_at 391 (by decide +kernel) (by decide +kernel)
theorem cd_H_breakRing : (Jvm.Cond.code ({ cls := "HouseThreads2", name := "breakRing", desc := "(LHouseThreads2$Part;)V" } : Jvm.MethodName) prog_1_method_30_code (6 : Nat) (Option.none : Option Jvm.ClassFile.FieldType)) ∈ wd_TB := wd_at 392 (by decide +kernel) (by decide +kernel)
theorem ml_H_231 : (Jvm.Cond.methodLink "HouseThreads2" (231 : Nat) ({ cls := "HouseThreads2", name := "partInTheWayOf", desc := "(LHouseThreads2$Part;)I" } : Jvm.MethodName)) ∈ wd_TB := wd_at 393 (by decide +kernel) (by decide +kernel)
theorem im_H_partInTheWayOf : (Jvm.Cond.instanceMethod ({ cls := "HouseThreads2", name := "partInTheWayOf", desc := "(LHouseThreads2$Part;)I" } : Jvm.MethodName)) ∈ wd_TB := wd_at 395 (by decide +kernel) (by decide +kernel)
theorem cd_H_partInTheWayOf : (Jvm.Cond.code ({ cls := "HouseThreads2", name := "partInTheWayOf", desc := "(LHouseThreads2$Part;)I" } : Jvm.MethodName) prog_1_method_31_code (3 : Nat) (Option.some Jvm.ClassFile.FieldType.int)) ∈ wd_TB := wd_at 396 (by decide +kernel) (by decide +kernel)
theorem ml_H_145 : (Jvm.Cond.methodLink "HouseThreads2" (145 : Nat) ({ cls := "HouseThreads2$Part", name := "awaitedPlace", desc := "()I" } : Jvm.MethodName)) ∈ wd_TB := wd_at 397 (by decide +kernel) (by decide +kernel)
theorem im_P_awaitedPlace : (Jvm.Cond.instanceMethod ({ cls := "HouseThreads2$Part", name := "awaitedPlace", desc := "()I" } : Jvm.MethodName)) ∈ wd_TB := wd_at 398 (by decide +kernel) (by decide +kernel)
theorem sl_P_awaitedPlace : (Jvm.Cond.selects "HouseThreads2$Part" ({ cls := "HouseThreads2$Part", name := "awaitedPlace", desc := "()I" } : Jvm.MethodName) ({ cls := "HouseThreads2$Part", name := "awaitedPlace", desc := "()I" } : Jvm.MethodName)) ∈ wd_TB := wd_at 399 (by decide +kernel) (by decide +kernel)
theorem cd_P_awaitedPlace : (Jvm.Cond.code ({ cls := "HouseThreads2$Part", name := "awaitedPlace", desc := "()I" } : Jvm.MethodName) prog_2_method_4_code (1 : Nat) (Option.some Jvm.ClassFile.FieldType.int)) ∈ wd_TB := wd_at 400 (by decide +kernel) (by decide +kernel)
theorem ml_H_234 : (Jvm.Cond.methodLink "HouseThreads2" (234 : Nat) ({ cls := "HouseThreads2$Part", name := "yieldsBefore", desc := "(LHouseThreads2$Part;)Z" } : Jvm.MethodName)) ∈ wd_TB := wd_at 401 (by decide +kernel) (by decide +kernel)
theorem im_P_yieldsBefore : (Jvm.Cond.instanceMethod ({ cls := "HouseThreads2$Part", name := "yieldsBefore", desc := "(LHouseThreads2$Part;)Z" } : Jvm.MethodName)) ∈ wd_TB := wd_at 402 (by decide +kernel) (by decide +kernel)
theorem sl_P_yieldsBefore : (Jvm.Cond.selects "HouseThreads2$Part" ({ cls := "HouseThreads2$Part", name := "yieldsBefore", desc := "(LHouseThreads2$Part;)Z" } : Jvm.MethodName) ({ cls := "HouseThreads2$Part", name := "yieldsBefore", desc := "(LHouseThreads2$Part;)Z" } : Jvm.MethodName)) ∈ wd_TB := wd_at 403 (by decide +kernel) (by decide +kernel)
theorem cd_P_yieldsBefore : (Jvm.Cond.code ({ cls := "HouseThreads2$Part", name := "yieldsBefore", desc := "(LHouseThreads2$Part;)Z" } : Jvm.MethodName) prog_2_method_5_code (2 : Nat) (Option.some Jvm.ClassFile.FieldType.boolean)) ∈ wd_TB := wd_at 404 (by decide +kernel) (by decide +kernel)
theorem ml_H_208 : (Jvm.Cond.methodLink "HouseThreads2" (208 : Nat) ({ cls := "HouseThreads2", name := "stepIsDone", desc := "(LHouseThreads2$Part;)V" } : Jvm.MethodName)) ∈ wd_TB := wd_at 405 (by decide +kernel) (by decide +kernel)
theorem im_H_stepIsDone : (Jvm.Cond.instanceMethod ({ cls := "HouseThreads2", name := "stepIsDone", desc := "(LHouseThreads2$Part;)V" } : Jvm.MethodName)) ∈ wd_TB := wd_at 407 (by decide +kernel) (by decide +kernel)
theorem cd_H_stepIsDone : (Jvm.Cond.code ({ cls := "HouseThreads2", name := "stepIsDone", desc := "(LHouseThreads2$Part;)V" } : Jvm.MethodName) prog_1_method_28_code (2 : Nat) (Option.none : Option Jvm.ClassFile.FieldType)) ∈ wd_TB := wd_at 408 (by decide +kernel) (by decide +kernel)
theorem ml_H_192 : (Jvm.Cond.methodLink "HouseThreads2" (192 : Nat) ({ cls := "HouseThreads2", name := "trySend", desc := "(LHouseThreads2$Part;)V" } : Jvm.MethodName)) ∈ wd_TB := wd_at 409 (by decide +kernel) (by decide +kernel)
theorem im_H_trySend : (Jvm.Cond.instanceMethod ({ cls := "HouseThreads2", name := "trySend", desc := "(LHouseThreads2$Part;)V" } : Jvm.MethodName)) ∈ wd_TB := wd_at 411 (by decide +kernel) (by decide +kernel)
theorem cd_H_trySend : (Jvm.Cond.code ({ cls := "HouseThreads2", name := "trySend", desc := "(LHouseThreads2$Part;)V" } : Jvm.MethodName) prog_1_method_25_code (3 : Nat) (Option.none : Option Jvm.ClassFile.FieldType)) ∈ wd_TB := wd_at 412 (by decide +kernel) (by decide +kernel)
theorem ml_H_214 : (Jvm.Cond.methodLink "HouseThreads2" (214 : Nat) ({ cls := "HouseThreads2$Post", name := "add", desc := "(IIIZ)I" } : Jvm.MethodName)) ∈ wd_TB := wd_at 413 (by decide +kernel) (by decide +kernel)
theorem im_Q_add : (Jvm.Cond.instanceMethod ({ cls := "HouseThreads2$Post", name := "add", desc := "(IIIZ)I" } : Jvm.MethodName)) ∈ wd_TB := wd_at 414 (by decide +kernel) (by decide +kernel)
theorem sl_Q_add : (Jvm.Cond.selects "HouseThreads2$Post" ({ cls := "HouseThreads2$Post", name := "add", desc := "(IIIZ)I" } : Jvm.MethodName) ({ cls := "HouseThreads2$Post", name := "add", desc := "(IIIZ)I" } : Jvm.MethodName)) ∈ wd_TB := wd_at 415 (by decide +kernel) (by decide +kernel)
theorem cd_Q_add : (Jvm.Cond.code ({ cls := "HouseThreads2$Post", name := "add", desc := "(IIIZ)I" } : Jvm.MethodName) prog_3_method_2_code (5 : Nat) (Option.some Jvm.ClassFile.FieldType.int)) ∈ wd_TB := wd_at 416 (by decide +kernel) (by decide +kernel)
theorem ml_H_195 : (Jvm.Cond.methodLink "HouseThreads2" (195 : Nat) ({ cls := "HouseThreads2", name := "tryHear", desc := "(LHouseThreads2$Part;)V" } : Jvm.MethodName)) ∈ wd_TB := wd_at 417 (by decide +kernel) (by decide +kernel)
theorem im_H_tryHear : (Jvm.Cond.instanceMethod ({ cls := "HouseThreads2", name := "tryHear", desc := "(LHouseThreads2$Part;)V" } : Jvm.MethodName)) ∈ wd_TB := wd_at 419 (by decide +kernel) (by decide +kernel)
theorem cd_H_tryHear : (Jvm.Cond.code ({ cls := "HouseThreads2", name := "tryHear", desc := "(LHouseThreads2$Part;)V" } : Jvm.MethodName) prog_1_method_26_code (4 : Nat) (Option.none : Option Jvm.ClassFile.FieldType)) ∈ wd_TB := wd_at 420 (by decide +kernel) (by decide +kernel)
theorem ml_H_221 : (Jvm.Cond.methodLink "HouseThreads2" (221 : Nat) ({ cls := "HouseThreads2$Post", name := "firstOnItsWayTo", desc := "(I)I" } : Jvm.MethodName)) ∈ wd_TB := wd_at 421 (by decide +kernel) (by decide +kernel)
theorem im_Q_firstOnItsWayTo : (Jvm.Cond.instanceMethod ({ cls := "HouseThreads2$Post", name := "firstOnItsWayTo", desc := "(I)I" } : Jvm.MethodName)) ∈ wd_TB := wd_at 422 (by decide +kernel) (by decide +kernel)
theorem sl_Q_firstOnItsWayTo : (Jvm.Cond.selects "HouseThreads2$Post" ({ cls := "HouseThreads2$Post", name := "firstOnItsWayTo", desc := "(I)I" } : Jvm.MethodName) ({ cls := "HouseThreads2$Post", name := "firstOnItsWayTo", desc := "(I)I" } : Jvm.MethodName)) ∈ wd_TB := wd_at 423 (by decide +kernel) (by decide +kernel)
theorem cd_Q_firstOnItsWayTo : (Jvm.Cond.code ({ cls := "HouseThreads2$Post", name := "firstOnItsWayTo", desc := "(I)I" } : Jvm.MethodName) prog_3_method_3_code (3 : Nat) (Option.some Jvm.ClassFile.FieldType.int)) ∈ wd_TB := wd_at 424 (by decide +kernel) (by decide +kernel)
theorem ml_L_88 : (Jvm.Cond.methodLink "HouseThreads2Law" (88 : Nat) ({ cls := "HouseThreads2Law", name := "run", desc := "(LHouseThreads2;I[J)I" } : Jvm.MethodName)) ∈ wd_TB := wd_at 425 (by decide +kernel) (by decide +kernel)
theorem ss_L_run : (Jvm.Cond.static ({ cls := "HouseThreads2Law", name := "run", desc := "(LHouseThreads2;I[J)I" } : Jvm.MethodName)) ∈ wd_TB := wd_at 426 (by decide +kernel) (by decide +kernel)
theorem cw_L_run : (Jvm.Cond.codeWith ({ cls := "HouseThreads2Law", name := "run", desc := "(LHouseThreads2;I[J)I" } : Jvm.MethodName) method_7_code (4 : Nat) (Option.some Jvm.ClassFile.FieldType.int) [((0 : Nat), (9 : Nat), (12 : Nat), (13 : Nat))]) ∈ wd_TB := wd_at 427 (by decide +kernel) (by decide +kernel)
theorem ml_L_32 : (Jvm.Cond.methodLink "HouseThreads2Law" (32 : Nat) ({ cls := "HouseThreads2", name := "run", desc := "(I)I" } : Jvm.MethodName)) ∈ wd_TB := wd_at 428 (by decide +kernel) (by decide +kernel)
theorem im_H_run : (Jvm.Cond.instanceMethod ({ cls := "HouseThreads2", name := "run", desc := "(I)I" } : Jvm.MethodName)) ∈ wd_TB := wd_at 429 (by decide +kernel) (by decide +kernel)
theorem sl_H_run : (Jvm.Cond.selects "HouseThreads2" ({ cls := "HouseThreads2", name := "run", desc := "(I)I" } : Jvm.MethodName) ({ cls := "HouseThreads2", name := "run", desc := "(I)I" } : Jvm.MethodName)) ∈ wd_TB := wd_at 430 (by decide +kernel) (by decide +kernel)
theorem cd_H_run : (Jvm.Cond.code ({ cls := "HouseThreads2", name := "run", desc := "(I)I" } : Jvm.MethodName) prog_1_method_7_code (5 : Nat) (Option.some Jvm.ClassFile.FieldType.int)) ∈ wd_TB := wd_at 431 (by decide +kernel) (by decide +kernel)
theorem ml_L_91 : (Jvm.Cond.methodLink "HouseThreads2Law" (91 : Nat) ({ cls := "HouseThreads2Law", name := "again", desc := "(LHouseThreads2;I[J)I" } : Jvm.MethodName)) ∈ wd_TB := wd_at 433 (by decide +kernel) (by decide +kernel)
theorem ss_L_again : (Jvm.Cond.static ({ cls := "HouseThreads2Law", name := "again", desc := "(LHouseThreads2;I[J)I" } : Jvm.MethodName)) ∈ wd_TB := wd_at 434 (by decide +kernel) (by decide +kernel)
theorem cw_L_again : (Jvm.Cond.codeWith ({ cls := "HouseThreads2Law", name := "again", desc := "(LHouseThreads2;I[J)I" } : Jvm.MethodName) method_8_code (4 : Nat) (Option.some Jvm.ClassFile.FieldType.int) [((0 : Nat), (9 : Nat), (12 : Nat), (21 : Nat)), ((0 : Nat), (9 : Nat), (15 : Nat), (23 : Nat))]) ∈ wd_TB := wd_at 435 (by decide +kernel) (by decide +kernel)
theorem ml_L_35 : (Jvm.Cond.methodLink "HouseThreads2Law" (35 : Nat) ({ cls := "HouseThreads2", name := "again", desc := "(I)I" } : Jvm.MethodName)) ∈ wd_TB := wd_at 436 (by decide +kernel) (by decide +kernel)
theorem im_H_again : (Jvm.Cond.instanceMethod ({ cls := "HouseThreads2", name := "again", desc := "(I)I" } : Jvm.MethodName)) ∈ wd_TB := wd_at 437 (by decide +kernel) (by decide +kernel)
theorem sl_H_again : (Jvm.Cond.selects "HouseThreads2" ({ cls := "HouseThreads2", name := "again", desc := "(I)I" } : Jvm.MethodName) ({ cls := "HouseThreads2", name := "again", desc := "(I)I" } : Jvm.MethodName)) ∈ wd_TB := wd_at 438 (by decide +kernel) (by decide +kernel)
theorem cd_H_again : (Jvm.Cond.code ({ cls := "HouseThreads2", name := "again", desc := "(I)I" } : Jvm.MethodName) prog_1_method_8_code (2 : Nat) (Option.some Jvm.ClassFile.FieldType.int)) ∈ wd_TB := wd_at 439 (by decide +kernel) (by decide +kernel)
theorem ml_H_108 : (Jvm.Cond.methodLink "HouseThreads2" (108 : Nat) ({ cls := "HouseThreads2", name := "checkMessage", desc := "(I)V" } : Jvm.MethodName)) ∈ wd_TB := wd_at 440 (by decide +kernel) (by decide +kernel)
theorem im_H_checkMessage : (Jvm.Cond.instanceMethod ({ cls := "HouseThreads2", name := "checkMessage", desc := "(I)V" } : Jvm.MethodName)) ∈ wd_TB := wd_at 442 (by decide +kernel) (by decide +kernel)
theorem cd_H_checkMessage : (Jvm.Cond.code ({ cls := "HouseThreads2", name := "checkMessage", desc := "(I)V" } : Jvm.MethodName) prog_1_method_18_code (2 : Nat) (Option.none : Option Jvm.ClassFile.FieldType)) ∈ wd_TB := wd_at 443 (by decide +kernel) (by decide +kernel)
theorem ml_L_94 : (Jvm.Cond.methodLink "HouseThreads2Law" (94 : Nat) ({ cls := "HouseThreads2Law", name := "interrupt", desc := "(LHouseThreads2;I[J)I" } : Jvm.MethodName)) ∈ wd_TB := wd_at 446 (by decide +kernel) (by decide +kernel)
theorem ss_L_interrupt : (Jvm.Cond.static ({ cls := "HouseThreads2Law", name := "interrupt", desc := "(LHouseThreads2;I[J)I" } : Jvm.MethodName)) ∈ wd_TB := wd_at 447 (by decide +kernel) (by decide +kernel)
theorem cw_L_interrupt : (Jvm.Cond.codeWith ({ cls := "HouseThreads2Law", name := "interrupt", desc := "(LHouseThreads2;I[J)I" } : Jvm.MethodName) method_9_code (4 : Nat) (Option.some Jvm.ClassFile.FieldType.int) [((0 : Nat), (9 : Nat), (12 : Nat), (21 : Nat)), ((0 : Nat), (9 : Nat), (15 : Nat), (23 : Nat))]) ∈ wd_TB := wd_at 448 (by decide +kernel) (by decide +kernel)
theorem ml_L_38 : (Jvm.Cond.methodLink "HouseThreads2Law" (38 : Nat) ({ cls := "HouseThreads2", name := "interrupt", desc := "(I)I" } : Jvm.MethodName)) ∈ wd_TB := wd_at 449 (by decide +kernel) (by decide +kernel)
theorem im_H_interrupt : (Jvm.Cond.instanceMethod ({ cls := "HouseThreads2", name := "interrupt", desc := "(I)I" } : Jvm.MethodName)) ∈ wd_TB := wd_at 450 (by decide +kernel) (by decide +kernel)
theorem sl_H_interrupt : (Jvm.Cond.selects "HouseThreads2" ({ cls := "HouseThreads2", name := "interrupt", desc := "(I)I" } : Jvm.MethodName) ({ cls := "HouseThreads2", name := "interrupt", desc := "(I)I" } : Jvm.MethodName)) ∈ wd_TB := wd_at 451 (by decide +kernel) (by decide +kernel)
theorem cd_H_interrupt : (Jvm.Cond.code ({ cls := "HouseThreads2", name := "interrupt", desc := "(I)I" } : Jvm.MethodName) prog_1_method_9_code (3 : Nat) (Option.some Jvm.ClassFile.FieldType.int)) ∈ wd_TB := wd_at 452 (by decide +kernel) (by decide +kernel)
theorem ml_L_97 : (Jvm.Cond.methodLink "HouseThreads2Law" (97 : Nat) ({ cls := "HouseThreads2Law", name := "restart", desc := "(LHouseThreads2;I)I" } : Jvm.MethodName)) ∈ wd_TB := wd_at 454 (by decide +kernel) (by decide +kernel)
theorem ss_L_restart : (Jvm.Cond.static ({ cls := "HouseThreads2Law", name := "restart", desc := "(LHouseThreads2;I)I" } : Jvm.MethodName)) ∈ wd_TB := wd_at 455 (by decide +kernel) (by decide +kernel)
theorem cw_L_restart : (Jvm.Cond.codeWith ({ cls := "HouseThreads2Law", name := "restart", desc := "(LHouseThreads2;I)I" } : Jvm.MethodName) method_10_code (3 : Nat) (Option.some Jvm.ClassFile.FieldType.int) [((0 : Nat), (5 : Nat), (8 : Nat), (21 : Nat)), ((0 : Nat), (5 : Nat), (11 : Nat), (23 : Nat))]) ∈ wd_TB := wd_at 456 (by decide +kernel) (by decide +kernel)
theorem ml_L_41 : (Jvm.Cond.methodLink "HouseThreads2Law" (41 : Nat) ({ cls := "HouseThreads2", name := "restart", desc := "(I)V" } : Jvm.MethodName)) ∈ wd_TB := wd_at 457 (by decide +kernel) (by decide +kernel)
theorem im_H_restart : (Jvm.Cond.instanceMethod ({ cls := "HouseThreads2", name := "restart", desc := "(I)V" } : Jvm.MethodName)) ∈ wd_TB := wd_at 458 (by decide +kernel) (by decide +kernel)
theorem sl_H_restart : (Jvm.Cond.selects "HouseThreads2" ({ cls := "HouseThreads2", name := "restart", desc := "(I)V" } : Jvm.MethodName) ({ cls := "HouseThreads2", name := "restart", desc := "(I)V" } : Jvm.MethodName)) ∈ wd_TB := wd_at 459 (by decide +kernel) (by decide +kernel)
theorem cd_H_restart : (Jvm.Cond.code ({ cls := "HouseThreads2", name := "restart", desc := "(I)V" } : Jvm.MethodName) prog_1_method_10_code (3 : Nat) (Option.none : Option Jvm.ClassFile.FieldType)) ∈ wd_TB := wd_at 460 (by decide +kernel) (by decide +kernel)
theorem ml_L_105 : (Jvm.Cond.methodLink "HouseThreads2Law" (105 : Nat) ({ cls := "HouseThreads2Law", name := "log", desc := "(LHouseThreads2;I[J)I" } : Jvm.MethodName)) ∈ wd_TB := wd_at 462 (by decide +kernel) (by decide +kernel)
theorem ss_L_log : (Jvm.Cond.static ({ cls := "HouseThreads2Law", name := "log", desc := "(LHouseThreads2;I[J)I" } : Jvm.MethodName)) ∈ wd_TB := wd_at 463 (by decide +kernel) (by decide +kernel)
theorem cw_L_log : (Jvm.Cond.codeWith ({ cls := "HouseThreads2Law", name := "log", desc := "(LHouseThreads2;I[J)I" } : Jvm.MethodName) method_11_code (4 : Nat) (Option.some Jvm.ClassFile.FieldType.int) [((0 : Nat), (9 : Nat), (12 : Nat), (13 : Nat))]) ∈ wd_TB := wd_at 464 (by decide +kernel) (by decide +kernel)
theorem ml_L_45 : (Jvm.Cond.methodLink "HouseThreads2Law" (45 : Nat) ({ cls := "HouseThreads2", name := "log", desc := "(I)I" } : Jvm.MethodName)) ∈ wd_TB := wd_at 465 (by decide +kernel) (by decide +kernel)
theorem im_H_log : (Jvm.Cond.instanceMethod ({ cls := "HouseThreads2", name := "log", desc := "(I)I" } : Jvm.MethodName)) ∈ wd_TB := wd_at 466 (by decide +kernel) (by decide +kernel)
theorem sl_H_log : (Jvm.Cond.selects "HouseThreads2" ({ cls := "HouseThreads2", name := "log", desc := "(I)I" } : Jvm.MethodName) ({ cls := "HouseThreads2", name := "log", desc := "(I)I" } : Jvm.MethodName)) ∈ wd_TB := wd_at 467 (by decide +kernel) (by decide +kernel)
theorem cd_H_log : (Jvm.Cond.code ({ cls := "HouseThreads2", name := "log", desc := "(I)I" } : Jvm.MethodName) prog_1_method_12_code (2 : Nat) (Option.some Jvm.ClassFile.FieldType.int)) ∈ wd_TB := wd_at 468 (by decide +kernel) (by decide +kernel)
theorem ml_L_108 : (Jvm.Cond.methodLink "HouseThreads2Law" (108 : Nat) ({ cls := "HouseThreads2Law", name := "place", desc := "(LHouseThreads2;II[J)I" } : Jvm.MethodName)) ∈ wd_TB := wd_at 470 (by decide +kernel) (by decide +kernel)
theorem ss_L_place : (Jvm.Cond.static ({ cls := "HouseThreads2Law", name := "place", desc := "(LHouseThreads2;II[J)I" } : Jvm.MethodName)) ∈ wd_TB := wd_at 471 (by decide +kernel) (by decide +kernel)
theorem cw_L_place : (Jvm.Cond.codeWith ({ cls := "HouseThreads2Law", name := "place", desc := "(LHouseThreads2;II[J)I" } : Jvm.MethodName) method_12_code (5 : Nat) (Option.some Jvm.ClassFile.FieldType.int) [((0 : Nat), (10 : Nat), (13 : Nat), (13 : Nat))]) ∈ wd_TB := wd_at 472 (by decide +kernel) (by decide +kernel)
theorem ml_L_48 : (Jvm.Cond.methodLink "HouseThreads2Law" (48 : Nat) ({ cls := "HouseThreads2", name := "place", desc := "(II)I" } : Jvm.MethodName)) ∈ wd_TB := wd_at 473 (by decide +kernel) (by decide +kernel)
theorem im_H_place : (Jvm.Cond.instanceMethod ({ cls := "HouseThreads2", name := "place", desc := "(II)I" } : Jvm.MethodName)) ∈ wd_TB := wd_at 474 (by decide +kernel) (by decide +kernel)
theorem sl_H_place : (Jvm.Cond.selects "HouseThreads2" ({ cls := "HouseThreads2", name := "place", desc := "(II)I" } : Jvm.MethodName) ({ cls := "HouseThreads2", name := "place", desc := "(II)I" } : Jvm.MethodName)) ∈ wd_TB := wd_at 475 (by decide +kernel) (by decide +kernel)
theorem cd_H_place : (Jvm.Cond.code ({ cls := "HouseThreads2", name := "place", desc := "(II)I" } : Jvm.MethodName) prog_1_method_13_code (3 : Nat) (Option.some Jvm.ClassFile.FieldType.int)) ∈ wd_TB := wd_at 476 (by decide +kernel) (by decide +kernel)
theorem ml_L_112 : (Jvm.Cond.methodLink "HouseThreads2Law" (112 : Nat) ({ cls := "HouseThreads2Law", name := "message", desc := "(LHouseThreads2;II[J)I" } : Jvm.MethodName)) ∈ wd_TB := wd_at 478 (by decide +kernel) (by decide +kernel)
theorem ss_L_message : (Jvm.Cond.static ({ cls := "HouseThreads2Law", name := "message", desc := "(LHouseThreads2;II[J)I" } : Jvm.MethodName)) ∈ wd_TB := wd_at 479 (by decide +kernel) (by decide +kernel)
theorem cw_L_message : (Jvm.Cond.codeWith ({ cls := "HouseThreads2Law", name := "message", desc := "(LHouseThreads2;II[J)I" } : Jvm.MethodName) method_13_code (5 : Nat) (Option.some Jvm.ClassFile.FieldType.int) [((0 : Nat), (10 : Nat), (13 : Nat), (21 : Nat)), ((0 : Nat), (10 : Nat), (17 : Nat), (13 : Nat))]) ∈ wd_TB := wd_at 480 (by decide +kernel) (by decide +kernel)
theorem ml_L_52 : (Jvm.Cond.methodLink "HouseThreads2Law" (52 : Nat) ({ cls := "HouseThreads2", name := "message", desc := "(II)I" } : Jvm.MethodName)) ∈ wd_TB := wd_at 481 (by decide +kernel) (by decide +kernel)
theorem im_H_message : (Jvm.Cond.instanceMethod ({ cls := "HouseThreads2", name := "message", desc := "(II)I" } : Jvm.MethodName)) ∈ wd_TB := wd_at 482 (by decide +kernel) (by decide +kernel)
theorem sl_H_message : (Jvm.Cond.selects "HouseThreads2" ({ cls := "HouseThreads2", name := "message", desc := "(II)I" } : Jvm.MethodName) ({ cls := "HouseThreads2", name := "message", desc := "(II)I" } : Jvm.MethodName)) ∈ wd_TB := wd_at 483 (by decide +kernel) (by decide +kernel)
theorem cd_H_message : (Jvm.Cond.code ({ cls := "HouseThreads2", name := "message", desc := "(II)I" } : Jvm.MethodName) prog_1_method_14_code (3 : Nat) (Option.some Jvm.ClassFile.FieldType.int)) ∈ wd_TB := wd_at 484 (by decide +kernel) (by decide +kernel)
theorem ml_L_115 : (Jvm.Cond.methodLink "HouseThreads2Law" (115 : Nat) ({ cls := "HouseThreads2Law", name := "told", desc := "(LHouseThreads2;II[J)I" } : Jvm.MethodName)) ∈ wd_TB := wd_at 486 (by decide +kernel) (by decide +kernel)
theorem ss_L_told : (Jvm.Cond.static ({ cls := "HouseThreads2Law", name := "told", desc := "(LHouseThreads2;II[J)I" } : Jvm.MethodName)) ∈ wd_TB := wd_at 487 (by decide +kernel) (by decide +kernel)
theorem cw_L_told : (Jvm.Cond.codeWith ({ cls := "HouseThreads2Law", name := "told", desc := "(LHouseThreads2;II[J)I" } : Jvm.MethodName) method_14_code (5 : Nat) (Option.some Jvm.ClassFile.FieldType.int) [((0 : Nat), (10 : Nat), (13 : Nat), (21 : Nat)), ((0 : Nat), (10 : Nat), (17 : Nat), (13 : Nat))]) ∈ wd_TB := wd_at 488 (by decide +kernel) (by decide +kernel)
theorem ml_L_55 : (Jvm.Cond.methodLink "HouseThreads2Law" (55 : Nat) ({ cls := "HouseThreads2", name := "told", desc := "(II)I" } : Jvm.MethodName)) ∈ wd_TB := wd_at 489 (by decide +kernel) (by decide +kernel)
theorem im_H_told : (Jvm.Cond.instanceMethod ({ cls := "HouseThreads2", name := "told", desc := "(II)I" } : Jvm.MethodName)) ∈ wd_TB := wd_at 490 (by decide +kernel) (by decide +kernel)
theorem sl_H_told : (Jvm.Cond.selects "HouseThreads2" ({ cls := "HouseThreads2", name := "told", desc := "(II)I" } : Jvm.MethodName) ({ cls := "HouseThreads2", name := "told", desc := "(II)I" } : Jvm.MethodName)) ∈ wd_TB := wd_at 491 (by decide +kernel) (by decide +kernel)
theorem cd_H_told : (Jvm.Cond.code ({ cls := "HouseThreads2", name := "told", desc := "(II)I" } : Jvm.MethodName) prog_1_method_15_code (4 : Nat) (Option.some Jvm.ClassFile.FieldType.int)) ∈ wd_TB := wd_at 492 (by decide +kernel) (by decide +kernel)
theorem ml_H_149 : (Jvm.Cond.methodLink "HouseThreads2" (149 : Nat) ({ cls := "HouseThreads2", name := "heldPlaces", desc := "(LHouseThreads2$Part;)I" } : Jvm.MethodName)) ∈ wd_TB := wd_at 493 (by decide +kernel) (by decide +kernel)
theorem im_H_heldPlaces : (Jvm.Cond.instanceMethod ({ cls := "HouseThreads2", name := "heldPlaces", desc := "(LHouseThreads2$Part;)I" } : Jvm.MethodName)) ∈ wd_TB := wd_at 495 (by decide +kernel) (by decide +kernel)
theorem cd_H_heldPlaces : (Jvm.Cond.code ({ cls := "HouseThreads2", name := "heldPlaces", desc := "(LHouseThreads2$Part;)I" } : Jvm.MethodName) prog_1_method_35_code (4 : Nat) (Option.some Jvm.ClassFile.FieldType.int)) ∈ wd_TB := wd_at 496 (by decide +kernel) (by decide +kernel)
theorem cl_L_59 : (Jvm.Cond.classLink "HouseThreads2Law" (59 : Nat) "HouseThreads2Model") ∈ wd_TB := wd_at 498 (by decide +kernel) (by decide +kernel)
theorem ib_M : (Jvm.Cond.instantiable "HouseThreads2Model" (24 : Nat)) ∈ wd_TB := wd_at 499 (by decide +kernel) (by decide +kernel)
theorem ml_L_61 : (Jvm.Cond.methodLink "HouseThreads2Law" (61 : Nat) ({ cls := "HouseThreads2Model", name := "<init>", desc := "()V" } : Jvm.MethodName)) ∈ wd_TB := wd_at 500 (by decide +kernel) (by decide +kernel)
theorem im_M_init : (Jvm.Cond.instanceMethod ({ cls := "HouseThreads2Model", name := "<init>", desc := "()V" } : Jvm.MethodName)) ∈ wd_TB := wd_at 501 (by decide +kernel) (by decide +kernel)
theorem cd_M_init : (Jvm.Cond.code ({ cls := "HouseThreads2Model", name := "<init>", desc := "()V" } : Jvm.MethodName) prog_5_method_1_code (2 : Nat) (Option.none : Option Jvm.ClassFile.FieldType)) ∈ wd_TB := wd_at 502 (by decide +kernel) (by decide +kernel)
theorem ml_M_1 : (Jvm.Cond.methodLink "HouseThreads2Model" (1 : Nat) ({ cls := "java/lang/Object", name := "<init>", desc := "()V" } : Jvm.MethodName)) ∈ wd_TB := wd_at 503 (by decide +kernel) (by decide +kernel)
theorem fl_M_65 : (Jvm.Cond.fieldLink "HouseThreads2Model" (65 : Nat) "HouseThreads2Model" "code" "I") ∈ wd_TB := wd_at 504 (by decide +kernel) (by decide +kernel)
theorem fl_M_7 : (Jvm.Cond.fieldLink "HouseThreads2Model" (7 : Nat) "HouseThreads2Model" "value" "[I") ∈ wd_TB := wd_at 505 (by decide +kernel) (by decide +kernel)
theorem fl_M_13 : (Jvm.Cond.fieldLink "HouseThreads2Model" (13 : Nat) "HouseThreads2Model" "holder" "[I") ∈ wd_TB := wd_at 506 (by decide +kernel) (by decide +kernel)
theorem fl_M_69 : (Jvm.Cond.fieldLink "HouseThreads2Model" (69 : Nat) "HouseThreads2Model" "parts" "I") ∈ wd_TB := wd_at 507 (by decide +kernel) (by decide +kernel)
theorem fl_M_16 : (Jvm.Cond.fieldLink "HouseThreads2Model" (16 : Nat) "HouseThreads2Model" "rank" "[I") ∈ wd_TB := wd_at 508 (by decide +kernel) (by decide +kernel)
theorem fl_M_19 : (Jvm.Cond.fieldLink "HouseThreads2Model" (19 : Nat) "HouseThreads2Model" "state" "[I") ∈ wd_TB := wd_at 509 (by decide +kernel) (by decide +kernel)
theorem fl_M_22 : (Jvm.Cond.fieldLink "HouseThreads2Model" (22 : Nat) "HouseThreads2Model" "size" "[I") ∈ wd_TB := wd_at 510 (by decide +kernel) (by decide +kernel)
theorem fl_M_25 : (Jvm.Cond.fieldLink "HouseThreads2Model" (25 : Nat) "HouseThreads2Model" "at" "[I") ∈ wd_TB := wd_at 511 (by decide +kernel) (by decide +kernel)
theorem fl_M_28 : (Jvm.Cond.fieldLink "HouseThreads2Model" (28 : Nat) "HouseThreads2Model" "waits" "[I") ∈ wd_TB := wd_at 512 (by decide +kernel) (by decide +kernel)
theorem fl_M_31 : (Jvm.Cond.fieldLink "HouseThreads2Model" (31 : Nat) "HouseThreads2Model" "undone" "[I") ∈ wd_TB := wd_at 513 (by decide +kernel) (by decide +kernel)
theorem fl_M_34 : (Jvm.Cond.fieldLink "HouseThreads2Model" (34 : Nat) "HouseThreads2Model" "kind" "[I") ∈ wd_TB := wd_at 514 (by decide +kernel) (by decide +kernel)
theorem fl_M_37 : (Jvm.Cond.fieldLink "HouseThreads2Model" (37 : Nat) "HouseThreads2Model" "first" "[I") ∈ wd_TB := wd_at 515 (by decide +kernel) (by decide +kernel)
theorem fl_M_40 : (Jvm.Cond.fieldLink "HouseThreads2Model" (40 : Nat) "HouseThreads2Model" "second" "[I") ∈ wd_TB := wd_at 516 (by decide +kernel) (by decide +kernel)
theorem fl_M_43 : (Jvm.Cond.fieldLink "HouseThreads2Model" (43 : Nat) "HouseThreads2Model" "fails" "[Z") ∈ wd_TB := wd_at 517 (by decide +kernel) (by decide +kernel)
theorem fl_M_47 : (Jvm.Cond.fieldLink "HouseThreads2Model" (47 : Nat) "HouseThreads2Model" "about" "[I") ∈ wd_TB := wd_at 518 (by decide +kernel) (by decide +kernel)
theorem fl_M_76 : (Jvm.Cond.fieldLink "HouseThreads2Model" (76 : Nat) "HouseThreads2Model" "messages" "I") ∈ wd_TB := wd_at 519 (by decide +kernel) (by decide +kernel)
theorem fl_M_86 : (Jvm.Cond.fieldLink "HouseThreads2Model" (86 : Nat) "HouseThreads2Model" "losing" "Z") ∈ wd_TB := wd_at 520 (by decide +kernel) (by decide +kernel)
theorem fl_M_50 : (Jvm.Cond.fieldLink "HouseThreads2Model" (50 : Nat) "HouseThreads2Model" "fate" "[I") ∈ wd_TB := wd_at 521 (by decide +kernel) (by decide +kernel)
theorem fl_M_53 : (Jvm.Cond.fieldLink "HouseThreads2Model" (53 : Nat) "HouseThreads2Model" "from" "[I") ∈ wd_TB := wd_at 522 (by decide +kernel) (by decide +kernel)
theorem fl_M_56 : (Jvm.Cond.fieldLink "HouseThreads2Model" (56 : Nat) "HouseThreads2Model" "to" "[I") ∈ wd_TB := wd_at 523 (by decide +kernel) (by decide +kernel)
theorem fl_M_59 : (Jvm.Cond.fieldLink "HouseThreads2Model" (59 : Nat) "HouseThreads2Model" "says" "[I") ∈ wd_TB := wd_at 524 (by decide +kernel) (by decide +kernel)
theorem fl_M_104 : (Jvm.Cond.fieldLink "HouseThreads2Model" (104 : Nat) "HouseThreads2Model" "steps" "I") ∈ wd_TB := wd_at 525 (by decide +kernel) (by decide +kernel)
theorem fl_M_98 : (Jvm.Cond.fieldLink "HouseThreads2Model" (98 : Nat) "HouseThreads2Model" "aborted" "I") ∈ wd_TB := wd_at 526 (by decide +kernel) (by decide +kernel)
theorem fl_M_62 : (Jvm.Cond.fieldLink "HouseThreads2Model" (62 : Nat) "HouseThreads2Model" "logged" "[I") ∈ wd_TB := wd_at 527 (by decide +kernel) (by decide +kernel)
theorem ml_L_68 : (Jvm.Cond.methodLink "HouseThreads2Law" (68 : Nat) ({ cls := "HouseThreads2Model", name := "thrown", desc := "()I" } : Jvm.MethodName)) ∈ wd_TB := wd_at 577 (by decide +kernel) (by decide +kernel)
theorem im_M_thrown : (Jvm.Cond.instanceMethod ({ cls := "HouseThreads2Model", name := "thrown", desc := "()I" } : Jvm.MethodName)) ∈ wd_TB := wd_at 578 (by decide +kernel) (by decide +kernel)
theorem sl_M_thrown : (Jvm.Cond.selects "HouseThreads2Model" ({ cls := "HouseThreads2Model", name := "thrown", desc := "()I" } : Jvm.MethodName) ({ cls := "HouseThreads2Model", name := "thrown", desc := "()I" } : Jvm.MethodName)) ∈ wd_TB := wd_at 579 (by decide +kernel) (by decide +kernel)
theorem cd_M_thrown : (Jvm.Cond.code ({ cls := "HouseThreads2Model", name := "thrown", desc := "()I" } : Jvm.MethodName) prog_5_method_2_code (1 : Nat) (Option.some Jvm.ClassFile.FieldType.int)) ∈ wd_TB := wd_at 580 (by decide +kernel) (by decide +kernel)
theorem ml_L_67 : (Jvm.Cond.methodLink "HouseThreads2Law" (67 : Nat) ({ cls := "HouseThreads2Model", name := "part", desc := "(I)I" } : Jvm.MethodName)) ∈ wd_TB := wd_at 581 (by decide +kernel) (by decide +kernel)
theorem im_M_part : (Jvm.Cond.instanceMethod ({ cls := "HouseThreads2Model", name := "part", desc := "(I)I" } : Jvm.MethodName)) ∈ wd_TB := wd_at 582 (by decide +kernel) (by decide +kernel)
theorem sl_M_part : (Jvm.Cond.selects "HouseThreads2Model" ({ cls := "HouseThreads2Model", name := "part", desc := "(I)I" } : Jvm.MethodName) ({ cls := "HouseThreads2Model", name := "part", desc := "(I)I" } : Jvm.MethodName)) ∈ wd_TB := wd_at 583 (by decide +kernel) (by decide +kernel)
theorem cd_M_part : (Jvm.Cond.code ({ cls := "HouseThreads2Model", name := "part", desc := "(I)I" } : Jvm.MethodName) prog_5_method_6_code (2 : Nat) (Option.some Jvm.ClassFile.FieldType.int)) ∈ wd_TB := wd_at 584 (by decide +kernel) (by decide +kernel)
theorem ml_M_72 : (Jvm.Cond.methodLink "HouseThreads2Model" (72 : Nat) ({ cls := "HouseThreads2Model", name := "in", desc := "(III)Z" } : Jvm.MethodName)) ∈ wd_TB := wd_at 585 (by decide +kernel) (by decide +kernel)
theorem ss_M_in : (Jvm.Cond.static ({ cls := "HouseThreads2Model", name := "in", desc := "(III)Z" } : Jvm.MethodName)) ∈ wd_TB := wd_at 586 (by decide +kernel) (by decide +kernel)
theorem cd_M_in : (Jvm.Cond.code ({ cls := "HouseThreads2Model", name := "in", desc := "(III)Z" } : Jvm.MethodName) prog_5_method_3_code (3 : Nat) (Option.some Jvm.ClassFile.FieldType.boolean)) ∈ wd_TB := wd_at 587 (by decide +kernel) (by decide +kernel)
theorem ml_L_75 : (Jvm.Cond.methodLink "HouseThreads2Law" (75 : Nat) ({ cls := "HouseThreads2Model", name := "step", desc := "(IIII)I" } : Jvm.MethodName)) ∈ wd_TB := wd_at 588 (by decide +kernel) (by decide +kernel)
theorem im_M_step : (Jvm.Cond.instanceMethod ({ cls := "HouseThreads2Model", name := "step", desc := "(IIII)I" } : Jvm.MethodName)) ∈ wd_TB := wd_at 589 (by decide +kernel) (by decide +kernel)
theorem sl_M_step : (Jvm.Cond.selects "HouseThreads2Model" ({ cls := "HouseThreads2Model", name := "step", desc := "(IIII)I" } : Jvm.MethodName) ({ cls := "HouseThreads2Model", name := "step", desc := "(IIII)I" } : Jvm.MethodName)) ∈ wd_TB := wd_at 590 (by decide +kernel) (by decide +kernel)
theorem cd_M_step : (Jvm.Cond.code ({ cls := "HouseThreads2Model", name := "step", desc := "(IIII)I" } : Jvm.MethodName) prog_5_method_8_code (6 : Nat) (Option.some Jvm.ClassFile.FieldType.int)) ∈ wd_TB := wd_at 591 (by decide +kernel) (by decide +kernel)
theorem ml_M_79 : (Jvm.Cond.methodLink "HouseThreads2Model" (79 : Nat) ({ cls := "HouseThreads2Model", name := "isPart", desc := "(I)Z" } : Jvm.MethodName)) ∈ wd_TB := wd_at 592 (by decide +kernel) (by decide +kernel)
theorem im_M_isPart : (Jvm.Cond.instanceMethod ({ cls := "HouseThreads2Model", name := "isPart", desc := "(I)Z" } : Jvm.MethodName)) ∈ wd_TB := wd_at 594 (by decide +kernel) (by decide +kernel)
theorem cd_M_isPart : (Jvm.Cond.code ({ cls := "HouseThreads2Model", name := "isPart", desc := "(I)Z" } : Jvm.MethodName) prog_5_method_4_code (2 : Nat) (Option.some Jvm.ClassFile.FieldType.boolean)) ∈ wd_TB := wd_at 595 (by decide +kernel) (by decide +kernel)
theorem ml_M_83 : (Jvm.Cond.methodLink "HouseThreads2Model" (83 : Nat) ({ cls := "HouseThreads2Model", name := "isStep", desc := "(III)Z" } : Jvm.MethodName)) ∈ wd_TB := wd_at 596 (by decide +kernel) (by decide +kernel)
theorem im_M_isStep : (Jvm.Cond.instanceMethod ({ cls := "HouseThreads2Model", name := "isStep", desc := "(III)Z" } : Jvm.MethodName)) ∈ wd_TB := wd_at 598 (by decide +kernel) (by decide +kernel)
theorem cd_M_isStep : (Jvm.Cond.code ({ cls := "HouseThreads2Model", name := "isStep", desc := "(III)Z" } : Jvm.MethodName) prog_5_method_7_code (4 : Nat) (Option.some Jvm.ClassFile.FieldType.boolean)) ∈ wd_TB := wd_at 599 (by decide +kernel) (by decide +kernel)
theorem ml_L_79 : (Jvm.Cond.methodLink "HouseThreads2Law" (79 : Nat) ({ cls := "HouseThreads2Model", name := "fails", desc := "(IIZ)V" } : Jvm.MethodName)) ∈ wd_TB := wd_at 600 (by decide +kernel) (by decide +kernel)
theorem im_M_fails : (Jvm.Cond.instanceMethod ({ cls := "HouseThreads2Model", name := "fails", desc := "(IIZ)V" } : Jvm.MethodName)) ∈ wd_TB := wd_at 601 (by decide +kernel) (by decide +kernel)
theorem sl_M_fails : (Jvm.Cond.selects "HouseThreads2Model" ({ cls := "HouseThreads2Model", name := "fails", desc := "(IIZ)V" } : Jvm.MethodName) ({ cls := "HouseThreads2Model", name := "fails", desc := "(IIZ)V" } : Jvm.MethodName)) ∈ wd_TB := wd_at 602 (by decide +kernel) (by decide +kernel)
theorem cd_M_fails : (Jvm.Cond.code ({ cls := "HouseThreads2Model", name := "fails", desc := "(IIZ)V" } : Jvm.MethodName) prog_5_method_9_code (4 : Nat) (Option.none : Option Jvm.ClassFile.FieldType)) ∈ wd_TB := wd_at 603 (by decide +kernel) (by decide +kernel)
theorem ml_L_84 : (Jvm.Cond.methodLink "HouseThreads2Law" (84 : Nat) ({ cls := "HouseThreads2Model", name := "losing", desc := "(Z)V" } : Jvm.MethodName)) ∈ wd_TB := wd_at 604 (by decide +kernel) (by decide +kernel)
theorem im_M_losing : (Jvm.Cond.instanceMethod ({ cls := "HouseThreads2Model", name := "losing", desc := "(Z)V" } : Jvm.MethodName)) ∈ wd_TB := wd_at 605 (by decide +kernel) (by decide +kernel)
theorem sl_M_losing : (Jvm.Cond.selects "HouseThreads2Model" ({ cls := "HouseThreads2Model", name := "losing", desc := "(Z)V" } : Jvm.MethodName) ({ cls := "HouseThreads2Model", name := "losing", desc := "(Z)V" } : Jvm.MethodName)) ∈ wd_TB := wd_at 606 (by decide +kernel) (by decide +kernel)
theorem cd_M_losing : (Jvm.Cond.code ({ cls := "HouseThreads2Model", name := "losing", desc := "(Z)V" } : Jvm.MethodName) prog_5_method_10_code (2 : Nat) (Option.none : Option Jvm.ClassFile.FieldType)) ∈ wd_TB := wd_at 607 (by decide +kernel) (by decide +kernel)
theorem ml_L_87 : (Jvm.Cond.methodLink "HouseThreads2Law" (87 : Nat) ({ cls := "HouseThreads2Model", name := "turn", desc := "(I)I" } : Jvm.MethodName)) ∈ wd_TB := wd_at 608 (by decide +kernel) (by decide +kernel)
theorem im_M_turn : (Jvm.Cond.instanceMethod ({ cls := "HouseThreads2Model", name := "turn", desc := "(I)I" } : Jvm.MethodName)) ∈ wd_TB := wd_at 609 (by decide +kernel) (by decide +kernel)
theorem sl_M_turn : (Jvm.Cond.selects "HouseThreads2Model" ({ cls := "HouseThreads2Model", name := "turn", desc := "(I)I" } : Jvm.MethodName) ({ cls := "HouseThreads2Model", name := "turn", desc := "(I)I" } : Jvm.MethodName)) ∈ wd_TB := wd_at 610 (by decide +kernel) (by decide +kernel)
theorem cd_M_turn : (Jvm.Cond.code ({ cls := "HouseThreads2Model", name := "turn", desc := "(I)I" } : Jvm.MethodName) prog_5_method_20_code (2 : Nat) (Option.some Jvm.ClassFile.FieldType.int)) ∈ wd_TB := wd_at 611 (by decide +kernel) (by decide +kernel)
theorem ml_M_123 : (Jvm.Cond.methodLink "HouseThreads2Model" (123 : Nat) ({ cls := "HouseThreads2Model", name := "haveTurn", desc := "(I)V" } : Jvm.MethodName)) ∈ wd_TB := wd_at 612 (by decide +kernel) (by decide +kernel)
theorem im_M_haveTurn : (Jvm.Cond.instanceMethod ({ cls := "HouseThreads2Model", name := "haveTurn", desc := "(I)V" } : Jvm.MethodName)) ∈ wd_TB := wd_at 614 (by decide +kernel) (by decide +kernel)
theorem cd_M_haveTurn : (Jvm.Cond.code ({ cls := "HouseThreads2Model", name := "haveTurn", desc := "(I)V" } : Jvm.MethodName) prog_5_method_19_code (2 : Nat) (Option.none : Option Jvm.ClassFile.FieldType)) ∈ wd_TB := wd_at 615 (by decide +kernel) (by decide +kernel)
theorem ml_M_120 : (Jvm.Cond.methodLink "HouseThreads2Model" (120 : Nat) ({ cls := "HouseThreads2Model", name := "tryStep", desc := "(I)V" } : Jvm.MethodName)) ∈ wd_TB := wd_at 616 (by decide +kernel) (by decide +kernel)
theorem im_M_tryStep : (Jvm.Cond.instanceMethod ({ cls := "HouseThreads2Model", name := "tryStep", desc := "(I)V" } : Jvm.MethodName)) ∈ wd_TB := wd_at 618 (by decide +kernel) (by decide +kernel)
theorem cd_M_tryStep : (Jvm.Cond.code ({ cls := "HouseThreads2Model", name := "tryStep", desc := "(I)V" } : Jvm.MethodName) prog_5_method_18_code (3 : Nat) (Option.none : Option Jvm.ClassFile.FieldType)) ∈ wd_TB := wd_at 619 (by decide +kernel) (by decide +kernel)
theorem ml_M_94 : (Jvm.Cond.methodLink "HouseThreads2Model" (94 : Nat) ({ cls := "HouseThreads2Model", name := "undo", desc := "(II)V" } : Jvm.MethodName)) ∈ wd_TB := wd_at 620 (by decide +kernel) (by decide +kernel)
theorem im_M_undo : (Jvm.Cond.instanceMethod ({ cls := "HouseThreads2Model", name := "undo", desc := "(II)V" } : Jvm.MethodName)) ∈ wd_TB := wd_at 622 (by decide +kernel) (by decide +kernel)
theorem cd_M_undo : (Jvm.Cond.code ({ cls := "HouseThreads2Model", name := "undo", desc := "(II)V" } : Jvm.MethodName) prog_5_method_12_code (6 : Nat) (Option.none : Option Jvm.ClassFile.FieldType)) ∈ wd_TB := wd_at 623 (by decide +kernel) (by decide +kernel)
theorem ml_M_90 : (Jvm.Cond.methodLink "HouseThreads2Model" (90 : Nat) ({ cls := "HouseThreads2Model", name := "release", desc := "(I)V" } : Jvm.MethodName)) ∈ wd_TB := wd_at 624 (by decide +kernel) (by decide +kernel)
theorem im_M_release : (Jvm.Cond.instanceMethod ({ cls := "HouseThreads2Model", name := "release", desc := "(I)V" } : Jvm.MethodName)) ∈ wd_TB := wd_at 626 (by decide +kernel) (by decide +kernel)
theorem cd_M_release : (Jvm.Cond.code ({ cls := "HouseThreads2Model", name := "release", desc := "(I)V" } : Jvm.MethodName) prog_5_method_11_code (3 : Nat) (Option.none : Option Jvm.ClassFile.FieldType)) ∈ wd_TB := wd_at 627 (by decide +kernel) (by decide +kernel)
theorem ml_M_110 : (Jvm.Cond.methodLink "HouseThreads2Model" (110 : Nat) ({ cls := "HouseThreads2Model", name := "send", desc := "(II)V" } : Jvm.MethodName)) ∈ wd_TB := wd_at 628 (by decide +kernel) (by decide +kernel)
theorem im_M_send : (Jvm.Cond.instanceMethod ({ cls := "HouseThreads2Model", name := "send", desc := "(II)V" } : Jvm.MethodName)) ∈ wd_TB := wd_at 630 (by decide +kernel) (by decide +kernel)
theorem cd_M_send : (Jvm.Cond.code ({ cls := "HouseThreads2Model", name := "send", desc := "(II)V" } : Jvm.MethodName) prog_5_method_16_code (3 : Nat) (Option.none : Option Jvm.ClassFile.FieldType)) ∈ wd_TB := wd_at 631 (by decide +kernel) (by decide +kernel)
theorem ml_M_107 : (Jvm.Cond.methodLink "HouseThreads2Model" (107 : Nat) ({ cls := "HouseThreads2Model", name := "wasDone", desc := "(I)V" } : Jvm.MethodName)) ∈ wd_TB := wd_at 632 (by decide +kernel) (by decide +kernel)
theorem im_M_wasDone : (Jvm.Cond.instanceMethod ({ cls := "HouseThreads2Model", name := "wasDone", desc := "(I)V" } : Jvm.MethodName)) ∈ wd_TB := wd_at 634 (by decide +kernel) (by decide +kernel)
theorem cd_M_wasDone : (Jvm.Cond.code ({ cls := "HouseThreads2Model", name := "wasDone", desc := "(I)V" } : Jvm.MethodName) prog_5_method_15_code (2 : Nat) (Option.none : Option Jvm.ClassFile.FieldType)) ∈ wd_TB := wd_at 635 (by decide +kernel) (by decide +kernel)
theorem ml_M_113 : (Jvm.Cond.methodLink "HouseThreads2Model" (113 : Nat) ({ cls := "HouseThreads2Model", name := "takes", desc := "(II)Z" } : Jvm.MethodName)) ∈ wd_TB := wd_at 636 (by decide +kernel) (by decide +kernel)
theorem im_M_takes : (Jvm.Cond.instanceMethod ({ cls := "HouseThreads2Model", name := "takes", desc := "(II)Z" } : Jvm.MethodName)) ∈ wd_TB := wd_at 638 (by decide +kernel) (by decide +kernel)
theorem cd_M_takes : (Jvm.Cond.code ({ cls := "HouseThreads2Model", name := "takes", desc := "(II)Z" } : Jvm.MethodName) prog_5_method_14_code (3 : Nat) (Option.some Jvm.ClassFile.FieldType.boolean)) ∈ wd_TB := wd_at 639 (by decide +kernel) (by decide +kernel)
theorem ml_M_101 : (Jvm.Cond.methodLink "HouseThreads2Model" (101 : Nat) ({ cls := "HouseThreads2Model", name := "breakRing", desc := "(I)V" } : Jvm.MethodName)) ∈ wd_TB := wd_at 640 (by decide +kernel) (by decide +kernel)
theorem im_M_breakRing : (Jvm.Cond.instanceMethod ({ cls := "HouseThreads2Model", name := "breakRing", desc := "(I)V" } : Jvm.MethodName)) ∈ wd_TB := wd_at 642 (by decide +kernel) (by decide +kernel)
theorem cd_M_breakRing : (Jvm.Cond.code ({ cls := "HouseThreads2Model", name := "breakRing", desc := "(I)V" } : Jvm.MethodName) prog_5_method_13_code (5 : Nat) (Option.none : Option Jvm.ClassFile.FieldType)) ∈ wd_TB := wd_at 643 (by decide +kernel) (by decide +kernel)
theorem ml_M_117 : (Jvm.Cond.methodLink "HouseThreads2Model" (117 : Nat) ({ cls := "HouseThreads2Model", name := "hear", desc := "(II)V" } : Jvm.MethodName)) ∈ wd_TB := wd_at 644 (by decide +kernel) (by decide +kernel)
theorem im_M_hear : (Jvm.Cond.instanceMethod ({ cls := "HouseThreads2Model", name := "hear", desc := "(II)V" } : Jvm.MethodName)) ∈ wd_TB := wd_at 646 (by decide +kernel) (by decide +kernel)
theorem cd_M_hear : (Jvm.Cond.code ({ cls := "HouseThreads2Model", name := "hear", desc := "(II)V" } : Jvm.MethodName) prog_5_method_17_code (4 : Nat) (Option.none : Option Jvm.ClassFile.FieldType)) ∈ wd_TB := wd_at 647 (by decide +kernel) (by decide +kernel)
theorem ml_L_90 : (Jvm.Cond.methodLink "HouseThreads2Law" (90 : Nat) ({ cls := "HouseThreads2Model", name := "run", desc := "(I)I" } : Jvm.MethodName)) ∈ wd_TB := wd_at 648 (by decide +kernel) (by decide +kernel)
theorem im_M_run : (Jvm.Cond.instanceMethod ({ cls := "HouseThreads2Model", name := "run", desc := "(I)I" } : Jvm.MethodName)) ∈ wd_TB := wd_at 649 (by decide +kernel) (by decide +kernel)
theorem sl_M_run : (Jvm.Cond.selects "HouseThreads2Model" ({ cls := "HouseThreads2Model", name := "run", desc := "(I)I" } : Jvm.MethodName) ({ cls := "HouseThreads2Model", name := "run", desc := "(I)I" } : Jvm.MethodName)) ∈ wd_TB := wd_at 650 (by decide +kernel) (by decide +kernel)
theorem cd_M_run : (Jvm.Cond.code ({ cls := "HouseThreads2Model", name := "run", desc := "(I)I" } : Jvm.MethodName) prog_5_method_21_code (5 : Nat) (Option.some Jvm.ClassFile.FieldType.int)) ∈ wd_TB := wd_at 651 (by decide +kernel) (by decide +kernel)
theorem ml_L_93 : (Jvm.Cond.methodLink "HouseThreads2Law" (93 : Nat) ({ cls := "HouseThreads2Model", name := "again", desc := "(I)I" } : Jvm.MethodName)) ∈ wd_TB := wd_at 652 (by decide +kernel) (by decide +kernel)
theorem im_M_again : (Jvm.Cond.instanceMethod ({ cls := "HouseThreads2Model", name := "again", desc := "(I)I" } : Jvm.MethodName)) ∈ wd_TB := wd_at 653 (by decide +kernel) (by decide +kernel)
theorem sl_M_again : (Jvm.Cond.selects "HouseThreads2Model" ({ cls := "HouseThreads2Model", name := "again", desc := "(I)I" } : Jvm.MethodName) ({ cls := "HouseThreads2Model", name := "again", desc := "(I)I" } : Jvm.MethodName)) ∈ wd_TB := wd_at 654 (by decide +kernel) (by decide +kernel)
theorem cd_M_again : (Jvm.Cond.code ({ cls := "HouseThreads2Model", name := "again", desc := "(I)I" } : Jvm.MethodName) prog_5_method_22_code (2 : Nat) (Option.some Jvm.ClassFile.FieldType.int)) ∈ wd_TB := wd_at 655 (by decide +kernel) (by decide +kernel)
theorem ml_M_126 : (Jvm.Cond.methodLink "HouseThreads2Model" (126 : Nat) ({ cls := "HouseThreads2Model", name := "isMessage", desc := "(I)Z" } : Jvm.MethodName)) ∈ wd_TB := wd_at 656 (by decide +kernel) (by decide +kernel)
theorem im_M_isMessage : (Jvm.Cond.instanceMethod ({ cls := "HouseThreads2Model", name := "isMessage", desc := "(I)Z" } : Jvm.MethodName)) ∈ wd_TB := wd_at 658 (by decide +kernel) (by decide +kernel)
theorem cd_M_isMessage : (Jvm.Cond.code ({ cls := "HouseThreads2Model", name := "isMessage", desc := "(I)Z" } : Jvm.MethodName) prog_5_method_5_code (2 : Nat) (Option.some Jvm.ClassFile.FieldType.boolean)) ∈ wd_TB := wd_at 659 (by decide +kernel) (by decide +kernel)
theorem ml_L_96 : (Jvm.Cond.methodLink "HouseThreads2Law" (96 : Nat) ({ cls := "HouseThreads2Model", name := "interrupt", desc := "(I)I" } : Jvm.MethodName)) ∈ wd_TB := wd_at 660 (by decide +kernel) (by decide +kernel)
theorem im_M_interrupt : (Jvm.Cond.instanceMethod ({ cls := "HouseThreads2Model", name := "interrupt", desc := "(I)I" } : Jvm.MethodName)) ∈ wd_TB := wd_at 661 (by decide +kernel) (by decide +kernel)
theorem sl_M_interrupt : (Jvm.Cond.selects "HouseThreads2Model" ({ cls := "HouseThreads2Model", name := "interrupt", desc := "(I)I" } : Jvm.MethodName) ({ cls := "HouseThreads2Model", name := "interrupt", desc := "(I)I" } : Jvm.MethodName)) ∈ wd_TB := wd_at 662 (by decide +kernel) (by decide +kernel)
theorem cd_M_interrupt : (Jvm.Cond.code ({ cls := "HouseThreads2Model", name := "interrupt", desc := "(I)I" } : Jvm.MethodName) prog_5_method_23_code (3 : Nat) (Option.some Jvm.ClassFile.FieldType.int)) ∈ wd_TB := wd_at 663 (by decide +kernel) (by decide +kernel)
theorem ml_L_100 : (Jvm.Cond.methodLink "HouseThreads2Law" (100 : Nat) ({ cls := "HouseThreads2Model", name := "restart", desc := "(I)V" } : Jvm.MethodName)) ∈ wd_TB := wd_at 664 (by decide +kernel) (by decide +kernel)
theorem im_M_restart : (Jvm.Cond.instanceMethod ({ cls := "HouseThreads2Model", name := "restart", desc := "(I)V" } : Jvm.MethodName)) ∈ wd_TB := wd_at 665 (by decide +kernel) (by decide +kernel)
theorem sl_M_restart : (Jvm.Cond.selects "HouseThreads2Model" ({ cls := "HouseThreads2Model", name := "restart", desc := "(I)V" } : Jvm.MethodName) ({ cls := "HouseThreads2Model", name := "restart", desc := "(I)V" } : Jvm.MethodName)) ∈ wd_TB := wd_at 666 (by decide +kernel) (by decide +kernel)
theorem cd_M_restart : (Jvm.Cond.code ({ cls := "HouseThreads2Model", name := "restart", desc := "(I)V" } : Jvm.MethodName) prog_5_method_24_code (2 : Nat) (Option.none : Option Jvm.ClassFile.FieldType)) ∈ wd_TB := wd_at 667 (by decide +kernel) (by decide +kernel)
theorem ml_L_104 : (Jvm.Cond.methodLink "HouseThreads2Law" (104 : Nat) ({ cls := "HouseThreads2Model", name := "close", desc := "()I" } : Jvm.MethodName)) ∈ wd_TB := wd_at 668 (by decide +kernel) (by decide +kernel)
theorem im_M_close : (Jvm.Cond.instanceMethod ({ cls := "HouseThreads2Model", name := "close", desc := "()I" } : Jvm.MethodName)) ∈ wd_TB := wd_at 669 (by decide +kernel) (by decide +kernel)
theorem sl_M_close : (Jvm.Cond.selects "HouseThreads2Model" ({ cls := "HouseThreads2Model", name := "close", desc := "()I" } : Jvm.MethodName) ({ cls := "HouseThreads2Model", name := "close", desc := "()I" } : Jvm.MethodName)) ∈ wd_TB := wd_at 670 (by decide +kernel) (by decide +kernel)
theorem cd_M_close : (Jvm.Cond.code ({ cls := "HouseThreads2Model", name := "close", desc := "()I" } : Jvm.MethodName) prog_5_method_25_code (3 : Nat) (Option.some Jvm.ClassFile.FieldType.int)) ∈ wd_TB := wd_at 671 (by decide +kernel) (by decide +kernel)
theorem ml_L_107 : (Jvm.Cond.methodLink "HouseThreads2Law" (107 : Nat) ({ cls := "HouseThreads2Model", name := "log", desc := "(I)I" } : Jvm.MethodName)) ∈ wd_TB := wd_at 672 (by decide +kernel) (by decide +kernel)
theorem im_M_log : (Jvm.Cond.instanceMethod ({ cls := "HouseThreads2Model", name := "log", desc := "(I)I" } : Jvm.MethodName)) ∈ wd_TB := wd_at 673 (by decide +kernel) (by decide +kernel)
theorem sl_M_log : (Jvm.Cond.selects "HouseThreads2Model" ({ cls := "HouseThreads2Model", name := "log", desc := "(I)I" } : Jvm.MethodName) ({ cls := "HouseThreads2Model", name := "log", desc := "(I)I" } : Jvm.MethodName)) ∈ wd_TB := wd_at 674 (by decide +kernel) (by decide +kernel)
theorem cd_M_log : (Jvm.Cond.code ({ cls := "HouseThreads2Model", name := "log", desc := "(I)I" } : Jvm.MethodName) prog_5_method_26_code (2 : Nat) (Option.some Jvm.ClassFile.FieldType.int)) ∈ wd_TB := wd_at 675 (by decide +kernel) (by decide +kernel)
theorem ml_L_111 : (Jvm.Cond.methodLink "HouseThreads2Law" (111 : Nat) ({ cls := "HouseThreads2Model", name := "place", desc := "(II)I" } : Jvm.MethodName)) ∈ wd_TB := wd_at 676 (by decide +kernel) (by decide +kernel)
theorem im_M_place : (Jvm.Cond.instanceMethod ({ cls := "HouseThreads2Model", name := "place", desc := "(II)I" } : Jvm.MethodName)) ∈ wd_TB := wd_at 677 (by decide +kernel) (by decide +kernel)
theorem sl_M_place : (Jvm.Cond.selects "HouseThreads2Model" ({ cls := "HouseThreads2Model", name := "place", desc := "(II)I" } : Jvm.MethodName) ({ cls := "HouseThreads2Model", name := "place", desc := "(II)I" } : Jvm.MethodName)) ∈ wd_TB := wd_at 678 (by decide +kernel) (by decide +kernel)
theorem cd_M_place : (Jvm.Cond.code ({ cls := "HouseThreads2Model", name := "place", desc := "(II)I" } : Jvm.MethodName) prog_5_method_27_code (3 : Nat) (Option.some Jvm.ClassFile.FieldType.int)) ∈ wd_TB := wd_at 679 (by decide +kernel) (by decide +kernel)
theorem ml_L_114 : (Jvm.Cond.methodLink "HouseThreads2Law" (114 : Nat) ({ cls := "HouseThreads2Model", name := "message", desc := "(II)I" } : Jvm.MethodName)) ∈ wd_TB := wd_at 680 (by decide +kernel) (by decide +kernel)
theorem im_M_message : (Jvm.Cond.instanceMethod ({ cls := "HouseThreads2Model", name := "message", desc := "(II)I" } : Jvm.MethodName)) ∈ wd_TB := wd_at 681 (by decide +kernel) (by decide +kernel)
theorem sl_M_message : (Jvm.Cond.selects "HouseThreads2Model" ({ cls := "HouseThreads2Model", name := "message", desc := "(II)I" } : Jvm.MethodName) ({ cls := "HouseThreads2Model", name := "message", desc := "(II)I" } : Jvm.MethodName)) ∈ wd_TB := wd_at 682 (by decide +kernel) (by decide +kernel)
theorem cd_M_message : (Jvm.Cond.code ({ cls := "HouseThreads2Model", name := "message", desc := "(II)I" } : Jvm.MethodName) prog_5_method_28_code (3 : Nat) (Option.some Jvm.ClassFile.FieldType.int)) ∈ wd_TB := wd_at 683 (by decide +kernel) (by decide +kernel)
theorem ml_L_117 : (Jvm.Cond.methodLink "HouseThreads2Law" (117 : Nat) ({ cls := "HouseThreads2Model", name := "told", desc := "(II)I" } : Jvm.MethodName)) ∈ wd_TB := wd_at 684 (by decide +kernel) (by decide +kernel)
theorem im_M_told : (Jvm.Cond.instanceMethod ({ cls := "HouseThreads2Model", name := "told", desc := "(II)I" } : Jvm.MethodName)) ∈ wd_TB := wd_at 685 (by decide +kernel) (by decide +kernel)
theorem sl_M_told : (Jvm.Cond.selects "HouseThreads2Model" ({ cls := "HouseThreads2Model", name := "told", desc := "(II)I" } : Jvm.MethodName) ({ cls := "HouseThreads2Model", name := "told", desc := "(II)I" } : Jvm.MethodName)) ∈ wd_TB := wd_at 686 (by decide +kernel) (by decide +kernel)
theorem cd_M_told : (Jvm.Cond.code ({ cls := "HouseThreads2Model", name := "told", desc := "(II)I" } : Jvm.MethodName) prog_5_method_29_code (5 : Nat) (Option.some Jvm.ClassFile.FieldType.int)) ∈ wd_TB := wd_at 687 (by decide +kernel) (by decide +kernel)
theorem ml_L_121 : (Jvm.Cond.methodLink "HouseThreads2Law" (121 : Nat) ({ cls := "HouseThreads2Model", name := "count", desc := "(I)I" } : Jvm.MethodName)) ∈ wd_TB := wd_at 688 (by decide +kernel) (by decide +kernel)
theorem im_M_count : (Jvm.Cond.instanceMethod ({ cls := "HouseThreads2Model", name := "count", desc := "(I)I" } : Jvm.MethodName)) ∈ wd_TB := wd_at 689 (by decide +kernel) (by decide +kernel)
theorem sl_M_count : (Jvm.Cond.selects "HouseThreads2Model" ({ cls := "HouseThreads2Model", name := "count", desc := "(I)I" } : Jvm.MethodName) ({ cls := "HouseThreads2Model", name := "count", desc := "(I)I" } : Jvm.MethodName)) ∈ wd_TB := wd_at 690 (by decide +kernel) (by decide +kernel)
theorem cd_M_count : (Jvm.Cond.code ({ cls := "HouseThreads2Model", name := "count", desc := "(I)I" } : Jvm.MethodName) prog_5_method_30_code (4 : Nat) (Option.some Jvm.ClassFile.FieldType.int)) ∈ wd_TB := wd_at 691 (by decide +kernel) (by decide +kernel)
theorem ac_long : (Jvm.Cond.arrayClass Jvm.ClassFile.FieldType.long) ∈ wd_TB := wd_at 692 (by decide +kernel) (by decide +kernel)
def T_P : u_T := fun k => match k with
  | 0 => ("HouseThreads2$Part", "number", "I", true)
  | 1 => ("HouseThreads2$Part", "rank", "I", false)
  | 2 => ("HouseThreads2$Part", "state", "I", false)
  | 3 => ("HouseThreads2$Part", "at", "I", false)
  | 4 => ("HouseThreads2$Part", "length", "I", false)
  | 5 => ("HouseThreads2$Part", "timesUndone", "I", false)
  | 6 => ("HouseThreads2$Part", "stepKind", "[I", true)
  | 7 => ("HouseThreads2$Part", "stepA", "[I", true)
  | 8 => ("HouseThreads2$Part", "stepB", "[I", true)
  | 9 => ("HouseThreads2$Part", "stepFails", "[Z", true)
  | _ => ("HouseThreads2$Part", "stepMessage", "[I", true)
def t_P : Nat → FieldType := fun k => match k with
  | 0 => .int
  | 1 => .int
  | 2 => .int
  | 3 => .int
  | 4 => .int
  | 5 => .int
  | 6 => .array .int
  | 7 => .array .int
  | 8 => .array .int
  | 9 => .array .boolean
  | _ => .array .int
theorem nm_P : ∀ a, a < 11 → ∀ b, b < 11 → a ≠ b → (T_P a).2.1 ≠ (T_P b).2.1 := by decide +kernel
theorem ty_P : ∀ k, k < 11 → parseFieldDescriptor (T_P k).2.2.1 = some (t_P k) := by decide +kernel
theorem in_P : ∀ w ∈ u_ws "HouseThreads2$Part" T_P 11, w ∈ wd_TB := by
  have h : u_ws "HouseThreads2$Part" T_P 11 = ([107, 109, 111, 113, 115, 117, 119, 121, 123, 125, 127] : List Nat).filterMap (fun i => lw_tbl[i]?) := by decide +kernel
  have g : (u_ws "HouseThreads2$Part" T_P 11).all wd_g = true := by decide +kernel
  intro w hw
  have hg := List.all_eq_true.mp g w hw
  rw [h] at hw
  obtain ⟨i, -, hi⟩ := List.mem_filterMap.mp hw
  exact wd_at i hi hg
def T_Q : u_T := fun k => match k with
  | 0 => ("HouseThreads2$Post", "state", "[I", true)
  | 1 => ("HouseThreads2$Post", "from", "[I", true)
  | 2 => ("HouseThreads2$Post", "to", "[I", true)
  | 3 => ("HouseThreads2$Post", "value", "[I", true)
  | _ => ("HouseThreads2$Post", "sent", "I", false)
def t_Q : Nat → FieldType := fun k => match k with
  | 0 => .array .int
  | 1 => .array .int
  | 2 => .array .int
  | 3 => .array .int
  | _ => .int
theorem nm_Q : ∀ a, a < 5 → ∀ b, b < 5 → a ≠ b → (T_Q a).2.1 ≠ (T_Q b).2.1 := by decide +kernel
theorem ty_Q : ∀ k, k < 5 → parseFieldDescriptor (T_Q k).2.2.1 = some (t_Q k) := by decide +kernel
theorem in_Q : ∀ w ∈ u_ws "HouseThreads2$Post" T_Q 5, w ∈ wd_TB := by
  have h : u_ws "HouseThreads2$Post" T_Q 5 = ([69, 71, 73, 75, 77] : List Nat).filterMap (fun i => lw_tbl[i]?) := by decide +kernel
  have g : (u_ws "HouseThreads2$Post" T_Q 5).all wd_g = true := by decide +kernel
  intro w hw
  have hg := List.all_eq_true.mp g w hw
  rw [h] at hw
  obtain ⟨i, -, hi⟩ := List.mem_filterMap.mp hw
  exact wd_at i hi hg
def T_H : u_T := fun k => match k with
  | 0 => ("HouseThreads2", "placeValue", "[I", true)
  | 1 => ("HouseThreads2", "placeHolder", "[I", true)
  | 2 => ("HouseThreads2", "parts", "[LHouseThreads2$Part;", true)
  | 3 => ("HouseThreads2", "post", "LHouseThreads2$Post;", true)
  | 4 => ("HouseThreads2", "logged", "[I", true)
  | 5 => ("HouseThreads2", "partCount", "I", false)
  | 6 => ("HouseThreads2", "loggedCount", "I", false)
  | 7 => ("HouseThreads2", "stepsDone", "I", false)
  | 8 => ("HouseThreads2", "abortedCount", "I", false)
  | _ => ("HouseThreads2", "messagesAreLost", "Z", false)
def t_H : Nat → FieldType := fun k => match k with
  | 0 => .array .int
  | 1 => .array .int
  | 2 => .array (.object "HouseThreads2$Part")
  | 3 => .object "HouseThreads2$Post"
  | 4 => .array .int
  | 5 => .int
  | 6 => .int
  | 7 => .int
  | 8 => .int
  | _ => .boolean
theorem nm_H : ∀ a, a < 10 → ∀ b, b < 10 → a ≠ b → (T_H a).2.1 ≠ (T_H b).2.1 := by decide +kernel
theorem ty_H : ∀ k, k < 10 → parseFieldDescriptor (T_H k).2.2.1 = some (t_H k) := by decide +kernel
theorem in_H : ∀ w ∈ u_ws "HouseThreads2" T_H 10, w ∈ wd_TB := by
  have h : u_ws "HouseThreads2" T_H 10 = ([141, 143, 145, 147, 149, 151, 153, 155, 157, 159] : List Nat).filterMap (fun i => lw_tbl[i]?) := by decide +kernel
  have g : (u_ws "HouseThreads2" T_H 10).all wd_g = true := by decide +kernel
  intro w hw
  have hg := List.all_eq_true.mp g w hw
  rw [h] at hw
  obtain ⟨i, -, hi⟩ := List.mem_filterMap.mp hw
  exact wd_at i hi hg
def T_M : u_T := fun k => match k with
  | 0 => ("HouseThreads2Model", "code", "I", false)
  | 1 => ("HouseThreads2Model", "value", "[I", true)
  | 2 => ("HouseThreads2Model", "holder", "[I", true)
  | 3 => ("HouseThreads2Model", "parts", "I", false)
  | 4 => ("HouseThreads2Model", "rank", "[I", true)
  | 5 => ("HouseThreads2Model", "state", "[I", true)
  | 6 => ("HouseThreads2Model", "size", "[I", true)
  | 7 => ("HouseThreads2Model", "at", "[I", true)
  | 8 => ("HouseThreads2Model", "waits", "[I", true)
  | 9 => ("HouseThreads2Model", "undone", "[I", true)
  | 10 => ("HouseThreads2Model", "kind", "[I", true)
  | 11 => ("HouseThreads2Model", "first", "[I", true)
  | 12 => ("HouseThreads2Model", "second", "[I", true)
  | 13 => ("HouseThreads2Model", "fails", "[Z", true)
  | 14 => ("HouseThreads2Model", "about", "[I", true)
  | 15 => ("HouseThreads2Model", "messages", "I", false)
  | 16 => ("HouseThreads2Model", "losing", "Z", false)
  | 17 => ("HouseThreads2Model", "fate", "[I", true)
  | 18 => ("HouseThreads2Model", "from", "[I", true)
  | 19 => ("HouseThreads2Model", "to", "[I", true)
  | 20 => ("HouseThreads2Model", "says", "[I", true)
  | 21 => ("HouseThreads2Model", "steps", "I", false)
  | 22 => ("HouseThreads2Model", "aborted", "I", false)
  | _ => ("HouseThreads2Model", "logged", "[I", true)
def t_M : Nat → FieldType := fun k => match k with
  | 0 => .int
  | 1 => .array .int
  | 2 => .array .int
  | 3 => .int
  | 4 => .array .int
  | 5 => .array .int
  | 6 => .array .int
  | 7 => .array .int
  | 8 => .array .int
  | 9 => .array .int
  | 10 => .array .int
  | 11 => .array .int
  | 12 => .array .int
  | 13 => .array .boolean
  | 14 => .array .int
  | 15 => .int
  | 16 => .boolean
  | 17 => .array .int
  | 18 => .array .int
  | 19 => .array .int
  | 20 => .array .int
  | 21 => .int
  | 22 => .int
  | _ => .array .int
theorem nm_M : ∀ a, a < 24 → ∀ b, b < 24 → a ≠ b → (T_M a).2.1 ≠ (T_M b).2.1 := by decide +kernel
theorem ty_M : ∀ k, k < 24 → parseFieldDescriptor (T_M k).2.2.1 = some (t_M k) := by decide +kernel
theorem in_M : ∀ w ∈ u_ws "HouseThreads2Model" T_M 24, w ∈ wd_TB := by
  have h : u_ws "HouseThreads2Model" T_M 24 = ([528, 530, 532, 534, 536, 538, 540, 542, 544, 546, 548, 550, 552, 554, 556, 558, 560, 562, 564, 566, 568, 570, 572, 574] : List Nat).filterMap (fun i => lw_tbl[i]?) := by decide +kernel
  have g : (u_ws "HouseThreads2Model" T_M 24).all wd_g = true := by decide +kernel
  intro w hw
  have hg := List.all_eq_true.mp g w hw
  rw [h] at hw
  obtain ⟨i, -, hi⟩ := List.mem_filterMap.mp hw
  exact wd_at i hi hg
def y_H_init : MethodName := ⟨"HouseThreads2", "<init>", "()V"⟩
def y_Q_init : MethodName := ⟨"HouseThreads2$Post", "<init>", "()V"⟩
def y_P_init : MethodName := ⟨"HouseThreads2$Part", "<init>", "(I)V"⟩
def y_H_losing : MethodName := ⟨"HouseThreads2", "losing", "(Z)V"⟩
def y_H_close : MethodName := ⟨"HouseThreads2", "close", "()I"⟩
def y_H_undo : MethodName := ⟨"HouseThreads2", "undo", "(LHouseThreads2$Part;I)I"⟩
def y_H_takeBack : MethodName := ⟨"HouseThreads2", "takeBack", "(LHouseThreads2$Part;I)V"⟩
def y_H_freePlaces : MethodName := ⟨"HouseThreads2", "freePlaces", "(LHouseThreads2$Part;)V"⟩
def y_H_count : MethodName := ⟨"HouseThreads2", "count", "(I)I"⟩
def y_H_doneParts : MethodName := ⟨"HouseThreads2", "doneParts", "()I"⟩
def y_Q_onTheirWay : MethodName := ⟨"HouseThreads2$Post", "onTheirWay", "()I"⟩
def y_L_part : MethodName := ⟨"HouseThreads2Law", "part", "(LHouseThreads2;I[J)I"⟩
def y_H_part : MethodName := ⟨"HouseThreads2", "part", "(I)I"⟩
def y_L_step : MethodName := ⟨"HouseThreads2Law", "step", "(LHouseThreads2;IIII[J)I"⟩
def y_H_step : MethodName := ⟨"HouseThreads2", "step", "(IIII)I"⟩
def y_H_existingPart : MethodName := ⟨"HouseThreads2", "existingPart", "(I)LHouseThreads2$Part;"⟩
def y_H_isPart : MethodName := ⟨"HouseThreads2", "isPart", "(I)Z"⟩
def y_H_isStep : MethodName := ⟨"HouseThreads2", "isStep", "(III)Z"⟩
def y_H_isPlace : MethodName := ⟨"HouseThreads2", "isPlace", "(I)Z"⟩
def y_H_isAmount : MethodName := ⟨"HouseThreads2", "isAmount", "(I)Z"⟩
def y_P_append : MethodName := ⟨"HouseThreads2$Part", "append", "(III)Z"⟩
def y_L_fails : MethodName := ⟨"HouseThreads2Law", "fails", "(LHouseThreads2;IIZ)I"⟩
def y_H_fails : MethodName := ⟨"HouseThreads2", "fails", "(IIZ)V"⟩
def y_L_turn : MethodName := ⟨"HouseThreads2Law", "turn", "(LHouseThreads2;I[J)I"⟩
def y_H_turn : MethodName := ⟨"HouseThreads2", "turn", "(I)I"⟩
def y_P_mayHaveTurn : MethodName := ⟨"HouseThreads2$Part", "mayHaveTurn", "()Z"⟩
def y_H_takeTurn : MethodName := ⟨"HouseThreads2", "takeTurn", "(LHouseThreads2$Part;)V"⟩
def y_H_finish : MethodName := ⟨"HouseThreads2", "finish", "(LHouseThreads2$Part;)V"⟩
def y_H_tryChange : MethodName := ⟨"HouseThreads2", "tryChange", "(LHouseThreads2$Part;)V"⟩
def y_H_getsPlace : MethodName := ⟨"HouseThreads2", "getsPlace", "(LHouseThreads2$Part;I)Z"⟩
def y_H_breakRing : MethodName := ⟨"HouseThreads2", "breakRing", "(LHouseThreads2$Part;)V"⟩
def y_H_partInTheWayOf : MethodName := ⟨"HouseThreads2", "partInTheWayOf", "(LHouseThreads2$Part;)I"⟩
def y_P_awaitedPlace : MethodName := ⟨"HouseThreads2$Part", "awaitedPlace", "()I"⟩
def y_P_yieldsBefore : MethodName := ⟨"HouseThreads2$Part", "yieldsBefore", "(LHouseThreads2$Part;)Z"⟩
def y_H_stepIsDone : MethodName := ⟨"HouseThreads2", "stepIsDone", "(LHouseThreads2$Part;)V"⟩
def y_H_trySend : MethodName := ⟨"HouseThreads2", "trySend", "(LHouseThreads2$Part;)V"⟩
def y_Q_add : MethodName := ⟨"HouseThreads2$Post", "add", "(IIIZ)I"⟩
def y_H_tryHear : MethodName := ⟨"HouseThreads2", "tryHear", "(LHouseThreads2$Part;)V"⟩
def y_Q_firstOnItsWayTo : MethodName := ⟨"HouseThreads2$Post", "firstOnItsWayTo", "(I)I"⟩
def y_L_run : MethodName := ⟨"HouseThreads2Law", "run", "(LHouseThreads2;I[J)I"⟩
def y_H_run : MethodName := ⟨"HouseThreads2", "run", "(I)I"⟩
def y_L_again : MethodName := ⟨"HouseThreads2Law", "again", "(LHouseThreads2;I[J)I"⟩
def y_H_again : MethodName := ⟨"HouseThreads2", "again", "(I)I"⟩
def y_H_checkMessage : MethodName := ⟨"HouseThreads2", "checkMessage", "(I)V"⟩
def y_L_interrupt : MethodName := ⟨"HouseThreads2Law", "interrupt", "(LHouseThreads2;I[J)I"⟩
def y_H_interrupt : MethodName := ⟨"HouseThreads2", "interrupt", "(I)I"⟩
def y_L_restart : MethodName := ⟨"HouseThreads2Law", "restart", "(LHouseThreads2;I)I"⟩
def y_H_restart : MethodName := ⟨"HouseThreads2", "restart", "(I)V"⟩
def y_L_log : MethodName := ⟨"HouseThreads2Law", "log", "(LHouseThreads2;I[J)I"⟩
def y_H_log : MethodName := ⟨"HouseThreads2", "log", "(I)I"⟩
def y_L_place : MethodName := ⟨"HouseThreads2Law", "place", "(LHouseThreads2;II[J)I"⟩
def y_H_place : MethodName := ⟨"HouseThreads2", "place", "(II)I"⟩
def y_L_message : MethodName := ⟨"HouseThreads2Law", "message", "(LHouseThreads2;II[J)I"⟩
def y_H_message : MethodName := ⟨"HouseThreads2", "message", "(II)I"⟩
def y_L_told : MethodName := ⟨"HouseThreads2Law", "told", "(LHouseThreads2;II[J)I"⟩
def y_H_told : MethodName := ⟨"HouseThreads2", "told", "(II)I"⟩
def y_H_heldPlaces : MethodName := ⟨"HouseThreads2", "heldPlaces", "(LHouseThreads2$Part;)I"⟩
def y_M_init : MethodName := ⟨"HouseThreads2Model", "<init>", "()V"⟩
def y_M_thrown : MethodName := ⟨"HouseThreads2Model", "thrown", "()I"⟩
def y_M_part : MethodName := ⟨"HouseThreads2Model", "part", "(I)I"⟩
def y_M_in : MethodName := ⟨"HouseThreads2Model", "in", "(III)Z"⟩
def y_M_step : MethodName := ⟨"HouseThreads2Model", "step", "(IIII)I"⟩
def y_M_isPart : MethodName := ⟨"HouseThreads2Model", "isPart", "(I)Z"⟩
def y_M_isStep : MethodName := ⟨"HouseThreads2Model", "isStep", "(III)Z"⟩
def y_M_fails : MethodName := ⟨"HouseThreads2Model", "fails", "(IIZ)V"⟩
def y_M_losing : MethodName := ⟨"HouseThreads2Model", "losing", "(Z)V"⟩
def y_M_turn : MethodName := ⟨"HouseThreads2Model", "turn", "(I)I"⟩
def y_M_haveTurn : MethodName := ⟨"HouseThreads2Model", "haveTurn", "(I)V"⟩
def y_M_tryStep : MethodName := ⟨"HouseThreads2Model", "tryStep", "(I)V"⟩
def y_M_undo : MethodName := ⟨"HouseThreads2Model", "undo", "(II)V"⟩
def y_M_release : MethodName := ⟨"HouseThreads2Model", "release", "(I)V"⟩
def y_M_send : MethodName := ⟨"HouseThreads2Model", "send", "(II)V"⟩
def y_M_wasDone : MethodName := ⟨"HouseThreads2Model", "wasDone", "(I)V"⟩
def y_M_takes : MethodName := ⟨"HouseThreads2Model", "takes", "(II)Z"⟩
def y_M_breakRing : MethodName := ⟨"HouseThreads2Model", "breakRing", "(I)V"⟩
def y_M_hear : MethodName := ⟨"HouseThreads2Model", "hear", "(II)V"⟩
def y_M_run : MethodName := ⟨"HouseThreads2Model", "run", "(I)I"⟩
def y_M_again : MethodName := ⟨"HouseThreads2Model", "again", "(I)I"⟩
def y_M_isMessage : MethodName := ⟨"HouseThreads2Model", "isMessage", "(I)Z"⟩
def y_M_interrupt : MethodName := ⟨"HouseThreads2Model", "interrupt", "(I)I"⟩
def y_M_restart : MethodName := ⟨"HouseThreads2Model", "restart", "(I)V"⟩
def y_M_close : MethodName := ⟨"HouseThreads2Model", "close", "()I"⟩
def y_M_log : MethodName := ⟨"HouseThreads2Model", "log", "(I)I"⟩
def y_M_place : MethodName := ⟨"HouseThreads2Model", "place", "(II)I"⟩
def y_M_message : MethodName := ⟨"HouseThreads2Model", "message", "(II)I"⟩
def y_M_told : MethodName := ⟨"HouseThreads2Model", "told", "(II)I"⟩
def y_M_count : MethodName := ⟨"HouseThreads2Model", "count", "(I)I"⟩
