theorem t_1 : ∀ w ∈ tables_1_1, w ∈ lw_tbl := fun w h => List.mem_append_right _ (List.mem_append_left _ h)
theorem t_2 : ∀ w ∈ tables_1_2, w ∈ lw_tbl := fun w h => List.mem_append_right _ (List.mem_append_right _ (List.mem_append_left _ h))
theorem t_3 : ∀ w ∈ tables_1_3, w ∈ lw_tbl := fun w h => List.mem_append_right _ (List.mem_append_right _ (List.mem_append_right _ (List.mem_append_left _ h)))
theorem t_4 : ∀ w ∈ tables_1_4, w ∈ lw_tbl := fun w h => List.mem_append_right _ (List.mem_append_right _ (List.mem_append_right _ (List.mem_append_right _ (List.mem_append_left _ h))))
theorem t_5 : ∀ w ∈ tables_1_5, w ∈ lw_tbl := fun w h => List.mem_append_right _ (List.mem_append_right _ (List.mem_append_right _ (List.mem_append_right _ (List.mem_append_right _ (List.mem_append_left _ h)))))
theorem t_6 : ∀ w ∈ tables_1_6, w ∈ lw_tbl := fun w h => List.mem_append_right _ (List.mem_append_right _ (List.mem_append_right _ (List.mem_append_right _ (List.mem_append_right _ (List.mem_append_right _ (h))))))
theorem t_0 : ∀ w ∈ k2_sels lw_privs, w ∈ lw_tbl := fun w h => List.mem_append_left _ h
theorem v_0 (i : Nat) {w : Cond} (h : (k2_sels lw_privs)[i]? = some w) (g : goodWord w = true) : w ∈ WS0 := ws0_in (t_0 _ (List.mem_of_getElem? h)) g
theorem v_1 (i : Nat) {w : Cond} (h : (tables_1_1)[i]? = some w) (g : goodWord w = true) : w ∈ WS0 := ws0_in (t_1 _ (List.mem_of_getElem? h)) g
theorem v_2 (i : Nat) {w : Cond} (h : (tables_1_2)[i]? = some w) (g : goodWord w = true) : w ∈ WS0 := ws0_in (t_2 _ (List.mem_of_getElem? h)) g
theorem v_3 (i : Nat) {w : Cond} (h : (tables_1_3)[i]? = some w) (g : goodWord w = true) : w ∈ WS0 := ws0_in (t_3 _ (List.mem_of_getElem? h)) g
theorem v_4 (i : Nat) {w : Cond} (h : (tables_1_4)[i]? = some w) (g : goodWord w = true) : w ∈ WS0 := ws0_in (t_4 _ (List.mem_of_getElem? h)) g
theorem v_5 (i : Nat) {w : Cond} (h : (tables_1_5)[i]? = some w) (g : goodWord w = true) : w ∈ WS0 := ws0_in (t_5 _ (List.mem_of_getElem? h)) g
theorem v_6 (i : Nat) {w : Cond} (h : (tables_1_6)[i]? = some w) (g : goodWord w = true) : w ∈ WS0 := ws0_in (t_6 _ (List.mem_of_getElem? h)) g
theorem w1 : Jvm.Cond.selects "Panelry$Reading" ({ cls := "Panelry$Reading", name := "takeByNumber", desc := "(I)V" } : Jvm.MethodName) ({ cls := "Panelry$Reading", name := "takeByNumber", desc := "(I)V" } : Jvm.MethodName) ∈ WS0 := v_0 0 rfl rfl
theorem w2 : Jvm.Cond.selects "Panelry$Reading" ({ cls := "Panelry$Reading", name := "widestCut", desc := "(IZ)I" } : Jvm.MethodName) ({ cls := "Panelry$Reading", name := "widestCut", desc := "(IZ)I" } : Jvm.MethodName) ∈ WS0 := v_0 1 rfl rfl
theorem w3 : Jvm.Cond.selects "Panelry$Reading" ({ cls := "Panelry$Reading", name := "gutterAt", desc := "(IZI)I" } : Jvm.MethodName) ({ cls := "Panelry$Reading", name := "gutterAt", desc := "(IZI)I" } : Jvm.MethodName) ∈ WS0 := v_0 2 rfl rfl
theorem w4 : Jvm.Cond.selects "Panelry$Reading" ({ cls := "Panelry$Reading", name := "endingBy", desc := "(IZI)I" } : Jvm.MethodName) ({ cls := "Panelry$Reading", name := "endingBy", desc := "(IZI)I" } : Jvm.MethodName) ∈ WS0 := v_0 3 rfl rfl
theorem w5 : Jvm.Cond.selects "Panelry" ({ cls := "Panelry", name := "requireRoomForPage", desc := "()V" } : Jvm.MethodName) ({ cls := "Panelry", name := "requireRoomForPage", desc := "()V" } : Jvm.MethodName) ∈ WS0 := v_0 4 rfl rfl
theorem w6 : Jvm.Cond.selects "java/lang/Throwable" ({ cls := "java/lang/Throwable", name := "fillInStackTrace", desc := "(I)Ljava/lang/Throwable;" } : Jvm.MethodName) ({ cls := "java/lang/Throwable", name := "fillInStackTrace", desc := "(I)Ljava/lang/Throwable;" } : Jvm.MethodName) ∈ WS0 := v_0 5 rfl rfl
theorem w7 : Jvm.Cond.selects "Panelry" ({ cls := "Panelry", name := "addPage", desc := "(LPanelry$Page;)I" } : Jvm.MethodName) ({ cls := "Panelry", name := "addPage", desc := "(LPanelry$Page;)I" } : Jvm.MethodName) ∈ WS0 := v_0 6 rfl rfl
theorem w8 : Jvm.Cond.selects "java/util/ArrayList" ({ cls := "java/util/ArrayList", name := "add", desc := "(Ljava/lang/Object;[Ljava/lang/Object;I)V" } : Jvm.MethodName) ({ cls := "java/util/ArrayList", name := "add", desc := "(Ljava/lang/Object;[Ljava/lang/Object;I)V" } : Jvm.MethodName) ∈ WS0 := v_0 7 rfl rfl
theorem w9 : Jvm.Cond.selects "java/util/ArrayList" ({ cls := "java/util/ArrayList", name := "grow", desc := "()[Ljava/lang/Object;" } : Jvm.MethodName) ({ cls := "java/util/ArrayList", name := "grow", desc := "()[Ljava/lang/Object;" } : Jvm.MethodName) ∈ WS0 := v_0 8 rfl rfl
theorem w10 : Jvm.Cond.selects "java/util/ArrayList" ({ cls := "java/util/ArrayList", name := "grow", desc := "(I)[Ljava/lang/Object;" } : Jvm.MethodName) ({ cls := "java/util/ArrayList", name := "grow", desc := "(I)[Ljava/lang/Object;" } : Jvm.MethodName) ∈ WS0 := v_0 9 rfl rfl
theorem w11 : Jvm.Cond.selects "Panelry" ({ cls := "Panelry", name := "existingPage", desc := "(I)LPanelry$Page;" } : Jvm.MethodName) ({ cls := "Panelry", name := "existingPage", desc := "(I)LPanelry$Page;" } : Jvm.MethodName) ∈ WS0 := v_0 10 rfl rfl
theorem w12 : Jvm.Cond.selects "Panelry" ({ cls := "Panelry", name := "requireFigure", desc := "(I)V" } : Jvm.MethodName) ({ cls := "Panelry", name := "requireFigure", desc := "(I)V" } : Jvm.MethodName) ∈ WS0 := v_0 11 rfl rfl
theorem w13 : Jvm.Cond.selects "Panelry$Page" ({ cls := "Panelry$Page", name := "neighbourAt", desc := "(IILPanelry$Balloon;)LPanelry$Balloon;" } : Jvm.MethodName) ({ cls := "Panelry$Page", name := "neighbourAt", desc := "(IILPanelry$Balloon;)LPanelry$Balloon;" } : Jvm.MethodName) ∈ WS0 := v_0 12 rfl rfl
theorem w14 : Jvm.Cond.selects "Panelry$Tail" ({ cls := "Panelry$Tail", name := "sideOf", desc := "(II)I" } : Jvm.MethodName) ({ cls := "Panelry$Tail", name := "sideOf", desc := "(II)I" } : Jvm.MethodName) ∈ WS0 := v_0 13 rfl rfl
theorem w15 : Jvm.Cond.selects "Panelry" ({ cls := "Panelry", name := "workOneWeek", desc := "()V" } : Jvm.MethodName) ({ cls := "Panelry", name := "workOneWeek", desc := "()V" } : Jvm.MethodName) ∈ WS0 := v_0 14 rfl rfl
theorem w16 : Jvm.Cond.selects "Panelry$Page" ({ cls := "Panelry$Page", name := "countLetters", desc := "()I" } : Jvm.MethodName) ({ cls := "Panelry$Page", name := "countLetters", desc := "()I" } : Jvm.MethodName) ∈ WS0 := v_0 15 rfl rfl
theorem w17 : Jvm.Cond.selects "PanelryModel" ({ cls := "PanelryModel", name := "makes", desc := "(Z)I" } : Jvm.MethodName) ({ cls := "PanelryModel", name := "makes", desc := "(Z)I" } : Jvm.MethodName) ∈ WS0 := v_0 16 rfl rfl
theorem w18 : Jvm.Cond.selects "PanelryModel" ({ cls := "PanelryModel", name := "isPage", desc := "(I)Z" } : Jvm.MethodName) ({ cls := "PanelryModel", name := "isPage", desc := "(I)Z" } : Jvm.MethodName) ∈ WS0 := v_0 17 rfl rfl
theorem w19 : Jvm.Cond.selects "PanelryModel" ({ cls := "PanelryModel", name := "isPrinted", desc := "(I)Z" } : Jvm.MethodName) ({ cls := "PanelryModel", name := "isPrinted", desc := "(I)Z" } : Jvm.MethodName) ∈ WS0 := v_0 18 rfl rfl
theorem w20 : Jvm.Cond.selects "PanelryModel" ({ cls := "PanelryModel", name := "reads", desc := "(IZ)V" } : Jvm.MethodName) ({ cls := "PanelryModel", name := "reads", desc := "(IZ)V" } : Jvm.MethodName) ∈ WS0 := v_0 19 rfl rfl
theorem w21 : Jvm.Cond.selects "PanelryModel" ({ cls := "PanelryModel", name := "cuts", desc := "(IIIZ)Z" } : Jvm.MethodName) ({ cls := "PanelryModel", name := "cuts", desc := "(IIIZ)Z" } : Jvm.MethodName) ∈ WS0 := v_0 20 rfl rfl
theorem w22 : Jvm.Cond.selects "PanelryModel" ({ cls := "PanelryModel", name := "isAhead", desc := "(IIIZ)Z" } : Jvm.MethodName) ({ cls := "PanelryModel", name := "isAhead", desc := "(IIIZ)Z" } : Jvm.MethodName) ∈ WS0 := v_0 21 rfl rfl
theorem w23 : Jvm.Cond.selects "PanelryModel" ({ cls := "PanelryModel", name := "isPanel", desc := "(II)Z" } : Jvm.MethodName) ({ cls := "PanelryModel", name := "isPanel", desc := "(II)Z" } : Jvm.MethodName) ∈ WS0 := v_0 22 rfl rfl
theorem w24 : Jvm.Cond.selects "PanelryModel" ({ cls := "PanelryModel", name := "isBalloon", desc := "(II)Z" } : Jvm.MethodName) ({ cls := "PanelryModel", name := "isBalloon", desc := "(II)Z" } : Jvm.MethodName) ∈ WS0 := v_0 23 rfl rfl
theorem w25 : Jvm.Cond.selects "PanelryModel" ({ cls := "PanelryModel", name := "tailOf", desc := "(II)I" } : Jvm.MethodName) ({ cls := "PanelryModel", name := "tailOf", desc := "(II)I" } : Jvm.MethodName) ∈ WS0 := v_0 24 rfl rfl
theorem w26 : Jvm.Cond.selects "PanelryModel" ({ cls := "PanelryModel", name := "isTangled", desc := "(II)Z" } : Jvm.MethodName) ({ cls := "PanelryModel", name := "isTangled", desc := "(II)Z" } : Jvm.MethodName) ∈ WS0 := v_0 25 rfl rfl
theorem w27 : Jvm.Cond.selects "PanelryModel" ({ cls := "PanelryModel", name := "hitsBox", desc := "(IIIII)Z" } : Jvm.MethodName) ({ cls := "PanelryModel", name := "hitsBox", desc := "(IIIII)Z" } : Jvm.MethodName) ∈ WS0 := v_0 26 rfl rfl
theorem w28 : Jvm.Cond.initialized "PanelryLaw" ∈ WS0 := v_1 0 rfl rfl
theorem w29 : Jvm.Cond.initialized "Panelry" ∈ WS0 := v_1 1 rfl rfl
theorem w30 : Jvm.Cond.initialized "java/util/AbstractCollection" ∈ WS0 := v_1 2 rfl rfl
theorem w31 : Jvm.Cond.initialized "java/util/AbstractList" ∈ WS0 := v_1 3 rfl rfl
theorem w32 : Jvm.Cond.initialized "java/util/ArrayList" ∈ WS0 := v_1 4 rfl rfl
theorem w33 : Jvm.Cond.initialized "PanelryModel" ∈ WS0 := v_1 5 rfl rfl
theorem w34 : Jvm.Cond.initialized "java/lang/Throwable" ∈ WS0 := v_1 6 rfl rfl
theorem w35 : Jvm.Cond.initialized "java/lang/Exception" ∈ WS0 := v_1 7 rfl rfl
theorem w36 : Jvm.Cond.initialized "java/lang/RuntimeException" ∈ WS0 := v_1 8 rfl rfl
theorem w37 : Jvm.Cond.initialized "java/lang/IllegalStateException" ∈ WS0 := v_1 9 rfl rfl
theorem w38 : Jvm.Cond.initialized "Panelry$Page" ∈ WS0 := v_1 10 rfl rfl
theorem w39 : Jvm.Cond.initialized "jdk/internal/util/ArraysSupport" ∈ WS0 := v_1 11 rfl rfl
theorem w40 : Jvm.Cond.initialized "java/lang/Math" ∈ WS0 := v_1 12 rfl rfl
theorem w41 : Jvm.Cond.initialized "java/util/Arrays" ∈ WS0 := v_1 13 rfl rfl
theorem w42 : Jvm.Cond.initialized "java/lang/System" ∈ WS0 := v_1 14 rfl rfl
theorem w43 : Jvm.Cond.initialized "java/lang/IndexOutOfBoundsException" ∈ WS0 := v_1 15 rfl rfl
theorem w44 : Jvm.Cond.initialized "java/util/Objects" ∈ WS0 := v_1 16 rfl rfl
theorem w45 : Jvm.Cond.initialized "jdk/internal/util/Preconditions" ∈ WS0 := v_1 17 rfl rfl
theorem w46 : Jvm.Cond.initialized "java/lang/IllegalArgumentException" ∈ WS0 := v_1 18 rfl rfl
theorem w47 : Jvm.Cond.initialized "Panelry$Box" ∈ WS0 := v_1 19 rfl rfl
theorem w48 : Jvm.Cond.initialized "Panelry$Panel" ∈ WS0 := v_1 20 rfl rfl
theorem w49 : Jvm.Cond.initialized "Panelry$Reading" ∈ WS0 := v_1 21 rfl rfl
theorem w50 : Jvm.Cond.initialized "java/lang/Integer" ∈ WS0 := v_1 22 rfl rfl
theorem w51 : Jvm.Cond.initialized "Panelry$Face" ∈ WS0 := v_1 23 rfl rfl
theorem w52 : Jvm.Cond.initialized "Panelry$Balloon" ∈ WS0 := v_1 24 rfl rfl
theorem w53 : Jvm.Cond.initialized "Panelry$Tail" ∈ WS0 := v_1 25 rfl rfl
theorem w54 : Jvm.Cond.initialized "Panelry$Telling" ∈ WS0 := v_1 26 rfl rfl
theorem w55 : Jvm.Cond.classLink "PanelryLaw" (8 : Nat) "Panelry" ∈ WS0 := v_1 27 rfl rfl
theorem w56 : Jvm.Cond.instantiable "Panelry" (5 : Nat) ∈ WS0 := v_1 28 rfl rfl
theorem w57 : Jvm.Cond.methodLink "PanelryLaw" (91 : Nat) ({ cls := "Panelry", name := "<init>", desc := "()V" } : Jvm.MethodName) ∈ WS0 := v_1 29 rfl rfl
theorem w58 : Jvm.Cond.instanceMethod ({ cls := "Panelry", name := "<init>", desc := "()V" } : Jvm.MethodName) ∈ WS0 := v_1 30 rfl rfl
theorem w59 : Jvm.Cond.code ({ cls := "Panelry", name := "<init>", desc := "()V" } : Jvm.MethodName) prog_1_method_1_code (1 : Nat) (Option.none : Option Jvm.ClassFile.FieldType) ∈ WS0 := v_1 31 rfl rfl
theorem w60 : Jvm.Cond.methodLink "Panelry" (3 : Nat) ({ cls := "java/lang/Object", name := "<init>", desc := "()V" } : Jvm.MethodName) ∈ WS0 := v_1 32 rfl rfl
theorem w61 : Jvm.Cond.instanceMethod ({ cls := "java/lang/Object", name := "<init>", desc := "()V" } : Jvm.MethodName) ∈ WS0 := v_1 33 rfl rfl
theorem w62 : Jvm.Cond.code ({ cls := "java/lang/Object", name := "<init>", desc := "()V" } : Jvm.MethodName) object_method_1_code (1 : Nat) (Option.none : Option Jvm.ClassFile.FieldType) ∈ WS0 := v_1 34 rfl rfl
theorem w63 : Jvm.Cond.classLink "Panelry" (9 : Nat) "java/util/ArrayList" ∈ WS0 := v_1 35 rfl rfl
theorem w64 : Jvm.Cond.instantiable "java/util/ArrayList" (3 : Nat) ∈ WS0 := v_1 36 rfl rfl
theorem w65 : Jvm.Cond.methodLink "Panelry" (11 : Nat) ({ cls := "java/util/ArrayList", name := "<init>", desc := "()V" } : Jvm.MethodName) ∈ WS0 := v_1 37 rfl rfl
theorem w66 : Jvm.Cond.instanceMethod ({ cls := "java/util/ArrayList", name := "<init>", desc := "()V" } : Jvm.MethodName) ∈ WS0 := v_1 38 rfl rfl
theorem w67 : Jvm.Cond.code ({ cls := "java/util/ArrayList", name := "<init>", desc := "()V" } : Jvm.MethodName) prog_27_method_2_code (1 : Nat) (Option.none : Option Jvm.ClassFile.FieldType) ∈ WS0 := v_1 39 rfl rfl
theorem w68 : Jvm.Cond.methodLink "java/util/ArrayList" (1 : Nat) ({ cls := "java/util/AbstractList", name := "<init>", desc := "()V" } : Jvm.MethodName) ∈ WS0 := v_1 40 rfl rfl
theorem w69 : Jvm.Cond.instanceMethod ({ cls := "java/util/AbstractList", name := "<init>", desc := "()V" } : Jvm.MethodName) ∈ WS0 := v_1 41 rfl rfl
theorem w70 : Jvm.Cond.code ({ cls := "java/util/AbstractList", name := "<init>", desc := "()V" } : Jvm.MethodName) prog_26_method_1_code (1 : Nat) (Option.none : Option Jvm.ClassFile.FieldType) ∈ WS0 := v_1 42 rfl rfl
theorem w71 : Jvm.Cond.methodLink "java/util/AbstractList" (1 : Nat) ({ cls := "java/util/AbstractCollection", name := "<init>", desc := "()V" } : Jvm.MethodName) ∈ WS0 := v_1 43 rfl rfl
theorem w72 : Jvm.Cond.instanceMethod ({ cls := "java/util/AbstractCollection", name := "<init>", desc := "()V" } : Jvm.MethodName) ∈ WS0 := v_1 44 rfl rfl
theorem w73 : Jvm.Cond.code ({ cls := "java/util/AbstractCollection", name := "<init>", desc := "()V" } : Jvm.MethodName) prog_25_method_1_code (1 : Nat) (Option.none : Option Jvm.ClassFile.FieldType) ∈ WS0 := v_1 45 rfl rfl
theorem w74 : Jvm.Cond.methodLink "java/util/AbstractCollection" (1 : Nat) ({ cls := "java/lang/Object", name := "<init>", desc := "()V" } : Jvm.MethodName) ∈ WS0 := v_1 46 rfl rfl
theorem w75 : Jvm.Cond.fieldLink "java/util/ArrayList" (39 : Nat) "java/util/ArrayList" "DEFAULTCAPACITY_EMPTY_ELEMENTDATA" "[Ljava/lang/Object;" ∈ WS0 := v_1 47 rfl rfl
theorem w77 : Jvm.Cond.fieldLink "java/util/ArrayList" (9 : Nat) "java/util/ArrayList" "elementData" "[Ljava/lang/Object;" ∈ WS0 := v_1 49 rfl rfl
theorem w78 : Jvm.Cond.fieldLink "java/util/ArrayList" (48 : Nat) "java/util/ArrayList" "size" "I" ∈ WS0 := v_1 50 rfl rfl
theorem w79 : Jvm.Cond.fieldLink "java/util/AbstractList" (7 : Nat) "java/util/AbstractList" "modCount" "I" ∈ WS0 := v_1 51 rfl rfl
theorem w80 : Jvm.Cond.fieldLink "java/util/ArrayList" (63 : Nat) "java/util/ArrayList" "modCount" "I" ∈ WS0 := v_1 52 rfl rfl
theorem w81 : Jvm.Cond.sameField "java/util/ArrayList" "java/util/AbstractList" "modCount" "I" ∈ WS0 := v_1 53 rfl rfl
theorem w89 : Jvm.Cond.fieldLink "Panelry" (12 : Nat) "Panelry" "pages" "Ljava/util/ArrayList;" ∈ WS0 := v_1 61 rfl rfl
theorem w90 : Jvm.Cond.fieldLink "Panelry" (16 : Nat) "Panelry" "tellings" "Ljava/util/ArrayList;" ∈ WS0 := v_1 62 rfl rfl
theorem w91 : Jvm.Cond.fieldLink "Panelry" (126 : Nat) "Panelry" "figureCount" "I" ∈ WS0 := v_1 63 rfl rfl
theorem w92 : Jvm.Cond.fieldLink "Panelry" (226 : Nat) "Panelry" "week" "I" ∈ WS0 := v_1 64 rfl rfl
theorem w93 : Jvm.Cond.fieldLink "Panelry" (19 : Nat) "Panelry" "workerCount" "I" ∈ WS0 := v_1 65 rfl rfl
theorem w105 : Jvm.Cond.methodLink "PanelryLaw" (149 : Nat) ({ cls := "Panelry", name := "breaks", desc := "()I" } : Jvm.MethodName) ∈ WS0 := v_1 77 rfl rfl
theorem w106 : Jvm.Cond.instanceMethod ({ cls := "Panelry", name := "breaks", desc := "()I" } : Jvm.MethodName) ∈ WS0 := v_1 78 rfl rfl
theorem w107 : Jvm.Cond.selects "Panelry" ({ cls := "Panelry", name := "breaks", desc := "()I" } : Jvm.MethodName) ({ cls := "Panelry", name := "breaks", desc := "()I" } : Jvm.MethodName) ∈ WS0 := v_1 79 rfl rfl
theorem w108 : Jvm.Cond.code ({ cls := "Panelry", name := "breaks", desc := "()I" } : Jvm.MethodName) prog_1_method_15_code (4 : Nat) (Option.some Jvm.ClassFile.FieldType.int) ∈ WS0 := v_1 80 rfl rfl
theorem w109 : Jvm.Cond.methodLink "Panelry" (205 : Nat) ({ cls := "java/util/Arrays", name := "fill", desc := "([II)V" } : Jvm.MethodName) ∈ WS0 := v_1 81 rfl rfl
theorem w110 : Jvm.Cond.static ({ cls := "java/util/Arrays", name := "fill", desc := "([II)V" } : Jvm.MethodName) ∈ WS0 := v_1 82 rfl rfl
theorem w111 : Jvm.Cond.code ({ cls := "java/util/Arrays", name := "fill", desc := "([II)V" } : Jvm.MethodName) prog_28_method_103_code (4 : Nat) (Option.none : Option Jvm.ClassFile.FieldType) ∈ WS0 := v_1 83 rfl rfl
theorem w112 : Jvm.Cond.methodLink "Panelry" (66 : Nat) ({ cls := "java/util/ArrayList", name := "size", desc := "()I" } : Jvm.MethodName) ∈ WS0 := v_1 84 rfl rfl
theorem w113 : Jvm.Cond.instanceMethod ({ cls := "java/util/ArrayList", name := "size", desc := "()I" } : Jvm.MethodName) ∈ WS0 := v_1 85 rfl rfl
theorem w114 : Jvm.Cond.selects "java/util/ArrayList" ({ cls := "java/util/ArrayList", name := "size", desc := "()I" } : Jvm.MethodName) ({ cls := "java/util/ArrayList", name := "size", desc := "()I" } : Jvm.MethodName) ∈ WS0 := v_1 86 rfl rfl
theorem w115 : Jvm.Cond.code ({ cls := "java/util/ArrayList", name := "size", desc := "()I" } : Jvm.MethodName) prog_27_method_8_code (1 : Nat) (Option.some Jvm.ClassFile.FieldType.int) ∈ WS0 := v_1 87 rfl rfl
theorem w116 : Jvm.Cond.methodLink "Panelry" (211 : Nat) ({ cls := "java/util/ArrayList", name := "get", desc := "(I)Ljava/lang/Object;" } : Jvm.MethodName) ∈ WS0 := v_1 88 rfl rfl
theorem w117 : Jvm.Cond.instanceMethod ({ cls := "java/util/ArrayList", name := "get", desc := "(I)Ljava/lang/Object;" } : Jvm.MethodName) ∈ WS0 := v_1 89 rfl rfl
theorem w118 : Jvm.Cond.selects "java/util/ArrayList" ({ cls := "java/util/ArrayList", name := "get", desc := "(I)Ljava/lang/Object;" } : Jvm.MethodName) ({ cls := "java/util/ArrayList", name := "get", desc := "(I)Ljava/lang/Object;" } : Jvm.MethodName) ∈ WS0 := v_1 90 rfl rfl
theorem w119 : Jvm.Cond.code ({ cls := "java/util/ArrayList", name := "get", desc := "(I)Ljava/lang/Object;" } : Jvm.MethodName) prog_27_method_20_code (2 : Nat) (Option.some (Jvm.ClassFile.FieldType.object "java/lang/Object")) ∈ WS0 := v_1 91 rfl rfl
theorem w120 : Jvm.Cond.methodLink "java/util/ArrayList" (118 : Nat) ({ cls := "java/util/Objects", name := "checkIndex", desc := "(II)I" } : Jvm.MethodName) ∈ WS0 := v_1 92 rfl rfl
theorem w121 : Jvm.Cond.static ({ cls := "java/util/Objects", name := "checkIndex", desc := "(II)I" } : Jvm.MethodName) ∈ WS0 := v_1 93 rfl rfl
theorem w122 : Jvm.Cond.code ({ cls := "java/util/Objects", name := "checkIndex", desc := "(II)I" } : Jvm.MethodName) prog_31_method_17_code (2 : Nat) (Option.some Jvm.ClassFile.FieldType.int) ∈ WS0 := v_1 94 rfl rfl
theorem w123 : Jvm.Cond.methodLink "java/util/Objects" (105 : Nat) ({ cls := "jdk/internal/util/Preconditions", name := "checkIndex", desc := "(IILjava/util/function/BiFunction;)I" } : Jvm.MethodName) ∈ WS0 := v_1 95 rfl rfl
theorem w124 : Jvm.Cond.static ({ cls := "jdk/internal/util/Preconditions", name := "checkIndex", desc := "(IILjava/util/function/BiFunction;)I" } : Jvm.MethodName) ∈ WS0 := v_1 96 rfl rfl
theorem w125 : Jvm.Cond.code ({ cls := "jdk/internal/util/Preconditions", name := "checkIndex", desc := "(IILjava/util/function/BiFunction;)I" } : Jvm.MethodName) prog_35_method_11_code (3 : Nat) (Option.some Jvm.ClassFile.FieldType.int) ∈ WS0 := v_1 97 rfl rfl
theorem w126 : Jvm.Cond.methodLink "java/util/ArrayList" (123 : Nat) ({ cls := "java/util/ArrayList", name := "elementData", desc := "(I)Ljava/lang/Object;" } : Jvm.MethodName) ∈ WS0 := v_1 98 rfl rfl
theorem w127 : Jvm.Cond.instanceMethod ({ cls := "java/util/ArrayList", name := "elementData", desc := "(I)Ljava/lang/Object;" } : Jvm.MethodName) ∈ WS0 := v_1 99 rfl rfl
theorem w128 : Jvm.Cond.selects "java/util/ArrayList" ({ cls := "java/util/ArrayList", name := "elementData", desc := "(I)Ljava/lang/Object;" } : Jvm.MethodName) ({ cls := "java/util/ArrayList", name := "elementData", desc := "(I)Ljava/lang/Object;" } : Jvm.MethodName) ∈ WS0 := v_1 100 rfl rfl
theorem w129 : Jvm.Cond.code ({ cls := "java/util/ArrayList", name := "elementData", desc := "(I)Ljava/lang/Object;" } : Jvm.MethodName) prog_27_method_18_code (2 : Nat) (Option.some (Jvm.ClassFile.FieldType.object "java/lang/Object")) ∈ WS0 := v_1 101 rfl rfl
theorem w130 : Jvm.Cond.classLink "Panelry" (26 : Nat) "Panelry$Page" ∈ WS0 := v_1 102 rfl rfl
theorem w131 : Jvm.Cond.methodLink "Panelry" (215 : Nat) ({ cls := "Panelry$Page", name := "countBreaks", desc := "([I)I" } : Jvm.MethodName) ∈ WS0 := v_1 103 rfl rfl
theorem w132 : Jvm.Cond.instanceMethod ({ cls := "Panelry$Page", name := "countBreaks", desc := "([I)I" } : Jvm.MethodName) ∈ WS0 := v_1 104 rfl rfl
theorem w133 : Jvm.Cond.selects "Panelry$Page" ({ cls := "Panelry$Page", name := "countBreaks", desc := "([I)I" } : Jvm.MethodName) ({ cls := "Panelry$Page", name := "countBreaks", desc := "([I)I" } : Jvm.MethodName) ∈ WS0 := v_1 105 rfl rfl
theorem w134 : Jvm.Cond.code ({ cls := "Panelry$Page", name := "countBreaks", desc := "([I)I" } : Jvm.MethodName) prog_5_method_10_code (6 : Nat) (Option.some Jvm.ClassFile.FieldType.int) ∈ WS0 := v_1 106 rfl rfl
theorem w135 : Jvm.Cond.methodLink "Panelry$Page" (97 : Nat) ({ cls := "Panelry$Reading", name := "of", desc := "(LPanelry$Page;Z)LPanelry$Reading;" } : Jvm.MethodName) ∈ WS0 := v_1 107 rfl rfl
theorem w136 : Jvm.Cond.static ({ cls := "Panelry$Reading", name := "of", desc := "(LPanelry$Page;Z)LPanelry$Reading;" } : Jvm.MethodName) ∈ WS0 := v_1 108 rfl rfl
theorem w137 : Jvm.Cond.code ({ cls := "Panelry$Reading", name := "of", desc := "(LPanelry$Page;Z)LPanelry$Reading;" } : Jvm.MethodName) prog_7_method_2_code (3 : Nat) (Option.some (Jvm.ClassFile.FieldType.object "Panelry$Reading")) ∈ WS0 := v_1 109 rfl rfl
theorem w138 : Jvm.Cond.classLink "Panelry$Reading" (10 : Nat) "Panelry$Reading" ∈ WS0 := v_1 110 rfl rfl
theorem w139 : Jvm.Cond.instantiable "Panelry$Reading" (5 : Nat) ∈ WS0 := v_1 111 rfl rfl
theorem w140 : Jvm.Cond.methodLink "Panelry$Reading" (29 : Nat) ({ cls := "Panelry$Reading", name := "<init>", desc := "(LPanelry$Page;Z)V" } : Jvm.MethodName) ∈ WS0 := v_1 112 rfl rfl
theorem w141 : Jvm.Cond.instanceMethod ({ cls := "Panelry$Reading", name := "<init>", desc := "(LPanelry$Page;Z)V" } : Jvm.MethodName) ∈ WS0 := v_1 113 rfl rfl
theorem w142 : Jvm.Cond.code ({ cls := "Panelry$Reading", name := "<init>", desc := "(LPanelry$Page;Z)V" } : Jvm.MethodName) prog_7_method_1_code (3 : Nat) (Option.none : Option Jvm.ClassFile.FieldType) ∈ WS0 := v_1 114 rfl rfl
theorem w143 : Jvm.Cond.methodLink "Panelry$Reading" (3 : Nat) ({ cls := "java/lang/Object", name := "<init>", desc := "()V" } : Jvm.MethodName) ∈ WS0 := v_1 115 rfl rfl
theorem w144 : Jvm.Cond.methodLink "Panelry$Reading" (23 : Nat) ({ cls := "java/util/Arrays", name := "fill", desc := "([II)V" } : Jvm.MethodName) ∈ WS0 := v_1 116 rfl rfl
theorem w145 : Jvm.Cond.fieldLink "Panelry$Reading" (15 : Nat) "Panelry$Reading" "page" "LPanelry$Page;" ∈ WS0 := v_1 117 rfl rfl
theorem w146 : Jvm.Cond.fieldLink "Panelry$Reading" (19 : Nat) "Panelry$Reading" "isLeftward" "Z" ∈ WS0 := v_1 118 rfl rfl
theorem w147 : Jvm.Cond.fieldLink "Panelry$Reading" (9 : Nat) "Panelry$Reading" "order" "[I" ∈ WS0 := v_1 119 rfl rfl
theorem w148 : Jvm.Cond.fieldLink "Panelry$Reading" (42 : Nat) "Panelry$Reading" "length" "I" ∈ WS0 := v_1 120 rfl rfl
theorem w149 : Jvm.Cond.fieldLink "Panelry$Reading" (71 : Nat) "Panelry$Reading" "doubtCount" "I" ∈ WS0 := v_1 121 rfl rfl
theorem w162 : Jvm.Cond.arrayClass Jvm.ClassFile.FieldType.int ∈ WS0 := v_1 134 rfl rfl
theorem w163 : Jvm.Cond.methodLink "Panelry$Reading" (32 : Nat) ({ cls := "Panelry$Page", name := "allPanels", desc := "()I" } : Jvm.MethodName) ∈ WS0 := v_1 135 rfl rfl
theorem w164 : Jvm.Cond.instanceMethod ({ cls := "Panelry$Page", name := "allPanels", desc := "()I" } : Jvm.MethodName) ∈ WS0 := v_1 136 rfl rfl
theorem w165 : Jvm.Cond.selects "Panelry$Page" ({ cls := "Panelry$Page", name := "allPanels", desc := "()I" } : Jvm.MethodName) ({ cls := "Panelry$Page", name := "allPanels", desc := "()I" } : Jvm.MethodName) ∈ WS0 := v_1 137 rfl rfl
theorem w166 : Jvm.Cond.code ({ cls := "Panelry$Page", name := "allPanels", desc := "()I" } : Jvm.MethodName) prog_5_method_2_code (1 : Nat) (Option.some Jvm.ClassFile.FieldType.int) ∈ WS0 := v_1 138 rfl rfl
theorem w167 : Jvm.Cond.methodLink "Panelry$Page" (25 : Nat) ({ cls := "java/util/ArrayList", name := "size", desc := "()I" } : Jvm.MethodName) ∈ WS0 := v_1 139 rfl rfl
theorem w168 : Jvm.Cond.methodLink "Panelry$Reading" (38 : Nat) ({ cls := "Panelry$Reading", name := "takeSet", desc := "(LPanelry$Reading;II)V" } : Jvm.MethodName) ∈ WS0 := v_1 140 rfl rfl
theorem w170 : Jvm.Cond.static ({ cls := "Panelry$Reading", name := "takeSet", desc := "(LPanelry$Reading;II)V" } : Jvm.MethodName) ∈ WS0 := v_1 141 rfl rfl
theorem w171 : Jvm.Cond.code ({ cls := "Panelry$Reading", name := "takeSet", desc := "(LPanelry$Reading;II)V" } : Jvm.MethodName) prog_7_method_5_code (8 : Nat) (Option.none : Option Jvm.ClassFile.FieldType) ∈ WS0 := v_1 142 rfl rfl
theorem w172 : Jvm.Cond.methodLink "Panelry$Reading" (54 : Nat) ({ cls := "java/lang/Integer", name := "bitCount", desc := "(I)I" } : Jvm.MethodName) ∈ WS0 := v_1 143 rfl rfl
theorem w173 : Jvm.Cond.static ({ cls := "java/lang/Integer", name := "bitCount", desc := "(I)I" } : Jvm.MethodName) ∈ WS0 := v_1 144 rfl rfl
theorem w174 : Jvm.Cond.code ({ cls := "java/lang/Integer", name := "bitCount", desc := "(I)I" } : Jvm.MethodName) prog_18_method_49_code (1 : Nat) (Option.some Jvm.ClassFile.FieldType.int) ∈ WS0 := v_1 145 rfl rfl
theorem w175 : Jvm.Cond.constant "java/lang/Integer" (265 : Nat) (1431655765 : Int32) ∈ WS0 := v_1 146 rfl rfl
theorem w176 : Jvm.Cond.constant "java/lang/Integer" (266 : Nat) (858993459 : Int32) ∈ WS0 := v_1 147 rfl rfl
theorem w177 : Jvm.Cond.constant "java/lang/Integer" (267 : Nat) (252645135 : Int32) ∈ WS0 := v_1 148 rfl rfl
theorem w178 : Jvm.Cond.methodLink "Panelry$Reading" (59 : Nat) ({ cls := "Panelry$Reading", name := "takeByNumber", desc := "(I)V" } : Jvm.MethodName) ∈ WS0 := v_1 149 rfl rfl
theorem w180 : Jvm.Cond.instanceMethod ({ cls := "Panelry$Reading", name := "takeByNumber", desc := "(I)V" } : Jvm.MethodName) ∈ WS0 := v_1 151 rfl rfl
theorem w181 : Jvm.Cond.code ({ cls := "Panelry$Reading", name := "takeByNumber", desc := "(I)V" } : Jvm.MethodName) prog_7_method_6_code (3 : Nat) (Option.none : Option Jvm.ClassFile.FieldType) ∈ WS0 := v_1 152 rfl rfl
theorem w182 : Jvm.Cond.methodLink "Panelry$Reading" (81 : Nat) ({ cls := "java/util/ArrayList", name := "size", desc := "()I" } : Jvm.MethodName) ∈ WS0 := v_1 153 rfl rfl
theorem w184 : Jvm.Cond.static ({ cls := "Panelry", name := "isIn", desc := "(II)Z" } : Jvm.MethodName) ∈ WS0 := v_1 155 rfl rfl
theorem w185 : Jvm.Cond.code ({ cls := "Panelry", name := "isIn", desc := "(II)Z" } : Jvm.MethodName) prog_1_method_34_code (2 : Nat) (Option.some Jvm.ClassFile.FieldType.boolean) ∈ WS0 := v_1 156 rfl rfl
theorem w186 : Jvm.Cond.methodLink "Panelry$Reading" (63 : Nat) ({ cls := "Panelry$Reading", name := "widestCut", desc := "(IZ)I" } : Jvm.MethodName) ∈ WS0 := v_1 157 rfl rfl
theorem w188 : Jvm.Cond.instanceMethod ({ cls := "Panelry$Reading", name := "widestCut", desc := "(IZ)I" } : Jvm.MethodName) ∈ WS0 := v_1 159 rfl rfl
theorem w189 : Jvm.Cond.code ({ cls := "Panelry$Reading", name := "widestCut", desc := "(IZ)I" } : Jvm.MethodName) prog_7_method_7_code (10 : Nat) (Option.some Jvm.ClassFile.FieldType.int) ∈ WS0 := v_1 160 rfl rfl
theorem w190 : Jvm.Cond.methodLink "Panelry$Reading" (90 : Nat) ({ cls := "java/util/ArrayList", name := "get", desc := "(I)Ljava/lang/Object;" } : Jvm.MethodName) ∈ WS0 := v_1 161 rfl rfl
theorem w191 : Jvm.Cond.classLink "Panelry$Reading" (94 : Nat) "Panelry$Panel" ∈ WS0 := v_1 162 rfl rfl
theorem w192 : Jvm.Cond.methodLink "Panelry$Reading" (100 : Nat) ({ cls := "Panelry$Box", name := "endFor", desc := "(Z)I" } : Jvm.MethodName) ∈ WS0 := v_1 163 rfl rfl
theorem w193 : Jvm.Cond.instanceMethod ({ cls := "Panelry$Box", name := "endFor", desc := "(Z)I" } : Jvm.MethodName) ∈ WS0 := v_1 164 rfl rfl
theorem w194 : Jvm.Cond.selects "Panelry$Box" ({ cls := "Panelry$Box", name := "endFor", desc := "(Z)I" } : Jvm.MethodName) ({ cls := "Panelry$Box", name := "endFor", desc := "(Z)I" } : Jvm.MethodName) ∈ WS0 := v_1 165 rfl rfl
theorem w195 : Jvm.Cond.code ({ cls := "Panelry$Box", name := "endFor", desc := "(Z)I" } : Jvm.MethodName) prog_3_method_7_code (2 : Nat) (Option.some Jvm.ClassFile.FieldType.int) ∈ WS0 := v_1 166 rfl rfl
theorem w196 : Jvm.Cond.methodLink "Panelry$Reading" (67 : Nat) ({ cls := "Panelry$Reading", name := "gutterAt", desc := "(IZI)I" } : Jvm.MethodName) ∈ WS0 := v_1 167 rfl rfl
theorem w198 : Jvm.Cond.instanceMethod ({ cls := "Panelry$Reading", name := "gutterAt", desc := "(IZI)I" } : Jvm.MethodName) ∈ WS0 := v_1 169 rfl rfl
theorem w199 : Jvm.Cond.code ({ cls := "Panelry$Reading", name := "gutterAt", desc := "(IZI)I" } : Jvm.MethodName) prog_7_method_8_code (8 : Nat) (Option.some Jvm.ClassFile.FieldType.int) ∈ WS0 := v_1 170 rfl rfl
theorem w200 : Jvm.Cond.methodLink "Panelry$Reading" (106 : Nat) ({ cls := "Panelry$Box", name := "beginFor", desc := "(Z)I" } : Jvm.MethodName) ∈ WS0 := v_1 171 rfl rfl
theorem w201 : Jvm.Cond.instanceMethod ({ cls := "Panelry$Box", name := "beginFor", desc := "(Z)I" } : Jvm.MethodName) ∈ WS0 := v_1 172 rfl rfl
theorem w202 : Jvm.Cond.selects "Panelry$Box" ({ cls := "Panelry$Box", name := "beginFor", desc := "(Z)I" } : Jvm.MethodName) ({ cls := "Panelry$Box", name := "beginFor", desc := "(Z)I" } : Jvm.MethodName) ∈ WS0 := v_1 173 rfl rfl
theorem w203 : Jvm.Cond.code ({ cls := "Panelry$Box", name := "beginFor", desc := "(Z)I" } : Jvm.MethodName) prog_3_method_6_code (2 : Nat) (Option.some Jvm.ClassFile.FieldType.int) ∈ WS0 := v_1 174 rfl rfl
theorem w204 : Jvm.Cond.methodLink "Panelry$Reading" (109 : Nat) ({ cls := "java/lang/Math", name := "min", desc := "(II)I" } : Jvm.MethodName) ∈ WS0 := v_1 175 rfl rfl
theorem w205 : Jvm.Cond.static ({ cls := "java/lang/Math", name := "min", desc := "(II)I" } : Jvm.MethodName) ∈ WS0 := v_1 176 rfl rfl
theorem w206 : Jvm.Cond.code ({ cls := "java/lang/Math", name := "min", desc := "(II)I" } : Jvm.MethodName) prog_20_method_69_code (2 : Nat) (Option.some Jvm.ClassFile.FieldType.int) ∈ WS0 := v_1 177 rfl rfl
theorem w207 : Jvm.Cond.methodLink "Panelry$Reading" (74 : Nat) ({ cls := "Panelry$Reading", name := "endingBy", desc := "(IZI)I" } : Jvm.MethodName) ∈ WS0 := v_1 178 rfl rfl
theorem w209 : Jvm.Cond.instanceMethod ({ cls := "Panelry$Reading", name := "endingBy", desc := "(IZI)I" } : Jvm.MethodName) ∈ WS0 := v_1 180 rfl rfl
theorem w210 : Jvm.Cond.code ({ cls := "Panelry$Reading", name := "endingBy", desc := "(IZI)I" } : Jvm.MethodName) prog_7_method_9_code (6 : Nat) (Option.some Jvm.ClassFile.FieldType.int) ∈ WS0 := v_1 181 rfl rfl
theorem w211 : Jvm.Cond.methodLink "Panelry$Page" (103 : Nat) ({ cls := "Panelry$Reading", name := "panelAt", desc := "(I)I" } : Jvm.MethodName) ∈ WS0 := v_1 182 rfl rfl
theorem w212 : Jvm.Cond.instanceMethod ({ cls := "Panelry$Reading", name := "panelAt", desc := "(I)I" } : Jvm.MethodName) ∈ WS0 := v_1 183 rfl rfl
theorem w213 : Jvm.Cond.selects "Panelry$Reading" ({ cls := "Panelry$Reading", name := "panelAt", desc := "(I)I" } : Jvm.MethodName) ({ cls := "Panelry$Reading", name := "panelAt", desc := "(I)I" } : Jvm.MethodName) ∈ WS0 := v_1 184 rfl rfl
theorem w214 : Jvm.Cond.code ({ cls := "Panelry$Reading", name := "panelAt", desc := "(I)I" } : Jvm.MethodName) prog_7_method_3_code (2 : Nat) (Option.some Jvm.ClassFile.FieldType.int) ∈ WS0 := v_1 185 rfl rfl
theorem w215 : Jvm.Cond.methodLink "Panelry$Page" (29 : Nat) ({ cls := "java/util/ArrayList", name := "get", desc := "(I)Ljava/lang/Object;" } : Jvm.MethodName) ∈ WS0 := v_1 186 rfl rfl
theorem w216 : Jvm.Cond.classLink "Panelry$Page" (33 : Nat) "Panelry$Panel" ∈ WS0 := v_1 187 rfl rfl
theorem w217 : Jvm.Cond.methodLink "Panelry$Page" (107 : Nat) ({ cls := "Panelry$Panel", name := "countBreaks", desc := "([I)I" } : Jvm.MethodName) ∈ WS0 := v_1 188 rfl rfl
theorem w218 : Jvm.Cond.instanceMethod ({ cls := "Panelry$Panel", name := "countBreaks", desc := "([I)I" } : Jvm.MethodName) ∈ WS0 := v_1 189 rfl rfl
theorem w219 : Jvm.Cond.selects "Panelry$Panel" ({ cls := "Panelry$Panel", name := "countBreaks", desc := "([I)I" } : Jvm.MethodName) ({ cls := "Panelry$Panel", name := "countBreaks", desc := "([I)I" } : Jvm.MethodName) ∈ WS0 := v_1 190 rfl rfl
theorem w220 : Jvm.Cond.code ({ cls := "Panelry$Panel", name := "countBreaks", desc := "([I)I" } : Jvm.MethodName) prog_6_method_5_code (5 : Nat) (Option.some Jvm.ClassFile.FieldType.int) ∈ WS0 := v_1 191 rfl rfl
theorem w221 : Jvm.Cond.methodLink "Panelry$Panel" (28 : Nat) ({ cls := "Panelry$Face", name := "isBreakAfter", desc := "(I)Z" } : Jvm.MethodName) ∈ WS0 := v_1 192 rfl rfl
theorem w222 : Jvm.Cond.instanceMethod ({ cls := "Panelry$Face", name := "isBreakAfter", desc := "(I)Z" } : Jvm.MethodName) ∈ WS0 := v_1 193 rfl rfl
theorem w223 : Jvm.Cond.selects "Panelry$Face" ({ cls := "Panelry$Face", name := "isBreakAfter", desc := "(I)Z" } : Jvm.MethodName) ({ cls := "Panelry$Face", name := "isBreakAfter", desc := "(I)Z" } : Jvm.MethodName) ∈ WS0 := v_1 194 rfl rfl
theorem w224 : Jvm.Cond.code ({ cls := "Panelry$Face", name := "isBreakAfter", desc := "(I)Z" } : Jvm.MethodName) prog_4_method_2_code (2 : Nat) (Option.some Jvm.ClassFile.FieldType.boolean) ∈ WS0 := v_1 195 rfl rfl
theorem w225 : Jvm.Cond.methodLink "PanelryLaw" (95 : Nat) ({ cls := "PanelryLaw", name := "page", desc := "(LPanelry;Z[J)I" } : Jvm.MethodName) ∈ WS0 := v_1 196 rfl rfl
theorem w226 : Jvm.Cond.static ({ cls := "PanelryLaw", name := "page", desc := "(LPanelry;Z[J)I" } : Jvm.MethodName) ∈ WS0 := v_1 197 rfl rfl
theorem w228 : Jvm.Cond.classLink "PanelryLaw" (13 : Nat) "java/lang/IllegalStateException" ∈ WS0 := v_1 199 rfl rfl
theorem w229 : Jvm.Cond.methodLink "PanelryLaw" (7 : Nat) ({ cls := "Panelry", name := "page", desc := "(Z)I" } : Jvm.MethodName) ∈ WS0 := v_1 200 rfl rfl
theorem w230 : Jvm.Cond.instanceMethod ({ cls := "Panelry", name := "page", desc := "(Z)I" } : Jvm.MethodName) ∈ WS0 := v_1 201 rfl rfl
theorem w231 : Jvm.Cond.selects "Panelry" ({ cls := "Panelry", name := "page", desc := "(Z)I" } : Jvm.MethodName) ({ cls := "Panelry", name := "page", desc := "(Z)I" } : Jvm.MethodName) ∈ WS0 := v_1 202 rfl rfl
theorem w232 : Jvm.Cond.code ({ cls := "Panelry", name := "page", desc := "(Z)I" } : Jvm.MethodName) prog_1_method_2_code (2 : Nat) (Option.some Jvm.ClassFile.FieldType.int) ∈ WS0 := v_1 203 rfl rfl
theorem w233 : Jvm.Cond.methodLink "Panelry" (23 : Nat) ({ cls := "Panelry", name := "requireRoomForPage", desc := "()V" } : Jvm.MethodName) ∈ WS0 := v_1 204 rfl rfl
theorem w235 : Jvm.Cond.instanceMethod ({ cls := "Panelry", name := "requireRoomForPage", desc := "()V" } : Jvm.MethodName) ∈ WS0 := v_1 206 rfl rfl
theorem w236 : Jvm.Cond.code ({ cls := "Panelry", name := "requireRoomForPage", desc := "()V" } : Jvm.MethodName) prog_1_method_31_code (1 : Nat) (Option.none : Option Jvm.ClassFile.FieldType) ∈ WS0 := v_1 207 rfl rfl
theorem w237 : Jvm.Cond.classLink "Panelry" (70 : Nat) "java/lang/IllegalStateException" ∈ WS0 := v_1 208 rfl rfl
theorem w238 : Jvm.Cond.instantiable "java/lang/IllegalStateException" (6 : Nat) ∈ WS0 := v_1 209 rfl rfl
theorem w246 : Jvm.Cond.selects "java/lang/IllegalStateException" ({ cls := "java/lang/Throwable", name := "fillInStackTrace", desc := "(I)Ljava/lang/Throwable;" } : Jvm.MethodName) ({ cls := "java/lang/Throwable", name := "fillInStackTrace", desc := "(I)Ljava/lang/Throwable;" } : Jvm.MethodName) ∈ WS0 := v_1 217 rfl rfl
theorem w247 : Jvm.Cond.selects "java/lang/IllegalStateException" ({ cls := "java/lang/Throwable", name := "fillInStackTrace", desc := "()Ljava/lang/Throwable;" } : Jvm.MethodName) ({ cls := "java/lang/Throwable", name := "fillInStackTrace", desc := "()Ljava/lang/Throwable;" } : Jvm.MethodName) ∈ WS0 := v_1 218 rfl rfl
theorem w258 : Jvm.Cond.fieldLink "java/lang/Throwable" (198 : Nat) "java/lang/Throwable" "backtrace" "Ljava/lang/Object;" ∈ WS0 := v_1 229 rfl rfl
theorem w260 : Jvm.Cond.instanceMethod ({ cls := "java/lang/Throwable", name := "<init>", desc := "()V" } : Jvm.MethodName) ∈ WS0 := v_1 231 rfl rfl
theorem w261 : Jvm.Cond.code ({ cls := "java/lang/Throwable", name := "<init>", desc := "()V" } : Jvm.MethodName) prog_24_method_1_code (1 : Nat) (Option.none : Option Jvm.ClassFile.FieldType) ∈ WS0 := v_1 232 rfl rfl
theorem w262 : Jvm.Cond.methodLink "java/lang/Throwable" (1 : Nat) ({ cls := "java/lang/Object", name := "<init>", desc := "()V" } : Jvm.MethodName) ∈ WS0 := v_1 233 rfl rfl
theorem w263 : Jvm.Cond.fieldLink "java/lang/Throwable" (13 : Nat) "java/lang/Throwable" "UNASSIGNED_STACK" "[Ljava/lang/StackTraceElement;" ∈ WS0 := v_1 234 rfl rfl
theorem w265 : Jvm.Cond.fieldLink "java/lang/Throwable" (20 : Nat) "java/lang/Throwable" "SUPPRESSED_SENTINEL" "Ljava/util/List;" ∈ WS0 := v_1 236 rfl rfl
theorem w267 : Jvm.Cond.methodLink "java/lang/Throwable" (27 : Nat) ({ cls := "java/lang/Throwable", name := "fillInStackTrace", desc := "()Ljava/lang/Throwable;" } : Jvm.MethodName) ∈ WS0 := v_1 238 rfl rfl
theorem w268 : Jvm.Cond.instanceMethod ({ cls := "java/lang/Throwable", name := "fillInStackTrace", desc := "()Ljava/lang/Throwable;" } : Jvm.MethodName) ∈ WS0 := v_1 239 rfl rfl
theorem w270 : Jvm.Cond.selects "java/lang/IllegalArgumentException" ({ cls := "java/lang/Throwable", name := "fillInStackTrace", desc := "()Ljava/lang/Throwable;" } : Jvm.MethodName) ({ cls := "java/lang/Throwable", name := "fillInStackTrace", desc := "()Ljava/lang/Throwable;" } : Jvm.MethodName) ∈ WS0 := v_2 1 rfl rfl
theorem w271 : Jvm.Cond.selects "java/lang/IndexOutOfBoundsException" ({ cls := "java/lang/Throwable", name := "fillInStackTrace", desc := "()Ljava/lang/Throwable;" } : Jvm.MethodName) ({ cls := "java/lang/Throwable", name := "fillInStackTrace", desc := "()Ljava/lang/Throwable;" } : Jvm.MethodName) ∈ WS0 := v_2 2 rfl rfl
theorem w273 : Jvm.Cond.methodLink "java/lang/Throwable" (202 : Nat) ({ cls := "java/lang/Throwable", name := "fillInStackTrace", desc := "(I)Ljava/lang/Throwable;" } : Jvm.MethodName) ∈ WS0 := v_2 4 rfl rfl
theorem w275 : Jvm.Cond.instanceMethod ({ cls := "java/lang/Throwable", name := "fillInStackTrace", desc := "(I)Ljava/lang/Throwable;" } : Jvm.MethodName) ∈ WS0 := v_2 6 rfl rfl
theorem w276 : Jvm.Cond.instantiable "java/lang/Throwable" (6 : Nat) ∈ WS0 := v_2 7 rfl rfl
theorem w277 : Jvm.Cond.native ({ cls := "java/lang/Throwable", name := "fillInStackTrace", desc := "(I)Ljava/lang/Throwable;" } : Jvm.MethodName) ∈ WS0 := v_2 8 rfl rfl
theorem w279 : Jvm.Cond.methodLink "Panelry" (74 : Nat) ({ cls := "java/lang/IllegalStateException", name := "<init>", desc := "(Ljava/lang/String;)V" } : Jvm.MethodName) ∈ WS0 := v_2 10 rfl rfl
theorem w280 : Jvm.Cond.instanceMethod ({ cls := "java/lang/IllegalStateException", name := "<init>", desc := "(Ljava/lang/String;)V" } : Jvm.MethodName) ∈ WS0 := v_2 11 rfl rfl
theorem w281 : Jvm.Cond.code ({ cls := "java/lang/IllegalStateException", name := "<init>", desc := "(Ljava/lang/String;)V" } : Jvm.MethodName) prog_16_method_2_code (2 : Nat) (Option.none : Option Jvm.ClassFile.FieldType) ∈ WS0 := v_2 12 rfl rfl
theorem w282 : Jvm.Cond.methodLink "java/lang/IllegalStateException" (7 : Nat) ({ cls := "java/lang/RuntimeException", name := "<init>", desc := "(Ljava/lang/String;)V" } : Jvm.MethodName) ∈ WS0 := v_2 13 rfl rfl
theorem w283 : Jvm.Cond.instanceMethod ({ cls := "java/lang/RuntimeException", name := "<init>", desc := "(Ljava/lang/String;)V" } : Jvm.MethodName) ∈ WS0 := v_2 14 rfl rfl
theorem w284 : Jvm.Cond.code ({ cls := "java/lang/RuntimeException", name := "<init>", desc := "(Ljava/lang/String;)V" } : Jvm.MethodName) prog_21_method_2_code (2 : Nat) (Option.none : Option Jvm.ClassFile.FieldType) ∈ WS0 := v_2 15 rfl rfl
theorem w285 : Jvm.Cond.methodLink "java/lang/RuntimeException" (7 : Nat) ({ cls := "java/lang/Exception", name := "<init>", desc := "(Ljava/lang/String;)V" } : Jvm.MethodName) ∈ WS0 := v_2 16 rfl rfl
theorem w286 : Jvm.Cond.instanceMethod ({ cls := "java/lang/Exception", name := "<init>", desc := "(Ljava/lang/String;)V" } : Jvm.MethodName) ∈ WS0 := v_2 17 rfl rfl
theorem w287 : Jvm.Cond.code ({ cls := "java/lang/Exception", name := "<init>", desc := "(Ljava/lang/String;)V" } : Jvm.MethodName) prog_14_method_2_code (2 : Nat) (Option.none : Option Jvm.ClassFile.FieldType) ∈ WS0 := v_2 18 rfl rfl
theorem w288 : Jvm.Cond.methodLink "java/lang/Exception" (7 : Nat) ({ cls := "java/lang/Throwable", name := "<init>", desc := "(Ljava/lang/String;)V" } : Jvm.MethodName) ∈ WS0 := v_2 19 rfl rfl
theorem w289 : Jvm.Cond.instanceMethod ({ cls := "java/lang/Throwable", name := "<init>", desc := "(Ljava/lang/String;)V" } : Jvm.MethodName) ∈ WS0 := v_2 20 rfl rfl
theorem w290 : Jvm.Cond.code ({ cls := "java/lang/Throwable", name := "<init>", desc := "(Ljava/lang/String;)V" } : Jvm.MethodName) prog_24_method_2_code (2 : Nat) (Option.none : Option Jvm.ClassFile.FieldType) ∈ WS0 := v_2 21 rfl rfl
theorem w291 : Jvm.Cond.fieldLink "java/lang/Throwable" (198 : Nat) "java/lang/Throwable" "backtrace" "Ljava/lang/Object;" ∈ WS0 := v_2 22 rfl rfl
theorem w292 : Jvm.Cond.fieldLink "java/lang/Throwable" (31 : Nat) "java/lang/Throwable" "detailMessage" "Ljava/lang/String;" ∈ WS0 := v_2 23 rfl rfl
theorem w293 : Jvm.Cond.fieldLink "java/lang/Throwable" (7 : Nat) "java/lang/Throwable" "cause" "Ljava/lang/Throwable;" ∈ WS0 := v_2 24 rfl rfl
theorem w294 : Jvm.Cond.fieldLink "java/lang/Throwable" (17 : Nat) "java/lang/Throwable" "stackTrace" "[Ljava/lang/StackTraceElement;" ∈ WS0 := v_2 25 rfl rfl
theorem w295 : Jvm.Cond.fieldLink "java/lang/Throwable" (24 : Nat) "java/lang/Throwable" "suppressedExceptions" "Ljava/util/List;" ∈ WS0 := v_2 26 rfl rfl
theorem w304 : Jvm.Cond.arrayClass Jvm.ClassFile.FieldType.byte ∈ WS0 := v_2 35 rfl rfl
theorem w305 : Jvm.Cond.instantiable "Panelry$Page" (5 : Nat) ∈ WS0 := v_2 36 rfl rfl
theorem w306 : Jvm.Cond.methodLink "Panelry" (28 : Nat) ({ cls := "Panelry$Page", name := "<init>", desc := "(Z)V" } : Jvm.MethodName) ∈ WS0 := v_2 37 rfl rfl
theorem w307 : Jvm.Cond.instanceMethod ({ cls := "Panelry$Page", name := "<init>", desc := "(Z)V" } : Jvm.MethodName) ∈ WS0 := v_2 38 rfl rfl
theorem w308 : Jvm.Cond.code ({ cls := "Panelry$Page", name := "<init>", desc := "(Z)V" } : Jvm.MethodName) prog_5_method_1_code (2 : Nat) (Option.none : Option Jvm.ClassFile.FieldType) ∈ WS0 := v_2 39 rfl rfl
theorem w309 : Jvm.Cond.methodLink "Panelry$Page" (3 : Nat) ({ cls := "java/lang/Object", name := "<init>", desc := "()V" } : Jvm.MethodName) ∈ WS0 := v_2 40 rfl rfl
theorem w310 : Jvm.Cond.classLink "Panelry$Page" (9 : Nat) "java/util/ArrayList" ∈ WS0 := v_2 41 rfl rfl
theorem w311 : Jvm.Cond.methodLink "Panelry$Page" (11 : Nat) ({ cls := "java/util/ArrayList", name := "<init>", desc := "()V" } : Jvm.MethodName) ∈ WS0 := v_2 42 rfl rfl
theorem w312 : Jvm.Cond.fieldLink "Panelry$Page" (12 : Nat) "Panelry$Page" "panels" "Ljava/util/ArrayList;" ∈ WS0 := v_2 43 rfl rfl
theorem w313 : Jvm.Cond.fieldLink "Panelry" (63 : Nat) "Panelry$Page" "panels" "Ljava/util/ArrayList;" ∈ WS0 := v_2 44 rfl rfl
theorem w314 : Jvm.Cond.fieldLink "Panelry$Reading" (77 : Nat) "Panelry$Page" "panels" "Ljava/util/ArrayList;" ∈ WS0 := v_2 45 rfl rfl
theorem w315 : Jvm.Cond.fieldLink "Panelry$Page" (18 : Nat) "Panelry$Page" "balloons" "Ljava/util/ArrayList;" ∈ WS0 := v_2 46 rfl rfl
theorem w316 : Jvm.Cond.fieldLink "Panelry" (157 : Nat) "Panelry$Page" "balloons" "Ljava/util/ArrayList;" ∈ WS0 := v_2 47 rfl rfl
theorem w317 : Jvm.Cond.fieldLink "Panelry$Page" (21 : Nat) "Panelry$Page" "isLeftward" "Z" ∈ WS0 := v_2 48 rfl rfl
theorem w318 : Jvm.Cond.fieldLink "Panelry" (90 : Nat) "Panelry$Page" "isLeftward" "Z" ∈ WS0 := v_2 49 rfl rfl
theorem w319 : Jvm.Cond.fieldLink "Panelry" (254 : Nat) "Panelry$Page" "stage" "I" ∈ WS0 := v_2 50 rfl rfl
theorem w320 : Jvm.Cond.fieldLink "Panelry" (263 : Nat) "Panelry$Page" "print" "[I" ∈ WS0 := v_2 51 rfl rfl
theorem w332 : Jvm.Cond.methodLink "Panelry" (31 : Nat) ({ cls := "Panelry", name := "addPage", desc := "(LPanelry$Page;)I" } : Jvm.MethodName) ∈ WS0 := v_2 63 rfl rfl
theorem w334 : Jvm.Cond.instanceMethod ({ cls := "Panelry", name := "addPage", desc := "(LPanelry$Page;)I" } : Jvm.MethodName) ∈ WS0 := v_2 65 rfl rfl
theorem w335 : Jvm.Cond.code ({ cls := "Panelry", name := "addPage", desc := "(LPanelry$Page;)I" } : Jvm.MethodName) prog_1_method_32_code (2 : Nat) (Option.some Jvm.ClassFile.FieldType.int) ∈ WS0 := v_2 66 rfl rfl
theorem w336 : Jvm.Cond.methodLink "Panelry" (86 : Nat) ({ cls := "java/util/ArrayList", name := "add", desc := "(Ljava/lang/Object;)Z" } : Jvm.MethodName) ∈ WS0 := v_2 67 rfl rfl
theorem w337 : Jvm.Cond.instanceMethod ({ cls := "java/util/ArrayList", name := "add", desc := "(Ljava/lang/Object;)Z" } : Jvm.MethodName) ∈ WS0 := v_2 68 rfl rfl
theorem w338 : Jvm.Cond.selects "java/util/ArrayList" ({ cls := "java/util/ArrayList", name := "add", desc := "(Ljava/lang/Object;)Z" } : Jvm.MethodName) ({ cls := "java/util/ArrayList", name := "add", desc := "(Ljava/lang/Object;)Z" } : Jvm.MethodName) ∈ WS0 := v_2 69 rfl rfl
theorem w339 : Jvm.Cond.code ({ cls := "java/util/ArrayList", name := "add", desc := "(Ljava/lang/Object;)Z" } : Jvm.MethodName) prog_27_method_25_code (2 : Nat) (Option.some Jvm.ClassFile.FieldType.boolean) ∈ WS0 := v_2 70 rfl rfl
theorem w340 : Jvm.Cond.methodLink "java/util/ArrayList" (131 : Nat) ({ cls := "java/util/ArrayList", name := "add", desc := "(Ljava/lang/Object;[Ljava/lang/Object;I)V" } : Jvm.MethodName) ∈ WS0 := v_2 71 rfl rfl
theorem w342 : Jvm.Cond.instanceMethod ({ cls := "java/util/ArrayList", name := "add", desc := "(Ljava/lang/Object;[Ljava/lang/Object;I)V" } : Jvm.MethodName) ∈ WS0 := v_2 73 rfl rfl
theorem w343 : Jvm.Cond.code ({ cls := "java/util/ArrayList", name := "add", desc := "(Ljava/lang/Object;[Ljava/lang/Object;I)V" } : Jvm.MethodName) prog_27_method_24_code (4 : Nat) (Option.none : Option Jvm.ClassFile.FieldType) ∈ WS0 := v_2 74 rfl rfl
theorem w344 : Jvm.Cond.methodLink "java/util/ArrayList" (129 : Nat) ({ cls := "java/util/ArrayList", name := "grow", desc := "()[Ljava/lang/Object;" } : Jvm.MethodName) ∈ WS0 := v_2 75 rfl rfl
theorem w346 : Jvm.Cond.instanceMethod ({ cls := "java/util/ArrayList", name := "grow", desc := "()[Ljava/lang/Object;" } : Jvm.MethodName) ∈ WS0 := v_2 77 rfl rfl
theorem w347 : Jvm.Cond.code ({ cls := "java/util/ArrayList", name := "grow", desc := "()[Ljava/lang/Object;" } : Jvm.MethodName) prog_27_method_7_code (1 : Nat) (Option.some (Jvm.ClassFile.FieldType.array (Jvm.ClassFile.FieldType.object "java/lang/Object"))) ∈ WS0 := v_2 78 rfl rfl
theorem w348 : Jvm.Cond.methodLink "java/util/ArrayList" (69 : Nat) ({ cls := "java/util/ArrayList", name := "grow", desc := "(I)[Ljava/lang/Object;" } : Jvm.MethodName) ∈ WS0 := v_2 79 rfl rfl
theorem w350 : Jvm.Cond.instanceMethod ({ cls := "java/util/ArrayList", name := "grow", desc := "(I)[Ljava/lang/Object;" } : Jvm.MethodName) ∈ WS0 := v_2 81 rfl rfl
theorem w351 : Jvm.Cond.code ({ cls := "java/util/ArrayList", name := "grow", desc := "(I)[Ljava/lang/Object;" } : Jvm.MethodName) prog_27_method_6_code (4 : Nat) (Option.some (Jvm.ClassFile.FieldType.array (Jvm.ClassFile.FieldType.object "java/lang/Object"))) ∈ WS0 := v_2 82 rfl rfl
theorem w352 : Jvm.Cond.methodLink "java/util/ArrayList" (73 : Nat) ({ cls := "jdk/internal/util/ArraysSupport", name := "newLength", desc := "(III)I" } : Jvm.MethodName) ∈ WS0 := v_2 83 rfl rfl
theorem w353 : Jvm.Cond.static ({ cls := "jdk/internal/util/ArraysSupport", name := "newLength", desc := "(III)I" } : Jvm.MethodName) ∈ WS0 := v_2 84 rfl rfl
theorem w354 : Jvm.Cond.code ({ cls := "jdk/internal/util/ArraysSupport", name := "newLength", desc := "(III)I" } : Jvm.MethodName) prog_34_method_27_code (4 : Nat) (Option.some Jvm.ClassFile.FieldType.int) ∈ WS0 := v_2 85 rfl rfl
theorem w355 : Jvm.Cond.methodLink "jdk/internal/util/ArraysSupport" (194 : Nat) ({ cls := "java/lang/Math", name := "max", desc := "(II)I" } : Jvm.MethodName) ∈ WS0 := v_2 86 rfl rfl
theorem w356 : Jvm.Cond.static ({ cls := "java/lang/Math", name := "max", desc := "(II)I" } : Jvm.MethodName) ∈ WS0 := v_2 87 rfl rfl
theorem w357 : Jvm.Cond.code ({ cls := "java/lang/Math", name := "max", desc := "(II)I" } : Jvm.MethodName) prog_20_method_65_code (2 : Nat) (Option.some Jvm.ClassFile.FieldType.int) ∈ WS0 := v_2 88 rfl rfl
theorem w358 : Jvm.Cond.constant "jdk/internal/util/ArraysSupport" (200 : Nat) (2147483639 : Int32) ∈ WS0 := v_2 89 rfl rfl
theorem w359 : Jvm.Cond.methodLink "jdk/internal/util/ArraysSupport" (201 : Nat) ({ cls := "jdk/internal/util/ArraysSupport", name := "hugeLength", desc := "(II)I" } : Jvm.MethodName) ∈ WS0 := v_2 90 rfl rfl
theorem w360 : Jvm.Cond.static ({ cls := "jdk/internal/util/ArraysSupport", name := "hugeLength", desc := "(II)I" } : Jvm.MethodName) ∈ WS0 := v_2 91 rfl rfl
theorem w361 : Jvm.Cond.code ({ cls := "jdk/internal/util/ArraysSupport", name := "hugeLength", desc := "(II)I" } : Jvm.MethodName) prog_34_method_28_code (3 : Nat) (Option.some Jvm.ClassFile.FieldType.int) ∈ WS0 := v_2 92 rfl rfl
theorem w362 : Jvm.Cond.methodLink "java/util/ArrayList" (66 : Nat) ({ cls := "java/util/Arrays", name := "copyOf", desc := "([Ljava/lang/Object;I)[Ljava/lang/Object;" } : Jvm.MethodName) ∈ WS0 := v_2 93 rfl rfl
theorem w363 : Jvm.Cond.static ({ cls := "java/util/Arrays", name := "copyOf", desc := "([Ljava/lang/Object;I)[Ljava/lang/Object;" } : Jvm.MethodName) ∈ WS0 := v_2 94 rfl rfl
theorem w364 : Jvm.Cond.code ({ cls := "java/util/Arrays", name := "copyOf", desc := "([Ljava/lang/Object;I)[Ljava/lang/Object;" } : Jvm.MethodName) prog_28_method_119_code (2 : Nat) (Option.some (Jvm.ClassFile.FieldType.array (Jvm.ClassFile.FieldType.object "java/lang/Object"))) ∈ WS0 := v_2 95 rfl rfl
theorem w365 : Jvm.Cond.methodLink "java/util/Arrays" (86 : Nat) ({ cls := "java/lang/Object", name := "getClass", desc := "()Ljava/lang/Class;" } : Jvm.MethodName) ∈ WS0 := v_2 96 rfl rfl
theorem w366 : Jvm.Cond.instanceMethod ({ cls := "java/lang/Object", name := "getClass", desc := "()Ljava/lang/Class;" } : Jvm.MethodName) ∈ WS0 := v_2 97 rfl rfl
theorem w368 : Jvm.Cond.selects "Panelry" ({ cls := "java/lang/Object", name := "getClass", desc := "()Ljava/lang/Class;" } : Jvm.MethodName) ({ cls := "java/lang/Object", name := "getClass", desc := "()Ljava/lang/Class;" } : Jvm.MethodName) ∈ WS0 := v_2 99 rfl rfl
theorem w369 : Jvm.Cond.selects "Panelry$Balloon" ({ cls := "java/lang/Object", name := "getClass", desc := "()Ljava/lang/Class;" } : Jvm.MethodName) ({ cls := "java/lang/Object", name := "getClass", desc := "()Ljava/lang/Class;" } : Jvm.MethodName) ∈ WS0 := v_2 100 rfl rfl
theorem w370 : Jvm.Cond.selects "Panelry$Box" ({ cls := "java/lang/Object", name := "getClass", desc := "()Ljava/lang/Class;" } : Jvm.MethodName) ({ cls := "java/lang/Object", name := "getClass", desc := "()Ljava/lang/Class;" } : Jvm.MethodName) ∈ WS0 := v_2 101 rfl rfl
theorem w371 : Jvm.Cond.selects "Panelry$Face" ({ cls := "java/lang/Object", name := "getClass", desc := "()Ljava/lang/Class;" } : Jvm.MethodName) ({ cls := "java/lang/Object", name := "getClass", desc := "()Ljava/lang/Class;" } : Jvm.MethodName) ∈ WS0 := v_2 102 rfl rfl
theorem w372 : Jvm.Cond.selects "Panelry$Page" ({ cls := "java/lang/Object", name := "getClass", desc := "()Ljava/lang/Class;" } : Jvm.MethodName) ({ cls := "java/lang/Object", name := "getClass", desc := "()Ljava/lang/Class;" } : Jvm.MethodName) ∈ WS0 := v_2 103 rfl rfl
theorem w373 : Jvm.Cond.selects "Panelry$Panel" ({ cls := "java/lang/Object", name := "getClass", desc := "()Ljava/lang/Class;" } : Jvm.MethodName) ({ cls := "java/lang/Object", name := "getClass", desc := "()Ljava/lang/Class;" } : Jvm.MethodName) ∈ WS0 := v_2 104 rfl rfl
theorem w374 : Jvm.Cond.selects "Panelry$Reading" ({ cls := "java/lang/Object", name := "getClass", desc := "()Ljava/lang/Class;" } : Jvm.MethodName) ({ cls := "java/lang/Object", name := "getClass", desc := "()Ljava/lang/Class;" } : Jvm.MethodName) ∈ WS0 := v_2 105 rfl rfl
theorem w375 : Jvm.Cond.selects "Panelry$Tail" ({ cls := "java/lang/Object", name := "getClass", desc := "()Ljava/lang/Class;" } : Jvm.MethodName) ({ cls := "java/lang/Object", name := "getClass", desc := "()Ljava/lang/Class;" } : Jvm.MethodName) ∈ WS0 := v_2 106 rfl rfl
theorem w376 : Jvm.Cond.selects "Panelry$Telling" ({ cls := "java/lang/Object", name := "getClass", desc := "()Ljava/lang/Class;" } : Jvm.MethodName) ({ cls := "java/lang/Object", name := "getClass", desc := "()Ljava/lang/Class;" } : Jvm.MethodName) ∈ WS0 := v_2 107 rfl rfl
theorem w377 : Jvm.Cond.selects "PanelryModel" ({ cls := "java/lang/Object", name := "getClass", desc := "()Ljava/lang/Class;" } : Jvm.MethodName) ({ cls := "java/lang/Object", name := "getClass", desc := "()Ljava/lang/Class;" } : Jvm.MethodName) ∈ WS0 := v_2 108 rfl rfl
theorem w378 : Jvm.Cond.selects "java/lang/IllegalArgumentException" ({ cls := "java/lang/Object", name := "getClass", desc := "()Ljava/lang/Class;" } : Jvm.MethodName) ({ cls := "java/lang/Object", name := "getClass", desc := "()Ljava/lang/Class;" } : Jvm.MethodName) ∈ WS0 := v_2 109 rfl rfl
theorem w379 : Jvm.Cond.selects "java/lang/IllegalStateException" ({ cls := "java/lang/Object", name := "getClass", desc := "()Ljava/lang/Class;" } : Jvm.MethodName) ({ cls := "java/lang/Object", name := "getClass", desc := "()Ljava/lang/Class;" } : Jvm.MethodName) ∈ WS0 := v_2 110 rfl rfl
theorem w380 : Jvm.Cond.selects "java/lang/IndexOutOfBoundsException" ({ cls := "java/lang/Object", name := "getClass", desc := "()Ljava/lang/Class;" } : Jvm.MethodName) ({ cls := "java/lang/Object", name := "getClass", desc := "()Ljava/lang/Class;" } : Jvm.MethodName) ∈ WS0 := v_2 111 rfl rfl
theorem w381 : Jvm.Cond.selects "java/util/ArrayList" ({ cls := "java/lang/Object", name := "getClass", desc := "()Ljava/lang/Class;" } : Jvm.MethodName) ({ cls := "java/lang/Object", name := "getClass", desc := "()Ljava/lang/Class;" } : Jvm.MethodName) ∈ WS0 := v_2 112 rfl rfl
theorem w382 : Jvm.Cond.native ({ cls := "java/lang/Object", name := "getClass", desc := "()Ljava/lang/Class;" } : Jvm.MethodName) ∈ WS0 := v_2 113 rfl rfl
theorem w383 : Jvm.Cond.methodLink "java/util/Arrays" (300 : Nat) ({ cls := "java/util/Arrays", name := "copyOf", desc := "([Ljava/lang/Object;ILjava/lang/Class;)[Ljava/lang/Object;" } : Jvm.MethodName) ∈ WS0 := v_2 114 rfl rfl
theorem w384 : Jvm.Cond.static ({ cls := "java/util/Arrays", name := "copyOf", desc := "([Ljava/lang/Object;ILjava/lang/Class;)[Ljava/lang/Object;" } : Jvm.MethodName) ∈ WS0 := v_2 115 rfl rfl
theorem w385 : Jvm.Cond.code ({ cls := "java/util/Arrays", name := "copyOf", desc := "([Ljava/lang/Object;ILjava/lang/Class;)[Ljava/lang/Object;" } : Jvm.MethodName) prog_28_method_120_code (4 : Nat) (Option.some (Jvm.ClassFile.FieldType.array (Jvm.ClassFile.FieldType.object "java/lang/Object"))) ∈ WS0 := v_2 116 rfl rfl
theorem w386 : Jvm.Cond.classLink "java/util/Arrays" (110 : Nat) "[Ljava/lang/Object;" ∈ WS0 := v_2 117 rfl rfl
theorem w388 : Jvm.Cond.classLink "java/util/Arrays" (2 : Nat) "java/lang/Object" ∈ WS0 := v_2 119 rfl rfl
theorem w389 : Jvm.Cond.methodLink "java/util/Arrays" (304 : Nat) ({ cls := "java/lang/Math", name := "min", desc := "(II)I" } : Jvm.MethodName) ∈ WS0 := v_2 120 rfl rfl
theorem w390 : Jvm.Cond.methodLink "java/util/Arrays" (150 : Nat) ({ cls := "java/lang/System", name := "arraycopy", desc := "(Ljava/lang/Object;ILjava/lang/Object;II)V" } : Jvm.MethodName) ∈ WS0 := v_2 121 rfl rfl
theorem w391 : Jvm.Cond.static ({ cls := "java/lang/System", name := "arraycopy", desc := "(Ljava/lang/Object;ILjava/lang/Object;II)V" } : Jvm.MethodName) ∈ WS0 := v_2 122 rfl rfl
theorem w392 : Jvm.Cond.native ({ cls := "java/lang/System", name := "arraycopy", desc := "(Ljava/lang/Object;ILjava/lang/Object;II)V" } : Jvm.MethodName) ∈ WS0 := v_2 123 rfl rfl
theorem w393 : Jvm.Cond.methodLink "java/util/ArrayList" (79 : Nat) ({ cls := "java/lang/Math", name := "max", desc := "(II)I" } : Jvm.MethodName) ∈ WS0 := v_2 124 rfl rfl
theorem w394 : Jvm.Cond.classLink "java/util/ArrayList" (7 : Nat) "java/lang/Object" ∈ WS0 := v_2 125 rfl rfl
theorem w395 : Jvm.Cond.methodLink "PanelryLaw" (104 : Nat) ({ cls := "PanelryLaw", name := "panel", desc := "(LPanelry;IIIII[J)I" } : Jvm.MethodName) ∈ WS0 := v_2 126 rfl rfl
theorem w396 : Jvm.Cond.static ({ cls := "PanelryLaw", name := "panel", desc := "(LPanelry;IIIII[J)I" } : Jvm.MethodName) ∈ WS0 := v_2 127 rfl rfl
theorem w398 : Jvm.Cond.classLink "PanelryLaw" (19 : Nat) "java/lang/IndexOutOfBoundsException" ∈ WS0 := v_2 129 rfl rfl
theorem w399 : Jvm.Cond.classLink "PanelryLaw" (21 : Nat) "java/lang/IllegalArgumentException" ∈ WS0 := v_2 130 rfl rfl
theorem w400 : Jvm.Cond.methodLink "PanelryLaw" (15 : Nat) ({ cls := "Panelry", name := "panel", desc := "(IIIII)I" } : Jvm.MethodName) ∈ WS0 := v_2 131 rfl rfl
theorem w401 : Jvm.Cond.instanceMethod ({ cls := "Panelry", name := "panel", desc := "(IIIII)I" } : Jvm.MethodName) ∈ WS0 := v_2 132 rfl rfl
theorem w402 : Jvm.Cond.selects "Panelry" ({ cls := "Panelry", name := "panel", desc := "(IIIII)I" } : Jvm.MethodName) ({ cls := "Panelry", name := "panel", desc := "(IIIII)I" } : Jvm.MethodName) ∈ WS0 := v_2 133 rfl rfl
theorem w403 : Jvm.Cond.code ({ cls := "Panelry", name := "panel", desc := "(IIIII)I" } : Jvm.MethodName) prog_1_method_3_code (8 : Nat) (Option.some Jvm.ClassFile.FieldType.int) ∈ WS0 := v_2 134 rfl rfl
theorem w404 : Jvm.Cond.methodLink "Panelry" (35 : Nat) ({ cls := "Panelry", name := "existingPage", desc := "(I)LPanelry$Page;" } : Jvm.MethodName) ∈ WS0 := v_2 135 rfl rfl
theorem w406 : Jvm.Cond.instanceMethod ({ cls := "Panelry", name := "existingPage", desc := "(I)LPanelry$Page;" } : Jvm.MethodName) ∈ WS0 := v_2 137 rfl rfl
theorem w407 : Jvm.Cond.code ({ cls := "Panelry", name := "existingPage", desc := "(I)LPanelry$Page;" } : Jvm.MethodName) prog_1_method_28_code (2 : Nat) (Option.some (Jvm.ClassFile.FieldType.object "Panelry$Page")) ∈ WS0 := v_2 138 rfl rfl
theorem w408 : Jvm.Cond.classLink "Panelry" (94 : Nat) "java/lang/IndexOutOfBoundsException" ∈ WS0 := v_2 139 rfl rfl
theorem w409 : Jvm.Cond.instantiable "java/lang/IndexOutOfBoundsException" (6 : Nat) ∈ WS0 := v_2 140 rfl rfl
theorem w411 : Jvm.Cond.selects "java/lang/IndexOutOfBoundsException" ({ cls := "java/lang/Throwable", name := "fillInStackTrace", desc := "(I)Ljava/lang/Throwable;" } : Jvm.MethodName) ({ cls := "java/lang/Throwable", name := "fillInStackTrace", desc := "(I)Ljava/lang/Throwable;" } : Jvm.MethodName) ∈ WS0 := v_2 142 rfl rfl
theorem w418 : Jvm.Cond.methodLink "Panelry" (98 : Nat) ({ cls := "java/lang/IndexOutOfBoundsException", name := "<init>", desc := "(Ljava/lang/String;)V" } : Jvm.MethodName) ∈ WS0 := v_2 149 rfl rfl
theorem w419 : Jvm.Cond.instanceMethod ({ cls := "java/lang/IndexOutOfBoundsException", name := "<init>", desc := "(Ljava/lang/String;)V" } : Jvm.MethodName) ∈ WS0 := v_2 150 rfl rfl
theorem w420 : Jvm.Cond.code ({ cls := "java/lang/IndexOutOfBoundsException", name := "<init>", desc := "(Ljava/lang/String;)V" } : Jvm.MethodName) prog_17_method_2_code (2 : Nat) (Option.none : Option Jvm.ClassFile.FieldType) ∈ WS0 := v_2 151 rfl rfl
theorem w421 : Jvm.Cond.methodLink "java/lang/IndexOutOfBoundsException" (7 : Nat) ({ cls := "java/lang/RuntimeException", name := "<init>", desc := "(Ljava/lang/String;)V" } : Jvm.MethodName) ∈ WS0 := v_2 152 rfl rfl
theorem w424 : Jvm.Cond.methodLink "Panelry" (39 : Nat) ({ cls := "Panelry", name := "requireRange", desc := "(III)V" } : Jvm.MethodName) ∈ WS0 := v_2 155 rfl rfl
theorem w425 : Jvm.Cond.static ({ cls := "Panelry", name := "requireRange", desc := "(III)V" } : Jvm.MethodName) ∈ WS0 := v_2 156 rfl rfl
theorem w426 : Jvm.Cond.code ({ cls := "Panelry", name := "requireRange", desc := "(III)V" } : Jvm.MethodName) prog_1_method_24_code (3 : Nat) (Option.none : Option Jvm.ClassFile.FieldType) ∈ WS0 := v_2 157 rfl rfl
theorem w427 : Jvm.Cond.classLink "Panelry" (52 : Nat) "java/lang/IllegalArgumentException" ∈ WS0 := v_2 158 rfl rfl
theorem w428 : Jvm.Cond.instantiable "java/lang/IllegalArgumentException" (6 : Nat) ∈ WS0 := v_2 159 rfl rfl
theorem w430 : Jvm.Cond.selects "java/lang/IllegalArgumentException" ({ cls := "java/lang/Throwable", name := "fillInStackTrace", desc := "(I)Ljava/lang/Throwable;" } : Jvm.MethodName) ({ cls := "java/lang/Throwable", name := "fillInStackTrace", desc := "(I)Ljava/lang/Throwable;" } : Jvm.MethodName) ∈ WS0 := v_2 161 rfl rfl
theorem w437 : Jvm.Cond.methodLink "Panelry" (56 : Nat) ({ cls := "java/lang/IllegalArgumentException", name := "<init>", desc := "(Ljava/lang/String;)V" } : Jvm.MethodName) ∈ WS0 := v_2 168 rfl rfl
theorem w438 : Jvm.Cond.instanceMethod ({ cls := "java/lang/IllegalArgumentException", name := "<init>", desc := "(Ljava/lang/String;)V" } : Jvm.MethodName) ∈ WS0 := v_2 169 rfl rfl
theorem w439 : Jvm.Cond.code ({ cls := "java/lang/IllegalArgumentException", name := "<init>", desc := "(Ljava/lang/String;)V" } : Jvm.MethodName) prog_15_method_2_code (2 : Nat) (Option.none : Option Jvm.ClassFile.FieldType) ∈ WS0 := v_2 170 rfl rfl
theorem w440 : Jvm.Cond.methodLink "java/lang/IllegalArgumentException" (7 : Nat) ({ cls := "java/lang/RuntimeException", name := "<init>", desc := "(Ljava/lang/String;)V" } : Jvm.MethodName) ∈ WS0 := v_2 171 rfl rfl
theorem w443 : Jvm.Cond.classLink "Panelry" (43 : Nat) "Panelry$Box" ∈ WS0 := v_2 174 rfl rfl
theorem w444 : Jvm.Cond.instantiable "Panelry$Box" (4 : Nat) ∈ WS0 := v_2 175 rfl rfl
theorem w445 : Jvm.Cond.methodLink "Panelry" (45 : Nat) ({ cls := "Panelry$Box", name := "<init>", desc := "(IIII)V" } : Jvm.MethodName) ∈ WS0 := v_2 176 rfl rfl
theorem w446 : Jvm.Cond.instanceMethod ({ cls := "Panelry$Box", name := "<init>", desc := "(IIII)V" } : Jvm.MethodName) ∈ WS0 := v_2 177 rfl rfl
theorem w447 : Jvm.Cond.code ({ cls := "Panelry$Box", name := "<init>", desc := "(IIII)V" } : Jvm.MethodName) prog_3_method_1_code (5 : Nat) (Option.none : Option Jvm.ClassFile.FieldType) ∈ WS0 := v_2 178 rfl rfl
theorem w448 : Jvm.Cond.methodLink "Panelry$Box" (3 : Nat) ({ cls := "java/lang/Object", name := "<init>", desc := "()V" } : Jvm.MethodName) ∈ WS0 := v_2 179 rfl rfl
theorem w449 : Jvm.Cond.fieldLink "Panelry$Box" (9 : Nat) "Panelry$Box" "x" "I" ∈ WS0 := v_2 180 rfl rfl
theorem w450 : Jvm.Cond.fieldLink "Panelry$Balloon" (40 : Nat) "Panelry$Box" "x" "I" ∈ WS0 := v_2 181 rfl rfl
theorem w451 : Jvm.Cond.fieldLink "Panelry$Tail" (39 : Nat) "Panelry$Box" "x" "I" ∈ WS0 := v_2 182 rfl rfl
theorem w452 : Jvm.Cond.fieldLink "Panelry$Box" (15 : Nat) "Panelry$Box" "y" "I" ∈ WS0 := v_2 183 rfl rfl
theorem w453 : Jvm.Cond.fieldLink "Panelry$Balloon" (33 : Nat) "Panelry$Box" "y" "I" ∈ WS0 := v_2 184 rfl rfl
theorem w454 : Jvm.Cond.fieldLink "Panelry$Tail" (42 : Nat) "Panelry$Box" "y" "I" ∈ WS0 := v_2 185 rfl rfl
theorem w455 : Jvm.Cond.fieldLink "Panelry$Box" (18 : Nat) "Panelry$Box" "width" "I" ∈ WS0 := v_2 186 rfl rfl
theorem w456 : Jvm.Cond.fieldLink "Panelry$Balloon" (25 : Nat) "Panelry$Box" "width" "I" ∈ WS0 := v_2 187 rfl rfl
theorem w457 : Jvm.Cond.fieldLink "Panelry" (172 : Nat) "Panelry$Box" "width" "I" ∈ WS0 := v_2 188 rfl rfl
theorem w458 : Jvm.Cond.fieldLink "Panelry$Box" (21 : Nat) "Panelry$Box" "height" "I" ∈ WS0 := v_2 189 rfl rfl
theorem w459 : Jvm.Cond.fieldLink "Panelry$Balloon" (30 : Nat) "Panelry$Box" "height" "I" ∈ WS0 := v_2 190 rfl rfl
theorem w460 : Jvm.Cond.fieldLink "Panelry" (175 : Nat) "Panelry$Box" "height" "I" ∈ WS0 := v_2 191 rfl rfl
theorem w470 : Jvm.Cond.methodLink "Panelry" (48 : Nat) ({ cls := "Panelry$Box", name := "isOnPage", desc := "()Z" } : Jvm.MethodName) ∈ WS0 := v_2 201 rfl rfl
theorem w471 : Jvm.Cond.instanceMethod ({ cls := "Panelry$Box", name := "isOnPage", desc := "()Z" } : Jvm.MethodName) ∈ WS0 := v_2 202 rfl rfl
theorem w472 : Jvm.Cond.selects "Panelry$Box" ({ cls := "Panelry$Box", name := "isOnPage", desc := "()Z" } : Jvm.MethodName) ({ cls := "Panelry$Box", name := "isOnPage", desc := "()Z" } : Jvm.MethodName) ∈ WS0 := v_2 203 rfl rfl
theorem w473 : Jvm.Cond.code ({ cls := "Panelry$Box", name := "isOnPage", desc := "()Z" } : Jvm.MethodName) prog_3_method_8_code (1 : Nat) (Option.some Jvm.ClassFile.FieldType.boolean) ∈ WS0 := v_2 204 rfl rfl
theorem w474 : Jvm.Cond.methodLink "Panelry$Box" (24 : Nat) ({ cls := "Panelry$Box", name := "endX", desc := "()I" } : Jvm.MethodName) ∈ WS0 := v_2 205 rfl rfl
theorem w475 : Jvm.Cond.instanceMethod ({ cls := "Panelry$Box", name := "endX", desc := "()I" } : Jvm.MethodName) ∈ WS0 := v_2 206 rfl rfl
theorem w476 : Jvm.Cond.selects "Panelry$Box" ({ cls := "Panelry$Box", name := "endX", desc := "()I" } : Jvm.MethodName) ({ cls := "Panelry$Box", name := "endX", desc := "()I" } : Jvm.MethodName) ∈ WS0 := v_2 207 rfl rfl
theorem w477 : Jvm.Cond.code ({ cls := "Panelry$Box", name := "endX", desc := "()I" } : Jvm.MethodName) prog_3_method_2_code (1 : Nat) (Option.some Jvm.ClassFile.FieldType.int) ∈ WS0 := v_2 208 rfl rfl
theorem w478 : Jvm.Cond.methodLink "Panelry$Box" (28 : Nat) ({ cls := "Panelry$Box", name := "endY", desc := "()I" } : Jvm.MethodName) ∈ WS0 := v_2 209 rfl rfl
theorem w479 : Jvm.Cond.instanceMethod ({ cls := "Panelry$Box", name := "endY", desc := "()I" } : Jvm.MethodName) ∈ WS0 := v_2 210 rfl rfl
theorem w480 : Jvm.Cond.selects "Panelry$Box" ({ cls := "Panelry$Box", name := "endY", desc := "()I" } : Jvm.MethodName) ({ cls := "Panelry$Box", name := "endY", desc := "()I" } : Jvm.MethodName) ∈ WS0 := v_2 211 rfl rfl
theorem w481 : Jvm.Cond.code ({ cls := "Panelry$Box", name := "endY", desc := "()I" } : Jvm.MethodName) prog_3_method_3_code (1 : Nat) (Option.some Jvm.ClassFile.FieldType.int) ∈ WS0 := v_2 212 rfl rfl
theorem w483 : Jvm.Cond.methodLink "Panelry" (59 : Nat) ({ cls := "Panelry", name := "requireUnprinted", desc := "(LPanelry$Page;)V" } : Jvm.MethodName) ∈ WS0 := v_2 214 rfl rfl
theorem w484 : Jvm.Cond.static ({ cls := "Panelry", name := "requireUnprinted", desc := "(LPanelry$Page;)V" } : Jvm.MethodName) ∈ WS0 := v_2 215 rfl rfl
theorem w485 : Jvm.Cond.code ({ cls := "Panelry", name := "requireUnprinted", desc := "(LPanelry$Page;)V" } : Jvm.MethodName) prog_1_method_25_code (1 : Nat) (Option.none : Option Jvm.ClassFile.FieldType) ∈ WS0 := v_2 216 rfl rfl
theorem w488 : Jvm.Cond.methodLink "Panelry" (75 : Nat) ({ cls := "Panelry$Page", name := "hasPanelOver", desc := "(LPanelry$Box;)Z" } : Jvm.MethodName) ∈ WS0 := v_2 219 rfl rfl
theorem w489 : Jvm.Cond.instanceMethod ({ cls := "Panelry$Page", name := "hasPanelOver", desc := "(LPanelry$Box;)Z" } : Jvm.MethodName) ∈ WS0 := v_2 220 rfl rfl
theorem w490 : Jvm.Cond.selects "Panelry$Page" ({ cls := "Panelry$Page", name := "hasPanelOver", desc := "(LPanelry$Box;)Z" } : Jvm.MethodName) ({ cls := "Panelry$Page", name := "hasPanelOver", desc := "(LPanelry$Box;)Z" } : Jvm.MethodName) ∈ WS0 := v_2 221 rfl rfl
theorem w491 : Jvm.Cond.code ({ cls := "Panelry$Page", name := "hasPanelOver", desc := "(LPanelry$Box;)Z" } : Jvm.MethodName) prog_5_method_3_code (3 : Nat) (Option.some Jvm.ClassFile.FieldType.boolean) ∈ WS0 := v_2 222 rfl rfl
theorem w492 : Jvm.Cond.methodLink "Panelry$Page" (39 : Nat) ({ cls := "Panelry$Box", name := "overlaps", desc := "(LPanelry$Box;)Z" } : Jvm.MethodName) ∈ WS0 := v_2 223 rfl rfl
theorem w493 : Jvm.Cond.instanceMethod ({ cls := "Panelry$Box", name := "overlaps", desc := "(LPanelry$Box;)Z" } : Jvm.MethodName) ∈ WS0 := v_2 224 rfl rfl
theorem w494 : Jvm.Cond.selects "Panelry$Box" ({ cls := "Panelry$Box", name := "overlaps", desc := "(LPanelry$Box;)Z" } : Jvm.MethodName) ({ cls := "Panelry$Box", name := "overlaps", desc := "(LPanelry$Box;)Z" } : Jvm.MethodName) ∈ WS0 := v_2 225 rfl rfl
theorem w495 : Jvm.Cond.code ({ cls := "Panelry$Box", name := "overlaps", desc := "(LPanelry$Box;)Z" } : Jvm.MethodName) prog_3_method_10_code (2 : Nat) (Option.some Jvm.ClassFile.FieldType.boolean) ∈ WS0 := v_2 226 rfl rfl
theorem w496 : Jvm.Cond.methodLink "Panelry$Box" (31 : Nat) ({ cls := "Panelry$Box", name := "sharesHeight", desc := "(LPanelry$Box;)Z" } : Jvm.MethodName) ∈ WS0 := v_2 227 rfl rfl
theorem w497 : Jvm.Cond.instanceMethod ({ cls := "Panelry$Box", name := "sharesHeight", desc := "(LPanelry$Box;)Z" } : Jvm.MethodName) ∈ WS0 := v_2 228 rfl rfl
theorem w498 : Jvm.Cond.selects "Panelry$Box" ({ cls := "Panelry$Box", name := "sharesHeight", desc := "(LPanelry$Box;)Z" } : Jvm.MethodName) ({ cls := "Panelry$Box", name := "sharesHeight", desc := "(LPanelry$Box;)Z" } : Jvm.MethodName) ∈ WS0 := v_2 229 rfl rfl
theorem w499 : Jvm.Cond.code ({ cls := "Panelry$Box", name := "sharesHeight", desc := "(LPanelry$Box;)Z" } : Jvm.MethodName) prog_3_method_11_code (2 : Nat) (Option.some Jvm.ClassFile.FieldType.boolean) ∈ WS0 := v_2 230 rfl rfl
theorem w501 : Jvm.Cond.classLink "Panelry" (81 : Nat) "Panelry$Panel" ∈ WS0 := v_2 232 rfl rfl
theorem w502 : Jvm.Cond.instantiable "Panelry$Panel" (2 : Nat) ∈ WS0 := v_2 233 rfl rfl
theorem w503 : Jvm.Cond.methodLink "Panelry" (83 : Nat) ({ cls := "Panelry$Panel", name := "<init>", desc := "(LPanelry$Box;)V" } : Jvm.MethodName) ∈ WS0 := v_2 234 rfl rfl
theorem w504 : Jvm.Cond.instanceMethod ({ cls := "Panelry$Panel", name := "<init>", desc := "(LPanelry$Box;)V" } : Jvm.MethodName) ∈ WS0 := v_2 235 rfl rfl
theorem w505 : Jvm.Cond.code ({ cls := "Panelry$Panel", name := "<init>", desc := "(LPanelry$Box;)V" } : Jvm.MethodName) prog_6_method_1_code (2 : Nat) (Option.none : Option Jvm.ClassFile.FieldType) ∈ WS0 := v_2 236 rfl rfl
theorem w506 : Jvm.Cond.methodLink "Panelry$Panel" (3 : Nat) ({ cls := "java/lang/Object", name := "<init>", desc := "()V" } : Jvm.MethodName) ∈ WS0 := v_2 237 rfl rfl
theorem w507 : Jvm.Cond.classLink "Panelry$Panel" (9 : Nat) "Panelry$Face" ∈ WS0 := v_2 238 rfl rfl
theorem w509 : Jvm.Cond.fieldLink "Panelry$Panel" (17 : Nat) "Panelry$Panel" "box" "LPanelry$Box;" ∈ WS0 := v_3 0 rfl rfl
theorem w510 : Jvm.Cond.fieldLink "Panelry$Page" (35 : Nat) "Panelry$Panel" "box" "LPanelry$Box;" ∈ WS0 := v_3 1 rfl rfl
theorem w511 : Jvm.Cond.fieldLink "Panelry$Reading" (96 : Nat) "Panelry$Panel" "box" "LPanelry$Box;" ∈ WS0 := v_3 2 rfl rfl
theorem w512 : Jvm.Cond.fieldLink "Panelry" (139 : Nat) "Panelry$Panel" "box" "LPanelry$Box;" ∈ WS0 := v_3 3 rfl rfl
theorem w513 : Jvm.Cond.fieldLink "Panelry$Panel" (11 : Nat) "Panelry$Panel" "faces" "[LPanelry$Face;" ∈ WS0 := v_3 4 rfl rfl
theorem w519 : Jvm.Cond.methodLink "PanelryLaw" (108 : Nat) ({ cls := "PanelryLaw", name := "turn", desc := "(LPanelry;IZ[J)I" } : Jvm.MethodName) ∈ WS0 := v_3 10 rfl rfl
theorem w520 : Jvm.Cond.static ({ cls := "PanelryLaw", name := "turn", desc := "(LPanelry;IZ[J)I" } : Jvm.MethodName) ∈ WS0 := v_3 11 rfl rfl
theorem w522 : Jvm.Cond.methodLink "PanelryLaw" (23 : Nat) ({ cls := "Panelry", name := "turn", desc := "(IZ)Z" } : Jvm.MethodName) ∈ WS0 := v_3 13 rfl rfl
theorem w523 : Jvm.Cond.instanceMethod ({ cls := "Panelry", name := "turn", desc := "(IZ)Z" } : Jvm.MethodName) ∈ WS0 := v_3 14 rfl rfl
theorem w524 : Jvm.Cond.selects "Panelry" ({ cls := "Panelry", name := "turn", desc := "(IZ)Z" } : Jvm.MethodName) ({ cls := "Panelry", name := "turn", desc := "(IZ)Z" } : Jvm.MethodName) ∈ WS0 := v_3 15 rfl rfl
theorem w525 : Jvm.Cond.code ({ cls := "Panelry", name := "turn", desc := "(IZ)Z" } : Jvm.MethodName) prog_1_method_4_code (5 : Nat) (Option.some Jvm.ClassFile.FieldType.boolean) ∈ WS0 := v_3 16 rfl rfl
theorem w526 : Jvm.Cond.methodLink "PanelryLaw" (112 : Nat) ({ cls := "PanelryLaw", name := "read", desc := "(LPanelry;IZI[J)I" } : Jvm.MethodName) ∈ WS0 := v_3 17 rfl rfl
theorem w527 : Jvm.Cond.static ({ cls := "PanelryLaw", name := "read", desc := "(LPanelry;IZI[J)I" } : Jvm.MethodName) ∈ WS0 := v_3 18 rfl rfl
theorem w529 : Jvm.Cond.methodLink "PanelryLaw" (27 : Nat) ({ cls := "Panelry", name := "read", desc := "(IZI)I" } : Jvm.MethodName) ∈ WS0 := v_3 20 rfl rfl
theorem w530 : Jvm.Cond.instanceMethod ({ cls := "Panelry", name := "read", desc := "(IZI)I" } : Jvm.MethodName) ∈ WS0 := v_3 21 rfl rfl
theorem w531 : Jvm.Cond.selects "Panelry" ({ cls := "Panelry", name := "read", desc := "(IZI)I" } : Jvm.MethodName) ({ cls := "Panelry", name := "read", desc := "(IZI)I" } : Jvm.MethodName) ∈ WS0 := v_3 22 rfl rfl
theorem w532 : Jvm.Cond.code ({ cls := "Panelry", name := "read", desc := "(IZI)I" } : Jvm.MethodName) prog_1_method_5_code (5 : Nat) (Option.some Jvm.ClassFile.FieldType.int) ∈ WS0 := v_3 23 rfl rfl
theorem w534 : Jvm.Cond.methodLink "Panelry" (99 : Nat) ({ cls := "Panelry$Reading", name := "of", desc := "(LPanelry$Page;Z)LPanelry$Reading;" } : Jvm.MethodName) ∈ WS0 := v_3 25 rfl rfl
theorem w535 : Jvm.Cond.methodLink "Panelry" (105 : Nat) ({ cls := "Panelry$Reading", name := "panelAt", desc := "(I)I" } : Jvm.MethodName) ∈ WS0 := v_3 26 rfl rfl
theorem w536 : Jvm.Cond.methodLink "PanelryLaw" (116 : Nat) ({ cls := "PanelryLaw", name := "doubts", desc := "(LPanelry;I[J)I" } : Jvm.MethodName) ∈ WS0 := v_3 27 rfl rfl
theorem w537 : Jvm.Cond.static ({ cls := "PanelryLaw", name := "doubts", desc := "(LPanelry;I[J)I" } : Jvm.MethodName) ∈ WS0 := v_3 28 rfl rfl
theorem w539 : Jvm.Cond.methodLink "PanelryLaw" (31 : Nat) ({ cls := "Panelry", name := "doubts", desc := "(I)I" } : Jvm.MethodName) ∈ WS0 := v_3 30 rfl rfl
theorem w540 : Jvm.Cond.instanceMethod ({ cls := "Panelry", name := "doubts", desc := "(I)I" } : Jvm.MethodName) ∈ WS0 := v_3 31 rfl rfl
theorem w541 : Jvm.Cond.selects "Panelry" ({ cls := "Panelry", name := "doubts", desc := "(I)I" } : Jvm.MethodName) ({ cls := "Panelry", name := "doubts", desc := "(I)I" } : Jvm.MethodName) ∈ WS0 := v_3 32 rfl rfl
theorem w542 : Jvm.Cond.code ({ cls := "Panelry", name := "doubts", desc := "(I)I" } : Jvm.MethodName) prog_1_method_6_code (3 : Nat) (Option.some Jvm.ClassFile.FieldType.int) ∈ WS0 := v_3 33 rfl rfl
theorem w543 : Jvm.Cond.methodLink "PanelryLaw" (120 : Nat) ({ cls := "PanelryLaw", name := "orders", desc := "(LPanelry;IZ[J)I" } : Jvm.MethodName) ∈ WS0 := v_3 34 rfl rfl
theorem w544 : Jvm.Cond.static ({ cls := "PanelryLaw", name := "orders", desc := "(LPanelry;IZ[J)I" } : Jvm.MethodName) ∈ WS0 := v_3 35 rfl rfl
theorem w546 : Jvm.Cond.methodLink "PanelryLaw" (35 : Nat) ({ cls := "Panelry", name := "orders", desc := "(IZ)I" } : Jvm.MethodName) ∈ WS0 := v_3 37 rfl rfl
theorem w547 : Jvm.Cond.instanceMethod ({ cls := "Panelry", name := "orders", desc := "(IZ)I" } : Jvm.MethodName) ∈ WS0 := v_3 38 rfl rfl
theorem w548 : Jvm.Cond.selects "Panelry" ({ cls := "Panelry", name := "orders", desc := "(IZ)I" } : Jvm.MethodName) ({ cls := "Panelry", name := "orders", desc := "(IZ)I" } : Jvm.MethodName) ∈ WS0 := v_3 39 rfl rfl
theorem w549 : Jvm.Cond.code ({ cls := "Panelry", name := "orders", desc := "(IZ)I" } : Jvm.MethodName) prog_1_method_7_code (4 : Nat) (Option.some Jvm.ClassFile.FieldType.int) ∈ WS0 := v_3 40 rfl rfl
theorem w550 : Jvm.Cond.methodLink "Panelry" (112 : Nat) ({ cls := "Panelry$Page", name := "allPanels", desc := "()I" } : Jvm.MethodName) ∈ WS0 := v_3 41 rfl rfl
theorem w551 : Jvm.Cond.methodLink "Panelry" (115 : Nat) ({ cls := "Panelry", name := "countOrders", desc := "(LPanelry$Page;IZI)I" } : Jvm.MethodName) ∈ WS0 := v_3 42 rfl rfl
theorem w552 : Jvm.Cond.static ({ cls := "Panelry", name := "countOrders", desc := "(LPanelry$Page;IZI)I" } : Jvm.MethodName) ∈ WS0 := v_3 43 rfl rfl
theorem w553 : Jvm.Cond.code ({ cls := "Panelry", name := "countOrders", desc := "(LPanelry$Page;IZI)I" } : Jvm.MethodName) prog_1_method_33_code (6 : Nat) (Option.some Jvm.ClassFile.FieldType.int) ∈ WS0 := v_3 44 rfl rfl
theorem w554 : Jvm.Cond.methodLink "Panelry" (283 : Nat) ({ cls := "Panelry", name := "isIn", desc := "(II)Z" } : Jvm.MethodName) ∈ WS0 := v_3 45 rfl rfl
theorem w555 : Jvm.Cond.methodLink "Panelry" (287 : Nat) ({ cls := "Panelry$Page", name := "hasOneAheadOf", desc := "(IIZ)Z" } : Jvm.MethodName) ∈ WS0 := v_3 46 rfl rfl
theorem w556 : Jvm.Cond.instanceMethod ({ cls := "Panelry$Page", name := "hasOneAheadOf", desc := "(IIZ)Z" } : Jvm.MethodName) ∈ WS0 := v_3 47 rfl rfl
theorem w557 : Jvm.Cond.selects "Panelry$Page" ({ cls := "Panelry$Page", name := "hasOneAheadOf", desc := "(IIZ)Z" } : Jvm.MethodName) ({ cls := "Panelry$Page", name := "hasOneAheadOf", desc := "(IIZ)Z" } : Jvm.MethodName) ∈ WS0 := v_3 48 rfl rfl
theorem w558 : Jvm.Cond.code ({ cls := "Panelry$Page", name := "hasOneAheadOf", desc := "(IIZ)Z" } : Jvm.MethodName) prog_5_method_4_code (6 : Nat) (Option.some Jvm.ClassFile.FieldType.boolean) ∈ WS0 := v_3 49 rfl rfl
theorem w560 : Jvm.Cond.methodLink "Panelry$Page" (49 : Nat) ({ cls := "Panelry$Box", name := "hasToComeAheadOf", desc := "(LPanelry$Box;Z)Z" } : Jvm.MethodName) ∈ WS0 := v_3 51 rfl rfl
theorem w561 : Jvm.Cond.instanceMethod ({ cls := "Panelry$Box", name := "hasToComeAheadOf", desc := "(LPanelry$Box;Z)Z" } : Jvm.MethodName) ∈ WS0 := v_3 52 rfl rfl
theorem w562 : Jvm.Cond.selects "Panelry$Box" ({ cls := "Panelry$Box", name := "hasToComeAheadOf", desc := "(LPanelry$Box;Z)Z" } : Jvm.MethodName) ({ cls := "Panelry$Box", name := "hasToComeAheadOf", desc := "(LPanelry$Box;Z)Z" } : Jvm.MethodName) ∈ WS0 := v_3 53 rfl rfl
theorem w563 : Jvm.Cond.code ({ cls := "Panelry$Box", name := "hasToComeAheadOf", desc := "(LPanelry$Box;Z)Z" } : Jvm.MethodName) prog_3_method_12_code (4 : Nat) (Option.some Jvm.ClassFile.FieldType.boolean) ∈ WS0 := v_3 54 rfl rfl
theorem w564 : Jvm.Cond.methodLink "PanelryLaw" (123 : Nat) ({ cls := "PanelryLaw", name := "isOne", desc := "(LPanelry;IZ[J)I" } : Jvm.MethodName) ∈ WS0 := v_3 55 rfl rfl
theorem w565 : Jvm.Cond.static ({ cls := "PanelryLaw", name := "isOne", desc := "(LPanelry;IZ[J)I" } : Jvm.MethodName) ∈ WS0 := v_3 56 rfl rfl
theorem w567 : Jvm.Cond.methodLink "PanelryLaw" (39 : Nat) ({ cls := "Panelry", name := "isOne", desc := "(IZ)Z" } : Jvm.MethodName) ∈ WS0 := v_3 58 rfl rfl
theorem w568 : Jvm.Cond.instanceMethod ({ cls := "Panelry", name := "isOne", desc := "(IZ)Z" } : Jvm.MethodName) ∈ WS0 := v_3 59 rfl rfl
theorem w569 : Jvm.Cond.selects "Panelry" ({ cls := "Panelry", name := "isOne", desc := "(IZ)Z" } : Jvm.MethodName) ({ cls := "Panelry", name := "isOne", desc := "(IZ)Z" } : Jvm.MethodName) ∈ WS0 := v_3 60 rfl rfl
theorem w570 : Jvm.Cond.code ({ cls := "Panelry", name := "isOne", desc := "(IZ)Z" } : Jvm.MethodName) prog_1_method_8_code (3 : Nat) (Option.some Jvm.ClassFile.FieldType.boolean) ∈ WS0 := v_3 61 rfl rfl
theorem w571 : Jvm.Cond.methodLink "Panelry" (119 : Nat) ({ cls := "Panelry$Reading", name := "keepsAhead", desc := "()Z" } : Jvm.MethodName) ∈ WS0 := v_3 62 rfl rfl
theorem w572 : Jvm.Cond.instanceMethod ({ cls := "Panelry$Reading", name := "keepsAhead", desc := "()Z" } : Jvm.MethodName) ∈ WS0 := v_3 63 rfl rfl
theorem w573 : Jvm.Cond.selects "Panelry$Reading" ({ cls := "Panelry$Reading", name := "keepsAhead", desc := "()Z" } : Jvm.MethodName) ({ cls := "Panelry$Reading", name := "keepsAhead", desc := "()Z" } : Jvm.MethodName) ∈ WS0 := v_3 64 rfl rfl
theorem w574 : Jvm.Cond.code ({ cls := "Panelry$Reading", name := "keepsAhead", desc := "()Z" } : Jvm.MethodName) prog_7_method_4_code (4 : Nat) (Option.some Jvm.ClassFile.FieldType.boolean) ∈ WS0 := v_3 65 rfl rfl
theorem w575 : Jvm.Cond.methodLink "Panelry$Reading" (46 : Nat) ({ cls := "Panelry$Reading", name := "panelAt", desc := "(I)I" } : Jvm.MethodName) ∈ WS0 := v_3 66 rfl rfl
theorem w576 : Jvm.Cond.methodLink "Panelry$Reading" (50 : Nat) ({ cls := "Panelry$Page", name := "hasOneAheadOf", desc := "(IIZ)Z" } : Jvm.MethodName) ∈ WS0 := v_3 67 rfl rfl
theorem w577 : Jvm.Cond.methodLink "PanelryLaw" (126 : Nat) ({ cls := "PanelryLaw", name := "mirror", desc := "(LPanelry;I[J)I" } : Jvm.MethodName) ∈ WS0 := v_3 68 rfl rfl
theorem w578 : Jvm.Cond.static ({ cls := "PanelryLaw", name := "mirror", desc := "(LPanelry;I[J)I" } : Jvm.MethodName) ∈ WS0 := v_3 69 rfl rfl
theorem w580 : Jvm.Cond.methodLink "PanelryLaw" (42 : Nat) ({ cls := "Panelry", name := "mirror", desc := "(I)I" } : Jvm.MethodName) ∈ WS0 := v_3 71 rfl rfl
theorem w581 : Jvm.Cond.instanceMethod ({ cls := "Panelry", name := "mirror", desc := "(I)I" } : Jvm.MethodName) ∈ WS0 := v_3 72 rfl rfl
theorem w582 : Jvm.Cond.selects "Panelry" ({ cls := "Panelry", name := "mirror", desc := "(I)I" } : Jvm.MethodName) ({ cls := "Panelry", name := "mirror", desc := "(I)I" } : Jvm.MethodName) ∈ WS0 := v_3 73 rfl rfl
theorem w583 : Jvm.Cond.code ({ cls := "Panelry", name := "mirror", desc := "(I)I" } : Jvm.MethodName) prog_1_method_9_code (3 : Nat) (Option.some Jvm.ClassFile.FieldType.int) ∈ WS0 := v_3 74 rfl rfl
theorem w584 : Jvm.Cond.methodLink "Panelry" (122 : Nat) ({ cls := "Panelry$Page", name := "mirrored", desc := "()LPanelry$Page;" } : Jvm.MethodName) ∈ WS0 := v_3 75 rfl rfl
theorem w585 : Jvm.Cond.instanceMethod ({ cls := "Panelry$Page", name := "mirrored", desc := "()LPanelry$Page;" } : Jvm.MethodName) ∈ WS0 := v_3 76 rfl rfl
theorem w586 : Jvm.Cond.selects "Panelry$Page" ({ cls := "Panelry$Page", name := "mirrored", desc := "()LPanelry$Page;" } : Jvm.MethodName) ({ cls := "Panelry$Page", name := "mirrored", desc := "()LPanelry$Page;" } : Jvm.MethodName) ∈ WS0 := v_3 77 rfl rfl
theorem w587 : Jvm.Cond.code ({ cls := "Panelry$Page", name := "mirrored", desc := "()LPanelry$Page;" } : Jvm.MethodName) prog_5_method_13_code (3 : Nat) (Option.some (Jvm.ClassFile.FieldType.object "Panelry$Page")) ∈ WS0 := v_3 78 rfl rfl
theorem w588 : Jvm.Cond.classLink "Panelry$Page" (13 : Nat) "Panelry$Page" ∈ WS0 := v_3 79 rfl rfl
theorem w589 : Jvm.Cond.methodLink "Panelry$Page" (117 : Nat) ({ cls := "Panelry$Page", name := "<init>", desc := "(Z)V" } : Jvm.MethodName) ∈ WS0 := v_3 80 rfl rfl
theorem w590 : Jvm.Cond.methodLink "Panelry$Page" (120 : Nat) ({ cls := "Panelry$Panel", name := "mirrored", desc := "()LPanelry$Panel;" } : Jvm.MethodName) ∈ WS0 := v_3 81 rfl rfl
theorem w591 : Jvm.Cond.instanceMethod ({ cls := "Panelry$Panel", name := "mirrored", desc := "()LPanelry$Panel;" } : Jvm.MethodName) ∈ WS0 := v_3 82 rfl rfl
theorem w592 : Jvm.Cond.selects "Panelry$Panel" ({ cls := "Panelry$Panel", name := "mirrored", desc := "()LPanelry$Panel;" } : Jvm.MethodName) ({ cls := "Panelry$Panel", name := "mirrored", desc := "()LPanelry$Panel;" } : Jvm.MethodName) ∈ WS0 := v_3 83 rfl rfl
theorem w593 : Jvm.Cond.code ({ cls := "Panelry$Panel", name := "mirrored", desc := "()LPanelry$Panel;" } : Jvm.MethodName) prog_6_method_6_code (4 : Nat) (Option.some (Jvm.ClassFile.FieldType.object "Panelry$Panel")) ∈ WS0 := v_3 84 rfl rfl
theorem w594 : Jvm.Cond.classLink "Panelry$Panel" (12 : Nat) "Panelry$Panel" ∈ WS0 := v_3 85 rfl rfl
theorem w595 : Jvm.Cond.methodLink "Panelry$Panel" (36 : Nat) ({ cls := "Panelry$Box", name := "mirrored", desc := "()LPanelry$Box;" } : Jvm.MethodName) ∈ WS0 := v_3 86 rfl rfl
theorem w596 : Jvm.Cond.instanceMethod ({ cls := "Panelry$Box", name := "mirrored", desc := "()LPanelry$Box;" } : Jvm.MethodName) ∈ WS0 := v_3 87 rfl rfl
theorem w597 : Jvm.Cond.selects "Panelry$Box" ({ cls := "Panelry$Box", name := "mirrored", desc := "()LPanelry$Box;" } : Jvm.MethodName) ({ cls := "Panelry$Box", name := "mirrored", desc := "()LPanelry$Box;" } : Jvm.MethodName) ∈ WS0 := v_3 88 rfl rfl
theorem w598 : Jvm.Cond.code ({ cls := "Panelry$Box", name := "mirrored", desc := "()LPanelry$Box;" } : Jvm.MethodName) prog_3_method_13_code (1 : Nat) (Option.some (Jvm.ClassFile.FieldType.object "Panelry$Box")) ∈ WS0 := v_3 89 rfl rfl
theorem w599 : Jvm.Cond.classLink "Panelry$Box" (10 : Nat) "Panelry$Box" ∈ WS0 := v_3 90 rfl rfl
theorem w600 : Jvm.Cond.methodLink "Panelry$Box" (35 : Nat) ({ cls := "Panelry$Box", name := "<init>", desc := "(IIII)V" } : Jvm.MethodName) ∈ WS0 := v_3 91 rfl rfl
theorem w601 : Jvm.Cond.methodLink "Panelry$Panel" (40 : Nat) ({ cls := "Panelry$Panel", name := "<init>", desc := "(LPanelry$Box;)V" } : Jvm.MethodName) ∈ WS0 := v_3 92 rfl rfl
theorem w602 : Jvm.Cond.methodLink "Panelry$Panel" (43 : Nat) ({ cls := "Panelry$Face", name := "mirrored", desc := "()LPanelry$Face;" } : Jvm.MethodName) ∈ WS0 := v_3 93 rfl rfl
theorem w603 : Jvm.Cond.instanceMethod ({ cls := "Panelry$Face", name := "mirrored", desc := "()LPanelry$Face;" } : Jvm.MethodName) ∈ WS0 := v_3 94 rfl rfl
theorem w604 : Jvm.Cond.selects "Panelry$Face" ({ cls := "Panelry$Face", name := "mirrored", desc := "()LPanelry$Face;" } : Jvm.MethodName) ({ cls := "Panelry$Face", name := "mirrored", desc := "()LPanelry$Face;" } : Jvm.MethodName) ∈ WS0 := v_3 95 rfl rfl
theorem w605 : Jvm.Cond.code ({ cls := "Panelry$Face", name := "mirrored", desc := "()LPanelry$Face;" } : Jvm.MethodName) prog_4_method_3_code (1 : Nat) (Option.some (Jvm.ClassFile.FieldType.object "Panelry$Face")) ∈ WS0 := v_3 96 rfl rfl
theorem w606 : Jvm.Cond.classLink "Panelry$Face" (10 : Nat) "Panelry$Face" ∈ WS0 := v_3 97 rfl rfl
theorem w607 : Jvm.Cond.instantiable "Panelry$Face" (3 : Nat) ∈ WS0 := v_3 98 rfl rfl
theorem w608 : Jvm.Cond.methodLink "Panelry$Face" (23 : Nat) ({ cls := "Panelry$Box", name := "mirrored", desc := "()LPanelry$Box;" } : Jvm.MethodName) ∈ WS0 := v_3 99 rfl rfl
theorem w609 : Jvm.Cond.methodLink "Panelry$Face" (29 : Nat) ({ cls := "Panelry$Face", name := "<init>", desc := "(LPanelry$Box;IZ)V" } : Jvm.MethodName) ∈ WS0 := v_3 100 rfl rfl
theorem w610 : Jvm.Cond.instanceMethod ({ cls := "Panelry$Face", name := "<init>", desc := "(LPanelry$Box;IZ)V" } : Jvm.MethodName) ∈ WS0 := v_3 101 rfl rfl
theorem w611 : Jvm.Cond.code ({ cls := "Panelry$Face", name := "<init>", desc := "(LPanelry$Box;IZ)V" } : Jvm.MethodName) prog_4_method_1_code (4 : Nat) (Option.none : Option Jvm.ClassFile.FieldType) ∈ WS0 := v_3 102 rfl rfl
theorem w612 : Jvm.Cond.methodLink "Panelry$Face" (3 : Nat) ({ cls := "java/lang/Object", name := "<init>", desc := "()V" } : Jvm.MethodName) ∈ WS0 := v_3 103 rfl rfl
theorem w613 : Jvm.Cond.fieldLink "Panelry$Face" (9 : Nat) "Panelry$Face" "box" "LPanelry$Box;" ∈ WS0 := v_3 104 rfl rfl
theorem w614 : Jvm.Cond.fieldLink "Panelry$Panel" (21 : Nat) "Panelry$Face" "box" "LPanelry$Box;" ∈ WS0 := v_3 105 rfl rfl
theorem w615 : Jvm.Cond.fieldLink "Panelry$Page" (77 : Nat) "Panelry$Face" "box" "LPanelry$Box;" ∈ WS0 := v_3 106 rfl rfl
theorem w616 : Jvm.Cond.fieldLink "Panelry$Face" (15 : Nat) "Panelry$Face" "wears" "I" ∈ WS0 := v_3 107 rfl rfl
theorem w617 : Jvm.Cond.fieldLink "Panelry$Panel" (32 : Nat) "Panelry$Face" "wears" "I" ∈ WS0 := v_3 108 rfl rfl
theorem w618 : Jvm.Cond.fieldLink "Panelry$Face" (19 : Nat) "Panelry$Face" "changes" "Z" ∈ WS0 := v_3 109 rfl rfl
theorem w626 : Jvm.Cond.methodLink "Panelry$Panel" (46 : Nat) ({ cls := "Panelry$Panel", name := "putFace", desc := "(ILPanelry$Face;)V" } : Jvm.MethodName) ∈ WS0 := v_3 117 rfl rfl
theorem w627 : Jvm.Cond.instanceMethod ({ cls := "Panelry$Panel", name := "putFace", desc := "(ILPanelry$Face;)V" } : Jvm.MethodName) ∈ WS0 := v_3 118 rfl rfl
theorem w628 : Jvm.Cond.selects "Panelry$Panel" ({ cls := "Panelry$Panel", name := "putFace", desc := "(ILPanelry$Face;)V" } : Jvm.MethodName) ({ cls := "Panelry$Panel", name := "putFace", desc := "(ILPanelry$Face;)V" } : Jvm.MethodName) ∈ WS0 := v_3 119 rfl rfl
theorem w629 : Jvm.Cond.code ({ cls := "Panelry$Panel", name := "putFace", desc := "(ILPanelry$Face;)V" } : Jvm.MethodName) prog_6_method_3_code (3 : Nat) (Option.none : Option Jvm.ClassFile.FieldType) ∈ WS0 := v_3 120 rfl rfl
theorem w630 : Jvm.Cond.methodLink "Panelry$Page" (124 : Nat) ({ cls := "java/util/ArrayList", name := "add", desc := "(Ljava/lang/Object;)Z" } : Jvm.MethodName) ∈ WS0 := v_3 121 rfl rfl
theorem w631 : Jvm.Cond.classLink "Panelry$Page" (53 : Nat) "Panelry$Balloon" ∈ WS0 := v_3 122 rfl rfl
theorem w632 : Jvm.Cond.methodLink "Panelry$Page" (128 : Nat) ({ cls := "Panelry$Balloon", name := "mirrored", desc := "()LPanelry$Balloon;" } : Jvm.MethodName) ∈ WS0 := v_3 123 rfl rfl
theorem w633 : Jvm.Cond.instanceMethod ({ cls := "Panelry$Balloon", name := "mirrored", desc := "()LPanelry$Balloon;" } : Jvm.MethodName) ∈ WS0 := v_3 124 rfl rfl
theorem w634 : Jvm.Cond.selects "Panelry$Balloon" ({ cls := "Panelry$Balloon", name := "mirrored", desc := "()LPanelry$Balloon;" } : Jvm.MethodName) ({ cls := "Panelry$Balloon", name := "mirrored", desc := "()LPanelry$Balloon;" } : Jvm.MethodName) ∈ WS0 := v_3 125 rfl rfl
theorem w635 : Jvm.Cond.code ({ cls := "Panelry$Balloon", name := "mirrored", desc := "()LPanelry$Balloon;" } : Jvm.MethodName) prog_2_method_4_code (1 : Nat) (Option.some (Jvm.ClassFile.FieldType.object "Panelry$Balloon")) ∈ WS0 := v_3 126 rfl rfl
theorem w636 : Jvm.Cond.classLink "Panelry$Balloon" (10 : Nat) "Panelry$Balloon" ∈ WS0 := v_3 127 rfl rfl
theorem w637 : Jvm.Cond.instantiable "Panelry$Balloon" (4 : Nat) ∈ WS0 := v_3 128 rfl rfl
theorem w638 : Jvm.Cond.methodLink "Panelry$Balloon" (43 : Nat) ({ cls := "Panelry$Box", name := "mirrored", desc := "()LPanelry$Box;" } : Jvm.MethodName) ∈ WS0 := v_3 129 rfl rfl
theorem w639 : Jvm.Cond.methodLink "Panelry$Balloon" (47 : Nat) ({ cls := "Panelry$Balloon", name := "<init>", desc := "(ILPanelry$Box;II)V" } : Jvm.MethodName) ∈ WS0 := v_3 130 rfl rfl
theorem w640 : Jvm.Cond.instanceMethod ({ cls := "Panelry$Balloon", name := "<init>", desc := "(ILPanelry$Box;II)V" } : Jvm.MethodName) ∈ WS0 := v_3 131 rfl rfl
theorem w641 : Jvm.Cond.code ({ cls := "Panelry$Balloon", name := "<init>", desc := "(ILPanelry$Box;II)V" } : Jvm.MethodName) prog_2_method_1_code (5 : Nat) (Option.none : Option Jvm.ClassFile.FieldType) ∈ WS0 := v_3 132 rfl rfl
theorem w642 : Jvm.Cond.methodLink "Panelry$Balloon" (3 : Nat) ({ cls := "java/lang/Object", name := "<init>", desc := "()V" } : Jvm.MethodName) ∈ WS0 := v_3 133 rfl rfl
theorem w643 : Jvm.Cond.fieldLink "Panelry$Balloon" (9 : Nat) "Panelry$Balloon" "panelNumber" "I" ∈ WS0 := v_3 134 rfl rfl
theorem w644 : Jvm.Cond.fieldLink "Panelry$Page" (55 : Nat) "Panelry$Balloon" "panelNumber" "I" ∈ WS0 := v_3 135 rfl rfl
theorem w645 : Jvm.Cond.fieldLink "Panelry" (178 : Nat) "Panelry$Balloon" "panelNumber" "I" ∈ WS0 := v_3 136 rfl rfl
theorem w646 : Jvm.Cond.fieldLink "Panelry$Balloon" (19 : Nat) "Panelry$Balloon" "figure" "I" ∈ WS0 := v_3 137 rfl rfl
theorem w647 : Jvm.Cond.fieldLink "Panelry$Page" (68 : Nat) "Panelry$Balloon" "figure" "I" ∈ WS0 := v_3 138 rfl rfl
theorem w648 : Jvm.Cond.fieldLink "Panelry" (188 : Nat) "Panelry$Balloon" "figure" "I" ∈ WS0 := v_3 139 rfl rfl
theorem w649 : Jvm.Cond.fieldLink "Panelry$Balloon" (22 : Nat) "Panelry$Balloon" "letters" "I" ∈ WS0 := v_3 140 rfl rfl
theorem w650 : Jvm.Cond.fieldLink "Panelry$Page" (114 : Nat) "Panelry$Balloon" "letters" "I" ∈ WS0 := v_3 141 rfl rfl
theorem w651 : Jvm.Cond.fieldLink "Panelry$Balloon" (15 : Nat) "Panelry$Balloon" "box" "LPanelry$Box;" ∈ WS0 := v_3 142 rfl rfl
theorem w652 : Jvm.Cond.fieldLink "Panelry$Page" (63 : Nat) "Panelry$Balloon" "box" "LPanelry$Box;" ∈ WS0 := v_3 143 rfl rfl
theorem w653 : Jvm.Cond.fieldLink "Panelry" (171 : Nat) "Panelry$Balloon" "box" "LPanelry$Box;" ∈ WS0 := v_3 144 rfl rfl
theorem w663 : Jvm.Cond.methodLink "PanelryLaw" (129 : Nat) ({ cls := "PanelryLaw", name := "figure", desc := "(LPanelry;[J)I" } : Jvm.MethodName) ∈ WS0 := v_3 154 rfl rfl
theorem w664 : Jvm.Cond.static ({ cls := "PanelryLaw", name := "figure", desc := "(LPanelry;[J)I" } : Jvm.MethodName) ∈ WS0 := v_3 155 rfl rfl
theorem w666 : Jvm.Cond.methodLink "PanelryLaw" (45 : Nat) ({ cls := "Panelry", name := "figure", desc := "()I" } : Jvm.MethodName) ∈ WS0 := v_3 157 rfl rfl
theorem w667 : Jvm.Cond.instanceMethod ({ cls := "Panelry", name := "figure", desc := "()I" } : Jvm.MethodName) ∈ WS0 := v_3 158 rfl rfl
theorem w668 : Jvm.Cond.selects "Panelry" ({ cls := "Panelry", name := "figure", desc := "()I" } : Jvm.MethodName) ({ cls := "Panelry", name := "figure", desc := "()I" } : Jvm.MethodName) ∈ WS0 := v_3 159 rfl rfl
theorem w669 : Jvm.Cond.code ({ cls := "Panelry", name := "figure", desc := "()I" } : Jvm.MethodName) prog_1_method_10_code (1 : Nat) (Option.some Jvm.ClassFile.FieldType.int) ∈ WS0 := v_3 160 rfl rfl
theorem w671 : Jvm.Cond.methodLink "PanelryLaw" (133 : Nat) ({ cls := "PanelryLaw", name := "draw", desc := "(LPanelry;IIIIIIIZ)I" } : Jvm.MethodName) ∈ WS0 := v_3 162 rfl rfl
theorem w672 : Jvm.Cond.static ({ cls := "PanelryLaw", name := "draw", desc := "(LPanelry;IIIIIIIZ)I" } : Jvm.MethodName) ∈ WS0 := v_3 163 rfl rfl
theorem w674 : Jvm.Cond.methodLink "PanelryLaw" (49 : Nat) ({ cls := "Panelry", name := "draw", desc := "(IIIIIIIZ)V" } : Jvm.MethodName) ∈ WS0 := v_3 165 rfl rfl
theorem w675 : Jvm.Cond.instanceMethod ({ cls := "Panelry", name := "draw", desc := "(IIIIIIIZ)V" } : Jvm.MethodName) ∈ WS0 := v_3 166 rfl rfl
theorem w676 : Jvm.Cond.selects "Panelry" ({ cls := "Panelry", name := "draw", desc := "(IIIIIIIZ)V" } : Jvm.MethodName) ({ cls := "Panelry", name := "draw", desc := "(IIIIIIIZ)V" } : Jvm.MethodName) ∈ WS0 := v_3 167 rfl rfl
theorem w677 : Jvm.Cond.code ({ cls := "Panelry", name := "draw", desc := "(IIIIIIIZ)V" } : Jvm.MethodName) prog_1_method_11_code (12 : Nat) (Option.none : Option Jvm.ClassFile.FieldType) ∈ WS0 := v_3 168 rfl rfl
theorem w678 : Jvm.Cond.methodLink "Panelry" (131 : Nat) ({ cls := "Panelry", name := "existingPanel", desc := "(LPanelry$Page;I)LPanelry$Panel;" } : Jvm.MethodName) ∈ WS0 := v_3 169 rfl rfl
theorem w679 : Jvm.Cond.static ({ cls := "Panelry", name := "existingPanel", desc := "(LPanelry$Page;I)LPanelry$Panel;" } : Jvm.MethodName) ∈ WS0 := v_3 170 rfl rfl
theorem w680 : Jvm.Cond.code ({ cls := "Panelry", name := "existingPanel", desc := "(LPanelry$Page;I)LPanelry$Panel;" } : Jvm.MethodName) prog_1_method_29_code (2 : Nat) (Option.some (Jvm.ClassFile.FieldType.object "Panelry$Panel")) ∈ WS0 := v_3 171 rfl rfl
theorem w682 : Jvm.Cond.methodLink "Panelry" (135 : Nat) ({ cls := "Panelry", name := "requireFigure", desc := "(I)V" } : Jvm.MethodName) ∈ WS0 := v_3 173 rfl rfl
theorem w684 : Jvm.Cond.instanceMethod ({ cls := "Panelry", name := "requireFigure", desc := "(I)V" } : Jvm.MethodName) ∈ WS0 := v_3 175 rfl rfl
theorem w685 : Jvm.Cond.code ({ cls := "Panelry", name := "requireFigure", desc := "(I)V" } : Jvm.MethodName) prog_1_method_27_code (2 : Nat) (Option.none : Option Jvm.ClassFile.FieldType) ∈ WS0 := v_3 176 rfl rfl
theorem w687 : Jvm.Cond.methodLink "Panelry" (143 : Nat) ({ cls := "Panelry$Box", name := "holds", desc := "(LPanelry$Box;)Z" } : Jvm.MethodName) ∈ WS0 := v_3 178 rfl rfl
theorem w688 : Jvm.Cond.instanceMethod ({ cls := "Panelry$Box", name := "holds", desc := "(LPanelry$Box;)Z" } : Jvm.MethodName) ∈ WS0 := v_3 179 rfl rfl
theorem w689 : Jvm.Cond.selects "Panelry$Box" ({ cls := "Panelry$Box", name := "holds", desc := "(LPanelry$Box;)Z" } : Jvm.MethodName) ({ cls := "Panelry$Box", name := "holds", desc := "(LPanelry$Box;)Z" } : Jvm.MethodName) ∈ WS0 := v_3 180 rfl rfl
theorem w690 : Jvm.Cond.code ({ cls := "Panelry$Box", name := "holds", desc := "(LPanelry$Box;)Z" } : Jvm.MethodName) prog_3_method_9_code (2 : Nat) (Option.some Jvm.ClassFile.FieldType.boolean) ∈ WS0 := v_3 181 rfl rfl
theorem w692 : Jvm.Cond.classLink "Panelry" (148 : Nat) "Panelry$Face" ∈ WS0 := v_3 183 rfl rfl
theorem w693 : Jvm.Cond.methodLink "Panelry" (150 : Nat) ({ cls := "Panelry$Face", name := "<init>", desc := "(LPanelry$Box;IZ)V" } : Jvm.MethodName) ∈ WS0 := v_3 184 rfl rfl
theorem w694 : Jvm.Cond.methodLink "Panelry" (153 : Nat) ({ cls := "Panelry$Panel", name := "putFace", desc := "(ILPanelry$Face;)V" } : Jvm.MethodName) ∈ WS0 := v_3 185 rfl rfl
theorem w695 : Jvm.Cond.methodLink "PanelryLaw" (137 : Nat) ({ cls := "PanelryLaw", name := "balloon", desc := "(LPanelry;IIIIIIII[J)I" } : Jvm.MethodName) ∈ WS0 := v_3 186 rfl rfl
theorem w696 : Jvm.Cond.static ({ cls := "PanelryLaw", name := "balloon", desc := "(LPanelry;IIIIIIII[J)I" } : Jvm.MethodName) ∈ WS0 := v_3 187 rfl rfl
theorem w698 : Jvm.Cond.methodLink "PanelryLaw" (53 : Nat) ({ cls := "Panelry", name := "balloon", desc := "(IIIIIIII)I" } : Jvm.MethodName) ∈ WS0 := v_3 189 rfl rfl
theorem w699 : Jvm.Cond.instanceMethod ({ cls := "Panelry", name := "balloon", desc := "(IIIIIIII)I" } : Jvm.MethodName) ∈ WS0 := v_3 190 rfl rfl
theorem w700 : Jvm.Cond.selects "Panelry" ({ cls := "Panelry", name := "balloon", desc := "(IIIIIIII)I" } : Jvm.MethodName) ({ cls := "Panelry", name := "balloon", desc := "(IIIIIIII)I" } : Jvm.MethodName) ∈ WS0 := v_3 191 rfl rfl
theorem w701 : Jvm.Cond.code ({ cls := "Panelry", name := "balloon", desc := "(IIIIIIII)I" } : Jvm.MethodName) prog_1_method_12_code (10 : Nat) (Option.some Jvm.ClassFile.FieldType.int) ∈ WS0 := v_3 192 rfl rfl
theorem w703 : Jvm.Cond.classLink "Panelry" (162 : Nat) "Panelry$Balloon" ∈ WS0 := v_3 194 rfl rfl
theorem w704 : Jvm.Cond.methodLink "Panelry" (164 : Nat) ({ cls := "Panelry$Balloon", name := "<init>", desc := "(ILPanelry$Box;II)V" } : Jvm.MethodName) ∈ WS0 := v_3 195 rfl rfl
theorem w705 : Jvm.Cond.methodLink "PanelryLaw" (141 : Nat) ({ cls := "PanelryLaw", name := "move", desc := "(LPanelry;IIII)I" } : Jvm.MethodName) ∈ WS0 := v_3 196 rfl rfl
theorem w706 : Jvm.Cond.static ({ cls := "PanelryLaw", name := "move", desc := "(LPanelry;IIII)I" } : Jvm.MethodName) ∈ WS0 := v_3 197 rfl rfl
theorem w708 : Jvm.Cond.methodLink "PanelryLaw" (57 : Nat) ({ cls := "Panelry", name := "move", desc := "(IIII)V" } : Jvm.MethodName) ∈ WS0 := v_3 199 rfl rfl
theorem w709 : Jvm.Cond.instanceMethod ({ cls := "Panelry", name := "move", desc := "(IIII)V" } : Jvm.MethodName) ∈ WS0 := v_3 200 rfl rfl
theorem w710 : Jvm.Cond.selects "Panelry" ({ cls := "Panelry", name := "move", desc := "(IIII)V" } : Jvm.MethodName) ({ cls := "Panelry", name := "move", desc := "(IIII)V" } : Jvm.MethodName) ∈ WS0 := v_3 201 rfl rfl
theorem w711 : Jvm.Cond.code ({ cls := "Panelry", name := "move", desc := "(IIII)V" } : Jvm.MethodName) prog_1_method_13_code (7 : Nat) (Option.none : Option Jvm.ClassFile.FieldType) ∈ WS0 := v_3 202 rfl rfl
theorem w712 : Jvm.Cond.methodLink "Panelry" (167 : Nat) ({ cls := "Panelry", name := "existingBalloon", desc := "(LPanelry$Page;I)LPanelry$Balloon;" } : Jvm.MethodName) ∈ WS0 := v_3 203 rfl rfl
theorem w713 : Jvm.Cond.static ({ cls := "Panelry", name := "existingBalloon", desc := "(LPanelry$Page;I)LPanelry$Balloon;" } : Jvm.MethodName) ∈ WS0 := v_3 204 rfl rfl
theorem w714 : Jvm.Cond.code ({ cls := "Panelry", name := "existingBalloon", desc := "(LPanelry$Page;I)LPanelry$Balloon;" } : Jvm.MethodName) prog_1_method_30_code (2 : Nat) (Option.some (Jvm.ClassFile.FieldType.object "Panelry$Balloon")) ∈ WS0 := v_3 205 rfl rfl
theorem w716 : Jvm.Cond.methodLink "PanelryLaw" (145 : Nat) ({ cls := "PanelryLaw", name := "faults", desc := "(LPanelry;II[J)I" } : Jvm.MethodName) ∈ WS0 := v_3 207 rfl rfl
theorem w717 : Jvm.Cond.static ({ cls := "PanelryLaw", name := "faults", desc := "(LPanelry;II[J)I" } : Jvm.MethodName) ∈ WS0 := v_3 208 rfl rfl
theorem w719 : Jvm.Cond.methodLink "PanelryLaw" (61 : Nat) ({ cls := "Panelry", name := "faults", desc := "(II)I" } : Jvm.MethodName) ∈ WS0 := v_3 210 rfl rfl
theorem w720 : Jvm.Cond.instanceMethod ({ cls := "Panelry", name := "faults", desc := "(II)I" } : Jvm.MethodName) ∈ WS0 := v_3 211 rfl rfl
theorem w721 : Jvm.Cond.selects "Panelry" ({ cls := "Panelry", name := "faults", desc := "(II)I" } : Jvm.MethodName) ({ cls := "Panelry", name := "faults", desc := "(II)I" } : Jvm.MethodName) ∈ WS0 := v_3 212 rfl rfl
theorem w722 : Jvm.Cond.code ({ cls := "Panelry", name := "faults", desc := "(II)I" } : Jvm.MethodName) prog_1_method_14_code (7 : Nat) (Option.some Jvm.ClassFile.FieldType.int) ∈ WS0 := v_3 213 rfl rfl
theorem w723 : Jvm.Cond.methodLink "Panelry" (181 : Nat) ({ cls := "Panelry$Page", name := "hasBalloonOver", desc := "(ILPanelry$Balloon;)Z" } : Jvm.MethodName) ∈ WS0 := v_3 214 rfl rfl
theorem w724 : Jvm.Cond.instanceMethod ({ cls := "Panelry$Page", name := "hasBalloonOver", desc := "(ILPanelry$Balloon;)Z" } : Jvm.MethodName) ∈ WS0 := v_3 215 rfl rfl
theorem w725 : Jvm.Cond.selects "Panelry$Page" ({ cls := "Panelry$Page", name := "hasBalloonOver", desc := "(ILPanelry$Balloon;)Z" } : Jvm.MethodName) ({ cls := "Panelry$Page", name := "hasBalloonOver", desc := "(ILPanelry$Balloon;)Z" } : Jvm.MethodName) ∈ WS0 := v_3 216 rfl rfl
theorem w726 : Jvm.Cond.code ({ cls := "Panelry$Page", name := "hasBalloonOver", desc := "(ILPanelry$Balloon;)Z" } : Jvm.MethodName) prog_5_method_6_code (5 : Nat) (Option.some Jvm.ClassFile.FieldType.boolean) ∈ WS0 := v_3 217 rfl rfl
theorem w727 : Jvm.Cond.methodLink "Panelry$Page" (59 : Nat) ({ cls := "Panelry$Page", name := "neighbourAt", desc := "(IILPanelry$Balloon;)LPanelry$Balloon;" } : Jvm.MethodName) ∈ WS0 := v_3 218 rfl rfl
theorem w729 : Jvm.Cond.instanceMethod ({ cls := "Panelry$Page", name := "neighbourAt", desc := "(IILPanelry$Balloon;)LPanelry$Balloon;" } : Jvm.MethodName) ∈ WS0 := v_3 220 rfl rfl
theorem w730 : Jvm.Cond.code ({ cls := "Panelry$Page", name := "neighbourAt", desc := "(IILPanelry$Balloon;)LPanelry$Balloon;" } : Jvm.MethodName) prog_5_method_5_code (5 : Nat) (Option.some (Jvm.ClassFile.FieldType.object "Panelry$Balloon")) ∈ WS0 := v_3 221 rfl rfl
theorem w731 : Jvm.Cond.methodLink "Panelry" (185 : Nat) ({ cls := "Panelry$Panel", name := "hasFaceUnder", desc := "(LPanelry$Box;)Z" } : Jvm.MethodName) ∈ WS0 := v_3 222 rfl rfl
theorem w732 : Jvm.Cond.instanceMethod ({ cls := "Panelry$Panel", name := "hasFaceUnder", desc := "(LPanelry$Box;)Z" } : Jvm.MethodName) ∈ WS0 := v_3 223 rfl rfl
theorem w733 : Jvm.Cond.selects "Panelry$Panel" ({ cls := "Panelry$Panel", name := "hasFaceUnder", desc := "(LPanelry$Box;)Z" } : Jvm.MethodName) ({ cls := "Panelry$Panel", name := "hasFaceUnder", desc := "(LPanelry$Box;)Z" } : Jvm.MethodName) ∈ WS0 := v_3 224 rfl rfl
theorem w734 : Jvm.Cond.code ({ cls := "Panelry$Panel", name := "hasFaceUnder", desc := "(LPanelry$Box;)Z" } : Jvm.MethodName) prog_6_method_4_code (4 : Nat) (Option.some Jvm.ClassFile.FieldType.boolean) ∈ WS0 := v_3 225 rfl rfl
theorem w735 : Jvm.Cond.methodLink "Panelry$Panel" (22 : Nat) ({ cls := "Panelry$Box", name := "overlaps", desc := "(LPanelry$Box;)Z" } : Jvm.MethodName) ∈ WS0 := v_3 226 rfl rfl
theorem w736 : Jvm.Cond.methodLink "Panelry" (191 : Nat) ({ cls := "Panelry$Panel", name := "faceOf", desc := "(I)LPanelry$Face;" } : Jvm.MethodName) ∈ WS0 := v_3 227 rfl rfl
theorem w737 : Jvm.Cond.instanceMethod ({ cls := "Panelry$Panel", name := "faceOf", desc := "(I)LPanelry$Face;" } : Jvm.MethodName) ∈ WS0 := v_3 228 rfl rfl
theorem w738 : Jvm.Cond.selects "Panelry$Panel" ({ cls := "Panelry$Panel", name := "faceOf", desc := "(I)LPanelry$Face;" } : Jvm.MethodName) ({ cls := "Panelry$Panel", name := "faceOf", desc := "(I)LPanelry$Face;" } : Jvm.MethodName) ∈ WS0 := v_3 229 rfl rfl
theorem w739 : Jvm.Cond.code ({ cls := "Panelry$Panel", name := "faceOf", desc := "(I)LPanelry$Face;" } : Jvm.MethodName) prog_6_method_2_code (2 : Nat) (Option.some (Jvm.ClassFile.FieldType.object "Panelry$Face")) ∈ WS0 := v_3 230 rfl rfl
theorem w740 : Jvm.Cond.methodLink "Panelry" (195 : Nat) ({ cls := "Panelry$Page", name := "isTailHit", desc := "(ILPanelry$Balloon;LPanelry$Panel;)Z" } : Jvm.MethodName) ∈ WS0 := v_3 231 rfl rfl
theorem w741 : Jvm.Cond.instanceMethod ({ cls := "Panelry$Page", name := "isTailHit", desc := "(ILPanelry$Balloon;LPanelry$Panel;)Z" } : Jvm.MethodName) ∈ WS0 := v_3 232 rfl rfl
theorem w742 : Jvm.Cond.selects "Panelry$Page" ({ cls := "Panelry$Page", name := "isTailHit", desc := "(ILPanelry$Balloon;LPanelry$Panel;)Z" } : Jvm.MethodName) ({ cls := "Panelry$Page", name := "isTailHit", desc := "(ILPanelry$Balloon;LPanelry$Panel;)Z" } : Jvm.MethodName) ∈ WS0 := v_3 233 rfl rfl
theorem w743 : Jvm.Cond.code ({ cls := "Panelry$Page", name := "isTailHit", desc := "(ILPanelry$Balloon;LPanelry$Panel;)Z" } : Jvm.MethodName) prog_5_method_8_code (8 : Nat) (Option.some Jvm.ClassFile.FieldType.boolean) ∈ WS0 := v_3 234 rfl rfl
theorem w744 : Jvm.Cond.methodLink "Panelry$Page" (71 : Nat) ({ cls := "Panelry$Panel", name := "faceOf", desc := "(I)LPanelry$Face;" } : Jvm.MethodName) ∈ WS0 := v_3 235 rfl rfl
theorem w745 : Jvm.Cond.classLink "Panelry$Page" (75 : Nat) "Panelry$Tail" ∈ WS0 := v_3 236 rfl rfl
theorem w746 : Jvm.Cond.instantiable "Panelry$Tail" (4 : Nat) ∈ WS0 := v_3 237 rfl rfl
theorem w747 : Jvm.Cond.methodLink "Panelry$Page" (80 : Nat) ({ cls := "Panelry$Tail", name := "<init>", desc := "(LPanelry$Box;LPanelry$Box;)V" } : Jvm.MethodName) ∈ WS0 := v_3 238 rfl rfl
theorem w748 : Jvm.Cond.instanceMethod ({ cls := "Panelry$Tail", name := "<init>", desc := "(LPanelry$Box;LPanelry$Box;)V" } : Jvm.MethodName) ∈ WS0 := v_3 239 rfl rfl
theorem w749 : Jvm.Cond.code ({ cls := "Panelry$Tail", name := "<init>", desc := "(LPanelry$Box;LPanelry$Box;)V" } : Jvm.MethodName) prog_8_method_1_code (3 : Nat) (Option.none : Option Jvm.ClassFile.FieldType) ∈ WS0 := v_4 0 rfl rfl
theorem w750 : Jvm.Cond.methodLink "Panelry$Tail" (1 : Nat) ({ cls := "java/lang/Object", name := "<init>", desc := "()V" } : Jvm.MethodName) ∈ WS0 := v_4 1 rfl rfl
theorem w751 : Jvm.Cond.methodLink "Panelry$Tail" (7 : Nat) ({ cls := "Panelry$Box", name := "middleX", desc := "()I" } : Jvm.MethodName) ∈ WS0 := v_4 2 rfl rfl
theorem w752 : Jvm.Cond.instanceMethod ({ cls := "Panelry$Box", name := "middleX", desc := "()I" } : Jvm.MethodName) ∈ WS0 := v_4 3 rfl rfl
theorem w753 : Jvm.Cond.selects "Panelry$Box" ({ cls := "Panelry$Box", name := "middleX", desc := "()I" } : Jvm.MethodName) ({ cls := "Panelry$Box", name := "middleX", desc := "()I" } : Jvm.MethodName) ∈ WS0 := v_4 4 rfl rfl
theorem w754 : Jvm.Cond.code ({ cls := "Panelry$Box", name := "middleX", desc := "()I" } : Jvm.MethodName) prog_3_method_4_code (1 : Nat) (Option.some Jvm.ClassFile.FieldType.int) ∈ WS0 := v_4 5 rfl rfl
theorem w755 : Jvm.Cond.methodLink "Panelry$Tail" (19 : Nat) ({ cls := "Panelry$Box", name := "middleY", desc := "()I" } : Jvm.MethodName) ∈ WS0 := v_4 6 rfl rfl
theorem w756 : Jvm.Cond.instanceMethod ({ cls := "Panelry$Box", name := "middleY", desc := "()I" } : Jvm.MethodName) ∈ WS0 := v_4 7 rfl rfl
theorem w757 : Jvm.Cond.selects "Panelry$Box" ({ cls := "Panelry$Box", name := "middleY", desc := "()I" } : Jvm.MethodName) ({ cls := "Panelry$Box", name := "middleY", desc := "()I" } : Jvm.MethodName) ∈ WS0 := v_4 8 rfl rfl
theorem w758 : Jvm.Cond.code ({ cls := "Panelry$Box", name := "middleY", desc := "()I" } : Jvm.MethodName) prog_3_method_5_code (1 : Nat) (Option.some Jvm.ClassFile.FieldType.int) ∈ WS0 := v_4 9 rfl rfl
theorem w759 : Jvm.Cond.fieldLink "Panelry$Tail" (13 : Nat) "Panelry$Tail" "fromX" "I" ∈ WS0 := v_4 10 rfl rfl
theorem w760 : Jvm.Cond.fieldLink "Panelry$Tail" (22 : Nat) "Panelry$Tail" "fromY" "I" ∈ WS0 := v_4 11 rfl rfl
theorem w761 : Jvm.Cond.fieldLink "Panelry$Tail" (25 : Nat) "Panelry$Tail" "mouthX" "I" ∈ WS0 := v_4 12 rfl rfl
theorem w762 : Jvm.Cond.fieldLink "Panelry$Tail" (28 : Nat) "Panelry$Tail" "mouthY" "I" ∈ WS0 := v_4 13 rfl rfl
theorem w772 : Jvm.Cond.methodLink "Panelry$Page" (83 : Nat) ({ cls := "Panelry$Tail", name := "touches", desc := "(LPanelry$Box;)Z" } : Jvm.MethodName) ∈ WS0 := v_4 23 rfl rfl
theorem w773 : Jvm.Cond.instanceMethod ({ cls := "Panelry$Tail", name := "touches", desc := "(LPanelry$Box;)Z" } : Jvm.MethodName) ∈ WS0 := v_4 24 rfl rfl
theorem w774 : Jvm.Cond.selects "Panelry$Tail" ({ cls := "Panelry$Tail", name := "touches", desc := "(LPanelry$Box;)Z" } : Jvm.MethodName) ({ cls := "Panelry$Tail", name := "touches", desc := "(LPanelry$Box;)Z" } : Jvm.MethodName) ∈ WS0 := v_4 25 rfl rfl
theorem w775 : Jvm.Cond.code ({ cls := "Panelry$Tail", name := "touches", desc := "(LPanelry$Box;)Z" } : Jvm.MethodName) prog_8_method_4_code (4 : Nat) (Option.some Jvm.ClassFile.FieldType.boolean) ∈ WS0 := v_4 26 rfl rfl
theorem w776 : Jvm.Cond.methodLink "Panelry$Tail" (35 : Nat) ({ cls := "Panelry$Tail", name := "sideOf", desc := "(II)I" } : Jvm.MethodName) ∈ WS0 := v_4 27 rfl rfl
theorem w778 : Jvm.Cond.instanceMethod ({ cls := "Panelry$Tail", name := "sideOf", desc := "(II)I" } : Jvm.MethodName) ∈ WS0 := v_4 29 rfl rfl
theorem w779 : Jvm.Cond.code ({ cls := "Panelry$Tail", name := "sideOf", desc := "(II)I" } : Jvm.MethodName) prog_8_method_5_code (3 : Nat) (Option.some Jvm.ClassFile.FieldType.int) ∈ WS0 := v_4 30 rfl rfl
theorem w780 : Jvm.Cond.methodLink "Panelry$Tail" (51 : Nat) ({ cls := "java/lang/Integer", name := "compare", desc := "(II)I" } : Jvm.MethodName) ∈ WS0 := v_4 31 rfl rfl
theorem w781 : Jvm.Cond.static ({ cls := "java/lang/Integer", name := "compare", desc := "(II)I" } : Jvm.MethodName) ∈ WS0 := v_4 32 rfl rfl
theorem w782 : Jvm.Cond.code ({ cls := "java/lang/Integer", name := "compare", desc := "(II)I" } : Jvm.MethodName) prog_18_method_40_code (2 : Nat) (Option.some Jvm.ClassFile.FieldType.int) ∈ WS0 := v_4 33 rfl rfl
theorem w783 : Jvm.Cond.methodLink "Panelry$Tail" (45 : Nat) ({ cls := "Panelry$Box", name := "endX", desc := "()I" } : Jvm.MethodName) ∈ WS0 := v_4 34 rfl rfl
theorem w784 : Jvm.Cond.methodLink "Panelry$Tail" (48 : Nat) ({ cls := "Panelry$Box", name := "endY", desc := "()I" } : Jvm.MethodName) ∈ WS0 := v_4 35 rfl rfl
theorem w785 : Jvm.Cond.methodLink "Panelry$Tail" (31 : Nat) ({ cls := "Panelry$Tail", name := "isSpanMet", desc := "(IIII)Z" } : Jvm.MethodName) ∈ WS0 := v_4 36 rfl rfl
theorem w786 : Jvm.Cond.static ({ cls := "Panelry$Tail", name := "isSpanMet", desc := "(IIII)Z" } : Jvm.MethodName) ∈ WS0 := v_4 37 rfl rfl
theorem w787 : Jvm.Cond.code ({ cls := "Panelry$Tail", name := "isSpanMet", desc := "(IIII)Z" } : Jvm.MethodName) prog_8_method_6_code (4 : Nat) (Option.some Jvm.ClassFile.FieldType.boolean) ∈ WS0 := v_4 38 rfl rfl
theorem w788 : Jvm.Cond.methodLink "Panelry$Tail" (56 : Nat) ({ cls := "java/lang/Math", name := "min", desc := "(II)I" } : Jvm.MethodName) ∈ WS0 := v_4 39 rfl rfl
theorem w789 : Jvm.Cond.methodLink "Panelry$Tail" (61 : Nat) ({ cls := "java/lang/Math", name := "max", desc := "(II)I" } : Jvm.MethodName) ∈ WS0 := v_4 40 rfl rfl
theorem w790 : Jvm.Cond.methodLink "Panelry$Page" (86 : Nat) ({ cls := "Panelry$Page", name := "isTailMet", desc := "(LPanelry$Tail;LPanelry$Balloon;LPanelry$Balloon;LPanelry$Panel;)Z" } : Jvm.MethodName) ∈ WS0 := v_4 41 rfl rfl
theorem w791 : Jvm.Cond.static ({ cls := "Panelry$Page", name := "isTailMet", desc := "(LPanelry$Tail;LPanelry$Balloon;LPanelry$Balloon;LPanelry$Panel;)Z" } : Jvm.MethodName) ∈ WS0 := v_4 42 rfl rfl
theorem w792 : Jvm.Cond.code ({ cls := "Panelry$Page", name := "isTailMet", desc := "(LPanelry$Tail;LPanelry$Balloon;LPanelry$Balloon;LPanelry$Panel;)Z" } : Jvm.MethodName) prog_5_method_9_code (6 : Nat) (Option.some Jvm.ClassFile.FieldType.boolean) ∈ WS0 := v_4 43 rfl rfl
theorem w793 : Jvm.Cond.methodLink "Panelry$Page" (90 : Nat) ({ cls := "Panelry$Tail", name := "runsAlong", desc := "(LPanelry$Tail;)Z" } : Jvm.MethodName) ∈ WS0 := v_4 44 rfl rfl
theorem w794 : Jvm.Cond.instanceMethod ({ cls := "Panelry$Tail", name := "runsAlong", desc := "(LPanelry$Tail;)Z" } : Jvm.MethodName) ∈ WS0 := v_4 45 rfl rfl
theorem w795 : Jvm.Cond.selects "Panelry$Tail" ({ cls := "Panelry$Tail", name := "runsAlong", desc := "(LPanelry$Tail;)Z" } : Jvm.MethodName) ({ cls := "Panelry$Tail", name := "runsAlong", desc := "(LPanelry$Tail;)Z" } : Jvm.MethodName) ∈ WS0 := v_4 46 rfl rfl
theorem w796 : Jvm.Cond.code ({ cls := "Panelry$Tail", name := "runsAlong", desc := "(LPanelry$Tail;)Z" } : Jvm.MethodName) prog_8_method_3_code (3 : Nat) (Option.some Jvm.ClassFile.FieldType.boolean) ∈ WS0 := v_4 47 rfl rfl
theorem w797 : Jvm.Cond.methodLink "Panelry$Page" (94 : Nat) ({ cls := "Panelry$Tail", name := "meets", desc := "(LPanelry$Tail;)Z" } : Jvm.MethodName) ∈ WS0 := v_4 48 rfl rfl
theorem w798 : Jvm.Cond.instanceMethod ({ cls := "Panelry$Tail", name := "meets", desc := "(LPanelry$Tail;)Z" } : Jvm.MethodName) ∈ WS0 := v_4 49 rfl rfl
theorem w799 : Jvm.Cond.selects "Panelry$Tail" ({ cls := "Panelry$Tail", name := "meets", desc := "(LPanelry$Tail;)Z" } : Jvm.MethodName) ({ cls := "Panelry$Tail", name := "meets", desc := "(LPanelry$Tail;)Z" } : Jvm.MethodName) ∈ WS0 := v_4 50 rfl rfl
theorem w800 : Jvm.Cond.code ({ cls := "Panelry$Tail", name := "meets", desc := "(LPanelry$Tail;)Z" } : Jvm.MethodName) prog_8_method_2_code (2 : Nat) (Option.some Jvm.ClassFile.FieldType.boolean) ∈ WS0 := v_4 51 rfl rfl
theorem w801 : Jvm.Cond.methodLink "Panelry" (199 : Nat) ({ cls := "Panelry$Balloon", name := "fitsItsLetters", desc := "()Z" } : Jvm.MethodName) ∈ WS0 := v_4 52 rfl rfl
theorem w802 : Jvm.Cond.instanceMethod ({ cls := "Panelry$Balloon", name := "fitsItsLetters", desc := "()Z" } : Jvm.MethodName) ∈ WS0 := v_4 53 rfl rfl
theorem w803 : Jvm.Cond.selects "Panelry$Balloon" ({ cls := "Panelry$Balloon", name := "fitsItsLetters", desc := "()Z" } : Jvm.MethodName) ({ cls := "Panelry$Balloon", name := "fitsItsLetters", desc := "()Z" } : Jvm.MethodName) ∈ WS0 := v_4 54 rfl rfl
theorem w804 : Jvm.Cond.code ({ cls := "Panelry$Balloon", name := "fitsItsLetters", desc := "()Z" } : Jvm.MethodName) prog_2_method_2_code (1 : Nat) (Option.some Jvm.ClassFile.FieldType.boolean) ∈ WS0 := v_4 55 rfl rfl
theorem w805 : Jvm.Cond.methodLink "Panelry" (202 : Nat) ({ cls := "Panelry$Page", name := "isOutOfTurn", desc := "(ILPanelry$Balloon;)Z" } : Jvm.MethodName) ∈ WS0 := v_4 56 rfl rfl
theorem w806 : Jvm.Cond.instanceMethod ({ cls := "Panelry$Page", name := "isOutOfTurn", desc := "(ILPanelry$Balloon;)Z" } : Jvm.MethodName) ∈ WS0 := v_4 57 rfl rfl
theorem w807 : Jvm.Cond.selects "Panelry$Page" ({ cls := "Panelry$Page", name := "isOutOfTurn", desc := "(ILPanelry$Balloon;)Z" } : Jvm.MethodName) ({ cls := "Panelry$Page", name := "isOutOfTurn", desc := "(ILPanelry$Balloon;)Z" } : Jvm.MethodName) ∈ WS0 := v_4 58 rfl rfl
theorem w808 : Jvm.Cond.code ({ cls := "Panelry$Page", name := "isOutOfTurn", desc := "(ILPanelry$Balloon;)Z" } : Jvm.MethodName) prog_5_method_7_code (5 : Nat) (Option.some Jvm.ClassFile.FieldType.boolean) ∈ WS0 := v_4 59 rfl rfl
theorem w809 : Jvm.Cond.methodLink "Panelry$Page" (64 : Nat) ({ cls := "Panelry$Balloon", name := "standsAheadOf", desc := "(LPanelry$Balloon;Z)Z" } : Jvm.MethodName) ∈ WS0 := v_4 60 rfl rfl
theorem w810 : Jvm.Cond.instanceMethod ({ cls := "Panelry$Balloon", name := "standsAheadOf", desc := "(LPanelry$Balloon;Z)Z" } : Jvm.MethodName) ∈ WS0 := v_4 61 rfl rfl
theorem w811 : Jvm.Cond.selects "Panelry$Balloon" ({ cls := "Panelry$Balloon", name := "standsAheadOf", desc := "(LPanelry$Balloon;Z)Z" } : Jvm.MethodName) ({ cls := "Panelry$Balloon", name := "standsAheadOf", desc := "(LPanelry$Balloon;Z)Z" } : Jvm.MethodName) ∈ WS0 := v_4 62 rfl rfl
theorem w812 : Jvm.Cond.code ({ cls := "Panelry$Balloon", name := "standsAheadOf", desc := "(LPanelry$Balloon;Z)Z" } : Jvm.MethodName) prog_2_method_3_code (3 : Nat) (Option.some Jvm.ClassFile.FieldType.boolean) ∈ WS0 := v_4 63 rfl rfl
theorem w813 : Jvm.Cond.methodLink "Panelry$Balloon" (36 : Nat) ({ cls := "Panelry$Box", name := "endX", desc := "()I" } : Jvm.MethodName) ∈ WS0 := v_4 64 rfl rfl
theorem w814 : Jvm.Cond.methodLink "PanelryLaw" (153 : Nat) ({ cls := "PanelryLaw", name := "tell", desc := "(LPanelry;IIIZ[J)I" } : Jvm.MethodName) ∈ WS0 := v_4 65 rfl rfl
theorem w815 : Jvm.Cond.static ({ cls := "PanelryLaw", name := "tell", desc := "(LPanelry;IIIZ[J)I" } : Jvm.MethodName) ∈ WS0 := v_4 66 rfl rfl
theorem w817 : Jvm.Cond.methodLink "PanelryLaw" (65 : Nat) ({ cls := "Panelry", name := "tell", desc := "(IIIZ)I" } : Jvm.MethodName) ∈ WS0 := v_4 68 rfl rfl
theorem w818 : Jvm.Cond.instanceMethod ({ cls := "Panelry", name := "tell", desc := "(IIIZ)I" } : Jvm.MethodName) ∈ WS0 := v_4 69 rfl rfl
theorem w819 : Jvm.Cond.selects "Panelry" ({ cls := "Panelry", name := "tell", desc := "(IIIZ)I" } : Jvm.MethodName) ({ cls := "Panelry", name := "tell", desc := "(IIIZ)I" } : Jvm.MethodName) ∈ WS0 := v_4 70 rfl rfl
theorem w820 : Jvm.Cond.code ({ cls := "Panelry", name := "tell", desc := "(IIIZ)I" } : Jvm.MethodName) prog_1_method_16_code (5 : Nat) (Option.some Jvm.ClassFile.FieldType.int) ∈ WS0 := v_4 71 rfl rfl
theorem w821 : Jvm.Cond.methodLink "Panelry" (219 : Nat) ({ cls := "Panelry", name := "requireFact", desc := "(I)V" } : Jvm.MethodName) ∈ WS0 := v_4 72 rfl rfl
theorem w822 : Jvm.Cond.static ({ cls := "Panelry", name := "requireFact", desc := "(I)V" } : Jvm.MethodName) ∈ WS0 := v_4 73 rfl rfl
theorem w823 : Jvm.Cond.code ({ cls := "Panelry", name := "requireFact", desc := "(I)V" } : Jvm.MethodName) prog_1_method_26_code (1 : Nat) (Option.none : Option Jvm.ClassFile.FieldType) ∈ WS0 := v_4 74 rfl rfl
theorem w826 : Jvm.Cond.classLink "Panelry" (224 : Nat) "Panelry$Telling" ∈ WS0 := v_4 77 rfl rfl
theorem w827 : Jvm.Cond.instantiable "Panelry$Telling" (5 : Nat) ∈ WS0 := v_4 78 rfl rfl
theorem w828 : Jvm.Cond.methodLink "Panelry" (229 : Nat) ({ cls := "Panelry$Telling", name := "<init>", desc := "(IIIZI)V" } : Jvm.MethodName) ∈ WS0 := v_4 79 rfl rfl
theorem w829 : Jvm.Cond.instanceMethod ({ cls := "Panelry$Telling", name := "<init>", desc := "(IIIZI)V" } : Jvm.MethodName) ∈ WS0 := v_4 80 rfl rfl
theorem w830 : Jvm.Cond.code ({ cls := "Panelry$Telling", name := "<init>", desc := "(IIIZI)V" } : Jvm.MethodName) prog_9_method_1_code (6 : Nat) (Option.none : Option Jvm.ClassFile.FieldType) ∈ WS0 := v_4 81 rfl rfl
theorem w831 : Jvm.Cond.methodLink "Panelry$Telling" (1 : Nat) ({ cls := "java/lang/Object", name := "<init>", desc := "()V" } : Jvm.MethodName) ∈ WS0 := v_4 82 rfl rfl
theorem w832 : Jvm.Cond.fieldLink "Panelry$Telling" (7 : Nat) "Panelry$Telling" "fact" "I" ∈ WS0 := v_4 83 rfl rfl
theorem w833 : Jvm.Cond.fieldLink "Panelry" (243 : Nat) "Panelry$Telling" "fact" "I" ∈ WS0 := v_4 84 rfl rfl
theorem w834 : Jvm.Cond.fieldLink "Panelry$Telling" (16 : Nat) "Panelry$Telling" "value" "I" ∈ WS0 := v_4 85 rfl rfl
theorem w835 : Jvm.Cond.fieldLink "Panelry" (240 : Nat) "Panelry$Telling" "value" "I" ∈ WS0 := v_4 86 rfl rfl
theorem w836 : Jvm.Cond.fieldLink "Panelry$Telling" (13 : Nat) "Panelry$Telling" "time" "I" ∈ WS0 := v_4 87 rfl rfl
theorem w837 : Jvm.Cond.fieldLink "Panelry$Telling" (19 : Nat) "Panelry$Telling" "isRetcon" "Z" ∈ WS0 := v_4 88 rfl rfl
theorem w838 : Jvm.Cond.fieldLink "Panelry$Telling" (23 : Nat) "Panelry$Telling" "week" "I" ∈ WS0 := v_4 89 rfl rfl
theorem w850 : Jvm.Cond.methodLink "PanelryLaw" (157 : Nat) ({ cls := "PanelryLaw", name := "known", desc := "(LPanelry;III[J)I" } : Jvm.MethodName) ∈ WS0 := v_4 101 rfl rfl
theorem w851 : Jvm.Cond.static ({ cls := "PanelryLaw", name := "known", desc := "(LPanelry;III[J)I" } : Jvm.MethodName) ∈ WS0 := v_4 102 rfl rfl
theorem w853 : Jvm.Cond.methodLink "PanelryLaw" (69 : Nat) ({ cls := "Panelry", name := "known", desc := "(III)I" } : Jvm.MethodName) ∈ WS0 := v_4 104 rfl rfl
theorem w854 : Jvm.Cond.instanceMethod ({ cls := "Panelry", name := "known", desc := "(III)I" } : Jvm.MethodName) ∈ WS0 := v_4 105 rfl rfl
theorem w855 : Jvm.Cond.selects "Panelry" ({ cls := "Panelry", name := "known", desc := "(III)I" } : Jvm.MethodName) ({ cls := "Panelry", name := "known", desc := "(III)I" } : Jvm.MethodName) ∈ WS0 := v_4 106 rfl rfl
theorem w856 : Jvm.Cond.code ({ cls := "Panelry", name := "known", desc := "(III)I" } : Jvm.MethodName) prog_1_method_17_code (7 : Nat) (Option.some Jvm.ClassFile.FieldType.int) ∈ WS0 := v_4 107 rfl rfl
theorem w857 : Jvm.Cond.methodLink "Panelry" (232 : Nat) ({ cls := "Panelry$Telling", name := "isHeard", desc := "(III)Z" } : Jvm.MethodName) ∈ WS0 := v_4 108 rfl rfl
theorem w858 : Jvm.Cond.instanceMethod ({ cls := "Panelry$Telling", name := "isHeard", desc := "(III)Z" } : Jvm.MethodName) ∈ WS0 := v_4 109 rfl rfl
theorem w859 : Jvm.Cond.selects "Panelry$Telling" ({ cls := "Panelry$Telling", name := "isHeard", desc := "(III)Z" } : Jvm.MethodName) ({ cls := "Panelry$Telling", name := "isHeard", desc := "(III)Z" } : Jvm.MethodName) ∈ WS0 := v_4 110 rfl rfl
theorem w860 : Jvm.Cond.code ({ cls := "Panelry$Telling", name := "isHeard", desc := "(III)Z" } : Jvm.MethodName) prog_9_method_2_code (4 : Nat) (Option.some Jvm.ClassFile.FieldType.boolean) ∈ WS0 := v_4 111 rfl rfl
theorem w861 : Jvm.Cond.methodLink "Panelry" (236 : Nat) ({ cls := "Panelry$Telling", name := "replaces", desc := "(LPanelry$Telling;)Z" } : Jvm.MethodName) ∈ WS0 := v_4 112 rfl rfl
theorem w862 : Jvm.Cond.instanceMethod ({ cls := "Panelry$Telling", name := "replaces", desc := "(LPanelry$Telling;)Z" } : Jvm.MethodName) ∈ WS0 := v_4 113 rfl rfl
theorem w863 : Jvm.Cond.selects "Panelry$Telling" ({ cls := "Panelry$Telling", name := "replaces", desc := "(LPanelry$Telling;)Z" } : Jvm.MethodName) ({ cls := "Panelry$Telling", name := "replaces", desc := "(LPanelry$Telling;)Z" } : Jvm.MethodName) ∈ WS0 := v_4 114 rfl rfl
theorem w864 : Jvm.Cond.code ({ cls := "Panelry$Telling", name := "replaces", desc := "(LPanelry$Telling;)Z" } : Jvm.MethodName) prog_9_method_3_code (2 : Nat) (Option.some Jvm.ClassFile.FieldType.boolean) ∈ WS0 := v_4 115 rfl rfl
theorem w865 : Jvm.Cond.methodLink "PanelryLaw" (161 : Nat) ({ cls := "PanelryLaw", name := "contradictions", desc := "(LPanelry;I[J)I" } : Jvm.MethodName) ∈ WS0 := v_4 116 rfl rfl
theorem w866 : Jvm.Cond.static ({ cls := "PanelryLaw", name := "contradictions", desc := "(LPanelry;I[J)I" } : Jvm.MethodName) ∈ WS0 := v_4 117 rfl rfl
theorem w868 : Jvm.Cond.methodLink "PanelryLaw" (73 : Nat) ({ cls := "Panelry", name := "contradictions", desc := "(I)I" } : Jvm.MethodName) ∈ WS0 := v_4 119 rfl rfl
theorem w869 : Jvm.Cond.instanceMethod ({ cls := "Panelry", name := "contradictions", desc := "(I)I" } : Jvm.MethodName) ∈ WS0 := v_4 120 rfl rfl
theorem w870 : Jvm.Cond.selects "Panelry" ({ cls := "Panelry", name := "contradictions", desc := "(I)I" } : Jvm.MethodName) ({ cls := "Panelry", name := "contradictions", desc := "(I)I" } : Jvm.MethodName) ∈ WS0 := v_4 121 rfl rfl
theorem w871 : Jvm.Cond.code ({ cls := "Panelry", name := "contradictions", desc := "(I)I" } : Jvm.MethodName) prog_1_method_18_code (6 : Nat) (Option.some Jvm.ClassFile.FieldType.int) ∈ WS0 := v_4 122 rfl rfl
theorem w872 : Jvm.Cond.methodLink "Panelry" (246 : Nat) ({ cls := "Panelry$Telling", name := "contradicts", desc := "(LPanelry$Telling;)Z" } : Jvm.MethodName) ∈ WS0 := v_4 123 rfl rfl
theorem w873 : Jvm.Cond.instanceMethod ({ cls := "Panelry$Telling", name := "contradicts", desc := "(LPanelry$Telling;)Z" } : Jvm.MethodName) ∈ WS0 := v_4 124 rfl rfl
theorem w874 : Jvm.Cond.selects "Panelry$Telling" ({ cls := "Panelry$Telling", name := "contradicts", desc := "(LPanelry$Telling;)Z" } : Jvm.MethodName) ({ cls := "Panelry$Telling", name := "contradicts", desc := "(LPanelry$Telling;)Z" } : Jvm.MethodName) ∈ WS0 := v_4 125 rfl rfl
theorem w875 : Jvm.Cond.code ({ cls := "Panelry$Telling", name := "contradicts", desc := "(LPanelry$Telling;)Z" } : Jvm.MethodName) prog_9_method_4_code (2 : Nat) (Option.some Jvm.ClassFile.FieldType.boolean) ∈ WS0 := v_4 126 rfl rfl
theorem w876 : Jvm.Cond.methodLink "PanelryLaw" (164 : Nat) ({ cls := "PanelryLaw", name := "workers", desc := "(LPanelry;I[J)I" } : Jvm.MethodName) ∈ WS0 := v_4 127 rfl rfl
theorem w877 : Jvm.Cond.static ({ cls := "PanelryLaw", name := "workers", desc := "(LPanelry;I[J)I" } : Jvm.MethodName) ∈ WS0 := v_4 128 rfl rfl
theorem w879 : Jvm.Cond.methodLink "PanelryLaw" (76 : Nat) ({ cls := "Panelry", name := "workers", desc := "(I)I" } : Jvm.MethodName) ∈ WS0 := v_4 130 rfl rfl
theorem w880 : Jvm.Cond.instanceMethod ({ cls := "Panelry", name := "workers", desc := "(I)I" } : Jvm.MethodName) ∈ WS0 := v_4 131 rfl rfl
theorem w881 : Jvm.Cond.selects "Panelry" ({ cls := "Panelry", name := "workers", desc := "(I)I" } : Jvm.MethodName) ({ cls := "Panelry", name := "workers", desc := "(I)I" } : Jvm.MethodName) ∈ WS0 := v_4 132 rfl rfl
theorem w882 : Jvm.Cond.code ({ cls := "Panelry", name := "workers", desc := "(I)I" } : Jvm.MethodName) prog_1_method_19_code (3 : Nat) (Option.some Jvm.ClassFile.FieldType.int) ∈ WS0 := v_4 133 rfl rfl
theorem w883 : Jvm.Cond.methodLink "PanelryLaw" (167 : Nat) ({ cls := "PanelryLaw", name := "pass", desc := "(LPanelry;I[J)I" } : Jvm.MethodName) ∈ WS0 := v_4 134 rfl rfl
theorem w884 : Jvm.Cond.static ({ cls := "PanelryLaw", name := "pass", desc := "(LPanelry;I[J)I" } : Jvm.MethodName) ∈ WS0 := v_4 135 rfl rfl
theorem w886 : Jvm.Cond.methodLink "PanelryLaw" (79 : Nat) ({ cls := "Panelry", name := "pass", desc := "(I)I" } : Jvm.MethodName) ∈ WS0 := v_4 137 rfl rfl
theorem w887 : Jvm.Cond.instanceMethod ({ cls := "Panelry", name := "pass", desc := "(I)I" } : Jvm.MethodName) ∈ WS0 := v_4 138 rfl rfl
theorem w888 : Jvm.Cond.selects "Panelry" ({ cls := "Panelry", name := "pass", desc := "(I)I" } : Jvm.MethodName) ({ cls := "Panelry", name := "pass", desc := "(I)I" } : Jvm.MethodName) ∈ WS0 := v_4 139 rfl rfl
theorem w889 : Jvm.Cond.code ({ cls := "Panelry", name := "pass", desc := "(I)I" } : Jvm.MethodName) prog_1_method_20_code (3 : Nat) (Option.some Jvm.ClassFile.FieldType.int) ∈ WS0 := v_4 140 rfl rfl
theorem w891 : Jvm.Cond.methodLink "Panelry" (251 : Nat) ({ cls := "Panelry", name := "workOneWeek", desc := "()V" } : Jvm.MethodName) ∈ WS0 := v_4 142 rfl rfl
theorem w893 : Jvm.Cond.instanceMethod ({ cls := "Panelry", name := "workOneWeek", desc := "()V" } : Jvm.MethodName) ∈ WS0 := v_4 144 rfl rfl
theorem w894 : Jvm.Cond.code ({ cls := "Panelry", name := "workOneWeek", desc := "()V" } : Jvm.MethodName) prog_1_method_35_code (4 : Nat) (Option.none : Option Jvm.ClassFile.FieldType) ∈ WS0 := v_4 145 rfl rfl
theorem w895 : Jvm.Cond.methodLink "PanelryLaw" (170 : Nat) ({ cls := "PanelryLaw", name := "stage", desc := "(LPanelry;I[J)I" } : Jvm.MethodName) ∈ WS0 := v_4 146 rfl rfl
theorem w896 : Jvm.Cond.static ({ cls := "PanelryLaw", name := "stage", desc := "(LPanelry;I[J)I" } : Jvm.MethodName) ∈ WS0 := v_4 147 rfl rfl
theorem w898 : Jvm.Cond.methodLink "PanelryLaw" (82 : Nat) ({ cls := "Panelry", name := "stage", desc := "(I)I" } : Jvm.MethodName) ∈ WS0 := v_4 149 rfl rfl
theorem w899 : Jvm.Cond.instanceMethod ({ cls := "Panelry", name := "stage", desc := "(I)I" } : Jvm.MethodName) ∈ WS0 := v_4 150 rfl rfl
theorem w900 : Jvm.Cond.selects "Panelry" ({ cls := "Panelry", name := "stage", desc := "(I)I" } : Jvm.MethodName) ({ cls := "Panelry", name := "stage", desc := "(I)I" } : Jvm.MethodName) ∈ WS0 := v_4 151 rfl rfl
theorem w901 : Jvm.Cond.code ({ cls := "Panelry", name := "stage", desc := "(I)I" } : Jvm.MethodName) prog_1_method_21_code (2 : Nat) (Option.some Jvm.ClassFile.FieldType.int) ∈ WS0 := v_4 152 rfl rfl
theorem w902 : Jvm.Cond.methodLink "PanelryLaw" (173 : Nat) ({ cls := "PanelryLaw", name := "press", desc := "(LPanelry;I[J)I" } : Jvm.MethodName) ∈ WS0 := v_4 153 rfl rfl
theorem w903 : Jvm.Cond.static ({ cls := "PanelryLaw", name := "press", desc := "(LPanelry;I[J)I" } : Jvm.MethodName) ∈ WS0 := v_4 154 rfl rfl
theorem w905 : Jvm.Cond.methodLink "PanelryLaw" (85 : Nat) ({ cls := "Panelry", name := "press", desc := "(I)I" } : Jvm.MethodName) ∈ WS0 := v_4 156 rfl rfl
theorem w906 : Jvm.Cond.instanceMethod ({ cls := "Panelry", name := "press", desc := "(I)I" } : Jvm.MethodName) ∈ WS0 := v_4 157 rfl rfl
theorem w907 : Jvm.Cond.selects "Panelry" ({ cls := "Panelry", name := "press", desc := "(I)I" } : Jvm.MethodName) ({ cls := "Panelry", name := "press", desc := "(I)I" } : Jvm.MethodName) ∈ WS0 := v_4 158 rfl rfl
theorem w908 : Jvm.Cond.code ({ cls := "Panelry", name := "press", desc := "(I)I" } : Jvm.MethodName) prog_1_method_22_code (3 : Nat) (Option.some Jvm.ClassFile.FieldType.int) ∈ WS0 := v_4 159 rfl rfl
theorem w910 : Jvm.Cond.methodLink "Panelry" (259 : Nat) ({ cls := "Panelry$Page", name := "answersInPrint", desc := "(I)[I" } : Jvm.MethodName) ∈ WS0 := v_4 161 rfl rfl
theorem w911 : Jvm.Cond.instanceMethod ({ cls := "Panelry$Page", name := "answersInPrint", desc := "(I)[I" } : Jvm.MethodName) ∈ WS0 := v_4 162 rfl rfl
theorem w912 : Jvm.Cond.selects "Panelry$Page" ({ cls := "Panelry$Page", name := "answersInPrint", desc := "(I)[I" } : Jvm.MethodName) ({ cls := "Panelry$Page", name := "answersInPrint", desc := "(I)[I" } : Jvm.MethodName) ∈ WS0 := v_4 163 rfl rfl
theorem w913 : Jvm.Cond.code ({ cls := "Panelry$Page", name := "answersInPrint", desc := "(I)[I" } : Jvm.MethodName) prog_5_method_11_code (5 : Nat) (Option.some (Jvm.ClassFile.FieldType.array Jvm.ClassFile.FieldType.int)) ∈ WS0 := v_4 164 rfl rfl
theorem w914 : Jvm.Cond.methodLink "Panelry$Page" (111 : Nat) ({ cls := "Panelry$Page", name := "countLetters", desc := "()I" } : Jvm.MethodName) ∈ WS0 := v_4 165 rfl rfl
theorem w916 : Jvm.Cond.instanceMethod ({ cls := "Panelry$Page", name := "countLetters", desc := "()I" } : Jvm.MethodName) ∈ WS0 := v_4 167 rfl rfl
theorem w917 : Jvm.Cond.code ({ cls := "Panelry$Page", name := "countLetters", desc := "()I" } : Jvm.MethodName) prog_5_method_12_code (3 : Nat) (Option.some Jvm.ClassFile.FieldType.int) ∈ WS0 := v_4 168 rfl rfl
theorem w918 : Jvm.Cond.methodLink "PanelryLaw" (176 : Nat) ({ cls := "PanelryLaw", name := "printed", desc := "(LPanelry;II[J)I" } : Jvm.MethodName) ∈ WS0 := v_4 169 rfl rfl
theorem w919 : Jvm.Cond.static ({ cls := "PanelryLaw", name := "printed", desc := "(LPanelry;II[J)I" } : Jvm.MethodName) ∈ WS0 := v_4 170 rfl rfl
theorem w921 : Jvm.Cond.methodLink "PanelryLaw" (88 : Nat) ({ cls := "Panelry", name := "printed", desc := "(II)I" } : Jvm.MethodName) ∈ WS0 := v_4 172 rfl rfl
theorem w922 : Jvm.Cond.instanceMethod ({ cls := "Panelry", name := "printed", desc := "(II)I" } : Jvm.MethodName) ∈ WS0 := v_4 173 rfl rfl
theorem w923 : Jvm.Cond.selects "Panelry" ({ cls := "Panelry", name := "printed", desc := "(II)I" } : Jvm.MethodName) ({ cls := "Panelry", name := "printed", desc := "(II)I" } : Jvm.MethodName) ∈ WS0 := v_4 174 rfl rfl
theorem w924 : Jvm.Cond.code ({ cls := "Panelry", name := "printed", desc := "(II)I" } : Jvm.MethodName) prog_1_method_23_code (4 : Nat) (Option.some Jvm.ClassFile.FieldType.int) ∈ WS0 := v_4 175 rfl rfl
theorem w925 : Jvm.Cond.classLink "PanelryLaw" (92 : Nat) "PanelryModel" ∈ WS0 := v_4 176 rfl rfl
theorem w926 : Jvm.Cond.instantiable "PanelryModel" (42 : Nat) ∈ WS0 := v_4 177 rfl rfl
theorem w927 : Jvm.Cond.methodLink "PanelryLaw" (94 : Nat) ({ cls := "PanelryModel", name := "<init>", desc := "()V" } : Jvm.MethodName) ∈ WS0 := v_4 178 rfl rfl
theorem w928 : Jvm.Cond.instanceMethod ({ cls := "PanelryModel", name := "<init>", desc := "()V" } : Jvm.MethodName) ∈ WS0 := v_4 179 rfl rfl
theorem w929 : Jvm.Cond.code ({ cls := "PanelryModel", name := "<init>", desc := "()V" } : Jvm.MethodName) prog_11_method_1_code (1 : Nat) (Option.none : Option Jvm.ClassFile.FieldType) ∈ WS0 := v_4 180 rfl rfl
theorem w930 : Jvm.Cond.methodLink "PanelryModel" (1 : Nat) ({ cls := "java/lang/Object", name := "<init>", desc := "()V" } : Jvm.MethodName) ∈ WS0 := v_4 181 rfl rfl
theorem w931 : Jvm.Cond.fieldLink "PanelryModel" (114 : Nat) "PanelryModel" "pages" "I" ∈ WS0 := v_4 182 rfl rfl
theorem w932 : Jvm.Cond.fieldLink "PanelryModel" (7 : Nat) "PanelryModel" "isLeft" "[Z" ∈ WS0 := v_4 183 rfl rfl
theorem w933 : Jvm.Cond.fieldLink "PanelryModel" (13 : Nat) "PanelryModel" "panels" "[I" ∈ WS0 := v_4 184 rfl rfl
theorem w934 : Jvm.Cond.fieldLink "PanelryModel" (17 : Nat) "PanelryModel" "balloons" "[I" ∈ WS0 := v_4 185 rfl rfl
theorem w935 : Jvm.Cond.fieldLink "PanelryModel" (20 : Nat) "PanelryModel" "stage" "[I" ∈ WS0 := v_4 186 rfl rfl
theorem w936 : Jvm.Cond.fieldLink "PanelryModel" (23 : Nat) "PanelryModel" "printedIn" "[I" ∈ WS0 := v_4 187 rfl rfl
theorem w937 : Jvm.Cond.fieldLink "PanelryModel" (26 : Nat) "PanelryModel" "printedPanels" "[I" ∈ WS0 := v_4 188 rfl rfl
theorem w938 : Jvm.Cond.fieldLink "PanelryModel" (29 : Nat) "PanelryModel" "printedLetters" "[I" ∈ WS0 := v_4 189 rfl rfl
theorem w939 : Jvm.Cond.fieldLink "PanelryModel" (32 : Nat) "PanelryModel" "printedReading" "[I" ∈ WS0 := v_4 190 rfl rfl
theorem w940 : Jvm.Cond.fieldLink "PanelryModel" (35 : Nat) "PanelryModel" "px" "[I" ∈ WS0 := v_4 191 rfl rfl
theorem w941 : Jvm.Cond.fieldLink "PanelryModel" (38 : Nat) "PanelryModel" "py" "[I" ∈ WS0 := v_4 192 rfl rfl
theorem w942 : Jvm.Cond.fieldLink "PanelryModel" (41 : Nat) "PanelryModel" "pw" "[I" ∈ WS0 := v_4 193 rfl rfl
theorem w943 : Jvm.Cond.fieldLink "PanelryModel" (44 : Nat) "PanelryModel" "ph" "[I" ∈ WS0 := v_4 194 rfl rfl
theorem w944 : Jvm.Cond.fieldLink "PanelryModel" (162 : Nat) "PanelryModel" "figures" "I" ∈ WS0 := v_4 195 rfl rfl
theorem w945 : Jvm.Cond.fieldLink "PanelryModel" (47 : Nat) "PanelryModel" "fx" "[I" ∈ WS0 := v_4 196 rfl rfl
theorem w946 : Jvm.Cond.fieldLink "PanelryModel" (50 : Nat) "PanelryModel" "fy" "[I" ∈ WS0 := v_4 197 rfl rfl
theorem w947 : Jvm.Cond.fieldLink "PanelryModel" (53 : Nat) "PanelryModel" "side" "[I" ∈ WS0 := v_4 198 rfl rfl
theorem w948 : Jvm.Cond.fieldLink "PanelryModel" (56 : Nat) "PanelryModel" "wears" "[I" ∈ WS0 := v_4 199 rfl rfl
theorem w949 : Jvm.Cond.fieldLink "PanelryModel" (59 : Nat) "PanelryModel" "changes" "[Z" ∈ WS0 := v_4 200 rfl rfl
theorem w950 : Jvm.Cond.fieldLink "PanelryModel" (62 : Nat) "PanelryModel" "in" "[I" ∈ WS0 := v_4 201 rfl rfl
theorem w951 : Jvm.Cond.fieldLink "PanelryModel" (65 : Nat) "PanelryModel" "bx" "[I" ∈ WS0 := v_4 202 rfl rfl
theorem w952 : Jvm.Cond.fieldLink "PanelryModel" (68 : Nat) "PanelryModel" "by" "[I" ∈ WS0 := v_4 203 rfl rfl
theorem w953 : Jvm.Cond.fieldLink "PanelryModel" (71 : Nat) "PanelryModel" "bw" "[I" ∈ WS0 := v_4 204 rfl rfl
theorem w954 : Jvm.Cond.fieldLink "PanelryModel" (74 : Nat) "PanelryModel" "bh" "[I" ∈ WS0 := v_4 205 rfl rfl
theorem w955 : Jvm.Cond.fieldLink "PanelryModel" (77 : Nat) "PanelryModel" "speaker" "[I" ∈ WS0 := v_4 206 rfl rfl
theorem w956 : Jvm.Cond.fieldLink "PanelryModel" (80 : Nat) "PanelryModel" "letters" "[I" ∈ WS0 := v_4 207 rfl rfl
theorem w957 : Jvm.Cond.fieldLink "PanelryModel" (198 : Nat) "PanelryModel" "tellings" "I" ∈ WS0 := v_4 208 rfl rfl
theorem w958 : Jvm.Cond.fieldLink "PanelryModel" (83 : Nat) "PanelryModel" "fact" "[I" ∈ WS0 := v_4 209 rfl rfl
theorem w959 : Jvm.Cond.fieldLink "PanelryModel" (86 : Nat) "PanelryModel" "time" "[I" ∈ WS0 := v_4 210 rfl rfl
theorem w960 : Jvm.Cond.fieldLink "PanelryModel" (89 : Nat) "PanelryModel" "value" "[I" ∈ WS0 := v_4 211 rfl rfl
theorem w961 : Jvm.Cond.fieldLink "PanelryModel" (92 : Nat) "PanelryModel" "isRetcon" "[Z" ∈ WS0 := v_4 212 rfl rfl
theorem w962 : Jvm.Cond.fieldLink "PanelryModel" (95 : Nat) "PanelryModel" "toldIn" "[I" ∈ WS0 := v_4 213 rfl rfl
theorem w963 : Jvm.Cond.fieldLink "PanelryModel" (201 : Nat) "PanelryModel" "week" "I" ∈ WS0 := v_4 214 rfl rfl
theorem w964 : Jvm.Cond.fieldLink "PanelryModel" (98 : Nat) "PanelryModel" "workers" "I" ∈ WS0 := v_4 215 rfl rfl
theorem w965 : Jvm.Cond.fieldLink "PanelryModel" (142 : Nat) "PanelryModel" "many" "I" ∈ WS0 := v_4 216 rfl rfl
theorem w966 : Jvm.Cond.fieldLink "PanelryModel" (102 : Nat) "PanelryModel" "reading" "[I" ∈ WS0 := v_4 217 rfl rfl
theorem w967 : Jvm.Cond.fieldLink "PanelryModel" (145 : Nat) "PanelryModel" "doubts" "I" ∈ WS0 := v_4 218 rfl rfl
theorem w968 : Jvm.Cond.fieldLink "PanelryModel" (105 : Nat) "PanelryModel" "stack" "[I" ∈ WS0 := v_4 219 rfl rfl
theorem w969 : Jvm.Cond.fieldLink "PanelryModel" (139 : Nat) "PanelryModel" "gutter" "I" ∈ WS0 := v_4 220 rfl rfl
theorem w970 : Jvm.Cond.fieldLink "PanelryModel" (136 : Nat) "PanelryModel" "ahead" "I" ∈ WS0 := v_4 221 rfl rfl
theorem w971 : Jvm.Cond.fieldLink "PanelryModel" (108 : Nat) "PanelryModel" "ways" "[I" ∈ WS0 := v_4 222 rfl rfl
theorem w972 : Jvm.Cond.fieldLink "PanelryModel" (111 : Nat) "PanelryModel" "thrown" "I" ∈ WS0 := v_4 223 rfl rfl
theorem w1058 : Jvm.Cond.arrayClass Jvm.ClassFile.FieldType.boolean ∈ WS0 := v_5 69 rfl rfl
theorem w1059 : Jvm.Cond.methodLink "PanelryLaw" (101 : Nat) ({ cls := "PanelryModel", name := "thrown", desc := "()I" } : Jvm.MethodName) ∈ WS0 := v_5 70 rfl rfl
theorem w1060 : Jvm.Cond.instanceMethod ({ cls := "PanelryModel", name := "thrown", desc := "()I" } : Jvm.MethodName) ∈ WS0 := v_5 71 rfl rfl
theorem w1061 : Jvm.Cond.selects "PanelryModel" ({ cls := "PanelryModel", name := "thrown", desc := "()I" } : Jvm.MethodName) ({ cls := "PanelryModel", name := "thrown", desc := "()I" } : Jvm.MethodName) ∈ WS0 := v_5 72 rfl rfl
theorem w1062 : Jvm.Cond.code ({ cls := "PanelryModel", name := "thrown", desc := "()I" } : Jvm.MethodName) prog_11_method_2_code (1 : Nat) (Option.some Jvm.ClassFile.FieldType.int) ∈ WS0 := v_5 73 rfl rfl
theorem w1063 : Jvm.Cond.methodLink "PanelryLaw" (100 : Nat) ({ cls := "PanelryModel", name := "page", desc := "(Z)I" } : Jvm.MethodName) ∈ WS0 := v_5 74 rfl rfl
theorem w1064 : Jvm.Cond.instanceMethod ({ cls := "PanelryModel", name := "page", desc := "(Z)I" } : Jvm.MethodName) ∈ WS0 := v_5 75 rfl rfl
theorem w1065 : Jvm.Cond.selects "PanelryModel" ({ cls := "PanelryModel", name := "page", desc := "(Z)I" } : Jvm.MethodName) ({ cls := "PanelryModel", name := "page", desc := "(Z)I" } : Jvm.MethodName) ∈ WS0 := v_5 76 rfl rfl
theorem w1066 : Jvm.Cond.code ({ cls := "PanelryModel", name := "page", desc := "(Z)I" } : Jvm.MethodName) prog_11_method_10_code (2 : Nat) (Option.some Jvm.ClassFile.FieldType.int) ∈ WS0 := v_5 77 rfl rfl
theorem w1067 : Jvm.Cond.methodLink "PanelryModel" (125 : Nat) ({ cls := "PanelryModel", name := "makes", desc := "(Z)I" } : Jvm.MethodName) ∈ WS0 := v_5 78 rfl rfl
theorem w1069 : Jvm.Cond.instanceMethod ({ cls := "PanelryModel", name := "makes", desc := "(Z)I" } : Jvm.MethodName) ∈ WS0 := v_5 80 rfl rfl
theorem w1070 : Jvm.Cond.code ({ cls := "PanelryModel", name := "makes", desc := "(Z)I" } : Jvm.MethodName) prog_11_method_9_code (2 : Nat) (Option.some Jvm.ClassFile.FieldType.int) ∈ WS0 := v_5 81 rfl rfl
theorem w1071 : Jvm.Cond.methodLink "PanelryLaw" (107 : Nat) ({ cls := "PanelryModel", name := "panel", desc := "(IIIII)I" } : Jvm.MethodName) ∈ WS0 := v_5 82 rfl rfl
theorem w1072 : Jvm.Cond.instanceMethod ({ cls := "PanelryModel", name := "panel", desc := "(IIIII)I" } : Jvm.MethodName) ∈ WS0 := v_5 83 rfl rfl
theorem w1073 : Jvm.Cond.selects "PanelryModel" ({ cls := "PanelryModel", name := "panel", desc := "(IIIII)I" } : Jvm.MethodName) ({ cls := "PanelryModel", name := "panel", desc := "(IIIII)I" } : Jvm.MethodName) ∈ WS0 := v_5 84 rfl rfl
theorem w1074 : Jvm.Cond.code ({ cls := "PanelryModel", name := "panel", desc := "(IIIII)I" } : Jvm.MethodName) prog_11_method_11_code (8 : Nat) (Option.some Jvm.ClassFile.FieldType.int) ∈ WS0 := v_5 85 rfl rfl
theorem w1075 : Jvm.Cond.methodLink "PanelryModel" (121 : Nat) ({ cls := "PanelryModel", name := "isPage", desc := "(I)Z" } : Jvm.MethodName) ∈ WS0 := v_5 86 rfl rfl
theorem w1077 : Jvm.Cond.instanceMethod ({ cls := "PanelryModel", name := "isPage", desc := "(I)Z" } : Jvm.MethodName) ∈ WS0 := v_5 88 rfl rfl
theorem w1078 : Jvm.Cond.code ({ cls := "PanelryModel", name := "isPage", desc := "(I)Z" } : Jvm.MethodName) prog_11_method_4_code (2 : Nat) (Option.some Jvm.ClassFile.FieldType.boolean) ∈ WS0 := v_5 89 rfl rfl
theorem w1079 : Jvm.Cond.methodLink "PanelryModel" (117 : Nat) ({ cls := "PanelryModel", name := "within", desc := "(III)Z" } : Jvm.MethodName) ∈ WS0 := v_5 90 rfl rfl
theorem w1080 : Jvm.Cond.static ({ cls := "PanelryModel", name := "within", desc := "(III)Z" } : Jvm.MethodName) ∈ WS0 := v_5 91 rfl rfl
theorem w1081 : Jvm.Cond.code ({ cls := "PanelryModel", name := "within", desc := "(III)Z" } : Jvm.MethodName) prog_11_method_3_code (3 : Nat) (Option.some Jvm.ClassFile.FieldType.boolean) ∈ WS0 := v_5 92 rfl rfl
theorem w1082 : Jvm.Cond.methodLink "PanelryModel" (129 : Nat) ({ cls := "PanelryModel", name := "isPrinted", desc := "(I)Z" } : Jvm.MethodName) ∈ WS0 := v_5 93 rfl rfl
theorem w1084 : Jvm.Cond.instanceMethod ({ cls := "PanelryModel", name := "isPrinted", desc := "(I)Z" } : Jvm.MethodName) ∈ WS0 := v_5 95 rfl rfl
theorem w1085 : Jvm.Cond.code ({ cls := "PanelryModel", name := "isPrinted", desc := "(I)Z" } : Jvm.MethodName) prog_11_method_7_code (2 : Nat) (Option.some Jvm.ClassFile.FieldType.boolean) ∈ WS0 := v_5 96 rfl rfl
theorem w1086 : Jvm.Cond.methodLink "PanelryModel" (132 : Nat) ({ cls := "PanelryModel", name := "meet", desc := "(IIII)Z" } : Jvm.MethodName) ∈ WS0 := v_5 97 rfl rfl
theorem w1087 : Jvm.Cond.static ({ cls := "PanelryModel", name := "meet", desc := "(IIII)Z" } : Jvm.MethodName) ∈ WS0 := v_5 98 rfl rfl
theorem w1088 : Jvm.Cond.code ({ cls := "PanelryModel", name := "meet", desc := "(IIII)Z" } : Jvm.MethodName) prog_11_method_8_code (4 : Nat) (Option.some Jvm.ClassFile.FieldType.boolean) ∈ WS0 := v_5 99 rfl rfl
theorem w1089 : Jvm.Cond.methodLink "PanelryLaw" (111 : Nat) ({ cls := "PanelryModel", name := "turn", desc := "(IZ)Z" } : Jvm.MethodName) ∈ WS0 := v_5 100 rfl rfl
theorem w1090 : Jvm.Cond.instanceMethod ({ cls := "PanelryModel", name := "turn", desc := "(IZ)Z" } : Jvm.MethodName) ∈ WS0 := v_5 101 rfl rfl
theorem w1091 : Jvm.Cond.selects "PanelryModel" ({ cls := "PanelryModel", name := "turn", desc := "(IZ)Z" } : Jvm.MethodName) ({ cls := "PanelryModel", name := "turn", desc := "(IZ)Z" } : Jvm.MethodName) ∈ WS0 := v_5 102 rfl rfl
theorem w1092 : Jvm.Cond.code ({ cls := "PanelryModel", name := "turn", desc := "(IZ)Z" } : Jvm.MethodName) prog_11_method_12_code (4 : Nat) (Option.some Jvm.ClassFile.FieldType.boolean) ∈ WS0 := v_5 103 rfl rfl
theorem w1093 : Jvm.Cond.methodLink "PanelryLaw" (115 : Nat) ({ cls := "PanelryModel", name := "read", desc := "(IZI)I" } : Jvm.MethodName) ∈ WS0 := v_5 104 rfl rfl
theorem w1094 : Jvm.Cond.instanceMethod ({ cls := "PanelryModel", name := "read", desc := "(IZI)I" } : Jvm.MethodName) ∈ WS0 := v_5 105 rfl rfl
theorem w1095 : Jvm.Cond.selects "PanelryModel" ({ cls := "PanelryModel", name := "read", desc := "(IZI)I" } : Jvm.MethodName) ({ cls := "PanelryModel", name := "read", desc := "(IZI)I" } : Jvm.MethodName) ∈ WS0 := v_5 106 rfl rfl
theorem w1096 : Jvm.Cond.code ({ cls := "PanelryModel", name := "read", desc := "(IZI)I" } : Jvm.MethodName) prog_11_method_16_code (4 : Nat) (Option.some Jvm.ClassFile.FieldType.int) ∈ WS0 := v_5 107 rfl rfl
theorem w1097 : Jvm.Cond.methodLink "PanelryModel" (155 : Nat) ({ cls := "PanelryModel", name := "reads", desc := "(IZ)V" } : Jvm.MethodName) ∈ WS0 := v_5 108 rfl rfl
theorem w1099 : Jvm.Cond.instanceMethod ({ cls := "PanelryModel", name := "reads", desc := "(IZ)V" } : Jvm.MethodName) ∈ WS0 := v_5 110 rfl rfl
theorem w1100 : Jvm.Cond.code ({ cls := "PanelryModel", name := "reads", desc := "(IZ)V" } : Jvm.MethodName) prog_11_method_15_code (12 : Nat) (Option.none : Option Jvm.ClassFile.FieldType) ∈ WS0 := v_5 111 rfl rfl
theorem w1101 : Jvm.Cond.methodLink "PanelryModel" (148 : Nat) ({ cls := "PanelryModel", name := "isOneOnly", desc := "(I)Z" } : Jvm.MethodName) ∈ WS0 := v_5 112 rfl rfl
theorem w1102 : Jvm.Cond.static ({ cls := "PanelryModel", name := "isOneOnly", desc := "(I)Z" } : Jvm.MethodName) ∈ WS0 := v_5 113 rfl rfl
theorem w1103 : Jvm.Cond.code ({ cls := "PanelryModel", name := "isOneOnly", desc := "(I)Z" } : Jvm.MethodName) prog_11_method_14_code (1 : Nat) (Option.some Jvm.ClassFile.FieldType.boolean) ∈ WS0 := v_5 114 rfl rfl
theorem w1104 : Jvm.Cond.methodLink "PanelryModel" (151 : Nat) ({ cls := "PanelryModel", name := "cuts", desc := "(IIIZ)Z" } : Jvm.MethodName) ∈ WS0 := v_5 115 rfl rfl
theorem w1106 : Jvm.Cond.instanceMethod ({ cls := "PanelryModel", name := "cuts", desc := "(IIIZ)Z" } : Jvm.MethodName) ∈ WS0 := v_5 117 rfl rfl
theorem w1107 : Jvm.Cond.code ({ cls := "PanelryModel", name := "cuts", desc := "(IIIZ)Z" } : Jvm.MethodName) prog_11_method_13_code (12 : Nat) (Option.some Jvm.ClassFile.FieldType.boolean) ∈ WS0 := v_5 118 rfl rfl
theorem w1108 : Jvm.Cond.methodLink "PanelryLaw" (119 : Nat) ({ cls := "PanelryModel", name := "doubts", desc := "(I)I" } : Jvm.MethodName) ∈ WS0 := v_5 119 rfl rfl
theorem w1109 : Jvm.Cond.instanceMethod ({ cls := "PanelryModel", name := "doubts", desc := "(I)I" } : Jvm.MethodName) ∈ WS0 := v_5 120 rfl rfl
theorem w1110 : Jvm.Cond.selects "PanelryModel" ({ cls := "PanelryModel", name := "doubts", desc := "(I)I" } : Jvm.MethodName) ({ cls := "PanelryModel", name := "doubts", desc := "(I)I" } : Jvm.MethodName) ∈ WS0 := v_5 121 rfl rfl
theorem w1111 : Jvm.Cond.code ({ cls := "PanelryModel", name := "doubts", desc := "(I)I" } : Jvm.MethodName) prog_11_method_17_code (2 : Nat) (Option.some Jvm.ClassFile.FieldType.int) ∈ WS0 := v_5 122 rfl rfl
theorem w1112 : Jvm.Cond.methodLink "PanelryLaw" (122 : Nat) ({ cls := "PanelryModel", name := "orders", desc := "(IZ)I" } : Jvm.MethodName) ∈ WS0 := v_5 123 rfl rfl
theorem w1113 : Jvm.Cond.instanceMethod ({ cls := "PanelryModel", name := "orders", desc := "(IZ)I" } : Jvm.MethodName) ∈ WS0 := v_5 124 rfl rfl
theorem w1114 : Jvm.Cond.selects "PanelryModel" ({ cls := "PanelryModel", name := "orders", desc := "(IZ)I" } : Jvm.MethodName) ({ cls := "PanelryModel", name := "orders", desc := "(IZ)I" } : Jvm.MethodName) ∈ WS0 := v_5 125 rfl rfl
theorem w1115 : Jvm.Cond.code ({ cls := "PanelryModel", name := "orders", desc := "(IZ)I" } : Jvm.MethodName) prog_11_method_19_code (8 : Nat) (Option.some Jvm.ClassFile.FieldType.int) ∈ WS0 := v_5 126 rfl rfl
theorem w1116 : Jvm.Cond.methodLink "PanelryModel" (159 : Nat) ({ cls := "PanelryModel", name := "isAhead", desc := "(IIIZ)Z" } : Jvm.MethodName) ∈ WS0 := v_5 127 rfl rfl
theorem w1118 : Jvm.Cond.instanceMethod ({ cls := "PanelryModel", name := "isAhead", desc := "(IIIZ)Z" } : Jvm.MethodName) ∈ WS0 := v_5 129 rfl rfl
theorem w1119 : Jvm.Cond.code ({ cls := "PanelryModel", name := "isAhead", desc := "(IIIZ)Z" } : Jvm.MethodName) prog_11_method_18_code (8 : Nat) (Option.some Jvm.ClassFile.FieldType.boolean) ∈ WS0 := v_5 130 rfl rfl
theorem w1120 : Jvm.Cond.methodLink "PanelryLaw" (125 : Nat) ({ cls := "PanelryModel", name := "isOne", desc := "(IZ)Z" } : Jvm.MethodName) ∈ WS0 := v_5 131 rfl rfl
theorem w1121 : Jvm.Cond.instanceMethod ({ cls := "PanelryModel", name := "isOne", desc := "(IZ)Z" } : Jvm.MethodName) ∈ WS0 := v_5 132 rfl rfl
theorem w1122 : Jvm.Cond.selects "PanelryModel" ({ cls := "PanelryModel", name := "isOne", desc := "(IZ)Z" } : Jvm.MethodName) ({ cls := "PanelryModel", name := "isOne", desc := "(IZ)Z" } : Jvm.MethodName) ∈ WS0 := v_5 133 rfl rfl
theorem w1123 : Jvm.Cond.code ({ cls := "PanelryModel", name := "isOne", desc := "(IZ)Z" } : Jvm.MethodName) prog_11_method_20_code (6 : Nat) (Option.some Jvm.ClassFile.FieldType.boolean) ∈ WS0 := v_5 134 rfl rfl
theorem w1124 : Jvm.Cond.methodLink "PanelryLaw" (128 : Nat) ({ cls := "PanelryModel", name := "mirror", desc := "(I)I" } : Jvm.MethodName) ∈ WS0 := v_5 135 rfl rfl
theorem w1125 : Jvm.Cond.instanceMethod ({ cls := "PanelryModel", name := "mirror", desc := "(I)I" } : Jvm.MethodName) ∈ WS0 := v_5 136 rfl rfl
theorem w1126 : Jvm.Cond.selects "PanelryModel" ({ cls := "PanelryModel", name := "mirror", desc := "(I)I" } : Jvm.MethodName) ({ cls := "PanelryModel", name := "mirror", desc := "(I)I" } : Jvm.MethodName) ∈ WS0 := v_5 137 rfl rfl
theorem w1127 : Jvm.Cond.code ({ cls := "PanelryModel", name := "mirror", desc := "(I)I" } : Jvm.MethodName) prog_11_method_21_code (7 : Nat) (Option.some Jvm.ClassFile.FieldType.int) ∈ WS0 := v_5 138 rfl rfl
theorem w1128 : Jvm.Cond.methodLink "PanelryLaw" (132 : Nat) ({ cls := "PanelryModel", name := "figure", desc := "()I" } : Jvm.MethodName) ∈ WS0 := v_5 139 rfl rfl
theorem w1129 : Jvm.Cond.instanceMethod ({ cls := "PanelryModel", name := "figure", desc := "()I" } : Jvm.MethodName) ∈ WS0 := v_5 140 rfl rfl
theorem w1130 : Jvm.Cond.selects "PanelryModel" ({ cls := "PanelryModel", name := "figure", desc := "()I" } : Jvm.MethodName) ({ cls := "PanelryModel", name := "figure", desc := "()I" } : Jvm.MethodName) ∈ WS0 := v_5 141 rfl rfl
theorem w1131 : Jvm.Cond.code ({ cls := "PanelryModel", name := "figure", desc := "()I" } : Jvm.MethodName) prog_11_method_22_code (1 : Nat) (Option.some Jvm.ClassFile.FieldType.int) ∈ WS0 := v_5 142 rfl rfl
theorem w1132 : Jvm.Cond.methodLink "PanelryLaw" (136 : Nat) ({ cls := "PanelryModel", name := "draw", desc := "(IIIIIIIZ)V" } : Jvm.MethodName) ∈ WS0 := v_5 143 rfl rfl
theorem w1133 : Jvm.Cond.instanceMethod ({ cls := "PanelryModel", name := "draw", desc := "(IIIIIIIZ)V" } : Jvm.MethodName) ∈ WS0 := v_5 144 rfl rfl
theorem w1134 : Jvm.Cond.selects "PanelryModel" ({ cls := "PanelryModel", name := "draw", desc := "(IIIIIIIZ)V" } : Jvm.MethodName) ({ cls := "PanelryModel", name := "draw", desc := "(IIIIIIIZ)V" } : Jvm.MethodName) ∈ WS0 := v_5 145 rfl rfl
theorem w1135 : Jvm.Cond.code ({ cls := "PanelryModel", name := "draw", desc := "(IIIIIIIZ)V" } : Jvm.MethodName) prog_11_method_23_code (12 : Nat) (Option.none : Option Jvm.ClassFile.FieldType) ∈ WS0 := v_5 146 rfl rfl
theorem w1136 : Jvm.Cond.methodLink "PanelryModel" (165 : Nat) ({ cls := "PanelryModel", name := "isPanel", desc := "(II)Z" } : Jvm.MethodName) ∈ WS0 := v_5 147 rfl rfl
theorem w1138 : Jvm.Cond.instanceMethod ({ cls := "PanelryModel", name := "isPanel", desc := "(II)Z" } : Jvm.MethodName) ∈ WS0 := v_5 149 rfl rfl
theorem w1139 : Jvm.Cond.code ({ cls := "PanelryModel", name := "isPanel", desc := "(II)Z" } : Jvm.MethodName) prog_11_method_5_code (3 : Nat) (Option.some Jvm.ClassFile.FieldType.boolean) ∈ WS0 := v_5 150 rfl rfl
theorem w1140 : Jvm.Cond.methodLink "PanelryLaw" (140 : Nat) ({ cls := "PanelryModel", name := "balloon", desc := "(IIIIIIII)I" } : Jvm.MethodName) ∈ WS0 := v_5 151 rfl rfl
theorem w1141 : Jvm.Cond.instanceMethod ({ cls := "PanelryModel", name := "balloon", desc := "(IIIIIIII)I" } : Jvm.MethodName) ∈ WS0 := v_5 152 rfl rfl
theorem w1142 : Jvm.Cond.selects "PanelryModel" ({ cls := "PanelryModel", name := "balloon", desc := "(IIIIIIII)I" } : Jvm.MethodName) ({ cls := "PanelryModel", name := "balloon", desc := "(IIIIIIII)I" } : Jvm.MethodName) ∈ WS0 := v_5 153 rfl rfl
theorem w1143 : Jvm.Cond.code ({ cls := "PanelryModel", name := "balloon", desc := "(IIIIIIII)I" } : Jvm.MethodName) prog_11_method_24_code (10 : Nat) (Option.some Jvm.ClassFile.FieldType.int) ∈ WS0 := v_5 154 rfl rfl
theorem w1144 : Jvm.Cond.methodLink "PanelryLaw" (144 : Nat) ({ cls := "PanelryModel", name := "move", desc := "(IIII)V" } : Jvm.MethodName) ∈ WS0 := v_5 155 rfl rfl
theorem w1145 : Jvm.Cond.instanceMethod ({ cls := "PanelryModel", name := "move", desc := "(IIII)V" } : Jvm.MethodName) ∈ WS0 := v_5 156 rfl rfl
theorem w1146 : Jvm.Cond.selects "PanelryModel" ({ cls := "PanelryModel", name := "move", desc := "(IIII)V" } : Jvm.MethodName) ({ cls := "PanelryModel", name := "move", desc := "(IIII)V" } : Jvm.MethodName) ∈ WS0 := v_5 157 rfl rfl
theorem w1147 : Jvm.Cond.code ({ cls := "PanelryModel", name := "move", desc := "(IIII)V" } : Jvm.MethodName) prog_11_method_25_code (5 : Nat) (Option.none : Option Jvm.ClassFile.FieldType) ∈ WS0 := v_5 158 rfl rfl
theorem w1148 : Jvm.Cond.methodLink "PanelryModel" (169 : Nat) ({ cls := "PanelryModel", name := "isBalloon", desc := "(II)Z" } : Jvm.MethodName) ∈ WS0 := v_5 159 rfl rfl
theorem w1150 : Jvm.Cond.instanceMethod ({ cls := "PanelryModel", name := "isBalloon", desc := "(II)Z" } : Jvm.MethodName) ∈ WS0 := v_5 161 rfl rfl
theorem w1151 : Jvm.Cond.code ({ cls := "PanelryModel", name := "isBalloon", desc := "(II)Z" } : Jvm.MethodName) prog_11_method_6_code (3 : Nat) (Option.some Jvm.ClassFile.FieldType.boolean) ∈ WS0 := v_5 162 rfl rfl
theorem w1152 : Jvm.Cond.methodLink "PanelryLaw" (148 : Nat) ({ cls := "PanelryModel", name := "faults", desc := "(II)I" } : Jvm.MethodName) ∈ WS0 := v_5 163 rfl rfl
theorem w1153 : Jvm.Cond.instanceMethod ({ cls := "PanelryModel", name := "faults", desc := "(II)I" } : Jvm.MethodName) ∈ WS0 := v_5 164 rfl rfl
theorem w1154 : Jvm.Cond.selects "PanelryModel" ({ cls := "PanelryModel", name := "faults", desc := "(II)I" } : Jvm.MethodName) ({ cls := "PanelryModel", name := "faults", desc := "(II)I" } : Jvm.MethodName) ∈ WS0 := v_5 165 rfl rfl
theorem w1155 : Jvm.Cond.code ({ cls := "PanelryModel", name := "faults", desc := "(II)I" } : Jvm.MethodName) prog_11_method_33_code (11 : Nat) (Option.some Jvm.ClassFile.FieldType.int) ∈ WS0 := v_5 166 rfl rfl
theorem w1156 : Jvm.Cond.methodLink "PanelryModel" (183 : Nat) ({ cls := "PanelryModel", name := "tailOf", desc := "(II)I" } : Jvm.MethodName) ∈ WS0 := v_5 167 rfl rfl
theorem w1158 : Jvm.Cond.instanceMethod ({ cls := "PanelryModel", name := "tailOf", desc := "(II)I" } : Jvm.MethodName) ∈ WS0 := v_5 169 rfl rfl
theorem w1159 : Jvm.Cond.code ({ cls := "PanelryModel", name := "tailOf", desc := "(II)I" } : Jvm.MethodName) prog_11_method_26_code (5 : Nat) (Option.some Jvm.ClassFile.FieldType.int) ∈ WS0 := v_5 170 rfl rfl
theorem w1160 : Jvm.Cond.methodLink "PanelryModel" (195 : Nat) ({ cls := "PanelryModel", name := "isTangled", desc := "(II)Z" } : Jvm.MethodName) ∈ WS0 := v_5 171 rfl rfl
theorem w1162 : Jvm.Cond.instanceMethod ({ cls := "PanelryModel", name := "isTangled", desc := "(II)Z" } : Jvm.MethodName) ∈ WS0 := v_5 173 rfl rfl
theorem w1163 : Jvm.Cond.code ({ cls := "PanelryModel", name := "isTangled", desc := "(II)Z" } : Jvm.MethodName) prog_11_method_32_code (15 : Nat) (Option.some Jvm.ClassFile.FieldType.boolean) ∈ WS0 := v_5 174 rfl rfl
theorem w1164 : Jvm.Cond.methodLink "PanelryModel" (187 : Nat) ({ cls := "PanelryModel", name := "hitsBox", desc := "(IIIII)Z" } : Jvm.MethodName) ∈ WS0 := v_5 175 rfl rfl
theorem w1166 : Jvm.Cond.instanceMethod ({ cls := "PanelryModel", name := "hitsBox", desc := "(IIIII)Z" } : Jvm.MethodName) ∈ WS0 := v_5 177 rfl rfl
theorem w1167 : Jvm.Cond.code ({ cls := "PanelryModel", name := "hitsBox", desc := "(IIIII)Z" } : Jvm.MethodName) prog_11_method_30_code (11 : Nat) (Option.some Jvm.ClassFile.FieldType.boolean) ∈ WS0 := v_5 178 rfl rfl
theorem w1168 : Jvm.Cond.methodLink "PanelryModel" (176 : Nat) ({ cls := "PanelryModel", name := "isBetween", desc := "(III)Z" } : Jvm.MethodName) ∈ WS0 := v_5 179 rfl rfl
theorem w1169 : Jvm.Cond.static ({ cls := "PanelryModel", name := "isBetween", desc := "(III)Z" } : Jvm.MethodName) ∈ WS0 := v_5 180 rfl rfl
theorem w1170 : Jvm.Cond.code ({ cls := "PanelryModel", name := "isBetween", desc := "(III)Z" } : Jvm.MethodName) prog_11_method_28_code (3 : Nat) (Option.some Jvm.ClassFile.FieldType.boolean) ∈ WS0 := v_5 181 rfl rfl
theorem w1171 : Jvm.Cond.methodLink "PanelryModel" (179 : Nat) ({ cls := "PanelryModel", name := "cross", desc := "(IIIIIIII)Z" } : Jvm.MethodName) ∈ WS0 := v_5 182 rfl rfl
theorem w1172 : Jvm.Cond.static ({ cls := "PanelryModel", name := "cross", desc := "(IIIIIIII)Z" } : Jvm.MethodName) ∈ WS0 := v_5 183 rfl rfl
theorem w1173 : Jvm.Cond.code ({ cls := "PanelryModel", name := "cross", desc := "(IIIIIIII)Z" } : Jvm.MethodName) prog_11_method_29_code (13 : Nat) (Option.some Jvm.ClassFile.FieldType.boolean) ∈ WS0 := v_5 184 rfl rfl
theorem w1174 : Jvm.Cond.methodLink "PanelryModel" (172 : Nat) ({ cls := "PanelryModel", name := "turnOf", desc := "(IIIIII)I" } : Jvm.MethodName) ∈ WS0 := v_5 185 rfl rfl
theorem w1175 : Jvm.Cond.static ({ cls := "PanelryModel", name := "turnOf", desc := "(IIIIII)I" } : Jvm.MethodName) ∈ WS0 := v_5 186 rfl rfl
theorem w1176 : Jvm.Cond.code ({ cls := "PanelryModel", name := "turnOf", desc := "(IIIIII)I" } : Jvm.MethodName) prog_11_method_27_code (7 : Nat) (Option.some Jvm.ClassFile.FieldType.int) ∈ WS0 := v_5 187 rfl rfl
theorem w1177 : Jvm.Cond.methodLink "PanelryModel" (191 : Nat) ({ cls := "PanelryModel", name := "runAlong", desc := "(IIIIII)Z" } : Jvm.MethodName) ∈ WS0 := v_5 188 rfl rfl
theorem w1178 : Jvm.Cond.static ({ cls := "PanelryModel", name := "runAlong", desc := "(IIIIII)Z" } : Jvm.MethodName) ∈ WS0 := v_5 189 rfl rfl
theorem w1179 : Jvm.Cond.code ({ cls := "PanelryModel", name := "runAlong", desc := "(IIIIII)Z" } : Jvm.MethodName) prog_11_method_31_code (7 : Nat) (Option.some Jvm.ClassFile.FieldType.boolean) ∈ WS0 := v_5 190 rfl rfl
theorem w1180 : Jvm.Cond.methodLink "PanelryLaw" (152 : Nat) ({ cls := "PanelryModel", name := "breaks", desc := "()I" } : Jvm.MethodName) ∈ WS0 := v_5 191 rfl rfl
theorem w1181 : Jvm.Cond.instanceMethod ({ cls := "PanelryModel", name := "breaks", desc := "()I" } : Jvm.MethodName) ∈ WS0 := v_5 192 rfl rfl
theorem w1182 : Jvm.Cond.selects "PanelryModel" ({ cls := "PanelryModel", name := "breaks", desc := "()I" } : Jvm.MethodName) ({ cls := "PanelryModel", name := "breaks", desc := "()I" } : Jvm.MethodName) ∈ WS0 := v_5 193 rfl rfl
theorem w1183 : Jvm.Cond.code ({ cls := "PanelryModel", name := "breaks", desc := "()I" } : Jvm.MethodName) prog_11_method_34_code (7 : Nat) (Option.some Jvm.ClassFile.FieldType.int) ∈ WS0 := v_5 194 rfl rfl
theorem w1184 : Jvm.Cond.methodLink "PanelryLaw" (156 : Nat) ({ cls := "PanelryModel", name := "tell", desc := "(IIIZ)I" } : Jvm.MethodName) ∈ WS0 := v_5 195 rfl rfl
theorem w1185 : Jvm.Cond.instanceMethod ({ cls := "PanelryModel", name := "tell", desc := "(IIIZ)I" } : Jvm.MethodName) ∈ WS0 := v_5 196 rfl rfl
theorem w1186 : Jvm.Cond.selects "PanelryModel" ({ cls := "PanelryModel", name := "tell", desc := "(IIIZ)I" } : Jvm.MethodName) ({ cls := "PanelryModel", name := "tell", desc := "(IIIZ)I" } : Jvm.MethodName) ∈ WS0 := v_5 197 rfl rfl
theorem w1187 : Jvm.Cond.code ({ cls := "PanelryModel", name := "tell", desc := "(IIIZ)I" } : Jvm.MethodName) prog_11_method_35_code (5 : Nat) (Option.some Jvm.ClassFile.FieldType.int) ∈ WS0 := v_5 198 rfl rfl
theorem w1188 : Jvm.Cond.methodLink "PanelryLaw" (160 : Nat) ({ cls := "PanelryModel", name := "known", desc := "(III)I" } : Jvm.MethodName) ∈ WS0 := v_5 199 rfl rfl
theorem w1189 : Jvm.Cond.instanceMethod ({ cls := "PanelryModel", name := "known", desc := "(III)I" } : Jvm.MethodName) ∈ WS0 := v_5 200 rfl rfl
theorem w1190 : Jvm.Cond.selects "PanelryModel" ({ cls := "PanelryModel", name := "known", desc := "(III)I" } : Jvm.MethodName) ({ cls := "PanelryModel", name := "known", desc := "(III)I" } : Jvm.MethodName) ∈ WS0 := v_5 201 rfl rfl
theorem w1191 : Jvm.Cond.code ({ cls := "PanelryModel", name := "known", desc := "(III)I" } : Jvm.MethodName) prog_11_method_36_code (7 : Nat) (Option.some Jvm.ClassFile.FieldType.int) ∈ WS0 := v_5 202 rfl rfl
theorem w1192 : Jvm.Cond.methodLink "PanelryLaw" (163 : Nat) ({ cls := "PanelryModel", name := "contradictions", desc := "(I)I" } : Jvm.MethodName) ∈ WS0 := v_5 203 rfl rfl
theorem w1193 : Jvm.Cond.instanceMethod ({ cls := "PanelryModel", name := "contradictions", desc := "(I)I" } : Jvm.MethodName) ∈ WS0 := v_5 204 rfl rfl
theorem w1194 : Jvm.Cond.selects "PanelryModel" ({ cls := "PanelryModel", name := "contradictions", desc := "(I)I" } : Jvm.MethodName) ({ cls := "PanelryModel", name := "contradictions", desc := "(I)I" } : Jvm.MethodName) ∈ WS0 := v_5 205 rfl rfl
theorem w1195 : Jvm.Cond.code ({ cls := "PanelryModel", name := "contradictions", desc := "(I)I" } : Jvm.MethodName) prog_11_method_37_code (5 : Nat) (Option.some Jvm.ClassFile.FieldType.int) ∈ WS0 := v_5 206 rfl rfl
theorem w1196 : Jvm.Cond.methodLink "PanelryLaw" (166 : Nat) ({ cls := "PanelryModel", name := "workers", desc := "(I)I" } : Jvm.MethodName) ∈ WS0 := v_5 207 rfl rfl
theorem w1197 : Jvm.Cond.instanceMethod ({ cls := "PanelryModel", name := "workers", desc := "(I)I" } : Jvm.MethodName) ∈ WS0 := v_5 208 rfl rfl
theorem w1198 : Jvm.Cond.selects "PanelryModel" ({ cls := "PanelryModel", name := "workers", desc := "(I)I" } : Jvm.MethodName) ({ cls := "PanelryModel", name := "workers", desc := "(I)I" } : Jvm.MethodName) ∈ WS0 := v_5 209 rfl rfl
theorem w1199 : Jvm.Cond.code ({ cls := "PanelryModel", name := "workers", desc := "(I)I" } : Jvm.MethodName) prog_11_method_38_code (3 : Nat) (Option.some Jvm.ClassFile.FieldType.int) ∈ WS0 := v_5 210 rfl rfl
theorem w1200 : Jvm.Cond.methodLink "PanelryLaw" (169 : Nat) ({ cls := "PanelryModel", name := "pass", desc := "(I)I" } : Jvm.MethodName) ∈ WS0 := v_5 211 rfl rfl
theorem w1201 : Jvm.Cond.instanceMethod ({ cls := "PanelryModel", name := "pass", desc := "(I)I" } : Jvm.MethodName) ∈ WS0 := v_5 212 rfl rfl
theorem w1202 : Jvm.Cond.selects "PanelryModel" ({ cls := "PanelryModel", name := "pass", desc := "(I)I" } : Jvm.MethodName) ({ cls := "PanelryModel", name := "pass", desc := "(I)I" } : Jvm.MethodName) ∈ WS0 := v_5 213 rfl rfl
theorem w1203 : Jvm.Cond.code ({ cls := "PanelryModel", name := "pass", desc := "(I)I" } : Jvm.MethodName) prog_11_method_39_code (5 : Nat) (Option.some Jvm.ClassFile.FieldType.int) ∈ WS0 := v_5 214 rfl rfl
theorem w1204 : Jvm.Cond.methodLink "PanelryLaw" (172 : Nat) ({ cls := "PanelryModel", name := "stage", desc := "(I)I" } : Jvm.MethodName) ∈ WS0 := v_5 215 rfl rfl
theorem w1205 : Jvm.Cond.instanceMethod ({ cls := "PanelryModel", name := "stage", desc := "(I)I" } : Jvm.MethodName) ∈ WS0 := v_5 216 rfl rfl
theorem w1206 : Jvm.Cond.selects "PanelryModel" ({ cls := "PanelryModel", name := "stage", desc := "(I)I" } : Jvm.MethodName) ({ cls := "PanelryModel", name := "stage", desc := "(I)I" } : Jvm.MethodName) ∈ WS0 := v_5 217 rfl rfl
theorem w1207 : Jvm.Cond.code ({ cls := "PanelryModel", name := "stage", desc := "(I)I" } : Jvm.MethodName) prog_11_method_40_code (2 : Nat) (Option.some Jvm.ClassFile.FieldType.int) ∈ WS0 := v_5 218 rfl rfl
theorem w1208 : Jvm.Cond.methodLink "PanelryLaw" (175 : Nat) ({ cls := "PanelryModel", name := "press", desc := "(I)I" } : Jvm.MethodName) ∈ WS0 := v_5 219 rfl rfl
theorem w1209 : Jvm.Cond.instanceMethod ({ cls := "PanelryModel", name := "press", desc := "(I)I" } : Jvm.MethodName) ∈ WS0 := v_5 220 rfl rfl
theorem w1210 : Jvm.Cond.selects "PanelryModel" ({ cls := "PanelryModel", name := "press", desc := "(I)I" } : Jvm.MethodName) ({ cls := "PanelryModel", name := "press", desc := "(I)I" } : Jvm.MethodName) ∈ WS0 := v_5 221 rfl rfl
theorem w1211 : Jvm.Cond.code ({ cls := "PanelryModel", name := "press", desc := "(I)I" } : Jvm.MethodName) prog_11_method_41_code (3 : Nat) (Option.some Jvm.ClassFile.FieldType.int) ∈ WS0 := v_5 222 rfl rfl
theorem w1212 : Jvm.Cond.methodLink "PanelryLaw" (178 : Nat) ({ cls := "PanelryModel", name := "printed", desc := "(II)I" } : Jvm.MethodName) ∈ WS0 := v_5 223 rfl rfl
theorem w1213 : Jvm.Cond.instanceMethod ({ cls := "PanelryModel", name := "printed", desc := "(II)I" } : Jvm.MethodName) ∈ WS0 := v_5 224 rfl rfl
theorem w1214 : Jvm.Cond.selects "PanelryModel" ({ cls := "PanelryModel", name := "printed", desc := "(II)I" } : Jvm.MethodName) ({ cls := "PanelryModel", name := "printed", desc := "(II)I" } : Jvm.MethodName) ∈ WS0 := v_5 225 rfl rfl
theorem w1215 : Jvm.Cond.code ({ cls := "PanelryModel", name := "printed", desc := "(II)I" } : Jvm.MethodName) prog_11_method_42_code (3 : Nat) (Option.some Jvm.ClassFile.FieldType.int) ∈ WS0 := v_5 226 rfl rfl
theorem w1216 : Jvm.Cond.arrayClass Jvm.ClassFile.FieldType.long ∈ WS0 := v_5 227 rfl rfl
theorem w1235 : Jvm.Cond.selects "[Ljava/lang/Object;" ({ cls := "java/lang/Object", name := "getClass", desc := "()Ljava/lang/Class;" } : Jvm.MethodName) ({ cls := "java/lang/Object", name := "getClass", desc := "()Ljava/lang/Class;" } : Jvm.MethodName) ∈ WS0 := v_6 6 rfl rfl
