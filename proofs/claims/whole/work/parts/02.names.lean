/-! NAMES (by program, wip/whole/tools/gen_names.py): classes, fields, methods, the words of the tables, by their places. -/
abbrev RRow : String := "RelaxedRadixVector$Row"
abbrev RTree : String := "RelaxedRadixVector$Tree"
abbrev RCls : String := "RelaxedRadixVector"
abbrev RMod : String := "RelaxedRadixVectorModel"
abbrev RAL : String := "java/util/ArrayList"
def TRow : u_T := fun k => match k with
  | 0 => ("RelaxedRadixVector$Row", "cells", "[I", true)
  | _ => ("RelaxedRadixVector$Row", "count", "I", false)
def tyRow : Nat → FieldType := fun k => match k with
  | 0 => .array .int
  | _ => .int
theorem nmRow : ∀ a, a < 2 → ∀ b, b < 2 → a ≠ b → (TRow a).2.1 ≠ (TRow b).2.1 := by decide +kernel
theorem tyRow_ok : ∀ k, k < 2 → parseFieldDescriptor (TRow k).2.2.1 = some (tyRow k) := by decide +kernel
abbrev kRow : Nat := 0
def TTree : u_T := fun k => match k with
  | 0 => ("RelaxedRadixVector$Tree", "rows", "[LRelaxedRadixVector$Row;", true)
  | _ => ("RelaxedRadixVector$Tree", "height", "I", false)
def tyTree : Nat → FieldType := fun k => match k with
  | 0 => .array (.object "RelaxedRadixVector$Row")
  | _ => .int
theorem nmTree : ∀ a, a < 2 → ∀ b, b < 2 → a ≠ b → (TTree a).2.1 ≠ (TTree b).2.1 := by decide +kernel
theorem tyTree_ok : ∀ k, k < 2 → parseFieldDescriptor (TTree k).2.2.1 = some (tyTree k) := by decide +kernel
abbrev kTree : Nat := 1
def TCls : u_T := fun k => match k with
  | 0 => ("RelaxedRadixVector", "trees", "Ljava/util/ArrayList;", true)
  | 1 => ("RelaxedRadixVector", "open", "[Z", true)
  | 2 => ("RelaxedRadixVector", "left", "LRelaxedRadixVector$Tree;", true)
  | 3 => ("RelaxedRadixVector", "right", "LRelaxedRadixVector$Tree;", true)
  | _ => ("RelaxedRadixVector", "result", "LRelaxedRadixVector$Tree;", true)
def tyCls : Nat → FieldType := fun k => match k with
  | 0 => .object "java/util/ArrayList"
  | 1 => .array .boolean
  | 2 => .object "RelaxedRadixVector$Tree"
  | 3 => .object "RelaxedRadixVector$Tree"
  | _ => .object "RelaxedRadixVector$Tree"
theorem nmCls : ∀ a, a < 5 → ∀ b, b < 5 → a ≠ b → (TCls a).2.1 ≠ (TCls b).2.1 := by decide +kernel
theorem tyCls_ok : ∀ k, k < 5 → parseFieldDescriptor (TCls k).2.2.1 = some (tyCls k) := by decide +kernel
abbrev kCls : Nat := 2
def TMod : u_T := fun k => match k with
  | 0 => ("RelaxedRadixVectorModel", "element", "[I", true)
  | 1 => ("RelaxedRadixVectorModel", "slots", "[B", true)
  | 2 => ("RelaxedRadixVectorModel", "size", "[I", true)
  | 3 => ("RelaxedRadixVectorModel", "height", "[I", true)
  | 4 => ("RelaxedRadixVectorModel", "count", "[I", true)
  | 5 => ("RelaxedRadixVectorModel", "open", "[Z", true)
  | 6 => ("RelaxedRadixVectorModel", "made", "I", false)
  | 7 => ("RelaxedRadixVectorModel", "wElement", "[I", true)
  | 8 => ("RelaxedRadixVectorModel", "wSlots", "[I", true)
  | 9 => ("RelaxedRadixVectorModel", "wCount", "[I", true)
  | 10 => ("RelaxedRadixVectorModel", "wSize", "[I", true)
  | 11 => ("RelaxedRadixVectorModel", "wHeight", "[I", true)
  | 12 => ("RelaxedRadixVectorModel", "left", "[I", true)
  | _ => ("RelaxedRadixVectorModel", "more", "[I", true)
def tyMod : Nat → FieldType := fun k => match k with
  | 0 => .array .int
  | 1 => .array .byte
  | 2 => .array .int
  | 3 => .array .int
  | 4 => .array .int
  | 5 => .array .boolean
  | 6 => .int
  | 7 => .array .int
  | 8 => .array .int
  | 9 => .array .int
  | 10 => .array .int
  | 11 => .array .int
  | 12 => .array .int
  | _ => .array .int
theorem nmMod : ∀ a, a < 14 → ∀ b, b < 14 → a ≠ b → (TMod a).2.1 ≠ (TMod b).2.1 := by decide +kernel
theorem tyMod_ok : ∀ k, k < 14 → parseFieldDescriptor (TMod k).2.2.1 = some (tyMod k) := by decide +kernel
abbrev kMod : Nat := 3
def TAL : u_T := fun k => match k with
  | 0 => ("java/util/ArrayList", "elementData", "[Ljava/lang/Object;", false)
  | 1 => ("java/util/ArrayList", "size", "I", false)
  | _ => ("java/util/AbstractList", "modCount", "I", false)
def tyAL : Nat → FieldType := fun k => match k with
  | 0 => .array (.object "java/lang/Object")
  | 1 => .int
  | _ => .int
theorem nmAL : ∀ a, a < 3 → ∀ b, b < 3 → a ≠ b → (TAL a).2.1 ≠ (TAL b).2.1 := by decide +kernel
theorem tyAL_ok : ∀ k, k < 3 → parseFieldDescriptor (TAL k).2.2.1 = some (tyAL k) := by decide +kernel
abbrev kAL : Nat := 4
abbrev gCl : List vw_C := [(RRow, TRow, 2), (RTree, TTree, 2), (RCls, TCls, 5), (RMod, TMod, 14), (RAL, TAL, 3)]
abbrev b_Cls_init : ByteArray := prog_1_method_1_code
abbrev y_Cls_init : MethodName := ⟨"RelaxedRadixVector", "<init>", "()V"⟩
abbrev b_AL_init : ByteArray := prog_13_method_2_code
abbrev y_AL_init : MethodName := ⟨"java/util/ArrayList", "<init>", "()V"⟩
abbrev b_ALa_init : ByteArray := prog_12_method_1_code
abbrev y_ALa_init : MethodName := ⟨"java/util/AbstractList", "<init>", "()V"⟩
abbrev b_AC_init : ByteArray := prog_11_method_1_code
abbrev y_AC_init : MethodName := ⟨"java/util/AbstractCollection", "<init>", "()V"⟩
abbrev b_Tree_init : ByteArray := prog_3_method_1_code
abbrev y_Tree_init : MethodName := ⟨"RelaxedRadixVector$Tree", "<init>", "()V"⟩
abbrev b_Row_init : ByteArray := prog_2_method_1_code
abbrev y_Row_init : MethodName := ⟨"RelaxedRadixVector$Row", "<init>", "()V"⟩
abbrev b_AL_add : ByteArray := prog_13_method_25_code
abbrev y_AL_add : MethodName := ⟨"java/util/ArrayList", "add", "(Ljava/lang/Object;)Z"⟩
abbrev b_AL_add3 : ByteArray := prog_13_method_24_code
abbrev y_AL_add3 : MethodName := ⟨"java/util/ArrayList", "add", "(Ljava/lang/Object;[Ljava/lang/Object;I)V"⟩
abbrev b_AL_grow0 : ByteArray := prog_13_method_7_code
abbrev y_AL_grow0 : MethodName := ⟨"java/util/ArrayList", "grow", "()[Ljava/lang/Object;"⟩
abbrev b_AL_grow1 : ByteArray := prog_13_method_6_code
abbrev y_AL_grow1 : MethodName := ⟨"java/util/ArrayList", "grow", "(I)[Ljava/lang/Object;"⟩
abbrev b_AS_newLength : ByteArray := prog_20_method_27_code
abbrev y_AS_newLength : MethodName := ⟨"jdk/internal/util/ArraysSupport", "newLength", "(III)I"⟩
abbrev b_Math_max : ByteArray := prog_9_method_65_code
abbrev y_Math_max : MethodName := ⟨"java/lang/Math", "max", "(II)I"⟩
abbrev b_AS_hugeLength : ByteArray := prog_20_method_28_code
abbrev y_AS_hugeLength : MethodName := ⟨"jdk/internal/util/ArraysSupport", "hugeLength", "(II)I"⟩
abbrev b_Arr_copyOf2 : ByteArray := prog_14_method_119_code
abbrev y_Arr_copyOf2 : MethodName := ⟨"java/util/Arrays", "copyOf", "([Ljava/lang/Object;I)[Ljava/lang/Object;"⟩
abbrev b_Arr_copyOf3 : ByteArray := prog_14_method_120_code
abbrev y_Arr_copyOf3 : MethodName := ⟨"java/util/Arrays", "copyOf", "([Ljava/lang/Object;ILjava/lang/Class;)[Ljava/lang/Object;"⟩
abbrev b_Math_min : ByteArray := prog_9_method_69_code
abbrev y_Math_min : MethodName := ⟨"java/lang/Math", "min", "(II)I"⟩
abbrev b_Cls_append : ByteArray := prog_1_method_2_code
abbrev y_Cls_append : MethodName := ⟨"RelaxedRadixVector", "append", "(II)I"⟩
abbrev b_Cls_refusalToGrow : ByteArray := prog_1_method_27_code
abbrev y_Cls_refusalToGrow : MethodName := ⟨"RelaxedRadixVector", "refusalToGrow", "(II)I"⟩
abbrev b_Cls_isFrozen : ByteArray := prog_1_method_23_code
abbrev y_Cls_isFrozen : MethodName := ⟨"RelaxedRadixVector", "isFrozen", "(I)Z"⟩
abbrev b_Cls_isVersion : ByteArray := prog_1_method_22_code
abbrev y_Cls_isVersion : MethodName := ⟨"RelaxedRadixVector", "isVersion", "(I)Z"⟩
abbrev b_AL_size : ByteArray := prog_13_method_8_code
abbrev y_AL_size : MethodName := ⟨"java/util/ArrayList", "size", "()I"⟩
abbrev b_Cls_isFull : ByteArray := prog_1_method_26_code
abbrev y_Cls_isFull : MethodName := ⟨"RelaxedRadixVector", "isFull", "()Z"⟩
abbrev b_AL_get : ByteArray := prog_13_method_20_code
abbrev y_AL_get : MethodName := ⟨"java/util/ArrayList", "get", "(I)Ljava/lang/Object;"⟩
abbrev b_Obs_checkIndex : ByteArray := prog_17_method_17_code
abbrev y_Obs_checkIndex : MethodName := ⟨"java/util/Objects", "checkIndex", "(II)I"⟩
abbrev b_Prc_checkIndex : ByteArray := prog_21_method_11_code
abbrev y_Prc_checkIndex : MethodName := ⟨"jdk/internal/util/Preconditions", "checkIndex", "(IILjava/util/function/BiFunction;)I"⟩
abbrev b_AL_elementData : ByteArray := prog_13_method_18_code
abbrev y_AL_elementData : MethodName := ⟨"java/util/ArrayList", "elementData", "(I)Ljava/lang/Object;"⟩
abbrev b_Tree_length : ByteArray := prog_3_method_2_code
abbrev y_Tree_length : MethodName := ⟨"RelaxedRadixVector$Tree", "length", "()I"⟩
abbrev b_Tree_become : ByteArray := prog_3_method_7_code
abbrev y_Tree_become : MethodName := ⟨"RelaxedRadixVector$Tree", "become", "(LRelaxedRadixVector$Tree;)V"⟩
abbrev b_Row_clear : ByteArray := prog_2_method_4_code
abbrev y_Row_clear : MethodName := ⟨"RelaxedRadixVector$Row", "clear", "()V"⟩
abbrev b_Row_addRange : ByteArray := prog_2_method_7_code
abbrev y_Row_addRange : MethodName := ⟨"RelaxedRadixVector$Row", "addRange", "(LRelaxedRadixVector$Row;II)V"⟩
abbrev b_Row_addLast : ByteArray := prog_2_method_5_code
abbrev y_Row_addLast : MethodName := ⟨"RelaxedRadixVector$Row", "addLast", "(I)V"⟩
abbrev b_Tree_addLast : ByteArray := prog_3_method_8_code
abbrev y_Tree_addLast : MethodName := ⟨"RelaxedRadixVector$Tree", "addLast", "(I)V"⟩
abbrev b_Row_cell : ByteArray := prog_2_method_2_code
abbrev y_Row_cell : MethodName := ⟨"RelaxedRadixVector$Row", "cell", "(I)I"⟩
abbrev b_Row_write : ByteArray := prog_2_method_3_code
abbrev y_Row_write : MethodName := ⟨"RelaxedRadixVector$Row", "write", "(II)V"⟩
abbrev b_Tree_setRootOnTop : ByteArray := prog_3_method_10_code
abbrev y_Tree_setRootOnTop : MethodName := ⟨"RelaxedRadixVector$Tree", "setRootOnTop", "()V"⟩
abbrev b_Cls_keepResult : ByteArray := prog_1_method_28_code
abbrev y_Cls_keepResult : MethodName := ⟨"RelaxedRadixVector", "keepResult", "()I"⟩
abbrev b_Cls_prepend : ByteArray := prog_1_method_3_code
abbrev y_Cls_prepend : MethodName := ⟨"RelaxedRadixVector", "prepend", "(II)I"⟩
abbrev b_Tree_addFirst : ByteArray := prog_3_method_9_code
abbrev y_Tree_addFirst : MethodName := ⟨"RelaxedRadixVector$Tree", "addFirst", "(I)V"⟩
abbrev b_Row_addFirst : ByteArray := prog_2_method_6_code
abbrev y_Row_addFirst : MethodName := ⟨"RelaxedRadixVector$Row", "addFirst", "(I)V"⟩
abbrev b_Cls_set : ByteArray := prog_1_method_4_code
abbrev y_Cls_set : MethodName := ⟨"RelaxedRadixVector", "set", "(III)I"⟩
abbrev b_Cls_isPlace : ByteArray := prog_1_method_25_code
abbrev y_Cls_isPlace : MethodName := ⟨"RelaxedRadixVector", "isPlace", "(II)Z"⟩
abbrev b_Tree_replace : ByteArray := prog_3_method_4_code
abbrev y_Tree_replace : MethodName := ⟨"RelaxedRadixVector$Tree", "replace", "(II)V"⟩
abbrev b_Cls_concat : ByteArray := prog_1_method_5_code
abbrev y_Cls_concat : MethodName := ⟨"RelaxedRadixVector", "concat", "(II)I"⟩
abbrev b_Tree_join : ByteArray := prog_3_method_12_code
abbrev y_Tree_join : MethodName := ⟨"RelaxedRadixVector$Tree", "join", "(LRelaxedRadixVector$Tree;LRelaxedRadixVector$Tree;)V"⟩
abbrev b_Tree_meetRoots : ByteArray := prog_3_method_13_code
abbrev y_Tree_meetRoots : MethodName := ⟨"RelaxedRadixVector$Tree", "meetRoots", "(LRelaxedRadixVector$Tree;LRelaxedRadixVector$Tree;)V"⟩
abbrev b_Tree_allButOne : ByteArray := prog_3_method_14_code
abbrev y_Tree_allButOne : MethodName := ⟨"RelaxedRadixVector$Tree", "allButOne", "(I)I"⟩
abbrev b_Row_pack : ByteArray := prog_2_method_12_code
abbrev y_Row_pack : MethodName := ⟨"RelaxedRadixVector$Row", "pack", "(II)I"⟩
abbrev b_Row_sumBefore : ByteArray := prog_2_method_10_code
abbrev y_Row_sumBefore : MethodName := ⟨"RelaxedRadixVector$Row", "sumBefore", "(I)I"⟩
abbrev b_Row_saveOneNode : ByteArray := prog_2_method_13_code
abbrev y_Row_saveOneNode : MethodName := ⟨"RelaxedRadixVector$Row", "saveOneNode", "(II)V"⟩
abbrev b_Row_remove : ByteArray := prog_2_method_9_code
abbrev y_Row_remove : MethodName := ⟨"RelaxedRadixVector$Row", "remove", "(I)V"⟩
abbrev b_Cls_slice : ByteArray := prog_1_method_6_code
abbrev y_Cls_slice : MethodName := ⟨"RelaxedRadixVector", "slice", "(III)I"⟩
abbrev b_Tree_cut : ByteArray := prog_3_method_11_code
abbrev y_Tree_cut : MethodName := ⟨"RelaxedRadixVector$Tree", "cut", "(LRelaxedRadixVector$Tree;II)V"⟩
abbrev b_Row_addClipped : ByteArray := prog_2_method_8_code
abbrev y_Row_addClipped : MethodName := ⟨"RelaxedRadixVector$Row", "addClipped", "(LRelaxedRadixVector$Row;II)V"⟩
abbrev b_Row_holderOf : ByteArray := prog_2_method_11_code
abbrev y_Row_holderOf : MethodName := ⟨"RelaxedRadixVector$Row", "holderOf", "(I)I"⟩
abbrev b_Cls_insertAt : ByteArray := prog_1_method_7_code
abbrev y_Cls_insertAt : MethodName := ⟨"RelaxedRadixVector", "insertAt", "(III)I"⟩
abbrev b_Cls_removeAt : ByteArray := prog_1_method_8_code
abbrev y_Cls_removeAt : MethodName := ⟨"RelaxedRadixVector", "removeAt", "(II)I"⟩
abbrev b_Cls_thaw : ByteArray := prog_1_method_9_code
abbrev y_Cls_thaw : MethodName := ⟨"RelaxedRadixVector", "thaw", "(I)I"⟩
abbrev b_Cls_push : ByteArray := prog_1_method_10_code
abbrev y_Cls_push : MethodName := ⟨"RelaxedRadixVector", "push", "(II)Z"⟩
abbrev b_Cls_isOpen : ByteArray := prog_1_method_24_code
abbrev y_Cls_isOpen : MethodName := ⟨"RelaxedRadixVector", "isOpen", "(I)Z"⟩
abbrev b_Cls_put : ByteArray := prog_1_method_11_code
abbrev y_Cls_put : MethodName := ⟨"RelaxedRadixVector", "put", "(III)Z"⟩
abbrev b_Cls_freeze : ByteArray := prog_1_method_12_code
abbrev y_Cls_freeze : MethodName := ⟨"RelaxedRadixVector", "freeze", "(I)Z"⟩
abbrev b_Cls_versions : ByteArray := prog_1_method_13_code
abbrev y_Cls_versions : MethodName := ⟨"RelaxedRadixVector", "versions", "()I"⟩
abbrev b_Cls_size : ByteArray := prog_1_method_14_code
abbrev y_Cls_size : MethodName := ⟨"RelaxedRadixVector", "size", "(I)I"⟩
abbrev b_Cls_get : ByteArray := prog_1_method_15_code
abbrev y_Cls_get : MethodName := ⟨"RelaxedRadixVector", "get", "(II)J"⟩
abbrev b_Tree_element : ByteArray := prog_3_method_3_code
abbrev y_Tree_element : MethodName := ⟨"RelaxedRadixVector$Tree", "element", "(I)I"⟩
abbrev b_Cls_hash : ByteArray := prog_1_method_16_code
abbrev y_Cls_hash : MethodName := ⟨"RelaxedRadixVector", "hash", "(I)I"⟩
abbrev b_Cls_compare : ByteArray := prog_1_method_17_code
abbrev y_Cls_compare : MethodName := ⟨"RelaxedRadixVector", "compare", "(II)I"⟩
abbrev b_Cls_height : ByteArray := prog_1_method_18_code
abbrev y_Cls_height : MethodName := ⟨"RelaxedRadixVector", "height", "(I)I"⟩
abbrev b_Cls_nodes : ByteArray := prog_1_method_19_code
abbrev y_Cls_nodes : MethodName := ⟨"RelaxedRadixVector", "nodes", "(I)I"⟩
abbrev b_Tree_countNodes : ByteArray := prog_3_method_5_code
abbrev y_Tree_countNodes : MethodName := ⟨"RelaxedRadixVector$Tree", "countNodes", "()I"⟩
abbrev b_Cls_row : ByteArray := prog_1_method_20_code
abbrev y_Cls_row : MethodName := ⟨"RelaxedRadixVector", "row", "(III)I"⟩
abbrev b_Tree_slotsOf : ByteArray := prog_3_method_6_code
abbrev y_Tree_slotsOf : MethodName := ⟨"RelaxedRadixVector$Tree", "slotsOf", "(II)I"⟩
abbrev b_Cls_probes : ByteArray := prog_1_method_21_code
abbrev y_Cls_probes : MethodName := ⟨"RelaxedRadixVector", "probes", "(II)I"⟩
abbrev b_Tree_missesOnTheWayTo : ByteArray := prog_3_method_15_code
abbrev y_Tree_missesOnTheWayTo : MethodName := ⟨"RelaxedRadixVector$Tree", "missesOnTheWayTo", "(I)I"⟩
abbrev b_Tree_firstPlaceUnder : ByteArray := prog_3_method_16_code
abbrev y_Tree_firstPlaceUnder : MethodName := ⟨"RelaxedRadixVector$Tree", "firstPlaceUnder", "(II)I"⟩
abbrev b_Mod_init : ByteArray := prog_5_method_1_code
abbrev y_Mod_init : MethodName := ⟨"RelaxedRadixVectorModel", "<init>", "()V"⟩
abbrev b_Mod_append : ByteArray := prog_5_method_17_code
abbrev y_Mod_append : MethodName := ⟨"RelaxedRadixVectorModel", "append", "(II)I"⟩
abbrev b_Mod_grown : ByteArray := prog_5_method_16_code
abbrev y_Mod_grown : MethodName := ⟨"RelaxedRadixVectorModel", "grown", "(IIZ)I"⟩
abbrev b_Mod_frozen : ByteArray := prog_5_method_3_code
abbrev y_Mod_frozen : MethodName := ⟨"RelaxedRadixVectorModel", "frozen", "(I)Z"⟩
abbrev b_Mod_there : ByteArray := prog_5_method_2_code
abbrev y_Mod_there : MethodName := ⟨"RelaxedRadixVectorModel", "there", "(I)Z"⟩
abbrev b_Mod_load : ByteArray := prog_5_method_4_code
abbrev y_Mod_load : MethodName := ⟨"RelaxedRadixVectorModel", "load", "(II)V"⟩
abbrev b_Mod_cell : ByteArray := prog_5_method_7_code
abbrev y_Mod_cell : MethodName := ⟨"RelaxedRadixVectorModel", "cell", "(III)I"⟩
abbrev b_Mod_add : ByteArray := prog_5_method_10_code
abbrev y_Mod_add : MethodName := ⟨"RelaxedRadixVectorModel", "add", "(IIZ)V"⟩
abbrev b_Mod_enter : ByteArray := prog_5_method_8_code
abbrev y_Mod_enter : MethodName := ⟨"RelaxedRadixVectorModel", "enter", "(IIII)V"⟩
abbrev b_Mod_newVersion : ByteArray := prog_5_method_6_code
abbrev y_Mod_newVersion : MethodName := ⟨"RelaxedRadixVectorModel", "newVersion", "(I)I"⟩
abbrev b_Mod_store : ByteArray := prog_5_method_5_code
abbrev y_Mod_store : MethodName := ⟨"RelaxedRadixVectorModel", "store", "(II)V"⟩
abbrev b_Mod_prepend : ByteArray := prog_5_method_18_code
abbrev y_Mod_prepend : MethodName := ⟨"RelaxedRadixVectorModel", "prepend", "(II)I"⟩
abbrev b_Mod_set : ByteArray := prog_5_method_19_code
abbrev y_Mod_set : MethodName := ⟨"RelaxedRadixVectorModel", "set", "(III)I"⟩
abbrev b_Mod_concat : ByteArray := prog_5_method_20_code
abbrev y_Mod_concat : MethodName := ⟨"RelaxedRadixVectorModel", "concat", "(II)I"⟩
abbrev b_Mod_join : ByteArray := prog_5_method_14_code
abbrev y_Mod_join : MethodName := ⟨"RelaxedRadixVectorModel", "join", "()V"⟩
abbrev b_Mod_meet : ByteArray := prog_5_method_15_code
abbrev y_Mod_meet : MethodName := ⟨"RelaxedRadixVectorModel", "meet", "(II)I"⟩
abbrev b_Mod_pack : ByteArray := prog_5_method_13_code
abbrev y_Mod_pack : MethodName := ⟨"RelaxedRadixVectorModel", "pack", "(III)I"⟩
abbrev b_Mod_leave : ByteArray := prog_5_method_9_code
abbrev y_Mod_leave : MethodName := ⟨"RelaxedRadixVectorModel", "leave", "(III)V"⟩
abbrev b_Mod_slice : ByteArray := prog_5_method_21_code
abbrev y_Mod_slice : MethodName := ⟨"RelaxedRadixVectorModel", "slice", "(III)I"⟩
abbrev b_Mod_cut : ByteArray := prog_5_method_11_code
abbrev y_Mod_cut : MethodName := ⟨"RelaxedRadixVectorModel", "cut", "(III)V"⟩
abbrev b_Mod_lower : ByteArray := prog_5_method_12_code
abbrev y_Mod_lower : MethodName := ⟨"RelaxedRadixVectorModel", "lower", "(I)V"⟩
abbrev b_Mod_insertAt : ByteArray := prog_5_method_22_code
abbrev y_Mod_insertAt : MethodName := ⟨"RelaxedRadixVectorModel", "insertAt", "(III)I"⟩
abbrev b_Mod_removeAt : ByteArray := prog_5_method_23_code
abbrev y_Mod_removeAt : MethodName := ⟨"RelaxedRadixVectorModel", "removeAt", "(II)I"⟩
abbrev b_Mod_thaw : ByteArray := prog_5_method_24_code
abbrev y_Mod_thaw : MethodName := ⟨"RelaxedRadixVectorModel", "thaw", "(I)I"⟩
abbrev b_Mod_push : ByteArray := prog_5_method_25_code
abbrev y_Mod_push : MethodName := ⟨"RelaxedRadixVectorModel", "push", "(II)Z"⟩
abbrev b_Mod_put : ByteArray := prog_5_method_26_code
abbrev y_Mod_put : MethodName := ⟨"RelaxedRadixVectorModel", "put", "(III)Z"⟩
abbrev b_Mod_freeze : ByteArray := prog_5_method_27_code
abbrev y_Mod_freeze : MethodName := ⟨"RelaxedRadixVectorModel", "freeze", "(I)Z"⟩
abbrev b_Mod_versions : ByteArray := prog_5_method_28_code
abbrev y_Mod_versions : MethodName := ⟨"RelaxedRadixVectorModel", "versions", "()I"⟩
abbrev b_Mod_size : ByteArray := prog_5_method_29_code
abbrev y_Mod_size : MethodName := ⟨"RelaxedRadixVectorModel", "size", "(I)I"⟩
abbrev b_Mod_get : ByteArray := prog_5_method_30_code
abbrev y_Mod_get : MethodName := ⟨"RelaxedRadixVectorModel", "get", "(II)J"⟩
abbrev b_Mod_hash : ByteArray := prog_5_method_31_code
abbrev y_Mod_hash : MethodName := ⟨"RelaxedRadixVectorModel", "hash", "(I)I"⟩
abbrev b_Mod_compare : ByteArray := prog_5_method_32_code
abbrev y_Mod_compare : MethodName := ⟨"RelaxedRadixVectorModel", "compare", "(II)I"⟩
abbrev b_Mod_height : ByteArray := prog_5_method_33_code
abbrev y_Mod_height : MethodName := ⟨"RelaxedRadixVectorModel", "height", "(I)I"⟩
abbrev b_Mod_nodes : ByteArray := prog_5_method_34_code
abbrev y_Mod_nodes : MethodName := ⟨"RelaxedRadixVectorModel", "nodes", "(I)I"⟩
abbrev b_Mod_row : ByteArray := prog_5_method_35_code
abbrev y_Mod_row : MethodName := ⟨"RelaxedRadixVectorModel", "row", "(III)I"⟩
abbrev b_Mod_probes : ByteArray := prog_5_method_38_code
abbrev y_Mod_probes : MethodName := ⟨"RelaxedRadixVectorModel", "probes", "(II)I"⟩
abbrev b_Mod_holding : ByteArray := prog_5_method_37_code
abbrev y_Mod_holding : MethodName := ⟨"RelaxedRadixVectorModel", "holding", "(III)I"⟩
abbrev b_Mod_before : ByteArray := prog_5_method_36_code
abbrev y_Mod_before : MethodName := ⟨"RelaxedRadixVectorModel", "before", "(III)I"⟩
/-! the words that a contract may ask of the tables, and their places -/
def gT : List Cond := lw_tbl.filter goodWord
theorem gT_good : ∀ w ∈ gT, goodWord w = true := fun w h => (List.mem_filter.mp h).2
theorem gT_sub : ∀ w ∈ gT, w ∈ lw_tbl := fun w h => (List.mem_filter.mp h).1
theorem gT_at {i : Nat} {w : Cond} (h : tables_1[i]? = some w) (hg : goodWord w = true) : w ∈ gT := List.mem_filter.mpr ⟨List.mem_append_right _ (List.mem_of_getElem? h), hg⟩
theorem gT_pr {i : Nat} {w : Cond} (h : (k2_sels lw_privs)[i]? = some w) (hg : goodWord w = true) : w ∈ gT := List.mem_filter.mpr ⟨List.mem_append_left _ (List.mem_of_getElem? h), hg⟩
theorem m_0 : (Cond.initialized "RelaxedRadixVectorLaw") ∈ gT := gT_at (i := 0) (by decide +kernel) (by decide +kernel)
theorem m_1 : (Cond.initialized "RelaxedRadixVector") ∈ gT := gT_at (i := 1) (by decide +kernel) (by decide +kernel)
theorem m_2 : (Cond.initialized "java/util/AbstractCollection") ∈ gT := gT_at (i := 2) (by decide +kernel) (by decide +kernel)
theorem m_3 : (Cond.initialized "java/util/AbstractList") ∈ gT := gT_at (i := 3) (by decide +kernel) (by decide +kernel)
theorem m_4 : (Cond.initialized "java/util/ArrayList") ∈ gT := gT_at (i := 4) (by decide +kernel) (by decide +kernel)
theorem m_5 : (Cond.initialized "RelaxedRadixVector$Tree") ∈ gT := gT_at (i := 5) (by decide +kernel) (by decide +kernel)
theorem m_6 : (Cond.initialized "RelaxedRadixVector$Row") ∈ gT := gT_at (i := 6) (by decide +kernel) (by decide +kernel)
theorem m_7 : (Cond.initialized "jdk/internal/util/ArraysSupport") ∈ gT := gT_at (i := 7) (by decide +kernel) (by decide +kernel)
theorem m_8 : (Cond.initialized "java/lang/Math") ∈ gT := gT_at (i := 8) (by decide +kernel) (by decide +kernel)
theorem m_9 : (Cond.initialized "java/util/Arrays") ∈ gT := gT_at (i := 9) (by decide +kernel) (by decide +kernel)
theorem m_10 : (Cond.initialized "java/lang/System") ∈ gT := gT_at (i := 10) (by decide +kernel) (by decide +kernel)
theorem m_11 : (Cond.initialized "RelaxedRadixVectorModel") ∈ gT := gT_at (i := 11) (by decide +kernel) (by decide +kernel)
theorem m_12 : (Cond.initialized "java/util/Objects") ∈ gT := gT_at (i := 12) (by decide +kernel) (by decide +kernel)
theorem m_13 : (Cond.initialized "jdk/internal/util/Preconditions") ∈ gT := gT_at (i := 13) (by decide +kernel) (by decide +kernel)
theorem m_14 : (Cond.classLink "RelaxedRadixVectorLaw" 7 "RelaxedRadixVector") ∈ gT := gT_at (i := 14) (by decide +kernel) (by decide +kernel)
theorem m_15 : (Cond.instantiable "RelaxedRadixVector" 5) ∈ gT := gT_at (i := 15) (by decide +kernel) (by decide +kernel)
theorem m_16 : (Cond.methodLink "RelaxedRadixVectorLaw" 9 (⟨"RelaxedRadixVector", "<init>", "()V"⟩ : MethodName)) ∈ gT := gT_at (i := 16) (by decide +kernel) (by decide +kernel)
theorem m_17 : (Cond.instanceMethod (⟨"RelaxedRadixVector", "<init>", "()V"⟩ : MethodName)) ∈ gT := gT_at (i := 17) (by decide +kernel) (by decide +kernel)
theorem m_18 : (Cond.code (⟨"RelaxedRadixVector", "<init>", "()V"⟩ : MethodName) prog_1_method_1_code 1 (Option.none : Option FieldType)) ∈ gT := gT_at (i := 18) (by decide +kernel) (by decide +kernel)
theorem m_19 : (Cond.methodLink "RelaxedRadixVector" 3 (⟨"java/lang/Object", "<init>", "()V"⟩ : MethodName)) ∈ gT := gT_at (i := 19) (by decide +kernel) (by decide +kernel)
theorem m_20 : (Cond.instanceMethod (⟨"java/lang/Object", "<init>", "()V"⟩ : MethodName)) ∈ gT := gT_at (i := 20) (by decide +kernel) (by decide +kernel)
theorem m_21 : (Cond.code (⟨"java/lang/Object", "<init>", "()V"⟩ : MethodName) object_method_1_code 1 (Option.none : Option FieldType)) ∈ gT := gT_at (i := 21) (by decide +kernel) (by decide +kernel)
theorem m_22 : (Cond.classLink "RelaxedRadixVector" 9 "java/util/ArrayList") ∈ gT := gT_at (i := 22) (by decide +kernel) (by decide +kernel)
theorem m_23 : (Cond.instantiable "java/util/ArrayList" 3) ∈ gT := gT_at (i := 23) (by decide +kernel) (by decide +kernel)
theorem m_24 : (Cond.methodLink "RelaxedRadixVector" 11 (⟨"java/util/ArrayList", "<init>", "()V"⟩ : MethodName)) ∈ gT := gT_at (i := 24) (by decide +kernel) (by decide +kernel)
theorem m_25 : (Cond.instanceMethod (⟨"java/util/ArrayList", "<init>", "()V"⟩ : MethodName)) ∈ gT := gT_at (i := 25) (by decide +kernel) (by decide +kernel)
theorem m_26 : (Cond.code (⟨"java/util/ArrayList", "<init>", "()V"⟩ : MethodName) prog_13_method_2_code 1 (Option.none : Option FieldType)) ∈ gT := gT_at (i := 26) (by decide +kernel) (by decide +kernel)
theorem m_27 : (Cond.methodLink "java/util/ArrayList" 1 (⟨"java/util/AbstractList", "<init>", "()V"⟩ : MethodName)) ∈ gT := gT_at (i := 27) (by decide +kernel) (by decide +kernel)
theorem m_28 : (Cond.instanceMethod (⟨"java/util/AbstractList", "<init>", "()V"⟩ : MethodName)) ∈ gT := gT_at (i := 28) (by decide +kernel) (by decide +kernel)
theorem m_29 : (Cond.code (⟨"java/util/AbstractList", "<init>", "()V"⟩ : MethodName) prog_12_method_1_code 1 (Option.none : Option FieldType)) ∈ gT := gT_at (i := 29) (by decide +kernel) (by decide +kernel)
theorem m_30 : (Cond.methodLink "java/util/AbstractList" 1 (⟨"java/util/AbstractCollection", "<init>", "()V"⟩ : MethodName)) ∈ gT := gT_at (i := 30) (by decide +kernel) (by decide +kernel)
theorem m_31 : (Cond.instanceMethod (⟨"java/util/AbstractCollection", "<init>", "()V"⟩ : MethodName)) ∈ gT := gT_at (i := 31) (by decide +kernel) (by decide +kernel)
theorem m_32 : (Cond.code (⟨"java/util/AbstractCollection", "<init>", "()V"⟩ : MethodName) prog_11_method_1_code 1 (Option.none : Option FieldType)) ∈ gT := gT_at (i := 32) (by decide +kernel) (by decide +kernel)
theorem m_33 : (Cond.methodLink "java/util/AbstractCollection" 1 (⟨"java/lang/Object", "<init>", "()V"⟩ : MethodName)) ∈ gT := gT_at (i := 33) (by decide +kernel) (by decide +kernel)
theorem m_34 : (Cond.fieldLink "java/util/ArrayList" 39 "java/util/ArrayList" "DEFAULTCAPACITY_EMPTY_ELEMENTDATA" "[Ljava/lang/Object;") ∈ gT := gT_at (i := 34) (by decide +kernel) (by decide +kernel)
theorem m_36 : (Cond.fieldLink "java/util/ArrayList" 9 "java/util/ArrayList" "elementData" "[Ljava/lang/Object;") ∈ gT := gT_at (i := 36) (by decide +kernel) (by decide +kernel)
theorem m_37 : (Cond.fieldLink "java/util/ArrayList" 48 "java/util/ArrayList" "size" "I") ∈ gT := gT_at (i := 37) (by decide +kernel) (by decide +kernel)
theorem m_38 : (Cond.fieldLink "java/util/AbstractList" 7 "java/util/AbstractList" "modCount" "I") ∈ gT := gT_at (i := 38) (by decide +kernel) (by decide +kernel)
theorem m_39 : (Cond.fieldLink "java/util/ArrayList" 63 "java/util/ArrayList" "modCount" "I") ∈ gT := gT_at (i := 39) (by decide +kernel) (by decide +kernel)
theorem m_40 : (Cond.sameField "java/util/ArrayList" "java/util/AbstractList" "modCount" "I") ∈ gT := gT_at (i := 40) (by decide +kernel) (by decide +kernel)
theorem m_41 : (Cond.lays "java/util/ArrayList" "java/util/ArrayList" "elementData" "[Ljava/lang/Object;") ∈ gT := gT_at (i := 41) (by decide +kernel) (by decide +kernel)
theorem m_43 : (Cond.lays "java/util/ArrayList" "java/util/ArrayList" "size" "I") ∈ gT := gT_at (i := 43) (by decide +kernel) (by decide +kernel)
theorem m_45 : (Cond.lays "java/util/ArrayList" "java/util/AbstractList" "modCount" "I") ∈ gT := gT_at (i := 45) (by decide +kernel) (by decide +kernel)
theorem m_47 : (Cond.superclass "java/util/ArrayList" "java/util/AbstractList") ∈ gT := gT_at (i := 47) (by decide +kernel) (by decide +kernel)
theorem m_48 : (Cond.classLink "RelaxedRadixVector" 16 "RelaxedRadixVector$Tree") ∈ gT := gT_at (i := 48) (by decide +kernel) (by decide +kernel)
theorem m_49 : (Cond.instantiable "RelaxedRadixVector$Tree" 2) ∈ gT := gT_at (i := 49) (by decide +kernel) (by decide +kernel)
theorem m_50 : (Cond.methodLink "RelaxedRadixVector" 18 (⟨"RelaxedRadixVector$Tree", "<init>", "()V"⟩ : MethodName)) ∈ gT := gT_at (i := 50) (by decide +kernel) (by decide +kernel)
theorem m_51 : (Cond.instanceMethod (⟨"RelaxedRadixVector$Tree", "<init>", "()V"⟩ : MethodName)) ∈ gT := gT_at (i := 51) (by decide +kernel) (by decide +kernel)
theorem m_52 : (Cond.code (⟨"RelaxedRadixVector$Tree", "<init>", "()V"⟩ : MethodName) prog_3_method_1_code 2 (Option.none : Option FieldType)) ∈ gT := gT_at (i := 52) (by decide +kernel) (by decide +kernel)
theorem m_53 : (Cond.methodLink "RelaxedRadixVector$Tree" 3 (⟨"java/lang/Object", "<init>", "()V"⟩ : MethodName)) ∈ gT := gT_at (i := 53) (by decide +kernel) (by decide +kernel)
theorem m_54 : (Cond.classLink "RelaxedRadixVector$Tree" 9 "RelaxedRadixVector$Row") ∈ gT := gT_at (i := 54) (by decide +kernel) (by decide +kernel)
theorem m_56 : (Cond.instantiable "RelaxedRadixVector$Row" 2) ∈ gT := gT_at (i := 56) (by decide +kernel) (by decide +kernel)
theorem m_57 : (Cond.methodLink "RelaxedRadixVector$Tree" 17 (⟨"RelaxedRadixVector$Row", "<init>", "()V"⟩ : MethodName)) ∈ gT := gT_at (i := 57) (by decide +kernel) (by decide +kernel)
theorem m_58 : (Cond.instanceMethod (⟨"RelaxedRadixVector$Row", "<init>", "()V"⟩ : MethodName)) ∈ gT := gT_at (i := 58) (by decide +kernel) (by decide +kernel)
theorem m_59 : (Cond.code (⟨"RelaxedRadixVector$Row", "<init>", "()V"⟩ : MethodName) prog_2_method_1_code 1 (Option.none : Option FieldType)) ∈ gT := gT_at (i := 59) (by decide +kernel) (by decide +kernel)
theorem m_60 : (Cond.methodLink "RelaxedRadixVector$Row" 3 (⟨"java/lang/Object", "<init>", "()V"⟩ : MethodName)) ∈ gT := gT_at (i := 60) (by decide +kernel) (by decide +kernel)
theorem m_61 : (Cond.fieldLink "RelaxedRadixVector$Row" 9 "RelaxedRadixVector$Row" "cells" "[I") ∈ gT := gT_at (i := 61) (by decide +kernel) (by decide +kernel)
theorem m_62 : (Cond.fieldLink "RelaxedRadixVector$Row" 15 "RelaxedRadixVector$Row" "count" "I") ∈ gT := gT_at (i := 62) (by decide +kernel) (by decide +kernel)
theorem m_64 : (Cond.laysFinal "RelaxedRadixVector$Row" "RelaxedRadixVector$Row" "cells" "[I") ∈ gT := gT_at (i := 64) (by decide +kernel) (by decide +kernel)
theorem m_66 : (Cond.lays "RelaxedRadixVector$Row" "RelaxedRadixVector$Row" "count" "I") ∈ gT := gT_at (i := 66) (by decide +kernel) (by decide +kernel)
theorem m_68 : (Cond.superclass "RelaxedRadixVector$Row" "java/lang/Object") ∈ gT := gT_at (i := 68) (by decide +kernel) (by decide +kernel)
theorem m_69 : (Cond.arrayClass FieldType.int) ∈ gT := gT_at (i := 69) (by decide +kernel) (by decide +kernel)
theorem m_70 : (Cond.fieldLink "RelaxedRadixVector$Tree" 11 "RelaxedRadixVector$Tree" "rows" "[LRelaxedRadixVector$Row;") ∈ gT := gT_at (i := 70) (by decide +kernel) (by decide +kernel)
theorem m_71 : (Cond.fieldLink "RelaxedRadixVector$Tree" 18 "RelaxedRadixVector$Tree" "height" "I") ∈ gT := gT_at (i := 71) (by decide +kernel) (by decide +kernel)
theorem m_73 : (Cond.laysFinal "RelaxedRadixVector$Tree" "RelaxedRadixVector$Tree" "rows" "[LRelaxedRadixVector$Row;") ∈ gT := gT_at (i := 73) (by decide +kernel) (by decide +kernel)
theorem m_75 : (Cond.lays "RelaxedRadixVector$Tree" "RelaxedRadixVector$Tree" "height" "I") ∈ gT := gT_at (i := 75) (by decide +kernel) (by decide +kernel)
theorem m_77 : (Cond.superclass "RelaxedRadixVector$Tree" "java/lang/Object") ∈ gT := gT_at (i := 77) (by decide +kernel) (by decide +kernel)
theorem m_78 : (Cond.methodLink "RelaxedRadixVector" 19 (⟨"java/util/ArrayList", "add", "(Ljava/lang/Object;)Z"⟩ : MethodName)) ∈ gT := gT_at (i := 78) (by decide +kernel) (by decide +kernel)
theorem m_79 : (Cond.instanceMethod (⟨"java/util/ArrayList", "add", "(Ljava/lang/Object;)Z"⟩ : MethodName)) ∈ gT := gT_at (i := 79) (by decide +kernel) (by decide +kernel)
theorem m_80 : (Cond.selects "java/util/ArrayList" (⟨"java/util/ArrayList", "add", "(Ljava/lang/Object;)Z"⟩ : MethodName) (⟨"java/util/ArrayList", "add", "(Ljava/lang/Object;)Z"⟩ : MethodName)) ∈ gT := gT_at (i := 80) (by decide +kernel) (by decide +kernel)
theorem m_81 : (Cond.code (⟨"java/util/ArrayList", "add", "(Ljava/lang/Object;)Z"⟩ : MethodName) prog_13_method_25_code 2 (Option.some FieldType.boolean)) ∈ gT := gT_at (i := 81) (by decide +kernel) (by decide +kernel)
theorem m_82 : (Cond.methodLink "java/util/ArrayList" 131 (⟨"java/util/ArrayList", "add", "(Ljava/lang/Object;[Ljava/lang/Object;I)V"⟩ : MethodName)) ∈ gT := gT_at (i := 82) (by decide +kernel) (by decide +kernel)
theorem m_84 : (Cond.instanceMethod (⟨"java/util/ArrayList", "add", "(Ljava/lang/Object;[Ljava/lang/Object;I)V"⟩ : MethodName)) ∈ gT := gT_at (i := 84) (by decide +kernel) (by decide +kernel)
theorem m_85 : (Cond.code (⟨"java/util/ArrayList", "add", "(Ljava/lang/Object;[Ljava/lang/Object;I)V"⟩ : MethodName) prog_13_method_24_code 4 (Option.none : Option FieldType)) ∈ gT := gT_at (i := 85) (by decide +kernel) (by decide +kernel)
theorem m_86 : (Cond.methodLink "java/util/ArrayList" 129 (⟨"java/util/ArrayList", "grow", "()[Ljava/lang/Object;"⟩ : MethodName)) ∈ gT := gT_at (i := 86) (by decide +kernel) (by decide +kernel)
theorem m_88 : (Cond.instanceMethod (⟨"java/util/ArrayList", "grow", "()[Ljava/lang/Object;"⟩ : MethodName)) ∈ gT := gT_at (i := 88) (by decide +kernel) (by decide +kernel)
theorem m_89 : (Cond.code (⟨"java/util/ArrayList", "grow", "()[Ljava/lang/Object;"⟩ : MethodName) prog_13_method_7_code 1 (Option.some (FieldType.array (FieldType.object "java/lang/Object")))) ∈ gT := gT_at (i := 89) (by decide +kernel) (by decide +kernel)
theorem m_90 : (Cond.methodLink "java/util/ArrayList" 69 (⟨"java/util/ArrayList", "grow", "(I)[Ljava/lang/Object;"⟩ : MethodName)) ∈ gT := gT_at (i := 90) (by decide +kernel) (by decide +kernel)
theorem m_92 : (Cond.instanceMethod (⟨"java/util/ArrayList", "grow", "(I)[Ljava/lang/Object;"⟩ : MethodName)) ∈ gT := gT_at (i := 92) (by decide +kernel) (by decide +kernel)
theorem m_93 : (Cond.code (⟨"java/util/ArrayList", "grow", "(I)[Ljava/lang/Object;"⟩ : MethodName) prog_13_method_6_code 4 (Option.some (FieldType.array (FieldType.object "java/lang/Object")))) ∈ gT := gT_at (i := 93) (by decide +kernel) (by decide +kernel)
theorem m_94 : (Cond.methodLink "java/util/ArrayList" 73 (⟨"jdk/internal/util/ArraysSupport", "newLength", "(III)I"⟩ : MethodName)) ∈ gT := gT_at (i := 94) (by decide +kernel) (by decide +kernel)
theorem m_95 : (Cond.static (⟨"jdk/internal/util/ArraysSupport", "newLength", "(III)I"⟩ : MethodName)) ∈ gT := gT_at (i := 95) (by decide +kernel) (by decide +kernel)
theorem m_96 : (Cond.code (⟨"jdk/internal/util/ArraysSupport", "newLength", "(III)I"⟩ : MethodName) prog_20_method_27_code 4 (Option.some FieldType.int)) ∈ gT := gT_at (i := 96) (by decide +kernel) (by decide +kernel)
theorem m_97 : (Cond.methodLink "jdk/internal/util/ArraysSupport" 194 (⟨"java/lang/Math", "max", "(II)I"⟩ : MethodName)) ∈ gT := gT_at (i := 97) (by decide +kernel) (by decide +kernel)
theorem m_98 : (Cond.static (⟨"java/lang/Math", "max", "(II)I"⟩ : MethodName)) ∈ gT := gT_at (i := 98) (by decide +kernel) (by decide +kernel)
theorem m_99 : (Cond.code (⟨"java/lang/Math", "max", "(II)I"⟩ : MethodName) prog_9_method_65_code 2 (Option.some FieldType.int)) ∈ gT := gT_at (i := 99) (by decide +kernel) (by decide +kernel)
theorem m_100 : (Cond.constant "jdk/internal/util/ArraysSupport" 200 (2147483639 : Int32)) ∈ gT := gT_at (i := 100) (by decide +kernel) (by decide +kernel)
theorem m_101 : (Cond.methodLink "jdk/internal/util/ArraysSupport" 201 (⟨"jdk/internal/util/ArraysSupport", "hugeLength", "(II)I"⟩ : MethodName)) ∈ gT := gT_at (i := 101) (by decide +kernel) (by decide +kernel)
theorem m_102 : (Cond.static (⟨"jdk/internal/util/ArraysSupport", "hugeLength", "(II)I"⟩ : MethodName)) ∈ gT := gT_at (i := 102) (by decide +kernel) (by decide +kernel)
theorem m_103 : (Cond.code (⟨"jdk/internal/util/ArraysSupport", "hugeLength", "(II)I"⟩ : MethodName) prog_20_method_28_code 3 (Option.some FieldType.int)) ∈ gT := gT_at (i := 103) (by decide +kernel) (by decide +kernel)
theorem m_104 : (Cond.methodLink "java/util/ArrayList" 66 (⟨"java/util/Arrays", "copyOf", "([Ljava/lang/Object;I)[Ljava/lang/Object;"⟩ : MethodName)) ∈ gT := gT_at (i := 104) (by decide +kernel) (by decide +kernel)
theorem m_105 : (Cond.static (⟨"java/util/Arrays", "copyOf", "([Ljava/lang/Object;I)[Ljava/lang/Object;"⟩ : MethodName)) ∈ gT := gT_at (i := 105) (by decide +kernel) (by decide +kernel)
theorem m_106 : (Cond.code (⟨"java/util/Arrays", "copyOf", "([Ljava/lang/Object;I)[Ljava/lang/Object;"⟩ : MethodName) prog_14_method_119_code 2 (Option.some (FieldType.array (FieldType.object "java/lang/Object")))) ∈ gT := gT_at (i := 106) (by decide +kernel) (by decide +kernel)
theorem m_107 : (Cond.methodLink "java/util/Arrays" 86 (⟨"java/lang/Object", "getClass", "()Ljava/lang/Class;"⟩ : MethodName)) ∈ gT := gT_at (i := 107) (by decide +kernel) (by decide +kernel)
theorem m_108 : (Cond.instanceMethod (⟨"java/lang/Object", "getClass", "()Ljava/lang/Class;"⟩ : MethodName)) ∈ gT := gT_at (i := 108) (by decide +kernel) (by decide +kernel)
theorem m_109 : (Cond.sameMethod "java/lang/Object" "java/lang/Object" "getClass" "()Ljava/lang/Class;") ∈ gT := gT_at (i := 109) (by decide +kernel) (by decide +kernel)
theorem m_110 : (Cond.selects "RelaxedRadixVector" (⟨"java/lang/Object", "getClass", "()Ljava/lang/Class;"⟩ : MethodName) (⟨"java/lang/Object", "getClass", "()Ljava/lang/Class;"⟩ : MethodName)) ∈ gT := gT_at (i := 110) (by decide +kernel) (by decide +kernel)
theorem m_111 : (Cond.selects "RelaxedRadixVector$Row" (⟨"java/lang/Object", "getClass", "()Ljava/lang/Class;"⟩ : MethodName) (⟨"java/lang/Object", "getClass", "()Ljava/lang/Class;"⟩ : MethodName)) ∈ gT := gT_at (i := 111) (by decide +kernel) (by decide +kernel)
theorem m_112 : (Cond.selects "RelaxedRadixVector$Tree" (⟨"java/lang/Object", "getClass", "()Ljava/lang/Class;"⟩ : MethodName) (⟨"java/lang/Object", "getClass", "()Ljava/lang/Class;"⟩ : MethodName)) ∈ gT := gT_at (i := 112) (by decide +kernel) (by decide +kernel)
theorem m_113 : (Cond.selects "RelaxedRadixVectorModel" (⟨"java/lang/Object", "getClass", "()Ljava/lang/Class;"⟩ : MethodName) (⟨"java/lang/Object", "getClass", "()Ljava/lang/Class;"⟩ : MethodName)) ∈ gT := gT_at (i := 113) (by decide +kernel) (by decide +kernel)
theorem m_114 : (Cond.selects "java/util/ArrayList" (⟨"java/lang/Object", "getClass", "()Ljava/lang/Class;"⟩ : MethodName) (⟨"java/lang/Object", "getClass", "()Ljava/lang/Class;"⟩ : MethodName)) ∈ gT := gT_at (i := 114) (by decide +kernel) (by decide +kernel)
theorem m_115 : (Cond.native (⟨"java/lang/Object", "getClass", "()Ljava/lang/Class;"⟩ : MethodName)) ∈ gT := gT_at (i := 115) (by decide +kernel) (by decide +kernel)
theorem m_116 : (Cond.methodLink "java/util/Arrays" 300 (⟨"java/util/Arrays", "copyOf", "([Ljava/lang/Object;ILjava/lang/Class;)[Ljava/lang/Object;"⟩ : MethodName)) ∈ gT := gT_at (i := 116) (by decide +kernel) (by decide +kernel)
theorem m_117 : (Cond.static (⟨"java/util/Arrays", "copyOf", "([Ljava/lang/Object;ILjava/lang/Class;)[Ljava/lang/Object;"⟩ : MethodName)) ∈ gT := gT_at (i := 117) (by decide +kernel) (by decide +kernel)
theorem m_118 : (Cond.code (⟨"java/util/Arrays", "copyOf", "([Ljava/lang/Object;ILjava/lang/Class;)[Ljava/lang/Object;"⟩ : MethodName) prog_14_method_120_code 4 (Option.some (FieldType.array (FieldType.object "java/lang/Object")))) ∈ gT := gT_at (i := 118) (by decide +kernel) (by decide +kernel)
theorem m_119 : (Cond.classLink "java/util/Arrays" 110 "[Ljava/lang/Object;") ∈ gT := gT_at (i := 119) (by decide +kernel) (by decide +kernel)
theorem m_121 : (Cond.classLink "java/util/Arrays" 2 "java/lang/Object") ∈ gT := gT_at (i := 121) (by decide +kernel) (by decide +kernel)
theorem m_122 : (Cond.methodLink "java/util/Arrays" 304 (⟨"java/lang/Math", "min", "(II)I"⟩ : MethodName)) ∈ gT := gT_at (i := 122) (by decide +kernel) (by decide +kernel)
theorem m_123 : (Cond.static (⟨"java/lang/Math", "min", "(II)I"⟩ : MethodName)) ∈ gT := gT_at (i := 123) (by decide +kernel) (by decide +kernel)
theorem m_124 : (Cond.code (⟨"java/lang/Math", "min", "(II)I"⟩ : MethodName) prog_9_method_69_code 2 (Option.some FieldType.int)) ∈ gT := gT_at (i := 124) (by decide +kernel) (by decide +kernel)
theorem m_125 : (Cond.methodLink "java/util/Arrays" 150 (⟨"java/lang/System", "arraycopy", "(Ljava/lang/Object;ILjava/lang/Object;II)V"⟩ : MethodName)) ∈ gT := gT_at (i := 125) (by decide +kernel) (by decide +kernel)
theorem m_126 : (Cond.static (⟨"java/lang/System", "arraycopy", "(Ljava/lang/Object;ILjava/lang/Object;II)V"⟩ : MethodName)) ∈ gT := gT_at (i := 126) (by decide +kernel) (by decide +kernel)
theorem m_127 : (Cond.native (⟨"java/lang/System", "arraycopy", "(Ljava/lang/Object;ILjava/lang/Object;II)V"⟩ : MethodName)) ∈ gT := gT_at (i := 127) (by decide +kernel) (by decide +kernel)
theorem m_128 : (Cond.methodLink "java/util/ArrayList" 79 (⟨"java/lang/Math", "max", "(II)I"⟩ : MethodName)) ∈ gT := gT_at (i := 128) (by decide +kernel) (by decide +kernel)
theorem m_129 : (Cond.classLink "java/util/ArrayList" 7 "java/lang/Object") ∈ gT := gT_at (i := 129) (by decide +kernel) (by decide +kernel)
theorem m_130 : (Cond.fieldLink "RelaxedRadixVector" 12 "RelaxedRadixVector" "trees" "Ljava/util/ArrayList;") ∈ gT := gT_at (i := 130) (by decide +kernel) (by decide +kernel)
theorem m_131 : (Cond.fieldLink "RelaxedRadixVector" 23 "RelaxedRadixVector" "open" "[Z") ∈ gT := gT_at (i := 131) (by decide +kernel) (by decide +kernel)
theorem m_132 : (Cond.fieldLink "RelaxedRadixVector" 27 "RelaxedRadixVector" "left" "LRelaxedRadixVector$Tree;") ∈ gT := gT_at (i := 132) (by decide +kernel) (by decide +kernel)
theorem m_133 : (Cond.fieldLink "RelaxedRadixVector" 31 "RelaxedRadixVector" "right" "LRelaxedRadixVector$Tree;") ∈ gT := gT_at (i := 133) (by decide +kernel) (by decide +kernel)
theorem m_134 : (Cond.fieldLink "RelaxedRadixVector" 34 "RelaxedRadixVector" "result" "LRelaxedRadixVector$Tree;") ∈ gT := gT_at (i := 134) (by decide +kernel) (by decide +kernel)
theorem m_135 : (Cond.laysFinal "RelaxedRadixVector" "RelaxedRadixVector" "trees" "Ljava/util/ArrayList;") ∈ gT := gT_at (i := 135) (by decide +kernel) (by decide +kernel)
theorem m_137 : (Cond.laysFinal "RelaxedRadixVector" "RelaxedRadixVector" "open" "[Z") ∈ gT := gT_at (i := 137) (by decide +kernel) (by decide +kernel)
theorem m_139 : (Cond.laysFinal "RelaxedRadixVector" "RelaxedRadixVector" "left" "LRelaxedRadixVector$Tree;") ∈ gT := gT_at (i := 139) (by decide +kernel) (by decide +kernel)
theorem m_141 : (Cond.laysFinal "RelaxedRadixVector" "RelaxedRadixVector" "right" "LRelaxedRadixVector$Tree;") ∈ gT := gT_at (i := 141) (by decide +kernel) (by decide +kernel)
theorem m_143 : (Cond.laysFinal "RelaxedRadixVector" "RelaxedRadixVector" "result" "LRelaxedRadixVector$Tree;") ∈ gT := gT_at (i := 143) (by decide +kernel) (by decide +kernel)
theorem m_145 : (Cond.superclass "RelaxedRadixVector" "java/lang/Object") ∈ gT := gT_at (i := 145) (by decide +kernel) (by decide +kernel)
theorem m_146 : (Cond.arrayClass FieldType.boolean) ∈ gT := gT_at (i := 146) (by decide +kernel) (by decide +kernel)
theorem m_147 : (Cond.methodLink "RelaxedRadixVectorLaw" 13 (⟨"RelaxedRadixVector", "append", "(II)I"⟩ : MethodName)) ∈ gT := gT_at (i := 147) (by decide +kernel) (by decide +kernel)
theorem m_148 : (Cond.instanceMethod (⟨"RelaxedRadixVector", "append", "(II)I"⟩ : MethodName)) ∈ gT := gT_at (i := 148) (by decide +kernel) (by decide +kernel)
theorem m_149 : (Cond.selects "RelaxedRadixVector" (⟨"RelaxedRadixVector", "append", "(II)I"⟩ : MethodName) (⟨"RelaxedRadixVector", "append", "(II)I"⟩ : MethodName)) ∈ gT := gT_at (i := 149) (by decide +kernel) (by decide +kernel)
theorem m_150 : (Cond.code (⟨"RelaxedRadixVector", "append", "(II)I"⟩ : MethodName) prog_1_method_2_code 4 (Option.some FieldType.int)) ∈ gT := gT_at (i := 150) (by decide +kernel) (by decide +kernel)
theorem m_151 : (Cond.methodLink "RelaxedRadixVector" 37 (⟨"RelaxedRadixVector", "refusalToGrow", "(II)I"⟩ : MethodName)) ∈ gT := gT_at (i := 151) (by decide +kernel) (by decide +kernel)
theorem m_153 : (Cond.instanceMethod (⟨"RelaxedRadixVector", "refusalToGrow", "(II)I"⟩ : MethodName)) ∈ gT := gT_at (i := 153) (by decide +kernel) (by decide +kernel)
theorem m_154 : (Cond.code (⟨"RelaxedRadixVector", "refusalToGrow", "(II)I"⟩ : MethodName) prog_1_method_27_code 3 (Option.some FieldType.int)) ∈ gT := gT_at (i := 154) (by decide +kernel) (by decide +kernel)
theorem m_155 : (Cond.methodLink "RelaxedRadixVector" 60 (⟨"RelaxedRadixVector", "isFrozen", "(I)Z"⟩ : MethodName)) ∈ gT := gT_at (i := 155) (by decide +kernel) (by decide +kernel)
theorem m_157 : (Cond.instanceMethod (⟨"RelaxedRadixVector", "isFrozen", "(I)Z"⟩ : MethodName)) ∈ gT := gT_at (i := 157) (by decide +kernel) (by decide +kernel)
theorem m_158 : (Cond.code (⟨"RelaxedRadixVector", "isFrozen", "(I)Z"⟩ : MethodName) prog_1_method_23_code 2 (Option.some FieldType.boolean)) ∈ gT := gT_at (i := 158) (by decide +kernel) (by decide +kernel)
theorem m_159 : (Cond.methodLink "RelaxedRadixVector" 97 (⟨"RelaxedRadixVector", "isVersion", "(I)Z"⟩ : MethodName)) ∈ gT := gT_at (i := 159) (by decide +kernel) (by decide +kernel)
theorem m_161 : (Cond.instanceMethod (⟨"RelaxedRadixVector", "isVersion", "(I)Z"⟩ : MethodName)) ∈ gT := gT_at (i := 161) (by decide +kernel) (by decide +kernel)
theorem m_162 : (Cond.code (⟨"RelaxedRadixVector", "isVersion", "(I)Z"⟩ : MethodName) prog_1_method_22_code 2 (Option.some FieldType.boolean)) ∈ gT := gT_at (i := 162) (by decide +kernel) (by decide +kernel)
theorem m_163 : (Cond.methodLink "RelaxedRadixVector" 94 (⟨"java/util/ArrayList", "size", "()I"⟩ : MethodName)) ∈ gT := gT_at (i := 163) (by decide +kernel) (by decide +kernel)
theorem m_164 : (Cond.instanceMethod (⟨"java/util/ArrayList", "size", "()I"⟩ : MethodName)) ∈ gT := gT_at (i := 164) (by decide +kernel) (by decide +kernel)
theorem m_165 : (Cond.selects "java/util/ArrayList" (⟨"java/util/ArrayList", "size", "()I"⟩ : MethodName) (⟨"java/util/ArrayList", "size", "()I"⟩ : MethodName)) ∈ gT := gT_at (i := 165) (by decide +kernel) (by decide +kernel)
theorem m_166 : (Cond.code (⟨"java/util/ArrayList", "size", "()I"⟩ : MethodName) prog_13_method_8_code 1 (Option.some FieldType.int)) ∈ gT := gT_at (i := 166) (by decide +kernel) (by decide +kernel)
theorem m_167 : (Cond.methodLink "RelaxedRadixVector" 68 (⟨"RelaxedRadixVector", "isFull", "()Z"⟩ : MethodName)) ∈ gT := gT_at (i := 167) (by decide +kernel) (by decide +kernel)
theorem m_169 : (Cond.instanceMethod (⟨"RelaxedRadixVector", "isFull", "()Z"⟩ : MethodName)) ∈ gT := gT_at (i := 169) (by decide +kernel) (by decide +kernel)
theorem m_170 : (Cond.code (⟨"RelaxedRadixVector", "isFull", "()Z"⟩ : MethodName) prog_1_method_26_code 1 (Option.some FieldType.boolean)) ∈ gT := gT_at (i := 170) (by decide +kernel) (by decide +kernel)
theorem m_171 : (Cond.methodLink "RelaxedRadixVector" 41 (⟨"java/util/ArrayList", "get", "(I)Ljava/lang/Object;"⟩ : MethodName)) ∈ gT := gT_at (i := 171) (by decide +kernel) (by decide +kernel)
theorem m_172 : (Cond.instanceMethod (⟨"java/util/ArrayList", "get", "(I)Ljava/lang/Object;"⟩ : MethodName)) ∈ gT := gT_at (i := 172) (by decide +kernel) (by decide +kernel)
theorem m_173 : (Cond.selects "java/util/ArrayList" (⟨"java/util/ArrayList", "get", "(I)Ljava/lang/Object;"⟩ : MethodName) (⟨"java/util/ArrayList", "get", "(I)Ljava/lang/Object;"⟩ : MethodName)) ∈ gT := gT_at (i := 173) (by decide +kernel) (by decide +kernel)
theorem m_174 : (Cond.code (⟨"java/util/ArrayList", "get", "(I)Ljava/lang/Object;"⟩ : MethodName) prog_13_method_20_code 2 (Option.some (FieldType.object "java/lang/Object"))) ∈ gT := gT_at (i := 174) (by decide +kernel) (by decide +kernel)
theorem m_175 : (Cond.methodLink "java/util/ArrayList" 118 (⟨"java/util/Objects", "checkIndex", "(II)I"⟩ : MethodName)) ∈ gT := gT_at (i := 175) (by decide +kernel) (by decide +kernel)
theorem m_176 : (Cond.static (⟨"java/util/Objects", "checkIndex", "(II)I"⟩ : MethodName)) ∈ gT := gT_at (i := 176) (by decide +kernel) (by decide +kernel)
theorem m_177 : (Cond.code (⟨"java/util/Objects", "checkIndex", "(II)I"⟩ : MethodName) prog_17_method_17_code 2 (Option.some FieldType.int)) ∈ gT := gT_at (i := 177) (by decide +kernel) (by decide +kernel)
theorem m_178 : (Cond.methodLink "java/util/Objects" 105 (⟨"jdk/internal/util/Preconditions", "checkIndex", "(IILjava/util/function/BiFunction;)I"⟩ : MethodName)) ∈ gT := gT_at (i := 178) (by decide +kernel) (by decide +kernel)
theorem m_179 : (Cond.static (⟨"jdk/internal/util/Preconditions", "checkIndex", "(IILjava/util/function/BiFunction;)I"⟩ : MethodName)) ∈ gT := gT_at (i := 179) (by decide +kernel) (by decide +kernel)
theorem m_180 : (Cond.code (⟨"jdk/internal/util/Preconditions", "checkIndex", "(IILjava/util/function/BiFunction;)I"⟩ : MethodName) prog_21_method_11_code 3 (Option.some FieldType.int)) ∈ gT := gT_at (i := 180) (by decide +kernel) (by decide +kernel)
theorem m_181 : (Cond.methodLink "java/util/ArrayList" 123 (⟨"java/util/ArrayList", "elementData", "(I)Ljava/lang/Object;"⟩ : MethodName)) ∈ gT := gT_at (i := 181) (by decide +kernel) (by decide +kernel)
theorem m_182 : (Cond.instanceMethod (⟨"java/util/ArrayList", "elementData", "(I)Ljava/lang/Object;"⟩ : MethodName)) ∈ gT := gT_at (i := 182) (by decide +kernel) (by decide +kernel)
theorem m_183 : (Cond.selects "java/util/ArrayList" (⟨"java/util/ArrayList", "elementData", "(I)Ljava/lang/Object;"⟩ : MethodName) (⟨"java/util/ArrayList", "elementData", "(I)Ljava/lang/Object;"⟩ : MethodName)) ∈ gT := gT_at (i := 183) (by decide +kernel) (by decide +kernel)
theorem m_184 : (Cond.code (⟨"java/util/ArrayList", "elementData", "(I)Ljava/lang/Object;"⟩ : MethodName) prog_13_method_18_code 2 (Option.some (FieldType.object "java/lang/Object"))) ∈ gT := gT_at (i := 184) (by decide +kernel) (by decide +kernel)
theorem m_185 : (Cond.methodLink "RelaxedRadixVector" 76 (⟨"RelaxedRadixVector$Tree", "length", "()I"⟩ : MethodName)) ∈ gT := gT_at (i := 185) (by decide +kernel) (by decide +kernel)
theorem m_186 : (Cond.instanceMethod (⟨"RelaxedRadixVector$Tree", "length", "()I"⟩ : MethodName)) ∈ gT := gT_at (i := 186) (by decide +kernel) (by decide +kernel)
theorem m_187 : (Cond.selects "RelaxedRadixVector$Tree" (⟨"RelaxedRadixVector$Tree", "length", "()I"⟩ : MethodName) (⟨"RelaxedRadixVector$Tree", "length", "()I"⟩ : MethodName)) ∈ gT := gT_at (i := 187) (by decide +kernel) (by decide +kernel)
theorem m_188 : (Cond.code (⟨"RelaxedRadixVector$Tree", "length", "()I"⟩ : MethodName) prog_3_method_2_code 1 (Option.some FieldType.int)) ∈ gT := gT_at (i := 188) (by decide +kernel) (by decide +kernel)
theorem m_189 : (Cond.methodLink "RelaxedRadixVector" 45 (⟨"RelaxedRadixVector$Tree", "become", "(LRelaxedRadixVector$Tree;)V"⟩ : MethodName)) ∈ gT := gT_at (i := 189) (by decide +kernel) (by decide +kernel)
theorem m_190 : (Cond.instanceMethod (⟨"RelaxedRadixVector$Tree", "become", "(LRelaxedRadixVector$Tree;)V"⟩ : MethodName)) ∈ gT := gT_at (i := 190) (by decide +kernel) (by decide +kernel)
theorem m_191 : (Cond.selects "RelaxedRadixVector$Tree" (⟨"RelaxedRadixVector$Tree", "become", "(LRelaxedRadixVector$Tree;)V"⟩ : MethodName) (⟨"RelaxedRadixVector$Tree", "become", "(LRelaxedRadixVector$Tree;)V"⟩ : MethodName)) ∈ gT := gT_at (i := 191) (by decide +kernel) (by decide +kernel)
theorem m_192 : (Cond.code (⟨"RelaxedRadixVector$Tree", "become", "(LRelaxedRadixVector$Tree;)V"⟩ : MethodName) prog_3_method_7_code 3 (Option.none : Option FieldType)) ∈ gT := gT_at (i := 192) (by decide +kernel) (by decide +kernel)
theorem m_193 : (Cond.methodLink "RelaxedRadixVector$Tree" 33 (⟨"RelaxedRadixVector$Row", "clear", "()V"⟩ : MethodName)) ∈ gT := gT_at (i := 193) (by decide +kernel) (by decide +kernel)
theorem m_194 : (Cond.instanceMethod (⟨"RelaxedRadixVector$Row", "clear", "()V"⟩ : MethodName)) ∈ gT := gT_at (i := 194) (by decide +kernel) (by decide +kernel)
theorem m_195 : (Cond.selects "RelaxedRadixVector$Row" (⟨"RelaxedRadixVector$Row", "clear", "()V"⟩ : MethodName) (⟨"RelaxedRadixVector$Row", "clear", "()V"⟩ : MethodName)) ∈ gT := gT_at (i := 195) (by decide +kernel) (by decide +kernel)
theorem m_196 : (Cond.code (⟨"RelaxedRadixVector$Row", "clear", "()V"⟩ : MethodName) prog_2_method_4_code 1 (Option.none : Option FieldType)) ∈ gT := gT_at (i := 196) (by decide +kernel) (by decide +kernel)
theorem m_197 : (Cond.methodLink "RelaxedRadixVector$Tree" 36 (⟨"RelaxedRadixVector$Row", "addRange", "(LRelaxedRadixVector$Row;II)V"⟩ : MethodName)) ∈ gT := gT_at (i := 197) (by decide +kernel) (by decide +kernel)
theorem m_198 : (Cond.instanceMethod (⟨"RelaxedRadixVector$Row", "addRange", "(LRelaxedRadixVector$Row;II)V"⟩ : MethodName)) ∈ gT := gT_at (i := 198) (by decide +kernel) (by decide +kernel)
theorem m_199 : (Cond.selects "RelaxedRadixVector$Row" (⟨"RelaxedRadixVector$Row", "addRange", "(LRelaxedRadixVector$Row;II)V"⟩ : MethodName) (⟨"RelaxedRadixVector$Row", "addRange", "(LRelaxedRadixVector$Row;II)V"⟩ : MethodName)) ∈ gT := gT_at (i := 199) (by decide +kernel) (by decide +kernel)
theorem m_200 : (Cond.code (⟨"RelaxedRadixVector$Row", "addRange", "(LRelaxedRadixVector$Row;II)V"⟩ : MethodName) prog_2_method_7_code 5 (Option.none : Option FieldType)) ∈ gT := gT_at (i := 200) (by decide +kernel) (by decide +kernel)
theorem m_201 : (Cond.methodLink "RelaxedRadixVector$Row" 25 (⟨"java/lang/Math", "max", "(II)I"⟩ : MethodName)) ∈ gT := gT_at (i := 201) (by decide +kernel) (by decide +kernel)
theorem m_202 : (Cond.methodLink "RelaxedRadixVector$Row" 31 (⟨"RelaxedRadixVector$Row", "addLast", "(I)V"⟩ : MethodName)) ∈ gT := gT_at (i := 202) (by decide +kernel) (by decide +kernel)
theorem m_203 : (Cond.instanceMethod (⟨"RelaxedRadixVector$Row", "addLast", "(I)V"⟩ : MethodName)) ∈ gT := gT_at (i := 203) (by decide +kernel) (by decide +kernel)
theorem m_204 : (Cond.selects "RelaxedRadixVector$Row" (⟨"RelaxedRadixVector$Row", "addLast", "(I)V"⟩ : MethodName) (⟨"RelaxedRadixVector$Row", "addLast", "(I)V"⟩ : MethodName)) ∈ gT := gT_at (i := 204) (by decide +kernel) (by decide +kernel)
theorem m_205 : (Cond.code (⟨"RelaxedRadixVector$Row", "addLast", "(I)V"⟩ : MethodName) prog_2_method_5_code 2 (Option.none : Option FieldType)) ∈ gT := gT_at (i := 205) (by decide +kernel) (by decide +kernel)
theorem m_206 : (Cond.methodLink "RelaxedRadixVector" 49 (⟨"RelaxedRadixVector$Tree", "addLast", "(I)V"⟩ : MethodName)) ∈ gT := gT_at (i := 206) (by decide +kernel) (by decide +kernel)
theorem m_207 : (Cond.instanceMethod (⟨"RelaxedRadixVector$Tree", "addLast", "(I)V"⟩ : MethodName)) ∈ gT := gT_at (i := 207) (by decide +kernel) (by decide +kernel)
theorem m_208 : (Cond.selects "RelaxedRadixVector$Tree" (⟨"RelaxedRadixVector$Tree", "addLast", "(I)V"⟩ : MethodName) (⟨"RelaxedRadixVector$Tree", "addLast", "(I)V"⟩ : MethodName)) ∈ gT := gT_at (i := 208) (by decide +kernel) (by decide +kernel)
theorem m_209 : (Cond.code (⟨"RelaxedRadixVector$Tree", "addLast", "(I)V"⟩ : MethodName) prog_3_method_8_code 4 (Option.none : Option FieldType)) ∈ gT := gT_at (i := 209) (by decide +kernel) (by decide +kernel)
theorem m_210 : (Cond.methodLink "RelaxedRadixVector$Tree" 40 (⟨"RelaxedRadixVector$Row", "addLast", "(I)V"⟩ : MethodName)) ∈ gT := gT_at (i := 210) (by decide +kernel) (by decide +kernel)
theorem m_211 : (Cond.methodLink "RelaxedRadixVector$Tree" 25 (⟨"RelaxedRadixVector$Row", "cell", "(I)I"⟩ : MethodName)) ∈ gT := gT_at (i := 211) (by decide +kernel) (by decide +kernel)
theorem m_212 : (Cond.instanceMethod (⟨"RelaxedRadixVector$Row", "cell", "(I)I"⟩ : MethodName)) ∈ gT := gT_at (i := 212) (by decide +kernel) (by decide +kernel)
theorem m_213 : (Cond.selects "RelaxedRadixVector$Row" (⟨"RelaxedRadixVector$Row", "cell", "(I)I"⟩ : MethodName) (⟨"RelaxedRadixVector$Row", "cell", "(I)I"⟩ : MethodName)) ∈ gT := gT_at (i := 213) (by decide +kernel) (by decide +kernel)
theorem m_214 : (Cond.code (⟨"RelaxedRadixVector$Row", "cell", "(I)I"⟩ : MethodName) prog_2_method_2_code 2 (Option.some FieldType.int)) ∈ gT := gT_at (i := 214) (by decide +kernel) (by decide +kernel)
theorem m_215 : (Cond.methodLink "RelaxedRadixVector$Tree" 29 (⟨"RelaxedRadixVector$Row", "write", "(II)V"⟩ : MethodName)) ∈ gT := gT_at (i := 215) (by decide +kernel) (by decide +kernel)
theorem m_216 : (Cond.instanceMethod (⟨"RelaxedRadixVector$Row", "write", "(II)V"⟩ : MethodName)) ∈ gT := gT_at (i := 216) (by decide +kernel) (by decide +kernel)
theorem m_217 : (Cond.selects "RelaxedRadixVector$Row" (⟨"RelaxedRadixVector$Row", "write", "(II)V"⟩ : MethodName) (⟨"RelaxedRadixVector$Row", "write", "(II)V"⟩ : MethodName)) ∈ gT := gT_at (i := 217) (by decide +kernel) (by decide +kernel)
theorem m_218 : (Cond.code (⟨"RelaxedRadixVector$Row", "write", "(II)V"⟩ : MethodName) prog_2_method_3_code 3 (Option.none : Option FieldType)) ∈ gT := gT_at (i := 218) (by decide +kernel) (by decide +kernel)
theorem m_219 : (Cond.methodLink "RelaxedRadixVector$Tree" 44 (⟨"RelaxedRadixVector$Tree", "setRootOnTop", "()V"⟩ : MethodName)) ∈ gT := gT_at (i := 219) (by decide +kernel) (by decide +kernel)
theorem m_221 : (Cond.instanceMethod (⟨"RelaxedRadixVector$Tree", "setRootOnTop", "()V"⟩ : MethodName)) ∈ gT := gT_at (i := 221) (by decide +kernel) (by decide +kernel)
theorem m_222 : (Cond.code (⟨"RelaxedRadixVector$Tree", "setRootOnTop", "()V"⟩ : MethodName) prog_3_method_10_code 1 (Option.none : Option FieldType)) ∈ gT := gT_at (i := 222) (by decide +kernel) (by decide +kernel)
theorem m_223 : (Cond.methodLink "RelaxedRadixVector" 53 (⟨"RelaxedRadixVector", "keepResult", "()I"⟩ : MethodName)) ∈ gT := gT_at (i := 223) (by decide +kernel) (by decide +kernel)
theorem m_225 : (Cond.instanceMethod (⟨"RelaxedRadixVector", "keepResult", "()I"⟩ : MethodName)) ∈ gT := gT_at (i := 225) (by decide +kernel) (by decide +kernel)
theorem m_226 : (Cond.code (⟨"RelaxedRadixVector", "keepResult", "()I"⟩ : MethodName) prog_1_method_28_code 2 (Option.some FieldType.int)) ∈ gT := gT_at (i := 226) (by decide +kernel) (by decide +kernel)
theorem m_227 : (Cond.methodLink "RelaxedRadixVectorLaw" 18 (⟨"RelaxedRadixVector", "prepend", "(II)I"⟩ : MethodName)) ∈ gT := gT_at (i := 227) (by decide +kernel) (by decide +kernel)
theorem m_228 : (Cond.instanceMethod (⟨"RelaxedRadixVector", "prepend", "(II)I"⟩ : MethodName)) ∈ gT := gT_at (i := 228) (by decide +kernel) (by decide +kernel)
theorem m_229 : (Cond.selects "RelaxedRadixVector" (⟨"RelaxedRadixVector", "prepend", "(II)I"⟩ : MethodName) (⟨"RelaxedRadixVector", "prepend", "(II)I"⟩ : MethodName)) ∈ gT := gT_at (i := 229) (by decide +kernel) (by decide +kernel)
theorem m_230 : (Cond.code (⟨"RelaxedRadixVector", "prepend", "(II)I"⟩ : MethodName) prog_1_method_3_code 4 (Option.some FieldType.int)) ∈ gT := gT_at (i := 230) (by decide +kernel) (by decide +kernel)
theorem m_231 : (Cond.methodLink "RelaxedRadixVector" 57 (⟨"RelaxedRadixVector$Tree", "addFirst", "(I)V"⟩ : MethodName)) ∈ gT := gT_at (i := 231) (by decide +kernel) (by decide +kernel)
theorem m_232 : (Cond.instanceMethod (⟨"RelaxedRadixVector$Tree", "addFirst", "(I)V"⟩ : MethodName)) ∈ gT := gT_at (i := 232) (by decide +kernel) (by decide +kernel)
theorem m_233 : (Cond.selects "RelaxedRadixVector$Tree" (⟨"RelaxedRadixVector$Tree", "addFirst", "(I)V"⟩ : MethodName) (⟨"RelaxedRadixVector$Tree", "addFirst", "(I)V"⟩ : MethodName)) ∈ gT := gT_at (i := 233) (by decide +kernel) (by decide +kernel)
theorem m_234 : (Cond.code (⟨"RelaxedRadixVector$Tree", "addFirst", "(I)V"⟩ : MethodName) prog_3_method_9_code 3 (Option.none : Option FieldType)) ∈ gT := gT_at (i := 234) (by decide +kernel) (by decide +kernel)
theorem m_235 : (Cond.methodLink "RelaxedRadixVector$Tree" 47 (⟨"RelaxedRadixVector$Row", "addFirst", "(I)V"⟩ : MethodName)) ∈ gT := gT_at (i := 235) (by decide +kernel) (by decide +kernel)
theorem m_236 : (Cond.instanceMethod (⟨"RelaxedRadixVector$Row", "addFirst", "(I)V"⟩ : MethodName)) ∈ gT := gT_at (i := 236) (by decide +kernel) (by decide +kernel)
theorem m_237 : (Cond.selects "RelaxedRadixVector$Row" (⟨"RelaxedRadixVector$Row", "addFirst", "(I)V"⟩ : MethodName) (⟨"RelaxedRadixVector$Row", "addFirst", "(I)V"⟩ : MethodName)) ∈ gT := gT_at (i := 237) (by decide +kernel) (by decide +kernel)
theorem m_238 : (Cond.code (⟨"RelaxedRadixVector$Row", "addFirst", "(I)V"⟩ : MethodName) prog_2_method_6_code 2 (Option.none : Option FieldType)) ∈ gT := gT_at (i := 238) (by decide +kernel) (by decide +kernel)
theorem m_239 : (Cond.methodLink "RelaxedRadixVector$Row" 19 (⟨"java/lang/System", "arraycopy", "(Ljava/lang/Object;ILjava/lang/Object;II)V"⟩ : MethodName)) ∈ gT := gT_at (i := 239) (by decide +kernel) (by decide +kernel)
theorem m_240 : (Cond.methodLink "RelaxedRadixVectorLaw" 22 (⟨"RelaxedRadixVector", "set", "(III)I"⟩ : MethodName)) ∈ gT := gT_at (i := 240) (by decide +kernel) (by decide +kernel)
theorem m_241 : (Cond.instanceMethod (⟨"RelaxedRadixVector", "set", "(III)I"⟩ : MethodName)) ∈ gT := gT_at (i := 241) (by decide +kernel) (by decide +kernel)
theorem m_242 : (Cond.selects "RelaxedRadixVector" (⟨"RelaxedRadixVector", "set", "(III)I"⟩ : MethodName) (⟨"RelaxedRadixVector", "set", "(III)I"⟩ : MethodName)) ∈ gT := gT_at (i := 242) (by decide +kernel) (by decide +kernel)
theorem m_243 : (Cond.code (⟨"RelaxedRadixVector", "set", "(III)I"⟩ : MethodName) prog_1_method_4_code 4 (Option.some FieldType.int)) ∈ gT := gT_at (i := 243) (by decide +kernel) (by decide +kernel)
theorem m_244 : (Cond.methodLink "RelaxedRadixVector" 64 (⟨"RelaxedRadixVector", "isPlace", "(II)Z"⟩ : MethodName)) ∈ gT := gT_at (i := 244) (by decide +kernel) (by decide +kernel)
theorem m_246 : (Cond.instanceMethod (⟨"RelaxedRadixVector", "isPlace", "(II)Z"⟩ : MethodName)) ∈ gT := gT_at (i := 246) (by decide +kernel) (by decide +kernel)
theorem m_247 : (Cond.code (⟨"RelaxedRadixVector", "isPlace", "(II)Z"⟩ : MethodName) prog_1_method_25_code 3 (Option.some FieldType.boolean)) ∈ gT := gT_at (i := 247) (by decide +kernel) (by decide +kernel)
theorem m_248 : (Cond.methodLink "RelaxedRadixVector" 72 (⟨"RelaxedRadixVector$Tree", "replace", "(II)V"⟩ : MethodName)) ∈ gT := gT_at (i := 248) (by decide +kernel) (by decide +kernel)
theorem m_249 : (Cond.instanceMethod (⟨"RelaxedRadixVector$Tree", "replace", "(II)V"⟩ : MethodName)) ∈ gT := gT_at (i := 249) (by decide +kernel) (by decide +kernel)
theorem m_250 : (Cond.selects "RelaxedRadixVector$Tree" (⟨"RelaxedRadixVector$Tree", "replace", "(II)V"⟩ : MethodName) (⟨"RelaxedRadixVector$Tree", "replace", "(II)V"⟩ : MethodName)) ∈ gT := gT_at (i := 250) (by decide +kernel) (by decide +kernel)
theorem m_251 : (Cond.code (⟨"RelaxedRadixVector$Tree", "replace", "(II)V"⟩ : MethodName) prog_3_method_4_code 3 (Option.none : Option FieldType)) ∈ gT := gT_at (i := 251) (by decide +kernel) (by decide +kernel)
theorem m_252 : (Cond.methodLink "RelaxedRadixVectorLaw" 27 (⟨"RelaxedRadixVector", "concat", "(II)I"⟩ : MethodName)) ∈ gT := gT_at (i := 252) (by decide +kernel) (by decide +kernel)
theorem m_253 : (Cond.instanceMethod (⟨"RelaxedRadixVector", "concat", "(II)I"⟩ : MethodName)) ∈ gT := gT_at (i := 253) (by decide +kernel) (by decide +kernel)
theorem m_254 : (Cond.selects "RelaxedRadixVector" (⟨"RelaxedRadixVector", "concat", "(II)I"⟩ : MethodName) (⟨"RelaxedRadixVector", "concat", "(II)I"⟩ : MethodName)) ∈ gT := gT_at (i := 254) (by decide +kernel) (by decide +kernel)
theorem m_255 : (Cond.code (⟨"RelaxedRadixVector", "concat", "(II)I"⟩ : MethodName) prog_1_method_5_code 4 (Option.some FieldType.int)) ∈ gT := gT_at (i := 255) (by decide +kernel) (by decide +kernel)
theorem m_256 : (Cond.methodLink "RelaxedRadixVector" 79 (⟨"RelaxedRadixVector$Tree", "join", "(LRelaxedRadixVector$Tree;LRelaxedRadixVector$Tree;)V"⟩ : MethodName)) ∈ gT := gT_at (i := 256) (by decide +kernel) (by decide +kernel)
theorem m_257 : (Cond.instanceMethod (⟨"RelaxedRadixVector$Tree", "join", "(LRelaxedRadixVector$Tree;LRelaxedRadixVector$Tree;)V"⟩ : MethodName)) ∈ gT := gT_at (i := 257) (by decide +kernel) (by decide +kernel)
theorem m_258 : (Cond.selects "RelaxedRadixVector$Tree" (⟨"RelaxedRadixVector$Tree", "join", "(LRelaxedRadixVector$Tree;LRelaxedRadixVector$Tree;)V"⟩ : MethodName) (⟨"RelaxedRadixVector$Tree", "join", "(LRelaxedRadixVector$Tree;LRelaxedRadixVector$Tree;)V"⟩ : MethodName)) ∈ gT := gT_at (i := 258) (by decide +kernel) (by decide +kernel)
theorem m_259 : (Cond.code (⟨"RelaxedRadixVector$Tree", "join", "(LRelaxedRadixVector$Tree;LRelaxedRadixVector$Tree;)V"⟩ : MethodName) prog_3_method_12_code 3 (Option.none : Option FieldType)) ∈ gT := gT_at (i := 259) (by decide +kernel) (by decide +kernel)
theorem m_260 : (Cond.methodLink "RelaxedRadixVector$Tree" 56 (⟨"RelaxedRadixVector$Tree", "length", "()I"⟩ : MethodName)) ∈ gT := gT_at (i := 260) (by decide +kernel) (by decide +kernel)
theorem m_261 : (Cond.methodLink "RelaxedRadixVector$Tree" 60 (⟨"RelaxedRadixVector$Tree", "become", "(LRelaxedRadixVector$Tree;)V"⟩ : MethodName)) ∈ gT := gT_at (i := 261) (by decide +kernel) (by decide +kernel)
theorem m_262 : (Cond.methodLink "RelaxedRadixVector$Tree" 64 (⟨"RelaxedRadixVector$Tree", "meetRoots", "(LRelaxedRadixVector$Tree;LRelaxedRadixVector$Tree;)V"⟩ : MethodName)) ∈ gT := gT_at (i := 262) (by decide +kernel) (by decide +kernel)
theorem m_264 : (Cond.instanceMethod (⟨"RelaxedRadixVector$Tree", "meetRoots", "(LRelaxedRadixVector$Tree;LRelaxedRadixVector$Tree;)V"⟩ : MethodName)) ∈ gT := gT_at (i := 264) (by decide +kernel) (by decide +kernel)
theorem m_265 : (Cond.code (⟨"RelaxedRadixVector$Tree", "meetRoots", "(LRelaxedRadixVector$Tree;LRelaxedRadixVector$Tree;)V"⟩ : MethodName) prog_3_method_13_code 11 (Option.none : Option FieldType)) ∈ gT := gT_at (i := 265) (by decide +kernel) (by decide +kernel)
theorem m_266 : (Cond.methodLink "RelaxedRadixVector$Tree" 68 (⟨"java/lang/Math", "max", "(II)I"⟩ : MethodName)) ∈ gT := gT_at (i := 266) (by decide +kernel) (by decide +kernel)
theorem m_267 : (Cond.methodLink "RelaxedRadixVector$Tree" 74 (⟨"RelaxedRadixVector$Tree", "allButOne", "(I)I"⟩ : MethodName)) ∈ gT := gT_at (i := 267) (by decide +kernel) (by decide +kernel)
theorem m_268 : (Cond.static (⟨"RelaxedRadixVector$Tree", "allButOne", "(I)I"⟩ : MethodName)) ∈ gT := gT_at (i := 268) (by decide +kernel) (by decide +kernel)
theorem m_269 : (Cond.code (⟨"RelaxedRadixVector$Tree", "allButOne", "(I)I"⟩ : MethodName) prog_3_method_14_code 1 (Option.some FieldType.int)) ∈ gT := gT_at (i := 269) (by decide +kernel) (by decide +kernel)
theorem m_270 : (Cond.methodLink "RelaxedRadixVector$Tree" 77 (⟨"RelaxedRadixVector$Row", "pack", "(II)I"⟩ : MethodName)) ∈ gT := gT_at (i := 270) (by decide +kernel) (by decide +kernel)
theorem m_271 : (Cond.instanceMethod (⟨"RelaxedRadixVector$Row", "pack", "(II)I"⟩ : MethodName)) ∈ gT := gT_at (i := 271) (by decide +kernel) (by decide +kernel)
theorem m_272 : (Cond.selects "RelaxedRadixVector$Row" (⟨"RelaxedRadixVector$Row", "pack", "(II)I"⟩ : MethodName) (⟨"RelaxedRadixVector$Row", "pack", "(II)I"⟩ : MethodName)) ∈ gT := gT_at (i := 272) (by decide +kernel) (by decide +kernel)
theorem m_273 : (Cond.code (⟨"RelaxedRadixVector$Row", "pack", "(II)I"⟩ : MethodName) prog_2_method_12_code 5 (Option.some FieldType.int)) ∈ gT := gT_at (i := 273) (by decide +kernel) (by decide +kernel)
theorem m_274 : (Cond.methodLink "RelaxedRadixVector$Row" 38 (⟨"RelaxedRadixVector$Row", "sumBefore", "(I)I"⟩ : MethodName)) ∈ gT := gT_at (i := 274) (by decide +kernel) (by decide +kernel)
theorem m_275 : (Cond.instanceMethod (⟨"RelaxedRadixVector$Row", "sumBefore", "(I)I"⟩ : MethodName)) ∈ gT := gT_at (i := 275) (by decide +kernel) (by decide +kernel)
theorem m_276 : (Cond.selects "RelaxedRadixVector$Row" (⟨"RelaxedRadixVector$Row", "sumBefore", "(I)I"⟩ : MethodName) (⟨"RelaxedRadixVector$Row", "sumBefore", "(I)I"⟩ : MethodName)) ∈ gT := gT_at (i := 276) (by decide +kernel) (by decide +kernel)
theorem m_277 : (Cond.code (⟨"RelaxedRadixVector$Row", "sumBefore", "(I)I"⟩ : MethodName) prog_2_method_10_code 4 (Option.some FieldType.int)) ∈ gT := gT_at (i := 277) (by decide +kernel) (by decide +kernel)
theorem m_278 : (Cond.methodLink "RelaxedRadixVector$Row" 42 (⟨"RelaxedRadixVector$Row", "saveOneNode", "(II)V"⟩ : MethodName)) ∈ gT := gT_at (i := 278) (by decide +kernel) (by decide +kernel)
theorem m_280 : (Cond.instanceMethod (⟨"RelaxedRadixVector$Row", "saveOneNode", "(II)V"⟩ : MethodName)) ∈ gT := gT_at (i := 280) (by decide +kernel) (by decide +kernel)
theorem m_281 : (Cond.code (⟨"RelaxedRadixVector$Row", "saveOneNode", "(II)V"⟩ : MethodName) prog_2_method_13_code 8 (Option.none : Option FieldType)) ∈ gT := gT_at (i := 281) (by decide +kernel) (by decide +kernel)
theorem m_282 : (Cond.methodLink "RelaxedRadixVector$Row" 46 (⟨"RelaxedRadixVector$Row", "cell", "(I)I"⟩ : MethodName)) ∈ gT := gT_at (i := 282) (by decide +kernel) (by decide +kernel)
theorem m_283 : (Cond.methodLink "RelaxedRadixVector$Row" 49 (⟨"RelaxedRadixVector$Row", "remove", "(I)V"⟩ : MethodName)) ∈ gT := gT_at (i := 283) (by decide +kernel) (by decide +kernel)
theorem m_285 : (Cond.instanceMethod (⟨"RelaxedRadixVector$Row", "remove", "(I)V"⟩ : MethodName)) ∈ gT := gT_at (i := 285) (by decide +kernel) (by decide +kernel)
theorem m_286 : (Cond.code (⟨"RelaxedRadixVector$Row", "remove", "(I)V"⟩ : MethodName) prog_2_method_9_code 2 (Option.none : Option FieldType)) ∈ gT := gT_at (i := 286) (by decide +kernel) (by decide +kernel)
theorem m_287 : (Cond.methodLink "RelaxedRadixVector$Row" 52 (⟨"RelaxedRadixVector$Row", "write", "(II)V"⟩ : MethodName)) ∈ gT := gT_at (i := 287) (by decide +kernel) (by decide +kernel)
theorem m_288 : (Cond.methodLink "RelaxedRadixVector$Tree" 80 (⟨"java/lang/Math", "min", "(II)I"⟩ : MethodName)) ∈ gT := gT_at (i := 288) (by decide +kernel) (by decide +kernel)
theorem m_289 : (Cond.methodLink "RelaxedRadixVectorLaw" 31 (⟨"RelaxedRadixVector", "slice", "(III)I"⟩ : MethodName)) ∈ gT := gT_at (i := 289) (by decide +kernel) (by decide +kernel)
theorem m_290 : (Cond.instanceMethod (⟨"RelaxedRadixVector", "slice", "(III)I"⟩ : MethodName)) ∈ gT := gT_at (i := 290) (by decide +kernel) (by decide +kernel)
theorem m_291 : (Cond.selects "RelaxedRadixVector" (⟨"RelaxedRadixVector", "slice", "(III)I"⟩ : MethodName) (⟨"RelaxedRadixVector", "slice", "(III)I"⟩ : MethodName)) ∈ gT := gT_at (i := 291) (by decide +kernel) (by decide +kernel)
theorem m_292 : (Cond.code (⟨"RelaxedRadixVector", "slice", "(III)I"⟩ : MethodName) prog_1_method_6_code 4 (Option.some FieldType.int)) ∈ gT := gT_at (i := 292) (by decide +kernel) (by decide +kernel)
theorem m_293 : (Cond.methodLink "RelaxedRadixVector" 83 (⟨"RelaxedRadixVector$Tree", "cut", "(LRelaxedRadixVector$Tree;II)V"⟩ : MethodName)) ∈ gT := gT_at (i := 293) (by decide +kernel) (by decide +kernel)
theorem m_294 : (Cond.instanceMethod (⟨"RelaxedRadixVector$Tree", "cut", "(LRelaxedRadixVector$Tree;II)V"⟩ : MethodName)) ∈ gT := gT_at (i := 294) (by decide +kernel) (by decide +kernel)
theorem m_295 : (Cond.selects "RelaxedRadixVector$Tree" (⟨"RelaxedRadixVector$Tree", "cut", "(LRelaxedRadixVector$Tree;II)V"⟩ : MethodName) (⟨"RelaxedRadixVector$Tree", "cut", "(LRelaxedRadixVector$Tree;II)V"⟩ : MethodName)) ∈ gT := gT_at (i := 295) (by decide +kernel) (by decide +kernel)
theorem m_296 : (Cond.code (⟨"RelaxedRadixVector$Tree", "cut", "(LRelaxedRadixVector$Tree;II)V"⟩ : MethodName) prog_3_method_11_code 8 (Option.none : Option FieldType)) ∈ gT := gT_at (i := 296) (by decide +kernel) (by decide +kernel)
theorem m_297 : (Cond.methodLink "RelaxedRadixVector$Tree" 50 (⟨"RelaxedRadixVector$Row", "addClipped", "(LRelaxedRadixVector$Row;II)V"⟩ : MethodName)) ∈ gT := gT_at (i := 297) (by decide +kernel) (by decide +kernel)
theorem m_298 : (Cond.instanceMethod (⟨"RelaxedRadixVector$Row", "addClipped", "(LRelaxedRadixVector$Row;II)V"⟩ : MethodName)) ∈ gT := gT_at (i := 298) (by decide +kernel) (by decide +kernel)
theorem m_299 : (Cond.selects "RelaxedRadixVector$Row" (⟨"RelaxedRadixVector$Row", "addClipped", "(LRelaxedRadixVector$Row;II)V"⟩ : MethodName) (⟨"RelaxedRadixVector$Row", "addClipped", "(LRelaxedRadixVector$Row;II)V"⟩ : MethodName)) ∈ gT := gT_at (i := 299) (by decide +kernel) (by decide +kernel)
theorem m_300 : (Cond.code (⟨"RelaxedRadixVector$Row", "addClipped", "(LRelaxedRadixVector$Row;II)V"⟩ : MethodName) prog_2_method_8_code 8 (Option.none : Option FieldType)) ∈ gT := gT_at (i := 300) (by decide +kernel) (by decide +kernel)
theorem m_301 : (Cond.methodLink "RelaxedRadixVector$Row" 35 (⟨"java/lang/Math", "min", "(II)I"⟩ : MethodName)) ∈ gT := gT_at (i := 301) (by decide +kernel) (by decide +kernel)
theorem m_302 : (Cond.methodLink "RelaxedRadixVector$Tree" 53 (⟨"RelaxedRadixVector$Row", "holderOf", "(I)I"⟩ : MethodName)) ∈ gT := gT_at (i := 302) (by decide +kernel) (by decide +kernel)
theorem m_303 : (Cond.instanceMethod (⟨"RelaxedRadixVector$Row", "holderOf", "(I)I"⟩ : MethodName)) ∈ gT := gT_at (i := 303) (by decide +kernel) (by decide +kernel)
theorem m_304 : (Cond.selects "RelaxedRadixVector$Row" (⟨"RelaxedRadixVector$Row", "holderOf", "(I)I"⟩ : MethodName) (⟨"RelaxedRadixVector$Row", "holderOf", "(I)I"⟩ : MethodName)) ∈ gT := gT_at (i := 304) (by decide +kernel) (by decide +kernel)
theorem m_305 : (Cond.code (⟨"RelaxedRadixVector$Row", "holderOf", "(I)I"⟩ : MethodName) prog_2_method_11_code 4 (Option.some FieldType.int)) ∈ gT := gT_at (i := 305) (by decide +kernel) (by decide +kernel)
theorem m_306 : (Cond.methodLink "RelaxedRadixVectorLaw" 35 (⟨"RelaxedRadixVector", "insertAt", "(III)I"⟩ : MethodName)) ∈ gT := gT_at (i := 306) (by decide +kernel) (by decide +kernel)
theorem m_307 : (Cond.instanceMethod (⟨"RelaxedRadixVector", "insertAt", "(III)I"⟩ : MethodName)) ∈ gT := gT_at (i := 307) (by decide +kernel) (by decide +kernel)
theorem m_308 : (Cond.selects "RelaxedRadixVector" (⟨"RelaxedRadixVector", "insertAt", "(III)I"⟩ : MethodName) (⟨"RelaxedRadixVector", "insertAt", "(III)I"⟩ : MethodName)) ∈ gT := gT_at (i := 308) (by decide +kernel) (by decide +kernel)
theorem m_309 : (Cond.code (⟨"RelaxedRadixVector", "insertAt", "(III)I"⟩ : MethodName) prog_1_method_7_code 6 (Option.some FieldType.int)) ∈ gT := gT_at (i := 309) (by decide +kernel) (by decide +kernel)
theorem m_310 : (Cond.methodLink "RelaxedRadixVectorLaw" 39 (⟨"RelaxedRadixVector", "removeAt", "(II)I"⟩ : MethodName)) ∈ gT := gT_at (i := 310) (by decide +kernel) (by decide +kernel)
theorem m_311 : (Cond.instanceMethod (⟨"RelaxedRadixVector", "removeAt", "(II)I"⟩ : MethodName)) ∈ gT := gT_at (i := 311) (by decide +kernel) (by decide +kernel)
theorem m_312 : (Cond.selects "RelaxedRadixVector" (⟨"RelaxedRadixVector", "removeAt", "(II)I"⟩ : MethodName) (⟨"RelaxedRadixVector", "removeAt", "(II)I"⟩ : MethodName)) ∈ gT := gT_at (i := 312) (by decide +kernel) (by decide +kernel)
theorem m_313 : (Cond.code (⟨"RelaxedRadixVector", "removeAt", "(II)I"⟩ : MethodName) prog_1_method_8_code 4 (Option.some FieldType.int)) ∈ gT := gT_at (i := 313) (by decide +kernel) (by decide +kernel)
theorem m_314 : (Cond.methodLink "RelaxedRadixVectorLaw" 43 (⟨"RelaxedRadixVector", "thaw", "(I)I"⟩ : MethodName)) ∈ gT := gT_at (i := 314) (by decide +kernel) (by decide +kernel)
theorem m_315 : (Cond.instanceMethod (⟨"RelaxedRadixVector", "thaw", "(I)I"⟩ : MethodName)) ∈ gT := gT_at (i := 315) (by decide +kernel) (by decide +kernel)
theorem m_316 : (Cond.selects "RelaxedRadixVector" (⟨"RelaxedRadixVector", "thaw", "(I)I"⟩ : MethodName) (⟨"RelaxedRadixVector", "thaw", "(I)I"⟩ : MethodName)) ∈ gT := gT_at (i := 316) (by decide +kernel) (by decide +kernel)
theorem m_317 : (Cond.code (⟨"RelaxedRadixVector", "thaw", "(I)I"⟩ : MethodName) prog_1_method_9_code 3 (Option.some FieldType.int)) ∈ gT := gT_at (i := 317) (by decide +kernel) (by decide +kernel)
theorem m_318 : (Cond.methodLink "RelaxedRadixVectorLaw" 48 (⟨"RelaxedRadixVector", "push", "(II)Z"⟩ : MethodName)) ∈ gT := gT_at (i := 318) (by decide +kernel) (by decide +kernel)
theorem m_319 : (Cond.instanceMethod (⟨"RelaxedRadixVector", "push", "(II)Z"⟩ : MethodName)) ∈ gT := gT_at (i := 319) (by decide +kernel) (by decide +kernel)
theorem m_320 : (Cond.selects "RelaxedRadixVector" (⟨"RelaxedRadixVector", "push", "(II)Z"⟩ : MethodName) (⟨"RelaxedRadixVector", "push", "(II)Z"⟩ : MethodName)) ∈ gT := gT_at (i := 320) (by decide +kernel) (by decide +kernel)
theorem m_321 : (Cond.code (⟨"RelaxedRadixVector", "push", "(II)Z"⟩ : MethodName) prog_1_method_10_code 3 (Option.some FieldType.boolean)) ∈ gT := gT_at (i := 321) (by decide +kernel) (by decide +kernel)
theorem m_322 : (Cond.methodLink "RelaxedRadixVector" 87 (⟨"RelaxedRadixVector", "isOpen", "(I)Z"⟩ : MethodName)) ∈ gT := gT_at (i := 322) (by decide +kernel) (by decide +kernel)
theorem m_324 : (Cond.instanceMethod (⟨"RelaxedRadixVector", "isOpen", "(I)Z"⟩ : MethodName)) ∈ gT := gT_at (i := 324) (by decide +kernel) (by decide +kernel)
theorem m_325 : (Cond.code (⟨"RelaxedRadixVector", "isOpen", "(I)Z"⟩ : MethodName) prog_1_method_24_code 2 (Option.some FieldType.boolean)) ∈ gT := gT_at (i := 325) (by decide +kernel) (by decide +kernel)
theorem m_326 : (Cond.methodLink "RelaxedRadixVectorLaw" 53 (⟨"RelaxedRadixVector", "put", "(III)Z"⟩ : MethodName)) ∈ gT := gT_at (i := 326) (by decide +kernel) (by decide +kernel)
theorem m_327 : (Cond.instanceMethod (⟨"RelaxedRadixVector", "put", "(III)Z"⟩ : MethodName)) ∈ gT := gT_at (i := 327) (by decide +kernel) (by decide +kernel)
theorem m_328 : (Cond.selects "RelaxedRadixVector" (⟨"RelaxedRadixVector", "put", "(III)Z"⟩ : MethodName) (⟨"RelaxedRadixVector", "put", "(III)Z"⟩ : MethodName)) ∈ gT := gT_at (i := 328) (by decide +kernel) (by decide +kernel)
theorem m_329 : (Cond.code (⟨"RelaxedRadixVector", "put", "(III)Z"⟩ : MethodName) prog_1_method_11_code 4 (Option.some FieldType.boolean)) ∈ gT := gT_at (i := 329) (by decide +kernel) (by decide +kernel)
theorem m_330 : (Cond.methodLink "RelaxedRadixVectorLaw" 58 (⟨"RelaxedRadixVector", "freeze", "(I)Z"⟩ : MethodName)) ∈ gT := gT_at (i := 330) (by decide +kernel) (by decide +kernel)
theorem m_331 : (Cond.instanceMethod (⟨"RelaxedRadixVector", "freeze", "(I)Z"⟩ : MethodName)) ∈ gT := gT_at (i := 331) (by decide +kernel) (by decide +kernel)
theorem m_332 : (Cond.selects "RelaxedRadixVector" (⟨"RelaxedRadixVector", "freeze", "(I)Z"⟩ : MethodName) (⟨"RelaxedRadixVector", "freeze", "(I)Z"⟩ : MethodName)) ∈ gT := gT_at (i := 332) (by decide +kernel) (by decide +kernel)
theorem m_333 : (Cond.code (⟨"RelaxedRadixVector", "freeze", "(I)Z"⟩ : MethodName) prog_1_method_12_code 2 (Option.some FieldType.boolean)) ∈ gT := gT_at (i := 333) (by decide +kernel) (by decide +kernel)
theorem m_334 : (Cond.methodLink "RelaxedRadixVectorLaw" 63 (⟨"RelaxedRadixVector", "versions", "()I"⟩ : MethodName)) ∈ gT := gT_at (i := 334) (by decide +kernel) (by decide +kernel)
theorem m_335 : (Cond.instanceMethod (⟨"RelaxedRadixVector", "versions", "()I"⟩ : MethodName)) ∈ gT := gT_at (i := 335) (by decide +kernel) (by decide +kernel)
theorem m_336 : (Cond.selects "RelaxedRadixVector" (⟨"RelaxedRadixVector", "versions", "()I"⟩ : MethodName) (⟨"RelaxedRadixVector", "versions", "()I"⟩ : MethodName)) ∈ gT := gT_at (i := 336) (by decide +kernel) (by decide +kernel)
theorem m_337 : (Cond.code (⟨"RelaxedRadixVector", "versions", "()I"⟩ : MethodName) prog_1_method_13_code 1 (Option.some FieldType.int)) ∈ gT := gT_at (i := 337) (by decide +kernel) (by decide +kernel)
theorem m_338 : (Cond.methodLink "RelaxedRadixVectorLaw" 68 (⟨"RelaxedRadixVector", "size", "(I)I"⟩ : MethodName)) ∈ gT := gT_at (i := 338) (by decide +kernel) (by decide +kernel)
theorem m_339 : (Cond.instanceMethod (⟨"RelaxedRadixVector", "size", "(I)I"⟩ : MethodName)) ∈ gT := gT_at (i := 339) (by decide +kernel) (by decide +kernel)
theorem m_340 : (Cond.selects "RelaxedRadixVector" (⟨"RelaxedRadixVector", "size", "(I)I"⟩ : MethodName) (⟨"RelaxedRadixVector", "size", "(I)I"⟩ : MethodName)) ∈ gT := gT_at (i := 340) (by decide +kernel) (by decide +kernel)
theorem m_341 : (Cond.code (⟨"RelaxedRadixVector", "size", "(I)I"⟩ : MethodName) prog_1_method_14_code 2 (Option.some FieldType.int)) ∈ gT := gT_at (i := 341) (by decide +kernel) (by decide +kernel)
theorem m_342 : (Cond.methodLink "RelaxedRadixVectorLaw" 72 (⟨"RelaxedRadixVector", "get", "(II)J"⟩ : MethodName)) ∈ gT := gT_at (i := 342) (by decide +kernel) (by decide +kernel)
theorem m_343 : (Cond.instanceMethod (⟨"RelaxedRadixVector", "get", "(II)J"⟩ : MethodName)) ∈ gT := gT_at (i := 343) (by decide +kernel) (by decide +kernel)
theorem m_344 : (Cond.selects "RelaxedRadixVector" (⟨"RelaxedRadixVector", "get", "(II)J"⟩ : MethodName) (⟨"RelaxedRadixVector", "get", "(II)J"⟩ : MethodName)) ∈ gT := gT_at (i := 344) (by decide +kernel) (by decide +kernel)
theorem m_345 : (Cond.code (⟨"RelaxedRadixVector", "get", "(II)J"⟩ : MethodName) prog_1_method_15_code 3 (Option.some FieldType.long)) ∈ gT := gT_at (i := 345) (by decide +kernel) (by decide +kernel)
theorem m_346 : (Cond.methodLink "RelaxedRadixVector" 100 (⟨"RelaxedRadixVector$Tree", "element", "(I)I"⟩ : MethodName)) ∈ gT := gT_at (i := 346) (by decide +kernel) (by decide +kernel)
theorem m_347 : (Cond.instanceMethod (⟨"RelaxedRadixVector$Tree", "element", "(I)I"⟩ : MethodName)) ∈ gT := gT_at (i := 347) (by decide +kernel) (by decide +kernel)
theorem m_348 : (Cond.selects "RelaxedRadixVector$Tree" (⟨"RelaxedRadixVector$Tree", "element", "(I)I"⟩ : MethodName) (⟨"RelaxedRadixVector$Tree", "element", "(I)I"⟩ : MethodName)) ∈ gT := gT_at (i := 348) (by decide +kernel) (by decide +kernel)
theorem m_349 : (Cond.code (⟨"RelaxedRadixVector$Tree", "element", "(I)I"⟩ : MethodName) prog_3_method_3_code 2 (Option.some FieldType.int)) ∈ gT := gT_at (i := 349) (by decide +kernel) (by decide +kernel)
theorem m_350 : (Cond.constantLong "RelaxedRadixVector" 104 (4294967296 : Int64)) ∈ gT := gT_at (i := 350) (by decide +kernel) (by decide +kernel)
theorem m_351 : (Cond.methodLink "RelaxedRadixVectorLaw" 77 (⟨"RelaxedRadixVector", "hash", "(I)I"⟩ : MethodName)) ∈ gT := gT_at (i := 351) (by decide +kernel) (by decide +kernel)
theorem m_352 : (Cond.instanceMethod (⟨"RelaxedRadixVector", "hash", "(I)I"⟩ : MethodName)) ∈ gT := gT_at (i := 352) (by decide +kernel) (by decide +kernel)
theorem m_353 : (Cond.selects "RelaxedRadixVector" (⟨"RelaxedRadixVector", "hash", "(I)I"⟩ : MethodName) (⟨"RelaxedRadixVector", "hash", "(I)I"⟩ : MethodName)) ∈ gT := gT_at (i := 353) (by decide +kernel) (by decide +kernel)
theorem m_354 : (Cond.code (⟨"RelaxedRadixVector", "hash", "(I)I"⟩ : MethodName) prog_1_method_16_code 5 (Option.some FieldType.int)) ∈ gT := gT_at (i := 354) (by decide +kernel) (by decide +kernel)
theorem m_355 : (Cond.methodLink "RelaxedRadixVectorLaw" 81 (⟨"RelaxedRadixVector", "compare", "(II)I"⟩ : MethodName)) ∈ gT := gT_at (i := 355) (by decide +kernel) (by decide +kernel)
theorem m_356 : (Cond.instanceMethod (⟨"RelaxedRadixVector", "compare", "(II)I"⟩ : MethodName)) ∈ gT := gT_at (i := 356) (by decide +kernel) (by decide +kernel)
theorem m_357 : (Cond.selects "RelaxedRadixVector" (⟨"RelaxedRadixVector", "compare", "(II)I"⟩ : MethodName) (⟨"RelaxedRadixVector", "compare", "(II)I"⟩ : MethodName)) ∈ gT := gT_at (i := 357) (by decide +kernel) (by decide +kernel)
theorem m_358 : (Cond.code (⟨"RelaxedRadixVector", "compare", "(II)I"⟩ : MethodName) prog_1_method_17_code 7 (Option.some FieldType.int)) ∈ gT := gT_at (i := 358) (by decide +kernel) (by decide +kernel)
theorem m_359 : (Cond.methodLink "RelaxedRadixVector" 106 (⟨"java/lang/Math", "min", "(II)I"⟩ : MethodName)) ∈ gT := gT_at (i := 359) (by decide +kernel) (by decide +kernel)
theorem m_360 : (Cond.methodLink "RelaxedRadixVectorLaw" 85 (⟨"RelaxedRadixVector", "height", "(I)I"⟩ : MethodName)) ∈ gT := gT_at (i := 360) (by decide +kernel) (by decide +kernel)
theorem m_361 : (Cond.instanceMethod (⟨"RelaxedRadixVector", "height", "(I)I"⟩ : MethodName)) ∈ gT := gT_at (i := 361) (by decide +kernel) (by decide +kernel)
theorem m_362 : (Cond.selects "RelaxedRadixVector" (⟨"RelaxedRadixVector", "height", "(I)I"⟩ : MethodName) (⟨"RelaxedRadixVector", "height", "(I)I"⟩ : MethodName)) ∈ gT := gT_at (i := 362) (by decide +kernel) (by decide +kernel)
theorem m_363 : (Cond.code (⟨"RelaxedRadixVector", "height", "(I)I"⟩ : MethodName) prog_1_method_18_code 2 (Option.some FieldType.int)) ∈ gT := gT_at (i := 363) (by decide +kernel) (by decide +kernel)
theorem m_364 : (Cond.methodLink "RelaxedRadixVectorLaw" 89 (⟨"RelaxedRadixVector", "nodes", "(I)I"⟩ : MethodName)) ∈ gT := gT_at (i := 364) (by decide +kernel) (by decide +kernel)
theorem m_365 : (Cond.instanceMethod (⟨"RelaxedRadixVector", "nodes", "(I)I"⟩ : MethodName)) ∈ gT := gT_at (i := 365) (by decide +kernel) (by decide +kernel)
theorem m_366 : (Cond.selects "RelaxedRadixVector" (⟨"RelaxedRadixVector", "nodes", "(I)I"⟩ : MethodName) (⟨"RelaxedRadixVector", "nodes", "(I)I"⟩ : MethodName)) ∈ gT := gT_at (i := 366) (by decide +kernel) (by decide +kernel)
theorem m_367 : (Cond.code (⟨"RelaxedRadixVector", "nodes", "(I)I"⟩ : MethodName) prog_1_method_19_code 2 (Option.some FieldType.int)) ∈ gT := gT_at (i := 367) (by decide +kernel) (by decide +kernel)
theorem m_368 : (Cond.methodLink "RelaxedRadixVector" 111 (⟨"RelaxedRadixVector$Tree", "countNodes", "()I"⟩ : MethodName)) ∈ gT := gT_at (i := 368) (by decide +kernel) (by decide +kernel)
theorem m_369 : (Cond.instanceMethod (⟨"RelaxedRadixVector$Tree", "countNodes", "()I"⟩ : MethodName)) ∈ gT := gT_at (i := 369) (by decide +kernel) (by decide +kernel)
theorem m_370 : (Cond.selects "RelaxedRadixVector$Tree" (⟨"RelaxedRadixVector$Tree", "countNodes", "()I"⟩ : MethodName) (⟨"RelaxedRadixVector$Tree", "countNodes", "()I"⟩ : MethodName)) ∈ gT := gT_at (i := 370) (by decide +kernel) (by decide +kernel)
theorem m_371 : (Cond.code (⟨"RelaxedRadixVector$Tree", "countNodes", "()I"⟩ : MethodName) prog_3_method_5_code 3 (Option.some FieldType.int)) ∈ gT := gT_at (i := 371) (by decide +kernel) (by decide +kernel)
theorem m_372 : (Cond.methodLink "RelaxedRadixVectorLaw" 93 (⟨"RelaxedRadixVector", "row", "(III)I"⟩ : MethodName)) ∈ gT := gT_at (i := 372) (by decide +kernel) (by decide +kernel)
theorem m_373 : (Cond.instanceMethod (⟨"RelaxedRadixVector", "row", "(III)I"⟩ : MethodName)) ∈ gT := gT_at (i := 373) (by decide +kernel) (by decide +kernel)
theorem m_374 : (Cond.selects "RelaxedRadixVector" (⟨"RelaxedRadixVector", "row", "(III)I"⟩ : MethodName) (⟨"RelaxedRadixVector", "row", "(III)I"⟩ : MethodName)) ∈ gT := gT_at (i := 374) (by decide +kernel) (by decide +kernel)
theorem m_375 : (Cond.code (⟨"RelaxedRadixVector", "row", "(III)I"⟩ : MethodName) prog_1_method_20_code 4 (Option.some FieldType.int)) ∈ gT := gT_at (i := 375) (by decide +kernel) (by decide +kernel)
theorem m_376 : (Cond.methodLink "RelaxedRadixVector" 114 (⟨"RelaxedRadixVector$Tree", "slotsOf", "(II)I"⟩ : MethodName)) ∈ gT := gT_at (i := 376) (by decide +kernel) (by decide +kernel)
theorem m_377 : (Cond.instanceMethod (⟨"RelaxedRadixVector$Tree", "slotsOf", "(II)I"⟩ : MethodName)) ∈ gT := gT_at (i := 377) (by decide +kernel) (by decide +kernel)
theorem m_378 : (Cond.selects "RelaxedRadixVector$Tree" (⟨"RelaxedRadixVector$Tree", "slotsOf", "(II)I"⟩ : MethodName) (⟨"RelaxedRadixVector$Tree", "slotsOf", "(II)I"⟩ : MethodName)) ∈ gT := gT_at (i := 378) (by decide +kernel) (by decide +kernel)
theorem m_379 : (Cond.code (⟨"RelaxedRadixVector$Tree", "slotsOf", "(II)I"⟩ : MethodName) prog_3_method_6_code 3 (Option.some FieldType.int)) ∈ gT := gT_at (i := 379) (by decide +kernel) (by decide +kernel)
theorem m_380 : (Cond.methodLink "RelaxedRadixVectorLaw" 97 (⟨"RelaxedRadixVector", "probes", "(II)I"⟩ : MethodName)) ∈ gT := gT_at (i := 380) (by decide +kernel) (by decide +kernel)
theorem m_381 : (Cond.instanceMethod (⟨"RelaxedRadixVector", "probes", "(II)I"⟩ : MethodName)) ∈ gT := gT_at (i := 381) (by decide +kernel) (by decide +kernel)
theorem m_382 : (Cond.selects "RelaxedRadixVector" (⟨"RelaxedRadixVector", "probes", "(II)I"⟩ : MethodName) (⟨"RelaxedRadixVector", "probes", "(II)I"⟩ : MethodName)) ∈ gT := gT_at (i := 382) (by decide +kernel) (by decide +kernel)
theorem m_383 : (Cond.code (⟨"RelaxedRadixVector", "probes", "(II)I"⟩ : MethodName) prog_1_method_21_code 3 (Option.some FieldType.int)) ∈ gT := gT_at (i := 383) (by decide +kernel) (by decide +kernel)
theorem m_384 : (Cond.methodLink "RelaxedRadixVector" 117 (⟨"RelaxedRadixVector$Tree", "missesOnTheWayTo", "(I)I"⟩ : MethodName)) ∈ gT := gT_at (i := 384) (by decide +kernel) (by decide +kernel)
theorem m_385 : (Cond.instanceMethod (⟨"RelaxedRadixVector$Tree", "missesOnTheWayTo", "(I)I"⟩ : MethodName)) ∈ gT := gT_at (i := 385) (by decide +kernel) (by decide +kernel)
theorem m_386 : (Cond.selects "RelaxedRadixVector$Tree" (⟨"RelaxedRadixVector$Tree", "missesOnTheWayTo", "(I)I"⟩ : MethodName) (⟨"RelaxedRadixVector$Tree", "missesOnTheWayTo", "(I)I"⟩ : MethodName)) ∈ gT := gT_at (i := 386) (by decide +kernel) (by decide +kernel)
theorem m_387 : (Cond.code (⟨"RelaxedRadixVector$Tree", "missesOnTheWayTo", "(I)I"⟩ : MethodName) prog_3_method_15_code 9 (Option.some FieldType.int)) ∈ gT := gT_at (i := 387) (by decide +kernel) (by decide +kernel)
theorem m_388 : (Cond.methodLink "RelaxedRadixVector$Tree" 83 (⟨"RelaxedRadixVector$Row", "sumBefore", "(I)I"⟩ : MethodName)) ∈ gT := gT_at (i := 388) (by decide +kernel) (by decide +kernel)
theorem m_389 : (Cond.methodLink "RelaxedRadixVector$Tree" 86 (⟨"RelaxedRadixVector$Tree", "firstPlaceUnder", "(II)I"⟩ : MethodName)) ∈ gT := gT_at (i := 389) (by decide +kernel) (by decide +kernel)
theorem m_391 : (Cond.instanceMethod (⟨"RelaxedRadixVector$Tree", "firstPlaceUnder", "(II)I"⟩ : MethodName)) ∈ gT := gT_at (i := 391) (by decide +kernel) (by decide +kernel)
theorem m_392 : (Cond.code (⟨"RelaxedRadixVector$Tree", "firstPlaceUnder", "(II)I"⟩ : MethodName) prog_3_method_16_code 5 (Option.some FieldType.int)) ∈ gT := gT_at (i := 392) (by decide +kernel) (by decide +kernel)
theorem m_393 : (Cond.classLink "RelaxedRadixVectorLaw" 10 "RelaxedRadixVectorModel") ∈ gT := gT_at (i := 393) (by decide +kernel) (by decide +kernel)
theorem m_394 : (Cond.instantiable "RelaxedRadixVectorModel" 14) ∈ gT := gT_at (i := 394) (by decide +kernel) (by decide +kernel)
theorem m_395 : (Cond.methodLink "RelaxedRadixVectorLaw" 12 (⟨"RelaxedRadixVectorModel", "<init>", "()V"⟩ : MethodName)) ∈ gT := gT_at (i := 395) (by decide +kernel) (by decide +kernel)
theorem m_396 : (Cond.instanceMethod (⟨"RelaxedRadixVectorModel", "<init>", "()V"⟩ : MethodName)) ∈ gT := gT_at (i := 396) (by decide +kernel) (by decide +kernel)
theorem m_397 : (Cond.code (⟨"RelaxedRadixVectorModel", "<init>", "()V"⟩ : MethodName) prog_5_method_1_code 1 (Option.none : Option FieldType)) ∈ gT := gT_at (i := 397) (by decide +kernel) (by decide +kernel)
theorem m_398 : (Cond.methodLink "RelaxedRadixVectorModel" 1 (⟨"java/lang/Object", "<init>", "()V"⟩ : MethodName)) ∈ gT := gT_at (i := 398) (by decide +kernel) (by decide +kernel)
theorem m_399 : (Cond.fieldLink "RelaxedRadixVectorModel" 7 "RelaxedRadixVectorModel" "element" "[I") ∈ gT := gT_at (i := 399) (by decide +kernel) (by decide +kernel)
theorem m_400 : (Cond.fieldLink "RelaxedRadixVectorModel" 13 "RelaxedRadixVectorModel" "slots" "[B") ∈ gT := gT_at (i := 400) (by decide +kernel) (by decide +kernel)
theorem m_401 : (Cond.fieldLink "RelaxedRadixVectorModel" 17 "RelaxedRadixVectorModel" "size" "[I") ∈ gT := gT_at (i := 401) (by decide +kernel) (by decide +kernel)
theorem m_402 : (Cond.fieldLink "RelaxedRadixVectorModel" 20 "RelaxedRadixVectorModel" "height" "[I") ∈ gT := gT_at (i := 402) (by decide +kernel) (by decide +kernel)
theorem m_403 : (Cond.fieldLink "RelaxedRadixVectorModel" 23 "RelaxedRadixVectorModel" "count" "[I") ∈ gT := gT_at (i := 403) (by decide +kernel) (by decide +kernel)
theorem m_404 : (Cond.fieldLink "RelaxedRadixVectorModel" 26 "RelaxedRadixVectorModel" "open" "[Z") ∈ gT := gT_at (i := 404) (by decide +kernel) (by decide +kernel)
theorem m_405 : (Cond.fieldLink "RelaxedRadixVectorModel" 30 "RelaxedRadixVectorModel" "made" "I") ∈ gT := gT_at (i := 405) (by decide +kernel) (by decide +kernel)
theorem m_406 : (Cond.fieldLink "RelaxedRadixVectorModel" 34 "RelaxedRadixVectorModel" "wElement" "[I") ∈ gT := gT_at (i := 406) (by decide +kernel) (by decide +kernel)
theorem m_407 : (Cond.fieldLink "RelaxedRadixVectorModel" 37 "RelaxedRadixVectorModel" "wSlots" "[I") ∈ gT := gT_at (i := 407) (by decide +kernel) (by decide +kernel)
theorem m_408 : (Cond.fieldLink "RelaxedRadixVectorModel" 40 "RelaxedRadixVectorModel" "wCount" "[I") ∈ gT := gT_at (i := 408) (by decide +kernel) (by decide +kernel)
theorem m_409 : (Cond.fieldLink "RelaxedRadixVectorModel" 43 "RelaxedRadixVectorModel" "wSize" "[I") ∈ gT := gT_at (i := 409) (by decide +kernel) (by decide +kernel)
theorem m_410 : (Cond.fieldLink "RelaxedRadixVectorModel" 46 "RelaxedRadixVectorModel" "wHeight" "[I") ∈ gT := gT_at (i := 410) (by decide +kernel) (by decide +kernel)
theorem m_411 : (Cond.fieldLink "RelaxedRadixVectorModel" 49 "RelaxedRadixVectorModel" "left" "[I") ∈ gT := gT_at (i := 411) (by decide +kernel) (by decide +kernel)
theorem m_412 : (Cond.fieldLink "RelaxedRadixVectorModel" 52 "RelaxedRadixVectorModel" "more" "[I") ∈ gT := gT_at (i := 412) (by decide +kernel) (by decide +kernel)
theorem m_413 : (Cond.laysFinal "RelaxedRadixVectorModel" "RelaxedRadixVectorModel" "element" "[I") ∈ gT := gT_at (i := 413) (by decide +kernel) (by decide +kernel)
theorem m_415 : (Cond.laysFinal "RelaxedRadixVectorModel" "RelaxedRadixVectorModel" "slots" "[B") ∈ gT := gT_at (i := 415) (by decide +kernel) (by decide +kernel)
theorem m_417 : (Cond.laysFinal "RelaxedRadixVectorModel" "RelaxedRadixVectorModel" "size" "[I") ∈ gT := gT_at (i := 417) (by decide +kernel) (by decide +kernel)
theorem m_419 : (Cond.laysFinal "RelaxedRadixVectorModel" "RelaxedRadixVectorModel" "height" "[I") ∈ gT := gT_at (i := 419) (by decide +kernel) (by decide +kernel)
theorem m_421 : (Cond.laysFinal "RelaxedRadixVectorModel" "RelaxedRadixVectorModel" "count" "[I") ∈ gT := gT_at (i := 421) (by decide +kernel) (by decide +kernel)
theorem m_423 : (Cond.laysFinal "RelaxedRadixVectorModel" "RelaxedRadixVectorModel" "open" "[Z") ∈ gT := gT_at (i := 423) (by decide +kernel) (by decide +kernel)
theorem m_425 : (Cond.lays "RelaxedRadixVectorModel" "RelaxedRadixVectorModel" "made" "I") ∈ gT := gT_at (i := 425) (by decide +kernel) (by decide +kernel)
theorem m_427 : (Cond.laysFinal "RelaxedRadixVectorModel" "RelaxedRadixVectorModel" "wElement" "[I") ∈ gT := gT_at (i := 427) (by decide +kernel) (by decide +kernel)
theorem m_429 : (Cond.laysFinal "RelaxedRadixVectorModel" "RelaxedRadixVectorModel" "wSlots" "[I") ∈ gT := gT_at (i := 429) (by decide +kernel) (by decide +kernel)
theorem m_431 : (Cond.laysFinal "RelaxedRadixVectorModel" "RelaxedRadixVectorModel" "wCount" "[I") ∈ gT := gT_at (i := 431) (by decide +kernel) (by decide +kernel)
theorem m_433 : (Cond.laysFinal "RelaxedRadixVectorModel" "RelaxedRadixVectorModel" "wSize" "[I") ∈ gT := gT_at (i := 433) (by decide +kernel) (by decide +kernel)
theorem m_435 : (Cond.laysFinal "RelaxedRadixVectorModel" "RelaxedRadixVectorModel" "wHeight" "[I") ∈ gT := gT_at (i := 435) (by decide +kernel) (by decide +kernel)
theorem m_437 : (Cond.laysFinal "RelaxedRadixVectorModel" "RelaxedRadixVectorModel" "left" "[I") ∈ gT := gT_at (i := 437) (by decide +kernel) (by decide +kernel)
theorem m_439 : (Cond.laysFinal "RelaxedRadixVectorModel" "RelaxedRadixVectorModel" "more" "[I") ∈ gT := gT_at (i := 439) (by decide +kernel) (by decide +kernel)
theorem m_441 : (Cond.superclass "RelaxedRadixVectorModel" "java/lang/Object") ∈ gT := gT_at (i := 441) (by decide +kernel) (by decide +kernel)
theorem m_442 : (Cond.arrayClass FieldType.byte) ∈ gT := gT_at (i := 442) (by decide +kernel) (by decide +kernel)
theorem m_443 : (Cond.methodLink "RelaxedRadixVectorLaw" 17 (⟨"RelaxedRadixVectorModel", "append", "(II)I"⟩ : MethodName)) ∈ gT := gT_at (i := 443) (by decide +kernel) (by decide +kernel)
theorem m_444 : (Cond.instanceMethod (⟨"RelaxedRadixVectorModel", "append", "(II)I"⟩ : MethodName)) ∈ gT := gT_at (i := 444) (by decide +kernel) (by decide +kernel)
theorem m_445 : (Cond.selects "RelaxedRadixVectorModel" (⟨"RelaxedRadixVectorModel", "append", "(II)I"⟩ : MethodName) (⟨"RelaxedRadixVectorModel", "append", "(II)I"⟩ : MethodName)) ∈ gT := gT_at (i := 445) (by decide +kernel) (by decide +kernel)
theorem m_446 : (Cond.code (⟨"RelaxedRadixVectorModel", "append", "(II)I"⟩ : MethodName) prog_5_method_17_code 3 (Option.some FieldType.int)) ∈ gT := gT_at (i := 446) (by decide +kernel) (by decide +kernel)
theorem m_447 : (Cond.methodLink "RelaxedRadixVectorModel" 100 (⟨"RelaxedRadixVectorModel", "grown", "(IIZ)I"⟩ : MethodName)) ∈ gT := gT_at (i := 447) (by decide +kernel) (by decide +kernel)
theorem m_449 : (Cond.instanceMethod (⟨"RelaxedRadixVectorModel", "grown", "(IIZ)I"⟩ : MethodName)) ∈ gT := gT_at (i := 449) (by decide +kernel) (by decide +kernel)
theorem m_450 : (Cond.code (⟨"RelaxedRadixVectorModel", "grown", "(IIZ)I"⟩ : MethodName) prog_5_method_16_code 4 (Option.some FieldType.int)) ∈ gT := gT_at (i := 450) (by decide +kernel) (by decide +kernel)
theorem m_451 : (Cond.methodLink "RelaxedRadixVectorModel" 86 (⟨"RelaxedRadixVectorModel", "frozen", "(I)Z"⟩ : MethodName)) ∈ gT := gT_at (i := 451) (by decide +kernel) (by decide +kernel)
theorem m_453 : (Cond.instanceMethod (⟨"RelaxedRadixVectorModel", "frozen", "(I)Z"⟩ : MethodName)) ∈ gT := gT_at (i := 453) (by decide +kernel) (by decide +kernel)
theorem m_454 : (Cond.code (⟨"RelaxedRadixVectorModel", "frozen", "(I)Z"⟩ : MethodName) prog_5_method_3_code 2 (Option.some FieldType.boolean)) ∈ gT := gT_at (i := 454) (by decide +kernel) (by decide +kernel)
theorem m_455 : (Cond.methodLink "RelaxedRadixVectorModel" 55 (⟨"RelaxedRadixVectorModel", "there", "(I)Z"⟩ : MethodName)) ∈ gT := gT_at (i := 455) (by decide +kernel) (by decide +kernel)
theorem m_457 : (Cond.instanceMethod (⟨"RelaxedRadixVectorModel", "there", "(I)Z"⟩ : MethodName)) ∈ gT := gT_at (i := 457) (by decide +kernel) (by decide +kernel)
theorem m_458 : (Cond.code (⟨"RelaxedRadixVectorModel", "there", "(I)Z"⟩ : MethodName) prog_5_method_2_code 2 (Option.some FieldType.boolean)) ∈ gT := gT_at (i := 458) (by decide +kernel) (by decide +kernel)
theorem m_459 : (Cond.methodLink "RelaxedRadixVectorModel" 89 (⟨"RelaxedRadixVectorModel", "load", "(II)V"⟩ : MethodName)) ∈ gT := gT_at (i := 459) (by decide +kernel) (by decide +kernel)
theorem m_461 : (Cond.instanceMethod (⟨"RelaxedRadixVectorModel", "load", "(II)V"⟩ : MethodName)) ∈ gT := gT_at (i := 461) (by decide +kernel) (by decide +kernel)
theorem m_462 : (Cond.code (⟨"RelaxedRadixVectorModel", "load", "(II)V"⟩ : MethodName) prog_5_method_4_code 6 (Option.none : Option FieldType)) ∈ gT := gT_at (i := 462) (by decide +kernel) (by decide +kernel)
theorem m_463 : (Cond.methodLink "RelaxedRadixVectorModel" 59 (⟨"RelaxedRadixVectorModel", "cell", "(III)I"⟩ : MethodName)) ∈ gT := gT_at (i := 463) (by decide +kernel) (by decide +kernel)
theorem m_464 : (Cond.static (⟨"RelaxedRadixVectorModel", "cell", "(III)I"⟩ : MethodName)) ∈ gT := gT_at (i := 464) (by decide +kernel) (by decide +kernel)
theorem m_465 : (Cond.code (⟨"RelaxedRadixVectorModel", "cell", "(III)I"⟩ : MethodName) prog_5_method_7_code 3 (Option.some FieldType.int)) ∈ gT := gT_at (i := 465) (by decide +kernel) (by decide +kernel)
theorem m_466 : (Cond.methodLink "RelaxedRadixVectorModel" 92 (⟨"RelaxedRadixVectorModel", "add", "(IIZ)V"⟩ : MethodName)) ∈ gT := gT_at (i := 466) (by decide +kernel) (by decide +kernel)
theorem m_468 : (Cond.instanceMethod (⟨"RelaxedRadixVectorModel", "add", "(IIZ)V"⟩ : MethodName)) ∈ gT := gT_at (i := 468) (by decide +kernel) (by decide +kernel)
theorem m_469 : (Cond.code (⟨"RelaxedRadixVectorModel", "add", "(IIZ)V"⟩ : MethodName) prog_5_method_10_code 9 (Option.none : Option FieldType)) ∈ gT := gT_at (i := 469) (by decide +kernel) (by decide +kernel)
theorem m_470 : (Cond.methodLink "RelaxedRadixVectorModel" 67 (⟨"RelaxedRadixVectorModel", "enter", "(IIII)V"⟩ : MethodName)) ∈ gT := gT_at (i := 470) (by decide +kernel) (by decide +kernel)
theorem m_472 : (Cond.instanceMethod (⟨"RelaxedRadixVectorModel", "enter", "(IIII)V"⟩ : MethodName)) ∈ gT := gT_at (i := 472) (by decide +kernel) (by decide +kernel)
theorem m_473 : (Cond.code (⟨"RelaxedRadixVectorModel", "enter", "(IIII)V"⟩ : MethodName) prog_5_method_8_code 7 (Option.none : Option FieldType)) ∈ gT := gT_at (i := 473) (by decide +kernel) (by decide +kernel)
theorem m_474 : (Cond.methodLink "RelaxedRadixVectorModel" 96 (⟨"RelaxedRadixVectorModel", "newVersion", "(I)I"⟩ : MethodName)) ∈ gT := gT_at (i := 474) (by decide +kernel) (by decide +kernel)
theorem m_476 : (Cond.instanceMethod (⟨"RelaxedRadixVectorModel", "newVersion", "(I)I"⟩ : MethodName)) ∈ gT := gT_at (i := 476) (by decide +kernel) (by decide +kernel)
theorem m_477 : (Cond.code (⟨"RelaxedRadixVectorModel", "newVersion", "(I)I"⟩ : MethodName) prog_5_method_6_code 2 (Option.some FieldType.int)) ∈ gT := gT_at (i := 477) (by decide +kernel) (by decide +kernel)
theorem m_478 : (Cond.methodLink "RelaxedRadixVectorModel" 63 (⟨"RelaxedRadixVectorModel", "store", "(II)V"⟩ : MethodName)) ∈ gT := gT_at (i := 478) (by decide +kernel) (by decide +kernel)
theorem m_480 : (Cond.instanceMethod (⟨"RelaxedRadixVectorModel", "store", "(II)V"⟩ : MethodName)) ∈ gT := gT_at (i := 480) (by decide +kernel) (by decide +kernel)
theorem m_481 : (Cond.code (⟨"RelaxedRadixVectorModel", "store", "(II)V"⟩ : MethodName) prog_5_method_5_code 6 (Option.none : Option FieldType)) ∈ gT := gT_at (i := 481) (by decide +kernel) (by decide +kernel)
theorem m_482 : (Cond.methodLink "RelaxedRadixVectorLaw" 21 (⟨"RelaxedRadixVectorModel", "prepend", "(II)I"⟩ : MethodName)) ∈ gT := gT_at (i := 482) (by decide +kernel) (by decide +kernel)
theorem m_483 : (Cond.instanceMethod (⟨"RelaxedRadixVectorModel", "prepend", "(II)I"⟩ : MethodName)) ∈ gT := gT_at (i := 483) (by decide +kernel) (by decide +kernel)
theorem m_484 : (Cond.selects "RelaxedRadixVectorModel" (⟨"RelaxedRadixVectorModel", "prepend", "(II)I"⟩ : MethodName) (⟨"RelaxedRadixVectorModel", "prepend", "(II)I"⟩ : MethodName)) ∈ gT := gT_at (i := 484) (by decide +kernel) (by decide +kernel)
theorem m_485 : (Cond.code (⟨"RelaxedRadixVectorModel", "prepend", "(II)I"⟩ : MethodName) prog_5_method_18_code 3 (Option.some FieldType.int)) ∈ gT := gT_at (i := 485) (by decide +kernel) (by decide +kernel)
theorem m_486 : (Cond.methodLink "RelaxedRadixVectorLaw" 26 (⟨"RelaxedRadixVectorModel", "set", "(III)I"⟩ : MethodName)) ∈ gT := gT_at (i := 486) (by decide +kernel) (by decide +kernel)
theorem m_487 : (Cond.instanceMethod (⟨"RelaxedRadixVectorModel", "set", "(III)I"⟩ : MethodName)) ∈ gT := gT_at (i := 487) (by decide +kernel) (by decide +kernel)
theorem m_488 : (Cond.selects "RelaxedRadixVectorModel" (⟨"RelaxedRadixVectorModel", "set", "(III)I"⟩ : MethodName) (⟨"RelaxedRadixVectorModel", "set", "(III)I"⟩ : MethodName)) ∈ gT := gT_at (i := 488) (by decide +kernel) (by decide +kernel)
theorem m_489 : (Cond.code (⟨"RelaxedRadixVectorModel", "set", "(III)I"⟩ : MethodName) prog_5_method_19_code 4 (Option.some FieldType.int)) ∈ gT := gT_at (i := 489) (by decide +kernel) (by decide +kernel)
theorem m_490 : (Cond.methodLink "RelaxedRadixVectorLaw" 30 (⟨"RelaxedRadixVectorModel", "concat", "(II)I"⟩ : MethodName)) ∈ gT := gT_at (i := 490) (by decide +kernel) (by decide +kernel)
theorem m_491 : (Cond.instanceMethod (⟨"RelaxedRadixVectorModel", "concat", "(II)I"⟩ : MethodName)) ∈ gT := gT_at (i := 491) (by decide +kernel) (by decide +kernel)
theorem m_492 : (Cond.selects "RelaxedRadixVectorModel" (⟨"RelaxedRadixVectorModel", "concat", "(II)I"⟩ : MethodName) (⟨"RelaxedRadixVectorModel", "concat", "(II)I"⟩ : MethodName)) ∈ gT := gT_at (i := 492) (by decide +kernel) (by decide +kernel)
theorem m_493 : (Cond.code (⟨"RelaxedRadixVectorModel", "concat", "(II)I"⟩ : MethodName) prog_5_method_20_code 3 (Option.some FieldType.int)) ∈ gT := gT_at (i := 493) (by decide +kernel) (by decide +kernel)
theorem m_494 : (Cond.methodLink "RelaxedRadixVectorModel" 104 (⟨"RelaxedRadixVectorModel", "join", "()V"⟩ : MethodName)) ∈ gT := gT_at (i := 494) (by decide +kernel) (by decide +kernel)
theorem m_496 : (Cond.instanceMethod (⟨"RelaxedRadixVectorModel", "join", "()V"⟩ : MethodName)) ∈ gT := gT_at (i := 496) (by decide +kernel) (by decide +kernel)
theorem m_497 : (Cond.code (⟨"RelaxedRadixVectorModel", "join", "()V"⟩ : MethodName) prog_5_method_14_code 8 (Option.none : Option FieldType)) ∈ gT := gT_at (i := 497) (by decide +kernel) (by decide +kernel)
theorem m_498 : (Cond.methodLink "RelaxedRadixVectorModel" 79 (⟨"RelaxedRadixVectorModel", "meet", "(II)I"⟩ : MethodName)) ∈ gT := gT_at (i := 498) (by decide +kernel) (by decide +kernel)
theorem m_500 : (Cond.instanceMethod (⟨"RelaxedRadixVectorModel", "meet", "(II)I"⟩ : MethodName)) ∈ gT := gT_at (i := 500) (by decide +kernel) (by decide +kernel)
theorem m_501 : (Cond.code (⟨"RelaxedRadixVectorModel", "meet", "(II)I"⟩ : MethodName) prog_5_method_15_code 11 (Option.some FieldType.int)) ∈ gT := gT_at (i := 501) (by decide +kernel) (by decide +kernel)
theorem m_502 : (Cond.methodLink "RelaxedRadixVectorModel" 83 (⟨"RelaxedRadixVectorModel", "pack", "(III)I"⟩ : MethodName)) ∈ gT := gT_at (i := 502) (by decide +kernel) (by decide +kernel)
theorem m_504 : (Cond.instanceMethod (⟨"RelaxedRadixVectorModel", "pack", "(III)I"⟩ : MethodName)) ∈ gT := gT_at (i := 504) (by decide +kernel) (by decide +kernel)
theorem m_505 : (Cond.code (⟨"RelaxedRadixVectorModel", "pack", "(III)I"⟩ : MethodName) prog_5_method_13_code 10 (Option.some FieldType.int)) ∈ gT := gT_at (i := 505) (by decide +kernel) (by decide +kernel)
theorem m_506 : (Cond.methodLink "RelaxedRadixVectorModel" 75 (⟨"RelaxedRadixVectorModel", "leave", "(III)V"⟩ : MethodName)) ∈ gT := gT_at (i := 506) (by decide +kernel) (by decide +kernel)
theorem m_508 : (Cond.instanceMethod (⟨"RelaxedRadixVectorModel", "leave", "(III)V"⟩ : MethodName)) ∈ gT := gT_at (i := 508) (by decide +kernel) (by decide +kernel)
theorem m_509 : (Cond.code (⟨"RelaxedRadixVectorModel", "leave", "(III)V"⟩ : MethodName) prog_5_method_9_code 6 (Option.none : Option FieldType)) ∈ gT := gT_at (i := 509) (by decide +kernel) (by decide +kernel)
theorem m_510 : (Cond.methodLink "RelaxedRadixVectorLaw" 34 (⟨"RelaxedRadixVectorModel", "slice", "(III)I"⟩ : MethodName)) ∈ gT := gT_at (i := 510) (by decide +kernel) (by decide +kernel)
theorem m_511 : (Cond.instanceMethod (⟨"RelaxedRadixVectorModel", "slice", "(III)I"⟩ : MethodName)) ∈ gT := gT_at (i := 511) (by decide +kernel) (by decide +kernel)
theorem m_512 : (Cond.selects "RelaxedRadixVectorModel" (⟨"RelaxedRadixVectorModel", "slice", "(III)I"⟩ : MethodName) (⟨"RelaxedRadixVectorModel", "slice", "(III)I"⟩ : MethodName)) ∈ gT := gT_at (i := 512) (by decide +kernel) (by decide +kernel)
theorem m_513 : (Cond.code (⟨"RelaxedRadixVectorModel", "slice", "(III)I"⟩ : MethodName) prog_5_method_21_code 4 (Option.some FieldType.int)) ∈ gT := gT_at (i := 513) (by decide +kernel) (by decide +kernel)
theorem m_514 : (Cond.methodLink "RelaxedRadixVectorModel" 107 (⟨"RelaxedRadixVectorModel", "cut", "(III)V"⟩ : MethodName)) ∈ gT := gT_at (i := 514) (by decide +kernel) (by decide +kernel)
theorem m_516 : (Cond.instanceMethod (⟨"RelaxedRadixVectorModel", "cut", "(III)V"⟩ : MethodName)) ∈ gT := gT_at (i := 516) (by decide +kernel) (by decide +kernel)
theorem m_517 : (Cond.code (⟨"RelaxedRadixVectorModel", "cut", "(III)V"⟩ : MethodName) prog_5_method_11_code 10 (Option.none : Option FieldType)) ∈ gT := gT_at (i := 517) (by decide +kernel) (by decide +kernel)
theorem m_518 : (Cond.methodLink "RelaxedRadixVectorModel" 71 (⟨"RelaxedRadixVectorModel", "lower", "(I)V"⟩ : MethodName)) ∈ gT := gT_at (i := 518) (by decide +kernel) (by decide +kernel)
theorem m_520 : (Cond.instanceMethod (⟨"RelaxedRadixVectorModel", "lower", "(I)V"⟩ : MethodName)) ∈ gT := gT_at (i := 520) (by decide +kernel) (by decide +kernel)
theorem m_521 : (Cond.code (⟨"RelaxedRadixVectorModel", "lower", "(I)V"⟩ : MethodName) prog_5_method_12_code 2 (Option.none : Option FieldType)) ∈ gT := gT_at (i := 521) (by decide +kernel) (by decide +kernel)
theorem m_522 : (Cond.methodLink "RelaxedRadixVectorLaw" 38 (⟨"RelaxedRadixVectorModel", "insertAt", "(III)I"⟩ : MethodName)) ∈ gT := gT_at (i := 522) (by decide +kernel) (by decide +kernel)
theorem m_523 : (Cond.instanceMethod (⟨"RelaxedRadixVectorModel", "insertAt", "(III)I"⟩ : MethodName)) ∈ gT := gT_at (i := 523) (by decide +kernel) (by decide +kernel)
theorem m_524 : (Cond.selects "RelaxedRadixVectorModel" (⟨"RelaxedRadixVectorModel", "insertAt", "(III)I"⟩ : MethodName) (⟨"RelaxedRadixVectorModel", "insertAt", "(III)I"⟩ : MethodName)) ∈ gT := gT_at (i := 524) (by decide +kernel) (by decide +kernel)
theorem m_525 : (Cond.code (⟨"RelaxedRadixVectorModel", "insertAt", "(III)I"⟩ : MethodName) prog_5_method_22_code 4 (Option.some FieldType.int)) ∈ gT := gT_at (i := 525) (by decide +kernel) (by decide +kernel)
theorem m_526 : (Cond.methodLink "RelaxedRadixVectorLaw" 42 (⟨"RelaxedRadixVectorModel", "removeAt", "(II)I"⟩ : MethodName)) ∈ gT := gT_at (i := 526) (by decide +kernel) (by decide +kernel)
theorem m_527 : (Cond.instanceMethod (⟨"RelaxedRadixVectorModel", "removeAt", "(II)I"⟩ : MethodName)) ∈ gT := gT_at (i := 527) (by decide +kernel) (by decide +kernel)
theorem m_528 : (Cond.selects "RelaxedRadixVectorModel" (⟨"RelaxedRadixVectorModel", "removeAt", "(II)I"⟩ : MethodName) (⟨"RelaxedRadixVectorModel", "removeAt", "(II)I"⟩ : MethodName)) ∈ gT := gT_at (i := 528) (by decide +kernel) (by decide +kernel)
theorem m_529 : (Cond.code (⟨"RelaxedRadixVectorModel", "removeAt", "(II)I"⟩ : MethodName) prog_5_method_23_code 3 (Option.some FieldType.int)) ∈ gT := gT_at (i := 529) (by decide +kernel) (by decide +kernel)
theorem m_530 : (Cond.methodLink "RelaxedRadixVectorLaw" 47 (⟨"RelaxedRadixVectorModel", "thaw", "(I)I"⟩ : MethodName)) ∈ gT := gT_at (i := 530) (by decide +kernel) (by decide +kernel)
theorem m_531 : (Cond.instanceMethod (⟨"RelaxedRadixVectorModel", "thaw", "(I)I"⟩ : MethodName)) ∈ gT := gT_at (i := 531) (by decide +kernel) (by decide +kernel)
theorem m_532 : (Cond.selects "RelaxedRadixVectorModel" (⟨"RelaxedRadixVectorModel", "thaw", "(I)I"⟩ : MethodName) (⟨"RelaxedRadixVectorModel", "thaw", "(I)I"⟩ : MethodName)) ∈ gT := gT_at (i := 532) (by decide +kernel) (by decide +kernel)
theorem m_533 : (Cond.code (⟨"RelaxedRadixVectorModel", "thaw", "(I)I"⟩ : MethodName) prog_5_method_24_code 3 (Option.some FieldType.int)) ∈ gT := gT_at (i := 533) (by decide +kernel) (by decide +kernel)
theorem m_534 : (Cond.methodLink "RelaxedRadixVectorLaw" 52 (⟨"RelaxedRadixVectorModel", "push", "(II)Z"⟩ : MethodName)) ∈ gT := gT_at (i := 534) (by decide +kernel) (by decide +kernel)
theorem m_535 : (Cond.instanceMethod (⟨"RelaxedRadixVectorModel", "push", "(II)Z"⟩ : MethodName)) ∈ gT := gT_at (i := 535) (by decide +kernel) (by decide +kernel)
theorem m_536 : (Cond.selects "RelaxedRadixVectorModel" (⟨"RelaxedRadixVectorModel", "push", "(II)Z"⟩ : MethodName) (⟨"RelaxedRadixVectorModel", "push", "(II)Z"⟩ : MethodName)) ∈ gT := gT_at (i := 536) (by decide +kernel) (by decide +kernel)
theorem m_537 : (Cond.code (⟨"RelaxedRadixVectorModel", "push", "(II)Z"⟩ : MethodName) prog_5_method_25_code 3 (Option.some FieldType.boolean)) ∈ gT := gT_at (i := 537) (by decide +kernel) (by decide +kernel)
theorem m_538 : (Cond.methodLink "RelaxedRadixVectorLaw" 57 (⟨"RelaxedRadixVectorModel", "put", "(III)Z"⟩ : MethodName)) ∈ gT := gT_at (i := 538) (by decide +kernel) (by decide +kernel)
theorem m_539 : (Cond.instanceMethod (⟨"RelaxedRadixVectorModel", "put", "(III)Z"⟩ : MethodName)) ∈ gT := gT_at (i := 539) (by decide +kernel) (by decide +kernel)
theorem m_540 : (Cond.selects "RelaxedRadixVectorModel" (⟨"RelaxedRadixVectorModel", "put", "(III)Z"⟩ : MethodName) (⟨"RelaxedRadixVectorModel", "put", "(III)Z"⟩ : MethodName)) ∈ gT := gT_at (i := 540) (by decide +kernel) (by decide +kernel)
theorem m_541 : (Cond.code (⟨"RelaxedRadixVectorModel", "put", "(III)Z"⟩ : MethodName) prog_5_method_26_code 4 (Option.some FieldType.boolean)) ∈ gT := gT_at (i := 541) (by decide +kernel) (by decide +kernel)
theorem m_542 : (Cond.methodLink "RelaxedRadixVectorLaw" 62 (⟨"RelaxedRadixVectorModel", "freeze", "(I)Z"⟩ : MethodName)) ∈ gT := gT_at (i := 542) (by decide +kernel) (by decide +kernel)
theorem m_543 : (Cond.instanceMethod (⟨"RelaxedRadixVectorModel", "freeze", "(I)Z"⟩ : MethodName)) ∈ gT := gT_at (i := 543) (by decide +kernel) (by decide +kernel)
theorem m_544 : (Cond.selects "RelaxedRadixVectorModel" (⟨"RelaxedRadixVectorModel", "freeze", "(I)Z"⟩ : MethodName) (⟨"RelaxedRadixVectorModel", "freeze", "(I)Z"⟩ : MethodName)) ∈ gT := gT_at (i := 544) (by decide +kernel) (by decide +kernel)
theorem m_545 : (Cond.code (⟨"RelaxedRadixVectorModel", "freeze", "(I)Z"⟩ : MethodName) prog_5_method_27_code 2 (Option.some FieldType.boolean)) ∈ gT := gT_at (i := 545) (by decide +kernel) (by decide +kernel)
theorem m_546 : (Cond.methodLink "RelaxedRadixVectorLaw" 67 (⟨"RelaxedRadixVectorModel", "versions", "()I"⟩ : MethodName)) ∈ gT := gT_at (i := 546) (by decide +kernel) (by decide +kernel)
theorem m_547 : (Cond.instanceMethod (⟨"RelaxedRadixVectorModel", "versions", "()I"⟩ : MethodName)) ∈ gT := gT_at (i := 547) (by decide +kernel) (by decide +kernel)
theorem m_548 : (Cond.selects "RelaxedRadixVectorModel" (⟨"RelaxedRadixVectorModel", "versions", "()I"⟩ : MethodName) (⟨"RelaxedRadixVectorModel", "versions", "()I"⟩ : MethodName)) ∈ gT := gT_at (i := 548) (by decide +kernel) (by decide +kernel)
theorem m_549 : (Cond.code (⟨"RelaxedRadixVectorModel", "versions", "()I"⟩ : MethodName) prog_5_method_28_code 1 (Option.some FieldType.int)) ∈ gT := gT_at (i := 549) (by decide +kernel) (by decide +kernel)
theorem m_550 : (Cond.methodLink "RelaxedRadixVectorLaw" 71 (⟨"RelaxedRadixVectorModel", "size", "(I)I"⟩ : MethodName)) ∈ gT := gT_at (i := 550) (by decide +kernel) (by decide +kernel)
theorem m_551 : (Cond.instanceMethod (⟨"RelaxedRadixVectorModel", "size", "(I)I"⟩ : MethodName)) ∈ gT := gT_at (i := 551) (by decide +kernel) (by decide +kernel)
theorem m_552 : (Cond.selects "RelaxedRadixVectorModel" (⟨"RelaxedRadixVectorModel", "size", "(I)I"⟩ : MethodName) (⟨"RelaxedRadixVectorModel", "size", "(I)I"⟩ : MethodName)) ∈ gT := gT_at (i := 552) (by decide +kernel) (by decide +kernel)
theorem m_553 : (Cond.code (⟨"RelaxedRadixVectorModel", "size", "(I)I"⟩ : MethodName) prog_5_method_29_code 2 (Option.some FieldType.int)) ∈ gT := gT_at (i := 553) (by decide +kernel) (by decide +kernel)
theorem m_554 : (Cond.methodLink "RelaxedRadixVectorLaw" 76 (⟨"RelaxedRadixVectorModel", "get", "(II)J"⟩ : MethodName)) ∈ gT := gT_at (i := 554) (by decide +kernel) (by decide +kernel)
theorem m_555 : (Cond.instanceMethod (⟨"RelaxedRadixVectorModel", "get", "(II)J"⟩ : MethodName)) ∈ gT := gT_at (i := 555) (by decide +kernel) (by decide +kernel)
theorem m_556 : (Cond.selects "RelaxedRadixVectorModel" (⟨"RelaxedRadixVectorModel", "get", "(II)J"⟩ : MethodName) (⟨"RelaxedRadixVectorModel", "get", "(II)J"⟩ : MethodName)) ∈ gT := gT_at (i := 556) (by decide +kernel) (by decide +kernel)
theorem m_557 : (Cond.code (⟨"RelaxedRadixVectorModel", "get", "(II)J"⟩ : MethodName) prog_5_method_30_code 3 (Option.some FieldType.long)) ∈ gT := gT_at (i := 557) (by decide +kernel) (by decide +kernel)
theorem m_558 : (Cond.constantLong "RelaxedRadixVectorModel" 110 (4294967296 : Int64)) ∈ gT := gT_at (i := 558) (by decide +kernel) (by decide +kernel)
theorem m_559 : (Cond.methodLink "RelaxedRadixVectorLaw" 80 (⟨"RelaxedRadixVectorModel", "hash", "(I)I"⟩ : MethodName)) ∈ gT := gT_at (i := 559) (by decide +kernel) (by decide +kernel)
theorem m_560 : (Cond.instanceMethod (⟨"RelaxedRadixVectorModel", "hash", "(I)I"⟩ : MethodName)) ∈ gT := gT_at (i := 560) (by decide +kernel) (by decide +kernel)
theorem m_561 : (Cond.selects "RelaxedRadixVectorModel" (⟨"RelaxedRadixVectorModel", "hash", "(I)I"⟩ : MethodName) (⟨"RelaxedRadixVectorModel", "hash", "(I)I"⟩ : MethodName)) ∈ gT := gT_at (i := 561) (by decide +kernel) (by decide +kernel)
theorem m_562 : (Cond.code (⟨"RelaxedRadixVectorModel", "hash", "(I)I"⟩ : MethodName) prog_5_method_31_code 4 (Option.some FieldType.int)) ∈ gT := gT_at (i := 562) (by decide +kernel) (by decide +kernel)
theorem m_563 : (Cond.methodLink "RelaxedRadixVectorLaw" 84 (⟨"RelaxedRadixVectorModel", "compare", "(II)I"⟩ : MethodName)) ∈ gT := gT_at (i := 563) (by decide +kernel) (by decide +kernel)
theorem m_564 : (Cond.instanceMethod (⟨"RelaxedRadixVectorModel", "compare", "(II)I"⟩ : MethodName)) ∈ gT := gT_at (i := 564) (by decide +kernel) (by decide +kernel)
theorem m_565 : (Cond.selects "RelaxedRadixVectorModel" (⟨"RelaxedRadixVectorModel", "compare", "(II)I"⟩ : MethodName) (⟨"RelaxedRadixVectorModel", "compare", "(II)I"⟩ : MethodName)) ∈ gT := gT_at (i := 565) (by decide +kernel) (by decide +kernel)
theorem m_566 : (Cond.code (⟨"RelaxedRadixVectorModel", "compare", "(II)I"⟩ : MethodName) prog_5_method_32_code 8 (Option.some FieldType.int)) ∈ gT := gT_at (i := 566) (by decide +kernel) (by decide +kernel)
theorem m_567 : (Cond.methodLink "RelaxedRadixVectorLaw" 88 (⟨"RelaxedRadixVectorModel", "height", "(I)I"⟩ : MethodName)) ∈ gT := gT_at (i := 567) (by decide +kernel) (by decide +kernel)
theorem m_568 : (Cond.instanceMethod (⟨"RelaxedRadixVectorModel", "height", "(I)I"⟩ : MethodName)) ∈ gT := gT_at (i := 568) (by decide +kernel) (by decide +kernel)
theorem m_569 : (Cond.selects "RelaxedRadixVectorModel" (⟨"RelaxedRadixVectorModel", "height", "(I)I"⟩ : MethodName) (⟨"RelaxedRadixVectorModel", "height", "(I)I"⟩ : MethodName)) ∈ gT := gT_at (i := 569) (by decide +kernel) (by decide +kernel)
theorem m_570 : (Cond.code (⟨"RelaxedRadixVectorModel", "height", "(I)I"⟩ : MethodName) prog_5_method_33_code 2 (Option.some FieldType.int)) ∈ gT := gT_at (i := 570) (by decide +kernel) (by decide +kernel)
theorem m_571 : (Cond.methodLink "RelaxedRadixVectorLaw" 92 (⟨"RelaxedRadixVectorModel", "nodes", "(I)I"⟩ : MethodName)) ∈ gT := gT_at (i := 571) (by decide +kernel) (by decide +kernel)
theorem m_572 : (Cond.instanceMethod (⟨"RelaxedRadixVectorModel", "nodes", "(I)I"⟩ : MethodName)) ∈ gT := gT_at (i := 572) (by decide +kernel) (by decide +kernel)
theorem m_573 : (Cond.selects "RelaxedRadixVectorModel" (⟨"RelaxedRadixVectorModel", "nodes", "(I)I"⟩ : MethodName) (⟨"RelaxedRadixVectorModel", "nodes", "(I)I"⟩ : MethodName)) ∈ gT := gT_at (i := 573) (by decide +kernel) (by decide +kernel)
theorem m_574 : (Cond.code (⟨"RelaxedRadixVectorModel", "nodes", "(I)I"⟩ : MethodName) prog_5_method_34_code 4 (Option.some FieldType.int)) ∈ gT := gT_at (i := 574) (by decide +kernel) (by decide +kernel)
theorem m_575 : (Cond.methodLink "RelaxedRadixVectorLaw" 96 (⟨"RelaxedRadixVectorModel", "row", "(III)I"⟩ : MethodName)) ∈ gT := gT_at (i := 575) (by decide +kernel) (by decide +kernel)
theorem m_576 : (Cond.instanceMethod (⟨"RelaxedRadixVectorModel", "row", "(III)I"⟩ : MethodName)) ∈ gT := gT_at (i := 576) (by decide +kernel) (by decide +kernel)
theorem m_577 : (Cond.selects "RelaxedRadixVectorModel" (⟨"RelaxedRadixVectorModel", "row", "(III)I"⟩ : MethodName) (⟨"RelaxedRadixVectorModel", "row", "(III)I"⟩ : MethodName)) ∈ gT := gT_at (i := 577) (by decide +kernel) (by decide +kernel)
theorem m_578 : (Cond.code (⟨"RelaxedRadixVectorModel", "row", "(III)I"⟩ : MethodName) prog_5_method_35_code 4 (Option.some FieldType.int)) ∈ gT := gT_at (i := 578) (by decide +kernel) (by decide +kernel)
theorem m_579 : (Cond.methodLink "RelaxedRadixVectorLaw" 100 (⟨"RelaxedRadixVectorModel", "probes", "(II)I"⟩ : MethodName)) ∈ gT := gT_at (i := 579) (by decide +kernel) (by decide +kernel)
theorem m_580 : (Cond.instanceMethod (⟨"RelaxedRadixVectorModel", "probes", "(II)I"⟩ : MethodName)) ∈ gT := gT_at (i := 580) (by decide +kernel) (by decide +kernel)
theorem m_581 : (Cond.selects "RelaxedRadixVectorModel" (⟨"RelaxedRadixVectorModel", "probes", "(II)I"⟩ : MethodName) (⟨"RelaxedRadixVectorModel", "probes", "(II)I"⟩ : MethodName)) ∈ gT := gT_at (i := 581) (by decide +kernel) (by decide +kernel)
theorem m_582 : (Cond.code (⟨"RelaxedRadixVectorModel", "probes", "(II)I"⟩ : MethodName) prog_5_method_38_code 10 (Option.some FieldType.int)) ∈ gT := gT_at (i := 582) (by decide +kernel) (by decide +kernel)
theorem m_583 : (Cond.methodLink "RelaxedRadixVectorModel" 115 (⟨"RelaxedRadixVectorModel", "holding", "(III)I"⟩ : MethodName)) ∈ gT := gT_at (i := 583) (by decide +kernel) (by decide +kernel)
theorem m_585 : (Cond.instanceMethod (⟨"RelaxedRadixVectorModel", "holding", "(III)I"⟩ : MethodName)) ∈ gT := gT_at (i := 585) (by decide +kernel) (by decide +kernel)
theorem m_586 : (Cond.code (⟨"RelaxedRadixVectorModel", "holding", "(III)I"⟩ : MethodName) prog_5_method_37_code 5 (Option.some FieldType.int)) ∈ gT := gT_at (i := 586) (by decide +kernel) (by decide +kernel)
theorem m_587 : (Cond.methodLink "RelaxedRadixVectorModel" 112 (⟨"RelaxedRadixVectorModel", "before", "(III)I"⟩ : MethodName)) ∈ gT := gT_at (i := 587) (by decide +kernel) (by decide +kernel)
theorem m_589 : (Cond.instanceMethod (⟨"RelaxedRadixVectorModel", "before", "(III)I"⟩ : MethodName)) ∈ gT := gT_at (i := 589) (by decide +kernel) (by decide +kernel)
theorem m_590 : (Cond.code (⟨"RelaxedRadixVectorModel", "before", "(III)I"⟩ : MethodName) prog_5_method_36_code 6 (Option.some FieldType.int)) ∈ gT := gT_at (i := 590) (by decide +kernel) (by decide +kernel)
theorem m_592 : (Cond.sameMethod "[Ljava/lang/Object;" "java/lang/Object" "getClass" "()Ljava/lang/Class;") ∈ gT := gT_at (i := 592) (by decide +kernel) (by decide +kernel)
theorem m_593 : (Cond.selects "[Ljava/lang/Object;" (⟨"java/lang/Object", "getClass", "()Ljava/lang/Class;"⟩ : MethodName) (⟨"java/lang/Object", "getClass", "()Ljava/lang/Class;"⟩ : MethodName)) ∈ gT := gT_at (i := 593) (by decide +kernel) (by decide +kernel)
theorem mp_0 : (Cond.selects "java/util/ArrayList" (⟨"java/util/ArrayList", "add", "(Ljava/lang/Object;[Ljava/lang/Object;I)V"⟩ : MethodName) (⟨"java/util/ArrayList", "add", "(Ljava/lang/Object;[Ljava/lang/Object;I)V"⟩ : MethodName)) ∈ gT := gT_pr (i := 0) (by decide +kernel) (by decide +kernel)
theorem mp_1 : (Cond.selects "java/util/ArrayList" (⟨"java/util/ArrayList", "grow", "()[Ljava/lang/Object;"⟩ : MethodName) (⟨"java/util/ArrayList", "grow", "()[Ljava/lang/Object;"⟩ : MethodName)) ∈ gT := gT_pr (i := 1) (by decide +kernel) (by decide +kernel)
theorem mp_2 : (Cond.selects "java/util/ArrayList" (⟨"java/util/ArrayList", "grow", "(I)[Ljava/lang/Object;"⟩ : MethodName) (⟨"java/util/ArrayList", "grow", "(I)[Ljava/lang/Object;"⟩ : MethodName)) ∈ gT := gT_pr (i := 2) (by decide +kernel) (by decide +kernel)
theorem mp_3 : (Cond.selects "RelaxedRadixVector" (⟨"RelaxedRadixVector", "refusalToGrow", "(II)I"⟩ : MethodName) (⟨"RelaxedRadixVector", "refusalToGrow", "(II)I"⟩ : MethodName)) ∈ gT := gT_pr (i := 3) (by decide +kernel) (by decide +kernel)
theorem mp_4 : (Cond.selects "RelaxedRadixVector" (⟨"RelaxedRadixVector", "isFrozen", "(I)Z"⟩ : MethodName) (⟨"RelaxedRadixVector", "isFrozen", "(I)Z"⟩ : MethodName)) ∈ gT := gT_pr (i := 4) (by decide +kernel) (by decide +kernel)
theorem mp_5 : (Cond.selects "RelaxedRadixVector" (⟨"RelaxedRadixVector", "isVersion", "(I)Z"⟩ : MethodName) (⟨"RelaxedRadixVector", "isVersion", "(I)Z"⟩ : MethodName)) ∈ gT := gT_pr (i := 5) (by decide +kernel) (by decide +kernel)
theorem mp_6 : (Cond.selects "RelaxedRadixVector" (⟨"RelaxedRadixVector", "isFull", "()Z"⟩ : MethodName) (⟨"RelaxedRadixVector", "isFull", "()Z"⟩ : MethodName)) ∈ gT := gT_pr (i := 6) (by decide +kernel) (by decide +kernel)
theorem mp_7 : (Cond.selects "RelaxedRadixVector$Tree" (⟨"RelaxedRadixVector$Tree", "setRootOnTop", "()V"⟩ : MethodName) (⟨"RelaxedRadixVector$Tree", "setRootOnTop", "()V"⟩ : MethodName)) ∈ gT := gT_pr (i := 7) (by decide +kernel) (by decide +kernel)
theorem mp_8 : (Cond.selects "RelaxedRadixVector" (⟨"RelaxedRadixVector", "keepResult", "()I"⟩ : MethodName) (⟨"RelaxedRadixVector", "keepResult", "()I"⟩ : MethodName)) ∈ gT := gT_pr (i := 8) (by decide +kernel) (by decide +kernel)
theorem mp_9 : (Cond.selects "RelaxedRadixVector" (⟨"RelaxedRadixVector", "isPlace", "(II)Z"⟩ : MethodName) (⟨"RelaxedRadixVector", "isPlace", "(II)Z"⟩ : MethodName)) ∈ gT := gT_pr (i := 9) (by decide +kernel) (by decide +kernel)
theorem mp_10 : (Cond.selects "RelaxedRadixVector$Tree" (⟨"RelaxedRadixVector$Tree", "meetRoots", "(LRelaxedRadixVector$Tree;LRelaxedRadixVector$Tree;)V"⟩ : MethodName) (⟨"RelaxedRadixVector$Tree", "meetRoots", "(LRelaxedRadixVector$Tree;LRelaxedRadixVector$Tree;)V"⟩ : MethodName)) ∈ gT := gT_pr (i := 10) (by decide +kernel) (by decide +kernel)
theorem mp_11 : (Cond.selects "RelaxedRadixVector$Row" (⟨"RelaxedRadixVector$Row", "saveOneNode", "(II)V"⟩ : MethodName) (⟨"RelaxedRadixVector$Row", "saveOneNode", "(II)V"⟩ : MethodName)) ∈ gT := gT_pr (i := 11) (by decide +kernel) (by decide +kernel)
theorem mp_12 : (Cond.selects "RelaxedRadixVector$Row" (⟨"RelaxedRadixVector$Row", "remove", "(I)V"⟩ : MethodName) (⟨"RelaxedRadixVector$Row", "remove", "(I)V"⟩ : MethodName)) ∈ gT := gT_pr (i := 12) (by decide +kernel) (by decide +kernel)
theorem mp_13 : (Cond.selects "RelaxedRadixVector" (⟨"RelaxedRadixVector", "isOpen", "(I)Z"⟩ : MethodName) (⟨"RelaxedRadixVector", "isOpen", "(I)Z"⟩ : MethodName)) ∈ gT := gT_pr (i := 13) (by decide +kernel) (by decide +kernel)
theorem mp_14 : (Cond.selects "RelaxedRadixVector$Tree" (⟨"RelaxedRadixVector$Tree", "firstPlaceUnder", "(II)I"⟩ : MethodName) (⟨"RelaxedRadixVector$Tree", "firstPlaceUnder", "(II)I"⟩ : MethodName)) ∈ gT := gT_pr (i := 14) (by decide +kernel) (by decide +kernel)
theorem mp_15 : (Cond.selects "RelaxedRadixVectorModel" (⟨"RelaxedRadixVectorModel", "grown", "(IIZ)I"⟩ : MethodName) (⟨"RelaxedRadixVectorModel", "grown", "(IIZ)I"⟩ : MethodName)) ∈ gT := gT_pr (i := 15) (by decide +kernel) (by decide +kernel)
theorem mp_16 : (Cond.selects "RelaxedRadixVectorModel" (⟨"RelaxedRadixVectorModel", "frozen", "(I)Z"⟩ : MethodName) (⟨"RelaxedRadixVectorModel", "frozen", "(I)Z"⟩ : MethodName)) ∈ gT := gT_pr (i := 16) (by decide +kernel) (by decide +kernel)
theorem mp_17 : (Cond.selects "RelaxedRadixVectorModel" (⟨"RelaxedRadixVectorModel", "there", "(I)Z"⟩ : MethodName) (⟨"RelaxedRadixVectorModel", "there", "(I)Z"⟩ : MethodName)) ∈ gT := gT_pr (i := 17) (by decide +kernel) (by decide +kernel)
theorem mp_18 : (Cond.selects "RelaxedRadixVectorModel" (⟨"RelaxedRadixVectorModel", "load", "(II)V"⟩ : MethodName) (⟨"RelaxedRadixVectorModel", "load", "(II)V"⟩ : MethodName)) ∈ gT := gT_pr (i := 18) (by decide +kernel) (by decide +kernel)
theorem mp_19 : (Cond.selects "RelaxedRadixVectorModel" (⟨"RelaxedRadixVectorModel", "add", "(IIZ)V"⟩ : MethodName) (⟨"RelaxedRadixVectorModel", "add", "(IIZ)V"⟩ : MethodName)) ∈ gT := gT_pr (i := 19) (by decide +kernel) (by decide +kernel)
theorem mp_20 : (Cond.selects "RelaxedRadixVectorModel" (⟨"RelaxedRadixVectorModel", "enter", "(IIII)V"⟩ : MethodName) (⟨"RelaxedRadixVectorModel", "enter", "(IIII)V"⟩ : MethodName)) ∈ gT := gT_pr (i := 20) (by decide +kernel) (by decide +kernel)
theorem mp_21 : (Cond.selects "RelaxedRadixVectorModel" (⟨"RelaxedRadixVectorModel", "newVersion", "(I)I"⟩ : MethodName) (⟨"RelaxedRadixVectorModel", "newVersion", "(I)I"⟩ : MethodName)) ∈ gT := gT_pr (i := 21) (by decide +kernel) (by decide +kernel)
theorem mp_22 : (Cond.selects "RelaxedRadixVectorModel" (⟨"RelaxedRadixVectorModel", "store", "(II)V"⟩ : MethodName) (⟨"RelaxedRadixVectorModel", "store", "(II)V"⟩ : MethodName)) ∈ gT := gT_pr (i := 22) (by decide +kernel) (by decide +kernel)
theorem mp_23 : (Cond.selects "RelaxedRadixVectorModel" (⟨"RelaxedRadixVectorModel", "join", "()V"⟩ : MethodName) (⟨"RelaxedRadixVectorModel", "join", "()V"⟩ : MethodName)) ∈ gT := gT_pr (i := 23) (by decide +kernel) (by decide +kernel)
theorem mp_24 : (Cond.selects "RelaxedRadixVectorModel" (⟨"RelaxedRadixVectorModel", "meet", "(II)I"⟩ : MethodName) (⟨"RelaxedRadixVectorModel", "meet", "(II)I"⟩ : MethodName)) ∈ gT := gT_pr (i := 24) (by decide +kernel) (by decide +kernel)
theorem mp_25 : (Cond.selects "RelaxedRadixVectorModel" (⟨"RelaxedRadixVectorModel", "pack", "(III)I"⟩ : MethodName) (⟨"RelaxedRadixVectorModel", "pack", "(III)I"⟩ : MethodName)) ∈ gT := gT_pr (i := 25) (by decide +kernel) (by decide +kernel)
theorem mp_26 : (Cond.selects "RelaxedRadixVectorModel" (⟨"RelaxedRadixVectorModel", "leave", "(III)V"⟩ : MethodName) (⟨"RelaxedRadixVectorModel", "leave", "(III)V"⟩ : MethodName)) ∈ gT := gT_pr (i := 26) (by decide +kernel) (by decide +kernel)
theorem mp_27 : (Cond.selects "RelaxedRadixVectorModel" (⟨"RelaxedRadixVectorModel", "cut", "(III)V"⟩ : MethodName) (⟨"RelaxedRadixVectorModel", "cut", "(III)V"⟩ : MethodName)) ∈ gT := gT_pr (i := 27) (by decide +kernel) (by decide +kernel)
theorem mp_28 : (Cond.selects "RelaxedRadixVectorModel" (⟨"RelaxedRadixVectorModel", "lower", "(I)V"⟩ : MethodName) (⟨"RelaxedRadixVectorModel", "lower", "(I)V"⟩ : MethodName)) ∈ gT := gT_pr (i := 28) (by decide +kernel) (by decide +kernel)
theorem mp_29 : (Cond.selects "RelaxedRadixVectorModel" (⟨"RelaxedRadixVectorModel", "holding", "(III)I"⟩ : MethodName) (⟨"RelaxedRadixVectorModel", "holding", "(III)I"⟩ : MethodName)) ∈ gT := gT_pr (i := 29) (by decide +kernel) (by decide +kernel)
theorem mp_30 : (Cond.selects "RelaxedRadixVectorModel" (⟨"RelaxedRadixVectorModel", "before", "(III)I"⟩ : MethodName) (⟨"RelaxedRadixVectorModel", "before", "(III)I"⟩ : MethodName)) ∈ gT := gT_pr (i := 30) (by decide +kernel) (by decide +kernel)
def gNw : List Cond := [(Cond.arrayOver (FieldType.object "RelaxedRadixVector$Row")), (Cond.fieldLinkNest "RelaxedRadixVector$Tree" 22 "RelaxedRadixVector$Row" "count" "I" "RelaxedRadixVector"), (Cond.fieldLinkNest "RelaxedRadixVector" 90 "RelaxedRadixVector$Tree" "height" "I" "RelaxedRadixVector"), (Cond.arrayOver (FieldType.object "java/lang/Object")), (Cond.castable "RelaxedRadixVector$Tree" "RelaxedRadixVector$Tree"), (Cond.castable "RelaxedRadixVector" "java/lang/Object"), (Cond.castable "RelaxedRadixVector$Tree" "java/lang/Object"), (Cond.castable "RelaxedRadixVector$Row" "java/lang/Object"), (Cond.castable "RelaxedRadixVectorModel" "java/lang/Object")]
theorem gNw_in : ∀ w ∈ gNw, w ∈ lw_tbl := List.forall_mem_cons.mpr ⟨List.mem_append_right _ (List.mem_of_getElem? (i := 55) (by decide +kernel)), List.forall_mem_cons.mpr ⟨List.mem_append_right _ (List.mem_of_getElem? (i := 63) (by decide +kernel)), List.forall_mem_cons.mpr ⟨List.mem_append_right _ (List.mem_of_getElem? (i := 72) (by decide +kernel)), List.forall_mem_cons.mpr ⟨List.mem_append_right _ (List.mem_of_getElem? (i := 120) (by decide +kernel)), List.forall_mem_cons.mpr ⟨List.mem_append_right _ (List.mem_of_getElem? (i := 591) (by decide +kernel)), List.forall_mem_cons.mpr ⟨List.mem_append_right _ (List.mem_of_getElem? (i := 595) (by decide +kernel)), List.forall_mem_cons.mpr ⟨List.mem_append_right _ (List.mem_of_getElem? (i := 596) (by decide +kernel)), List.forall_mem_cons.mpr ⟨List.mem_append_right _ (List.mem_of_getElem? (i := 597) (by decide +kernel)), List.forall_mem_cons.mpr ⟨List.mem_append_right _ (List.mem_of_getElem? (i := 598) (by decide +kernel)), fun _ h => absurd h List.not_mem_nil⟩⟩⟩⟩⟩⟩⟩⟩⟩
