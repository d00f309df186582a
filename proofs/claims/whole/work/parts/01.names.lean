/-! words: those of the tables that a contract may carry -/
section WW
def WALL : List Cond := lw_tbl.filter goodWord
theorem WALL_good : ∀ w ∈ WALL, goodWord w = true := fun w h => (List.mem_filter.mp h).2
theorem WALL_in : ∀ w ∈ WALL, w ∈ lw_tbl := fun w h => (List.mem_filter.mp h).1
theorem wm1 (i : Nat) {w : Cond} (h : tables_1_1[i]? = some w) (hg : goodWord w = true) : w ∈ WALL := List.mem_filter.mpr ⟨List.mem_append_right _ (List.mem_append_left _ (List.mem_of_getElem? h)), hg⟩
theorem wm2 (i : Nat) {w : Cond} (h : tables_1_2[i]? = some w) (hg : goodWord w = true) : w ∈ WALL := List.mem_filter.mpr ⟨List.mem_append_right _ (List.mem_append_right _ (List.mem_append_left _ (List.mem_of_getElem? h))), hg⟩
theorem wm3 (i : Nat) {w : Cond} (h : tables_1_3[i]? = some w) (hg : goodWord w = true) : w ∈ WALL := List.mem_filter.mpr ⟨List.mem_append_right _ (List.mem_append_right _ (List.mem_append_right _ (List.mem_append_left _ (List.mem_of_getElem? h)))), hg⟩
theorem wm4 (i : Nat) {w : Cond} (h : tables_1_4[i]? = some w) (hg : goodWord w = true) : w ∈ WALL := List.mem_filter.mpr ⟨List.mem_append_right _ (List.mem_append_right _ (List.mem_append_right _ (List.mem_append_right _ (List.mem_of_getElem? h)))), hg⟩
theorem wmp1 (i : Nat) {y : MethodName} {n : Nat} (h : lw_privs_1[i]? = some (y, n)) : Cond.selects y.cls y y ∈ WALL := List.mem_filter.mpr ⟨List.mem_append_left _ (List.mem_map.mpr ⟨(y, n), List.mem_append_left _ (List.mem_of_getElem? h), rfl⟩), rfl⟩
theorem wmp2 (i : Nat) {y : MethodName} {n : Nat} (h : lw_privs_2[i]? = some (y, n)) : Cond.selects y.cls y y ∈ WALL := List.mem_filter.mpr ⟨List.mem_append_left _ (List.mem_map.mpr ⟨(y, n), List.mem_append_right _ (List.mem_append_left _ (List.mem_of_getElem? h)), rfl⟩), rfl⟩
theorem wmp3 (i : Nat) {y : MethodName} {n : Nat} (h : lw_privs_3[i]? = some (y, n)) : Cond.selects y.cls y y ∈ WALL := List.mem_filter.mpr ⟨List.mem_append_left _ (List.mem_map.mpr ⟨(y, n), List.mem_append_right _ (List.mem_append_right _ (List.mem_of_getElem? h)), rfl⟩), rfl⟩
end WW
def R_T : String := "TreeRevisions"
def R_Tr : String := "TreeRevisions$Tree"
def R_Tx : String := "TreeRevisions$Transaction"
def R_N : String := "TreeRevisions$Node"
def R_Te : String := "TreeRevisions$Text"
def R_Rp : String := "TreeRevisions$Representation"
def R_Me : String := "TreeRevisions$Merge"
def R_P : String := "TreeRevisions$Path"
def R_M : String := "TreeRevisionsModel"
def R_L : String := "TreeRevisionsLaw"
def R_AL : String := "java/util/ArrayList"
def R_ABL : String := "java/util/AbstractList"
def R_ABC : String := "java/util/AbstractCollection"
def R_Ob : String := "java/util/Objects"
def R_Ar : String := "java/util/Arrays"
def R_AS : String := "jdk/internal/util/ArraysSupport"
def R_Pc : String := "jdk/internal/util/Preconditions"
def R_Ma : String := "java/lang/Math"
def R_O : String := "java/lang/Object"
def R_Sy : String := "java/lang/System"
def T_T : u_T := fun k => match k with
  | 0 => ("TreeRevisions", "revisions", "[LTreeRevisions$Tree;", true)
  | 1 => ("TreeRevisions", "transactions", "[LTreeRevisions$Transaction;", true)
  | 2 => ("TreeRevisions", "kept", "Ljava/util/ArrayList;", true)
  | 3 => ("TreeRevisions", "empty", "LTreeRevisions$Text;", true)
  | 4 => ("TreeRevisions", "newest", "I", false)
  | _ => ("TreeRevisions", "lastLine", "I", false)
def ty_T : Nat → FieldType := fun k => match k with
  | 0 => .array (.object "TreeRevisions$Tree")
  | 1 => .array (.object "TreeRevisions$Transaction")
  | 2 => .object "java/util/ArrayList"
  | 3 => .object "TreeRevisions$Text"
  | 4 => .int
  | _ => .int
def T_Tr : u_T := fun k => match k with
  | _ => ("TreeRevisions$Tree", "nodes", "[LTreeRevisions$Node;", true)
def ty_Tr : Nat → FieldType := fun k => match k with
  | _ => .array (.object "TreeRevisions$Node")
def T_Tx : u_T := fun k => match k with
  | 0 => ("TreeRevisions$Transaction", "tree", "LTreeRevisions$Tree;", true)
  | 1 => ("TreeRevisions$Transaction", "open", "Z", false)
  | _ => ("TreeRevisions$Transaction", "base", "I", false)
def ty_Tx : Nat → FieldType := fun k => match k with
  | 0 => .object "TreeRevisions$Tree"
  | 1 => .boolean
  | _ => .int
def T_N : u_T := fun k => match k with
  | 0 => ("TreeRevisions$Node", "line", "I", true)
  | 1 => ("TreeRevisions$Node", "directory", "Z", true)
  | 2 => ("TreeRevisions$Node", "text", "LTreeRevisions$Text;", false)
  | 3 => ("TreeRevisions$Node", "count", "I", false)
  | 4 => ("TreeRevisions$Node", "creation", "I", false)
  | 5 => ("TreeRevisions$Node", "predecessor", "LTreeRevisions$Node;", false)
  | 6 => ("TreeRevisions$Node", "sourceRevision", "I", false)
  | 7 => ("TreeRevisions$Node", "sourcePath", "I", false)
  | 8 => ("TreeRevisions$Node", "written", "Z", false)
  | _ => ("TreeRevisions$Node", "shown", "I", false)
def ty_N : Nat → FieldType := fun k => match k with
  | 0 => .int
  | 1 => .boolean
  | 2 => .object "TreeRevisions$Text"
  | 3 => .int
  | 4 => .int
  | 5 => .object "TreeRevisions$Node"
  | 6 => .int
  | 7 => .int
  | 8 => .boolean
  | _ => .int
def T_Te : u_T := fun k => match k with
  | 0 => ("TreeRevisions$Text", "digits", "J", true)
  | _ => ("TreeRevisions$Text", "size", "I", true)
def ty_Te : Nat → FieldType := fun k => match k with
  | 0 => .long
  | _ => .int
def T_Rp : u_T := fun k => match k with
  | 0 => ("TreeRevisions$Representation", "text", "LTreeRevisions$Text;", true)
  | 1 => ("TreeRevisions$Representation", "base", "I", true)
  | 2 => ("TreeRevisions$Representation", "chain", "I", true)
  | _ => ("TreeRevisions$Representation", "cost", "I", true)
def ty_Rp : Nat → FieldType := fun k => match k with
  | 0 => .object "TreeRevisions$Text"
  | 1 => .int
  | 2 => .int
  | _ => .int
def T_Me : u_T := fun k => match k with
  | 0 => ("TreeRevisions$Merge", "base", "LTreeRevisions$Tree;", true)
  | 1 => ("TreeRevisions$Merge", "youngest", "LTreeRevisions$Tree;", true)
  | _ => ("TreeRevisions$Merge", "own", "LTreeRevisions$Tree;", true)
def ty_Me : Nat → FieldType := fun k => match k with
  | 0 => .object "TreeRevisions$Tree"
  | 1 => .object "TreeRevisions$Tree"
  | _ => .object "TreeRevisions$Tree"
def T_AL : u_T := fun k => match k with
  | 0 => ("java/util/AbstractList", "modCount", "I", false)
  | 1 => ("java/util/ArrayList", "elementData", "[Ljava/lang/Object;", false)
  | _ => ("java/util/ArrayList", "size", "I", false)
def ty_AL : Nat → FieldType := fun k => match k with
  | 0 => .int
  | 1 => .array (.object "java/lang/Object")
  | _ => .int
def T_M : u_T := fun k => match k with
  | 0 => ("TreeRevisionsModel", "tree", "[S", true)
  | 1 => ("TreeRevisionsModel", "youngest", "I", false)
  | 2 => ("TreeRevisionsModel", "open", "[Z", true)
  | 3 => ("TreeRevisionsModel", "base", "[I", true)
  | 4 => ("TreeRevisionsModel", "nodes", "I", false)
  | 5 => ("TreeRevisionsModel", "lines", "I", false)
  | 6 => ("TreeRevisionsModel", "kind", "[B", true)
  | 7 => ("TreeRevisionsModel", "size", "[B", true)
  | 8 => ("TreeRevisionsModel", "wrote", "[Z", true)
  | 9 => ("TreeRevisionsModel", "text", "[J", true)
  | 10 => ("TreeRevisionsModel", "line", "[S", true)
  | 11 => ("TreeRevisionsModel", "count", "[S", true)
  | 12 => ("TreeRevisionsModel", "birth", "[B", true)
  | 13 => ("TreeRevisionsModel", "before", "[S", true)
  | 14 => ("TreeRevisionsModel", "source", "[S", true)
  | 15 => ("TreeRevisionsModel", "shows", "[S", true)
  | 16 => ("TreeRevisionsModel", "stores", "I", false)
  | 17 => ("TreeRevisionsModel", "storeText", "[J", true)
  | 18 => ("TreeRevisionsModel", "storeSize", "[B", true)
  | 19 => ("TreeRevisionsModel", "storeBase", "[S", true)
  | _ => ("TreeRevisionsModel", "storeChain", "[B", true)
def ty_M : Nat → FieldType := fun k => match k with
  | 0 => .array .short
  | 1 => .int
  | 2 => .array .boolean
  | 3 => .array .int
  | 4 => .int
  | 5 => .int
  | 6 => .array .byte
  | 7 => .array .byte
  | 8 => .array .boolean
  | 9 => .array .long
  | 10 => .array .short
  | 11 => .array .short
  | 12 => .array .byte
  | 13 => .array .short
  | 14 => .array .short
  | 15 => .array .short
  | 16 => .int
  | 17 => .array .long
  | 18 => .array .byte
  | 19 => .array .short
  | _ => .array .byte
abbrev vwCl : List vw_C := [(R_T, T_T, 6), (R_Tr, T_Tr, 1), (R_Tx, T_Tx, 3), (R_N, T_N, 10), (R_Te, T_Te, 2), (R_Rp, T_Rp, 4), (R_Me, T_Me, 3), (R_AL, T_AL, 3), (R_M, T_M, 21)]
def y_T_init : MethodName := ⟨R_T, "<init>", "()V"⟩
theorem ar_T_init : y_T_init.cls ≠ "java/lang/invoke/MethodHandle" ∧ y_T_init.cls ≠ "java/lang/invoke/VarHandle" ∧ (parseMethodDescriptor y_T_init.desc).map (fun d => d.parameters.length) = some 0 := by decide +kernel
def y_T_begin : MethodName := ⟨R_T, "begin", "(I)Z"⟩
theorem ar_T_begin : y_T_begin.cls ≠ "java/lang/invoke/MethodHandle" ∧ y_T_begin.cls ≠ "java/lang/invoke/VarHandle" ∧ (parseMethodDescriptor y_T_begin.desc).map (fun d => d.parameters.length) = some 1 := by decide +kernel
def y_T_make : MethodName := ⟨R_T, "make", "(IIZ)Z"⟩
theorem ar_T_make : y_T_make.cls ≠ "java/lang/invoke/MethodHandle" ∧ y_T_make.cls ≠ "java/lang/invoke/VarHandle" ∧ (parseMethodDescriptor y_T_make.desc).map (fun d => d.parameters.length) = some 3 := by decide +kernel
def y_T_remove : MethodName := ⟨R_T, "remove", "(II)Z"⟩
theorem ar_T_remove : y_T_remove.cls ≠ "java/lang/invoke/MethodHandle" ∧ y_T_remove.cls ≠ "java/lang/invoke/VarHandle" ∧ (parseMethodDescriptor y_T_remove.desc).map (fun d => d.parameters.length) = some 2 := by decide +kernel
def y_T_copy : MethodName := ⟨R_T, "copy", "(IIII)Z"⟩
theorem ar_T_copy : y_T_copy.cls ≠ "java/lang/invoke/MethodHandle" ∧ y_T_copy.cls ≠ "java/lang/invoke/VarHandle" ∧ (parseMethodDescriptor y_T_copy.desc).map (fun d => d.parameters.length) = some 4 := by decide +kernel
def y_T_write : MethodName := ⟨R_T, "write", "(IIJI)Z"⟩
theorem ar_T_write : y_T_write.cls ≠ "java/lang/invoke/MethodHandle" ∧ y_T_write.cls ≠ "java/lang/invoke/VarHandle" ∧ (parseMethodDescriptor y_T_write.desc).map (fun d => d.parameters.length) = some 4 := by decide +kernel
def y_T_commit : MethodName := ⟨R_T, "commit", "(I)I"⟩
theorem ar_T_commit : y_T_commit.cls ≠ "java/lang/invoke/MethodHandle" ∧ y_T_commit.cls ≠ "java/lang/invoke/VarHandle" ∧ (parseMethodDescriptor y_T_commit.desc).map (fun d => d.parameters.length) = some 1 := by decide +kernel
def y_T_abort : MethodName := ⟨R_T, "abort", "(I)Z"⟩
theorem ar_T_abort : y_T_abort.cls ≠ "java/lang/invoke/MethodHandle" ∧ y_T_abort.cls ≠ "java/lang/invoke/VarHandle" ∧ (parseMethodDescriptor y_T_abort.desc).map (fun d => d.parameters.length) = some 1 := by decide +kernel
def y_T_youngest : MethodName := ⟨R_T, "youngest", "()I"⟩
theorem ar_T_youngest : y_T_youngest.cls ≠ "java/lang/invoke/MethodHandle" ∧ y_T_youngest.cls ≠ "java/lang/invoke/VarHandle" ∧ (parseMethodDescriptor y_T_youngest.desc).map (fun d => d.parameters.length) = some 0 := by decide +kernel
def y_T_kind : MethodName := ⟨R_T, "kind", "(II)I"⟩
theorem ar_T_kind : y_T_kind.cls ≠ "java/lang/invoke/MethodHandle" ∧ y_T_kind.cls ≠ "java/lang/invoke/VarHandle" ∧ (parseMethodDescriptor y_T_kind.desc).map (fun d => d.parameters.length) = some 2 := by decide +kernel
def y_T_text : MethodName := ⟨R_T, "text", "(II)J"⟩
theorem ar_T_text : y_T_text.cls ≠ "java/lang/invoke/MethodHandle" ∧ y_T_text.cls ≠ "java/lang/invoke/VarHandle" ∧ (parseMethodDescriptor y_T_text.desc).map (fun d => d.parameters.length) = some 2 := by decide +kernel
def y_T_length : MethodName := ⟨R_T, "length", "(II)I"⟩
theorem ar_T_length : y_T_length.cls ≠ "java/lang/invoke/MethodHandle" ∧ y_T_length.cls ≠ "java/lang/invoke/VarHandle" ∧ (parseMethodDescriptor y_T_length.desc).map (fun d => d.parameters.length) = some 2 := by decide +kernel
def y_T_line : MethodName := ⟨R_T, "line", "(II)I"⟩
theorem ar_T_line : y_T_line.cls ≠ "java/lang/invoke/MethodHandle" ∧ y_T_line.cls ≠ "java/lang/invoke/VarHandle" ∧ (parseMethodDescriptor y_T_line.desc).map (fun d => d.parameters.length) = some 2 := by decide +kernel
def y_T_count : MethodName := ⟨R_T, "count", "(II)I"⟩
theorem ar_T_count : y_T_count.cls ≠ "java/lang/invoke/MethodHandle" ∧ y_T_count.cls ≠ "java/lang/invoke/VarHandle" ∧ (parseMethodDescriptor y_T_count.desc).map (fun d => d.parameters.length) = some 2 := by decide +kernel
def y_T_created : MethodName := ⟨R_T, "created", "(II)I"⟩
theorem ar_T_created : y_T_created.cls ≠ "java/lang/invoke/MethodHandle" ∧ y_T_created.cls ≠ "java/lang/invoke/VarHandle" ∧ (parseMethodDescriptor y_T_created.desc).map (fun d => d.parameters.length) = some 2 := by decide +kernel
def y_T_locate : MethodName := ⟨R_T, "locate", "(III)I"⟩
theorem ar_T_locate : y_T_locate.cls ≠ "java/lang/invoke/MethodHandle" ∧ y_T_locate.cls ≠ "java/lang/invoke/VarHandle" ∧ (parseMethodDescriptor y_T_locate.desc).map (fun d => d.parameters.length) = some 3 := by decide +kernel
def y_T_representation : MethodName := ⟨R_T, "representation", "(II)I"⟩
theorem ar_T_representation : y_T_representation.cls ≠ "java/lang/invoke/MethodHandle" ∧ y_T_representation.cls ≠ "java/lang/invoke/VarHandle" ∧ (parseMethodDescriptor y_T_representation.desc).map (fun d => d.parameters.length) = some 2 := by decide +kernel
def y_T_representations : MethodName := ⟨R_T, "representations", "()I"⟩
theorem ar_T_representations : y_T_representations.cls ≠ "java/lang/invoke/MethodHandle" ∧ y_T_representations.cls ≠ "java/lang/invoke/VarHandle" ∧ (parseMethodDescriptor y_T_representations.desc).map (fun d => d.parameters.length) = some 0 := by decide +kernel
def y_T_stored : MethodName := ⟨R_T, "stored", "(II)I"⟩
theorem ar_T_stored : y_T_stored.cls ≠ "java/lang/invoke/MethodHandle" ∧ y_T_stored.cls ≠ "java/lang/invoke/VarHandle" ∧ (parseMethodDescriptor y_T_stored.desc).map (fun d => d.parameters.length) = some 2 := by decide +kernel
def y_T_newLine : MethodName := ⟨R_T, "newLine", "()I"⟩
theorem ar_T_newLine : y_T_newLine.cls ≠ "java/lang/invoke/MethodHandle" ∧ y_T_newLine.cls ≠ "java/lang/invoke/VarHandle" ∧ (parseMethodDescriptor y_T_newLine.desc).map (fun d => d.parameters.length) = some 0 := by decide +kernel
def y_T_isRevision : MethodName := ⟨R_T, "isRevision", "(I)Z"⟩
theorem ar_T_isRevision : y_T_isRevision.cls ≠ "java/lang/invoke/MethodHandle" ∧ y_T_isRevision.cls ≠ "java/lang/invoke/VarHandle" ∧ (parseMethodDescriptor y_T_isRevision.desc).map (fun d => d.parameters.length) = some 1 := by decide +kernel
def y_T_openTransaction : MethodName := ⟨R_T, "openTransaction", "(I)LTreeRevisions$Transaction;"⟩
theorem ar_T_openTransaction : y_T_openTransaction.cls ≠ "java/lang/invoke/MethodHandle" ∧ y_T_openTransaction.cls ≠ "java/lang/invoke/VarHandle" ∧ (parseMethodDescriptor y_T_openTransaction.desc).map (fun d => d.parameters.length) = some 1 := by decide +kernel
def y_T_treeOf : MethodName := ⟨R_T, "treeOf", "(I)LTreeRevisions$Tree;"⟩
theorem ar_T_treeOf : y_T_treeOf.cls ≠ "java/lang/invoke/MethodHandle" ∧ y_T_treeOf.cls ≠ "java/lang/invoke/VarHandle" ∧ (parseMethodDescriptor y_T_treeOf.desc).map (fun d => d.parameters.length) = some 1 := by decide +kernel
def y_T_nodeAt : MethodName := ⟨R_T, "nodeAt", "(II)LTreeRevisions$Node;"⟩
theorem ar_T_nodeAt : y_T_nodeAt.cls ≠ "java/lang/invoke/MethodHandle" ∧ y_T_nodeAt.cls ≠ "java/lang/invoke/VarHandle" ∧ (parseMethodDescriptor y_T_nodeAt.desc).map (fun d => d.parameters.length) = some 2 := by decide +kernel
def y_T_kindOf : MethodName := ⟨R_T, "kindOf", "(LTreeRevisions$Node;)I"⟩
theorem ar_T_kindOf : y_T_kindOf.cls ≠ "java/lang/invoke/MethodHandle" ∧ y_T_kindOf.cls ≠ "java/lang/invoke/VarHandle" ∧ (parseMethodDescriptor y_T_kindOf.desc).map (fun d => d.parameters.length) = some 1 := by decide +kernel
def y_T_isOnLine : MethodName := ⟨R_T, "isOnLine", "(IILTreeRevisions$Node;)Z"⟩
theorem ar_T_isOnLine : y_T_isOnLine.cls ≠ "java/lang/invoke/MethodHandle" ∧ y_T_isOnLine.cls ≠ "java/lang/invoke/VarHandle" ∧ (parseMethodDescriptor y_T_isOnLine.desc).map (fun d => d.parameters.length) = some 3 := by decide +kernel
def y_T_settle : MethodName := ⟨R_T, "settle", "(LTreeRevisions$Tree;)V"⟩
theorem ar_T_settle : y_T_settle.cls ≠ "java/lang/invoke/MethodHandle" ∧ y_T_settle.cls ≠ "java/lang/invoke/VarHandle" ∧ (parseMethodDescriptor y_T_settle.desc).map (fun d => d.parameters.length) = some 1 := by decide +kernel
def y_T_keep : MethodName := ⟨R_T, "keep", "(LTreeRevisions$Node;)I"⟩
theorem ar_T_keep : y_T_keep.cls ≠ "java/lang/invoke/MethodHandle" ∧ y_T_keep.cls ≠ "java/lang/invoke/VarHandle" ∧ (parseMethodDescriptor y_T_keep.desc).map (fun d => d.parameters.length) = some 1 := by decide +kernel
def y_T_indexOfText : MethodName := ⟨R_T, "indexOfText", "(LTreeRevisions$Text;)I"⟩
theorem ar_T_indexOfText : y_T_indexOfText.cls ≠ "java/lang/invoke/MethodHandle" ∧ y_T_indexOfText.cls ≠ "java/lang/invoke/VarHandle" ∧ (parseMethodDescriptor y_T_indexOfText.desc).map (fun d => d.parameters.length) = some 1 := by decide +kernel
def y_T_baseFor : MethodName := ⟨R_T, "baseFor", "(LTreeRevisions$Node;)I"⟩
theorem ar_T_baseFor : y_T_baseFor.cls ≠ "java/lang/invoke/MethodHandle" ∧ y_T_baseFor.cls ≠ "java/lang/invoke/VarHandle" ∧ (parseMethodDescriptor y_T_baseFor.desc).map (fun d => d.parameters.length) = some 1 := by decide +kernel
def y_T_allowedChain : MethodName := ⟨R_T, "allowedChain", "(I)I"⟩
theorem ar_T_allowedChain : y_T_allowedChain.cls ≠ "java/lang/invoke/MethodHandle" ∧ y_T_allowedChain.cls ≠ "java/lang/invoke/VarHandle" ∧ (parseMethodDescriptor y_T_allowedChain.desc).map (fun d => d.parameters.length) = some 1 := by decide +kernel
def y_M_init : MethodName := ⟨R_M, "<init>", "()V"⟩
theorem ar_M_init : y_M_init.cls ≠ "java/lang/invoke/MethodHandle" ∧ y_M_init.cls ≠ "java/lang/invoke/VarHandle" ∧ (parseMethodDescriptor y_M_init.desc).map (fun d => d.parameters.length) = some 0 := by decide +kernel
def y_M_unit : MethodName := ⟨R_M, "unit", "(I)I"⟩
theorem ar_M_unit : y_M_unit.cls ≠ "java/lang/invoke/MethodHandle" ∧ y_M_unit.cls ≠ "java/lang/invoke/VarHandle" ∧ (parseMethodDescriptor y_M_unit.desc).map (fun d => d.parameters.length) = some 1 := by decide +kernel
def y_M_good : MethodName := ⟨R_M, "good", "(I)Z"⟩
theorem ar_M_good : y_M_good.cls ≠ "java/lang/invoke/MethodHandle" ∧ y_M_good.cls ≠ "java/lang/invoke/VarHandle" ∧ (parseMethodDescriptor y_M_good.desc).map (fun d => d.parameters.length) = some 1 := by decide +kernel
def y_M_depth : MethodName := ⟨R_M, "depth", "(I)I"⟩
theorem ar_M_depth : y_M_depth.cls ≠ "java/lang/invoke/MethodHandle" ∧ y_M_depth.cls ≠ "java/lang/invoke/VarHandle" ∧ (parseMethodDescriptor y_M_depth.desc).map (fun d => d.parameters.length) = some 1 := by decide +kernel
def y_M_parent : MethodName := ⟨R_M, "parent", "(I)I"⟩
theorem ar_M_parent : y_M_parent.cls ≠ "java/lang/invoke/MethodHandle" ∧ y_M_parent.cls ≠ "java/lang/invoke/VarHandle" ∧ (parseMethodDescriptor y_M_parent.desc).map (fun d => d.parameters.length) = some 1 := by decide +kernel
def y_M_under : MethodName := ⟨R_M, "under", "(II)Z"⟩
theorem ar_M_under : y_M_under.cls ≠ "java/lang/invoke/MethodHandle" ∧ y_M_under.cls ≠ "java/lang/invoke/VarHandle" ∧ (parseMethodDescriptor y_M_under.desc).map (fun d => d.parameters.length) = some 2 := by decide +kernel
def y_M_table : MethodName := ⟨R_M, "table", "(I)I"⟩
theorem ar_M_table : y_M_table.cls ≠ "java/lang/invoke/MethodHandle" ∧ y_M_table.cls ≠ "java/lang/invoke/VarHandle" ∧ (parseMethodDescriptor y_M_table.desc).map (fun d => d.parameters.length) = some 1 := by decide +kernel
def y_M_at : MethodName := ⟨R_M, "at", "(II)I"⟩
theorem ar_M_at : y_M_at.cls ≠ "java/lang/invoke/MethodHandle" ∧ y_M_at.cls ≠ "java/lang/invoke/VarHandle" ∧ (parseMethodDescriptor y_M_at.desc).map (fun d => d.parameters.length) = some 2 := by decide +kernel
def y_M_isOpen : MethodName := ⟨R_M, "isOpen", "(I)Z"⟩
theorem ar_M_isOpen : y_M_isOpen.cls ≠ "java/lang/invoke/MethodHandle" ∧ y_M_isOpen.cls ≠ "java/lang/invoke/VarHandle" ∧ (parseMethodDescriptor y_M_isOpen.desc).map (fun d => d.parameters.length) = some 1 := by decide +kernel
def y_M_fill : MethodName := ⟨R_M, "fill", "(II)V"⟩
theorem ar_M_fill : y_M_fill.cls ≠ "java/lang/invoke/MethodHandle" ∧ y_M_fill.cls ≠ "java/lang/invoke/VarHandle" ∧ (parseMethodDescriptor y_M_fill.desc).map (fun d => d.parameters.length) = some 2 := by decide +kernel
def y_M_begin : MethodName := ⟨R_M, "begin", "(I)Z"⟩
theorem ar_M_begin : y_M_begin.cls ≠ "java/lang/invoke/MethodHandle" ∧ y_M_begin.cls ≠ "java/lang/invoke/VarHandle" ∧ (parseMethodDescriptor y_M_begin.desc).map (fun d => d.parameters.length) = some 1 := by decide +kernel
def y_M_node : MethodName := ⟨R_M, "node", "(III)I"⟩
theorem ar_M_node : y_M_node.cls ≠ "java/lang/invoke/MethodHandle" ∧ y_M_node.cls ≠ "java/lang/invoke/VarHandle" ∧ (parseMethodDescriptor y_M_node.desc).map (fun d => d.parameters.length) = some 3 := by decide +kernel
def y_M_place : MethodName := ⟨R_M, "place", "(III)V"⟩
theorem ar_M_place : y_M_place.cls ≠ "java/lang/invoke/MethodHandle" ∧ y_M_place.cls ≠ "java/lang/invoke/VarHandle" ∧ (parseMethodDescriptor y_M_place.desc).map (fun d => d.parameters.length) = some 3 := by decide +kernel
def y_M_touch : MethodName := ⟨R_M, "touch", "(II)V"⟩
theorem ar_M_touch : y_M_touch.cls ≠ "java/lang/invoke/MethodHandle" ∧ y_M_touch.cls ≠ "java/lang/invoke/VarHandle" ∧ (parseMethodDescriptor y_M_touch.desc).map (fun d => d.parameters.length) = some 2 := by decide +kernel
def y_M_room : MethodName := ⟨R_M, "room", "(II)Z"⟩
theorem ar_M_room : y_M_room.cls ≠ "java/lang/invoke/MethodHandle" ∧ y_M_room.cls ≠ "java/lang/invoke/VarHandle" ∧ (parseMethodDescriptor y_M_room.desc).map (fun d => d.parameters.length) = some 2 := by decide +kernel
def y_M_make : MethodName := ⟨R_M, "make", "(IIZ)Z"⟩
theorem ar_M_make : y_M_make.cls ≠ "java/lang/invoke/MethodHandle" ∧ y_M_make.cls ≠ "java/lang/invoke/VarHandle" ∧ (parseMethodDescriptor y_M_make.desc).map (fun d => d.parameters.length) = some 3 := by decide +kernel
def y_M_remove : MethodName := ⟨R_M, "remove", "(II)Z"⟩
theorem ar_M_remove : y_M_remove.cls ≠ "java/lang/invoke/MethodHandle" ∧ y_M_remove.cls ≠ "java/lang/invoke/VarHandle" ∧ (parseMethodDescriptor y_M_remove.desc).map (fun d => d.parameters.length) = some 2 := by decide +kernel
def y_M_moved : MethodName := ⟨R_M, "moved", "(III)I"⟩
theorem ar_M_moved : y_M_moved.cls ≠ "java/lang/invoke/MethodHandle" ∧ y_M_moved.cls ≠ "java/lang/invoke/VarHandle" ∧ (parseMethodDescriptor y_M_moved.desc).map (fun d => d.parameters.length) = some 3 := by decide +kernel
def y_M_copy : MethodName := ⟨R_M, "copy", "(IIII)Z"⟩
theorem ar_M_copy : y_M_copy.cls ≠ "java/lang/invoke/MethodHandle" ∧ y_M_copy.cls ≠ "java/lang/invoke/VarHandle" ∧ (parseMethodDescriptor y_M_copy.desc).map (fun d => d.parameters.length) = some 4 := by decide +kernel
def y_M_write : MethodName := ⟨R_M, "write", "(IIJI)Z"⟩
theorem ar_M_write : y_M_write.cls ≠ "java/lang/invoke/MethodHandle" ∧ y_M_write.cls ≠ "java/lang/invoke/VarHandle" ∧ (parseMethodDescriptor y_M_write.desc).map (fun d => d.parameters.length) = some 4 := by decide +kernel
def y_M_way : MethodName := ⟨R_M, "way", "(II)I"⟩
theorem ar_M_way : y_M_way.cls ≠ "java/lang/invoke/MethodHandle" ∧ y_M_way.cls ≠ "java/lang/invoke/VarHandle" ∧ (parseMethodDescriptor y_M_way.desc).map (fun d => d.parameters.length) = some 2 := by decide +kernel
def y_M_take : MethodName := ⟨R_M, "take", "(II)V"⟩
theorem ar_M_take : y_M_take.cls ≠ "java/lang/invoke/MethodHandle" ∧ y_M_take.cls ≠ "java/lang/invoke/VarHandle" ∧ (parseMethodDescriptor y_M_take.desc).map (fun d => d.parameters.length) = some 2 := by decide +kernel
def y_M_join : MethodName := ⟨R_M, "join", "(II)V"⟩
theorem ar_M_join : y_M_join.cls ≠ "java/lang/invoke/MethodHandle" ∧ y_M_join.cls ≠ "java/lang/invoke/VarHandle" ∧ (parseMethodDescriptor y_M_join.desc).map (fun d => d.parameters.length) = some 2 := by decide +kernel
def y_M_settle : MethodName := ⟨R_M, "settle", "(IIIZ)V"⟩
theorem ar_M_settle : y_M_settle.cls ≠ "java/lang/invoke/MethodHandle" ∧ y_M_settle.cls ≠ "java/lang/invoke/VarHandle" ∧ (parseMethodDescriptor y_M_settle.desc).map (fun d => d.parameters.length) = some 4 := by decide +kernel
def y_M_merge : MethodName := ⟨R_M, "merge", "(IZ)I"⟩
theorem ar_M_merge : y_M_merge.cls ≠ "java/lang/invoke/MethodHandle" ∧ y_M_merge.cls ≠ "java/lang/invoke/VarHandle" ∧ (parseMethodDescriptor y_M_merge.desc).map (fun d => d.parameters.length) = some 2 := by decide +kernel
def y_M_commit : MethodName := ⟨R_M, "commit", "(I)I"⟩
theorem ar_M_commit : y_M_commit.cls ≠ "java/lang/invoke/MethodHandle" ∧ y_M_commit.cls ≠ "java/lang/invoke/VarHandle" ∧ (parseMethodDescriptor y_M_commit.desc).map (fun d => d.parameters.length) = some 1 := by decide +kernel
def y_M_allowed : MethodName := ⟨R_M, "allowed", "(I)I"⟩
theorem ar_M_allowed : y_M_allowed.cls ≠ "java/lang/invoke/MethodHandle" ∧ y_M_allowed.cls ≠ "java/lang/invoke/VarHandle" ∧ (parseMethodDescriptor y_M_allowed.desc).map (fun d => d.parameters.length) = some 1 := by decide +kernel
def y_M_store : MethodName := ⟨R_M, "store", "(I)V"⟩
theorem ar_M_store : y_M_store.cls ≠ "java/lang/invoke/MethodHandle" ∧ y_M_store.cls ≠ "java/lang/invoke/VarHandle" ∧ (parseMethodDescriptor y_M_store.desc).map (fun d => d.parameters.length) = some 1 := by decide +kernel
def y_M_abort : MethodName := ⟨R_M, "abort", "(I)Z"⟩
theorem ar_M_abort : y_M_abort.cls ≠ "java/lang/invoke/MethodHandle" ∧ y_M_abort.cls ≠ "java/lang/invoke/VarHandle" ∧ (parseMethodDescriptor y_M_abort.desc).map (fun d => d.parameters.length) = some 1 := by decide +kernel
def y_M_youngest : MethodName := ⟨R_M, "youngest", "()I"⟩
theorem ar_M_youngest : y_M_youngest.cls ≠ "java/lang/invoke/MethodHandle" ∧ y_M_youngest.cls ≠ "java/lang/invoke/VarHandle" ∧ (parseMethodDescriptor y_M_youngest.desc).map (fun d => d.parameters.length) = some 0 := by decide +kernel
def y_M_find : MethodName := ⟨R_M, "find", "(II)I"⟩
theorem ar_M_find : y_M_find.cls ≠ "java/lang/invoke/MethodHandle" ∧ y_M_find.cls ≠ "java/lang/invoke/VarHandle" ∧ (parseMethodDescriptor y_M_find.desc).map (fun d => d.parameters.length) = some 2 := by decide +kernel
def y_M_kind : MethodName := ⟨R_M, "kind", "(II)I"⟩
theorem ar_M_kind : y_M_kind.cls ≠ "java/lang/invoke/MethodHandle" ∧ y_M_kind.cls ≠ "java/lang/invoke/VarHandle" ∧ (parseMethodDescriptor y_M_kind.desc).map (fun d => d.parameters.length) = some 2 := by decide +kernel
def y_M_isFile : MethodName := ⟨R_M, "isFile", "(I)Z"⟩
theorem ar_M_isFile : y_M_isFile.cls ≠ "java/lang/invoke/MethodHandle" ∧ y_M_isFile.cls ≠ "java/lang/invoke/VarHandle" ∧ (parseMethodDescriptor y_M_isFile.desc).map (fun d => d.parameters.length) = some 1 := by decide +kernel
def y_M_text : MethodName := ⟨R_M, "text", "(II)J"⟩
theorem ar_M_text : y_M_text.cls ≠ "java/lang/invoke/MethodHandle" ∧ y_M_text.cls ≠ "java/lang/invoke/VarHandle" ∧ (parseMethodDescriptor y_M_text.desc).map (fun d => d.parameters.length) = some 2 := by decide +kernel
def y_M_length : MethodName := ⟨R_M, "length", "(II)I"⟩
theorem ar_M_length : y_M_length.cls ≠ "java/lang/invoke/MethodHandle" ∧ y_M_length.cls ≠ "java/lang/invoke/VarHandle" ∧ (parseMethodDescriptor y_M_length.desc).map (fun d => d.parameters.length) = some 2 := by decide +kernel
def y_M_line : MethodName := ⟨R_M, "line", "(II)I"⟩
theorem ar_M_line : y_M_line.cls ≠ "java/lang/invoke/MethodHandle" ∧ y_M_line.cls ≠ "java/lang/invoke/VarHandle" ∧ (parseMethodDescriptor y_M_line.desc).map (fun d => d.parameters.length) = some 2 := by decide +kernel
def y_M_count : MethodName := ⟨R_M, "count", "(II)I"⟩
theorem ar_M_count : y_M_count.cls ≠ "java/lang/invoke/MethodHandle" ∧ y_M_count.cls ≠ "java/lang/invoke/VarHandle" ∧ (parseMethodDescriptor y_M_count.desc).map (fun d => d.parameters.length) = some 2 := by decide +kernel
def y_M_created : MethodName := ⟨R_M, "created", "(II)I"⟩
theorem ar_M_created : y_M_created.cls ≠ "java/lang/invoke/MethodHandle" ∧ y_M_created.cls ≠ "java/lang/invoke/VarHandle" ∧ (parseMethodDescriptor y_M_created.desc).map (fun d => d.parameters.length) = some 2 := by decide +kernel
def y_M_copied : MethodName := ⟨R_M, "copied", "(II)I"⟩
theorem ar_M_copied : y_M_copied.cls ≠ "java/lang/invoke/MethodHandle" ∧ y_M_copied.cls ≠ "java/lang/invoke/VarHandle" ∧ (parseMethodDescriptor y_M_copied.desc).map (fun d => d.parameters.length) = some 2 := by decide +kernel
def y_M_locate : MethodName := ⟨R_M, "locate", "(III)I"⟩
theorem ar_M_locate : y_M_locate.cls ≠ "java/lang/invoke/MethodHandle" ∧ y_M_locate.cls ≠ "java/lang/invoke/VarHandle" ∧ (parseMethodDescriptor y_M_locate.desc).map (fun d => d.parameters.length) = some 3 := by decide +kernel
def y_M_representation : MethodName := ⟨R_M, "representation", "(II)I"⟩
theorem ar_M_representation : y_M_representation.cls ≠ "java/lang/invoke/MethodHandle" ∧ y_M_representation.cls ≠ "java/lang/invoke/VarHandle" ∧ (parseMethodDescriptor y_M_representation.desc).map (fun d => d.parameters.length) = some 2 := by decide +kernel
def y_M_representations : MethodName := ⟨R_M, "representations", "()I"⟩
theorem ar_M_representations : y_M_representations.cls ≠ "java/lang/invoke/MethodHandle" ∧ y_M_representations.cls ≠ "java/lang/invoke/VarHandle" ∧ (parseMethodDescriptor y_M_representations.desc).map (fun d => d.parameters.length) = some 0 := by decide +kernel
def y_M_digit : MethodName := ⟨R_M, "digit", "(JI)I"⟩
theorem ar_M_digit : y_M_digit.cls ≠ "java/lang/invoke/MethodHandle" ∧ y_M_digit.cls ≠ "java/lang/invoke/VarHandle" ∧ (parseMethodDescriptor y_M_digit.desc).map (fun d => d.parameters.length) = some 2 := by decide +kernel
def y_M_piece : MethodName := ⟨R_M, "piece", "(JIIJII)I"⟩
theorem ar_M_piece : y_M_piece.cls ≠ "java/lang/invoke/MethodHandle" ∧ y_M_piece.cls ≠ "java/lang/invoke/VarHandle" ∧ (parseMethodDescriptor y_M_piece.desc).map (fun d => d.parameters.length) = some 6 := by decide +kernel
def y_M_cost : MethodName := ⟨R_M, "cost", "(I)I"⟩
theorem ar_M_cost : y_M_cost.cls ≠ "java/lang/invoke/MethodHandle" ∧ y_M_cost.cls ≠ "java/lang/invoke/VarHandle" ∧ (parseMethodDescriptor y_M_cost.desc).map (fun d => d.parameters.length) = some 1 := by decide +kernel
def y_M_stored : MethodName := ⟨R_M, "stored", "(II)I"⟩
theorem ar_M_stored : y_M_stored.cls ≠ "java/lang/invoke/MethodHandle" ∧ y_M_stored.cls ≠ "java/lang/invoke/VarHandle" ∧ (parseMethodDescriptor y_M_stored.desc).map (fun d => d.parameters.length) = some 2 := by decide +kernel
def y_Me_init : MethodName := ⟨R_Me, "<init>", "(LTreeRevisions$Tree;LTreeRevisions$Tree;LTreeRevisions$Tree;)V"⟩
theorem ar_Me_init : y_Me_init.cls ≠ "java/lang/invoke/MethodHandle" ∧ y_Me_init.cls ≠ "java/lang/invoke/VarHandle" ∧ (parseMethodDescriptor y_Me_init.desc).map (fun d => d.parameters.length) = some 3 := by decide +kernel
def y_Me_conflictAt : MethodName := ⟨R_Me, "conflictAt", "(I)I"⟩
theorem ar_Me_conflictAt : y_Me_conflictAt.cls ≠ "java/lang/invoke/MethodHandle" ∧ y_Me_conflictAt.cls ≠ "java/lang/invoke/VarHandle" ∧ (parseMethodDescriptor y_Me_conflictAt.desc).map (fun d => d.parameters.length) = some 1 := by decide +kernel
def y_Me_mergeAt : MethodName := ⟨R_Me, "mergeAt", "(I)V"⟩
theorem ar_Me_mergeAt : y_Me_mergeAt.cls ≠ "java/lang/invoke/MethodHandle" ∧ y_Me_mergeAt.cls ≠ "java/lang/invoke/VarHandle" ∧ (parseMethodDescriptor y_Me_mergeAt.desc).map (fun d => d.parameters.length) = some 1 := by decide +kernel
def y_Me_isUnchangedIn : MethodName := ⟨R_Me, "isUnchangedIn", "(LTreeRevisions$Tree;I)Z"⟩
theorem ar_Me_isUnchangedIn : y_Me_isUnchangedIn.cls ≠ "java/lang/invoke/MethodHandle" ∧ y_Me_isUnchangedIn.cls ≠ "java/lang/invoke/VarHandle" ∧ (parseMethodDescriptor y_Me_isUnchangedIn.desc).map (fun d => d.parameters.length) = some 2 := by decide +kernel
def y_Me_isOneDirectory : MethodName := ⟨R_Me, "isOneDirectory", "(I)Z"⟩
theorem ar_Me_isOneDirectory : y_Me_isOneDirectory.cls ≠ "java/lang/invoke/MethodHandle" ∧ y_Me_isOneDirectory.cls ≠ "java/lang/invoke/VarHandle" ∧ (parseMethodDescriptor y_Me_isOneDirectory.desc).map (fun d => d.parameters.length) = some 1 := by decide +kernel
def y_N_init : MethodName := ⟨R_N, "<init>", "(IZLTreeRevisions$Text;)V"⟩
theorem ar_N_init : y_N_init.cls ≠ "java/lang/invoke/MethodHandle" ∧ y_N_init.cls ≠ "java/lang/invoke/VarHandle" ∧ (parseMethodDescriptor y_N_init.desc).map (fun d => d.parameters.length) = some 3 := by decide +kernel
def y_N_after : MethodName := ⟨R_N, "after", "(LTreeRevisions$Node;I)LTreeRevisions$Node;"⟩
theorem ar_N_after : y_N_after.cls ≠ "java/lang/invoke/MethodHandle" ∧ y_N_after.cls ≠ "java/lang/invoke/VarHandle" ∧ (parseMethodDescriptor y_N_after.desc).map (fun d => d.parameters.length) = some 2 := by decide +kernel
def y_N_follow : MethodName := ⟨R_N, "follow", "(LTreeRevisions$Node;)V"⟩
theorem ar_N_follow : y_N_follow.cls ≠ "java/lang/invoke/MethodHandle" ∧ y_N_follow.cls ≠ "java/lang/invoke/VarHandle" ∧ (parseMethodDescriptor y_N_follow.desc).map (fun d => d.parameters.length) = some 1 := by decide +kernel
def y_N_ancestor : MethodName := ⟨R_N, "ancestor", "(I)LTreeRevisions$Node;"⟩
theorem ar_N_ancestor : y_N_ancestor.cls ≠ "java/lang/invoke/MethodHandle" ∧ y_N_ancestor.cls ≠ "java/lang/invoke/VarHandle" ∧ (parseMethodDescriptor y_N_ancestor.desc).map (fun d => d.parameters.length) = some 1 := by decide +kernel
def y_P_isGood : MethodName := ⟨R_P, "isGood", "(I)Z"⟩
theorem ar_P_isGood : y_P_isGood.cls ≠ "java/lang/invoke/MethodHandle" ∧ y_P_isGood.cls ≠ "java/lang/invoke/VarHandle" ∧ (parseMethodDescriptor y_P_isGood.desc).map (fun d => d.parameters.length) = some 1 := by decide +kernel
def y_P_depthOf : MethodName := ⟨R_P, "depthOf", "(I)I"⟩
theorem ar_P_depthOf : y_P_depthOf.cls ≠ "java/lang/invoke/MethodHandle" ∧ y_P_depthOf.cls ≠ "java/lang/invoke/VarHandle" ∧ (parseMethodDescriptor y_P_depthOf.desc).map (fun d => d.parameters.length) = some 1 := by decide +kernel
def y_P_weightAt : MethodName := ⟨R_P, "weightAt", "(I)I"⟩
theorem ar_P_weightAt : y_P_weightAt.cls ≠ "java/lang/invoke/MethodHandle" ∧ y_P_weightAt.cls ≠ "java/lang/invoke/VarHandle" ∧ (parseMethodDescriptor y_P_weightAt.desc).map (fun d => d.parameters.length) = some 1 := by decide +kernel
def y_P_parentOf : MethodName := ⟨R_P, "parentOf", "(I)I"⟩
theorem ar_P_parentOf : y_P_parentOf.cls ≠ "java/lang/invoke/MethodHandle" ∧ y_P_parentOf.cls ≠ "java/lang/invoke/VarHandle" ∧ (parseMethodDescriptor y_P_parentOf.desc).map (fun d => d.parameters.length) = some 1 := by decide +kernel
def y_P_namesBelow : MethodName := ⟨R_P, "namesBelow", "(I)I"⟩
theorem ar_P_namesBelow : y_P_namesBelow.cls ≠ "java/lang/invoke/MethodHandle" ∧ y_P_namesBelow.cls ≠ "java/lang/invoke/VarHandle" ∧ (parseMethodDescriptor y_P_namesBelow.desc).map (fun d => d.parameters.length) = some 1 := by decide +kernel
def y_P_childOf : MethodName := ⟨R_P, "childOf", "(II)I"⟩
theorem ar_P_childOf : y_P_childOf.cls ≠ "java/lang/invoke/MethodHandle" ∧ y_P_childOf.cls ≠ "java/lang/invoke/VarHandle" ∧ (parseMethodDescriptor y_P_childOf.desc).map (fun d => d.parameters.length) = some 2 := by decide +kernel
def y_P_isAtOrBelow : MethodName := ⟨R_P, "isAtOrBelow", "(II)Z"⟩
theorem ar_P_isAtOrBelow : y_P_isAtOrBelow.cls ≠ "java/lang/invoke/MethodHandle" ∧ y_P_isAtOrBelow.cls ≠ "java/lang/invoke/VarHandle" ∧ (parseMethodDescriptor y_P_isAtOrBelow.desc).map (fun d => d.parameters.length) = some 2 := by decide +kernel
def y_P_moved : MethodName := ⟨R_P, "moved", "(III)I"⟩
theorem ar_P_moved : y_P_moved.cls ≠ "java/lang/invoke/MethodHandle" ∧ y_P_moved.cls ≠ "java/lang/invoke/VarHandle" ∧ (parseMethodDescriptor y_P_moved.desc).map (fun d => d.parameters.length) = some 3 := by decide +kernel
def y_Rp_init : MethodName := ⟨R_Rp, "<init>", "(LTreeRevisions$Text;III)V"⟩
theorem ar_Rp_init : y_Rp_init.cls ≠ "java/lang/invoke/MethodHandle" ∧ y_Rp_init.cls ≠ "java/lang/invoke/VarHandle" ∧ (parseMethodDescriptor y_Rp_init.desc).map (fun d => d.parameters.length) = some 4 := by decide +kernel
def y_Te_init : MethodName := ⟨R_Te, "<init>", "(JI)V"⟩
theorem ar_Te_init : y_Te_init.cls ≠ "java/lang/invoke/MethodHandle" ∧ y_Te_init.cls ≠ "java/lang/invoke/VarHandle" ∧ (parseMethodDescriptor y_Te_init.desc).map (fun d => d.parameters.length) = some 2 := by decide +kernel
def y_Te_isSameAs : MethodName := ⟨R_Te, "isSameAs", "(LTreeRevisions$Text;)Z"⟩
theorem ar_Te_isSameAs : y_Te_isSameAs.cls ≠ "java/lang/invoke/MethodHandle" ∧ y_Te_isSameAs.cls ≠ "java/lang/invoke/VarHandle" ∧ (parseMethodDescriptor y_Te_isSameAs.desc).map (fun d => d.parameters.length) = some 1 := by decide +kernel
def y_Te_digitAt : MethodName := ⟨R_Te, "digitAt", "(I)I"⟩
theorem ar_Te_digitAt : y_Te_digitAt.cls ≠ "java/lang/invoke/MethodHandle" ∧ y_Te_digitAt.cls ≠ "java/lang/invoke/VarHandle" ∧ (parseMethodDescriptor y_Te_digitAt.desc).map (fun d => d.parameters.length) = some 1 := by decide +kernel
def y_Te_costFrom : MethodName := ⟨R_Te, "costFrom", "(LTreeRevisions$Text;)I"⟩
theorem ar_Te_costFrom : y_Te_costFrom.cls ≠ "java/lang/invoke/MethodHandle" ∧ y_Te_costFrom.cls ≠ "java/lang/invoke/VarHandle" ∧ (parseMethodDescriptor y_Te_costFrom.desc).map (fun d => d.parameters.length) = some 1 := by decide +kernel
def y_Te_longestPiece : MethodName := ⟨R_Te, "longestPiece", "(ILTreeRevisions$Text;)I"⟩
theorem ar_Te_longestPiece : y_Te_longestPiece.cls ≠ "java/lang/invoke/MethodHandle" ∧ y_Te_longestPiece.cls ≠ "java/lang/invoke/VarHandle" ∧ (parseMethodDescriptor y_Te_longestPiece.desc).map (fun d => d.parameters.length) = some 2 := by decide +kernel
def y_Te_commonFrom : MethodName := ⟨R_Te, "commonFrom", "(ILTreeRevisions$Text;I)I"⟩
theorem ar_Te_commonFrom : y_Te_commonFrom.cls ≠ "java/lang/invoke/MethodHandle" ∧ y_Te_commonFrom.cls ≠ "java/lang/invoke/VarHandle" ∧ (parseMethodDescriptor y_Te_commonFrom.desc).map (fun d => d.parameters.length) = some 3 := by decide +kernel
def y_Tx_init : MethodName := ⟨R_Tx, "<init>", "()V"⟩
theorem ar_Tx_init : y_Tx_init.cls ≠ "java/lang/invoke/MethodHandle" ∧ y_Tx_init.cls ≠ "java/lang/invoke/VarHandle" ∧ (parseMethodDescriptor y_Tx_init.desc).map (fun d => d.parameters.length) = some 0 := by decide +kernel
def y_Tx_hasRoomAt : MethodName := ⟨R_Tx, "hasRoomAt", "(I)Z"⟩
theorem ar_Tx_hasRoomAt : y_Tx_hasRoomAt.cls ≠ "java/lang/invoke/MethodHandle" ∧ y_Tx_hasRoomAt.cls ≠ "java/lang/invoke/VarHandle" ∧ (parseMethodDescriptor y_Tx_hasRoomAt.desc).map (fun d => d.parameters.length) = some 1 := by decide +kernel
def y_Tx_add : MethodName := ⟨R_Tx, "add", "(ILTreeRevisions$Node;)V"⟩
theorem ar_Tx_add : y_Tx_add.cls ≠ "java/lang/invoke/MethodHandle" ∧ y_Tx_add.cls ≠ "java/lang/invoke/VarHandle" ∧ (parseMethodDescriptor y_Tx_add.desc).map (fun d => d.parameters.length) = some 2 := by decide +kernel
def y_Tx_overwrite : MethodName := ⟨R_Tx, "overwrite", "(ILTreeRevisions$Text;)V"⟩
theorem ar_Tx_overwrite : y_Tx_overwrite.cls ≠ "java/lang/invoke/MethodHandle" ∧ y_Tx_overwrite.cls ≠ "java/lang/invoke/VarHandle" ∧ (parseMethodDescriptor y_Tx_overwrite.desc).map (fun d => d.parameters.length) = some 2 := by decide +kernel
def y_Tx_touch : MethodName := ⟨R_Tx, "touch", "(I)V"⟩
theorem ar_Tx_touch : y_Tx_touch.cls ≠ "java/lang/invoke/MethodHandle" ∧ y_Tx_touch.cls ≠ "java/lang/invoke/VarHandle" ∧ (parseMethodDescriptor y_Tx_touch.desc).map (fun d => d.parameters.length) = some 1 := by decide +kernel
def y_Tr_init : MethodName := ⟨R_Tr, "<init>", "()V"⟩
theorem ar_Tr_init : y_Tr_init.cls ≠ "java/lang/invoke/MethodHandle" ∧ y_Tr_init.cls ≠ "java/lang/invoke/VarHandle" ∧ (parseMethodDescriptor y_Tr_init.desc).map (fun d => d.parameters.length) = some 0 := by decide +kernel
def y_Tr_at : MethodName := ⟨R_Tr, "at", "(I)LTreeRevisions$Node;"⟩
theorem ar_Tr_at : y_Tr_at.cls ≠ "java/lang/invoke/MethodHandle" ∧ y_Tr_at.cls ≠ "java/lang/invoke/VarHandle" ∧ (parseMethodDescriptor y_Tr_at.desc).map (fun d => d.parameters.length) = some 1 := by decide +kernel
def y_Tr_put : MethodName := ⟨R_Tr, "put", "(ILTreeRevisions$Node;)V"⟩
theorem ar_Tr_put : y_Tr_put.cls ≠ "java/lang/invoke/MethodHandle" ∧ y_Tr_put.cls ≠ "java/lang/invoke/VarHandle" ∧ (parseMethodDescriptor y_Tr_put.desc).map (fun d => d.parameters.length) = some 2 := by decide +kernel
def y_Tr_clear : MethodName := ⟨R_Tr, "clear", "(I)V"⟩
theorem ar_Tr_clear : y_Tr_clear.cls ≠ "java/lang/invoke/MethodHandle" ∧ y_Tr_clear.cls ≠ "java/lang/invoke/VarHandle" ∧ (parseMethodDescriptor y_Tr_clear.desc).map (fun d => d.parameters.length) = some 1 := by decide +kernel
def y_Tr_takeFrom : MethodName := ⟨R_Tr, "takeFrom", "(LTreeRevisions$Tree;I)V"⟩
theorem ar_Tr_takeFrom : y_Tr_takeFrom.cls ≠ "java/lang/invoke/MethodHandle" ∧ y_Tr_takeFrom.cls ≠ "java/lang/invoke/VarHandle" ∧ (parseMethodDescriptor y_Tr_takeFrom.desc).map (fun d => d.parameters.length) = some 2 := by decide +kernel
def y_Tr_graft : MethodName := ⟨R_Tr, "graft", "(LTreeRevisions$Tree;II)V"⟩
theorem ar_Tr_graft : y_Tr_graft.cls ≠ "java/lang/invoke/MethodHandle" ∧ y_Tr_graft.cls ≠ "java/lang/invoke/VarHandle" ∧ (parseMethodDescriptor y_Tr_graft.desc).map (fun d => d.parameters.length) = some 3 := by decide +kernel
def y_Tr_heightOf : MethodName := ⟨R_Tr, "heightOf", "(I)I"⟩
theorem ar_Tr_heightOf : y_Tr_heightOf.cls ≠ "java/lang/invoke/MethodHandle" ∧ y_Tr_heightOf.cls ≠ "java/lang/invoke/VarHandle" ∧ (parseMethodDescriptor y_Tr_heightOf.desc).map (fun d => d.parameters.length) = some 1 := by decide +kernel
def y_Tr_copyAbove : MethodName := ⟨R_Tr, "copyAbove", "(II)I"⟩
theorem ar_Tr_copyAbove : y_Tr_copyAbove.cls ≠ "java/lang/invoke/MethodHandle" ∧ y_Tr_copyAbove.cls ≠ "java/lang/invoke/VarHandle" ∧ (parseMethodDescriptor y_Tr_copyAbove.desc).map (fun d => d.parameters.length) = some 2 := by decide +kernel
def y_O_init : MethodName := ⟨R_O, "<init>", "()V"⟩
theorem ar_O_init : y_O_init.cls ≠ "java/lang/invoke/MethodHandle" ∧ y_O_init.cls ≠ "java/lang/invoke/VarHandle" ∧ (parseMethodDescriptor y_O_init.desc).map (fun d => d.parameters.length) = some 0 := by decide +kernel
def y_AL_init : MethodName := ⟨R_AL, "<init>", "()V"⟩
theorem ar_AL_init : y_AL_init.cls ≠ "java/lang/invoke/MethodHandle" ∧ y_AL_init.cls ≠ "java/lang/invoke/VarHandle" ∧ (parseMethodDescriptor y_AL_init.desc).map (fun d => d.parameters.length) = some 0 := by decide +kernel
def y_ABL_init : MethodName := ⟨R_ABL, "<init>", "()V"⟩
theorem ar_ABL_init : y_ABL_init.cls ≠ "java/lang/invoke/MethodHandle" ∧ y_ABL_init.cls ≠ "java/lang/invoke/VarHandle" ∧ (parseMethodDescriptor y_ABL_init.desc).map (fun d => d.parameters.length) = some 0 := by decide +kernel
def y_ABC_init : MethodName := ⟨R_ABC, "<init>", "()V"⟩
theorem ar_ABC_init : y_ABC_init.cls ≠ "java/lang/invoke/MethodHandle" ∧ y_ABC_init.cls ≠ "java/lang/invoke/VarHandle" ∧ (parseMethodDescriptor y_ABC_init.desc).map (fun d => d.parameters.length) = some 0 := by decide +kernel
def y_Ma_max : MethodName := ⟨R_Ma, "max", "(II)I"⟩
theorem ar_Ma_max : y_Ma_max.cls ≠ "java/lang/invoke/MethodHandle" ∧ y_Ma_max.cls ≠ "java/lang/invoke/VarHandle" ∧ (parseMethodDescriptor y_Ma_max.desc).map (fun d => d.parameters.length) = some 2 := by decide +kernel
def y_AL_size : MethodName := ⟨R_AL, "size", "()I"⟩
theorem ar_AL_size : y_AL_size.cls ≠ "java/lang/invoke/MethodHandle" ∧ y_AL_size.cls ≠ "java/lang/invoke/VarHandle" ∧ (parseMethodDescriptor y_AL_size.desc).map (fun d => d.parameters.length) = some 0 := by decide +kernel
def y_AL_get : MethodName := ⟨R_AL, "get", "(I)Ljava/lang/Object;"⟩
theorem ar_AL_get : y_AL_get.cls ≠ "java/lang/invoke/MethodHandle" ∧ y_AL_get.cls ≠ "java/lang/invoke/VarHandle" ∧ (parseMethodDescriptor y_AL_get.desc).map (fun d => d.parameters.length) = some 1 := by decide +kernel
def y_Ob_checkIndex : MethodName := ⟨R_Ob, "checkIndex", "(II)I"⟩
theorem ar_Ob_checkIndex : y_Ob_checkIndex.cls ≠ "java/lang/invoke/MethodHandle" ∧ y_Ob_checkIndex.cls ≠ "java/lang/invoke/VarHandle" ∧ (parseMethodDescriptor y_Ob_checkIndex.desc).map (fun d => d.parameters.length) = some 2 := by decide +kernel
def y_Pc_checkIndex : MethodName := ⟨R_Pc, "checkIndex", "(IILjava/util/function/BiFunction;)I"⟩
theorem ar_Pc_checkIndex : y_Pc_checkIndex.cls ≠ "java/lang/invoke/MethodHandle" ∧ y_Pc_checkIndex.cls ≠ "java/lang/invoke/VarHandle" ∧ (parseMethodDescriptor y_Pc_checkIndex.desc).map (fun d => d.parameters.length) = some 3 := by decide +kernel
def y_AL_elementData : MethodName := ⟨R_AL, "elementData", "(I)Ljava/lang/Object;"⟩
theorem ar_AL_elementData : y_AL_elementData.cls ≠ "java/lang/invoke/MethodHandle" ∧ y_AL_elementData.cls ≠ "java/lang/invoke/VarHandle" ∧ (parseMethodDescriptor y_AL_elementData.desc).map (fun d => d.parameters.length) = some 1 := by decide +kernel
def y_AL_add : MethodName := ⟨R_AL, "add", "(Ljava/lang/Object;)Z"⟩
theorem ar_AL_add : y_AL_add.cls ≠ "java/lang/invoke/MethodHandle" ∧ y_AL_add.cls ≠ "java/lang/invoke/VarHandle" ∧ (parseMethodDescriptor y_AL_add.desc).map (fun d => d.parameters.length) = some 1 := by decide +kernel
def y_AL_add2 : MethodName := ⟨R_AL, "add", "(Ljava/lang/Object;[Ljava/lang/Object;I)V"⟩
theorem ar_AL_add2 : y_AL_add2.cls ≠ "java/lang/invoke/MethodHandle" ∧ y_AL_add2.cls ≠ "java/lang/invoke/VarHandle" ∧ (parseMethodDescriptor y_AL_add2.desc).map (fun d => d.parameters.length) = some 3 := by decide +kernel
def y_AL_grow : MethodName := ⟨R_AL, "grow", "()[Ljava/lang/Object;"⟩
theorem ar_AL_grow : y_AL_grow.cls ≠ "java/lang/invoke/MethodHandle" ∧ y_AL_grow.cls ≠ "java/lang/invoke/VarHandle" ∧ (parseMethodDescriptor y_AL_grow.desc).map (fun d => d.parameters.length) = some 0 := by decide +kernel
def y_AL_grow2 : MethodName := ⟨R_AL, "grow", "(I)[Ljava/lang/Object;"⟩
theorem ar_AL_grow2 : y_AL_grow2.cls ≠ "java/lang/invoke/MethodHandle" ∧ y_AL_grow2.cls ≠ "java/lang/invoke/VarHandle" ∧ (parseMethodDescriptor y_AL_grow2.desc).map (fun d => d.parameters.length) = some 1 := by decide +kernel
def y_AS_newLength : MethodName := ⟨R_AS, "newLength", "(III)I"⟩
theorem ar_AS_newLength : y_AS_newLength.cls ≠ "java/lang/invoke/MethodHandle" ∧ y_AS_newLength.cls ≠ "java/lang/invoke/VarHandle" ∧ (parseMethodDescriptor y_AS_newLength.desc).map (fun d => d.parameters.length) = some 3 := by decide +kernel
def y_AS_hugeLength : MethodName := ⟨R_AS, "hugeLength", "(II)I"⟩
theorem ar_AS_hugeLength : y_AS_hugeLength.cls ≠ "java/lang/invoke/MethodHandle" ∧ y_AS_hugeLength.cls ≠ "java/lang/invoke/VarHandle" ∧ (parseMethodDescriptor y_AS_hugeLength.desc).map (fun d => d.parameters.length) = some 2 := by decide +kernel
def y_Ar_copyOf : MethodName := ⟨R_Ar, "copyOf", "([Ljava/lang/Object;I)[Ljava/lang/Object;"⟩
theorem ar_Ar_copyOf : y_Ar_copyOf.cls ≠ "java/lang/invoke/MethodHandle" ∧ y_Ar_copyOf.cls ≠ "java/lang/invoke/VarHandle" ∧ (parseMethodDescriptor y_Ar_copyOf.desc).map (fun d => d.parameters.length) = some 2 := by decide +kernel
def y_Ar_copyOf2 : MethodName := ⟨R_Ar, "copyOf", "([Ljava/lang/Object;ILjava/lang/Class;)[Ljava/lang/Object;"⟩
theorem ar_Ar_copyOf2 : y_Ar_copyOf2.cls ≠ "java/lang/invoke/MethodHandle" ∧ y_Ar_copyOf2.cls ≠ "java/lang/invoke/VarHandle" ∧ (parseMethodDescriptor y_Ar_copyOf2.desc).map (fun d => d.parameters.length) = some 3 := by decide +kernel
def y_Ma_min : MethodName := ⟨R_Ma, "min", "(II)I"⟩
theorem ar_Ma_min : y_Ma_min.cls ≠ "java/lang/invoke/MethodHandle" ∧ y_Ma_min.cls ≠ "java/lang/invoke/VarHandle" ∧ (parseMethodDescriptor y_Ma_min.desc).map (fun d => d.parameters.length) = some 2 := by decide +kernel
