/-- the words that a state carries on -/
def tb : List Cond := lw_tbl.filter goodWord
theorem gd_tb : GoodIn tb tb := fun w hw => ⟨hw, good_of_word (List.mem_filter.mp hw).2⟩
theorem tb_0 {w : Cond} (h : w ∈ k2_sels lw_privs) (g : goodWord w = true) : w ∈ tb := List.mem_filter.mpr ⟨List.mem_append_left _ h, g⟩
theorem tb_1 {w : Cond} (h : w ∈ tables_1_1) (g : goodWord w = true) : w ∈ tb := List.mem_filter.mpr ⟨List.mem_append_right _ (List.mem_append_left _ h), g⟩
theorem tb_2 {w : Cond} (h : w ∈ tables_1_2) (g : goodWord w = true) : w ∈ tb := List.mem_filter.mpr ⟨List.mem_append_right _ (List.mem_append_right _ (List.mem_append_left _ h)), g⟩
theorem tb_3 {w : Cond} (h : w ∈ tables_1_3) (g : goodWord w = true) : w ∈ tb := List.mem_filter.mpr ⟨List.mem_append_right _ (List.mem_append_right _ (List.mem_append_right _ (List.mem_append_left _ h))), g⟩
theorem tb_4 {w : Cond} (h : w ∈ tables_1_4) (g : goodWord w = true) : w ∈ tb := List.mem_filter.mpr ⟨List.mem_append_right _ (List.mem_append_right _ (List.mem_append_right _ (List.mem_append_right _ h))), g⟩
def F_AD : u_T := fun k => match k with
  | 0 => ("ActionDigests", "text", "LActionDigests$Text;", true)
  | 1 => ("ActionDigests", "sha", "LActionDigests$Sha;", true)
  | 2 => ("ActionDigests", "actions", "[LActionDigests$Action;", true)
  | 3 => ("ActionDigests", "actionCount", "I", false)
  | 4 => ("ActionDigests", "allowed", "[LActionDigests$Key;", true)
  | 5 => ("ActionDigests", "allowedCount", "I", false)
  | 6 => ("ActionDigests", "saltCharacters", "[C", false)
  | _ => ("ActionDigests", "heldDigits", "[C", true)
def t_AD : Nat → FieldType := fun k => match k with
  | 0 => (.object "ActionDigests$Text")
  | 1 => (.object "ActionDigests$Sha")
  | 2 => (.array (.object "ActionDigests$Action"))
  | 3 => .int
  | 4 => (.array (.object "ActionDigests$Key"))
  | 5 => .int
  | 6 => (.array .char)
  | _ => (.array .char)
theorem n_AD : ∀ a, a < 8 → ∀ b, b < 8 → a ≠ b → (F_AD a).2.1 ≠ (F_AD b).2.1 := by decide +kernel
theorem to_AD : ∀ k, k < 8 → parseFieldDescriptor (F_AD k).2.2.1 = some (t_AD k) := by decide +kernel
theorem i_AD : ∀ w ∈ u_ws "ActionDigests" F_AD 8, w ∈ tb := fun w hw => List.mem_filter.mpr ⟨(by decide +kernel : ∀ w ∈ u_ws "ActionDigests" F_AD 8, w ∈ lw_tbl) w hw, (by decide +kernel : ∀ w ∈ u_ws "ActionDigests" F_AD 8, goodWord w = true) w hw⟩
def F_TX : u_T := fun k => match k with
  | 0 => ("ActionDigests$Text", "characters", "[C", true)
  | _ => ("ActionDigests$Text", "length", "I", false)
def t_TX : Nat → FieldType := fun k => match k with
  | 0 => (.array .char)
  | _ => .int
theorem n_TX : ∀ a, a < 2 → ∀ b, b < 2 → a ≠ b → (F_TX a).2.1 ≠ (F_TX b).2.1 := by decide +kernel
theorem to_TX : ∀ k, k < 2 → parseFieldDescriptor (F_TX k).2.2.1 = some (t_TX k) := by decide +kernel
theorem i_TX : ∀ w ∈ u_ws "ActionDigests$Text" F_TX 2, w ∈ tb := fun w hw => List.mem_filter.mpr ⟨(by decide +kernel : ∀ w ∈ u_ws "ActionDigests$Text" F_TX 2, w ∈ lw_tbl) w hw, (by decide +kernel : ∀ w ∈ u_ws "ActionDigests$Text" F_TX 2, goodWord w = true) w hw⟩
def F_SH : u_T := fun k => match k with
  | 0 => ("ActionDigests$Sha", "sums", "[I", true)
  | 1 => ("ActionDigests$Sha", "words", "[I", true)
  | 2 => ("ActionDigests$Sha", "filled", "I", false)
  | _ => ("ActionDigests$Sha", "fed", "J", false)
def t_SH : Nat → FieldType := fun k => match k with
  | 0 => (.array .int)
  | 1 => (.array .int)
  | 2 => .int
  | _ => .long
theorem n_SH : ∀ a, a < 4 → ∀ b, b < 4 → a ≠ b → (F_SH a).2.1 ≠ (F_SH b).2.1 := by decide +kernel
theorem to_SH : ∀ k, k < 4 → parseFieldDescriptor (F_SH k).2.2.1 = some (t_SH k) := by decide +kernel
theorem i_SH : ∀ w ∈ u_ws "ActionDigests$Sha" F_SH 4, w ∈ tb := fun w hw => List.mem_filter.mpr ⟨(by decide +kernel : ∀ w ∈ u_ws "ActionDigests$Sha" F_SH 4, w ∈ lw_tbl) w hw, (by decide +kernel : ∀ w ∈ u_ws "ActionDigests$Sha" F_SH 4, goodWord w = true) w hw⟩
def F_AC : u_T := fun k => match k with
  | 0 => ("ActionDigests$Action", "ordered", "[LActionDigests$Row;", true)
  | _ => ("ActionDigests$Action", "count", "I", false)
def t_AC : Nat → FieldType := fun k => match k with
  | 0 => (.array (.object "ActionDigests$Row"))
  | _ => .int
theorem n_AC : ∀ a, a < 2 → ∀ b, b < 2 → a ≠ b → (F_AC a).2.1 ≠ (F_AC b).2.1 := by decide +kernel
theorem to_AC : ∀ k, k < 2 → parseFieldDescriptor (F_AC k).2.2.1 = some (t_AC k) := by decide +kernel
theorem i_AC : ∀ w ∈ u_ws "ActionDigests$Action" F_AC 2, w ∈ tb := fun w hw => List.mem_filter.mpr ⟨(by decide +kernel : ∀ w ∈ u_ws "ActionDigests$Action" F_AC 2, w ∈ lw_tbl) w hw, (by decide +kernel : ∀ w ∈ u_ws "ActionDigests$Action" F_AC 2, goodWord w = true) w hw⟩
def F_RW : u_T := fun k => match k with
  | 0 => ("ActionDigests$Row", "kind", "I", true)
  | 1 => ("ActionDigests$Row", "key", "LActionDigests$Key;", true)
  | _ => ("ActionDigests$Row", "body", "[C", true)
def t_RW : Nat → FieldType := fun k => match k with
  | 0 => .int
  | 1 => (.object "ActionDigests$Key")
  | _ => (.array .char)
theorem n_RW : ∀ a, a < 3 → ∀ b, b < 3 → a ≠ b → (F_RW a).2.1 ≠ (F_RW b).2.1 := by decide +kernel
theorem to_RW : ∀ k, k < 3 → parseFieldDescriptor (F_RW k).2.2.1 = some (t_RW k) := by decide +kernel
theorem i_RW : ∀ w ∈ u_ws "ActionDigests$Row" F_RW 3, w ∈ tb := fun w hw => List.mem_filter.mpr ⟨(by decide +kernel : ∀ w ∈ u_ws "ActionDigests$Row" F_RW 3, w ∈ lw_tbl) w hw, (by decide +kernel : ∀ w ∈ u_ws "ActionDigests$Row" F_RW 3, goodWord w = true) w hw⟩
def F_KY : u_T := fun k => match k with
  | 0 => ("ActionDigests$Key", "characters", "[C", true)
  | _ => ("ActionDigests$Key", "length", "I", true)
def t_KY : Nat → FieldType := fun k => match k with
  | 0 => (.array .char)
  | _ => .int
theorem n_KY : ∀ a, a < 2 → ∀ b, b < 2 → a ≠ b → (F_KY a).2.1 ≠ (F_KY b).2.1 := by decide +kernel
theorem to_KY : ∀ k, k < 2 → parseFieldDescriptor (F_KY k).2.2.1 = some (t_KY k) := by decide +kernel
theorem i_KY : ∀ w ∈ u_ws "ActionDigests$Key" F_KY 2, w ∈ tb := fun w hw => List.mem_filter.mpr ⟨(by decide +kernel : ∀ w ∈ u_ws "ActionDigests$Key" F_KY 2, w ∈ lw_tbl) w hw, (by decide +kernel : ∀ w ∈ u_ws "ActionDigests$Key" F_KY 2, goodWord w = true) w hw⟩
def F_MD : u_T := fun k => match k with
  | 0 => ("ActionDigestsModel", "roots", "[I", true)
  | 1 => ("ActionDigestsModel", "code", "I", false)
  | 2 => ("ActionDigestsModel", "text", "[I", true)
  | 3 => ("ActionDigestsModel", "typed", "I", false)
  | 4 => ("ActionDigestsModel", "actions", "I", false)
  | 5 => ("ActionDigestsModel", "allowed", "I", false)
  | 6 => ("ActionDigestsModel", "salted", "I", false)
  | 7 => ("ActionDigestsModel", "held", "[I", true)
  | 8 => ("ActionDigestsModel", "count", "[I", true)
  | 9 => ("ActionDigestsModel", "kind", "[I", true)
  | 10 => ("ActionDigestsModel", "size", "[I", true)
  | 11 => ("ActionDigestsModel", "key", "[I", true)
  | 12 => ("ActionDigestsModel", "letters", "[I", true)
  | 13 => ("ActionDigestsModel", "digests", "[I", true)
  | 14 => ("ActionDigestsModel", "names", "[I", true)
  | 15 => ("ActionDigestsModel", "nameSize", "[I", true)
  | 16 => ("ActionDigestsModel", "salt", "[I", true)
  | 17 => ("ActionDigestsModel", "stable", "[I", true)
  | 18 => ("ActionDigestsModel", "stableSize", "I", false)
  | 19 => ("ActionDigestsModel", "sum", "[I", true)
  | 20 => ("ActionDigestsModel", "wide", "[I", true)
  | _ => ("ActionDigestsModel", "turn", "[I", true)
def t_MD : Nat → FieldType := fun k => match k with
  | 0 => (.array .int)
  | 1 => .int
  | 2 => (.array .int)
  | 3 => .int
  | 4 => .int
  | 5 => .int
  | 6 => .int
  | 7 => (.array .int)
  | 8 => (.array .int)
  | 9 => (.array .int)
  | 10 => (.array .int)
  | 11 => (.array .int)
  | 12 => (.array .int)
  | 13 => (.array .int)
  | 14 => (.array .int)
  | 15 => (.array .int)
  | 16 => (.array .int)
  | 17 => (.array .int)
  | 18 => .int
  | 19 => (.array .int)
  | 20 => (.array .int)
  | _ => (.array .int)
theorem n_MD : ∀ a, a < 22 → ∀ b, b < 22 → a ≠ b → (F_MD a).2.1 ≠ (F_MD b).2.1 := by decide +kernel
theorem to_MD : ∀ k, k < 22 → parseFieldDescriptor (F_MD k).2.2.1 = some (t_MD k) := by decide +kernel
theorem i_MD : ∀ w ∈ u_ws "ActionDigestsModel" F_MD 22, w ∈ tb := fun w hw => List.mem_filter.mpr ⟨(by decide +kernel : ∀ w ∈ u_ws "ActionDigestsModel" F_MD 22, w ∈ lw_tbl) w hw, (by decide +kernel : ∀ w ∈ u_ws "ActionDigestsModel" F_MD 22, goodWord w = true) w hw⟩
def F_IS : u_T := fun k => match k with
  | _ => ("", "", "", false)
def t_IS : Nat → FieldType := fun k => match k with
  | _ => .int
theorem n_IS : ∀ a, a < 0 → ∀ b, b < 0 → a ≠ b → (F_IS a).2.1 ≠ (F_IS b).2.1 := by decide +kernel
theorem to_IS : ∀ k, k < 0 → parseFieldDescriptor (F_IS k).2.2.1 = some (t_IS k) := by decide +kernel
theorem i_IS : ∀ w ∈ u_ws "java/lang/IllegalStateException" F_IS 0, w ∈ tb := fun w hw => List.mem_filter.mpr ⟨(by decide +kernel : ∀ w ∈ u_ws "java/lang/IllegalStateException" F_IS 0, w ∈ lw_tbl) w hw, (by decide +kernel : ∀ w ∈ u_ws "java/lang/IllegalStateException" F_IS 0, goodWord w = true) w hw⟩
def F_IA : u_T := fun k => match k with
  | _ => ("", "", "", false)
def t_IA : Nat → FieldType := fun k => match k with
  | _ => .int
theorem n_IA : ∀ a, a < 0 → ∀ b, b < 0 → a ≠ b → (F_IA a).2.1 ≠ (F_IA b).2.1 := by decide +kernel
theorem to_IA : ∀ k, k < 0 → parseFieldDescriptor (F_IA k).2.2.1 = some (t_IA k) := by decide +kernel
theorem i_IA : ∀ w ∈ u_ws "java/lang/IllegalArgumentException" F_IA 0, w ∈ tb := fun w hw => List.mem_filter.mpr ⟨(by decide +kernel : ∀ w ∈ u_ws "java/lang/IllegalArgumentException" F_IA 0, w ∈ lw_tbl) w hw, (by decide +kernel : ∀ w ∈ u_ws "java/lang/IllegalArgumentException" F_IA 0, goodWord w = true) w hw⟩
abbrev ccl : List vw_C := [("ActionDigests", F_AD, 8), ("ActionDigests$Text", F_TX, 2), ("ActionDigests$Sha", F_SH, 4), ("ActionDigests$Action", F_AC, 2), ("ActionDigests$Row", F_RW, 3), ("ActionDigests$Key", F_KY, 2), ("ActionDigestsModel", F_MD, 22), ("java/lang/IllegalStateException", F_IS, 0), ("java/lang/IllegalArgumentException", F_IA, 0)]
abbrev tys (ct : Nat → ClassId) : List (ClassId × FieldType) := [(ct 0, .char), (ct 1, .int), (ct 2, .object "ActionDigests$Row"), (ct 3, .object "ActionDigests$Key"), (ct 4, .object "ActionDigests$Action"), (ct 5, .long)]
abbrev b_AD_init : ByteArray := prog_1_method_1_code
abbrev y_AD_init : MethodName := ⟨"ActionDigests", "<init>", "()V"⟩
theorem hd_AD_init : y_AD_init.cls ≠ "java/lang/invoke/MethodHandle" ∧ y_AD_init.cls ≠ "java/lang/invoke/VarHandle" ∧ (parseMethodDescriptor y_AD_init.desc).map (fun d => d.parameters.length) = some 0 := by decide +kernel
abbrev b_TX_init : ByteArray := prog_7_method_1_code
abbrev y_TX_init : MethodName := ⟨"ActionDigests$Text", "<init>", "()V"⟩
theorem hd_TX_init : y_TX_init.cls ≠ "java/lang/invoke/MethodHandle" ∧ y_TX_init.cls ≠ "java/lang/invoke/VarHandle" ∧ (parseMethodDescriptor y_TX_init.desc).map (fun d => d.parameters.length) = some 0 := by decide +kernel
abbrev b_SH_init : ByteArray := prog_6_method_1_code
abbrev y_SH_init : MethodName := ⟨"ActionDigests$Sha", "<init>", "()V"⟩
theorem hd_SH_init : y_SH_init.cls ≠ "java/lang/invoke/MethodHandle" ∧ y_SH_init.cls ≠ "java/lang/invoke/VarHandle" ∧ (parseMethodDescriptor y_SH_init.desc).map (fun d => d.parameters.length) = some 0 := by decide +kernel
abbrev b_AD_holdContent : ByteArray := prog_1_method_16_code
abbrev y_AD_holdContent : MethodName := ⟨"ActionDigests", "holdContent", "([C)V"⟩
theorem hd_AD_holdContent : y_AD_holdContent.cls ≠ "java/lang/invoke/MethodHandle" ∧ y_AD_holdContent.cls ≠ "java/lang/invoke/VarHandle" ∧ (parseMethodDescriptor y_AD_holdContent.desc).map (fun d => d.parameters.length) = some 1 := by decide +kernel
abbrev b_SH_begin : ByteArray := prog_6_method_2_code
abbrev y_SH_begin : MethodName := ⟨"ActionDigests$Sha", "begin", "()V"⟩
theorem hd_SH_begin : y_SH_begin.cls ≠ "java/lang/invoke/MethodHandle" ∧ y_SH_begin.cls ≠ "java/lang/invoke/VarHandle" ∧ (parseMethodDescriptor y_SH_begin.desc).map (fun d => d.parameters.length) = some 0 := by decide +kernel
abbrev b_SH_feedAll : ByteArray := prog_6_method_3_code
abbrev y_SH_feedAll : MethodName := ⟨"ActionDigests$Sha", "feedAll", "([C)V"⟩
theorem hd_SH_feedAll : y_SH_feedAll.cls ≠ "java/lang/invoke/MethodHandle" ∧ y_SH_feedAll.cls ≠ "java/lang/invoke/VarHandle" ∧ (parseMethodDescriptor y_SH_feedAll.desc).map (fun d => d.parameters.length) = some 1 := by decide +kernel
abbrev b_SH_feed : ByteArray := prog_6_method_4_code
abbrev y_SH_feed : MethodName := ⟨"ActionDigests$Sha", "feed", "(I)V"⟩
theorem hd_SH_feed : y_SH_feed.cls ≠ "java/lang/invoke/MethodHandle" ∧ y_SH_feed.cls ≠ "java/lang/invoke/VarHandle" ∧ (parseMethodDescriptor y_SH_feed.desc).map (fun d => d.parameters.length) = some 1 := by decide +kernel
abbrev b_SH_spreadWords : ByteArray := prog_6_method_7_code
abbrev y_SH_spreadWords : MethodName := ⟨"ActionDigests$Sha", "spreadWords", "()V"⟩
theorem hd_SH_spreadWords : y_SH_spreadWords.cls ≠ "java/lang/invoke/MethodHandle" ∧ y_SH_spreadWords.cls ≠ "java/lang/invoke/VarHandle" ∧ (parseMethodDescriptor y_SH_spreadWords.desc).map (fun d => d.parameters.length) = some 0 := by decide +kernel
abbrev b_SH_turned : ByteArray := prog_6_method_9_code
abbrev y_SH_turned : MethodName := ⟨"ActionDigests$Sha", "turned", "(II)I"⟩
theorem hd_SH_turned : y_SH_turned.cls ≠ "java/lang/invoke/MethodHandle" ∧ y_SH_turned.cls ≠ "java/lang/invoke/VarHandle" ∧ (parseMethodDescriptor y_SH_turned.desc).map (fun d => d.parameters.length) = some 2 := by decide +kernel
abbrev b_SH_mixBlock : ByteArray := prog_6_method_8_code
abbrev y_SH_mixBlock : MethodName := ⟨"ActionDigests$Sha", "mixBlock", "()V"⟩
theorem hd_SH_mixBlock : y_SH_mixBlock.cls ≠ "java/lang/invoke/MethodHandle" ∧ y_SH_mixBlock.cls ≠ "java/lang/invoke/VarHandle" ∧ (parseMethodDescriptor y_SH_mixBlock.desc).map (fun d => d.parameters.length) = some 0 := by decide +kernel
abbrev b_SH_end : ByteArray := prog_6_method_5_code
abbrev y_SH_end : MethodName := ⟨"ActionDigests$Sha", "end", "()V"⟩
theorem hd_SH_end : y_SH_end.cls ≠ "java/lang/invoke/MethodHandle" ∧ y_SH_end.cls ≠ "java/lang/invoke/VarHandle" ∧ (parseMethodDescriptor y_SH_end.desc).map (fun d => d.parameters.length) = some 0 := by decide +kernel
abbrev b_SH_writeDigits : ByteArray := prog_6_method_6_code
abbrev y_SH_writeDigits : MethodName := ⟨"ActionDigests$Sha", "writeDigits", "([C)V"⟩
theorem hd_SH_writeDigits : y_SH_writeDigits.cls ≠ "java/lang/invoke/MethodHandle" ∧ y_SH_writeDigits.cls ≠ "java/lang/invoke/VarHandle" ∧ (parseMethodDescriptor y_SH_writeDigits.desc).map (fun d => d.parameters.length) = some 1 := by decide +kernel
abbrev b_AD_type : ByteArray := prog_1_method_2_code
abbrev y_AD_type : MethodName := ⟨"ActionDigests", "type", "(C)Z"⟩
theorem hd_AD_type : y_AD_type.cls ≠ "java/lang/invoke/MethodHandle" ∧ y_AD_type.cls ≠ "java/lang/invoke/VarHandle" ∧ (parseMethodDescriptor y_AD_type.desc).map (fun d => d.parameters.length) = some 1 := by decide +kernel
abbrev b_TX_append : ByteArray := prog_7_method_2_code
abbrev y_TX_append : MethodName := ⟨"ActionDigests$Text", "append", "(C)Z"⟩
theorem hd_TX_append : y_TX_append.cls ≠ "java/lang/invoke/MethodHandle" ∧ y_TX_append.cls ≠ "java/lang/invoke/VarHandle" ∧ (parseMethodDescriptor y_TX_append.desc).map (fun d => d.parameters.length) = some 1 := by decide +kernel
abbrev b_AD_hold : ByteArray := prog_1_method_4_code
abbrev y_AD_hold : MethodName := ⟨"ActionDigests", "hold", "()V"⟩
theorem hd_AD_hold : y_AD_hold.cls ≠ "java/lang/invoke/MethodHandle" ∧ y_AD_hold.cls ≠ "java/lang/invoke/VarHandle" ∧ (parseMethodDescriptor y_AD_hold.desc).map (fun d => d.parameters.length) = some 0 := by decide +kernel
abbrev b_TX_take : ByteArray := prog_7_method_3_code
abbrev y_TX_take : MethodName := ⟨"ActionDigests$Text", "take", "()[C"⟩
theorem hd_TX_take : y_TX_take.cls ≠ "java/lang/invoke/MethodHandle" ∧ y_TX_take.cls ≠ "java/lang/invoke/VarHandle" ∧ (parseMethodDescriptor y_TX_take.desc).map (fun d => d.parameters.length) = some 0 := by decide +kernel
abbrev b_AD_rows : ByteArray := prog_1_method_9_code
abbrev y_AD_rows : MethodName := ⟨"ActionDigests", "rows", "(I)I"⟩
theorem hd_AD_rows : y_AD_rows.cls ≠ "java/lang/invoke/MethodHandle" ∧ y_AD_rows.cls ≠ "java/lang/invoke/VarHandle" ∧ (parseMethodDescriptor y_AD_rows.desc).map (fun d => d.parameters.length) = some 1 := by decide +kernel
abbrev b_AD_actionAt : ByteArray := prog_1_method_17_code
abbrev y_AD_actionAt : MethodName := ⟨"ActionDigests", "actionAt", "(I)LActionDigests$Action;"⟩
theorem hd_AD_actionAt : y_AD_actionAt.cls ≠ "java/lang/invoke/MethodHandle" ∧ y_AD_actionAt.cls ≠ "java/lang/invoke/VarHandle" ∧ (parseMethodDescriptor y_AD_actionAt.desc).map (fun d => d.parameters.length) = some 1 := by decide +kernel
abbrev b_AD_countingRowAt : ByteArray := prog_1_method_20_code
abbrev y_AD_countingRowAt : MethodName := ⟨"ActionDigests", "countingRowAt", "(LActionDigests$Action;I)LActionDigests$Row;"⟩
theorem hd_AD_countingRowAt : y_AD_countingRowAt.cls ≠ "java/lang/invoke/MethodHandle" ∧ y_AD_countingRowAt.cls ≠ "java/lang/invoke/VarHandle" ∧ (parseMethodDescriptor y_AD_countingRowAt.desc).map (fun d => d.parameters.length) = some 2 := by decide +kernel
abbrev b_AC_rowAt : ByteArray := prog_2_method_3_code
abbrev y_AC_rowAt : MethodName := ⟨"ActionDigests$Action", "rowAt", "(I)LActionDigests$Row;"⟩
theorem hd_AC_rowAt : y_AC_rowAt.cls ≠ "java/lang/invoke/MethodHandle" ∧ y_AC_rowAt.cls ≠ "java/lang/invoke/VarHandle" ∧ (parseMethodDescriptor y_AC_rowAt.desc).map (fun d => d.parameters.length) = some 1 := by decide +kernel
abbrev b_AD_counts : ByteArray := prog_1_method_19_code
abbrev y_AD_counts : MethodName := ⟨"ActionDigests", "counts", "(LActionDigests$Row;)Z"⟩
theorem hd_AD_counts : y_AD_counts.cls ≠ "java/lang/invoke/MethodHandle" ∧ y_AD_counts.cls ≠ "java/lang/invoke/VarHandle" ∧ (parseMethodDescriptor y_AD_counts.desc).map (fun d => d.parameters.length) = some 1 := by decide +kernel
abbrev b_AD_isAllowed : ByteArray := prog_1_method_18_code
abbrev y_AD_isAllowed : MethodName := ⟨"ActionDigests", "isAllowed", "(LActionDigests$Key;)Z"⟩
theorem hd_AD_isAllowed : y_AD_isAllowed.cls ≠ "java/lang/invoke/MethodHandle" ∧ y_AD_isAllowed.cls ≠ "java/lang/invoke/VarHandle" ∧ (parseMethodDescriptor y_AD_isAllowed.desc).map (fun d => d.parameters.length) = some 1 := by decide +kernel
abbrev b_KY_compareWith : ByteArray := prog_4_method_2_code
abbrev y_KY_compareWith : MethodName := ⟨"ActionDigests$Key", "compareWith", "(LActionDigests$Key;)I"⟩
theorem hd_KY_compareWith : y_KY_compareWith.cls ≠ "java/lang/invoke/MethodHandle" ∧ y_KY_compareWith.cls ≠ "java/lang/invoke/VarHandle" ∧ (parseMethodDescriptor y_KY_compareWith.desc).map (fun d => d.parameters.length) = some 1 := by decide +kernel
abbrev b_AD_kind : ByteArray := prog_1_method_10_code
abbrev y_AD_kind : MethodName := ⟨"ActionDigests", "kind", "(II)I"⟩
theorem hd_AD_kind : y_AD_kind.cls ≠ "java/lang/invoke/MethodHandle" ∧ y_AD_kind.cls ≠ "java/lang/invoke/VarHandle" ∧ (parseMethodDescriptor y_AD_kind.desc).map (fun d => d.parameters.length) = some 2 := by decide +kernel
abbrev b_AD_rowInOrder : ByteArray := prog_1_method_21_code
abbrev y_AD_rowInOrder : MethodName := ⟨"ActionDigests", "rowInOrder", "(LActionDigests$Action;I)LActionDigests$Row;"⟩
theorem hd_AD_rowInOrder : y_AD_rowInOrder.cls ≠ "java/lang/invoke/MethodHandle" ∧ y_AD_rowInOrder.cls ≠ "java/lang/invoke/VarHandle" ∧ (parseMethodDescriptor y_AD_rowInOrder.desc).map (fun d => d.parameters.length) = some 2 := by decide +kernel
abbrev b_AD_size : ByteArray := prog_1_method_11_code
abbrev y_AD_size : MethodName := ⟨"ActionDigests", "size", "(I)I"⟩
theorem hd_AD_size : y_AD_size.cls ≠ "java/lang/invoke/MethodHandle" ∧ y_AD_size.cls ≠ "java/lang/invoke/VarHandle" ∧ (parseMethodDescriptor y_AD_size.desc).map (fun d => d.parameters.length) = some 1 := by decide +kernel
abbrev b_RW_stableLength : ByteArray := prog_5_method_2_code
abbrev y_RW_stableLength : MethodName := ⟨"ActionDigests$Row", "stableLength", "()I"⟩
theorem hd_RW_stableLength : y_RW_stableLength.cls ≠ "java/lang/invoke/MethodHandle" ∧ y_RW_stableLength.cls ≠ "java/lang/invoke/VarHandle" ∧ (parseMethodDescriptor y_RW_stableLength.desc).map (fun d => d.parameters.length) = some 0 := by decide +kernel
abbrev b_AD_character : ByteArray := prog_1_method_12_code
abbrev y_AD_character : MethodName := ⟨"ActionDigests", "character", "(II)I"⟩
theorem hd_AD_character : y_AD_character.cls ≠ "java/lang/invoke/MethodHandle" ∧ y_AD_character.cls ≠ "java/lang/invoke/VarHandle" ∧ (parseMethodDescriptor y_AD_character.desc).map (fun d => d.parameters.length) = some 2 := by decide +kernel
abbrev b_RW_stableCharacter : ByteArray := prog_5_method_3_code
abbrev y_RW_stableCharacter : MethodName := ⟨"ActionDigests$Row", "stableCharacter", "(I)I"⟩
theorem hd_RW_stableCharacter : y_RW_stableCharacter.cls ≠ "java/lang/invoke/MethodHandle" ∧ y_RW_stableCharacter.cls ≠ "java/lang/invoke/VarHandle" ∧ (parseMethodDescriptor y_RW_stableCharacter.desc).map (fun d => d.parameters.length) = some 1 := by decide +kernel
abbrev b_AD_digest : ByteArray := prog_1_method_13_code
abbrev y_AD_digest : MethodName := ⟨"ActionDigests", "digest", "(II)I"⟩
theorem hd_AD_digest : y_AD_digest.cls ≠ "java/lang/invoke/MethodHandle" ∧ y_AD_digest.cls ≠ "java/lang/invoke/VarHandle" ∧ (parseMethodDescriptor y_AD_digest.desc).map (fun d => d.parameters.length) = some 2 := by decide +kernel
abbrev b_AD_feedRow : ByteArray := prog_1_method_22_code
abbrev y_AD_feedRow : MethodName := ⟨"ActionDigests", "feedRow", "(LActionDigests$Row;)V"⟩
theorem hd_AD_feedRow : y_AD_feedRow.cls ≠ "java/lang/invoke/MethodHandle" ∧ y_AD_feedRow.cls ≠ "java/lang/invoke/VarHandle" ∧ (parseMethodDescriptor y_AD_feedRow.desc).map (fun d => d.parameters.length) = some 1 := by decide +kernel
abbrev b_AD_differ : ByteArray := prog_1_method_14_code
abbrev y_AD_differ : MethodName := ⟨"ActionDigests", "differ", "(II)I"⟩
theorem hd_AD_differ : y_AD_differ.cls ≠ "java/lang/invoke/MethodHandle" ∧ y_AD_differ.cls ≠ "java/lang/invoke/VarHandle" ∧ (parseMethodDescriptor y_AD_differ.desc).map (fun d => d.parameters.length) = some 2 := by decide +kernel
abbrev b_RW_isLike : ByteArray := prog_5_method_5_code
abbrev y_RW_isLike : MethodName := ⟨"ActionDigests$Row", "isLike", "(LActionDigests$Row;)Z"⟩
theorem hd_RW_isLike : y_RW_isLike.cls ≠ "java/lang/invoke/MethodHandle" ∧ y_RW_isLike.cls ≠ "java/lang/invoke/VarHandle" ∧ (parseMethodDescriptor y_RW_isLike.desc).map (fun d => d.parameters.length) = some 1 := by decide +kernel
abbrev b_AD_constant : ByteArray := prog_1_method_15_code
abbrev y_AD_constant : MethodName := ⟨"ActionDigests", "constant", "(I)I"⟩
theorem hd_AD_constant : y_AD_constant.cls ≠ "java/lang/invoke/MethodHandle" ∧ y_AD_constant.cls ≠ "java/lang/invoke/VarHandle" ∧ (parseMethodDescriptor y_AD_constant.desc).map (fun d => d.parameters.length) = some 1 := by decide +kernel
abbrev b_AD_action : ByteArray := prog_1_method_3_code
abbrev y_AD_action : MethodName := ⟨"ActionDigests", "action", "()I"⟩
theorem hd_AD_action : y_AD_action.cls ≠ "java/lang/invoke/MethodHandle" ∧ y_AD_action.cls ≠ "java/lang/invoke/VarHandle" ∧ (parseMethodDescriptor y_AD_action.desc).map (fun d => d.parameters.length) = some 0 := by decide +kernel
abbrev b_AC_init : ByteArray := prog_2_method_1_code
abbrev y_AC_init : MethodName := ⟨"ActionDigests$Action", "<init>", "()V"⟩
theorem hd_AC_init : y_AC_init.cls ≠ "java/lang/invoke/MethodHandle" ∧ y_AC_init.cls ≠ "java/lang/invoke/VarHandle" ∧ (parseMethodDescriptor y_AC_init.desc).map (fun d => d.parameters.length) = some 0 := by decide +kernel
abbrev b_AD_row : ByteArray := prog_1_method_5_code
abbrev y_AD_row : MethodName := ⟨"ActionDigests", "row", "(II)V"⟩
theorem hd_AD_row : y_AD_row.cls ≠ "java/lang/invoke/MethodHandle" ∧ y_AD_row.cls ≠ "java/lang/invoke/VarHandle" ∧ (parseMethodDescriptor y_AD_row.desc).map (fun d => d.parameters.length) = some 2 := by decide +kernel
abbrev b_FM_fits : ByteArray := prog_3_method_2_code
abbrev y_FM_fits : MethodName := ⟨"ActionDigests$Forms", "fits", "([CI)Z"⟩
theorem hd_FM_fits : y_FM_fits.cls ≠ "java/lang/invoke/MethodHandle" ∧ y_FM_fits.cls ≠ "java/lang/invoke/VarHandle" ∧ (parseMethodDescriptor y_FM_fits.desc).map (fun d => d.parameters.length) = some 2 := by decide +kernel
abbrev b_FM_isPath : ByteArray := prog_3_method_7_code
abbrev y_FM_isPath : MethodName := ⟨"ActionDigests$Forms", "isPath", "([C)Z"⟩
theorem hd_FM_isPath : y_FM_isPath.cls ≠ "java/lang/invoke/MethodHandle" ∧ y_FM_isPath.cls ≠ "java/lang/invoke/VarHandle" ∧ (parseMethodDescriptor y_FM_isPath.desc).map (fun d => d.parameters.length) = some 1 := by decide +kernel
abbrev b_FM_isPiece : ByteArray := prog_3_method_8_code
abbrev y_FM_isPiece : MethodName := ⟨"ActionDigests$Forms", "isPiece", "([CII)Z"⟩
theorem hd_FM_isPiece : y_FM_isPiece.cls ≠ "java/lang/invoke/MethodHandle" ∧ y_FM_isPiece.cls ≠ "java/lang/invoke/VarHandle" ∧ (parseMethodDescriptor y_FM_isPiece.desc).map (fun d => d.parameters.length) = some 3 := by decide +kernel
abbrev b_FM_isLetter : ByteArray := prog_3_method_9_code
abbrev y_FM_isLetter : MethodName := ⟨"ActionDigests$Forms", "isLetter", "(C)Z"⟩
theorem hd_FM_isLetter : y_FM_isLetter.cls ≠ "java/lang/invoke/MethodHandle" ∧ y_FM_isLetter.cls ≠ "java/lang/invoke/VarHandle" ∧ (parseMethodDescriptor y_FM_isLetter.desc).map (fun d => d.parameters.length) = some 1 := by decide +kernel
abbrev b_FM_isDigit : ByteArray := prog_3_method_10_code
abbrev y_FM_isDigit : MethodName := ⟨"ActionDigests$Forms", "isDigit", "(C)Z"⟩
theorem hd_FM_isDigit : y_FM_isDigit.cls ≠ "java/lang/invoke/MethodHandle" ∧ y_FM_isDigit.cls ≠ "java/lang/invoke/VarHandle" ∧ (parseMethodDescriptor y_FM_isDigit.desc).map (fun d => d.parameters.length) = some 1 := by decide +kernel
abbrev b_FM_isNameAndValue : ByteArray := prog_3_method_5_code
abbrev y_FM_isNameAndValue : MethodName := ⟨"ActionDigests$Forms", "isNameAndValue", "([C)Z"⟩
theorem hd_FM_isNameAndValue : y_FM_isNameAndValue.cls ≠ "java/lang/invoke/MethodHandle" ∧ y_FM_isNameAndValue.cls ≠ "java/lang/invoke/VarHandle" ∧ (parseMethodDescriptor y_FM_isNameAndValue.desc).map (fun d => d.parameters.length) = some 1 := by decide +kernel
abbrev b_FM_nameLength : ByteArray := prog_3_method_6_code
abbrev y_FM_nameLength : MethodName := ⟨"ActionDigests$Forms", "nameLength", "([C)I"⟩
theorem hd_FM_nameLength : y_FM_nameLength.cls ≠ "java/lang/invoke/MethodHandle" ∧ y_FM_nameLength.cls ≠ "java/lang/invoke/VarHandle" ∧ (parseMethodDescriptor y_FM_nameLength.desc).map (fun d => d.parameters.length) = some 1 := by decide +kernel
abbrev b_FM_isName : ByteArray := prog_3_method_4_code
abbrev y_FM_isName : MethodName := ⟨"ActionDigests$Forms", "isName", "([CI)Z"⟩
theorem hd_FM_isName : y_FM_isName.cls ≠ "java/lang/invoke/MethodHandle" ∧ y_FM_isName.cls ≠ "java/lang/invoke/VarHandle" ∧ (parseMethodDescriptor y_FM_isName.desc).map (fun d => d.parameters.length) = some 2 := by decide +kernel
abbrev b_FM_keyLength : ByteArray := prog_3_method_3_code
abbrev y_FM_keyLength : MethodName := ⟨"ActionDigests$Forms", "keyLength", "([CI)I"⟩
theorem hd_FM_keyLength : y_FM_keyLength.cls ≠ "java/lang/invoke/MethodHandle" ∧ y_FM_keyLength.cls ≠ "java/lang/invoke/VarHandle" ∧ (parseMethodDescriptor y_FM_keyLength.desc).map (fun d => d.parameters.length) = some 2 := by decide +kernel
abbrev b_KY_init : ByteArray := prog_4_method_1_code
abbrev y_KY_init : MethodName := ⟨"ActionDigests$Key", "<init>", "([CI)V"⟩
theorem hd_KY_init : y_KY_init.cls ≠ "java/lang/invoke/MethodHandle" ∧ y_KY_init.cls ≠ "java/lang/invoke/VarHandle" ∧ (parseMethodDescriptor y_KY_init.desc).map (fun d => d.parameters.length) = some 2 := by decide +kernel
abbrev b_AC_has : ByteArray := prog_2_method_4_code
abbrev y_AC_has : MethodName := ⟨"ActionDigests$Action", "has", "(ILActionDigests$Key;)Z"⟩
theorem hd_AC_has : y_AC_has.cls ≠ "java/lang/invoke/MethodHandle" ∧ y_AC_has.cls ≠ "java/lang/invoke/VarHandle" ∧ (parseMethodDescriptor y_AC_has.desc).map (fun d => d.parameters.length) = some 2 := by decide +kernel
abbrev b_AC_isFull : ByteArray := prog_2_method_2_code
abbrev y_AC_isFull : MethodName := ⟨"ActionDigests$Action", "isFull", "()Z"⟩
theorem hd_AC_isFull : y_AC_isFull.cls ≠ "java/lang/invoke/MethodHandle" ∧ y_AC_isFull.cls ≠ "java/lang/invoke/VarHandle" ∧ (parseMethodDescriptor y_AC_isFull.desc).map (fun d => d.parameters.length) = some 0 := by decide +kernel
abbrev b_AD_bodyOf : ByteArray := prog_1_method_23_code
abbrev y_AD_bodyOf : MethodName := ⟨"ActionDigests", "bodyOf", "([CI)[C"⟩
theorem hd_AD_bodyOf : y_AD_bodyOf.cls ≠ "java/lang/invoke/MethodHandle" ∧ y_AD_bodyOf.cls ≠ "java/lang/invoke/VarHandle" ∧ (parseMethodDescriptor y_AD_bodyOf.desc).map (fun d => d.parameters.length) = some 2 := by decide +kernel
abbrev b_RW_init : ByteArray := prog_5_method_1_code
abbrev y_RW_init : MethodName := ⟨"ActionDigests$Row", "<init>", "(ILActionDigests$Key;[C)V"⟩
theorem hd_RW_init : y_RW_init.cls ≠ "java/lang/invoke/MethodHandle" ∧ y_RW_init.cls ≠ "java/lang/invoke/VarHandle" ∧ (parseMethodDescriptor y_RW_init.desc).map (fun d => d.parameters.length) = some 3 := by decide +kernel
abbrev b_AC_insert : ByteArray := prog_2_method_5_code
abbrev y_AC_insert : MethodName := ⟨"ActionDigests$Action", "insert", "(LActionDigests$Row;)V"⟩
theorem hd_AC_insert : y_AC_insert.cls ≠ "java/lang/invoke/MethodHandle" ∧ y_AC_insert.cls ≠ "java/lang/invoke/VarHandle" ∧ (parseMethodDescriptor y_AC_insert.desc).map (fun d => d.parameters.length) = some 1 := by decide +kernel
abbrev b_RW_isBehind : ByteArray := prog_5_method_4_code
abbrev y_RW_isBehind : MethodName := ⟨"ActionDigests$Row", "isBehind", "(LActionDigests$Row;)Z"⟩
theorem hd_RW_isBehind : y_RW_isBehind.cls ≠ "java/lang/invoke/MethodHandle" ∧ y_RW_isBehind.cls ≠ "java/lang/invoke/VarHandle" ∧ (parseMethodDescriptor y_RW_isBehind.desc).map (fun d => d.parameters.length) = some 1 := by decide +kernel
abbrev b_AD_edition : ByteArray := prog_1_method_6_code
abbrev y_AD_edition : MethodName := ⟨"ActionDigests", "edition", "(II)V"⟩
theorem hd_AD_edition : y_AD_edition.cls ≠ "java/lang/invoke/MethodHandle" ∧ y_AD_edition.cls ≠ "java/lang/invoke/VarHandle" ∧ (parseMethodDescriptor y_AD_edition.desc).map (fun d => d.parameters.length) = some 2 := by decide +kernel
abbrev b_AD_editionDigits : ByteArray := prog_1_method_24_code
abbrev y_AD_editionDigits : MethodName := ⟨"ActionDigests", "editionDigits", "(I)[C"⟩
theorem hd_AD_editionDigits : y_AD_editionDigits.cls ≠ "java/lang/invoke/MethodHandle" ∧ y_AD_editionDigits.cls ≠ "java/lang/invoke/VarHandle" ∧ (parseMethodDescriptor y_AD_editionDigits.desc).map (fun d => d.parameters.length) = some 1 := by decide +kernel
abbrev b_AC_replaceEdition : ByteArray := prog_2_method_6_code
abbrev y_AC_replaceEdition : MethodName := ⟨"ActionDigests$Action", "replaceEdition", "(LActionDigests$Row;)Z"⟩
theorem hd_AC_replaceEdition : y_AC_replaceEdition.cls ≠ "java/lang/invoke/MethodHandle" ∧ y_AC_replaceEdition.cls ≠ "java/lang/invoke/VarHandle" ∧ (parseMethodDescriptor y_AC_replaceEdition.desc).map (fun d => d.parameters.length) = some 1 := by decide +kernel
abbrev b_AD_allow : ByteArray := prog_1_method_7_code
abbrev y_AD_allow : MethodName := ⟨"ActionDigests", "allow", "()V"⟩
theorem hd_AD_allow : y_AD_allow.cls ≠ "java/lang/invoke/MethodHandle" ∧ y_AD_allow.cls ≠ "java/lang/invoke/VarHandle" ∧ (parseMethodDescriptor y_AD_allow.desc).map (fun d => d.parameters.length) = some 0 := by decide +kernel
abbrev b_AD_salt : ByteArray := prog_1_method_8_code
abbrev y_AD_salt : MethodName := ⟨"ActionDigests", "salt", "()V"⟩
theorem hd_AD_salt : y_AD_salt.cls ≠ "java/lang/invoke/MethodHandle" ∧ y_AD_salt.cls ≠ "java/lang/invoke/VarHandle" ∧ (parseMethodDescriptor y_AD_salt.desc).map (fun d => d.parameters.length) = some 0 := by decide +kernel
abbrev b_MD_init : ByteArray := prog_9_method_1_code
abbrev y_MD_init : MethodName := ⟨"ActionDigestsModel", "<init>", "()V"⟩
theorem hd_MD_init : y_MD_init.cls ≠ "java/lang/invoke/MethodHandle" ∧ y_MD_init.cls ≠ "java/lang/invoke/VarHandle" ∧ (parseMethodDescriptor y_MD_init.desc).map (fun d => d.parameters.length) = some 0 := by decide +kernel
abbrev b_MD_sumUp : ByteArray := prog_9_method_32_code
abbrev y_MD_sumUp : MethodName := ⟨"ActionDigestsModel", "sumUp", "(I)V"⟩
theorem hd_MD_sumUp : y_MD_sumUp.cls ≠ "java/lang/invoke/MethodHandle" ∧ y_MD_sumUp.cls ≠ "java/lang/invoke/VarHandle" ∧ (parseMethodDescriptor y_MD_sumUp.desc).map (fun d => d.parameters.length) = some 1 := by decide +kernel
abbrev b_MD_byteAt : ByteArray := prog_9_method_31_code
abbrev y_MD_byteAt : MethodName := ⟨"ActionDigestsModel", "byteAt", "(III)I"⟩
theorem hd_MD_byteAt : y_MD_byteAt.cls ≠ "java/lang/invoke/MethodHandle" ∧ y_MD_byteAt.cls ≠ "java/lang/invoke/VarHandle" ∧ (parseMethodDescriptor y_MD_byteAt.desc).map (fun d => d.parameters.length) = some 3 := by decide +kernel
abbrev b_MD_turned : ByteArray := prog_9_method_30_code
abbrev y_MD_turned : MethodName := ⟨"ActionDigestsModel", "turned", "(II)I"⟩
theorem hd_MD_turned : y_MD_turned.cls ≠ "java/lang/invoke/MethodHandle" ∧ y_MD_turned.cls ≠ "java/lang/invoke/VarHandle" ∧ (parseMethodDescriptor y_MD_turned.desc).map (fun d => d.parameters.length) = some 2 := by decide +kernel
abbrev b_MD_mixIn : ByteArray := prog_9_method_33_code
abbrev y_MD_mixIn : MethodName := ⟨"ActionDigestsModel", "mixIn", "()V"⟩
theorem hd_MD_mixIn : y_MD_mixIn.cls ≠ "java/lang/invoke/MethodHandle" ∧ y_MD_mixIn.cls ≠ "java/lang/invoke/VarHandle" ∧ (parseMethodDescriptor y_MD_mixIn.desc).map (fun d => d.parameters.length) = some 0 := by decide +kernel
abbrev b_MD_keepSum : ByteArray := prog_9_method_34_code
abbrev y_MD_keepSum : MethodName := ⟨"ActionDigestsModel", "keepSum", "()V"⟩
theorem hd_MD_keepSum : y_MD_keepSum.cls ≠ "java/lang/invoke/MethodHandle" ∧ y_MD_keepSum.cls ≠ "java/lang/invoke/VarHandle" ∧ (parseMethodDescriptor y_MD_keepSum.desc).map (fun d => d.parameters.length) = some 0 := by decide +kernel
abbrev b_MD_thrown : ByteArray := prog_9_method_2_code
abbrev y_MD_thrown : MethodName := ⟨"ActionDigestsModel", "thrown", "()I"⟩
theorem hd_MD_thrown : y_MD_thrown.cls ≠ "java/lang/invoke/MethodHandle" ∧ y_MD_thrown.cls ≠ "java/lang/invoke/VarHandle" ∧ (parseMethodDescriptor y_MD_thrown.desc).map (fun d => d.parameters.length) = some 0 := by decide +kernel
abbrev b_MD_type : ByteArray := prog_9_method_4_code
abbrev y_MD_type : MethodName := ⟨"ActionDigestsModel", "type", "(C)Z"⟩
theorem hd_MD_type : y_MD_type.cls ≠ "java/lang/invoke/MethodHandle" ∧ y_MD_type.cls ≠ "java/lang/invoke/VarHandle" ∧ (parseMethodDescriptor y_MD_type.desc).map (fun d => d.parameters.length) = some 1 := by decide +kernel
abbrev b_MD_action : ByteArray := prog_9_method_6_code
abbrev y_MD_action : MethodName := ⟨"ActionDigestsModel", "action", "()I"⟩
theorem hd_MD_action : y_MD_action.cls ≠ "java/lang/invoke/MethodHandle" ∧ y_MD_action.cls ≠ "java/lang/invoke/VarHandle" ∧ (parseMethodDescriptor y_MD_action.desc).map (fun d => d.parameters.length) = some 0 := by decide +kernel
abbrev b_MD_row : ByteArray := prog_9_method_15_code
abbrev y_MD_row : MethodName := ⟨"ActionDigestsModel", "row", "(II)V"⟩
theorem hd_MD_row : y_MD_row.cls ≠ "java/lang/invoke/MethodHandle" ∧ y_MD_row.cls ≠ "java/lang/invoke/VarHandle" ∧ (parseMethodDescriptor y_MD_row.desc).map (fun d => d.parameters.length) = some 2 := by decide +kernel
abbrev b_MD_takes : ByteArray := prog_9_method_5_code
abbrev y_MD_takes : MethodName := ⟨"ActionDigestsModel", "takes", "()I"⟩
theorem hd_MD_takes : y_MD_takes.cls ≠ "java/lang/invoke/MethodHandle" ∧ y_MD_takes.cls ≠ "java/lang/invoke/VarHandle" ∧ (parseMethodDescriptor y_MD_takes.desc).map (fun d => d.parameters.length) = some 0 := by decide +kernel
abbrev b_MD_isAction : ByteArray := prog_9_method_12_code
abbrev y_MD_isAction : MethodName := ⟨"ActionDigestsModel", "isAction", "(I)Z"⟩
theorem hd_MD_isAction : y_MD_isAction.cls ≠ "java/lang/invoke/MethodHandle" ∧ y_MD_isAction.cls ≠ "java/lang/invoke/VarHandle" ∧ (parseMethodDescriptor y_MD_isAction.desc).map (fun d => d.parameters.length) = some 1 := by decide +kernel
abbrev b_MD_keyOf : ByteArray := prog_9_method_11_code
abbrev y_MD_keyOf : MethodName := ⟨"ActionDigestsModel", "keyOf", "(II)I"⟩
theorem hd_MD_keyOf : y_MD_keyOf.cls ≠ "java/lang/invoke/MethodHandle" ∧ y_MD_keyOf.cls ≠ "java/lang/invoke/VarHandle" ∧ (parseMethodDescriptor y_MD_keyOf.desc).map (fun d => d.parameters.length) = some 2 := by decide +kernel
abbrev b_MD_isPath : ByteArray := prog_9_method_10_code
abbrev y_MD_isPath : MethodName := ⟨"ActionDigestsModel", "isPath", "(I)Z"⟩
theorem hd_MD_isPath : y_MD_isPath.cls ≠ "java/lang/invoke/MethodHandle" ∧ y_MD_isPath.cls ≠ "java/lang/invoke/VarHandle" ∧ (parseMethodDescriptor y_MD_isPath.desc).map (fun d => d.parameters.length) = some 1 := by decide +kernel
abbrev b_MD_isLetter : ByteArray := prog_9_method_7_code
abbrev y_MD_isLetter : MethodName := ⟨"ActionDigestsModel", "isLetter", "(I)Z"⟩
theorem hd_MD_isLetter : y_MD_isLetter.cls ≠ "java/lang/invoke/MethodHandle" ∧ y_MD_isLetter.cls ≠ "java/lang/invoke/VarHandle" ∧ (parseMethodDescriptor y_MD_isLetter.desc).map (fun d => d.parameters.length) = some 1 := by decide +kernel
abbrev b_MD_isDigit : ByteArray := prog_9_method_8_code
abbrev y_MD_isDigit : MethodName := ⟨"ActionDigestsModel", "isDigit", "(I)Z"⟩
theorem hd_MD_isDigit : y_MD_isDigit.cls ≠ "java/lang/invoke/MethodHandle" ∧ y_MD_isDigit.cls ≠ "java/lang/invoke/VarHandle" ∧ (parseMethodDescriptor y_MD_isDigit.desc).map (fun d => d.parameters.length) = some 1 := by decide +kernel
abbrev b_MD_isName : ByteArray := prog_9_method_9_code
abbrev y_MD_isName : MethodName := ⟨"ActionDigestsModel", "isName", "(I)Z"⟩
theorem hd_MD_isName : y_MD_isName.cls ≠ "java/lang/invoke/MethodHandle" ∧ y_MD_isName.cls ≠ "java/lang/invoke/VarHandle" ∧ (parseMethodDescriptor y_MD_isName.desc).map (fun d => d.parameters.length) = some 1 := by decide +kernel
abbrev b_MD_hasKey : ByteArray := prog_9_method_14_code
abbrev y_MD_hasKey : MethodName := ⟨"ActionDigestsModel", "hasKey", "(III)Z"⟩
theorem hd_MD_hasKey : y_MD_hasKey.cls ≠ "java/lang/invoke/MethodHandle" ∧ y_MD_hasKey.cls ≠ "java/lang/invoke/VarHandle" ∧ (parseMethodDescriptor y_MD_hasKey.desc).map (fun d => d.parameters.length) = some 3 := by decide +kernel
abbrev b_MD_place : ByteArray := prog_9_method_13_code
abbrev y_MD_place : MethodName := ⟨"ActionDigestsModel", "place", "(II)I"⟩
theorem hd_MD_place : y_MD_place.cls ≠ "java/lang/invoke/MethodHandle" ∧ y_MD_place.cls ≠ "java/lang/invoke/VarHandle" ∧ (parseMethodDescriptor y_MD_place.desc).map (fun d => d.parameters.length) = some 2 := by decide +kernel
abbrev b_MD_refuses : ByteArray := prog_9_method_3_code
abbrev y_MD_refuses : MethodName := ⟨"ActionDigestsModel", "refuses", "(ZZ)Z"⟩
theorem hd_MD_refuses : y_MD_refuses.cls ≠ "java/lang/invoke/MethodHandle" ∧ y_MD_refuses.cls ≠ "java/lang/invoke/VarHandle" ∧ (parseMethodDescriptor y_MD_refuses.desc).map (fun d => d.parameters.length) = some 2 := by decide +kernel
abbrev b_MD_edition : ByteArray := prog_9_method_16_code
abbrev y_MD_edition : MethodName := ⟨"ActionDigestsModel", "edition", "(II)V"⟩
theorem hd_MD_edition : y_MD_edition.cls ≠ "java/lang/invoke/MethodHandle" ∧ y_MD_edition.cls ≠ "java/lang/invoke/VarHandle" ∧ (parseMethodDescriptor y_MD_edition.desc).map (fun d => d.parameters.length) = some 2 := by decide +kernel
abbrev b_MD_allow : ByteArray := prog_9_method_18_code
abbrev y_MD_allow : MethodName := ⟨"ActionDigestsModel", "allow", "()V"⟩
theorem hd_MD_allow : y_MD_allow.cls ≠ "java/lang/invoke/MethodHandle" ∧ y_MD_allow.cls ≠ "java/lang/invoke/VarHandle" ∧ (parseMethodDescriptor y_MD_allow.desc).map (fun d => d.parameters.length) = some 0 := by decide +kernel
abbrev b_MD_salt : ByteArray := prog_9_method_19_code
abbrev y_MD_salt : MethodName := ⟨"ActionDigestsModel", "salt", "()V"⟩
theorem hd_MD_salt : y_MD_salt.cls ≠ "java/lang/invoke/MethodHandle" ∧ y_MD_salt.cls ≠ "java/lang/invoke/VarHandle" ∧ (parseMethodDescriptor y_MD_salt.desc).map (fun d => d.parameters.length) = some 0 := by decide +kernel
abbrev b_MD_rows : ByteArray := prog_9_method_23_code
abbrev y_MD_rows : MethodName := ⟨"ActionDigestsModel", "rows", "(I)I"⟩
theorem hd_MD_rows : y_MD_rows.cls ≠ "java/lang/invoke/MethodHandle" ∧ y_MD_rows.cls ≠ "java/lang/invoke/VarHandle" ∧ (parseMethodDescriptor y_MD_rows.desc).map (fun d => d.parameters.length) = some 1 := by decide +kernel
abbrev b_MD_counting : ByteArray := prog_9_method_21_code
abbrev y_MD_counting : MethodName := ⟨"ActionDigestsModel", "counting", "(I)I"⟩
theorem hd_MD_counting : y_MD_counting.cls ≠ "java/lang/invoke/MethodHandle" ∧ y_MD_counting.cls ≠ "java/lang/invoke/VarHandle" ∧ (parseMethodDescriptor y_MD_counting.desc).map (fun d => d.parameters.length) = some 1 := by decide +kernel
abbrev b_MD_isAllowed : ByteArray := prog_9_method_17_code
abbrev y_MD_isAllowed : MethodName := ⟨"ActionDigestsModel", "isAllowed", "(I)Z"⟩
theorem hd_MD_isAllowed : y_MD_isAllowed.cls ≠ "java/lang/invoke/MethodHandle" ∧ y_MD_isAllowed.cls ≠ "java/lang/invoke/VarHandle" ∧ (parseMethodDescriptor y_MD_isAllowed.desc).map (fun d => d.parameters.length) = some 1 := by decide +kernel
abbrev b_MD_kind : ByteArray := prog_9_method_24_code
abbrev y_MD_kind : MethodName := ⟨"ActionDigestsModel", "kind", "(II)I"⟩
theorem hd_MD_kind : y_MD_kind.cls ≠ "java/lang/invoke/MethodHandle" ∧ y_MD_kind.cls ≠ "java/lang/invoke/VarHandle" ∧ (parseMethodDescriptor y_MD_kind.desc).map (fun d => d.parameters.length) = some 2 := by decide +kernel
abbrev b_MD_rowAt : ByteArray := prog_9_method_22_code
abbrev y_MD_rowAt : MethodName := ⟨"ActionDigestsModel", "rowAt", "(II)I"⟩
theorem hd_MD_rowAt : y_MD_rowAt.cls ≠ "java/lang/invoke/MethodHandle" ∧ y_MD_rowAt.cls ≠ "java/lang/invoke/VarHandle" ∧ (parseMethodDescriptor y_MD_rowAt.desc).map (fun d => d.parameters.length) = some 2 := by decide +kernel
abbrev b_MD_isBefore : ByteArray := prog_9_method_20_code
abbrev y_MD_isBefore : MethodName := ⟨"ActionDigestsModel", "isBefore", "(II)Z"⟩
theorem hd_MD_isBefore : y_MD_isBefore.cls ≠ "java/lang/invoke/MethodHandle" ∧ y_MD_isBefore.cls ≠ "java/lang/invoke/VarHandle" ∧ (parseMethodDescriptor y_MD_isBefore.desc).map (fun d => d.parameters.length) = some 2 := by decide +kernel
abbrev b_MD_size : ByteArray := prog_9_method_28_code
abbrev y_MD_size : MethodName := ⟨"ActionDigestsModel", "size", "(I)I"⟩
theorem hd_MD_size : y_MD_size.cls ≠ "java/lang/invoke/MethodHandle" ∧ y_MD_size.cls ≠ "java/lang/invoke/VarHandle" ∧ (parseMethodDescriptor y_MD_size.desc).map (fun d => d.parameters.length) = some 1 := by decide +kernel
abbrev b_MD_write : ByteArray := prog_9_method_27_code
abbrev y_MD_write : MethodName := ⟨"ActionDigestsModel", "write", "(I)V"⟩
theorem hd_MD_write : y_MD_write.cls ≠ "java/lang/invoke/MethodHandle" ∧ y_MD_write.cls ≠ "java/lang/invoke/VarHandle" ∧ (parseMethodDescriptor y_MD_write.desc).map (fun d => d.parameters.length) = some 1 := by decide +kernel
abbrev b_MD_put : ByteArray := prog_9_method_25_code
abbrev y_MD_put : MethodName := ⟨"ActionDigestsModel", "put", "(I)V"⟩
theorem hd_MD_put : y_MD_put.cls ≠ "java/lang/invoke/MethodHandle" ∧ y_MD_put.cls ≠ "java/lang/invoke/VarHandle" ∧ (parseMethodDescriptor y_MD_put.desc).map (fun d => d.parameters.length) = some 1 := by decide +kernel
abbrev b_MD_hex : ByteArray := prog_9_method_26_code
abbrev y_MD_hex : MethodName := ⟨"ActionDigestsModel", "hex", "(I)I"⟩
theorem hd_MD_hex : y_MD_hex.cls ≠ "java/lang/invoke/MethodHandle" ∧ y_MD_hex.cls ≠ "java/lang/invoke/VarHandle" ∧ (parseMethodDescriptor y_MD_hex.desc).map (fun d => d.parameters.length) = some 1 := by decide +kernel
abbrev b_MD_character : ByteArray := prog_9_method_29_code
abbrev y_MD_character : MethodName := ⟨"ActionDigestsModel", "character", "(II)I"⟩
theorem hd_MD_character : y_MD_character.cls ≠ "java/lang/invoke/MethodHandle" ∧ y_MD_character.cls ≠ "java/lang/invoke/VarHandle" ∧ (parseMethodDescriptor y_MD_character.desc).map (fun d => d.parameters.length) = some 2 := by decide +kernel
abbrev b_MD_hold : ByteArray := prog_9_method_35_code
abbrev y_MD_hold : MethodName := ⟨"ActionDigestsModel", "hold", "()V"⟩
theorem hd_MD_hold : y_MD_hold.cls ≠ "java/lang/invoke/MethodHandle" ∧ y_MD_hold.cls ≠ "java/lang/invoke/VarHandle" ∧ (parseMethodDescriptor y_MD_hold.desc).map (fun d => d.parameters.length) = some 0 := by decide +kernel
abbrev b_MD_digest : ByteArray := prog_9_method_36_code
abbrev y_MD_digest : MethodName := ⟨"ActionDigestsModel", "digest", "(II)I"⟩
theorem hd_MD_digest : y_MD_digest.cls ≠ "java/lang/invoke/MethodHandle" ∧ y_MD_digest.cls ≠ "java/lang/invoke/VarHandle" ∧ (parseMethodDescriptor y_MD_digest.desc).map (fun d => d.parameters.length) = some 2 := by decide +kernel
abbrev b_MD_differ : ByteArray := prog_9_method_38_code
abbrev y_MD_differ : MethodName := ⟨"ActionDigestsModel", "differ", "(II)I"⟩
theorem hd_MD_differ : y_MD_differ.cls ≠ "java/lang/invoke/MethodHandle" ∧ y_MD_differ.cls ≠ "java/lang/invoke/VarHandle" ∧ (parseMethodDescriptor y_MD_differ.desc).map (fun d => d.parameters.length) = some 2 := by decide +kernel
abbrev b_MD_same : ByteArray := prog_9_method_37_code
abbrev y_MD_same : MethodName := ⟨"ActionDigestsModel", "same", "(II)Z"⟩
theorem hd_MD_same : y_MD_same.cls ≠ "java/lang/invoke/MethodHandle" ∧ y_MD_same.cls ≠ "java/lang/invoke/VarHandle" ∧ (parseMethodDescriptor y_MD_same.desc).map (fun d => d.parameters.length) = some 2 := by decide +kernel
abbrev b_MD_constant : ByteArray := prog_9_method_39_code
abbrev y_MD_constant : MethodName := ⟨"ActionDigestsModel", "constant", "(I)I"⟩
theorem hd_MD_constant : y_MD_constant.cls ≠ "java/lang/invoke/MethodHandle" ∧ y_MD_constant.cls ≠ "java/lang/invoke/VarHandle" ∧ (parseMethodDescriptor y_MD_constant.desc).map (fun d => d.parameters.length) = some 1 := by decide +kernel
theorem mx_AD_holdContent : (Cond.selects "ActionDigests" y_AD_holdContent y_AD_holdContent) ∈ tb := tb_0 (List.mem_of_getElem? (i := 0) rfl) rfl
theorem mx_SH_spreadWords : (Cond.selects "ActionDigests$Sha" y_SH_spreadWords y_SH_spreadWords) ∈ tb := tb_0 (List.mem_of_getElem? (i := 1) rfl) rfl
theorem mx_SH_mixBlock : (Cond.selects "ActionDigests$Sha" y_SH_mixBlock y_SH_mixBlock) ∈ tb := tb_0 (List.mem_of_getElem? (i := 2) rfl) rfl
theorem mx_AD_actionAt : (Cond.selects "ActionDigests" y_AD_actionAt y_AD_actionAt) ∈ tb := tb_0 (List.mem_of_getElem? (i := 3) rfl) rfl
theorem mx_AD_countingRowAt : (Cond.selects "ActionDigests" y_AD_countingRowAt y_AD_countingRowAt) ∈ tb := tb_0 (List.mem_of_getElem? (i := 4) rfl) rfl
theorem mx_AD_counts : (Cond.selects "ActionDigests" y_AD_counts y_AD_counts) ∈ tb := tb_0 (List.mem_of_getElem? (i := 5) rfl) rfl
theorem mx_AD_isAllowed : (Cond.selects "ActionDigests" y_AD_isAllowed y_AD_isAllowed) ∈ tb := tb_0 (List.mem_of_getElem? (i := 6) rfl) rfl
theorem mx_AD_rowInOrder : (Cond.selects "ActionDigests" y_AD_rowInOrder y_AD_rowInOrder) ∈ tb := tb_0 (List.mem_of_getElem? (i := 7) rfl) rfl
theorem mx_AD_feedRow : (Cond.selects "ActionDigests" y_AD_feedRow y_AD_feedRow) ∈ tb := tb_0 (List.mem_of_getElem? (i := 8) rfl) rfl
theorem mx_TH_fillInStackTrace : (Cond.selects "java/lang/Throwable" ⟨"java/lang/Throwable", "fillInStackTrace", "(I)Ljava/lang/Throwable;"⟩ ⟨"java/lang/Throwable", "fillInStackTrace", "(I)Ljava/lang/Throwable;"⟩) ∈ tb := tb_0 (List.mem_of_getElem? (i := 9) rfl) rfl
theorem mx_AD_bodyOf : (Cond.selects "ActionDigests" y_AD_bodyOf y_AD_bodyOf) ∈ tb := tb_0 (List.mem_of_getElem? (i := 10) rfl) rfl
theorem mx_MD_sumUp : (Cond.selects "ActionDigestsModel" y_MD_sumUp y_MD_sumUp) ∈ tb := tb_0 (List.mem_of_getElem? (i := 11) rfl) rfl
theorem mx_MD_byteAt : (Cond.selects "ActionDigestsModel" y_MD_byteAt y_MD_byteAt) ∈ tb := tb_0 (List.mem_of_getElem? (i := 12) rfl) rfl
theorem mx_MD_mixIn : (Cond.selects "ActionDigestsModel" y_MD_mixIn y_MD_mixIn) ∈ tb := tb_0 (List.mem_of_getElem? (i := 13) rfl) rfl
theorem mx_MD_keepSum : (Cond.selects "ActionDigestsModel" y_MD_keepSum y_MD_keepSum) ∈ tb := tb_0 (List.mem_of_getElem? (i := 14) rfl) rfl
theorem mx_MD_takes : (Cond.selects "ActionDigestsModel" y_MD_takes y_MD_takes) ∈ tb := tb_0 (List.mem_of_getElem? (i := 15) rfl) rfl
theorem mx_MD_isAction : (Cond.selects "ActionDigestsModel" y_MD_isAction y_MD_isAction) ∈ tb := tb_0 (List.mem_of_getElem? (i := 16) rfl) rfl
theorem mx_MD_keyOf : (Cond.selects "ActionDigestsModel" y_MD_keyOf y_MD_keyOf) ∈ tb := tb_0 (List.mem_of_getElem? (i := 17) rfl) rfl
theorem mx_MD_isPath : (Cond.selects "ActionDigestsModel" y_MD_isPath y_MD_isPath) ∈ tb := tb_0 (List.mem_of_getElem? (i := 18) rfl) rfl
theorem mx_MD_isName : (Cond.selects "ActionDigestsModel" y_MD_isName y_MD_isName) ∈ tb := tb_0 (List.mem_of_getElem? (i := 19) rfl) rfl
theorem mx_MD_hasKey : (Cond.selects "ActionDigestsModel" y_MD_hasKey y_MD_hasKey) ∈ tb := tb_0 (List.mem_of_getElem? (i := 20) rfl) rfl
theorem mx_MD_place : (Cond.selects "ActionDigestsModel" y_MD_place y_MD_place) ∈ tb := tb_0 (List.mem_of_getElem? (i := 21) rfl) rfl
theorem mx_MD_refuses : (Cond.selects "ActionDigestsModel" y_MD_refuses y_MD_refuses) ∈ tb := tb_0 (List.mem_of_getElem? (i := 22) rfl) rfl
theorem mx_MD_counting : (Cond.selects "ActionDigestsModel" y_MD_counting y_MD_counting) ∈ tb := tb_0 (List.mem_of_getElem? (i := 23) rfl) rfl
theorem mx_MD_isAllowed : (Cond.selects "ActionDigestsModel" y_MD_isAllowed y_MD_isAllowed) ∈ tb := tb_0 (List.mem_of_getElem? (i := 24) rfl) rfl
theorem mx_MD_rowAt : (Cond.selects "ActionDigestsModel" y_MD_rowAt y_MD_rowAt) ∈ tb := tb_0 (List.mem_of_getElem? (i := 25) rfl) rfl
theorem mx_MD_isBefore : (Cond.selects "ActionDigestsModel" y_MD_isBefore y_MD_isBefore) ∈ tb := tb_0 (List.mem_of_getElem? (i := 26) rfl) rfl
theorem mx_MD_write : (Cond.selects "ActionDigestsModel" y_MD_write y_MD_write) ∈ tb := tb_0 (List.mem_of_getElem? (i := 27) rfl) rfl
theorem mx_MD_put : (Cond.selects "ActionDigestsModel" y_MD_put y_MD_put) ∈ tb := tb_0 (List.mem_of_getElem? (i := 28) rfl) rfl
theorem mx_MD_same : (Cond.selects "ActionDigestsModel" y_MD_same y_MD_same) ∈ tb := tb_0 (List.mem_of_getElem? (i := 29) rfl) rfl
theorem mz_LW : (Cond.initialized "ActionDigestsLaw") ∈ tb := tb_1 (List.mem_of_getElem? (i := 0) rfl) rfl
theorem mz_AD : (Cond.initialized "ActionDigests") ∈ tb := tb_1 (List.mem_of_getElem? (i := 1) rfl) rfl
theorem mz_TX : (Cond.initialized "ActionDigests$Text") ∈ tb := tb_1 (List.mem_of_getElem? (i := 2) rfl) rfl
theorem mz_SH : (Cond.initialized "ActionDigests$Sha") ∈ tb := tb_1 (List.mem_of_getElem? (i := 3) rfl) rfl
theorem mz_MD : (Cond.initialized "ActionDigestsModel") ∈ tb := tb_1 (List.mem_of_getElem? (i := 4) rfl) rfl
theorem mz_TH : (Cond.initialized "java/lang/Throwable") ∈ tb := tb_1 (List.mem_of_getElem? (i := 5) rfl) rfl
theorem mz_EX : (Cond.initialized "java/lang/Exception") ∈ tb := tb_1 (List.mem_of_getElem? (i := 6) rfl) rfl
theorem mz_RE : (Cond.initialized "java/lang/RuntimeException") ∈ tb := tb_1 (List.mem_of_getElem? (i := 7) rfl) rfl
theorem mz_IS : (Cond.initialized "java/lang/IllegalStateException") ∈ tb := tb_1 (List.mem_of_getElem? (i := 8) rfl) rfl
theorem mz_AC : (Cond.initialized "ActionDigests$Action") ∈ tb := tb_1 (List.mem_of_getElem? (i := 9) rfl) rfl
theorem mz_IA : (Cond.initialized "java/lang/IllegalArgumentException") ∈ tb := tb_1 (List.mem_of_getElem? (i := 10) rfl) rfl
theorem mz_FM : (Cond.initialized "ActionDigests$Forms") ∈ tb := tb_1 (List.mem_of_getElem? (i := 11) rfl) rfl
theorem mz_KY : (Cond.initialized "ActionDigests$Key") ∈ tb := tb_1 (List.mem_of_getElem? (i := 12) rfl) rfl
theorem mz_MA : (Cond.initialized "java/lang/Math") ∈ tb := tb_1 (List.mem_of_getElem? (i := 13) rfl) rfl
theorem mz_RW : (Cond.initialized "ActionDigests$Row") ∈ tb := tb_1 (List.mem_of_getElem? (i := 14) rfl) rfl
theorem mk_LW_8 : (Cond.classLink "ActionDigestsLaw" 8 "ActionDigests") ∈ tb := tb_1 (List.mem_of_getElem? (i := 15) rfl) rfl
theorem mt_AD : (Cond.instantiable "ActionDigests" 8) ∈ tb := tb_1 (List.mem_of_getElem? (i := 16) rfl) rfl
theorem ml_LW_30 : (Cond.methodLink "ActionDigestsLaw" 30 y_AD_init) ∈ tb := tb_1 (List.mem_of_getElem? (i := 17) rfl) rfl
theorem mi_AD_init : (Cond.instanceMethod y_AD_init) ∈ tb := tb_1 (List.mem_of_getElem? (i := 18) rfl) rfl
theorem mc_AD_init : (Cond.code y_AD_init b_AD_init 1 none) ∈ tb := tb_1 (List.mem_of_getElem? (i := 19) rfl) rfl
theorem ml_AD_1 : (Cond.methodLink "ActionDigests" 1 ⟨"java/lang/Object", "<init>", "()V"⟩) ∈ tb := tb_1 (List.mem_of_getElem? (i := 20) rfl) rfl
theorem mi_OB_init : (Cond.instanceMethod ⟨"java/lang/Object", "<init>", "()V"⟩) ∈ tb := tb_1 (List.mem_of_getElem? (i := 21) rfl) rfl
theorem mc_OB_init : (Cond.code ⟨"java/lang/Object", "<init>", "()V"⟩ object_method_1_code 1 none) ∈ tb := tb_1 (List.mem_of_getElem? (i := 22) rfl) rfl
theorem mk_AD_7 : (Cond.classLink "ActionDigests" 7 "ActionDigests$Text") ∈ tb := tb_1 (List.mem_of_getElem? (i := 23) rfl) rfl
theorem mt_TX : (Cond.instantiable "ActionDigests$Text" 2) ∈ tb := tb_1 (List.mem_of_getElem? (i := 24) rfl) rfl
theorem mi_TX_init : (Cond.instanceMethod y_TX_init) ∈ tb := tb_1 (List.mem_of_getElem? (i := 26) rfl) rfl
theorem mc_TX_init : (Cond.code y_TX_init b_TX_init 1 none) ∈ tb := tb_1 (List.mem_of_getElem? (i := 27) rfl) rfl
theorem ml_TX_3 : (Cond.methodLink "ActionDigests$Text" 3 ⟨"java/lang/Object", "<init>", "()V"⟩) ∈ tb := tb_1 (List.mem_of_getElem? (i := 28) rfl) rfl
theorem mf_TX_9 : (Cond.fieldLink "ActionDigests$Text" 9 "ActionDigests$Text" "characters" "[C") ∈ tb := tb_1 (List.mem_of_getElem? (i := 29) rfl) rfl
theorem mf_TX_15 : (Cond.fieldLink "ActionDigests$Text" 15 "ActionDigests$Text" "length" "I") ∈ tb := tb_1 (List.mem_of_getElem? (i := 30) rfl) rfl
theorem ma_char : (Cond.arrayClass .char) ∈ tb := tb_1 (List.mem_of_getElem? (i := 36) rfl) rfl
theorem mk_AD_16 : (Cond.classLink "ActionDigests" 16 "ActionDigests$Sha") ∈ tb := tb_1 (List.mem_of_getElem? (i := 37) rfl) rfl
theorem mt_SH : (Cond.instantiable "ActionDigests$Sha" 4) ∈ tb := tb_1 (List.mem_of_getElem? (i := 38) rfl) rfl
theorem mi_SH_init : (Cond.instanceMethod y_SH_init) ∈ tb := tb_1 (List.mem_of_getElem? (i := 40) rfl) rfl
theorem mc_SH_init : (Cond.code y_SH_init b_SH_init 1 none) ∈ tb := tb_1 (List.mem_of_getElem? (i := 41) rfl) rfl
theorem ml_SH_3 : (Cond.methodLink "ActionDigests$Sha" 3 ⟨"java/lang/Object", "<init>", "()V"⟩) ∈ tb := tb_1 (List.mem_of_getElem? (i := 42) rfl) rfl
theorem mf_SH_9 : (Cond.fieldLink "ActionDigests$Sha" 9 "ActionDigests$Sha" "sums" "[I") ∈ tb := tb_1 (List.mem_of_getElem? (i := 43) rfl) rfl
theorem mf_AD_174 : (Cond.fieldLink "ActionDigests" 174 "ActionDigests$Sha" "sums" "[I") ∈ tb := tb_1 (List.mem_of_getElem? (i := 44) rfl) rfl
theorem mf_SH_15 : (Cond.fieldLink "ActionDigests$Sha" 15 "ActionDigests$Sha" "words" "[I") ∈ tb := tb_1 (List.mem_of_getElem? (i := 45) rfl) rfl
theorem mf_SH_18 : (Cond.fieldLink "ActionDigests$Sha" 18 "ActionDigests$Sha" "filled" "I") ∈ tb := tb_1 (List.mem_of_getElem? (i := 46) rfl) rfl
theorem mf_SH_22 : (Cond.fieldLink "ActionDigests$Sha" 22 "ActionDigests$Sha" "fed" "J") ∈ tb := tb_1 (List.mem_of_getElem? (i := 47) rfl) rfl
theorem ma_int : (Cond.arrayClass .int) ∈ tb := tb_1 (List.mem_of_getElem? (i := 57) rfl) rfl
theorem mk_AD_23 : (Cond.classLink "ActionDigests" 23 "ActionDigests$Action") ∈ tb := tb_1 (List.mem_of_getElem? (i := 58) rfl) rfl
theorem mk_AD_33 : (Cond.classLink "ActionDigests" 33 "ActionDigests$Key") ∈ tb := tb_1 (List.mem_of_getElem? (i := 60) rfl) rfl
theorem ml_AD_49 : (Cond.methodLink "ActionDigests" 49 y_AD_holdContent) ∈ tb := tb_1 (List.mem_of_getElem? (i := 62) rfl) rfl
theorem mi_AD_holdContent : (Cond.instanceMethod y_AD_holdContent) ∈ tb := tb_1 (List.mem_of_getElem? (i := 64) rfl) rfl
theorem mc_AD_holdContent : (Cond.code y_AD_holdContent b_AD_holdContent 2 none) ∈ tb := tb_1 (List.mem_of_getElem? (i := 65) rfl) rfl
theorem ml_AD_162 : (Cond.methodLink "ActionDigests" 162 y_SH_begin) ∈ tb := tb_1 (List.mem_of_getElem? (i := 66) rfl) rfl
theorem mi_SH_begin : (Cond.instanceMethod y_SH_begin) ∈ tb := tb_1 (List.mem_of_getElem? (i := 67) rfl) rfl
theorem mx_SH_begin : (Cond.selects "ActionDigests$Sha" y_SH_begin y_SH_begin) ∈ tb := tb_1 (List.mem_of_getElem? (i := 68) rfl) rfl
theorem mc_SH_begin : (Cond.code y_SH_begin b_SH_begin 2 none) ∈ tb := tb_1 (List.mem_of_getElem? (i := 69) rfl) rfl
theorem ml_AD_165 : (Cond.methodLink "ActionDigests" 165 y_SH_feedAll) ∈ tb := tb_1 (List.mem_of_getElem? (i := 72) rfl) rfl
theorem mi_SH_feedAll : (Cond.instanceMethod y_SH_feedAll) ∈ tb := tb_1 (List.mem_of_getElem? (i := 73) rfl) rfl
theorem mx_SH_feedAll : (Cond.selects "ActionDigests$Sha" y_SH_feedAll y_SH_feedAll) ∈ tb := tb_1 (List.mem_of_getElem? (i := 74) rfl) rfl
theorem mc_SH_feedAll : (Cond.code y_SH_feedAll b_SH_feedAll 3 none) ∈ tb := tb_1 (List.mem_of_getElem? (i := 75) rfl) rfl
theorem ml_SH_29 : (Cond.methodLink "ActionDigests$Sha" 29 y_SH_feed) ∈ tb := tb_1 (List.mem_of_getElem? (i := 76) rfl) rfl
theorem mi_SH_feed : (Cond.instanceMethod y_SH_feed) ∈ tb := tb_1 (List.mem_of_getElem? (i := 77) rfl) rfl
theorem mx_SH_feed : (Cond.selects "ActionDigests$Sha" y_SH_feed y_SH_feed) ∈ tb := tb_1 (List.mem_of_getElem? (i := 78) rfl) rfl
theorem mc_SH_feed : (Cond.code y_SH_feed b_SH_feed 3 none) ∈ tb := tb_1 (List.mem_of_getElem? (i := 79) rfl) rfl
theorem ml_SH_33 : (Cond.methodLink "ActionDigests$Sha" 33 y_SH_spreadWords) ∈ tb := tb_1 (List.mem_of_getElem? (i := 80) rfl) rfl
theorem mi_SH_spreadWords : (Cond.instanceMethod y_SH_spreadWords) ∈ tb := tb_1 (List.mem_of_getElem? (i := 82) rfl) rfl
theorem mc_SH_spreadWords : (Cond.code y_SH_spreadWords b_SH_spreadWords 6 none) ∈ tb := tb_1 (List.mem_of_getElem? (i := 83) rfl) rfl
theorem ml_SH_43 : (Cond.methodLink "ActionDigests$Sha" 43 y_SH_turned) ∈ tb := tb_1 (List.mem_of_getElem? (i := 84) rfl) rfl
theorem ms_SH_turned : (Cond.static y_SH_turned) ∈ tb := tb_1 (List.mem_of_getElem? (i := 85) rfl) rfl
theorem mc_SH_turned : (Cond.code y_SH_turned b_SH_turned 2 (some .int)) ∈ tb := tb_1 (List.mem_of_getElem? (i := 86) rfl) rfl
theorem ml_SH_36 : (Cond.methodLink "ActionDigests$Sha" 36 y_SH_mixBlock) ∈ tb := tb_1 (List.mem_of_getElem? (i := 87) rfl) rfl
theorem mi_SH_mixBlock : (Cond.instanceMethod y_SH_mixBlock) ∈ tb := tb_1 (List.mem_of_getElem? (i := 89) rfl) rfl
theorem mc_SH_mixBlock : (Cond.code y_SH_mixBlock b_SH_mixBlock 14 none) ∈ tb := tb_1 (List.mem_of_getElem? (i := 90) rfl) rfl
theorem ml_AD_171 : (Cond.methodLink "ActionDigests" 171 y_SH_end) ∈ tb := tb_1 (List.mem_of_getElem? (i := 93) rfl) rfl
theorem mi_SH_end : (Cond.instanceMethod y_SH_end) ∈ tb := tb_1 (List.mem_of_getElem? (i := 94) rfl) rfl
theorem mx_SH_end : (Cond.selects "ActionDigests$Sha" y_SH_end y_SH_end) ∈ tb := tb_1 (List.mem_of_getElem? (i := 95) rfl) rfl
theorem mc_SH_end : (Cond.code y_SH_end b_SH_end 4 none) ∈ tb := tb_1 (List.mem_of_getElem? (i := 96) rfl) rfl
theorem mq_SH_39 : (Cond.constantLong "ActionDigests$Sha" 39 (8 : Int64)) ∈ tb := tb_1 (List.mem_of_getElem? (i := 97) rfl) rfl
theorem mq_SH_41 : (Cond.constantLong "ActionDigests$Sha" 41 (255 : Int64)) ∈ tb := tb_1 (List.mem_of_getElem? (i := 98) rfl) rfl
theorem ml_AD_187 : (Cond.methodLink "ActionDigests" 187 y_SH_writeDigits) ∈ tb := tb_1 (List.mem_of_getElem? (i := 99) rfl) rfl
theorem mi_SH_writeDigits : (Cond.instanceMethod y_SH_writeDigits) ∈ tb := tb_1 (List.mem_of_getElem? (i := 100) rfl) rfl
theorem mx_SH_writeDigits : (Cond.selects "ActionDigests$Sha" y_SH_writeDigits y_SH_writeDigits) ∈ tb := tb_1 (List.mem_of_getElem? (i := 101) rfl) rfl
theorem mc_SH_writeDigits : (Cond.code y_SH_writeDigits b_SH_writeDigits 4 none) ∈ tb := tb_1 (List.mem_of_getElem? (i := 102) rfl) rfl
theorem mf_AD_10 : (Cond.fieldLink "ActionDigests" 10 "ActionDigests" "text" "LActionDigests$Text;") ∈ tb := tb_1 (List.mem_of_getElem? (i := 103) rfl) rfl
theorem mf_AD_19 : (Cond.fieldLink "ActionDigests" 19 "ActionDigests" "sha" "LActionDigests$Sha;") ∈ tb := tb_1 (List.mem_of_getElem? (i := 104) rfl) rfl
theorem mf_AD_25 : (Cond.fieldLink "ActionDigests" 25 "ActionDigests" "actions" "[LActionDigests$Action;") ∈ tb := tb_1 (List.mem_of_getElem? (i := 105) rfl) rfl
theorem mf_AD_29 : (Cond.fieldLink "ActionDigests" 29 "ActionDigests" "actionCount" "I") ∈ tb := tb_1 (List.mem_of_getElem? (i := 106) rfl) rfl
theorem mf_AD_35 : (Cond.fieldLink "ActionDigests" 35 "ActionDigests" "allowed" "[LActionDigests$Key;") ∈ tb := tb_1 (List.mem_of_getElem? (i := 107) rfl) rfl
theorem mf_AD_39 : (Cond.fieldLink "ActionDigests" 39 "ActionDigests" "allowedCount" "I") ∈ tb := tb_1 (List.mem_of_getElem? (i := 108) rfl) rfl
theorem mf_AD_42 : (Cond.fieldLink "ActionDigests" 42 "ActionDigests" "saltCharacters" "[C") ∈ tb := tb_1 (List.mem_of_getElem? (i := 109) rfl) rfl
theorem mf_AD_46 : (Cond.fieldLink "ActionDigests" 46 "ActionDigests" "heldDigits" "[C") ∈ tb := tb_1 (List.mem_of_getElem? (i := 110) rfl) rfl
theorem ml_LW_34 : (Cond.methodLink "ActionDigestsLaw" 34 y_AD_type) ∈ tb := tb_1 (List.mem_of_getElem? (i := 128) rfl) rfl
theorem mi_AD_type : (Cond.instanceMethod y_AD_type) ∈ tb := tb_1 (List.mem_of_getElem? (i := 129) rfl) rfl
theorem mx_AD_type : (Cond.selects "ActionDigests" y_AD_type y_AD_type) ∈ tb := tb_1 (List.mem_of_getElem? (i := 130) rfl) rfl
theorem mc_AD_type : (Cond.code y_AD_type b_AD_type 2 (some .boolean)) ∈ tb := tb_1 (List.mem_of_getElem? (i := 131) rfl) rfl
theorem ml_AD_53 : (Cond.methodLink "ActionDigests" 53 y_TX_append) ∈ tb := tb_1 (List.mem_of_getElem? (i := 132) rfl) rfl
theorem mi_TX_append : (Cond.instanceMethod y_TX_append) ∈ tb := tb_1 (List.mem_of_getElem? (i := 133) rfl) rfl
theorem mx_TX_append : (Cond.selects "ActionDigests$Text" y_TX_append y_TX_append) ∈ tb := tb_1 (List.mem_of_getElem? (i := 134) rfl) rfl
theorem mc_TX_append : (Cond.code y_TX_append b_TX_append 2 (some .boolean)) ∈ tb := tb_1 (List.mem_of_getElem? (i := 135) rfl) rfl
theorem ml_LW_48 : (Cond.methodLink "ActionDigestsLaw" 48 y_AD_hold) ∈ tb := tb_1 (List.mem_of_getElem? (i := 136) rfl) rfl
theorem mi_AD_hold : (Cond.instanceMethod y_AD_hold) ∈ tb := tb_1 (List.mem_of_getElem? (i := 137) rfl) rfl
theorem mx_AD_hold : (Cond.selects "ActionDigests" y_AD_hold y_AD_hold) ∈ tb := tb_1 (List.mem_of_getElem? (i := 138) rfl) rfl
theorem mc_AD_hold : (Cond.code y_AD_hold b_AD_hold 1 none) ∈ tb := tb_1 (List.mem_of_getElem? (i := 139) rfl) rfl
theorem ml_AD_65 : (Cond.methodLink "ActionDigests" 65 y_TX_take) ∈ tb := tb_1 (List.mem_of_getElem? (i := 140) rfl) rfl
theorem mi_TX_take : (Cond.instanceMethod y_TX_take) ∈ tb := tb_1 (List.mem_of_getElem? (i := 141) rfl) rfl
theorem mx_TX_take : (Cond.selects "ActionDigests$Text" y_TX_take y_TX_take) ∈ tb := tb_1 (List.mem_of_getElem? (i := 142) rfl) rfl
theorem mc_TX_take : (Cond.code y_TX_take b_TX_take 3 (some (.array .char))) ∈ tb := tb_1 (List.mem_of_getElem? (i := 143) rfl) rfl
theorem ml_LW_66 : (Cond.methodLink "ActionDigestsLaw" 66 y_AD_rows) ∈ tb := tb_1 (List.mem_of_getElem? (i := 144) rfl) rfl
theorem mi_AD_rows : (Cond.instanceMethod y_AD_rows) ∈ tb := tb_1 (List.mem_of_getElem? (i := 145) rfl) rfl
theorem mx_AD_rows : (Cond.selects "ActionDigests" y_AD_rows y_AD_rows) ∈ tb := tb_1 (List.mem_of_getElem? (i := 146) rfl) rfl
theorem mc_AD_rows : (Cond.code y_AD_rows b_AD_rows 5 (some .int)) ∈ tb := tb_1 (List.mem_of_getElem? (i := 147) rfl) rfl
theorem ml_AD_69 : (Cond.methodLink "ActionDigests" 69 y_AD_actionAt) ∈ tb := tb_1 (List.mem_of_getElem? (i := 148) rfl) rfl
theorem mi_AD_actionAt : (Cond.instanceMethod y_AD_actionAt) ∈ tb := tb_1 (List.mem_of_getElem? (i := 150) rfl) rfl
theorem mc_AD_actionAt : (Cond.code y_AD_actionAt b_AD_actionAt 2 (some (.object "ActionDigests$Action"))) ∈ tb := tb_1 (List.mem_of_getElem? (i := 151) rfl) rfl
theorem ml_AD_144 : (Cond.methodLink "ActionDigests" 144 y_AD_countingRowAt) ∈ tb := tb_1 (List.mem_of_getElem? (i := 152) rfl) rfl
theorem mi_AD_countingRowAt : (Cond.instanceMethod y_AD_countingRowAt) ∈ tb := tb_1 (List.mem_of_getElem? (i := 154) rfl) rfl
theorem mc_AD_countingRowAt : (Cond.code y_AD_countingRowAt b_AD_countingRowAt 4 (some (.object "ActionDigests$Row"))) ∈ tb := tb_1 (List.mem_of_getElem? (i := 155) rfl) rfl
theorem ml_AD_198 : (Cond.methodLink "ActionDigests" 198 y_AC_rowAt) ∈ tb := tb_1 (List.mem_of_getElem? (i := 156) rfl) rfl
theorem mi_AC_rowAt : (Cond.instanceMethod y_AC_rowAt) ∈ tb := tb_1 (List.mem_of_getElem? (i := 157) rfl) rfl
theorem mx_AC_rowAt : (Cond.selects "ActionDigests$Action" y_AC_rowAt y_AC_rowAt) ∈ tb := tb_1 (List.mem_of_getElem? (i := 158) rfl) rfl
theorem mc_AC_rowAt : (Cond.code y_AC_rowAt b_AC_rowAt 2 (some (.object "ActionDigests$Row"))) ∈ tb := tb_1 (List.mem_of_getElem? (i := 159) rfl) rfl
theorem ml_AD_202 : (Cond.methodLink "ActionDigests" 202 y_AD_counts) ∈ tb := tb_1 (List.mem_of_getElem? (i := 160) rfl) rfl
theorem mi_AD_counts : (Cond.instanceMethod y_AD_counts) ∈ tb := tb_1 (List.mem_of_getElem? (i := 162) rfl) rfl
theorem mc_AD_counts : (Cond.code y_AD_counts b_AD_counts 2 (some .boolean)) ∈ tb := tb_1 (List.mem_of_getElem? (i := 163) rfl) rfl
theorem ml_AD_134 : (Cond.methodLink "ActionDigests" 134 y_AD_isAllowed) ∈ tb := tb_1 (List.mem_of_getElem? (i := 164) rfl) rfl
theorem mi_AD_isAllowed : (Cond.instanceMethod y_AD_isAllowed) ∈ tb := tb_1 (List.mem_of_getElem? (i := 166) rfl) rfl
theorem mc_AD_isAllowed : (Cond.code y_AD_isAllowed b_AD_isAllowed 4 (some .boolean)) ∈ tb := tb_1 (List.mem_of_getElem? (i := 167) rfl) rfl
theorem ml_AD_190 : (Cond.methodLink "ActionDigests" 190 y_KY_compareWith) ∈ tb := tb_1 (List.mem_of_getElem? (i := 168) rfl) rfl
theorem mi_KY_compareWith : (Cond.instanceMethod y_KY_compareWith) ∈ tb := tb_1 (List.mem_of_getElem? (i := 169) rfl) rfl
theorem mx_KY_compareWith : (Cond.selects "ActionDigests$Key" y_KY_compareWith y_KY_compareWith) ∈ tb := tb_1 (List.mem_of_getElem? (i := 170) rfl) rfl
theorem mc_KY_compareWith : (Cond.code y_KY_compareWith b_KY_compareWith 4 (some .int)) ∈ tb := tb_1 (List.mem_of_getElem? (i := 171) rfl) rfl
theorem ml_KY_13 : (Cond.methodLink "ActionDigests$Key" 13 ⟨"java/lang/Math", "min", "(II)I"⟩) ∈ tb := tb_1 (List.mem_of_getElem? (i := 172) rfl) rfl
theorem ms_MA_min : (Cond.static ⟨"java/lang/Math", "min", "(II)I"⟩) ∈ tb := tb_1 (List.mem_of_getElem? (i := 173) rfl) rfl
theorem mc_MA_min : (Cond.code ⟨"java/lang/Math", "min", "(II)I"⟩ prog_13_method_69_code 2 (some .int)) ∈ tb := tb_1 (List.mem_of_getElem? (i := 174) rfl) rfl
theorem ml_LW_71 : (Cond.methodLink "ActionDigestsLaw" 71 y_AD_kind) ∈ tb := tb_1 (List.mem_of_getElem? (i := 175) rfl) rfl
theorem mi_AD_kind : (Cond.instanceMethod y_AD_kind) ∈ tb := tb_1 (List.mem_of_getElem? (i := 176) rfl) rfl
theorem mx_AD_kind : (Cond.selects "ActionDigests" y_AD_kind y_AD_kind) ∈ tb := tb_1 (List.mem_of_getElem? (i := 177) rfl) rfl
theorem mc_AD_kind : (Cond.code y_AD_kind b_AD_kind 5 (some .int)) ∈ tb := tb_1 (List.mem_of_getElem? (i := 178) rfl) rfl
theorem ml_AD_148 : (Cond.methodLink "ActionDigests" 148 y_AD_rowInOrder) ∈ tb := tb_1 (List.mem_of_getElem? (i := 179) rfl) rfl
theorem mi_AD_rowInOrder : (Cond.instanceMethod y_AD_rowInOrder) ∈ tb := tb_1 (List.mem_of_getElem? (i := 181) rfl) rfl
theorem mc_AD_rowInOrder : (Cond.code y_AD_rowInOrder b_AD_rowInOrder 6 (some (.object "ActionDigests$Row"))) ∈ tb := tb_1 (List.mem_of_getElem? (i := 182) rfl) rfl
theorem ml_LW_76 : (Cond.methodLink "ActionDigestsLaw" 76 y_AD_size) ∈ tb := tb_1 (List.mem_of_getElem? (i := 183) rfl) rfl
theorem mi_AD_size : (Cond.instanceMethod y_AD_size) ∈ tb := tb_1 (List.mem_of_getElem? (i := 184) rfl) rfl
theorem mx_AD_size : (Cond.selects "ActionDigests" y_AD_size y_AD_size) ∈ tb := tb_1 (List.mem_of_getElem? (i := 185) rfl) rfl
theorem mc_AD_size : (Cond.code y_AD_size b_AD_size 6 (some .int)) ∈ tb := tb_1 (List.mem_of_getElem? (i := 186) rfl) rfl
theorem ml_AD_154 : (Cond.methodLink "ActionDigests" 154 y_RW_stableLength) ∈ tb := tb_1 (List.mem_of_getElem? (i := 187) rfl) rfl
theorem mi_RW_stableLength : (Cond.instanceMethod y_RW_stableLength) ∈ tb := tb_1 (List.mem_of_getElem? (i := 188) rfl) rfl
theorem mx_RW_stableLength : (Cond.selects "ActionDigests$Row" y_RW_stableLength y_RW_stableLength) ∈ tb := tb_1 (List.mem_of_getElem? (i := 189) rfl) rfl
theorem mc_RW_stableLength : (Cond.code y_RW_stableLength b_RW_stableLength 1 (some .int)) ∈ tb := tb_1 (List.mem_of_getElem? (i := 190) rfl) rfl
theorem ml_LW_80 : (Cond.methodLink "ActionDigestsLaw" 80 y_AD_character) ∈ tb := tb_1 (List.mem_of_getElem? (i := 191) rfl) rfl
theorem mi_AD_character : (Cond.instanceMethod y_AD_character) ∈ tb := tb_1 (List.mem_of_getElem? (i := 192) rfl) rfl
theorem mx_AD_character : (Cond.selects "ActionDigests" y_AD_character y_AD_character) ∈ tb := tb_1 (List.mem_of_getElem? (i := 193) rfl) rfl
theorem mc_AD_character : (Cond.code y_AD_character b_AD_character 7 (some .int)) ∈ tb := tb_1 (List.mem_of_getElem? (i := 194) rfl) rfl
theorem ml_AD_158 : (Cond.methodLink "ActionDigests" 158 y_RW_stableCharacter) ∈ tb := tb_1 (List.mem_of_getElem? (i := 195) rfl) rfl
theorem mi_RW_stableCharacter : (Cond.instanceMethod y_RW_stableCharacter) ∈ tb := tb_1 (List.mem_of_getElem? (i := 196) rfl) rfl
theorem mx_RW_stableCharacter : (Cond.selects "ActionDigests$Row" y_RW_stableCharacter y_RW_stableCharacter) ∈ tb := tb_1 (List.mem_of_getElem? (i := 197) rfl) rfl
theorem mc_RW_stableCharacter : (Cond.code y_RW_stableCharacter b_RW_stableCharacter 3 (some .int)) ∈ tb := tb_1 (List.mem_of_getElem? (i := 198) rfl) rfl
theorem ml_LW_84 : (Cond.methodLink "ActionDigestsLaw" 84 y_AD_digest) ∈ tb := tb_1 (List.mem_of_getElem? (i := 199) rfl) rfl
theorem mi_AD_digest : (Cond.instanceMethod y_AD_digest) ∈ tb := tb_1 (List.mem_of_getElem? (i := 200) rfl) rfl
theorem mx_AD_digest : (Cond.selects "ActionDigests" y_AD_digest y_AD_digest) ∈ tb := tb_1 (List.mem_of_getElem? (i := 201) rfl) rfl
theorem mc_AD_digest : (Cond.code y_AD_digest b_AD_digest 6 (some .int)) ∈ tb := tb_1 (List.mem_of_getElem? (i := 202) rfl) rfl
theorem ml_AD_168 : (Cond.methodLink "ActionDigests" 168 y_AD_feedRow) ∈ tb := tb_1 (List.mem_of_getElem? (i := 203) rfl) rfl
theorem mi_AD_feedRow : (Cond.instanceMethod y_AD_feedRow) ∈ tb := tb_1 (List.mem_of_getElem? (i := 205) rfl) rfl
theorem mc_AD_feedRow : (Cond.code y_AD_feedRow b_AD_feedRow 4 none) ∈ tb := tb_1 (List.mem_of_getElem? (i := 206) rfl) rfl
theorem ml_AD_205 : (Cond.methodLink "ActionDigests" 205 y_SH_feed) ∈ tb := tb_1 (List.mem_of_getElem? (i := 207) rfl) rfl
theorem ml_LW_88 : (Cond.methodLink "ActionDigestsLaw" 88 y_AD_differ) ∈ tb := tb_1 (List.mem_of_getElem? (i := 208) rfl) rfl
theorem mi_AD_differ : (Cond.instanceMethod y_AD_differ) ∈ tb := tb_1 (List.mem_of_getElem? (i := 209) rfl) rfl
theorem mx_AD_differ : (Cond.selects "ActionDigests" y_AD_differ y_AD_differ) ∈ tb := tb_1 (List.mem_of_getElem? (i := 210) rfl) rfl
theorem mc_AD_differ : (Cond.code y_AD_differ b_AD_differ 8 (some .int)) ∈ tb := tb_1 (List.mem_of_getElem? (i := 211) rfl) rfl
theorem ml_AD_178 : (Cond.methodLink "ActionDigests" 178 y_RW_isLike) ∈ tb := tb_1 (List.mem_of_getElem? (i := 212) rfl) rfl
theorem mi_RW_isLike : (Cond.instanceMethod y_RW_isLike) ∈ tb := tb_1 (List.mem_of_getElem? (i := 213) rfl) rfl
theorem mx_RW_isLike : (Cond.selects "ActionDigests$Row" y_RW_isLike y_RW_isLike) ∈ tb := tb_1 (List.mem_of_getElem? (i := 214) rfl) rfl
theorem mc_RW_isLike : (Cond.code y_RW_isLike b_RW_isLike 3 (some .boolean)) ∈ tb := tb_1 (List.mem_of_getElem? (i := 215) rfl) rfl
theorem ml_LW_92 : (Cond.methodLink "ActionDigestsLaw" 92 y_AD_constant) ∈ tb := tb_1 (List.mem_of_getElem? (i := 216) rfl) rfl
theorem mi_AD_constant : (Cond.instanceMethod y_AD_constant) ∈ tb := tb_1 (List.mem_of_getElem? (i := 217) rfl) rfl
theorem mx_AD_constant : (Cond.selects "ActionDigests" y_AD_constant y_AD_constant) ∈ tb := tb_1 (List.mem_of_getElem? (i := 218) rfl) rfl
theorem mc_AD_constant : (Cond.code y_AD_constant b_AD_constant 2 (some .int)) ∈ tb := tb_1 (List.mem_of_getElem? (i := 219) rfl) rfl
theorem mf_AD_181 : (Cond.fieldLink "ActionDigests" 181 "ActionDigests" "ROUND_CONSTANTS" "[I") ∈ tb := tb_1 (List.mem_of_getElem? (i := 220) rfl) rfl
theorem mf_AD_184 : (Cond.fieldLink "ActionDigests" 184 "ActionDigests" "FIRST_SUMS" "[I") ∈ tb := tb_1 (List.mem_of_getElem? (i := 221) rfl) rfl
theorem ml_LW_39 : (Cond.methodLink "ActionDigestsLaw" 39 ⟨"ActionDigestsLaw", "action", "(LActionDigests;[J)I"⟩) ∈ tb := tb_1 (List.mem_of_getElem? (i := 222) rfl) rfl
theorem ms_LW_action : (Cond.static ⟨"ActionDigestsLaw", "action", "(LActionDigests;[J)I"⟩) ∈ tb := tb_1 (List.mem_of_getElem? (i := 223) rfl) rfl
theorem mk_LW_13 : (Cond.classLink "ActionDigestsLaw" 13 "java/lang/IllegalStateException") ∈ tb := tb_1 (List.mem_of_getElem? (i := 225) rfl) rfl
theorem ml_LW_7 : (Cond.methodLink "ActionDigestsLaw" 7 y_AD_action) ∈ tb := tb_1 (List.mem_of_getElem? (i := 226) rfl) rfl
theorem mi_AD_action : (Cond.instanceMethod y_AD_action) ∈ tb := tb_1 (List.mem_of_getElem? (i := 227) rfl) rfl
theorem mx_AD_action : (Cond.selects "ActionDigests" y_AD_action y_AD_action) ∈ tb := tb_1 (List.mem_of_getElem? (i := 228) rfl) rfl
theorem mc_AD_action : (Cond.code y_AD_action b_AD_action 2 (some .int)) ∈ tb := tb_1 (List.mem_of_getElem? (i := 229) rfl) rfl
theorem mk_AD_57 : (Cond.classLink "ActionDigests" 57 "java/lang/IllegalStateException") ∈ tb := tb_1 (List.mem_of_getElem? (i := 230) rfl) rfl
theorem mt_IS : (Cond.instantiable "java/lang/IllegalStateException" 6) ∈ tb := tb_1 (List.mem_of_getElem? (i := 231) rfl) rfl
theorem mf_TH_198 : (Cond.fieldLink "java/lang/Throwable" 198 "java/lang/Throwable" "backtrace" "Ljava/lang/Object;") ∈ tb := tb_2 (List.mem_of_getElem? (i := 11) rfl) rfl
theorem mi_TH_init : (Cond.instanceMethod ⟨"java/lang/Throwable", "<init>", "()V"⟩) ∈ tb := tb_2 (List.mem_of_getElem? (i := 13) rfl) rfl
theorem mc_TH_init : (Cond.code ⟨"java/lang/Throwable", "<init>", "()V"⟩ prog_16_method_1_code 1 none) ∈ tb := tb_2 (List.mem_of_getElem? (i := 14) rfl) rfl
theorem ml_TH_1 : (Cond.methodLink "java/lang/Throwable" 1 ⟨"java/lang/Object", "<init>", "()V"⟩) ∈ tb := tb_2 (List.mem_of_getElem? (i := 15) rfl) rfl
theorem mf_TH_13 : (Cond.fieldLink "java/lang/Throwable" 13 "java/lang/Throwable" "UNASSIGNED_STACK" "[Ljava/lang/StackTraceElement;") ∈ tb := tb_2 (List.mem_of_getElem? (i := 16) rfl) rfl
theorem mf_TH_20 : (Cond.fieldLink "java/lang/Throwable" 20 "java/lang/Throwable" "SUPPRESSED_SENTINEL" "Ljava/util/List;") ∈ tb := tb_2 (List.mem_of_getElem? (i := 18) rfl) rfl
theorem ml_TH_27 : (Cond.methodLink "java/lang/Throwable" 27 ⟨"java/lang/Throwable", "fillInStackTrace", "()Ljava/lang/Throwable;"⟩) ∈ tb := tb_2 (List.mem_of_getElem? (i := 20) rfl) rfl
theorem mi_TH_fillInStackTrace : (Cond.instanceMethod ⟨"java/lang/Throwable", "fillInStackTrace", "()Ljava/lang/Throwable;"⟩) ∈ tb := tb_2 (List.mem_of_getElem? (i := 21) rfl) rfl
theorem ml_TH_202 : (Cond.methodLink "java/lang/Throwable" 202 ⟨"java/lang/Throwable", "fillInStackTrace", "(I)Ljava/lang/Throwable;"⟩) ∈ tb := tb_2 (List.mem_of_getElem? (i := 25) rfl) rfl
theorem mt_TH : (Cond.instantiable "java/lang/Throwable" 6) ∈ tb := tb_2 (List.mem_of_getElem? (i := 28) rfl) rfl
theorem ml_AD_61 : (Cond.methodLink "ActionDigests" 61 ⟨"java/lang/IllegalStateException", "<init>", "(Ljava/lang/String;)V"⟩) ∈ tb := tb_2 (List.mem_of_getElem? (i := 31) rfl) rfl
theorem mi_IS_init : (Cond.instanceMethod ⟨"java/lang/IllegalStateException", "<init>", "(Ljava/lang/String;)V"⟩) ∈ tb := tb_2 (List.mem_of_getElem? (i := 32) rfl) rfl
theorem mc_IS_init : (Cond.code ⟨"java/lang/IllegalStateException", "<init>", "(Ljava/lang/String;)V"⟩ prog_12_method_2_code 2 none) ∈ tb := tb_2 (List.mem_of_getElem? (i := 33) rfl) rfl
theorem ml_IS_7 : (Cond.methodLink "java/lang/IllegalStateException" 7 ⟨"java/lang/RuntimeException", "<init>", "(Ljava/lang/String;)V"⟩) ∈ tb := tb_2 (List.mem_of_getElem? (i := 34) rfl) rfl
theorem mi_RE_init : (Cond.instanceMethod ⟨"java/lang/RuntimeException", "<init>", "(Ljava/lang/String;)V"⟩) ∈ tb := tb_2 (List.mem_of_getElem? (i := 35) rfl) rfl
theorem mc_RE_init : (Cond.code ⟨"java/lang/RuntimeException", "<init>", "(Ljava/lang/String;)V"⟩ prog_14_method_2_code 2 none) ∈ tb := tb_2 (List.mem_of_getElem? (i := 36) rfl) rfl
theorem ml_RE_7 : (Cond.methodLink "java/lang/RuntimeException" 7 ⟨"java/lang/Exception", "<init>", "(Ljava/lang/String;)V"⟩) ∈ tb := tb_2 (List.mem_of_getElem? (i := 37) rfl) rfl
theorem mi_EX_init : (Cond.instanceMethod ⟨"java/lang/Exception", "<init>", "(Ljava/lang/String;)V"⟩) ∈ tb := tb_2 (List.mem_of_getElem? (i := 38) rfl) rfl
theorem mc_EX_init : (Cond.code ⟨"java/lang/Exception", "<init>", "(Ljava/lang/String;)V"⟩ prog_10_method_2_code 2 none) ∈ tb := tb_2 (List.mem_of_getElem? (i := 39) rfl) rfl
theorem ml_EX_7 : (Cond.methodLink "java/lang/Exception" 7 ⟨"java/lang/Throwable", "<init>", "(Ljava/lang/String;)V"⟩) ∈ tb := tb_2 (List.mem_of_getElem? (i := 40) rfl) rfl
theorem mf_TH_31 : (Cond.fieldLink "java/lang/Throwable" 31 "java/lang/Throwable" "detailMessage" "Ljava/lang/String;") ∈ tb := tb_2 (List.mem_of_getElem? (i := 44) rfl) rfl
theorem mf_TH_7 : (Cond.fieldLink "java/lang/Throwable" 7 "java/lang/Throwable" "cause" "Ljava/lang/Throwable;") ∈ tb := tb_2 (List.mem_of_getElem? (i := 45) rfl) rfl
theorem mf_TH_17 : (Cond.fieldLink "java/lang/Throwable" 17 "java/lang/Throwable" "stackTrace" "[Ljava/lang/StackTraceElement;") ∈ tb := tb_2 (List.mem_of_getElem? (i := 46) rfl) rfl
theorem mf_TH_24 : (Cond.fieldLink "java/lang/Throwable" 24 "java/lang/Throwable" "suppressedExceptions" "Ljava/util/List;") ∈ tb := tb_2 (List.mem_of_getElem? (i := 47) rfl) rfl
theorem ma_byte : (Cond.arrayClass .byte) ∈ tb := tb_2 (List.mem_of_getElem? (i := 56) rfl) rfl
theorem mt_AC : (Cond.instantiable "ActionDigests$Action" 2) ∈ tb := tb_2 (List.mem_of_getElem? (i := 57) rfl) rfl
theorem mi_AC_init : (Cond.instanceMethod y_AC_init) ∈ tb := tb_2 (List.mem_of_getElem? (i := 59) rfl) rfl
theorem mc_AC_init : (Cond.code y_AC_init b_AC_init 1 none) ∈ tb := tb_2 (List.mem_of_getElem? (i := 60) rfl) rfl
theorem ml_AC_3 : (Cond.methodLink "ActionDigests$Action" 3 ⟨"java/lang/Object", "<init>", "()V"⟩) ∈ tb := tb_2 (List.mem_of_getElem? (i := 61) rfl) rfl
theorem mk_AC_9 : (Cond.classLink "ActionDigests$Action" 9 "ActionDigests$Row") ∈ tb := tb_2 (List.mem_of_getElem? (i := 62) rfl) rfl
theorem mf_AC_11 : (Cond.fieldLink "ActionDigests$Action" 11 "ActionDigests$Action" "ordered" "[LActionDigests$Row;") ∈ tb := tb_2 (List.mem_of_getElem? (i := 64) rfl) rfl
theorem mf_AC_17 : (Cond.fieldLink "ActionDigests$Action" 17 "ActionDigests$Action" "count" "I") ∈ tb := tb_2 (List.mem_of_getElem? (i := 65) rfl) rfl
theorem ml_LW_52 : (Cond.methodLink "ActionDigestsLaw" 52 ⟨"ActionDigestsLaw", "row", "(LActionDigests;II)I"⟩) ∈ tb := tb_2 (List.mem_of_getElem? (i := 71) rfl) rfl
theorem ms_LW_row : (Cond.static ⟨"ActionDigestsLaw", "row", "(LActionDigests;II)I"⟩) ∈ tb := tb_2 (List.mem_of_getElem? (i := 72) rfl) rfl
theorem mk_LW_19 : (Cond.classLink "ActionDigestsLaw" 19 "java/lang/IllegalArgumentException") ∈ tb := tb_2 (List.mem_of_getElem? (i := 74) rfl) rfl
theorem ml_LW_15 : (Cond.methodLink "ActionDigestsLaw" 15 y_AD_row) ∈ tb := tb_2 (List.mem_of_getElem? (i := 75) rfl) rfl
theorem mi_AD_row : (Cond.instanceMethod y_AD_row) ∈ tb := tb_2 (List.mem_of_getElem? (i := 76) rfl) rfl
theorem mx_AD_row : (Cond.selects "ActionDigests" y_AD_row y_AD_row) ∈ tb := tb_2 (List.mem_of_getElem? (i := 77) rfl) rfl
theorem mc_AD_row : (Cond.code y_AD_row b_AD_row 6 none) ∈ tb := tb_2 (List.mem_of_getElem? (i := 78) rfl) rfl
theorem mk_AD_73 : (Cond.classLink "ActionDigests" 73 "java/lang/IllegalArgumentException") ∈ tb := tb_2 (List.mem_of_getElem? (i := 79) rfl) rfl
theorem mt_IA : (Cond.instantiable "java/lang/IllegalArgumentException" 6) ∈ tb := tb_2 (List.mem_of_getElem? (i := 80) rfl) rfl
theorem ml_AD_77 : (Cond.methodLink "ActionDigests" 77 ⟨"java/lang/IllegalArgumentException", "<init>", "(Ljava/lang/String;)V"⟩) ∈ tb := tb_2 (List.mem_of_getElem? (i := 89) rfl) rfl
theorem mi_IA_init : (Cond.instanceMethod ⟨"java/lang/IllegalArgumentException", "<init>", "(Ljava/lang/String;)V"⟩) ∈ tb := tb_2 (List.mem_of_getElem? (i := 90) rfl) rfl
theorem mc_IA_init : (Cond.code ⟨"java/lang/IllegalArgumentException", "<init>", "(Ljava/lang/String;)V"⟩ prog_11_method_2_code 2 none) ∈ tb := tb_2 (List.mem_of_getElem? (i := 91) rfl) rfl
theorem ml_IA_7 : (Cond.methodLink "java/lang/IllegalArgumentException" 7 ⟨"java/lang/RuntimeException", "<init>", "(Ljava/lang/String;)V"⟩) ∈ tb := tb_2 (List.mem_of_getElem? (i := 92) rfl) rfl
theorem ml_AD_78 : (Cond.methodLink "ActionDigests" 78 y_FM_fits) ∈ tb := tb_2 (List.mem_of_getElem? (i := 95) rfl) rfl
theorem ms_FM_fits : (Cond.static y_FM_fits) ∈ tb := tb_2 (List.mem_of_getElem? (i := 96) rfl) rfl
theorem mc_FM_fits : (Cond.code y_FM_fits b_FM_fits 2 (some .boolean)) ∈ tb := tb_2 (List.mem_of_getElem? (i := 97) rfl) rfl
theorem ml_FM_9 : (Cond.methodLink "ActionDigests$Forms" 9 y_FM_isPath) ∈ tb := tb_2 (List.mem_of_getElem? (i := 98) rfl) rfl
theorem ms_FM_isPath : (Cond.static y_FM_isPath) ∈ tb := tb_2 (List.mem_of_getElem? (i := 99) rfl) rfl
theorem mc_FM_isPath : (Cond.code y_FM_isPath b_FM_isPath 3 (some .boolean)) ∈ tb := tb_2 (List.mem_of_getElem? (i := 100) rfl) rfl
theorem ml_FM_33 : (Cond.methodLink "ActionDigests$Forms" 33 y_FM_isPiece) ∈ tb := tb_2 (List.mem_of_getElem? (i := 101) rfl) rfl
theorem ms_FM_isPiece : (Cond.static y_FM_isPiece) ∈ tb := tb_2 (List.mem_of_getElem? (i := 102) rfl) rfl
theorem mc_FM_isPiece : (Cond.code y_FM_isPiece b_FM_isPiece 6 (some .boolean)) ∈ tb := tb_2 (List.mem_of_getElem? (i := 103) rfl) rfl
theorem ml_FM_22 : (Cond.methodLink "ActionDigests$Forms" 22 y_FM_isLetter) ∈ tb := tb_2 (List.mem_of_getElem? (i := 104) rfl) rfl
theorem ms_FM_isLetter : (Cond.static y_FM_isLetter) ∈ tb := tb_2 (List.mem_of_getElem? (i := 105) rfl) rfl
theorem mc_FM_isLetter : (Cond.code y_FM_isLetter b_FM_isLetter 1 (some .boolean)) ∈ tb := tb_2 (List.mem_of_getElem? (i := 106) rfl) rfl
theorem ml_FM_26 : (Cond.methodLink "ActionDigests$Forms" 26 y_FM_isDigit) ∈ tb := tb_2 (List.mem_of_getElem? (i := 107) rfl) rfl
theorem ms_FM_isDigit : (Cond.static y_FM_isDigit) ∈ tb := tb_2 (List.mem_of_getElem? (i := 108) rfl) rfl
theorem mc_FM_isDigit : (Cond.code y_FM_isDigit b_FM_isDigit 1 (some .boolean)) ∈ tb := tb_2 (List.mem_of_getElem? (i := 109) rfl) rfl
theorem ml_FM_15 : (Cond.methodLink "ActionDigests$Forms" 15 y_FM_isNameAndValue) ∈ tb := tb_2 (List.mem_of_getElem? (i := 110) rfl) rfl
theorem ms_FM_isNameAndValue : (Cond.static y_FM_isNameAndValue) ∈ tb := tb_2 (List.mem_of_getElem? (i := 111) rfl) rfl
theorem mc_FM_isNameAndValue : (Cond.code y_FM_isNameAndValue b_FM_isNameAndValue 2 (some .boolean)) ∈ tb := tb_2 (List.mem_of_getElem? (i := 112) rfl) rfl
theorem ml_FM_18 : (Cond.methodLink "ActionDigests$Forms" 18 y_FM_nameLength) ∈ tb := tb_2 (List.mem_of_getElem? (i := 113) rfl) rfl
theorem ms_FM_nameLength : (Cond.static y_FM_nameLength) ∈ tb := tb_2 (List.mem_of_getElem? (i := 114) rfl) rfl
theorem mc_FM_nameLength : (Cond.code y_FM_nameLength b_FM_nameLength 2 (some .int)) ∈ tb := tb_2 (List.mem_of_getElem? (i := 115) rfl) rfl
theorem ml_FM_29 : (Cond.methodLink "ActionDigests$Forms" 29 y_FM_isName) ∈ tb := tb_2 (List.mem_of_getElem? (i := 116) rfl) rfl
theorem ms_FM_isName : (Cond.static y_FM_isName) ∈ tb := tb_2 (List.mem_of_getElem? (i := 117) rfl) rfl
theorem mc_FM_isName : (Cond.code y_FM_isName b_FM_isName 3 (some .boolean)) ∈ tb := tb_2 (List.mem_of_getElem? (i := 118) rfl) rfl
theorem mt_KY : (Cond.instantiable "ActionDigests$Key" 2) ∈ tb := tb_2 (List.mem_of_getElem? (i := 120) rfl) rfl
theorem ml_AD_86 : (Cond.methodLink "ActionDigests" 86 y_FM_keyLength) ∈ tb := tb_2 (List.mem_of_getElem? (i := 121) rfl) rfl
theorem ms_FM_keyLength : (Cond.static y_FM_keyLength) ∈ tb := tb_2 (List.mem_of_getElem? (i := 122) rfl) rfl
theorem mc_FM_keyLength : (Cond.code y_FM_keyLength b_FM_keyLength 2 (some .int)) ∈ tb := tb_2 (List.mem_of_getElem? (i := 123) rfl) rfl
theorem ml_AD_90 : (Cond.methodLink "ActionDigests" 90 y_KY_init) ∈ tb := tb_2 (List.mem_of_getElem? (i := 124) rfl) rfl
theorem mi_KY_init : (Cond.instanceMethod y_KY_init) ∈ tb := tb_2 (List.mem_of_getElem? (i := 125) rfl) rfl
theorem mc_KY_init : (Cond.code y_KY_init b_KY_init 3 none) ∈ tb := tb_2 (List.mem_of_getElem? (i := 126) rfl) rfl
theorem ml_KY_1 : (Cond.methodLink "ActionDigests$Key" 1 ⟨"java/lang/Object", "<init>", "()V"⟩) ∈ tb := tb_2 (List.mem_of_getElem? (i := 127) rfl) rfl
theorem mf_KY_7 : (Cond.fieldLink "ActionDigests$Key" 7 "ActionDigests$Key" "characters" "[C") ∈ tb := tb_2 (List.mem_of_getElem? (i := 128) rfl) rfl
theorem mf_KY_19 : (Cond.fieldLink "ActionDigests$Key" 19 "ActionDigests$Key" "length" "I") ∈ tb := tb_2 (List.mem_of_getElem? (i := 129) rfl) rfl
theorem ml_AD_93 : (Cond.methodLink "ActionDigests" 93 y_AC_has) ∈ tb := tb_2 (List.mem_of_getElem? (i := 135) rfl) rfl
theorem mi_AC_has : (Cond.instanceMethod y_AC_has) ∈ tb := tb_2 (List.mem_of_getElem? (i := 136) rfl) rfl
theorem mx_AC_has : (Cond.selects "ActionDigests$Action" y_AC_has y_AC_has) ∈ tb := tb_2 (List.mem_of_getElem? (i := 137) rfl) rfl
theorem mc_AC_has : (Cond.code y_AC_has b_AC_has 5 (some .boolean)) ∈ tb := tb_2 (List.mem_of_getElem? (i := 138) rfl) rfl
theorem ml_AC_21 : (Cond.methodLink "ActionDigests$Action" 21 y_AC_rowAt) ∈ tb := tb_2 (List.mem_of_getElem? (i := 139) rfl) rfl
theorem ml_AC_32 : (Cond.methodLink "ActionDigests$Action" 32 y_KY_compareWith) ∈ tb := tb_2 (List.mem_of_getElem? (i := 140) rfl) rfl
theorem ml_AD_99 : (Cond.methodLink "ActionDigests" 99 y_AC_isFull) ∈ tb := tb_2 (List.mem_of_getElem? (i := 142) rfl) rfl
theorem mi_AC_isFull : (Cond.instanceMethod y_AC_isFull) ∈ tb := tb_2 (List.mem_of_getElem? (i := 143) rfl) rfl
theorem mx_AC_isFull : (Cond.selects "ActionDigests$Action" y_AC_isFull y_AC_isFull) ∈ tb := tb_2 (List.mem_of_getElem? (i := 144) rfl) rfl
theorem mc_AC_isFull : (Cond.code y_AC_isFull b_AC_isFull 1 (some .boolean)) ∈ tb := tb_2 (List.mem_of_getElem? (i := 145) rfl) rfl
theorem mk_AD_105 : (Cond.classLink "ActionDigests" 105 "ActionDigests$Row") ∈ tb := tb_2 (List.mem_of_getElem? (i := 147) rfl) rfl
theorem mt_RW : (Cond.instantiable "ActionDigests$Row" 3) ∈ tb := tb_2 (List.mem_of_getElem? (i := 148) rfl) rfl
theorem ml_AD_107 : (Cond.methodLink "ActionDigests" 107 y_AD_bodyOf) ∈ tb := tb_2 (List.mem_of_getElem? (i := 149) rfl) rfl
theorem mi_AD_bodyOf : (Cond.instanceMethod y_AD_bodyOf) ∈ tb := tb_2 (List.mem_of_getElem? (i := 151) rfl) rfl
theorem mc_AD_bodyOf : (Cond.code y_AD_bodyOf b_AD_bodyOf 5 (some (.array .char))) ∈ tb := tb_2 (List.mem_of_getElem? (i := 152) rfl) rfl
theorem ml_AD_111 : (Cond.methodLink "ActionDigests" 111 y_RW_init) ∈ tb := tb_2 (List.mem_of_getElem? (i := 153) rfl) rfl
theorem mi_RW_init : (Cond.instanceMethod y_RW_init) ∈ tb := tb_2 (List.mem_of_getElem? (i := 154) rfl) rfl
theorem mc_RW_init : (Cond.code y_RW_init b_RW_init 4 none) ∈ tb := tb_2 (List.mem_of_getElem? (i := 155) rfl) rfl
theorem ml_RW_3 : (Cond.methodLink "ActionDigests$Row" 3 ⟨"java/lang/Object", "<init>", "()V"⟩) ∈ tb := tb_2 (List.mem_of_getElem? (i := 156) rfl) rfl
theorem mf_RW_9 : (Cond.fieldLink "ActionDigests$Row" 9 "ActionDigests$Row" "kind" "I") ∈ tb := tb_2 (List.mem_of_getElem? (i := 157) rfl) rfl
theorem mf_AC_25 : (Cond.fieldLink "ActionDigests$Action" 25 "ActionDigests$Row" "kind" "I") ∈ tb := tb_2 (List.mem_of_getElem? (i := 158) rfl) rfl
theorem mf_AD_151 : (Cond.fieldLink "ActionDigests" 151 "ActionDigests$Row" "kind" "I") ∈ tb := tb_2 (List.mem_of_getElem? (i := 159) rfl) rfl
theorem mf_RW_15 : (Cond.fieldLink "ActionDigests$Row" 15 "ActionDigests$Row" "key" "LActionDigests$Key;") ∈ tb := tb_2 (List.mem_of_getElem? (i := 160) rfl) rfl
theorem mf_AC_28 : (Cond.fieldLink "ActionDigests$Action" 28 "ActionDigests$Row" "key" "LActionDigests$Key;") ∈ tb := tb_2 (List.mem_of_getElem? (i := 161) rfl) rfl
theorem mf_AD_194 : (Cond.fieldLink "ActionDigests" 194 "ActionDigests$Row" "key" "LActionDigests$Key;") ∈ tb := tb_2 (List.mem_of_getElem? (i := 162) rfl) rfl
theorem mf_RW_19 : (Cond.fieldLink "ActionDigests$Row" 19 "ActionDigests$Row" "body" "[C") ∈ tb := tb_2 (List.mem_of_getElem? (i := 163) rfl) rfl
theorem ml_AD_114 : (Cond.methodLink "ActionDigests" 114 y_AC_insert) ∈ tb := tb_2 (List.mem_of_getElem? (i := 171) rfl) rfl
theorem mi_AC_insert : (Cond.instanceMethod y_AC_insert) ∈ tb := tb_2 (List.mem_of_getElem? (i := 172) rfl) rfl
theorem mx_AC_insert : (Cond.selects "ActionDigests$Action" y_AC_insert y_AC_insert) ∈ tb := tb_2 (List.mem_of_getElem? (i := 173) rfl) rfl
theorem mc_AC_insert : (Cond.code y_AC_insert b_AC_insert 4 none) ∈ tb := tb_2 (List.mem_of_getElem? (i := 174) rfl) rfl
theorem ml_AC_38 : (Cond.methodLink "ActionDigests$Action" 38 y_AC_isFull) ∈ tb := tb_2 (List.mem_of_getElem? (i := 175) rfl) rfl
theorem ml_AC_42 : (Cond.methodLink "ActionDigests$Action" 42 y_RW_isBehind) ∈ tb := tb_2 (List.mem_of_getElem? (i := 176) rfl) rfl
theorem mi_RW_isBehind : (Cond.instanceMethod y_RW_isBehind) ∈ tb := tb_2 (List.mem_of_getElem? (i := 177) rfl) rfl
theorem mx_RW_isBehind : (Cond.selects "ActionDigests$Row" y_RW_isBehind y_RW_isBehind) ∈ tb := tb_2 (List.mem_of_getElem? (i := 178) rfl) rfl
theorem mc_RW_isBehind : (Cond.code y_RW_isBehind b_RW_isBehind 2 (some .boolean)) ∈ tb := tb_2 (List.mem_of_getElem? (i := 179) rfl) rfl
theorem ml_RW_23 : (Cond.methodLink "ActionDigests$Row" 23 y_KY_compareWith) ∈ tb := tb_2 (List.mem_of_getElem? (i := 180) rfl) rfl
theorem ml_LW_56 : (Cond.methodLink "ActionDigestsLaw" 56 ⟨"ActionDigestsLaw", "edition", "(LActionDigests;II)I"⟩) ∈ tb := tb_2 (List.mem_of_getElem? (i := 181) rfl) rfl
theorem ms_LW_edition : (Cond.static ⟨"ActionDigestsLaw", "edition", "(LActionDigests;II)I"⟩) ∈ tb := tb_2 (List.mem_of_getElem? (i := 182) rfl) rfl
theorem ml_LW_21 : (Cond.methodLink "ActionDigestsLaw" 21 y_AD_edition) ∈ tb := tb_2 (List.mem_of_getElem? (i := 184) rfl) rfl
theorem mi_AD_edition : (Cond.instanceMethod y_AD_edition) ∈ tb := tb_2 (List.mem_of_getElem? (i := 185) rfl) rfl
theorem mx_AD_edition : (Cond.selects "ActionDigests" y_AD_edition y_AD_edition) ∈ tb := tb_2 (List.mem_of_getElem? (i := 186) rfl) rfl
theorem mc_AD_edition : (Cond.code y_AD_edition b_AD_edition 6 none) ∈ tb := tb_2 (List.mem_of_getElem? (i := 187) rfl) rfl
theorem mq_AD_118 : (Cond.constant "ActionDigests" 118 (99999999 : Int32)) ∈ tb := tb_2 (List.mem_of_getElem? (i := 188) rfl) rfl
theorem ml_AD_121 : (Cond.methodLink "ActionDigests" 121 y_AD_editionDigits) ∈ tb := tb_2 (List.mem_of_getElem? (i := 190) rfl) rfl
theorem ms_AD_editionDigits : (Cond.static y_AD_editionDigits) ∈ tb := tb_2 (List.mem_of_getElem? (i := 191) rfl) rfl
theorem mc_AD_editionDigits : (Cond.code y_AD_editionDigits b_AD_editionDigits 4 (some (.array .char))) ∈ tb := tb_2 (List.mem_of_getElem? (i := 192) rfl) rfl
theorem ml_AD_125 : (Cond.methodLink "ActionDigests" 125 y_AC_replaceEdition) ∈ tb := tb_2 (List.mem_of_getElem? (i := 193) rfl) rfl
theorem mi_AC_replaceEdition : (Cond.instanceMethod y_AC_replaceEdition) ∈ tb := tb_2 (List.mem_of_getElem? (i := 194) rfl) rfl
theorem mx_AC_replaceEdition : (Cond.selects "ActionDigests$Action" y_AC_replaceEdition y_AC_replaceEdition) ∈ tb := tb_2 (List.mem_of_getElem? (i := 195) rfl) rfl
theorem mc_AC_replaceEdition : (Cond.code y_AC_replaceEdition b_AC_replaceEdition 4 (some .boolean)) ∈ tb := tb_2 (List.mem_of_getElem? (i := 196) rfl) rfl
theorem ml_LW_59 : (Cond.methodLink "ActionDigestsLaw" 59 ⟨"ActionDigestsLaw", "allow", "(LActionDigests;)I"⟩) ∈ tb := tb_2 (List.mem_of_getElem? (i := 197) rfl) rfl
theorem ms_LW_allow : (Cond.static ⟨"ActionDigestsLaw", "allow", "(LActionDigests;)I"⟩) ∈ tb := tb_2 (List.mem_of_getElem? (i := 198) rfl) rfl
theorem ml_LW_24 : (Cond.methodLink "ActionDigestsLaw" 24 y_AD_allow) ∈ tb := tb_2 (List.mem_of_getElem? (i := 200) rfl) rfl
theorem mi_AD_allow : (Cond.instanceMethod y_AD_allow) ∈ tb := tb_2 (List.mem_of_getElem? (i := 201) rfl) rfl
theorem mx_AD_allow : (Cond.selects "ActionDigests" y_AD_allow y_AD_allow) ∈ tb := tb_2 (List.mem_of_getElem? (i := 202) rfl) rfl
theorem mc_AD_allow : (Cond.code y_AD_allow b_AD_allow 3 none) ∈ tb := tb_2 (List.mem_of_getElem? (i := 203) rfl) rfl
theorem ml_AD_129 : (Cond.methodLink "ActionDigests" 129 y_FM_isName) ∈ tb := tb_2 (List.mem_of_getElem? (i := 204) rfl) rfl
theorem ml_LW_63 : (Cond.methodLink "ActionDigestsLaw" 63 ⟨"ActionDigestsLaw", "salt", "(LActionDigests;)I"⟩) ∈ tb := tb_2 (List.mem_of_getElem? (i := 208) rfl) rfl
theorem ms_LW_salt : (Cond.static ⟨"ActionDigestsLaw", "salt", "(LActionDigests;)I"⟩) ∈ tb := tb_2 (List.mem_of_getElem? (i := 209) rfl) rfl
theorem ml_LW_27 : (Cond.methodLink "ActionDigestsLaw" 27 y_AD_salt) ∈ tb := tb_2 (List.mem_of_getElem? (i := 211) rfl) rfl
theorem mi_AD_salt : (Cond.instanceMethod y_AD_salt) ∈ tb := tb_2 (List.mem_of_getElem? (i := 212) rfl) rfl
theorem mx_AD_salt : (Cond.selects "ActionDigests" y_AD_salt y_AD_salt) ∈ tb := tb_2 (List.mem_of_getElem? (i := 213) rfl) rfl
theorem mc_AD_salt : (Cond.code y_AD_salt b_AD_salt 2 none) ∈ tb := tb_2 (List.mem_of_getElem? (i := 214) rfl) rfl
theorem mk_LW_31 : (Cond.classLink "ActionDigestsLaw" 31 "ActionDigestsModel") ∈ tb := tb_2 (List.mem_of_getElem? (i := 216) rfl) rfl
theorem mt_MD : (Cond.instantiable "ActionDigestsModel" 22) ∈ tb := tb_2 (List.mem_of_getElem? (i := 217) rfl) rfl
theorem ml_LW_33 : (Cond.methodLink "ActionDigestsLaw" 33 y_MD_init) ∈ tb := tb_2 (List.mem_of_getElem? (i := 218) rfl) rfl
theorem mi_MD_init : (Cond.instanceMethod y_MD_init) ∈ tb := tb_2 (List.mem_of_getElem? (i := 219) rfl) rfl
theorem mc_MD_init : (Cond.code y_MD_init b_MD_init 1 none) ∈ tb := tb_2 (List.mem_of_getElem? (i := 220) rfl) rfl
theorem ml_MD_1 : (Cond.methodLink "ActionDigestsModel" 1 ⟨"java/lang/Object", "<init>", "()V"⟩) ∈ tb := tb_2 (List.mem_of_getElem? (i := 221) rfl) rfl
theorem mq_MD_7 : (Cond.constant "ActionDigestsModel" 7 (1116352408 : Int32)) ∈ tb := tb_2 (List.mem_of_getElem? (i := 222) rfl) rfl
theorem mq_MD_8 : (Cond.constant "ActionDigestsModel" 8 (1899447441 : Int32)) ∈ tb := tb_2 (List.mem_of_getElem? (i := 223) rfl) rfl
theorem mq_MD_9 : (Cond.constant "ActionDigestsModel" 9 (-1245643825 : Int32)) ∈ tb := tb_2 (List.mem_of_getElem? (i := 224) rfl) rfl
theorem mq_MD_10 : (Cond.constant "ActionDigestsModel" 10 (-373957723 : Int32)) ∈ tb := tb_2 (List.mem_of_getElem? (i := 225) rfl) rfl
theorem mq_MD_11 : (Cond.constant "ActionDigestsModel" 11 (961987163 : Int32)) ∈ tb := tb_2 (List.mem_of_getElem? (i := 226) rfl) rfl
theorem mq_MD_12 : (Cond.constant "ActionDigestsModel" 12 (1508970993 : Int32)) ∈ tb := tb_2 (List.mem_of_getElem? (i := 227) rfl) rfl
theorem mq_MD_13 : (Cond.constant "ActionDigestsModel" 13 (-1841331548 : Int32)) ∈ tb := tb_2 (List.mem_of_getElem? (i := 228) rfl) rfl
theorem mq_MD_14 : (Cond.constant "ActionDigestsModel" 14 (-1424204075 : Int32)) ∈ tb := tb_2 (List.mem_of_getElem? (i := 229) rfl) rfl
theorem mq_MD_15 : (Cond.constant "ActionDigestsModel" 15 (-670586216 : Int32)) ∈ tb := tb_2 (List.mem_of_getElem? (i := 230) rfl) rfl
theorem mq_MD_16 : (Cond.constant "ActionDigestsModel" 16 (310598401 : Int32)) ∈ tb := tb_2 (List.mem_of_getElem? (i := 231) rfl) rfl
theorem mq_MD_17 : (Cond.constant "ActionDigestsModel" 17 (607225278 : Int32)) ∈ tb := tb_2 (List.mem_of_getElem? (i := 232) rfl) rfl
theorem mq_MD_18 : (Cond.constant "ActionDigestsModel" 18 (1426881987 : Int32)) ∈ tb := tb_2 (List.mem_of_getElem? (i := 233) rfl) rfl
theorem mq_MD_19 : (Cond.constant "ActionDigestsModel" 19 (1925078388 : Int32)) ∈ tb := tb_2 (List.mem_of_getElem? (i := 234) rfl) rfl
theorem mq_MD_20 : (Cond.constant "ActionDigestsModel" 20 (-2132889090 : Int32)) ∈ tb := tb_2 (List.mem_of_getElem? (i := 235) rfl) rfl
theorem mq_MD_21 : (Cond.constant "ActionDigestsModel" 21 (-1680079193 : Int32)) ∈ tb := tb_2 (List.mem_of_getElem? (i := 236) rfl) rfl
theorem mq_MD_22 : (Cond.constant "ActionDigestsModel" 22 (-1046744716 : Int32)) ∈ tb := tb_2 (List.mem_of_getElem? (i := 237) rfl) rfl
theorem mq_MD_23 : (Cond.constant "ActionDigestsModel" 23 (-459576895 : Int32)) ∈ tb := tb_2 (List.mem_of_getElem? (i := 238) rfl) rfl
theorem mq_MD_24 : (Cond.constant "ActionDigestsModel" 24 (-272742522 : Int32)) ∈ tb := tb_2 (List.mem_of_getElem? (i := 239) rfl) rfl
theorem mq_MD_25 : (Cond.constant "ActionDigestsModel" 25 (264347078 : Int32)) ∈ tb := tb_3 (List.mem_of_getElem? (i := 0) rfl) rfl
theorem mq_MD_26 : (Cond.constant "ActionDigestsModel" 26 (604807628 : Int32)) ∈ tb := tb_3 (List.mem_of_getElem? (i := 1) rfl) rfl
theorem mq_MD_27 : (Cond.constant "ActionDigestsModel" 27 (770255983 : Int32)) ∈ tb := tb_3 (List.mem_of_getElem? (i := 2) rfl) rfl
theorem mq_MD_28 : (Cond.constant "ActionDigestsModel" 28 (1249150122 : Int32)) ∈ tb := tb_3 (List.mem_of_getElem? (i := 3) rfl) rfl
theorem mq_MD_29 : (Cond.constant "ActionDigestsModel" 29 (1555081692 : Int32)) ∈ tb := tb_3 (List.mem_of_getElem? (i := 4) rfl) rfl
theorem mq_MD_30 : (Cond.constant "ActionDigestsModel" 30 (1996064986 : Int32)) ∈ tb := tb_3 (List.mem_of_getElem? (i := 5) rfl) rfl
theorem mq_MD_31 : (Cond.constant "ActionDigestsModel" 31 (-1740746414 : Int32)) ∈ tb := tb_3 (List.mem_of_getElem? (i := 6) rfl) rfl
theorem mq_MD_32 : (Cond.constant "ActionDigestsModel" 32 (-1473132947 : Int32)) ∈ tb := tb_3 (List.mem_of_getElem? (i := 7) rfl) rfl
theorem mq_MD_33 : (Cond.constant "ActionDigestsModel" 33 (-1341970488 : Int32)) ∈ tb := tb_3 (List.mem_of_getElem? (i := 8) rfl) rfl
theorem mq_MD_34 : (Cond.constant "ActionDigestsModel" 34 (-1084653625 : Int32)) ∈ tb := tb_3 (List.mem_of_getElem? (i := 9) rfl) rfl
theorem mq_MD_35 : (Cond.constant "ActionDigestsModel" 35 (-958395405 : Int32)) ∈ tb := tb_3 (List.mem_of_getElem? (i := 10) rfl) rfl
theorem mq_MD_36 : (Cond.constant "ActionDigestsModel" 36 (-710438585 : Int32)) ∈ tb := tb_3 (List.mem_of_getElem? (i := 11) rfl) rfl
theorem mq_MD_37 : (Cond.constant "ActionDigestsModel" 37 (113926993 : Int32)) ∈ tb := tb_3 (List.mem_of_getElem? (i := 12) rfl) rfl
theorem mq_MD_38 : (Cond.constant "ActionDigestsModel" 38 (338241895 : Int32)) ∈ tb := tb_3 (List.mem_of_getElem? (i := 13) rfl) rfl
theorem mq_MD_39 : (Cond.constant "ActionDigestsModel" 39 (666307205 : Int32)) ∈ tb := tb_3 (List.mem_of_getElem? (i := 14) rfl) rfl
theorem mq_MD_40 : (Cond.constant "ActionDigestsModel" 40 (773529912 : Int32)) ∈ tb := tb_3 (List.mem_of_getElem? (i := 15) rfl) rfl
theorem mq_MD_41 : (Cond.constant "ActionDigestsModel" 41 (1294757372 : Int32)) ∈ tb := tb_3 (List.mem_of_getElem? (i := 16) rfl) rfl
theorem mq_MD_42 : (Cond.constant "ActionDigestsModel" 42 (1396182291 : Int32)) ∈ tb := tb_3 (List.mem_of_getElem? (i := 17) rfl) rfl
theorem mq_MD_43 : (Cond.constant "ActionDigestsModel" 43 (1695183700 : Int32)) ∈ tb := tb_3 (List.mem_of_getElem? (i := 18) rfl) rfl
theorem mq_MD_44 : (Cond.constant "ActionDigestsModel" 44 (1986661051 : Int32)) ∈ tb := tb_3 (List.mem_of_getElem? (i := 19) rfl) rfl
theorem mq_MD_45 : (Cond.constant "ActionDigestsModel" 45 (-2117940946 : Int32)) ∈ tb := tb_3 (List.mem_of_getElem? (i := 20) rfl) rfl
theorem mq_MD_46 : (Cond.constant "ActionDigestsModel" 46 (-1838011259 : Int32)) ∈ tb := tb_3 (List.mem_of_getElem? (i := 21) rfl) rfl
theorem mq_MD_47 : (Cond.constant "ActionDigestsModel" 47 (-1564481375 : Int32)) ∈ tb := tb_3 (List.mem_of_getElem? (i := 22) rfl) rfl
theorem mq_MD_48 : (Cond.constant "ActionDigestsModel" 48 (-1474664885 : Int32)) ∈ tb := tb_3 (List.mem_of_getElem? (i := 23) rfl) rfl
theorem mq_MD_49 : (Cond.constant "ActionDigestsModel" 49 (-1035236496 : Int32)) ∈ tb := tb_3 (List.mem_of_getElem? (i := 24) rfl) rfl
theorem mq_MD_50 : (Cond.constant "ActionDigestsModel" 50 (-949202525 : Int32)) ∈ tb := tb_3 (List.mem_of_getElem? (i := 25) rfl) rfl
theorem mq_MD_51 : (Cond.constant "ActionDigestsModel" 51 (-778901479 : Int32)) ∈ tb := tb_3 (List.mem_of_getElem? (i := 26) rfl) rfl
theorem mq_MD_52 : (Cond.constant "ActionDigestsModel" 52 (-694614492 : Int32)) ∈ tb := tb_3 (List.mem_of_getElem? (i := 27) rfl) rfl
theorem mq_MD_53 : (Cond.constant "ActionDigestsModel" 53 (-200395387 : Int32)) ∈ tb := tb_3 (List.mem_of_getElem? (i := 28) rfl) rfl
theorem mq_MD_54 : (Cond.constant "ActionDigestsModel" 54 (275423344 : Int32)) ∈ tb := tb_3 (List.mem_of_getElem? (i := 29) rfl) rfl
theorem mq_MD_55 : (Cond.constant "ActionDigestsModel" 55 (430227734 : Int32)) ∈ tb := tb_3 (List.mem_of_getElem? (i := 30) rfl) rfl
theorem mq_MD_56 : (Cond.constant "ActionDigestsModel" 56 (506948616 : Int32)) ∈ tb := tb_3 (List.mem_of_getElem? (i := 31) rfl) rfl
theorem mq_MD_57 : (Cond.constant "ActionDigestsModel" 57 (659060556 : Int32)) ∈ tb := tb_3 (List.mem_of_getElem? (i := 32) rfl) rfl
theorem mq_MD_58 : (Cond.constant "ActionDigestsModel" 58 (883997877 : Int32)) ∈ tb := tb_3 (List.mem_of_getElem? (i := 33) rfl) rfl
theorem mq_MD_59 : (Cond.constant "ActionDigestsModel" 59 (958139571 : Int32)) ∈ tb := tb_3 (List.mem_of_getElem? (i := 34) rfl) rfl
theorem mq_MD_60 : (Cond.constant "ActionDigestsModel" 60 (1322822218 : Int32)) ∈ tb := tb_3 (List.mem_of_getElem? (i := 35) rfl) rfl
theorem mq_MD_61 : (Cond.constant "ActionDigestsModel" 61 (1537002063 : Int32)) ∈ tb := tb_3 (List.mem_of_getElem? (i := 36) rfl) rfl
theorem mq_MD_62 : (Cond.constant "ActionDigestsModel" 62 (1747873779 : Int32)) ∈ tb := tb_3 (List.mem_of_getElem? (i := 37) rfl) rfl
theorem mq_MD_63 : (Cond.constant "ActionDigestsModel" 63 (1955562222 : Int32)) ∈ tb := tb_3 (List.mem_of_getElem? (i := 38) rfl) rfl
theorem mq_MD_64 : (Cond.constant "ActionDigestsModel" 64 (2024104815 : Int32)) ∈ tb := tb_3 (List.mem_of_getElem? (i := 39) rfl) rfl
theorem mq_MD_65 : (Cond.constant "ActionDigestsModel" 65 (-2067236844 : Int32)) ∈ tb := tb_3 (List.mem_of_getElem? (i := 40) rfl) rfl
theorem mq_MD_66 : (Cond.constant "ActionDigestsModel" 66 (-1933114872 : Int32)) ∈ tb := tb_3 (List.mem_of_getElem? (i := 41) rfl) rfl
theorem mq_MD_67 : (Cond.constant "ActionDigestsModel" 67 (-1866530822 : Int32)) ∈ tb := tb_3 (List.mem_of_getElem? (i := 42) rfl) rfl
theorem mq_MD_68 : (Cond.constant "ActionDigestsModel" 68 (-1538233109 : Int32)) ∈ tb := tb_3 (List.mem_of_getElem? (i := 43) rfl) rfl
theorem mq_MD_69 : (Cond.constant "ActionDigestsModel" 69 (-1090935817 : Int32)) ∈ tb := tb_3 (List.mem_of_getElem? (i := 44) rfl) rfl
theorem mq_MD_70 : (Cond.constant "ActionDigestsModel" 70 (-965641998 : Int32)) ∈ tb := tb_3 (List.mem_of_getElem? (i := 45) rfl) rfl
theorem mq_MD_71 : (Cond.constant "ActionDigestsModel" 71 (1779033703 : Int32)) ∈ tb := tb_3 (List.mem_of_getElem? (i := 46) rfl) rfl
theorem mq_MD_72 : (Cond.constant "ActionDigestsModel" 72 (-1150833019 : Int32)) ∈ tb := tb_3 (List.mem_of_getElem? (i := 47) rfl) rfl
theorem mq_MD_73 : (Cond.constant "ActionDigestsModel" 73 (1013904242 : Int32)) ∈ tb := tb_3 (List.mem_of_getElem? (i := 48) rfl) rfl
theorem mq_MD_74 : (Cond.constant "ActionDigestsModel" 74 (-1521486534 : Int32)) ∈ tb := tb_3 (List.mem_of_getElem? (i := 49) rfl) rfl
theorem mq_MD_75 : (Cond.constant "ActionDigestsModel" 75 (1359893119 : Int32)) ∈ tb := tb_3 (List.mem_of_getElem? (i := 50) rfl) rfl
theorem mq_MD_76 : (Cond.constant "ActionDigestsModel" 76 (-1694144372 : Int32)) ∈ tb := tb_3 (List.mem_of_getElem? (i := 51) rfl) rfl
theorem mq_MD_77 : (Cond.constant "ActionDigestsModel" 77 (528734635 : Int32)) ∈ tb := tb_3 (List.mem_of_getElem? (i := 52) rfl) rfl
theorem mq_MD_78 : (Cond.constant "ActionDigestsModel" 78 (1541459225 : Int32)) ∈ tb := tb_3 (List.mem_of_getElem? (i := 53) rfl) rfl
theorem ml_MD_130 : (Cond.methodLink "ActionDigestsModel" 130 y_MD_sumUp) ∈ tb := tb_3 (List.mem_of_getElem? (i := 54) rfl) rfl
theorem mi_MD_sumUp : (Cond.instanceMethod y_MD_sumUp) ∈ tb := tb_3 (List.mem_of_getElem? (i := 56) rfl) rfl
theorem mc_MD_sumUp : (Cond.code y_MD_sumUp b_MD_sumUp 7 none) ∈ tb := tb_3 (List.mem_of_getElem? (i := 57) rfl) rfl
theorem ml_MD_217 : (Cond.methodLink "ActionDigestsModel" 217 y_MD_byteAt) ∈ tb := tb_3 (List.mem_of_getElem? (i := 58) rfl) rfl
theorem mi_MD_byteAt : (Cond.instanceMethod y_MD_byteAt) ∈ tb := tb_3 (List.mem_of_getElem? (i := 60) rfl) rfl
theorem mc_MD_byteAt : (Cond.code y_MD_byteAt b_MD_byteAt 6 (some .int)) ∈ tb := tb_3 (List.mem_of_getElem? (i := 61) rfl) rfl
theorem mq_MD_215 : (Cond.constantLong "ActionDigestsModel" 215 (8 : Int64)) ∈ tb := tb_3 (List.mem_of_getElem? (i := 62) rfl) rfl
theorem ml_MD_221 : (Cond.methodLink "ActionDigestsModel" 221 y_MD_turned) ∈ tb := tb_3 (List.mem_of_getElem? (i := 63) rfl) rfl
theorem ms_MD_turned : (Cond.static y_MD_turned) ∈ tb := tb_3 (List.mem_of_getElem? (i := 64) rfl) rfl
theorem mc_MD_turned : (Cond.code y_MD_turned b_MD_turned 2 (some .int)) ∈ tb := tb_3 (List.mem_of_getElem? (i := 65) rfl) rfl
theorem ml_MD_224 : (Cond.methodLink "ActionDigestsModel" 224 y_MD_mixIn) ∈ tb := tb_3 (List.mem_of_getElem? (i := 66) rfl) rfl
theorem mi_MD_mixIn : (Cond.instanceMethod y_MD_mixIn) ∈ tb := tb_3 (List.mem_of_getElem? (i := 68) rfl) rfl
theorem mc_MD_mixIn : (Cond.code y_MD_mixIn b_MD_mixIn 10 none) ∈ tb := tb_3 (List.mem_of_getElem? (i := 69) rfl) rfl
theorem ml_MD_134 : (Cond.methodLink "ActionDigestsModel" 134 y_MD_keepSum) ∈ tb := tb_3 (List.mem_of_getElem? (i := 70) rfl) rfl
theorem mi_MD_keepSum : (Cond.instanceMethod y_MD_keepSum) ∈ tb := tb_3 (List.mem_of_getElem? (i := 72) rfl) rfl
theorem mc_MD_keepSum : (Cond.code y_MD_keepSum b_MD_keepSum 2 none) ∈ tb := tb_3 (List.mem_of_getElem? (i := 73) rfl) rfl
theorem mf_MD_79 : (Cond.fieldLink "ActionDigestsModel" 79 "ActionDigestsModel" "roots" "[I") ∈ tb := tb_3 (List.mem_of_getElem? (i := 74) rfl) rfl
theorem mf_MD_137 : (Cond.fieldLink "ActionDigestsModel" 137 "ActionDigestsModel" "code" "I") ∈ tb := tb_3 (List.mem_of_getElem? (i := 75) rfl) rfl
theorem mf_MD_85 : (Cond.fieldLink "ActionDigestsModel" 85 "ActionDigestsModel" "text" "[I") ∈ tb := tb_3 (List.mem_of_getElem? (i := 76) rfl) rfl
theorem mf_MD_141 : (Cond.fieldLink "ActionDigestsModel" 141 "ActionDigestsModel" "typed" "I") ∈ tb := tb_3 (List.mem_of_getElem? (i := 77) rfl) rfl
theorem mf_MD_144 : (Cond.fieldLink "ActionDigestsModel" 144 "ActionDigestsModel" "actions" "I") ∈ tb := tb_3 (List.mem_of_getElem? (i := 78) rfl) rfl
theorem mf_MD_183 : (Cond.fieldLink "ActionDigestsModel" 183 "ActionDigestsModel" "allowed" "I") ∈ tb := tb_3 (List.mem_of_getElem? (i := 79) rfl) rfl
theorem mf_MD_186 : (Cond.fieldLink "ActionDigestsModel" 186 "ActionDigestsModel" "salted" "I") ∈ tb := tb_3 (List.mem_of_getElem? (i := 80) rfl) rfl
theorem mf_MD_88 : (Cond.fieldLink "ActionDigestsModel" 88 "ActionDigestsModel" "held" "[I") ∈ tb := tb_3 (List.mem_of_getElem? (i := 81) rfl) rfl
theorem mf_MD_91 : (Cond.fieldLink "ActionDigestsModel" 91 "ActionDigestsModel" "count" "[I") ∈ tb := tb_3 (List.mem_of_getElem? (i := 82) rfl) rfl
theorem mf_MD_94 : (Cond.fieldLink "ActionDigestsModel" 94 "ActionDigestsModel" "kind" "[I") ∈ tb := tb_3 (List.mem_of_getElem? (i := 83) rfl) rfl
theorem mf_MD_97 : (Cond.fieldLink "ActionDigestsModel" 97 "ActionDigestsModel" "size" "[I") ∈ tb := tb_3 (List.mem_of_getElem? (i := 84) rfl) rfl
theorem mf_MD_100 : (Cond.fieldLink "ActionDigestsModel" 100 "ActionDigestsModel" "key" "[I") ∈ tb := tb_3 (List.mem_of_getElem? (i := 85) rfl) rfl
theorem mf_MD_103 : (Cond.fieldLink "ActionDigestsModel" 103 "ActionDigestsModel" "letters" "[I") ∈ tb := tb_3 (List.mem_of_getElem? (i := 86) rfl) rfl
theorem mf_MD_106 : (Cond.fieldLink "ActionDigestsModel" 106 "ActionDigestsModel" "digests" "[I") ∈ tb := tb_3 (List.mem_of_getElem? (i := 87) rfl) rfl
theorem mf_MD_109 : (Cond.fieldLink "ActionDigestsModel" 109 "ActionDigestsModel" "names" "[I") ∈ tb := tb_3 (List.mem_of_getElem? (i := 88) rfl) rfl
theorem mf_MD_112 : (Cond.fieldLink "ActionDigestsModel" 112 "ActionDigestsModel" "nameSize" "[I") ∈ tb := tb_3 (List.mem_of_getElem? (i := 89) rfl) rfl
theorem mf_MD_115 : (Cond.fieldLink "ActionDigestsModel" 115 "ActionDigestsModel" "salt" "[I") ∈ tb := tb_3 (List.mem_of_getElem? (i := 90) rfl) rfl
theorem mf_MD_118 : (Cond.fieldLink "ActionDigestsModel" 118 "ActionDigestsModel" "stable" "[I") ∈ tb := tb_3 (List.mem_of_getElem? (i := 91) rfl) rfl
theorem mf_MD_203 : (Cond.fieldLink "ActionDigestsModel" 203 "ActionDigestsModel" "stableSize" "I") ∈ tb := tb_3 (List.mem_of_getElem? (i := 92) rfl) rfl
theorem mf_MD_121 : (Cond.fieldLink "ActionDigestsModel" 121 "ActionDigestsModel" "sum" "[I") ∈ tb := tb_3 (List.mem_of_getElem? (i := 93) rfl) rfl
theorem mf_MD_124 : (Cond.fieldLink "ActionDigestsModel" 124 "ActionDigestsModel" "wide" "[I") ∈ tb := tb_3 (List.mem_of_getElem? (i := 94) rfl) rfl
theorem mf_MD_127 : (Cond.fieldLink "ActionDigestsModel" 127 "ActionDigestsModel" "turn" "[I") ∈ tb := tb_3 (List.mem_of_getElem? (i := 95) rfl) rfl
theorem ml_LW_45 : (Cond.methodLink "ActionDigestsLaw" 45 y_MD_thrown) ∈ tb := tb_3 (List.mem_of_getElem? (i := 141) rfl) rfl
theorem mi_MD_thrown : (Cond.instanceMethod y_MD_thrown) ∈ tb := tb_3 (List.mem_of_getElem? (i := 142) rfl) rfl
theorem mx_MD_thrown : (Cond.selects "ActionDigestsModel" y_MD_thrown y_MD_thrown) ∈ tb := tb_3 (List.mem_of_getElem? (i := 143) rfl) rfl
theorem mc_MD_thrown : (Cond.code y_MD_thrown b_MD_thrown 1 (some .int)) ∈ tb := tb_3 (List.mem_of_getElem? (i := 144) rfl) rfl
theorem ml_LW_38 : (Cond.methodLink "ActionDigestsLaw" 38 y_MD_type) ∈ tb := tb_3 (List.mem_of_getElem? (i := 145) rfl) rfl
theorem mi_MD_type : (Cond.instanceMethod y_MD_type) ∈ tb := tb_3 (List.mem_of_getElem? (i := 146) rfl) rfl
theorem mx_MD_type : (Cond.selects "ActionDigestsModel" y_MD_type y_MD_type) ∈ tb := tb_3 (List.mem_of_getElem? (i := 147) rfl) rfl
theorem mc_MD_type : (Cond.code y_MD_type b_MD_type 2 (some .boolean)) ∈ tb := tb_3 (List.mem_of_getElem? (i := 148) rfl) rfl
theorem ml_LW_44 : (Cond.methodLink "ActionDigestsLaw" 44 y_MD_action) ∈ tb := tb_3 (List.mem_of_getElem? (i := 149) rfl) rfl
theorem mi_MD_action : (Cond.instanceMethod y_MD_action) ∈ tb := tb_3 (List.mem_of_getElem? (i := 150) rfl) rfl
theorem mx_MD_action : (Cond.selects "ActionDigestsModel" y_MD_action y_MD_action) ∈ tb := tb_3 (List.mem_of_getElem? (i := 151) rfl) rfl
theorem mc_MD_action : (Cond.code y_MD_action b_MD_action 1 (some .int)) ∈ tb := tb_3 (List.mem_of_getElem? (i := 152) rfl) rfl
theorem ml_LW_55 : (Cond.methodLink "ActionDigestsLaw" 55 y_MD_row) ∈ tb := tb_3 (List.mem_of_getElem? (i := 153) rfl) rfl
theorem mi_MD_row : (Cond.instanceMethod y_MD_row) ∈ tb := tb_3 (List.mem_of_getElem? (i := 154) rfl) rfl
theorem mx_MD_row : (Cond.selects "ActionDigestsModel" y_MD_row y_MD_row) ∈ tb := tb_3 (List.mem_of_getElem? (i := 155) rfl) rfl
theorem mc_MD_row : (Cond.code y_MD_row b_MD_row 9 none) ∈ tb := tb_3 (List.mem_of_getElem? (i := 156) rfl) rfl
theorem ml_MD_164 : (Cond.methodLink "ActionDigestsModel" 164 y_MD_takes) ∈ tb := tb_3 (List.mem_of_getElem? (i := 157) rfl) rfl
theorem mi_MD_takes : (Cond.instanceMethod y_MD_takes) ∈ tb := tb_3 (List.mem_of_getElem? (i := 159) rfl) rfl
theorem mc_MD_takes : (Cond.code y_MD_takes b_MD_takes 2 (some .int)) ∈ tb := tb_3 (List.mem_of_getElem? (i := 160) rfl) rfl
theorem ml_MD_168 : (Cond.methodLink "ActionDigestsModel" 168 y_MD_isAction) ∈ tb := tb_3 (List.mem_of_getElem? (i := 161) rfl) rfl
theorem mi_MD_isAction : (Cond.instanceMethod y_MD_isAction) ∈ tb := tb_3 (List.mem_of_getElem? (i := 163) rfl) rfl
theorem mc_MD_isAction : (Cond.code y_MD_isAction b_MD_isAction 2 (some .boolean)) ∈ tb := tb_3 (List.mem_of_getElem? (i := 164) rfl) rfl
theorem ml_MD_171 : (Cond.methodLink "ActionDigestsModel" 171 y_MD_keyOf) ∈ tb := tb_3 (List.mem_of_getElem? (i := 165) rfl) rfl
theorem mi_MD_keyOf : (Cond.instanceMethod y_MD_keyOf) ∈ tb := tb_3 (List.mem_of_getElem? (i := 167) rfl) rfl
theorem mc_MD_keyOf : (Cond.code y_MD_keyOf b_MD_keyOf 4 (some .int)) ∈ tb := tb_3 (List.mem_of_getElem? (i := 168) rfl) rfl
theorem ml_MD_154 : (Cond.methodLink "ActionDigestsModel" 154 y_MD_isPath) ∈ tb := tb_3 (List.mem_of_getElem? (i := 169) rfl) rfl
theorem mi_MD_isPath : (Cond.instanceMethod y_MD_isPath) ∈ tb := tb_3 (List.mem_of_getElem? (i := 171) rfl) rfl
theorem mc_MD_isPath : (Cond.code y_MD_isPath b_MD_isPath 5 (some .boolean)) ∈ tb := tb_3 (List.mem_of_getElem? (i := 172) rfl) rfl
theorem ml_MD_147 : (Cond.methodLink "ActionDigestsModel" 147 y_MD_isLetter) ∈ tb := tb_3 (List.mem_of_getElem? (i := 173) rfl) rfl
theorem ms_MD_isLetter : (Cond.static y_MD_isLetter) ∈ tb := tb_3 (List.mem_of_getElem? (i := 174) rfl) rfl
theorem mc_MD_isLetter : (Cond.code y_MD_isLetter b_MD_isLetter 1 (some .boolean)) ∈ tb := tb_3 (List.mem_of_getElem? (i := 175) rfl) rfl
theorem ml_MD_151 : (Cond.methodLink "ActionDigestsModel" 151 y_MD_isDigit) ∈ tb := tb_3 (List.mem_of_getElem? (i := 176) rfl) rfl
theorem ms_MD_isDigit : (Cond.static y_MD_isDigit) ∈ tb := tb_3 (List.mem_of_getElem? (i := 177) rfl) rfl
theorem mc_MD_isDigit : (Cond.code y_MD_isDigit b_MD_isDigit 1 (some .boolean)) ∈ tb := tb_3 (List.mem_of_getElem? (i := 178) rfl) rfl
theorem ml_MD_157 : (Cond.methodLink "ActionDigestsModel" 157 y_MD_isName) ∈ tb := tb_3 (List.mem_of_getElem? (i := 179) rfl) rfl
theorem mi_MD_isName : (Cond.instanceMethod y_MD_isName) ∈ tb := tb_3 (List.mem_of_getElem? (i := 181) rfl) rfl
theorem mc_MD_isName : (Cond.code y_MD_isName b_MD_isName 4 (some .boolean)) ∈ tb := tb_3 (List.mem_of_getElem? (i := 182) rfl) rfl
theorem ml_MD_174 : (Cond.methodLink "ActionDigestsModel" 174 y_MD_hasKey) ∈ tb := tb_3 (List.mem_of_getElem? (i := 183) rfl) rfl
theorem mi_MD_hasKey : (Cond.instanceMethod y_MD_hasKey) ∈ tb := tb_3 (List.mem_of_getElem? (i := 185) rfl) rfl
theorem mc_MD_hasKey : (Cond.code y_MD_hasKey b_MD_hasKey 9 (some .boolean)) ∈ tb := tb_3 (List.mem_of_getElem? (i := 186) rfl) rfl
theorem ml_MD_160 : (Cond.methodLink "ActionDigestsModel" 160 y_MD_place) ∈ tb := tb_3 (List.mem_of_getElem? (i := 187) rfl) rfl
theorem mi_MD_place : (Cond.instanceMethod y_MD_place) ∈ tb := tb_3 (List.mem_of_getElem? (i := 189) rfl) rfl
theorem mc_MD_place : (Cond.code y_MD_place b_MD_place 3 (some .int)) ∈ tb := tb_3 (List.mem_of_getElem? (i := 190) rfl) rfl
theorem ml_MD_178 : (Cond.methodLink "ActionDigestsModel" 178 y_MD_refuses) ∈ tb := tb_3 (List.mem_of_getElem? (i := 191) rfl) rfl
theorem mi_MD_refuses : (Cond.instanceMethod y_MD_refuses) ∈ tb := tb_3 (List.mem_of_getElem? (i := 193) rfl) rfl
theorem mc_MD_refuses : (Cond.code y_MD_refuses b_MD_refuses 3 (some .boolean)) ∈ tb := tb_3 (List.mem_of_getElem? (i := 194) rfl) rfl
theorem ml_LW_58 : (Cond.methodLink "ActionDigestsLaw" 58 y_MD_edition) ∈ tb := tb_3 (List.mem_of_getElem? (i := 195) rfl) rfl
theorem mi_MD_edition : (Cond.instanceMethod y_MD_edition) ∈ tb := tb_3 (List.mem_of_getElem? (i := 196) rfl) rfl
theorem mx_MD_edition : (Cond.selects "ActionDigestsModel" y_MD_edition y_MD_edition) ∈ tb := tb_3 (List.mem_of_getElem? (i := 197) rfl) rfl
theorem mc_MD_edition : (Cond.code y_MD_edition b_MD_edition 8 none) ∈ tb := tb_3 (List.mem_of_getElem? (i := 198) rfl) rfl
theorem mq_MD_182 : (Cond.constant "ActionDigestsModel" 182 (99999999 : Int32)) ∈ tb := tb_3 (List.mem_of_getElem? (i := 199) rfl) rfl
theorem ml_LW_62 : (Cond.methodLink "ActionDigestsLaw" 62 y_MD_allow) ∈ tb := tb_3 (List.mem_of_getElem? (i := 200) rfl) rfl
theorem mi_MD_allow : (Cond.instanceMethod y_MD_allow) ∈ tb := tb_3 (List.mem_of_getElem? (i := 201) rfl) rfl
theorem mx_MD_allow : (Cond.selects "ActionDigestsModel" y_MD_allow y_MD_allow) ∈ tb := tb_3 (List.mem_of_getElem? (i := 202) rfl) rfl
theorem mc_MD_allow : (Cond.code y_MD_allow b_MD_allow 7 none) ∈ tb := tb_3 (List.mem_of_getElem? (i := 203) rfl) rfl
theorem ml_LW_65 : (Cond.methodLink "ActionDigestsLaw" 65 y_MD_salt) ∈ tb := tb_3 (List.mem_of_getElem? (i := 204) rfl) rfl
theorem mi_MD_salt : (Cond.instanceMethod y_MD_salt) ∈ tb := tb_3 (List.mem_of_getElem? (i := 205) rfl) rfl
theorem mx_MD_salt : (Cond.selects "ActionDigestsModel" y_MD_salt y_MD_salt) ∈ tb := tb_3 (List.mem_of_getElem? (i := 206) rfl) rfl
theorem mc_MD_salt : (Cond.code y_MD_salt b_MD_salt 3 none) ∈ tb := tb_3 (List.mem_of_getElem? (i := 207) rfl) rfl
theorem ml_LW_70 : (Cond.methodLink "ActionDigestsLaw" 70 y_MD_rows) ∈ tb := tb_3 (List.mem_of_getElem? (i := 208) rfl) rfl
theorem mi_MD_rows : (Cond.instanceMethod y_MD_rows) ∈ tb := tb_3 (List.mem_of_getElem? (i := 209) rfl) rfl
theorem mx_MD_rows : (Cond.selects "ActionDigestsModel" y_MD_rows y_MD_rows) ∈ tb := tb_3 (List.mem_of_getElem? (i := 210) rfl) rfl
theorem mc_MD_rows : (Cond.code y_MD_rows b_MD_rows 2 (some .int)) ∈ tb := tb_3 (List.mem_of_getElem? (i := 211) rfl) rfl
theorem ml_MD_196 : (Cond.methodLink "ActionDigestsModel" 196 y_MD_counting) ∈ tb := tb_3 (List.mem_of_getElem? (i := 212) rfl) rfl
theorem mi_MD_counting : (Cond.instanceMethod y_MD_counting) ∈ tb := tb_3 (List.mem_of_getElem? (i := 214) rfl) rfl
theorem mc_MD_counting : (Cond.code y_MD_counting b_MD_counting 4 (some .int)) ∈ tb := tb_3 (List.mem_of_getElem? (i := 215) rfl) rfl
theorem ml_MD_189 : (Cond.methodLink "ActionDigestsModel" 189 y_MD_isAllowed) ∈ tb := tb_3 (List.mem_of_getElem? (i := 216) rfl) rfl
theorem mi_MD_isAllowed : (Cond.instanceMethod y_MD_isAllowed) ∈ tb := tb_3 (List.mem_of_getElem? (i := 218) rfl) rfl
theorem mc_MD_isAllowed : (Cond.code y_MD_isAllowed b_MD_isAllowed 5 (some .boolean)) ∈ tb := tb_3 (List.mem_of_getElem? (i := 219) rfl) rfl
theorem ml_LW_75 : (Cond.methodLink "ActionDigestsLaw" 75 y_MD_kind) ∈ tb := tb_3 (List.mem_of_getElem? (i := 220) rfl) rfl
theorem mi_MD_kind : (Cond.instanceMethod y_MD_kind) ∈ tb := tb_3 (List.mem_of_getElem? (i := 221) rfl) rfl
theorem mx_MD_kind : (Cond.selects "ActionDigestsModel" y_MD_kind y_MD_kind) ∈ tb := tb_3 (List.mem_of_getElem? (i := 222) rfl) rfl
theorem mc_MD_kind : (Cond.code y_MD_kind b_MD_kind 3 (some .int)) ∈ tb := tb_3 (List.mem_of_getElem? (i := 223) rfl) rfl
theorem ml_MD_200 : (Cond.methodLink "ActionDigestsModel" 200 y_MD_rowAt) ∈ tb := tb_3 (List.mem_of_getElem? (i := 224) rfl) rfl
theorem mi_MD_rowAt : (Cond.instanceMethod y_MD_rowAt) ∈ tb := tb_3 (List.mem_of_getElem? (i := 226) rfl) rfl
theorem mc_MD_rowAt : (Cond.code y_MD_rowAt b_MD_rowAt 7 (some .int)) ∈ tb := tb_3 (List.mem_of_getElem? (i := 227) rfl) rfl
theorem ml_MD_192 : (Cond.methodLink "ActionDigestsModel" 192 y_MD_isBefore) ∈ tb := tb_3 (List.mem_of_getElem? (i := 228) rfl) rfl
theorem mi_MD_isBefore : (Cond.instanceMethod y_MD_isBefore) ∈ tb := tb_3 (List.mem_of_getElem? (i := 230) rfl) rfl
theorem mc_MD_isBefore : (Cond.code y_MD_isBefore b_MD_isBefore 4 (some .boolean)) ∈ tb := tb_3 (List.mem_of_getElem? (i := 231) rfl) rfl
theorem ml_LW_79 : (Cond.methodLink "ActionDigestsLaw" 79 y_MD_size) ∈ tb := tb_3 (List.mem_of_getElem? (i := 232) rfl) rfl
theorem mi_MD_size : (Cond.instanceMethod y_MD_size) ∈ tb := tb_3 (List.mem_of_getElem? (i := 233) rfl) rfl
theorem mx_MD_size : (Cond.selects "ActionDigestsModel" y_MD_size y_MD_size) ∈ tb := tb_3 (List.mem_of_getElem? (i := 234) rfl) rfl
theorem mc_MD_size : (Cond.code y_MD_size b_MD_size 2 (some .int)) ∈ tb := tb_3 (List.mem_of_getElem? (i := 235) rfl) rfl
theorem ml_MD_212 : (Cond.methodLink "ActionDigestsModel" 212 y_MD_write) ∈ tb := tb_3 (List.mem_of_getElem? (i := 236) rfl) rfl
theorem mi_MD_write : (Cond.instanceMethod y_MD_write) ∈ tb := tb_3 (List.mem_of_getElem? (i := 238) rfl) rfl
theorem mc_MD_write : (Cond.code y_MD_write b_MD_write 8 none) ∈ tb := tb_3 (List.mem_of_getElem? (i := 239) rfl) rfl
theorem ml_MD_206 : (Cond.methodLink "ActionDigestsModel" 206 y_MD_put) ∈ tb := tb_4 (List.mem_of_getElem? (i := 0) rfl) rfl
theorem mi_MD_put : (Cond.instanceMethod y_MD_put) ∈ tb := tb_4 (List.mem_of_getElem? (i := 2) rfl) rfl
theorem mc_MD_put : (Cond.code y_MD_put b_MD_put 2 none) ∈ tb := tb_4 (List.mem_of_getElem? (i := 3) rfl) rfl
theorem ml_MD_209 : (Cond.methodLink "ActionDigestsModel" 209 y_MD_hex) ∈ tb := tb_4 (List.mem_of_getElem? (i := 4) rfl) rfl
theorem ms_MD_hex : (Cond.static y_MD_hex) ∈ tb := tb_4 (List.mem_of_getElem? (i := 5) rfl) rfl
theorem mc_MD_hex : (Cond.code y_MD_hex b_MD_hex 1 (some .int)) ∈ tb := tb_4 (List.mem_of_getElem? (i := 6) rfl) rfl
theorem ml_LW_83 : (Cond.methodLink "ActionDigestsLaw" 83 y_MD_character) ∈ tb := tb_4 (List.mem_of_getElem? (i := 7) rfl) rfl
theorem mi_MD_character : (Cond.instanceMethod y_MD_character) ∈ tb := tb_4 (List.mem_of_getElem? (i := 8) rfl) rfl
theorem mx_MD_character : (Cond.selects "ActionDigestsModel" y_MD_character y_MD_character) ∈ tb := tb_4 (List.mem_of_getElem? (i := 9) rfl) rfl
theorem mc_MD_character : (Cond.code y_MD_character b_MD_character 3 (some .int)) ∈ tb := tb_4 (List.mem_of_getElem? (i := 10) rfl) rfl
theorem ml_LW_51 : (Cond.methodLink "ActionDigestsLaw" 51 y_MD_hold) ∈ tb := tb_4 (List.mem_of_getElem? (i := 11) rfl) rfl
theorem mi_MD_hold : (Cond.instanceMethod y_MD_hold) ∈ tb := tb_4 (List.mem_of_getElem? (i := 12) rfl) rfl
theorem mx_MD_hold : (Cond.selects "ActionDigestsModel" y_MD_hold y_MD_hold) ∈ tb := tb_4 (List.mem_of_getElem? (i := 13) rfl) rfl
theorem mc_MD_hold : (Cond.code y_MD_hold b_MD_hold 3 none) ∈ tb := tb_4 (List.mem_of_getElem? (i := 14) rfl) rfl
theorem ml_LW_87 : (Cond.methodLink "ActionDigestsLaw" 87 y_MD_digest) ∈ tb := tb_4 (List.mem_of_getElem? (i := 15) rfl) rfl
theorem mi_MD_digest : (Cond.instanceMethod y_MD_digest) ∈ tb := tb_4 (List.mem_of_getElem? (i := 16) rfl) rfl
theorem mx_MD_digest : (Cond.selects "ActionDigestsModel" y_MD_digest y_MD_digest) ∈ tb := tb_4 (List.mem_of_getElem? (i := 17) rfl) rfl
theorem mc_MD_digest : (Cond.code y_MD_digest b_MD_digest 4 (some .int)) ∈ tb := tb_4 (List.mem_of_getElem? (i := 18) rfl) rfl
theorem ml_LW_91 : (Cond.methodLink "ActionDigestsLaw" 91 y_MD_differ) ∈ tb := tb_4 (List.mem_of_getElem? (i := 19) rfl) rfl
theorem mi_MD_differ : (Cond.instanceMethod y_MD_differ) ∈ tb := tb_4 (List.mem_of_getElem? (i := 20) rfl) rfl
theorem mx_MD_differ : (Cond.selects "ActionDigestsModel" y_MD_differ y_MD_differ) ∈ tb := tb_4 (List.mem_of_getElem? (i := 21) rfl) rfl
theorem mc_MD_differ : (Cond.code y_MD_differ b_MD_differ 6 (some .int)) ∈ tb := tb_4 (List.mem_of_getElem? (i := 22) rfl) rfl
theorem ml_MD_227 : (Cond.methodLink "ActionDigestsModel" 227 y_MD_same) ∈ tb := tb_4 (List.mem_of_getElem? (i := 23) rfl) rfl
theorem mi_MD_same : (Cond.instanceMethod y_MD_same) ∈ tb := tb_4 (List.mem_of_getElem? (i := 25) rfl) rfl
theorem mc_MD_same : (Cond.code y_MD_same b_MD_same 5 (some .boolean)) ∈ tb := tb_4 (List.mem_of_getElem? (i := 26) rfl) rfl
theorem ml_LW_95 : (Cond.methodLink "ActionDigestsLaw" 95 y_MD_constant) ∈ tb := tb_4 (List.mem_of_getElem? (i := 27) rfl) rfl
theorem mi_MD_constant : (Cond.instanceMethod y_MD_constant) ∈ tb := tb_4 (List.mem_of_getElem? (i := 28) rfl) rfl
theorem mx_MD_constant : (Cond.selects "ActionDigestsModel" y_MD_constant y_MD_constant) ∈ tb := tb_4 (List.mem_of_getElem? (i := 29) rfl) rfl
theorem mc_MD_constant : (Cond.code y_MD_constant b_MD_constant 2 (some .int)) ∈ tb := tb_4 (List.mem_of_getElem? (i := 30) rfl) rfl
theorem ma_long : (Cond.arrayClass .long) ∈ tb := tb_4 (List.mem_of_getElem? (i := 31) rfl) rfl
