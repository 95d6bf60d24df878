section
-- ===== PART A: goes FIRST, ahead of the names: the tables' words, and 'selects' of the private methods out of them =====
/-- a private method of a class that the tables say can be made, by its rows of tables_1 -/
def lw_okq (q : MethodName × Nat) : Prop := (q.1.cls ≠ "java/lang/invoke/MethodHandle" ∧ q.1.cls ≠ "java/lang/invoke/VarHandle") ∧ Cond.instantiable q.1.cls q.2 ∈ tables_1 ∧ Cond.privateMethod q.1 ∈ tables_1 ∧ Cond.instanceMethod q.1 ∈ tables_1
theorem lw_p0 : lw_okq (⟨"ActionDigests", "holdContent", "([C)V"⟩, 8) := ⟨⟨by decide +kernel, by decide +kernel⟩, List.mem_of_getElem? (i := 16) (by decide +kernel), List.mem_of_getElem? (i := 63) (by decide +kernel), List.mem_of_getElem? (i := 64) (by decide +kernel)⟩
theorem lw_p1 : lw_okq (⟨"ActionDigests$Sha", "spreadWords", "()V"⟩, 4) := ⟨⟨by decide +kernel, by decide +kernel⟩, List.mem_of_getElem? (i := 38) (by decide +kernel), List.mem_of_getElem? (i := 81) (by decide +kernel), List.mem_of_getElem? (i := 82) (by decide +kernel)⟩
theorem lw_p2 : lw_okq (⟨"ActionDigests$Sha", "mixBlock", "()V"⟩, 4) := ⟨⟨by decide +kernel, by decide +kernel⟩, List.mem_of_getElem? (i := 38) (by decide +kernel), List.mem_of_getElem? (i := 88) (by decide +kernel), List.mem_of_getElem? (i := 89) (by decide +kernel)⟩
theorem lw_p3 : lw_okq (⟨"ActionDigests", "actionAt", "(I)LActionDigests$Action;"⟩, 8) := ⟨⟨by decide +kernel, by decide +kernel⟩, List.mem_of_getElem? (i := 16) (by decide +kernel), List.mem_of_getElem? (i := 149) (by decide +kernel), List.mem_of_getElem? (i := 150) (by decide +kernel)⟩
theorem lw_p4 : lw_okq (⟨"ActionDigests", "countingRowAt", "(LActionDigests$Action;I)LActionDigests$Row;"⟩, 8) := ⟨⟨by decide +kernel, by decide +kernel⟩, List.mem_of_getElem? (i := 16) (by decide +kernel), List.mem_of_getElem? (i := 153) (by decide +kernel), List.mem_of_getElem? (i := 154) (by decide +kernel)⟩
theorem lw_p5 : lw_okq (⟨"ActionDigests", "counts", "(LActionDigests$Row;)Z"⟩, 8) := ⟨⟨by decide +kernel, by decide +kernel⟩, List.mem_of_getElem? (i := 16) (by decide +kernel), List.mem_of_getElem? (i := 161) (by decide +kernel), List.mem_of_getElem? (i := 162) (by decide +kernel)⟩
theorem lw_p6 : lw_okq (⟨"ActionDigests", "isAllowed", "(LActionDigests$Key;)Z"⟩, 8) := ⟨⟨by decide +kernel, by decide +kernel⟩, List.mem_of_getElem? (i := 16) (by decide +kernel), List.mem_of_getElem? (i := 165) (by decide +kernel), List.mem_of_getElem? (i := 166) (by decide +kernel)⟩
theorem lw_p7 : lw_okq (⟨"ActionDigests", "rowInOrder", "(LActionDigests$Action;I)LActionDigests$Row;"⟩, 8) := ⟨⟨by decide +kernel, by decide +kernel⟩, List.mem_of_getElem? (i := 16) (by decide +kernel), List.mem_of_getElem? (i := 180) (by decide +kernel), List.mem_of_getElem? (i := 181) (by decide +kernel)⟩
theorem lw_p8 : lw_okq (⟨"ActionDigests", "feedRow", "(LActionDigests$Row;)V"⟩, 8) := ⟨⟨by decide +kernel, by decide +kernel⟩, List.mem_of_getElem? (i := 16) (by decide +kernel), List.mem_of_getElem? (i := 204) (by decide +kernel), List.mem_of_getElem? (i := 205) (by decide +kernel)⟩
theorem lw_p9 : lw_okq (⟨"java/lang/Throwable", "fillInStackTrace", "(I)Ljava/lang/Throwable;"⟩, 6) := ⟨⟨by decide +kernel, by decide +kernel⟩, List.mem_of_getElem? (i := 268) (by decide +kernel), List.mem_of_getElem? (i := 266) (by decide +kernel), List.mem_of_getElem? (i := 267) (by decide +kernel)⟩
theorem lw_p10 : lw_okq (⟨"ActionDigests", "bodyOf", "([CI)[C"⟩, 8) := ⟨⟨by decide +kernel, by decide +kernel⟩, List.mem_of_getElem? (i := 16) (by decide +kernel), List.mem_of_getElem? (i := 389) (by decide +kernel), List.mem_of_getElem? (i := 390) (by decide +kernel)⟩
theorem lw_p11 : lw_okq (⟨"ActionDigestsModel", "sumUp", "(I)V"⟩, 22) := ⟨⟨by decide +kernel, by decide +kernel⟩, List.mem_of_getElem? (i := 456) (by decide +kernel), List.mem_of_getElem? (i := 534) (by decide +kernel), List.mem_of_getElem? (i := 535) (by decide +kernel)⟩
theorem lw_p12 : lw_okq (⟨"ActionDigestsModel", "byteAt", "(III)I"⟩, 22) := ⟨⟨by decide +kernel, by decide +kernel⟩, List.mem_of_getElem? (i := 456) (by decide +kernel), List.mem_of_getElem? (i := 538) (by decide +kernel), List.mem_of_getElem? (i := 539) (by decide +kernel)⟩
theorem lw_p13 : lw_okq (⟨"ActionDigestsModel", "mixIn", "()V"⟩, 22) := ⟨⟨by decide +kernel, by decide +kernel⟩, List.mem_of_getElem? (i := 456) (by decide +kernel), List.mem_of_getElem? (i := 546) (by decide +kernel), List.mem_of_getElem? (i := 547) (by decide +kernel)⟩
theorem lw_p14 : lw_okq (⟨"ActionDigestsModel", "keepSum", "()V"⟩, 22) := ⟨⟨by decide +kernel, by decide +kernel⟩, List.mem_of_getElem? (i := 456) (by decide +kernel), List.mem_of_getElem? (i := 550) (by decide +kernel), List.mem_of_getElem? (i := 551) (by decide +kernel)⟩
theorem lw_p15 : lw_okq (⟨"ActionDigestsModel", "takes", "()I"⟩, 22) := ⟨⟨by decide +kernel, by decide +kernel⟩, List.mem_of_getElem? (i := 456) (by decide +kernel), List.mem_of_getElem? (i := 637) (by decide +kernel), List.mem_of_getElem? (i := 638) (by decide +kernel)⟩
def lw_privs_1 : List (MethodName × Nat) := [(⟨"ActionDigests", "holdContent", "([C)V"⟩, 8), (⟨"ActionDigests$Sha", "spreadWords", "()V"⟩, 4), (⟨"ActionDigests$Sha", "mixBlock", "()V"⟩, 4), (⟨"ActionDigests", "actionAt", "(I)LActionDigests$Action;"⟩, 8), (⟨"ActionDigests", "countingRowAt", "(LActionDigests$Action;I)LActionDigests$Row;"⟩, 8), (⟨"ActionDigests", "counts", "(LActionDigests$Row;)Z"⟩, 8), (⟨"ActionDigests", "isAllowed", "(LActionDigests$Key;)Z"⟩, 8), (⟨"ActionDigests", "rowInOrder", "(LActionDigests$Action;I)LActionDigests$Row;"⟩, 8), (⟨"ActionDigests", "feedRow", "(LActionDigests$Row;)V"⟩, 8), (⟨"java/lang/Throwable", "fillInStackTrace", "(I)Ljava/lang/Throwable;"⟩, 6), (⟨"ActionDigests", "bodyOf", "([CI)[C"⟩, 8), (⟨"ActionDigestsModel", "sumUp", "(I)V"⟩, 22), (⟨"ActionDigestsModel", "byteAt", "(III)I"⟩, 22), (⟨"ActionDigestsModel", "mixIn", "()V"⟩, 22), (⟨"ActionDigestsModel", "keepSum", "()V"⟩, 22), (⟨"ActionDigestsModel", "takes", "()I"⟩, 22)]
theorem lw_r1 : ∀ q ∈ lw_privs_1, lw_okq q := List.forall_mem_cons.mpr ⟨lw_p0, List.forall_mem_cons.mpr ⟨lw_p1, List.forall_mem_cons.mpr ⟨lw_p2, List.forall_mem_cons.mpr ⟨lw_p3, List.forall_mem_cons.mpr ⟨lw_p4, List.forall_mem_cons.mpr ⟨lw_p5, List.forall_mem_cons.mpr ⟨lw_p6, List.forall_mem_cons.mpr ⟨lw_p7, List.forall_mem_cons.mpr ⟨lw_p8, List.forall_mem_cons.mpr ⟨lw_p9, List.forall_mem_cons.mpr ⟨lw_p10, List.forall_mem_cons.mpr ⟨lw_p11, List.forall_mem_cons.mpr ⟨lw_p12, List.forall_mem_cons.mpr ⟨lw_p13, List.forall_mem_cons.mpr ⟨lw_p14, List.forall_mem_cons.mpr ⟨lw_p15, fun _ h => absurd h List.not_mem_nil⟩⟩⟩⟩⟩⟩⟩⟩⟩⟩⟩⟩⟩⟩⟩⟩
theorem lw_p16 : lw_okq (⟨"ActionDigestsModel", "isAction", "(I)Z"⟩, 22) := ⟨⟨by decide +kernel, by decide +kernel⟩, List.mem_of_getElem? (i := 456) (by decide +kernel), List.mem_of_getElem? (i := 641) (by decide +kernel), List.mem_of_getElem? (i := 642) (by decide +kernel)⟩
theorem lw_p17 : lw_okq (⟨"ActionDigestsModel", "keyOf", "(II)I"⟩, 22) := ⟨⟨by decide +kernel, by decide +kernel⟩, List.mem_of_getElem? (i := 456) (by decide +kernel), List.mem_of_getElem? (i := 645) (by decide +kernel), List.mem_of_getElem? (i := 646) (by decide +kernel)⟩
theorem lw_p18 : lw_okq (⟨"ActionDigestsModel", "isPath", "(I)Z"⟩, 22) := ⟨⟨by decide +kernel, by decide +kernel⟩, List.mem_of_getElem? (i := 456) (by decide +kernel), List.mem_of_getElem? (i := 649) (by decide +kernel), List.mem_of_getElem? (i := 650) (by decide +kernel)⟩
theorem lw_p19 : lw_okq (⟨"ActionDigestsModel", "isName", "(I)Z"⟩, 22) := ⟨⟨by decide +kernel, by decide +kernel⟩, List.mem_of_getElem? (i := 456) (by decide +kernel), List.mem_of_getElem? (i := 659) (by decide +kernel), List.mem_of_getElem? (i := 660) (by decide +kernel)⟩
theorem lw_p20 : lw_okq (⟨"ActionDigestsModel", "hasKey", "(III)Z"⟩, 22) := ⟨⟨by decide +kernel, by decide +kernel⟩, List.mem_of_getElem? (i := 456) (by decide +kernel), List.mem_of_getElem? (i := 663) (by decide +kernel), List.mem_of_getElem? (i := 664) (by decide +kernel)⟩
theorem lw_p21 : lw_okq (⟨"ActionDigestsModel", "place", "(II)I"⟩, 22) := ⟨⟨by decide +kernel, by decide +kernel⟩, List.mem_of_getElem? (i := 456) (by decide +kernel), List.mem_of_getElem? (i := 667) (by decide +kernel), List.mem_of_getElem? (i := 668) (by decide +kernel)⟩
theorem lw_p22 : lw_okq (⟨"ActionDigestsModel", "refuses", "(ZZ)Z"⟩, 22) := ⟨⟨by decide +kernel, by decide +kernel⟩, List.mem_of_getElem? (i := 456) (by decide +kernel), List.mem_of_getElem? (i := 671) (by decide +kernel), List.mem_of_getElem? (i := 672) (by decide +kernel)⟩
theorem lw_p23 : lw_okq (⟨"ActionDigestsModel", "counting", "(I)I"⟩, 22) := ⟨⟨by decide +kernel, by decide +kernel⟩, List.mem_of_getElem? (i := 456) (by decide +kernel), List.mem_of_getElem? (i := 692) (by decide +kernel), List.mem_of_getElem? (i := 693) (by decide +kernel)⟩
theorem lw_p24 : lw_okq (⟨"ActionDigestsModel", "isAllowed", "(I)Z"⟩, 22) := ⟨⟨by decide +kernel, by decide +kernel⟩, List.mem_of_getElem? (i := 456) (by decide +kernel), List.mem_of_getElem? (i := 696) (by decide +kernel), List.mem_of_getElem? (i := 697) (by decide +kernel)⟩
theorem lw_p25 : lw_okq (⟨"ActionDigestsModel", "rowAt", "(II)I"⟩, 22) := ⟨⟨by decide +kernel, by decide +kernel⟩, List.mem_of_getElem? (i := 456) (by decide +kernel), List.mem_of_getElem? (i := 704) (by decide +kernel), List.mem_of_getElem? (i := 705) (by decide +kernel)⟩
theorem lw_p26 : lw_okq (⟨"ActionDigestsModel", "isBefore", "(II)Z"⟩, 22) := ⟨⟨by decide +kernel, by decide +kernel⟩, List.mem_of_getElem? (i := 456) (by decide +kernel), List.mem_of_getElem? (i := 708) (by decide +kernel), List.mem_of_getElem? (i := 709) (by decide +kernel)⟩
theorem lw_p27 : lw_okq (⟨"ActionDigestsModel", "write", "(I)V"⟩, 22) := ⟨⟨by decide +kernel, by decide +kernel⟩, List.mem_of_getElem? (i := 456) (by decide +kernel), List.mem_of_getElem? (i := 716) (by decide +kernel), List.mem_of_getElem? (i := 717) (by decide +kernel)⟩
theorem lw_p28 : lw_okq (⟨"ActionDigestsModel", "put", "(I)V"⟩, 22) := ⟨⟨by decide +kernel, by decide +kernel⟩, List.mem_of_getElem? (i := 456) (by decide +kernel), List.mem_of_getElem? (i := 720) (by decide +kernel), List.mem_of_getElem? (i := 721) (by decide +kernel)⟩
theorem lw_p29 : lw_okq (⟨"ActionDigestsModel", "same", "(II)Z"⟩, 22) := ⟨⟨by decide +kernel, by decide +kernel⟩, List.mem_of_getElem? (i := 456) (by decide +kernel), List.mem_of_getElem? (i := 743) (by decide +kernel), List.mem_of_getElem? (i := 744) (by decide +kernel)⟩
def lw_privs_2 : List (MethodName × Nat) := [(⟨"ActionDigestsModel", "isAction", "(I)Z"⟩, 22), (⟨"ActionDigestsModel", "keyOf", "(II)I"⟩, 22), (⟨"ActionDigestsModel", "isPath", "(I)Z"⟩, 22), (⟨"ActionDigestsModel", "isName", "(I)Z"⟩, 22), (⟨"ActionDigestsModel", "hasKey", "(III)Z"⟩, 22), (⟨"ActionDigestsModel", "place", "(II)I"⟩, 22), (⟨"ActionDigestsModel", "refuses", "(ZZ)Z"⟩, 22), (⟨"ActionDigestsModel", "counting", "(I)I"⟩, 22), (⟨"ActionDigestsModel", "isAllowed", "(I)Z"⟩, 22), (⟨"ActionDigestsModel", "rowAt", "(II)I"⟩, 22), (⟨"ActionDigestsModel", "isBefore", "(II)Z"⟩, 22), (⟨"ActionDigestsModel", "write", "(I)V"⟩, 22), (⟨"ActionDigestsModel", "put", "(I)V"⟩, 22), (⟨"ActionDigestsModel", "same", "(II)Z"⟩, 22)]
theorem lw_r2 : ∀ q ∈ lw_privs_2, lw_okq q := List.forall_mem_cons.mpr ⟨lw_p16, List.forall_mem_cons.mpr ⟨lw_p17, List.forall_mem_cons.mpr ⟨lw_p18, List.forall_mem_cons.mpr ⟨lw_p19, List.forall_mem_cons.mpr ⟨lw_p20, List.forall_mem_cons.mpr ⟨lw_p21, List.forall_mem_cons.mpr ⟨lw_p22, List.forall_mem_cons.mpr ⟨lw_p23, List.forall_mem_cons.mpr ⟨lw_p24, List.forall_mem_cons.mpr ⟨lw_p25, List.forall_mem_cons.mpr ⟨lw_p26, List.forall_mem_cons.mpr ⟨lw_p27, List.forall_mem_cons.mpr ⟨lw_p28, List.forall_mem_cons.mpr ⟨lw_p29, fun _ h => absurd h List.not_mem_nil⟩⟩⟩⟩⟩⟩⟩⟩⟩⟩⟩⟩⟩⟩
def lw_privs : List (MethodName × Nat) := lw_privs_1 ++ (lw_privs_2)
def lw_tbl : List Cond := k2_sels lw_privs ++ tables_1
theorem lw_privs_ok : ∀ q ∈ lw_privs, lw_okq q := by
  show ∀ q ∈ lw_privs_1 ++ (lw_privs_2), lw_okq q
  exact List.forall_mem_append.mpr ⟨lw_r1, lw_r2⟩
end
section
/-- the words that a state carries on -/
def tb : List Cond := lw_tbl.filter goodWord
theorem gd_tb : GoodIn tb tb := fun w hw => ⟨hw, good_of_word (List.mem_filter.mp hw).2⟩
theorem tb_0 {w : Cond} (h : w ∈ k2_sels lw_privs) (g : goodWord w = true) : w ∈ tb := List.mem_filter.mpr ⟨List.mem_append_left _ h, g⟩
theorem tb_1 {w : Cond} (h : w ∈ tables_1_1) (g : goodWord w = true) : w ∈ tb := List.mem_filter.mpr ⟨List.mem_append_right _ (List.mem_append_left _ h), g⟩
theorem tb_2 {w : Cond} (h : w ∈ tables_1_2) (g : goodWord w = true) : w ∈ tb := List.mem_filter.mpr ⟨List.mem_append_right _ (List.mem_append_right _ (List.mem_append_left _ h)), g⟩
theorem tb_3 {w : Cond} (h : w ∈ tables_1_3) (g : goodWord w = true) : w ∈ tb := List.mem_filter.mpr ⟨List.mem_append_right _ (List.mem_append_right _ (List.mem_append_right _ (List.mem_append_left _ h))), g⟩
theorem tb_4 {w : Cond} (h : w ∈ tables_1_4) (g : goodWord w = true) : w ∈ tb := List.mem_filter.mpr ⟨List.mem_append_right _ (List.mem_append_right _ (List.mem_append_right _ (List.mem_append_right _ h))), g⟩
def F_AD : u_T := fun k => match k with
  | 0 => ("ActionDigests", "text", "LActionDigests$Text;", true)
  | 1 => ("ActionDigests", "sha", "LActionDigests$Sha;", true)
  | 2 => ("ActionDigests", "actions", "[LActionDigests$Action;", true)
  | 3 => ("ActionDigests", "actionCount", "I", false)
  | 4 => ("ActionDigests", "allowed", "[LActionDigests$Key;", true)
  | 5 => ("ActionDigests", "allowedCount", "I", false)
  | 6 => ("ActionDigests", "saltCharacters", "[C", false)
  | _ => ("ActionDigests", "heldDigits", "[C", true)
def t_AD : Nat → FieldType := fun k => match k with
  | 0 => (.object "ActionDigests$Text")
  | 1 => (.object "ActionDigests$Sha")
  | 2 => (.array (.object "ActionDigests$Action"))
  | 3 => .int
  | 4 => (.array (.object "ActionDigests$Key"))
  | 5 => .int
  | 6 => (.array .char)
  | _ => (.array .char)
theorem n_AD : ∀ a, a < 8 → ∀ b, b < 8 → a ≠ b → (F_AD a).2.1 ≠ (F_AD b).2.1 := by decide +kernel
theorem to_AD : ∀ k, k < 8 → parseFieldDescriptor (F_AD k).2.2.1 = some (t_AD k) := by decide +kernel
theorem i_AD : ∀ w ∈ u_ws "ActionDigests" F_AD 8, w ∈ tb := fun w hw => List.mem_filter.mpr ⟨(by decide +kernel : ∀ w ∈ u_ws "ActionDigests" F_AD 8, w ∈ lw_tbl) w hw, (by decide +kernel : ∀ w ∈ u_ws "ActionDigests" F_AD 8, goodWord w = true) w hw⟩
def F_TX : u_T := fun k => match k with
  | 0 => ("ActionDigests$Text", "characters", "[C", true)
  | _ => ("ActionDigests$Text", "length", "I", false)
def t_TX : Nat → FieldType := fun k => match k with
  | 0 => (.array .char)
  | _ => .int
theorem n_TX : ∀ a, a < 2 → ∀ b, b < 2 → a ≠ b → (F_TX a).2.1 ≠ (F_TX b).2.1 := by decide +kernel
theorem to_TX : ∀ k, k < 2 → parseFieldDescriptor (F_TX k).2.2.1 = some (t_TX k) := by decide +kernel
theorem i_TX : ∀ w ∈ u_ws "ActionDigests$Text" F_TX 2, w ∈ tb := fun w hw => List.mem_filter.mpr ⟨(by decide +kernel : ∀ w ∈ u_ws "ActionDigests$Text" F_TX 2, w ∈ lw_tbl) w hw, (by decide +kernel : ∀ w ∈ u_ws "ActionDigests$Text" F_TX 2, goodWord w = true) w hw⟩
def F_SH : u_T := fun k => match k with
  | 0 => ("ActionDigests$Sha", "sums", "[I", true)
  | 1 => ("ActionDigests$Sha", "words", "[I", true)
  | 2 => ("ActionDigests$Sha", "filled", "I", false)
  | _ => ("ActionDigests$Sha", "fed", "J", false)
def t_SH : Nat → FieldType := fun k => match k with
  | 0 => (.array .int)
  | 1 => (.array .int)
  | 2 => .int
  | _ => .long
theorem n_SH : ∀ a, a < 4 → ∀ b, b < 4 → a ≠ b → (F_SH a).2.1 ≠ (F_SH b).2.1 := by decide +kernel
theorem to_SH : ∀ k, k < 4 → parseFieldDescriptor (F_SH k).2.2.1 = some (t_SH k) := by decide +kernel
theorem i_SH : ∀ w ∈ u_ws "ActionDigests$Sha" F_SH 4, w ∈ tb := fun w hw => List.mem_filter.mpr ⟨(by decide +kernel : ∀ w ∈ u_ws "ActionDigests$Sha" F_SH 4, w ∈ lw_tbl) w hw, (by decide +kernel : ∀ w ∈ u_ws "ActionDigests$Sha" F_SH 4, goodWord w = true) w hw⟩
def F_AC : u_T := fun k => match k with
  | 0 => ("ActionDigests$Action", "ordered", "[LActionDigests$Row;", true)
  | _ => ("ActionDigests$Action", "count", "I", false)
def t_AC : Nat → FieldType := fun k => match k with
  | 0 => (.array (.object "ActionDigests$Row"))
  | _ => .int
theorem n_AC : ∀ a, a < 2 → ∀ b, b < 2 → a ≠ b → (F_AC a).2.1 ≠ (F_AC b).2.1 := by decide +kernel
theorem to_AC : ∀ k, k < 2 → parseFieldDescriptor (F_AC k).2.2.1 = some (t_AC k) := by decide +kernel
theorem i_AC : ∀ w ∈ u_ws "ActionDigests$Action" F_AC 2, w ∈ tb := fun w hw => List.mem_filter.mpr ⟨(by decide +kernel : ∀ w ∈ u_ws "ActionDigests$Action" F_AC 2, w ∈ lw_tbl) w hw, (by decide +kernel : ∀ w ∈ u_ws "ActionDigests$Action" F_AC 2, goodWord w = true) w hw⟩
def F_RW : u_T := fun k => match k with
  | 0 => ("ActionDigests$Row", "kind", "I", true)
  | 1 => ("ActionDigests$Row", "key", "LActionDigests$Key;", true)
  | _ => ("ActionDigests$Row", "body", "[C", true)
def t_RW : Nat → FieldType := fun k => match k with
  | 0 => .int
  | 1 => (.object "ActionDigests$Key")
  | _ => (.array .char)
theorem n_RW : ∀ a, a < 3 → ∀ b, b < 3 → a ≠ b → (F_RW a).2.1 ≠ (F_RW b).2.1 := by decide +kernel
theorem to_RW : ∀ k, k < 3 → parseFieldDescriptor (F_RW k).2.2.1 = some (t_RW k) := by decide +kernel
theorem i_RW : ∀ w ∈ u_ws "ActionDigests$Row" F_RW 3, w ∈ tb := fun w hw => List.mem_filter.mpr ⟨(by decide +kernel : ∀ w ∈ u_ws "ActionDigests$Row" F_RW 3, w ∈ lw_tbl) w hw, (by decide +kernel : ∀ w ∈ u_ws "ActionDigests$Row" F_RW 3, goodWord w = true) w hw⟩
def F_KY : u_T := fun k => match k with
  | 0 => ("ActionDigests$Key", "characters", "[C", true)
  | _ => ("ActionDigests$Key", "length", "I", true)
def t_KY : Nat → FieldType := fun k => match k with
  | 0 => (.array .char)
  | _ => .int
theorem n_KY : ∀ a, a < 2 → ∀ b, b < 2 → a ≠ b → (F_KY a).2.1 ≠ (F_KY b).2.1 := by decide +kernel
theorem to_KY : ∀ k, k < 2 → parseFieldDescriptor (F_KY k).2.2.1 = some (t_KY k) := by decide +kernel
theorem i_KY : ∀ w ∈ u_ws "ActionDigests$Key" F_KY 2, w ∈ tb := fun w hw => List.mem_filter.mpr ⟨(by decide +kernel : ∀ w ∈ u_ws "ActionDigests$Key" F_KY 2, w ∈ lw_tbl) w hw, (by decide +kernel : ∀ w ∈ u_ws "ActionDigests$Key" F_KY 2, goodWord w = true) w hw⟩
def F_MD : u_T := fun k => match k with
  | 0 => ("ActionDigestsModel", "roots", "[I", true)
  | 1 => ("ActionDigestsModel", "code", "I", false)
  | 2 => ("ActionDigestsModel", "text", "[I", true)
  | 3 => ("ActionDigestsModel", "typed", "I", false)
  | 4 => ("ActionDigestsModel", "actions", "I", false)
  | 5 => ("ActionDigestsModel", "allowed", "I", false)
  | 6 => ("ActionDigestsModel", "salted", "I", false)
  | 7 => ("ActionDigestsModel", "held", "[I", true)
  | 8 => ("ActionDigestsModel", "count", "[I", true)
  | 9 => ("ActionDigestsModel", "kind", "[I", true)
  | 10 => ("ActionDigestsModel", "size", "[I", true)
  | 11 => ("ActionDigestsModel", "key", "[I", true)
  | 12 => ("ActionDigestsModel", "letters", "[I", true)
  | 13 => ("ActionDigestsModel", "digests", "[I", true)
  | 14 => ("ActionDigestsModel", "names", "[I", true)
  | 15 => ("ActionDigestsModel", "nameSize", "[I", true)
  | 16 => ("ActionDigestsModel", "salt", "[I", true)
  | 17 => ("ActionDigestsModel", "stable", "[I", true)
  | 18 => ("ActionDigestsModel", "stableSize", "I", false)
  | 19 => ("ActionDigestsModel", "sum", "[I", true)
  | 20 => ("ActionDigestsModel", "wide", "[I", true)
  | _ => ("ActionDigestsModel", "turn", "[I", true)
def t_MD : Nat → FieldType := fun k => match k with
  | 0 => (.array .int)
  | 1 => .int
  | 2 => (.array .int)
  | 3 => .int
  | 4 => .int
  | 5 => .int
  | 6 => .int
  | 7 => (.array .int)
  | 8 => (.array .int)
  | 9 => (.array .int)
  | 10 => (.array .int)
  | 11 => (.array .int)
  | 12 => (.array .int)
  | 13 => (.array .int)
  | 14 => (.array .int)
  | 15 => (.array .int)
  | 16 => (.array .int)
  | 17 => (.array .int)
  | 18 => .int
  | 19 => (.array .int)
  | 20 => (.array .int)
  | _ => (.array .int)
theorem n_MD : ∀ a, a < 22 → ∀ b, b < 22 → a ≠ b → (F_MD a).2.1 ≠ (F_MD b).2.1 := by decide +kernel
theorem to_MD : ∀ k, k < 22 → parseFieldDescriptor (F_MD k).2.2.1 = some (t_MD k) := by decide +kernel
theorem i_MD : ∀ w ∈ u_ws "ActionDigestsModel" F_MD 22, w ∈ tb := fun w hw => List.mem_filter.mpr ⟨(by decide +kernel : ∀ w ∈ u_ws "ActionDigestsModel" F_MD 22, w ∈ lw_tbl) w hw, (by decide +kernel : ∀ w ∈ u_ws "ActionDigestsModel" F_MD 22, goodWord w = true) w hw⟩
def F_IS : u_T := fun k => match k with
  | _ => ("", "", "", false)
def t_IS : Nat → FieldType := fun k => match k with
  | _ => .int
theorem n_IS : ∀ a, a < 0 → ∀ b, b < 0 → a ≠ b → (F_IS a).2.1 ≠ (F_IS b).2.1 := by decide +kernel
theorem to_IS : ∀ k, k < 0 → parseFieldDescriptor (F_IS k).2.2.1 = some (t_IS k) := by decide +kernel
theorem i_IS : ∀ w ∈ u_ws "java/lang/IllegalStateException" F_IS 0, w ∈ tb := fun w hw => List.mem_filter.mpr ⟨(by decide +kernel : ∀ w ∈ u_ws "java/lang/IllegalStateException" F_IS 0, w ∈ lw_tbl) w hw, (by decide +kernel : ∀ w ∈ u_ws "java/lang/IllegalStateException" F_IS 0, goodWord w = true) w hw⟩
def F_IA : u_T := fun k => match k with
  | _ => ("", "", "", false)
def t_IA : Nat → FieldType := fun k => match k with
  | _ => .int
theorem n_IA : ∀ a, a < 0 → ∀ b, b < 0 → a ≠ b → (F_IA a).2.1 ≠ (F_IA b).2.1 := by decide +kernel
theorem to_IA : ∀ k, k < 0 → parseFieldDescriptor (F_IA k).2.2.1 = some (t_IA k) := by decide +kernel
theorem i_IA : ∀ w ∈ u_ws "java/lang/IllegalArgumentException" F_IA 0, w ∈ tb := fun w hw => List.mem_filter.mpr ⟨(by decide +kernel : ∀ w ∈ u_ws "java/lang/IllegalArgumentException" F_IA 0, w ∈ lw_tbl) w hw, (by decide +kernel : ∀ w ∈ u_ws "java/lang/IllegalArgumentException" F_IA 0, goodWord w = true) w hw⟩
abbrev ccl : List vw_C := [("ActionDigests", F_AD, 8), ("ActionDigests$Text", F_TX, 2), ("ActionDigests$Sha", F_SH, 4), ("ActionDigests$Action", F_AC, 2), ("ActionDigests$Row", F_RW, 3), ("ActionDigests$Key", F_KY, 2), ("ActionDigestsModel", F_MD, 22), ("java/lang/IllegalStateException", F_IS, 0), ("java/lang/IllegalArgumentException", F_IA, 0)]
abbrev tys (ct : Nat → ClassId) : List (ClassId × FieldType) := [(ct 0, .char), (ct 1, .int), (ct 2, .object "ActionDigests$Row"), (ct 3, .object "ActionDigests$Key"), (ct 4, .object "ActionDigests$Action"), (ct 5, .long)]
abbrev b_AD_init : ByteArray := prog_1_method_1_code
abbrev y_AD_init : MethodName := ⟨"ActionDigests", "<init>", "()V"⟩
theorem hd_AD_init : y_AD_init.cls ≠ "java/lang/invoke/MethodHandle" ∧ y_AD_init.cls ≠ "java/lang/invoke/VarHandle" ∧ (parseMethodDescriptor y_AD_init.desc).map (fun d => d.parameters.length) = some 0 := by decide +kernel
abbrev b_TX_init : ByteArray := prog_7_method_1_code
abbrev y_TX_init : MethodName := ⟨"ActionDigests$Text", "<init>", "()V"⟩
theorem hd_TX_init : y_TX_init.cls ≠ "java/lang/invoke/MethodHandle" ∧ y_TX_init.cls ≠ "java/lang/invoke/VarHandle" ∧ (parseMethodDescriptor y_TX_init.desc).map (fun d => d.parameters.length) = some 0 := by decide +kernel
abbrev b_SH_init : ByteArray := prog_6_method_1_code
abbrev y_SH_init : MethodName := ⟨"ActionDigests$Sha", "<init>", "()V"⟩
theorem hd_SH_init : y_SH_init.cls ≠ "java/lang/invoke/MethodHandle" ∧ y_SH_init.cls ≠ "java/lang/invoke/VarHandle" ∧ (parseMethodDescriptor y_SH_init.desc).map (fun d => d.parameters.length) = some 0 := by decide +kernel
abbrev b_AD_holdContent : ByteArray := prog_1_method_16_code
abbrev y_AD_holdContent : MethodName := ⟨"ActionDigests", "holdContent", "([C)V"⟩
theorem hd_AD_holdContent : y_AD_holdContent.cls ≠ "java/lang/invoke/MethodHandle" ∧ y_AD_holdContent.cls ≠ "java/lang/invoke/VarHandle" ∧ (parseMethodDescriptor y_AD_holdContent.desc).map (fun d => d.parameters.length) = some 1 := by decide +kernel
abbrev b_SH_begin : ByteArray := prog_6_method_2_code
abbrev y_SH_begin : MethodName := ⟨"ActionDigests$Sha", "begin", "()V"⟩
theorem hd_SH_begin : y_SH_begin.cls ≠ "java/lang/invoke/MethodHandle" ∧ y_SH_begin.cls ≠ "java/lang/invoke/VarHandle" ∧ (parseMethodDescriptor y_SH_begin.desc).map (fun d => d.parameters.length) = some 0 := by decide +kernel
abbrev b_SH_feedAll : ByteArray := prog_6_method_3_code
abbrev y_SH_feedAll : MethodName := ⟨"ActionDigests$Sha", "feedAll", "([C)V"⟩
theorem hd_SH_feedAll : y_SH_feedAll.cls ≠ "java/lang/invoke/MethodHandle" ∧ y_SH_feedAll.cls ≠ "java/lang/invoke/VarHandle" ∧ (parseMethodDescriptor y_SH_feedAll.desc).map (fun d => d.parameters.length) = some 1 := by decide +kernel
abbrev b_SH_feed : ByteArray := prog_6_method_4_code
abbrev y_SH_feed : MethodName := ⟨"ActionDigests$Sha", "feed", "(I)V"⟩
theorem hd_SH_feed : y_SH_feed.cls ≠ "java/lang/invoke/MethodHandle" ∧ y_SH_feed.cls ≠ "java/lang/invoke/VarHandle" ∧ (parseMethodDescriptor y_SH_feed.desc).map (fun d => d.parameters.length) = some 1 := by decide +kernel
abbrev b_SH_spreadWords : ByteArray := prog_6_method_7_code
abbrev y_SH_spreadWords : MethodName := ⟨"ActionDigests$Sha", "spreadWords", "()V"⟩
theorem hd_SH_spreadWords : y_SH_spreadWords.cls ≠ "java/lang/invoke/MethodHandle" ∧ y_SH_spreadWords.cls ≠ "java/lang/invoke/VarHandle" ∧ (parseMethodDescriptor y_SH_spreadWords.desc).map (fun d => d.parameters.length) = some 0 := by decide +kernel
abbrev b_SH_turned : ByteArray := prog_6_method_9_code
abbrev y_SH_turned : MethodName := ⟨"ActionDigests$Sha", "turned", "(II)I"⟩
theorem hd_SH_turned : y_SH_turned.cls ≠ "java/lang/invoke/MethodHandle" ∧ y_SH_turned.cls ≠ "java/lang/invoke/VarHandle" ∧ (parseMethodDescriptor y_SH_turned.desc).map (fun d => d.parameters.length) = some 2 := by decide +kernel
abbrev b_SH_mixBlock : ByteArray := prog_6_method_8_code
abbrev y_SH_mixBlock : MethodName := ⟨"ActionDigests$Sha", "mixBlock", "()V"⟩
theorem hd_SH_mixBlock : y_SH_mixBlock.cls ≠ "java/lang/invoke/MethodHandle" ∧ y_SH_mixBlock.cls ≠ "java/lang/invoke/VarHandle" ∧ (parseMethodDescriptor y_SH_mixBlock.desc).map (fun d => d.parameters.length) = some 0 := by decide +kernel
abbrev b_SH_end : ByteArray := prog_6_method_5_code
abbrev y_SH_end : MethodName := ⟨"ActionDigests$Sha", "end", "()V"⟩
theorem hd_SH_end : y_SH_end.cls ≠ "java/lang/invoke/MethodHandle" ∧ y_SH_end.cls ≠ "java/lang/invoke/VarHandle" ∧ (parseMethodDescriptor y_SH_end.desc).map (fun d => d.parameters.length) = some 0 := by decide +kernel
abbrev b_SH_writeDigits : ByteArray := prog_6_method_6_code
abbrev y_SH_writeDigits : MethodName := ⟨"ActionDigests$Sha", "writeDigits", "([C)V"⟩
theorem hd_SH_writeDigits : y_SH_writeDigits.cls ≠ "java/lang/invoke/MethodHandle" ∧ y_SH_writeDigits.cls ≠ "java/lang/invoke/VarHandle" ∧ (parseMethodDescriptor y_SH_writeDigits.desc).map (fun d => d.parameters.length) = some 1 := by decide +kernel
abbrev b_AD_type : ByteArray := prog_1_method_2_code
abbrev y_AD_type : MethodName := ⟨"ActionDigests", "type", "(C)Z"⟩
theorem hd_AD_type : y_AD_type.cls ≠ "java/lang/invoke/MethodHandle" ∧ y_AD_type.cls ≠ "java/lang/invoke/VarHandle" ∧ (parseMethodDescriptor y_AD_type.desc).map (fun d => d.parameters.length) = some 1 := by decide +kernel
abbrev b_TX_append : ByteArray := prog_7_method_2_code
abbrev y_TX_append : MethodName := ⟨"ActionDigests$Text", "append", "(C)Z"⟩
theorem hd_TX_append : y_TX_append.cls ≠ "java/lang/invoke/MethodHandle" ∧ y_TX_append.cls ≠ "java/lang/invoke/VarHandle" ∧ (parseMethodDescriptor y_TX_append.desc).map (fun d => d.parameters.length) = some 1 := by decide +kernel
abbrev b_AD_hold : ByteArray := prog_1_method_4_code
abbrev y_AD_hold : MethodName := ⟨"ActionDigests", "hold", "()V"⟩
theorem hd_AD_hold : y_AD_hold.cls ≠ "java/lang/invoke/MethodHandle" ∧ y_AD_hold.cls ≠ "java/lang/invoke/VarHandle" ∧ (parseMethodDescriptor y_AD_hold.desc).map (fun d => d.parameters.length) = some 0 := by decide +kernel
abbrev b_TX_take : ByteArray := prog_7_method_3_code
abbrev y_TX_take : MethodName := ⟨"ActionDigests$Text", "take", "()[C"⟩
theorem hd_TX_take : y_TX_take.cls ≠ "java/lang/invoke/MethodHandle" ∧ y_TX_take.cls ≠ "java/lang/invoke/VarHandle" ∧ (parseMethodDescriptor y_TX_take.desc).map (fun d => d.parameters.length) = some 0 := by decide +kernel
abbrev b_AD_rows : ByteArray := prog_1_method_9_code
abbrev y_AD_rows : MethodName := ⟨"ActionDigests", "rows", "(I)I"⟩
theorem hd_AD_rows : y_AD_rows.cls ≠ "java/lang/invoke/MethodHandle" ∧ y_AD_rows.cls ≠ "java/lang/invoke/VarHandle" ∧ (parseMethodDescriptor y_AD_rows.desc).map (fun d => d.parameters.length) = some 1 := by decide +kernel
abbrev b_AD_actionAt : ByteArray := prog_1_method_17_code
abbrev y_AD_actionAt : MethodName := ⟨"ActionDigests", "actionAt", "(I)LActionDigests$Action;"⟩
theorem hd_AD_actionAt : y_AD_actionAt.cls ≠ "java/lang/invoke/MethodHandle" ∧ y_AD_actionAt.cls ≠ "java/lang/invoke/VarHandle" ∧ (parseMethodDescriptor y_AD_actionAt.desc).map (fun d => d.parameters.length) = some 1 := by decide +kernel
abbrev b_AD_countingRowAt : ByteArray := prog_1_method_20_code
abbrev y_AD_countingRowAt : MethodName := ⟨"ActionDigests", "countingRowAt", "(LActionDigests$Action;I)LActionDigests$Row;"⟩
theorem hd_AD_countingRowAt : y_AD_countingRowAt.cls ≠ "java/lang/invoke/MethodHandle" ∧ y_AD_countingRowAt.cls ≠ "java/lang/invoke/VarHandle" ∧ (parseMethodDescriptor y_AD_countingRowAt.desc).map (fun d => d.parameters.length) = some 2 := by decide +kernel
abbrev b_AC_rowAt : ByteArray := prog_2_method_3_code
abbrev y_AC_rowAt : MethodName := ⟨"ActionDigests$Action", "rowAt", "(I)LActionDigests$Row;"⟩
theorem hd_AC_rowAt : y_AC_rowAt.cls ≠ "java/lang/invoke/MethodHandle" ∧ y_AC_rowAt.cls ≠ "java/lang/invoke/VarHandle" ∧ (parseMethodDescriptor y_AC_rowAt.desc).map (fun d => d.parameters.length) = some 1 := by decide +kernel
abbrev b_AD_counts : ByteArray := prog_1_method_19_code
abbrev y_AD_counts : MethodName := ⟨"ActionDigests", "counts", "(LActionDigests$Row;)Z"⟩
theorem hd_AD_counts : y_AD_counts.cls ≠ "java/lang/invoke/MethodHandle" ∧ y_AD_counts.cls ≠ "java/lang/invoke/VarHandle" ∧ (parseMethodDescriptor y_AD_counts.desc).map (fun d => d.parameters.length) = some 1 := by decide +kernel
abbrev b_AD_isAllowed : ByteArray := prog_1_method_18_code
abbrev y_AD_isAllowed : MethodName := ⟨"ActionDigests", "isAllowed", "(LActionDigests$Key;)Z"⟩
theorem hd_AD_isAllowed : y_AD_isAllowed.cls ≠ "java/lang/invoke/MethodHandle" ∧ y_AD_isAllowed.cls ≠ "java/lang/invoke/VarHandle" ∧ (parseMethodDescriptor y_AD_isAllowed.desc).map (fun d => d.parameters.length) = some 1 := by decide +kernel
abbrev b_KY_compareWith : ByteArray := prog_4_method_2_code
abbrev y_KY_compareWith : MethodName := ⟨"ActionDigests$Key", "compareWith", "(LActionDigests$Key;)I"⟩
theorem hd_KY_compareWith : y_KY_compareWith.cls ≠ "java/lang/invoke/MethodHandle" ∧ y_KY_compareWith.cls ≠ "java/lang/invoke/VarHandle" ∧ (parseMethodDescriptor y_KY_compareWith.desc).map (fun d => d.parameters.length) = some 1 := by decide +kernel
abbrev b_AD_kind : ByteArray := prog_1_method_10_code
abbrev y_AD_kind : MethodName := ⟨"ActionDigests", "kind", "(II)I"⟩
theorem hd_AD_kind : y_AD_kind.cls ≠ "java/lang/invoke/MethodHandle" ∧ y_AD_kind.cls ≠ "java/lang/invoke/VarHandle" ∧ (parseMethodDescriptor y_AD_kind.desc).map (fun d => d.parameters.length) = some 2 := by decide +kernel
abbrev b_AD_rowInOrder : ByteArray := prog_1_method_21_code
abbrev y_AD_rowInOrder : MethodName := ⟨"ActionDigests", "rowInOrder", "(LActionDigests$Action;I)LActionDigests$Row;"⟩
theorem hd_AD_rowInOrder : y_AD_rowInOrder.cls ≠ "java/lang/invoke/MethodHandle" ∧ y_AD_rowInOrder.cls ≠ "java/lang/invoke/VarHandle" ∧ (parseMethodDescriptor y_AD_rowInOrder.desc).map (fun d => d.parameters.length) = some 2 := by decide +kernel
abbrev b_AD_size : ByteArray := prog_1_method_11_code
abbrev y_AD_size : MethodName := ⟨"ActionDigests", "size", "(I)I"⟩
theorem hd_AD_size : y_AD_size.cls ≠ "java/lang/invoke/MethodHandle" ∧ y_AD_size.cls ≠ "java/lang/invoke/VarHandle" ∧ (parseMethodDescriptor y_AD_size.desc).map (fun d => d.parameters.length) = some 1 := by decide +kernel
abbrev b_RW_stableLength : ByteArray := prog_5_method_2_code
abbrev y_RW_stableLength : MethodName := ⟨"ActionDigests$Row", "stableLength", "()I"⟩
theorem hd_RW_stableLength : y_RW_stableLength.cls ≠ "java/lang/invoke/MethodHandle" ∧ y_RW_stableLength.cls ≠ "java/lang/invoke/VarHandle" ∧ (parseMethodDescriptor y_RW_stableLength.desc).map (fun d => d.parameters.length) = some 0 := by decide +kernel
abbrev b_AD_character : ByteArray := prog_1_method_12_code
abbrev y_AD_character : MethodName := ⟨"ActionDigests", "character", "(II)I"⟩
theorem hd_AD_character : y_AD_character.cls ≠ "java/lang/invoke/MethodHandle" ∧ y_AD_character.cls ≠ "java/lang/invoke/VarHandle" ∧ (parseMethodDescriptor y_AD_character.desc).map (fun d => d.parameters.length) = some 2 := by decide +kernel
abbrev b_RW_stableCharacter : ByteArray := prog_5_method_3_code
abbrev y_RW_stableCharacter : MethodName := ⟨"ActionDigests$Row", "stableCharacter", "(I)I"⟩
theorem hd_RW_stableCharacter : y_RW_stableCharacter.cls ≠ "java/lang/invoke/MethodHandle" ∧ y_RW_stableCharacter.cls ≠ "java/lang/invoke/VarHandle" ∧ (parseMethodDescriptor y_RW_stableCharacter.desc).map (fun d => d.parameters.length) = some 1 := by decide +kernel
abbrev b_AD_digest : ByteArray := prog_1_method_13_code
abbrev y_AD_digest : MethodName := ⟨"ActionDigests", "digest", "(II)I"⟩
theorem hd_AD_digest : y_AD_digest.cls ≠ "java/lang/invoke/MethodHandle" ∧ y_AD_digest.cls ≠ "java/lang/invoke/VarHandle" ∧ (parseMethodDescriptor y_AD_digest.desc).map (fun d => d.parameters.length) = some 2 := by decide +kernel
abbrev b_AD_feedRow : ByteArray := prog_1_method_22_code
abbrev y_AD_feedRow : MethodName := ⟨"ActionDigests", "feedRow", "(LActionDigests$Row;)V"⟩
theorem hd_AD_feedRow : y_AD_feedRow.cls ≠ "java/lang/invoke/MethodHandle" ∧ y_AD_feedRow.cls ≠ "java/lang/invoke/VarHandle" ∧ (parseMethodDescriptor y_AD_feedRow.desc).map (fun d => d.parameters.length) = some 1 := by decide +kernel
abbrev b_AD_differ : ByteArray := prog_1_method_14_code
abbrev y_AD_differ : MethodName := ⟨"ActionDigests", "differ", "(II)I"⟩
theorem hd_AD_differ : y_AD_differ.cls ≠ "java/lang/invoke/MethodHandle" ∧ y_AD_differ.cls ≠ "java/lang/invoke/VarHandle" ∧ (parseMethodDescriptor y_AD_differ.desc).map (fun d => d.parameters.length) = some 2 := by decide +kernel
abbrev b_RW_isLike : ByteArray := prog_5_method_5_code
abbrev y_RW_isLike : MethodName := ⟨"ActionDigests$Row", "isLike", "(LActionDigests$Row;)Z"⟩
theorem hd_RW_isLike : y_RW_isLike.cls ≠ "java/lang/invoke/MethodHandle" ∧ y_RW_isLike.cls ≠ "java/lang/invoke/VarHandle" ∧ (parseMethodDescriptor y_RW_isLike.desc).map (fun d => d.parameters.length) = some 1 := by decide +kernel
abbrev b_AD_constant : ByteArray := prog_1_method_15_code
abbrev y_AD_constant : MethodName := ⟨"ActionDigests", "constant", "(I)I"⟩
theorem hd_AD_constant : y_AD_constant.cls ≠ "java/lang/invoke/MethodHandle" ∧ y_AD_constant.cls ≠ "java/lang/invoke/VarHandle" ∧ (parseMethodDescriptor y_AD_constant.desc).map (fun d => d.parameters.length) = some 1 := by decide +kernel
abbrev b_AD_action : ByteArray := prog_1_method_3_code
abbrev y_AD_action : MethodName := ⟨"ActionDigests", "action", "()I"⟩
theorem hd_AD_action : y_AD_action.cls ≠ "java/lang/invoke/MethodHandle" ∧ y_AD_action.cls ≠ "java/lang/invoke/VarHandle" ∧ (parseMethodDescriptor y_AD_action.desc).map (fun d => d.parameters.length) = some 0 := by decide +kernel
abbrev b_AC_init : ByteArray := prog_2_method_1_code
abbrev y_AC_init : MethodName := ⟨"ActionDigests$Action", "<init>", "()V"⟩
theorem hd_AC_init : y_AC_init.cls ≠ "java/lang/invoke/MethodHandle" ∧ y_AC_init.cls ≠ "java/lang/invoke/VarHandle" ∧ (parseMethodDescriptor y_AC_init.desc).map (fun d => d.parameters.length) = some 0 := by decide +kernel
abbrev b_AD_row : ByteArray := prog_1_method_5_code
abbrev y_AD_row : MethodName := ⟨"ActionDigests", "row", "(II)V"⟩
theorem hd_AD_row : y_AD_row.cls ≠ "java/lang/invoke/MethodHandle" ∧ y_AD_row.cls ≠ "java/lang/invoke/VarHandle" ∧ (parseMethodDescriptor y_AD_row.desc).map (fun d => d.parameters.length) = some 2 := by decide +kernel
abbrev b_FM_fits : ByteArray := prog_3_method_2_code
abbrev y_FM_fits : MethodName := ⟨"ActionDigests$Forms", "fits", "([CI)Z"⟩
theorem hd_FM_fits : y_FM_fits.cls ≠ "java/lang/invoke/MethodHandle" ∧ y_FM_fits.cls ≠ "java/lang/invoke/VarHandle" ∧ (parseMethodDescriptor y_FM_fits.desc).map (fun d => d.parameters.length) = some 2 := by decide +kernel
abbrev b_FM_isPath : ByteArray := prog_3_method_7_code
abbrev y_FM_isPath : MethodName := ⟨"ActionDigests$Forms", "isPath", "([C)Z"⟩
theorem hd_FM_isPath : y_FM_isPath.cls ≠ "java/lang/invoke/MethodHandle" ∧ y_FM_isPath.cls ≠ "java/lang/invoke/VarHandle" ∧ (parseMethodDescriptor y_FM_isPath.desc).map (fun d => d.parameters.length) = some 1 := by decide +kernel
abbrev b_FM_isPiece : ByteArray := prog_3_method_8_code
abbrev y_FM_isPiece : MethodName := ⟨"ActionDigests$Forms", "isPiece", "([CII)Z"⟩
theorem hd_FM_isPiece : y_FM_isPiece.cls ≠ "java/lang/invoke/MethodHandle" ∧ y_FM_isPiece.cls ≠ "java/lang/invoke/VarHandle" ∧ (parseMethodDescriptor y_FM_isPiece.desc).map (fun d => d.parameters.length) = some 3 := by decide +kernel
abbrev b_FM_isLetter : ByteArray := prog_3_method_9_code
abbrev y_FM_isLetter : MethodName := ⟨"ActionDigests$Forms", "isLetter", "(C)Z"⟩
theorem hd_FM_isLetter : y_FM_isLetter.cls ≠ "java/lang/invoke/MethodHandle" ∧ y_FM_isLetter.cls ≠ "java/lang/invoke/VarHandle" ∧ (parseMethodDescriptor y_FM_isLetter.desc).map (fun d => d.parameters.length) = some 1 := by decide +kernel
abbrev b_FM_isDigit : ByteArray := prog_3_method_10_code
abbrev y_FM_isDigit : MethodName := ⟨"ActionDigests$Forms", "isDigit", "(C)Z"⟩
theorem hd_FM_isDigit : y_FM_isDigit.cls ≠ "java/lang/invoke/MethodHandle" ∧ y_FM_isDigit.cls ≠ "java/lang/invoke/VarHandle" ∧ (parseMethodDescriptor y_FM_isDigit.desc).map (fun d => d.parameters.length) = some 1 := by decide +kernel
abbrev b_FM_isNameAndValue : ByteArray := prog_3_method_5_code
abbrev y_FM_isNameAndValue : MethodName := ⟨"ActionDigests$Forms", "isNameAndValue", "([C)Z"⟩
theorem hd_FM_isNameAndValue : y_FM_isNameAndValue.cls ≠ "java/lang/invoke/MethodHandle" ∧ y_FM_isNameAndValue.cls ≠ "java/lang/invoke/VarHandle" ∧ (parseMethodDescriptor y_FM_isNameAndValue.desc).map (fun d => d.parameters.length) = some 1 := by decide +kernel
abbrev b_FM_nameLength : ByteArray := prog_3_method_6_code
abbrev y_FM_nameLength : MethodName := ⟨"ActionDigests$Forms", "nameLength", "([C)I"⟩
theorem hd_FM_nameLength : y_FM_nameLength.cls ≠ "java/lang/invoke/MethodHandle" ∧ y_FM_nameLength.cls ≠ "java/lang/invoke/VarHandle" ∧ (parseMethodDescriptor y_FM_nameLength.desc).map (fun d => d.parameters.length) = some 1 := by decide +kernel
abbrev b_FM_isName : ByteArray := prog_3_method_4_code
abbrev y_FM_isName : MethodName := ⟨"ActionDigests$Forms", "isName", "([CI)Z"⟩
theorem hd_FM_isName : y_FM_isName.cls ≠ "java/lang/invoke/MethodHandle" ∧ y_FM_isName.cls ≠ "java/lang/invoke/VarHandle" ∧ (parseMethodDescriptor y_FM_isName.desc).map (fun d => d.parameters.length) = some 2 := by decide +kernel
abbrev b_FM_keyLength : ByteArray := prog_3_method_3_code
abbrev y_FM_keyLength : MethodName := ⟨"ActionDigests$Forms", "keyLength", "([CI)I"⟩
theorem hd_FM_keyLength : y_FM_keyLength.cls ≠ "java/lang/invoke/MethodHandle" ∧ y_FM_keyLength.cls ≠ "java/lang/invoke/VarHandle" ∧ (parseMethodDescriptor y_FM_keyLength.desc).map (fun d => d.parameters.length) = some 2 := by decide +kernel
abbrev b_KY_init : ByteArray := prog_4_method_1_code
abbrev y_KY_init : MethodName := ⟨"ActionDigests$Key", "<init>", "([CI)V"⟩
theorem hd_KY_init : y_KY_init.cls ≠ "java/lang/invoke/MethodHandle" ∧ y_KY_init.cls ≠ "java/lang/invoke/VarHandle" ∧ (parseMethodDescriptor y_KY_init.desc).map (fun d => d.parameters.length) = some 2 := by decide +kernel
abbrev b_AC_has : ByteArray := prog_2_method_4_code
abbrev y_AC_has : MethodName := ⟨"ActionDigests$Action", "has", "(ILActionDigests$Key;)Z"⟩
theorem hd_AC_has : y_AC_has.cls ≠ "java/lang/invoke/MethodHandle" ∧ y_AC_has.cls ≠ "java/lang/invoke/VarHandle" ∧ (parseMethodDescriptor y_AC_has.desc).map (fun d => d.parameters.length) = some 2 := by decide +kernel
abbrev b_AC_isFull : ByteArray := prog_2_method_2_code
abbrev y_AC_isFull : MethodName := ⟨"ActionDigests$Action", "isFull", "()Z"⟩
theorem hd_AC_isFull : y_AC_isFull.cls ≠ "java/lang/invoke/MethodHandle" ∧ y_AC_isFull.cls ≠ "java/lang/invoke/VarHandle" ∧ (parseMethodDescriptor y_AC_isFull.desc).map (fun d => d.parameters.length) = some 0 := by decide +kernel
abbrev b_AD_bodyOf : ByteArray := prog_1_method_23_code
abbrev y_AD_bodyOf : MethodName := ⟨"ActionDigests", "bodyOf", "([CI)[C"⟩
theorem hd_AD_bodyOf : y_AD_bodyOf.cls ≠ "java/lang/invoke/MethodHandle" ∧ y_AD_bodyOf.cls ≠ "java/lang/invoke/VarHandle" ∧ (parseMethodDescriptor y_AD_bodyOf.desc).map (fun d => d.parameters.length) = some 2 := by decide +kernel
abbrev b_RW_init : ByteArray := prog_5_method_1_code
abbrev y_RW_init : MethodName := ⟨"ActionDigests$Row", "<init>", "(ILActionDigests$Key;[C)V"⟩
theorem hd_RW_init : y_RW_init.cls ≠ "java/lang/invoke/MethodHandle" ∧ y_RW_init.cls ≠ "java/lang/invoke/VarHandle" ∧ (parseMethodDescriptor y_RW_init.desc).map (fun d => d.parameters.length) = some 3 := by decide +kernel
abbrev b_AC_insert : ByteArray := prog_2_method_5_code
abbrev y_AC_insert : MethodName := ⟨"ActionDigests$Action", "insert", "(LActionDigests$Row;)V"⟩
theorem hd_AC_insert : y_AC_insert.cls ≠ "java/lang/invoke/MethodHandle" ∧ y_AC_insert.cls ≠ "java/lang/invoke/VarHandle" ∧ (parseMethodDescriptor y_AC_insert.desc).map (fun d => d.parameters.length) = some 1 := by decide +kernel
abbrev b_RW_isBehind : ByteArray := prog_5_method_4_code
abbrev y_RW_isBehind : MethodName := ⟨"ActionDigests$Row", "isBehind", "(LActionDigests$Row;)Z"⟩
theorem hd_RW_isBehind : y_RW_isBehind.cls ≠ "java/lang/invoke/MethodHandle" ∧ y_RW_isBehind.cls ≠ "java/lang/invoke/VarHandle" ∧ (parseMethodDescriptor y_RW_isBehind.desc).map (fun d => d.parameters.length) = some 1 := by decide +kernel
abbrev b_AD_edition : ByteArray := prog_1_method_6_code
abbrev y_AD_edition : MethodName := ⟨"ActionDigests", "edition", "(II)V"⟩
theorem hd_AD_edition : y_AD_edition.cls ≠ "java/lang/invoke/MethodHandle" ∧ y_AD_edition.cls ≠ "java/lang/invoke/VarHandle" ∧ (parseMethodDescriptor y_AD_edition.desc).map (fun d => d.parameters.length) = some 2 := by decide +kernel
abbrev b_AD_editionDigits : ByteArray := prog_1_method_24_code
abbrev y_AD_editionDigits : MethodName := ⟨"ActionDigests", "editionDigits", "(I)[C"⟩
theorem hd_AD_editionDigits : y_AD_editionDigits.cls ≠ "java/lang/invoke/MethodHandle" ∧ y_AD_editionDigits.cls ≠ "java/lang/invoke/VarHandle" ∧ (parseMethodDescriptor y_AD_editionDigits.desc).map (fun d => d.parameters.length) = some 1 := by decide +kernel
abbrev b_AC_replaceEdition : ByteArray := prog_2_method_6_code
abbrev y_AC_replaceEdition : MethodName := ⟨"ActionDigests$Action", "replaceEdition", "(LActionDigests$Row;)Z"⟩
theorem hd_AC_replaceEdition : y_AC_replaceEdition.cls ≠ "java/lang/invoke/MethodHandle" ∧ y_AC_replaceEdition.cls ≠ "java/lang/invoke/VarHandle" ∧ (parseMethodDescriptor y_AC_replaceEdition.desc).map (fun d => d.parameters.length) = some 1 := by decide +kernel
abbrev b_AD_allow : ByteArray := prog_1_method_7_code
abbrev y_AD_allow : MethodName := ⟨"ActionDigests", "allow", "()V"⟩
theorem hd_AD_allow : y_AD_allow.cls ≠ "java/lang/invoke/MethodHandle" ∧ y_AD_allow.cls ≠ "java/lang/invoke/VarHandle" ∧ (parseMethodDescriptor y_AD_allow.desc).map (fun d => d.parameters.length) = some 0 := by decide +kernel
abbrev b_AD_salt : ByteArray := prog_1_method_8_code
abbrev y_AD_salt : MethodName := ⟨"ActionDigests", "salt", "()V"⟩
theorem hd_AD_salt : y_AD_salt.cls ≠ "java/lang/invoke/MethodHandle" ∧ y_AD_salt.cls ≠ "java/lang/invoke/VarHandle" ∧ (parseMethodDescriptor y_AD_salt.desc).map (fun d => d.parameters.length) = some 0 := by decide +kernel
abbrev b_MD_init : ByteArray := prog_9_method_1_code
abbrev y_MD_init : MethodName := ⟨"ActionDigestsModel", "<init>", "()V"⟩
theorem hd_MD_init : y_MD_init.cls ≠ "java/lang/invoke/MethodHandle" ∧ y_MD_init.cls ≠ "java/lang/invoke/VarHandle" ∧ (parseMethodDescriptor y_MD_init.desc).map (fun d => d.parameters.length) = some 0 := by decide +kernel
abbrev b_MD_sumUp : ByteArray := prog_9_method_32_code
abbrev y_MD_sumUp : MethodName := ⟨"ActionDigestsModel", "sumUp", "(I)V"⟩
theorem hd_MD_sumUp : y_MD_sumUp.cls ≠ "java/lang/invoke/MethodHandle" ∧ y_MD_sumUp.cls ≠ "java/lang/invoke/VarHandle" ∧ (parseMethodDescriptor y_MD_sumUp.desc).map (fun d => d.parameters.length) = some 1 := by decide +kernel
abbrev b_MD_byteAt : ByteArray := prog_9_method_31_code
abbrev y_MD_byteAt : MethodName := ⟨"ActionDigestsModel", "byteAt", "(III)I"⟩
theorem hd_MD_byteAt : y_MD_byteAt.cls ≠ "java/lang/invoke/MethodHandle" ∧ y_MD_byteAt.cls ≠ "java/lang/invoke/VarHandle" ∧ (parseMethodDescriptor y_MD_byteAt.desc).map (fun d => d.parameters.length) = some 3 := by decide +kernel
abbrev b_MD_turned : ByteArray := prog_9_method_30_code
abbrev y_MD_turned : MethodName := ⟨"ActionDigestsModel", "turned", "(II)I"⟩
theorem hd_MD_turned : y_MD_turned.cls ≠ "java/lang/invoke/MethodHandle" ∧ y_MD_turned.cls ≠ "java/lang/invoke/VarHandle" ∧ (parseMethodDescriptor y_MD_turned.desc).map (fun d => d.parameters.length) = some 2 := by decide +kernel
abbrev b_MD_mixIn : ByteArray := prog_9_method_33_code
abbrev y_MD_mixIn : MethodName := ⟨"ActionDigestsModel", "mixIn", "()V"⟩
theorem hd_MD_mixIn : y_MD_mixIn.cls ≠ "java/lang/invoke/MethodHandle" ∧ y_MD_mixIn.cls ≠ "java/lang/invoke/VarHandle" ∧ (parseMethodDescriptor y_MD_mixIn.desc).map (fun d => d.parameters.length) = some 0 := by decide +kernel
abbrev b_MD_keepSum : ByteArray := prog_9_method_34_code
abbrev y_MD_keepSum : MethodName := ⟨"ActionDigestsModel", "keepSum", "()V"⟩
theorem hd_MD_keepSum : y_MD_keepSum.cls ≠ "java/lang/invoke/MethodHandle" ∧ y_MD_keepSum.cls ≠ "java/lang/invoke/VarHandle" ∧ (parseMethodDescriptor y_MD_keepSum.desc).map (fun d => d.parameters.length) = some 0 := by decide +kernel
abbrev b_MD_thrown : ByteArray := prog_9_method_2_code
abbrev y_MD_thrown : MethodName := ⟨"ActionDigestsModel", "thrown", "()I"⟩
theorem hd_MD_thrown : y_MD_thrown.cls ≠ "java/lang/invoke/MethodHandle" ∧ y_MD_thrown.cls ≠ "java/lang/invoke/VarHandle" ∧ (parseMethodDescriptor y_MD_thrown.desc).map (fun d => d.parameters.length) = some 0 := by decide +kernel
abbrev b_MD_type : ByteArray := prog_9_method_4_code
abbrev y_MD_type : MethodName := ⟨"ActionDigestsModel", "type", "(C)Z"⟩
theorem hd_MD_type : y_MD_type.cls ≠ "java/lang/invoke/MethodHandle" ∧ y_MD_type.cls ≠ "java/lang/invoke/VarHandle" ∧ (parseMethodDescriptor y_MD_type.desc).map (fun d => d.parameters.length) = some 1 := by decide +kernel
abbrev b_MD_action : ByteArray := prog_9_method_6_code
abbrev y_MD_action : MethodName := ⟨"ActionDigestsModel", "action", "()I"⟩
theorem hd_MD_action : y_MD_action.cls ≠ "java/lang/invoke/MethodHandle" ∧ y_MD_action.cls ≠ "java/lang/invoke/VarHandle" ∧ (parseMethodDescriptor y_MD_action.desc).map (fun d => d.parameters.length) = some 0 := by decide +kernel
abbrev b_MD_row : ByteArray := prog_9_method_15_code
abbrev y_MD_row : MethodName := ⟨"ActionDigestsModel", "row", "(II)V"⟩
theorem hd_MD_row : y_MD_row.cls ≠ "java/lang/invoke/MethodHandle" ∧ y_MD_row.cls ≠ "java/lang/invoke/VarHandle" ∧ (parseMethodDescriptor y_MD_row.desc).map (fun d => d.parameters.length) = some 2 := by decide +kernel
abbrev b_MD_takes : ByteArray := prog_9_method_5_code
abbrev y_MD_takes : MethodName := ⟨"ActionDigestsModel", "takes", "()I"⟩
theorem hd_MD_takes : y_MD_takes.cls ≠ "java/lang/invoke/MethodHandle" ∧ y_MD_takes.cls ≠ "java/lang/invoke/VarHandle" ∧ (parseMethodDescriptor y_MD_takes.desc).map (fun d => d.parameters.length) = some 0 := by decide +kernel
abbrev b_MD_isAction : ByteArray := prog_9_method_12_code
abbrev y_MD_isAction : MethodName := ⟨"ActionDigestsModel", "isAction", "(I)Z"⟩
theorem hd_MD_isAction : y_MD_isAction.cls ≠ "java/lang/invoke/MethodHandle" ∧ y_MD_isAction.cls ≠ "java/lang/invoke/VarHandle" ∧ (parseMethodDescriptor y_MD_isAction.desc).map (fun d => d.parameters.length) = some 1 := by decide +kernel
abbrev b_MD_keyOf : ByteArray := prog_9_method_11_code
abbrev y_MD_keyOf : MethodName := ⟨"ActionDigestsModel", "keyOf", "(II)I"⟩
theorem hd_MD_keyOf : y_MD_keyOf.cls ≠ "java/lang/invoke/MethodHandle" ∧ y_MD_keyOf.cls ≠ "java/lang/invoke/VarHandle" ∧ (parseMethodDescriptor y_MD_keyOf.desc).map (fun d => d.parameters.length) = some 2 := by decide +kernel
abbrev b_MD_isPath : ByteArray := prog_9_method_10_code
abbrev y_MD_isPath : MethodName := ⟨"ActionDigestsModel", "isPath", "(I)Z"⟩
theorem hd_MD_isPath : y_MD_isPath.cls ≠ "java/lang/invoke/MethodHandle" ∧ y_MD_isPath.cls ≠ "java/lang/invoke/VarHandle" ∧ (parseMethodDescriptor y_MD_isPath.desc).map (fun d => d.parameters.length) = some 1 := by decide +kernel
abbrev b_MD_isLetter : ByteArray := prog_9_method_7_code
abbrev y_MD_isLetter : MethodName := ⟨"ActionDigestsModel", "isLetter", "(I)Z"⟩
theorem hd_MD_isLetter : y_MD_isLetter.cls ≠ "java/lang/invoke/MethodHandle" ∧ y_MD_isLetter.cls ≠ "java/lang/invoke/VarHandle" ∧ (parseMethodDescriptor y_MD_isLetter.desc).map (fun d => d.parameters.length) = some 1 := by decide +kernel
abbrev b_MD_isDigit : ByteArray := prog_9_method_8_code
abbrev y_MD_isDigit : MethodName := ⟨"ActionDigestsModel", "isDigit", "(I)Z"⟩
theorem hd_MD_isDigit : y_MD_isDigit.cls ≠ "java/lang/invoke/MethodHandle" ∧ y_MD_isDigit.cls ≠ "java/lang/invoke/VarHandle" ∧ (parseMethodDescriptor y_MD_isDigit.desc).map (fun d => d.parameters.length) = some 1 := by decide +kernel
abbrev b_MD_isName : ByteArray := prog_9_method_9_code
abbrev y_MD_isName : MethodName := ⟨"ActionDigestsModel", "isName", "(I)Z"⟩
theorem hd_MD_isName : y_MD_isName.cls ≠ "java/lang/invoke/MethodHandle" ∧ y_MD_isName.cls ≠ "java/lang/invoke/VarHandle" ∧ (parseMethodDescriptor y_MD_isName.desc).map (fun d => d.parameters.length) = some 1 := by decide +kernel
abbrev b_MD_hasKey : ByteArray := prog_9_method_14_code
abbrev y_MD_hasKey : MethodName := ⟨"ActionDigestsModel", "hasKey", "(III)Z"⟩
theorem hd_MD_hasKey : y_MD_hasKey.cls ≠ "java/lang/invoke/MethodHandle" ∧ y_MD_hasKey.cls ≠ "java/lang/invoke/VarHandle" ∧ (parseMethodDescriptor y_MD_hasKey.desc).map (fun d => d.parameters.length) = some 3 := by decide +kernel
abbrev b_MD_place : ByteArray := prog_9_method_13_code
abbrev y_MD_place : MethodName := ⟨"ActionDigestsModel", "place", "(II)I"⟩
theorem hd_MD_place : y_MD_place.cls ≠ "java/lang/invoke/MethodHandle" ∧ y_MD_place.cls ≠ "java/lang/invoke/VarHandle" ∧ (parseMethodDescriptor y_MD_place.desc).map (fun d => d.parameters.length) = some 2 := by decide +kernel
abbrev b_MD_refuses : ByteArray := prog_9_method_3_code
abbrev y_MD_refuses : MethodName := ⟨"ActionDigestsModel", "refuses", "(ZZ)Z"⟩
theorem hd_MD_refuses : y_MD_refuses.cls ≠ "java/lang/invoke/MethodHandle" ∧ y_MD_refuses.cls ≠ "java/lang/invoke/VarHandle" ∧ (parseMethodDescriptor y_MD_refuses.desc).map (fun d => d.parameters.length) = some 2 := by decide +kernel
abbrev b_MD_edition : ByteArray := prog_9_method_16_code
abbrev y_MD_edition : MethodName := ⟨"ActionDigestsModel", "edition", "(II)V"⟩
theorem hd_MD_edition : y_MD_edition.cls ≠ "java/lang/invoke/MethodHandle" ∧ y_MD_edition.cls ≠ "java/lang/invoke/VarHandle" ∧ (parseMethodDescriptor y_MD_edition.desc).map (fun d => d.parameters.length) = some 2 := by decide +kernel
abbrev b_MD_allow : ByteArray := prog_9_method_18_code
abbrev y_MD_allow : MethodName := ⟨"ActionDigestsModel", "allow", "()V"⟩
theorem hd_MD_allow : y_MD_allow.cls ≠ "java/lang/invoke/MethodHandle" ∧ y_MD_allow.cls ≠ "java/lang/invoke/VarHandle" ∧ (parseMethodDescriptor y_MD_allow.desc).map (fun d => d.parameters.length) = some 0 := by decide +kernel
abbrev b_MD_salt : ByteArray := prog_9_method_19_code
abbrev y_MD_salt : MethodName := ⟨"ActionDigestsModel", "salt", "()V"⟩
theorem hd_MD_salt : y_MD_salt.cls ≠ "java/lang/invoke/MethodHandle" ∧ y_MD_salt.cls ≠ "java/lang/invoke/VarHandle" ∧ (parseMethodDescriptor y_MD_salt.desc).map (fun d => d.parameters.length) = some 0 := by decide +kernel
abbrev b_MD_rows : ByteArray := prog_9_method_23_code
abbrev y_MD_rows : MethodName := ⟨"ActionDigestsModel", "rows", "(I)I"⟩
theorem hd_MD_rows : y_MD_rows.cls ≠ "java/lang/invoke/MethodHandle" ∧ y_MD_rows.cls ≠ "java/lang/invoke/VarHandle" ∧ (parseMethodDescriptor y_MD_rows.desc).map (fun d => d.parameters.length) = some 1 := by decide +kernel
abbrev b_MD_counting : ByteArray := prog_9_method_21_code
abbrev y_MD_counting : MethodName := ⟨"ActionDigestsModel", "counting", "(I)I"⟩
theorem hd_MD_counting : y_MD_counting.cls ≠ "java/lang/invoke/MethodHandle" ∧ y_MD_counting.cls ≠ "java/lang/invoke/VarHandle" ∧ (parseMethodDescriptor y_MD_counting.desc).map (fun d => d.parameters.length) = some 1 := by decide +kernel
abbrev b_MD_isAllowed : ByteArray := prog_9_method_17_code
abbrev y_MD_isAllowed : MethodName := ⟨"ActionDigestsModel", "isAllowed", "(I)Z"⟩
theorem hd_MD_isAllowed : y_MD_isAllowed.cls ≠ "java/lang/invoke/MethodHandle" ∧ y_MD_isAllowed.cls ≠ "java/lang/invoke/VarHandle" ∧ (parseMethodDescriptor y_MD_isAllowed.desc).map (fun d => d.parameters.length) = some 1 := by decide +kernel
abbrev b_MD_kind : ByteArray := prog_9_method_24_code
abbrev y_MD_kind : MethodName := ⟨"ActionDigestsModel", "kind", "(II)I"⟩
theorem hd_MD_kind : y_MD_kind.cls ≠ "java/lang/invoke/MethodHandle" ∧ y_MD_kind.cls ≠ "java/lang/invoke/VarHandle" ∧ (parseMethodDescriptor y_MD_kind.desc).map (fun d => d.parameters.length) = some 2 := by decide +kernel
abbrev b_MD_rowAt : ByteArray := prog_9_method_22_code
abbrev y_MD_rowAt : MethodName := ⟨"ActionDigestsModel", "rowAt", "(II)I"⟩
theorem hd_MD_rowAt : y_MD_rowAt.cls ≠ "java/lang/invoke/MethodHandle" ∧ y_MD_rowAt.cls ≠ "java/lang/invoke/VarHandle" ∧ (parseMethodDescriptor y_MD_rowAt.desc).map (fun d => d.parameters.length) = some 2 := by decide +kernel
abbrev b_MD_isBefore : ByteArray := prog_9_method_20_code
abbrev y_MD_isBefore : MethodName := ⟨"ActionDigestsModel", "isBefore", "(II)Z"⟩
theorem hd_MD_isBefore : y_MD_isBefore.cls ≠ "java/lang/invoke/MethodHandle" ∧ y_MD_isBefore.cls ≠ "java/lang/invoke/VarHandle" ∧ (parseMethodDescriptor y_MD_isBefore.desc).map (fun d => d.parameters.length) = some 2 := by decide +kernel
abbrev b_MD_size : ByteArray := prog_9_method_28_code
abbrev y_MD_size : MethodName := ⟨"ActionDigestsModel", "size", "(I)I"⟩
theorem hd_MD_size : y_MD_size.cls ≠ "java/lang/invoke/MethodHandle" ∧ y_MD_size.cls ≠ "java/lang/invoke/VarHandle" ∧ (parseMethodDescriptor y_MD_size.desc).map (fun d => d.parameters.length) = some 1 := by decide +kernel
abbrev b_MD_write : ByteArray := prog_9_method_27_code
abbrev y_MD_write : MethodName := ⟨"ActionDigestsModel", "write", "(I)V"⟩
theorem hd_MD_write : y_MD_write.cls ≠ "java/lang/invoke/MethodHandle" ∧ y_MD_write.cls ≠ "java/lang/invoke/VarHandle" ∧ (parseMethodDescriptor y_MD_write.desc).map (fun d => d.parameters.length) = some 1 := by decide +kernel
abbrev b_MD_put : ByteArray := prog_9_method_25_code
abbrev y_MD_put : MethodName := ⟨"ActionDigestsModel", "put", "(I)V"⟩
theorem hd_MD_put : y_MD_put.cls ≠ "java/lang/invoke/MethodHandle" ∧ y_MD_put.cls ≠ "java/lang/invoke/VarHandle" ∧ (parseMethodDescriptor y_MD_put.desc).map (fun d => d.parameters.length) = some 1 := by decide +kernel
abbrev b_MD_hex : ByteArray := prog_9_method_26_code
abbrev y_MD_hex : MethodName := ⟨"ActionDigestsModel", "hex", "(I)I"⟩
theorem hd_MD_hex : y_MD_hex.cls ≠ "java/lang/invoke/MethodHandle" ∧ y_MD_hex.cls ≠ "java/lang/invoke/VarHandle" ∧ (parseMethodDescriptor y_MD_hex.desc).map (fun d => d.parameters.length) = some 1 := by decide +kernel
abbrev b_MD_character : ByteArray := prog_9_method_29_code
abbrev y_MD_character : MethodName := ⟨"ActionDigestsModel", "character", "(II)I"⟩
theorem hd_MD_character : y_MD_character.cls ≠ "java/lang/invoke/MethodHandle" ∧ y_MD_character.cls ≠ "java/lang/invoke/VarHandle" ∧ (parseMethodDescriptor y_MD_character.desc).map (fun d => d.parameters.length) = some 2 := by decide +kernel
abbrev b_MD_hold : ByteArray := prog_9_method_35_code
abbrev y_MD_hold : MethodName := ⟨"ActionDigestsModel", "hold", "()V"⟩
theorem hd_MD_hold : y_MD_hold.cls ≠ "java/lang/invoke/MethodHandle" ∧ y_MD_hold.cls ≠ "java/lang/invoke/VarHandle" ∧ (parseMethodDescriptor y_MD_hold.desc).map (fun d => d.parameters.length) = some 0 := by decide +kernel
abbrev b_MD_digest : ByteArray := prog_9_method_36_code
abbrev y_MD_digest : MethodName := ⟨"ActionDigestsModel", "digest", "(II)I"⟩
theorem hd_MD_digest : y_MD_digest.cls ≠ "java/lang/invoke/MethodHandle" ∧ y_MD_digest.cls ≠ "java/lang/invoke/VarHandle" ∧ (parseMethodDescriptor y_MD_digest.desc).map (fun d => d.parameters.length) = some 2 := by decide +kernel
abbrev b_MD_differ : ByteArray := prog_9_method_38_code
abbrev y_MD_differ : MethodName := ⟨"ActionDigestsModel", "differ", "(II)I"⟩
theorem hd_MD_differ : y_MD_differ.cls ≠ "java/lang/invoke/MethodHandle" ∧ y_MD_differ.cls ≠ "java/lang/invoke/VarHandle" ∧ (parseMethodDescriptor y_MD_differ.desc).map (fun d => d.parameters.length) = some 2 := by decide +kernel
abbrev b_MD_same : ByteArray := prog_9_method_37_code
abbrev y_MD_same : MethodName := ⟨"ActionDigestsModel", "same", "(II)Z"⟩
theorem hd_MD_same : y_MD_same.cls ≠ "java/lang/invoke/MethodHandle" ∧ y_MD_same.cls ≠ "java/lang/invoke/VarHandle" ∧ (parseMethodDescriptor y_MD_same.desc).map (fun d => d.parameters.length) = some 2 := by decide +kernel
abbrev b_MD_constant : ByteArray := prog_9_method_39_code
abbrev y_MD_constant : MethodName := ⟨"ActionDigestsModel", "constant", "(I)I"⟩
theorem hd_MD_constant : y_MD_constant.cls ≠ "java/lang/invoke/MethodHandle" ∧ y_MD_constant.cls ≠ "java/lang/invoke/VarHandle" ∧ (parseMethodDescriptor y_MD_constant.desc).map (fun d => d.parameters.length) = some 1 := by decide +kernel
theorem mx_AD_holdContent : (Cond.selects "ActionDigests" y_AD_holdContent y_AD_holdContent) ∈ tb := tb_0 (List.mem_of_getElem? (i := 0) rfl) rfl
theorem mx_SH_spreadWords : (Cond.selects "ActionDigests$Sha" y_SH_spreadWords y_SH_spreadWords) ∈ tb := tb_0 (List.mem_of_getElem? (i := 1) rfl) rfl
theorem mx_SH_mixBlock : (Cond.selects "ActionDigests$Sha" y_SH_mixBlock y_SH_mixBlock) ∈ tb := tb_0 (List.mem_of_getElem? (i := 2) rfl) rfl
theorem mx_AD_actionAt : (Cond.selects "ActionDigests" y_AD_actionAt y_AD_actionAt) ∈ tb := tb_0 (List.mem_of_getElem? (i := 3) rfl) rfl
theorem mx_AD_countingRowAt : (Cond.selects "ActionDigests" y_AD_countingRowAt y_AD_countingRowAt) ∈ tb := tb_0 (List.mem_of_getElem? (i := 4) rfl) rfl
theorem mx_AD_counts : (Cond.selects "ActionDigests" y_AD_counts y_AD_counts) ∈ tb := tb_0 (List.mem_of_getElem? (i := 5) rfl) rfl
theorem mx_AD_isAllowed : (Cond.selects "ActionDigests" y_AD_isAllowed y_AD_isAllowed) ∈ tb := tb_0 (List.mem_of_getElem? (i := 6) rfl) rfl
theorem mx_AD_rowInOrder : (Cond.selects "ActionDigests" y_AD_rowInOrder y_AD_rowInOrder) ∈ tb := tb_0 (List.mem_of_getElem? (i := 7) rfl) rfl
theorem mx_AD_feedRow : (Cond.selects "ActionDigests" y_AD_feedRow y_AD_feedRow) ∈ tb := tb_0 (List.mem_of_getElem? (i := 8) rfl) rfl
theorem mx_TH_fillInStackTrace : (Cond.selects "java/lang/Throwable" ⟨"java/lang/Throwable", "fillInStackTrace", "(I)Ljava/lang/Throwable;"⟩ ⟨"java/lang/Throwable", "fillInStackTrace", "(I)Ljava/lang/Throwable;"⟩) ∈ tb := tb_0 (List.mem_of_getElem? (i := 9) rfl) rfl
theorem mx_AD_bodyOf : (Cond.selects "ActionDigests" y_AD_bodyOf y_AD_bodyOf) ∈ tb := tb_0 (List.mem_of_getElem? (i := 10) rfl) rfl
theorem mx_MD_sumUp : (Cond.selects "ActionDigestsModel" y_MD_sumUp y_MD_sumUp) ∈ tb := tb_0 (List.mem_of_getElem? (i := 11) rfl) rfl
theorem mx_MD_byteAt : (Cond.selects "ActionDigestsModel" y_MD_byteAt y_MD_byteAt) ∈ tb := tb_0 (List.mem_of_getElem? (i := 12) rfl) rfl
theorem mx_MD_mixIn : (Cond.selects "ActionDigestsModel" y_MD_mixIn y_MD_mixIn) ∈ tb := tb_0 (List.mem_of_getElem? (i := 13) rfl) rfl
theorem mx_MD_keepSum : (Cond.selects "ActionDigestsModel" y_MD_keepSum y_MD_keepSum) ∈ tb := tb_0 (List.mem_of_getElem? (i := 14) rfl) rfl
theorem mx_MD_takes : (Cond.selects "ActionDigestsModel" y_MD_takes y_MD_takes) ∈ tb := tb_0 (List.mem_of_getElem? (i := 15) rfl) rfl
theorem mx_MD_isAction : (Cond.selects "ActionDigestsModel" y_MD_isAction y_MD_isAction) ∈ tb := tb_0 (List.mem_of_getElem? (i := 16) rfl) rfl
theorem mx_MD_keyOf : (Cond.selects "ActionDigestsModel" y_MD_keyOf y_MD_keyOf) ∈ tb := tb_0 (List.mem_of_getElem? (i := 17) rfl) rfl
theorem mx_MD_isPath : (Cond.selects "ActionDigestsModel" y_MD_isPath y_MD_isPath) ∈ tb := tb_0 (List.mem_of_getElem? (i := 18) rfl) rfl
theorem mx_MD_isName : (Cond.selects "ActionDigestsModel" y_MD_isName y_MD_isName) ∈ tb := tb_0 (List.mem_of_getElem? (i := 19) rfl) rfl
theorem mx_MD_hasKey : (Cond.selects "ActionDigestsModel" y_MD_hasKey y_MD_hasKey) ∈ tb := tb_0 (List.mem_of_getElem? (i := 20) rfl) rfl
theorem mx_MD_place : (Cond.selects "ActionDigestsModel" y_MD_place y_MD_place) ∈ tb := tb_0 (List.mem_of_getElem? (i := 21) rfl) rfl
theorem mx_MD_refuses : (Cond.selects "ActionDigestsModel" y_MD_refuses y_MD_refuses) ∈ tb := tb_0 (List.mem_of_getElem? (i := 22) rfl) rfl
theorem mx_MD_counting : (Cond.selects "ActionDigestsModel" y_MD_counting y_MD_counting) ∈ tb := tb_0 (List.mem_of_getElem? (i := 23) rfl) rfl
theorem mx_MD_isAllowed : (Cond.selects "ActionDigestsModel" y_MD_isAllowed y_MD_isAllowed) ∈ tb := tb_0 (List.mem_of_getElem? (i := 24) rfl) rfl
theorem mx_MD_rowAt : (Cond.selects "ActionDigestsModel" y_MD_rowAt y_MD_rowAt) ∈ tb := tb_0 (List.mem_of_getElem? (i := 25) rfl) rfl
theorem mx_MD_isBefore : (Cond.selects "ActionDigestsModel" y_MD_isBefore y_MD_isBefore) ∈ tb := tb_0 (List.mem_of_getElem? (i := 26) rfl) rfl
theorem mx_MD_write : (Cond.selects "ActionDigestsModel" y_MD_write y_MD_write) ∈ tb := tb_0 (List.mem_of_getElem? (i := 27) rfl) rfl
theorem mx_MD_put : (Cond.selects "ActionDigestsModel" y_MD_put y_MD_put) ∈ tb := tb_0 (List.mem_of_getElem? (i := 28) rfl) rfl
theorem mx_MD_same : (Cond.selects "ActionDigestsModel" y_MD_same y_MD_same) ∈ tb := tb_0 (List.mem_of_getElem? (i := 29) rfl) rfl
theorem mz_LW : (Cond.initialized "ActionDigestsLaw") ∈ tb := tb_1 (List.mem_of_getElem? (i := 0) rfl) rfl
theorem mz_AD : (Cond.initialized "ActionDigests") ∈ tb := tb_1 (List.mem_of_getElem? (i := 1) rfl) rfl
theorem mz_TX : (Cond.initialized "ActionDigests$Text") ∈ tb := tb_1 (List.mem_of_getElem? (i := 2) rfl) rfl
theorem mz_SH : (Cond.initialized "ActionDigests$Sha") ∈ tb := tb_1 (List.mem_of_getElem? (i := 3) rfl) rfl
theorem mz_MD : (Cond.initialized "ActionDigestsModel") ∈ tb := tb_1 (List.mem_of_getElem? (i := 4) rfl) rfl
theorem mz_TH : (Cond.initialized "java/lang/Throwable") ∈ tb := tb_1 (List.mem_of_getElem? (i := 5) rfl) rfl
theorem mz_EX : (Cond.initialized "java/lang/Exception") ∈ tb := tb_1 (List.mem_of_getElem? (i := 6) rfl) rfl
theorem mz_RE : (Cond.initialized "java/lang/RuntimeException") ∈ tb := tb_1 (List.mem_of_getElem? (i := 7) rfl) rfl
theorem mz_IS : (Cond.initialized "java/lang/IllegalStateException") ∈ tb := tb_1 (List.mem_of_getElem? (i := 8) rfl) rfl
theorem mz_AC : (Cond.initialized "ActionDigests$Action") ∈ tb := tb_1 (List.mem_of_getElem? (i := 9) rfl) rfl
theorem mz_IA : (Cond.initialized "java/lang/IllegalArgumentException") ∈ tb := tb_1 (List.mem_of_getElem? (i := 10) rfl) rfl
theorem mz_FM : (Cond.initialized "ActionDigests$Forms") ∈ tb := tb_1 (List.mem_of_getElem? (i := 11) rfl) rfl
theorem mz_KY : (Cond.initialized "ActionDigests$Key") ∈ tb := tb_1 (List.mem_of_getElem? (i := 12) rfl) rfl
theorem mz_MA : (Cond.initialized "java/lang/Math") ∈ tb := tb_1 (List.mem_of_getElem? (i := 13) rfl) rfl
theorem mz_RW : (Cond.initialized "ActionDigests$Row") ∈ tb := tb_1 (List.mem_of_getElem? (i := 14) rfl) rfl
theorem mk_LW_8 : (Cond.classLink "ActionDigestsLaw" 8 "ActionDigests") ∈ tb := tb_1 (List.mem_of_getElem? (i := 15) rfl) rfl
theorem mt_AD : (Cond.instantiable "ActionDigests" 8) ∈ tb := tb_1 (List.mem_of_getElem? (i := 16) rfl) rfl
theorem ml_LW_30 : (Cond.methodLink "ActionDigestsLaw" 30 y_AD_init) ∈ tb := tb_1 (List.mem_of_getElem? (i := 17) rfl) rfl
theorem mi_AD_init : (Cond.instanceMethod y_AD_init) ∈ tb := tb_1 (List.mem_of_getElem? (i := 18) rfl) rfl
theorem mc_AD_init : (Cond.code y_AD_init b_AD_init 1 none) ∈ tb := tb_1 (List.mem_of_getElem? (i := 19) rfl) rfl
theorem ml_AD_1 : (Cond.methodLink "ActionDigests" 1 ⟨"java/lang/Object", "<init>", "()V"⟩) ∈ tb := tb_1 (List.mem_of_getElem? (i := 20) rfl) rfl
theorem mi_OB_init : (Cond.instanceMethod ⟨"java/lang/Object", "<init>", "()V"⟩) ∈ tb := tb_1 (List.mem_of_getElem? (i := 21) rfl) rfl
theorem mc_OB_init : (Cond.code ⟨"java/lang/Object", "<init>", "()V"⟩ object_method_1_code 1 none) ∈ tb := tb_1 (List.mem_of_getElem? (i := 22) rfl) rfl
theorem mk_AD_7 : (Cond.classLink "ActionDigests" 7 "ActionDigests$Text") ∈ tb := tb_1 (List.mem_of_getElem? (i := 23) rfl) rfl
theorem mt_TX : (Cond.instantiable "ActionDigests$Text" 2) ∈ tb := tb_1 (List.mem_of_getElem? (i := 24) rfl) rfl
theorem mi_TX_init : (Cond.instanceMethod y_TX_init) ∈ tb := tb_1 (List.mem_of_getElem? (i := 26) rfl) rfl
theorem mc_TX_init : (Cond.code y_TX_init b_TX_init 1 none) ∈ tb := tb_1 (List.mem_of_getElem? (i := 27) rfl) rfl
theorem ml_TX_3 : (Cond.methodLink "ActionDigests$Text" 3 ⟨"java/lang/Object", "<init>", "()V"⟩) ∈ tb := tb_1 (List.mem_of_getElem? (i := 28) rfl) rfl
theorem mf_TX_9 : (Cond.fieldLink "ActionDigests$Text" 9 "ActionDigests$Text" "characters" "[C") ∈ tb := tb_1 (List.mem_of_getElem? (i := 29) rfl) rfl
theorem mf_TX_15 : (Cond.fieldLink "ActionDigests$Text" 15 "ActionDigests$Text" "length" "I") ∈ tb := tb_1 (List.mem_of_getElem? (i := 30) rfl) rfl
theorem ma_char : (Cond.arrayClass .char) ∈ tb := tb_1 (List.mem_of_getElem? (i := 36) rfl) rfl
theorem mk_AD_16 : (Cond.classLink "ActionDigests" 16 "ActionDigests$Sha") ∈ tb := tb_1 (List.mem_of_getElem? (i := 37) rfl) rfl
theorem mt_SH : (Cond.instantiable "ActionDigests$Sha" 4) ∈ tb := tb_1 (List.mem_of_getElem? (i := 38) rfl) rfl
theorem mi_SH_init : (Cond.instanceMethod y_SH_init) ∈ tb := tb_1 (List.mem_of_getElem? (i := 40) rfl) rfl
theorem mc_SH_init : (Cond.code y_SH_init b_SH_init 1 none) ∈ tb := tb_1 (List.mem_of_getElem? (i := 41) rfl) rfl
theorem ml_SH_3 : (Cond.methodLink "ActionDigests$Sha" 3 ⟨"java/lang/Object", "<init>", "()V"⟩) ∈ tb := tb_1 (List.mem_of_getElem? (i := 42) rfl) rfl
theorem mf_SH_9 : (Cond.fieldLink "ActionDigests$Sha" 9 "ActionDigests$Sha" "sums" "[I") ∈ tb := tb_1 (List.mem_of_getElem? (i := 43) rfl) rfl
theorem mf_AD_174 : (Cond.fieldLink "ActionDigests" 174 "ActionDigests$Sha" "sums" "[I") ∈ tb := tb_1 (List.mem_of_getElem? (i := 44) rfl) rfl
theorem mf_SH_15 : (Cond.fieldLink "ActionDigests$Sha" 15 "ActionDigests$Sha" "words" "[I") ∈ tb := tb_1 (List.mem_of_getElem? (i := 45) rfl) rfl
theorem mf_SH_18 : (Cond.fieldLink "ActionDigests$Sha" 18 "ActionDigests$Sha" "filled" "I") ∈ tb := tb_1 (List.mem_of_getElem? (i := 46) rfl) rfl
theorem mf_SH_22 : (Cond.fieldLink "ActionDigests$Sha" 22 "ActionDigests$Sha" "fed" "J") ∈ tb := tb_1 (List.mem_of_getElem? (i := 47) rfl) rfl
theorem ma_int : (Cond.arrayClass .int) ∈ tb := tb_1 (List.mem_of_getElem? (i := 57) rfl) rfl
theorem mk_AD_23 : (Cond.classLink "ActionDigests" 23 "ActionDigests$Action") ∈ tb := tb_1 (List.mem_of_getElem? (i := 58) rfl) rfl
theorem mk_AD_33 : (Cond.classLink "ActionDigests" 33 "ActionDigests$Key") ∈ tb := tb_1 (List.mem_of_getElem? (i := 60) rfl) rfl
theorem ml_AD_49 : (Cond.methodLink "ActionDigests" 49 y_AD_holdContent) ∈ tb := tb_1 (List.mem_of_getElem? (i := 62) rfl) rfl
theorem mi_AD_holdContent : (Cond.instanceMethod y_AD_holdContent) ∈ tb := tb_1 (List.mem_of_getElem? (i := 64) rfl) rfl
theorem mc_AD_holdContent : (Cond.code y_AD_holdContent b_AD_holdContent 2 none) ∈ tb := tb_1 (List.mem_of_getElem? (i := 65) rfl) rfl
theorem ml_AD_162 : (Cond.methodLink "ActionDigests" 162 y_SH_begin) ∈ tb := tb_1 (List.mem_of_getElem? (i := 66) rfl) rfl
theorem mi_SH_begin : (Cond.instanceMethod y_SH_begin) ∈ tb := tb_1 (List.mem_of_getElem? (i := 67) rfl) rfl
theorem mx_SH_begin : (Cond.selects "ActionDigests$Sha" y_SH_begin y_SH_begin) ∈ tb := tb_1 (List.mem_of_getElem? (i := 68) rfl) rfl
theorem mc_SH_begin : (Cond.code y_SH_begin b_SH_begin 2 none) ∈ tb := tb_1 (List.mem_of_getElem? (i := 69) rfl) rfl
theorem ml_AD_165 : (Cond.methodLink "ActionDigests" 165 y_SH_feedAll) ∈ tb := tb_1 (List.mem_of_getElem? (i := 72) rfl) rfl
theorem mi_SH_feedAll : (Cond.instanceMethod y_SH_feedAll) ∈ tb := tb_1 (List.mem_of_getElem? (i := 73) rfl) rfl
theorem mx_SH_feedAll : (Cond.selects "ActionDigests$Sha" y_SH_feedAll y_SH_feedAll) ∈ tb := tb_1 (List.mem_of_getElem? (i := 74) rfl) rfl
theorem mc_SH_feedAll : (Cond.code y_SH_feedAll b_SH_feedAll 3 none) ∈ tb := tb_1 (List.mem_of_getElem? (i := 75) rfl) rfl
theorem ml_SH_29 : (Cond.methodLink "ActionDigests$Sha" 29 y_SH_feed) ∈ tb := tb_1 (List.mem_of_getElem? (i := 76) rfl) rfl
theorem mi_SH_feed : (Cond.instanceMethod y_SH_feed) ∈ tb := tb_1 (List.mem_of_getElem? (i := 77) rfl) rfl
theorem mx_SH_feed : (Cond.selects "ActionDigests$Sha" y_SH_feed y_SH_feed) ∈ tb := tb_1 (List.mem_of_getElem? (i := 78) rfl) rfl
theorem mc_SH_feed : (Cond.code y_SH_feed b_SH_feed 3 none) ∈ tb := tb_1 (List.mem_of_getElem? (i := 79) rfl) rfl
theorem ml_SH_33 : (Cond.methodLink "ActionDigests$Sha" 33 y_SH_spreadWords) ∈ tb := tb_1 (List.mem_of_getElem? (i := 80) rfl) rfl
theorem mi_SH_spreadWords : (Cond.instanceMethod y_SH_spreadWords) ∈ tb := tb_1 (List.mem_of_getElem? (i := 82) rfl) rfl
theorem mc_SH_spreadWords : (Cond.code y_SH_spreadWords b_SH_spreadWords 6 none) ∈ tb := tb_1 (List.mem_of_getElem? (i := 83) rfl) rfl
theorem ml_SH_43 : (Cond.methodLink "ActionDigests$Sha" 43 y_SH_turned) ∈ tb := tb_1 (List.mem_of_getElem? (i := 84) rfl) rfl
theorem ms_SH_turned : (Cond.static y_SH_turned) ∈ tb := tb_1 (List.mem_of_getElem? (i := 85) rfl) rfl
theorem mc_SH_turned : (Cond.code y_SH_turned b_SH_turned 2 (some .int)) ∈ tb := tb_1 (List.mem_of_getElem? (i := 86) rfl) rfl
theorem ml_SH_36 : (Cond.methodLink "ActionDigests$Sha" 36 y_SH_mixBlock) ∈ tb := tb_1 (List.mem_of_getElem? (i := 87) rfl) rfl
theorem mi_SH_mixBlock : (Cond.instanceMethod y_SH_mixBlock) ∈ tb := tb_1 (List.mem_of_getElem? (i := 89) rfl) rfl
theorem mc_SH_mixBlock : (Cond.code y_SH_mixBlock b_SH_mixBlock 14 none) ∈ tb := tb_1 (List.mem_of_getElem? (i := 90) rfl) rfl
theorem ml_AD_171 : (Cond.methodLink "ActionDigests" 171 y_SH_end) ∈ tb := tb_1 (List.mem_of_getElem? (i := 93) rfl) rfl
theorem mi_SH_end : (Cond.instanceMethod y_SH_end) ∈ tb := tb_1 (List.mem_of_getElem? (i := 94) rfl) rfl
theorem mx_SH_end : (Cond.selects "ActionDigests$Sha" y_SH_end y_SH_end) ∈ tb := tb_1 (List.mem_of_getElem? (i := 95) rfl) rfl
theorem mc_SH_end : (Cond.code y_SH_end b_SH_end 4 none) ∈ tb := tb_1 (List.mem_of_getElem? (i := 96) rfl) rfl
theorem mq_SH_39 : (Cond.constantLong "ActionDigests$Sha" 39 (8 : Int64)) ∈ tb := tb_1 (List.mem_of_getElem? (i := 97) rfl) rfl
theorem mq_SH_41 : (Cond.constantLong "ActionDigests$Sha" 41 (255 : Int64)) ∈ tb := tb_1 (List.mem_of_getElem? (i := 98) rfl) rfl
theorem ml_AD_187 : (Cond.methodLink "ActionDigests" 187 y_SH_writeDigits) ∈ tb := tb_1 (List.mem_of_getElem? (i := 99) rfl) rfl
theorem mi_SH_writeDigits : (Cond.instanceMethod y_SH_writeDigits) ∈ tb := tb_1 (List.mem_of_getElem? (i := 100) rfl) rfl
theorem mx_SH_writeDigits : (Cond.selects "ActionDigests$Sha" y_SH_writeDigits y_SH_writeDigits) ∈ tb := tb_1 (List.mem_of_getElem? (i := 101) rfl) rfl
theorem mc_SH_writeDigits : (Cond.code y_SH_writeDigits b_SH_writeDigits 4 none) ∈ tb := tb_1 (List.mem_of_getElem? (i := 102) rfl) rfl
theorem mf_AD_10 : (Cond.fieldLink "ActionDigests" 10 "ActionDigests" "text" "LActionDigests$Text;") ∈ tb := tb_1 (List.mem_of_getElem? (i := 103) rfl) rfl
theorem mf_AD_19 : (Cond.fieldLink "ActionDigests" 19 "ActionDigests" "sha" "LActionDigests$Sha;") ∈ tb := tb_1 (List.mem_of_getElem? (i := 104) rfl) rfl
theorem mf_AD_25 : (Cond.fieldLink "ActionDigests" 25 "ActionDigests" "actions" "[LActionDigests$Action;") ∈ tb := tb_1 (List.mem_of_getElem? (i := 105) rfl) rfl
theorem mf_AD_29 : (Cond.fieldLink "ActionDigests" 29 "ActionDigests" "actionCount" "I") ∈ tb := tb_1 (List.mem_of_getElem? (i := 106) rfl) rfl
theorem mf_AD_35 : (Cond.fieldLink "ActionDigests" 35 "ActionDigests" "allowed" "[LActionDigests$Key;") ∈ tb := tb_1 (List.mem_of_getElem? (i := 107) rfl) rfl
theorem mf_AD_39 : (Cond.fieldLink "ActionDigests" 39 "ActionDigests" "allowedCount" "I") ∈ tb := tb_1 (List.mem_of_getElem? (i := 108) rfl) rfl
theorem mf_AD_42 : (Cond.fieldLink "ActionDigests" 42 "ActionDigests" "saltCharacters" "[C") ∈ tb := tb_1 (List.mem_of_getElem? (i := 109) rfl) rfl
theorem mf_AD_46 : (Cond.fieldLink "ActionDigests" 46 "ActionDigests" "heldDigits" "[C") ∈ tb := tb_1 (List.mem_of_getElem? (i := 110) rfl) rfl
theorem ml_LW_34 : (Cond.methodLink "ActionDigestsLaw" 34 y_AD_type) ∈ tb := tb_1 (List.mem_of_getElem? (i := 128) rfl) rfl
theorem mi_AD_type : (Cond.instanceMethod y_AD_type) ∈ tb := tb_1 (List.mem_of_getElem? (i := 129) rfl) rfl
theorem mx_AD_type : (Cond.selects "ActionDigests" y_AD_type y_AD_type) ∈ tb := tb_1 (List.mem_of_getElem? (i := 130) rfl) rfl
theorem mc_AD_type : (Cond.code y_AD_type b_AD_type 2 (some .boolean)) ∈ tb := tb_1 (List.mem_of_getElem? (i := 131) rfl) rfl
theorem ml_AD_53 : (Cond.methodLink "ActionDigests" 53 y_TX_append) ∈ tb := tb_1 (List.mem_of_getElem? (i := 132) rfl) rfl
theorem mi_TX_append : (Cond.instanceMethod y_TX_append) ∈ tb := tb_1 (List.mem_of_getElem? (i := 133) rfl) rfl
theorem mx_TX_append : (Cond.selects "ActionDigests$Text" y_TX_append y_TX_append) ∈ tb := tb_1 (List.mem_of_getElem? (i := 134) rfl) rfl
theorem mc_TX_append : (Cond.code y_TX_append b_TX_append 2 (some .boolean)) ∈ tb := tb_1 (List.mem_of_getElem? (i := 135) rfl) rfl
theorem ml_LW_48 : (Cond.methodLink "ActionDigestsLaw" 48 y_AD_hold) ∈ tb := tb_1 (List.mem_of_getElem? (i := 136) rfl) rfl
theorem mi_AD_hold : (Cond.instanceMethod y_AD_hold) ∈ tb := tb_1 (List.mem_of_getElem? (i := 137) rfl) rfl
theorem mx_AD_hold : (Cond.selects "ActionDigests" y_AD_hold y_AD_hold) ∈ tb := tb_1 (List.mem_of_getElem? (i := 138) rfl) rfl
theorem mc_AD_hold : (Cond.code y_AD_hold b_AD_hold 1 none) ∈ tb := tb_1 (List.mem_of_getElem? (i := 139) rfl) rfl
theorem ml_AD_65 : (Cond.methodLink "ActionDigests" 65 y_TX_take) ∈ tb := tb_1 (List.mem_of_getElem? (i := 140) rfl) rfl
theorem mi_TX_take : (Cond.instanceMethod y_TX_take) ∈ tb := tb_1 (List.mem_of_getElem? (i := 141) rfl) rfl
theorem mx_TX_take : (Cond.selects "ActionDigests$Text" y_TX_take y_TX_take) ∈ tb := tb_1 (List.mem_of_getElem? (i := 142) rfl) rfl
theorem mc_TX_take : (Cond.code y_TX_take b_TX_take 3 (some (.array .char))) ∈ tb := tb_1 (List.mem_of_getElem? (i := 143) rfl) rfl
theorem ml_LW_66 : (Cond.methodLink "ActionDigestsLaw" 66 y_AD_rows) ∈ tb := tb_1 (List.mem_of_getElem? (i := 144) rfl) rfl
theorem mi_AD_rows : (Cond.instanceMethod y_AD_rows) ∈ tb := tb_1 (List.mem_of_getElem? (i := 145) rfl) rfl
theorem mx_AD_rows : (Cond.selects "ActionDigests" y_AD_rows y_AD_rows) ∈ tb := tb_1 (List.mem_of_getElem? (i := 146) rfl) rfl
theorem mc_AD_rows : (Cond.code y_AD_rows b_AD_rows 5 (some .int)) ∈ tb := tb_1 (List.mem_of_getElem? (i := 147) rfl) rfl
theorem ml_AD_69 : (Cond.methodLink "ActionDigests" 69 y_AD_actionAt) ∈ tb := tb_1 (List.mem_of_getElem? (i := 148) rfl) rfl
theorem mi_AD_actionAt : (Cond.instanceMethod y_AD_actionAt) ∈ tb := tb_1 (List.mem_of_getElem? (i := 150) rfl) rfl
theorem mc_AD_actionAt : (Cond.code y_AD_actionAt b_AD_actionAt 2 (some (.object "ActionDigests$Action"))) ∈ tb := tb_1 (List.mem_of_getElem? (i := 151) rfl) rfl
theorem ml_AD_144 : (Cond.methodLink "ActionDigests" 144 y_AD_countingRowAt) ∈ tb := tb_1 (List.mem_of_getElem? (i := 152) rfl) rfl
theorem mi_AD_countingRowAt : (Cond.instanceMethod y_AD_countingRowAt) ∈ tb := tb_1 (List.mem_of_getElem? (i := 154) rfl) rfl
theorem mc_AD_countingRowAt : (Cond.code y_AD_countingRowAt b_AD_countingRowAt 4 (some (.object "ActionDigests$Row"))) ∈ tb := tb_1 (List.mem_of_getElem? (i := 155) rfl) rfl
theorem ml_AD_198 : (Cond.methodLink "ActionDigests" 198 y_AC_rowAt) ∈ tb := tb_1 (List.mem_of_getElem? (i := 156) rfl) rfl
theorem mi_AC_rowAt : (Cond.instanceMethod y_AC_rowAt) ∈ tb := tb_1 (List.mem_of_getElem? (i := 157) rfl) rfl
theorem mx_AC_rowAt : (Cond.selects "ActionDigests$Action" y_AC_rowAt y_AC_rowAt) ∈ tb := tb_1 (List.mem_of_getElem? (i := 158) rfl) rfl
theorem mc_AC_rowAt : (Cond.code y_AC_rowAt b_AC_rowAt 2 (some (.object "ActionDigests$Row"))) ∈ tb := tb_1 (List.mem_of_getElem? (i := 159) rfl) rfl
theorem ml_AD_202 : (Cond.methodLink "ActionDigests" 202 y_AD_counts) ∈ tb := tb_1 (List.mem_of_getElem? (i := 160) rfl) rfl
theorem mi_AD_counts : (Cond.instanceMethod y_AD_counts) ∈ tb := tb_1 (List.mem_of_getElem? (i := 162) rfl) rfl
theorem mc_AD_counts : (Cond.code y_AD_counts b_AD_counts 2 (some .boolean)) ∈ tb := tb_1 (List.mem_of_getElem? (i := 163) rfl) rfl
theorem ml_AD_134 : (Cond.methodLink "ActionDigests" 134 y_AD_isAllowed) ∈ tb := tb_1 (List.mem_of_getElem? (i := 164) rfl) rfl
theorem mi_AD_isAllowed : (Cond.instanceMethod y_AD_isAllowed) ∈ tb := tb_1 (List.mem_of_getElem? (i := 166) rfl) rfl
theorem mc_AD_isAllowed : (Cond.code y_AD_isAllowed b_AD_isAllowed 3 (some .boolean)) ∈ tb := tb_1 (List.mem_of_getElem? (i := 167) rfl) rfl
theorem ml_AD_190 : (Cond.methodLink "ActionDigests" 190 y_KY_compareWith) ∈ tb := tb_1 (List.mem_of_getElem? (i := 168) rfl) rfl
theorem mi_KY_compareWith : (Cond.instanceMethod y_KY_compareWith) ∈ tb := tb_1 (List.mem_of_getElem? (i := 169) rfl) rfl
theorem mx_KY_compareWith : (Cond.selects "ActionDigests$Key" y_KY_compareWith y_KY_compareWith) ∈ tb := tb_1 (List.mem_of_getElem? (i := 170) rfl) rfl
theorem mc_KY_compareWith : (Cond.code y_KY_compareWith b_KY_compareWith 4 (some .int)) ∈ tb := tb_1 (List.mem_of_getElem? (i := 171) rfl) rfl
theorem ml_KY_17 : (Cond.methodLink "ActionDigests$Key" 17 ⟨"java/lang/Math", "min", "(II)I"⟩) ∈ tb := tb_1 (List.mem_of_getElem? (i := 172) rfl) rfl
theorem ms_MA_min : (Cond.static ⟨"java/lang/Math", "min", "(II)I"⟩) ∈ tb := tb_1 (List.mem_of_getElem? (i := 173) rfl) rfl
theorem mc_MA_min : (Cond.code ⟨"java/lang/Math", "min", "(II)I"⟩ prog_13_method_69_code 2 (some .int)) ∈ tb := tb_1 (List.mem_of_getElem? (i := 174) rfl) rfl
theorem ml_LW_71 : (Cond.methodLink "ActionDigestsLaw" 71 y_AD_kind) ∈ tb := tb_1 (List.mem_of_getElem? (i := 175) rfl) rfl
theorem mi_AD_kind : (Cond.instanceMethod y_AD_kind) ∈ tb := tb_1 (List.mem_of_getElem? (i := 176) rfl) rfl
theorem mx_AD_kind : (Cond.selects "ActionDigests" y_AD_kind y_AD_kind) ∈ tb := tb_1 (List.mem_of_getElem? (i := 177) rfl) rfl
theorem mc_AD_kind : (Cond.code y_AD_kind b_AD_kind 5 (some .int)) ∈ tb := tb_1 (List.mem_of_getElem? (i := 178) rfl) rfl
theorem ml_AD_148 : (Cond.methodLink "ActionDigests" 148 y_AD_rowInOrder) ∈ tb := tb_1 (List.mem_of_getElem? (i := 179) rfl) rfl
theorem mi_AD_rowInOrder : (Cond.instanceMethod y_AD_rowInOrder) ∈ tb := tb_1 (List.mem_of_getElem? (i := 181) rfl) rfl
theorem mc_AD_rowInOrder : (Cond.code y_AD_rowInOrder b_AD_rowInOrder 6 (some (.object "ActionDigests$Row"))) ∈ tb := tb_1 (List.mem_of_getElem? (i := 182) rfl) rfl
theorem ml_LW_76 : (Cond.methodLink "ActionDigestsLaw" 76 y_AD_size) ∈ tb := tb_1 (List.mem_of_getElem? (i := 183) rfl) rfl
theorem mi_AD_size : (Cond.instanceMethod y_AD_size) ∈ tb := tb_1 (List.mem_of_getElem? (i := 184) rfl) rfl
theorem mx_AD_size : (Cond.selects "ActionDigests" y_AD_size y_AD_size) ∈ tb := tb_1 (List.mem_of_getElem? (i := 185) rfl) rfl
theorem mc_AD_size : (Cond.code y_AD_size b_AD_size 6 (some .int)) ∈ tb := tb_1 (List.mem_of_getElem? (i := 186) rfl) rfl
theorem ml_AD_154 : (Cond.methodLink "ActionDigests" 154 y_RW_stableLength) ∈ tb := tb_1 (List.mem_of_getElem? (i := 187) rfl) rfl
theorem mi_RW_stableLength : (Cond.instanceMethod y_RW_stableLength) ∈ tb := tb_1 (List.mem_of_getElem? (i := 188) rfl) rfl
theorem mx_RW_stableLength : (Cond.selects "ActionDigests$Row" y_RW_stableLength y_RW_stableLength) ∈ tb := tb_1 (List.mem_of_getElem? (i := 189) rfl) rfl
theorem mc_RW_stableLength : (Cond.code y_RW_stableLength b_RW_stableLength 1 (some .int)) ∈ tb := tb_1 (List.mem_of_getElem? (i := 190) rfl) rfl
theorem ml_LW_80 : (Cond.methodLink "ActionDigestsLaw" 80 y_AD_character) ∈ tb := tb_1 (List.mem_of_getElem? (i := 191) rfl) rfl
theorem mi_AD_character : (Cond.instanceMethod y_AD_character) ∈ tb := tb_1 (List.mem_of_getElem? (i := 192) rfl) rfl
theorem mx_AD_character : (Cond.selects "ActionDigests" y_AD_character y_AD_character) ∈ tb := tb_1 (List.mem_of_getElem? (i := 193) rfl) rfl
theorem mc_AD_character : (Cond.code y_AD_character b_AD_character 7 (some .int)) ∈ tb := tb_1 (List.mem_of_getElem? (i := 194) rfl) rfl
theorem ml_AD_158 : (Cond.methodLink "ActionDigests" 158 y_RW_stableCharacter) ∈ tb := tb_1 (List.mem_of_getElem? (i := 195) rfl) rfl
theorem mi_RW_stableCharacter : (Cond.instanceMethod y_RW_stableCharacter) ∈ tb := tb_1 (List.mem_of_getElem? (i := 196) rfl) rfl
theorem mx_RW_stableCharacter : (Cond.selects "ActionDigests$Row" y_RW_stableCharacter y_RW_stableCharacter) ∈ tb := tb_1 (List.mem_of_getElem? (i := 197) rfl) rfl
theorem mc_RW_stableCharacter : (Cond.code y_RW_stableCharacter b_RW_stableCharacter 3 (some .int)) ∈ tb := tb_1 (List.mem_of_getElem? (i := 198) rfl) rfl
theorem ml_LW_84 : (Cond.methodLink "ActionDigestsLaw" 84 y_AD_digest) ∈ tb := tb_1 (List.mem_of_getElem? (i := 199) rfl) rfl
theorem mi_AD_digest : (Cond.instanceMethod y_AD_digest) ∈ tb := tb_1 (List.mem_of_getElem? (i := 200) rfl) rfl
theorem mx_AD_digest : (Cond.selects "ActionDigests" y_AD_digest y_AD_digest) ∈ tb := tb_1 (List.mem_of_getElem? (i := 201) rfl) rfl
theorem mc_AD_digest : (Cond.code y_AD_digest b_AD_digest 6 (some .int)) ∈ tb := tb_1 (List.mem_of_getElem? (i := 202) rfl) rfl
theorem ml_AD_168 : (Cond.methodLink "ActionDigests" 168 y_AD_feedRow) ∈ tb := tb_1 (List.mem_of_getElem? (i := 203) rfl) rfl
theorem mi_AD_feedRow : (Cond.instanceMethod y_AD_feedRow) ∈ tb := tb_1 (List.mem_of_getElem? (i := 205) rfl) rfl
theorem mc_AD_feedRow : (Cond.code y_AD_feedRow b_AD_feedRow 4 none) ∈ tb := tb_1 (List.mem_of_getElem? (i := 206) rfl) rfl
theorem ml_AD_205 : (Cond.methodLink "ActionDigests" 205 y_SH_feed) ∈ tb := tb_1 (List.mem_of_getElem? (i := 207) rfl) rfl
theorem ml_LW_88 : (Cond.methodLink "ActionDigestsLaw" 88 y_AD_differ) ∈ tb := tb_1 (List.mem_of_getElem? (i := 208) rfl) rfl
theorem mi_AD_differ : (Cond.instanceMethod y_AD_differ) ∈ tb := tb_1 (List.mem_of_getElem? (i := 209) rfl) rfl
theorem mx_AD_differ : (Cond.selects "ActionDigests" y_AD_differ y_AD_differ) ∈ tb := tb_1 (List.mem_of_getElem? (i := 210) rfl) rfl
theorem mc_AD_differ : (Cond.code y_AD_differ b_AD_differ 8 (some .int)) ∈ tb := tb_1 (List.mem_of_getElem? (i := 211) rfl) rfl
theorem ml_AD_178 : (Cond.methodLink "ActionDigests" 178 y_RW_isLike) ∈ tb := tb_1 (List.mem_of_getElem? (i := 212) rfl) rfl
theorem mi_RW_isLike : (Cond.instanceMethod y_RW_isLike) ∈ tb := tb_1 (List.mem_of_getElem? (i := 213) rfl) rfl
theorem mx_RW_isLike : (Cond.selects "ActionDigests$Row" y_RW_isLike y_RW_isLike) ∈ tb := tb_1 (List.mem_of_getElem? (i := 214) rfl) rfl
theorem mc_RW_isLike : (Cond.code y_RW_isLike b_RW_isLike 3 (some .boolean)) ∈ tb := tb_1 (List.mem_of_getElem? (i := 215) rfl) rfl
theorem ml_LW_92 : (Cond.methodLink "ActionDigestsLaw" 92 y_AD_constant) ∈ tb := tb_1 (List.mem_of_getElem? (i := 216) rfl) rfl
theorem mi_AD_constant : (Cond.instanceMethod y_AD_constant) ∈ tb := tb_1 (List.mem_of_getElem? (i := 217) rfl) rfl
theorem mx_AD_constant : (Cond.selects "ActionDigests" y_AD_constant y_AD_constant) ∈ tb := tb_1 (List.mem_of_getElem? (i := 218) rfl) rfl
theorem mc_AD_constant : (Cond.code y_AD_constant b_AD_constant 2 (some .int)) ∈ tb := tb_1 (List.mem_of_getElem? (i := 219) rfl) rfl
theorem mf_AD_181 : (Cond.fieldLink "ActionDigests" 181 "ActionDigests" "ROUND_CONSTANTS" "[I") ∈ tb := tb_1 (List.mem_of_getElem? (i := 220) rfl) rfl
theorem mf_AD_184 : (Cond.fieldLink "ActionDigests" 184 "ActionDigests" "FIRST_SUMS" "[I") ∈ tb := tb_1 (List.mem_of_getElem? (i := 221) rfl) rfl
theorem ml_LW_39 : (Cond.methodLink "ActionDigestsLaw" 39 ⟨"ActionDigestsLaw", "action", "(LActionDigests;[J)I"⟩) ∈ tb := tb_1 (List.mem_of_getElem? (i := 222) rfl) rfl
theorem ms_LW_action : (Cond.static ⟨"ActionDigestsLaw", "action", "(LActionDigests;[J)I"⟩) ∈ tb := tb_1 (List.mem_of_getElem? (i := 223) rfl) rfl
theorem mk_LW_13 : (Cond.classLink "ActionDigestsLaw" 13 "java/lang/IllegalStateException") ∈ tb := tb_1 (List.mem_of_getElem? (i := 225) rfl) rfl
theorem ml_LW_7 : (Cond.methodLink "ActionDigestsLaw" 7 y_AD_action) ∈ tb := tb_1 (List.mem_of_getElem? (i := 226) rfl) rfl
theorem mi_AD_action : (Cond.instanceMethod y_AD_action) ∈ tb := tb_1 (List.mem_of_getElem? (i := 227) rfl) rfl
theorem mx_AD_action : (Cond.selects "ActionDigests" y_AD_action y_AD_action) ∈ tb := tb_1 (List.mem_of_getElem? (i := 228) rfl) rfl
theorem mc_AD_action : (Cond.code y_AD_action b_AD_action 2 (some .int)) ∈ tb := tb_1 (List.mem_of_getElem? (i := 229) rfl) rfl
theorem mk_AD_57 : (Cond.classLink "ActionDigests" 57 "java/lang/IllegalStateException") ∈ tb := tb_1 (List.mem_of_getElem? (i := 230) rfl) rfl
theorem mt_IS : (Cond.instantiable "java/lang/IllegalStateException" 6) ∈ tb := tb_1 (List.mem_of_getElem? (i := 231) rfl) rfl
theorem mf_TH_198 : (Cond.fieldLink "java/lang/Throwable" 198 "java/lang/Throwable" "backtrace" "Ljava/lang/Object;") ∈ tb := tb_2 (List.mem_of_getElem? (i := 11) rfl) rfl
theorem mi_TH_init : (Cond.instanceMethod ⟨"java/lang/Throwable", "<init>", "()V"⟩) ∈ tb := tb_2 (List.mem_of_getElem? (i := 13) rfl) rfl
theorem mc_TH_init : (Cond.code ⟨"java/lang/Throwable", "<init>", "()V"⟩ prog_16_method_1_code 1 none) ∈ tb := tb_2 (List.mem_of_getElem? (i := 14) rfl) rfl
theorem ml_TH_1 : (Cond.methodLink "java/lang/Throwable" 1 ⟨"java/lang/Object", "<init>", "()V"⟩) ∈ tb := tb_2 (List.mem_of_getElem? (i := 15) rfl) rfl
theorem mf_TH_13 : (Cond.fieldLink "java/lang/Throwable" 13 "java/lang/Throwable" "UNASSIGNED_STACK" "[Ljava/lang/StackTraceElement;") ∈ tb := tb_2 (List.mem_of_getElem? (i := 16) rfl) rfl
theorem mf_TH_20 : (Cond.fieldLink "java/lang/Throwable" 20 "java/lang/Throwable" "SUPPRESSED_SENTINEL" "Ljava/util/List;") ∈ tb := tb_2 (List.mem_of_getElem? (i := 18) rfl) rfl
theorem ml_TH_27 : (Cond.methodLink "java/lang/Throwable" 27 ⟨"java/lang/Throwable", "fillInStackTrace", "()Ljava/lang/Throwable;"⟩) ∈ tb := tb_2 (List.mem_of_getElem? (i := 20) rfl) rfl
theorem mi_TH_fillInStackTrace : (Cond.instanceMethod ⟨"java/lang/Throwable", "fillInStackTrace", "()Ljava/lang/Throwable;"⟩) ∈ tb := tb_2 (List.mem_of_getElem? (i := 21) rfl) rfl
theorem ml_TH_202 : (Cond.methodLink "java/lang/Throwable" 202 ⟨"java/lang/Throwable", "fillInStackTrace", "(I)Ljava/lang/Throwable;"⟩) ∈ tb := tb_2 (List.mem_of_getElem? (i := 25) rfl) rfl
theorem mt_TH : (Cond.instantiable "java/lang/Throwable" 6) ∈ tb := tb_2 (List.mem_of_getElem? (i := 28) rfl) rfl
theorem ml_AD_61 : (Cond.methodLink "ActionDigests" 61 ⟨"java/lang/IllegalStateException", "<init>", "(Ljava/lang/String;)V"⟩) ∈ tb := tb_2 (List.mem_of_getElem? (i := 31) rfl) rfl
theorem mi_IS_init : (Cond.instanceMethod ⟨"java/lang/IllegalStateException", "<init>", "(Ljava/lang/String;)V"⟩) ∈ tb := tb_2 (List.mem_of_getElem? (i := 32) rfl) rfl
theorem mc_IS_init : (Cond.code ⟨"java/lang/IllegalStateException", "<init>", "(Ljava/lang/String;)V"⟩ prog_12_method_2_code 2 none) ∈ tb := tb_2 (List.mem_of_getElem? (i := 33) rfl) rfl
theorem ml_IS_7 : (Cond.methodLink "java/lang/IllegalStateException" 7 ⟨"java/lang/RuntimeException", "<init>", "(Ljava/lang/String;)V"⟩) ∈ tb := tb_2 (List.mem_of_getElem? (i := 34) rfl) rfl
theorem mi_RE_init : (Cond.instanceMethod ⟨"java/lang/RuntimeException", "<init>", "(Ljava/lang/String;)V"⟩) ∈ tb := tb_2 (List.mem_of_getElem? (i := 35) rfl) rfl
theorem mc_RE_init : (Cond.code ⟨"java/lang/RuntimeException", "<init>", "(Ljava/lang/String;)V"⟩ prog_14_method_2_code 2 none) ∈ tb := tb_2 (List.mem_of_getElem? (i := 36) rfl) rfl
theorem ml_RE_7 : (Cond.methodLink "java/lang/RuntimeException" 7 ⟨"java/lang/Exception", "<init>", "(Ljava/lang/String;)V"⟩) ∈ tb := tb_2 (List.mem_of_getElem? (i := 37) rfl) rfl
theorem mi_EX_init : (Cond.instanceMethod ⟨"java/lang/Exception", "<init>", "(Ljava/lang/String;)V"⟩) ∈ tb := tb_2 (List.mem_of_getElem? (i := 38) rfl) rfl
theorem mc_EX_init : (Cond.code ⟨"java/lang/Exception", "<init>", "(Ljava/lang/String;)V"⟩ prog_10_method_2_code 2 none) ∈ tb := tb_2 (List.mem_of_getElem? (i := 39) rfl) rfl
theorem ml_EX_7 : (Cond.methodLink "java/lang/Exception" 7 ⟨"java/lang/Throwable", "<init>", "(Ljava/lang/String;)V"⟩) ∈ tb := tb_2 (List.mem_of_getElem? (i := 40) rfl) rfl
theorem mf_TH_31 : (Cond.fieldLink "java/lang/Throwable" 31 "java/lang/Throwable" "detailMessage" "Ljava/lang/String;") ∈ tb := tb_2 (List.mem_of_getElem? (i := 44) rfl) rfl
theorem mf_TH_7 : (Cond.fieldLink "java/lang/Throwable" 7 "java/lang/Throwable" "cause" "Ljava/lang/Throwable;") ∈ tb := tb_2 (List.mem_of_getElem? (i := 45) rfl) rfl
theorem mf_TH_17 : (Cond.fieldLink "java/lang/Throwable" 17 "java/lang/Throwable" "stackTrace" "[Ljava/lang/StackTraceElement;") ∈ tb := tb_2 (List.mem_of_getElem? (i := 46) rfl) rfl
theorem mf_TH_24 : (Cond.fieldLink "java/lang/Throwable" 24 "java/lang/Throwable" "suppressedExceptions" "Ljava/util/List;") ∈ tb := tb_2 (List.mem_of_getElem? (i := 47) rfl) rfl
theorem ma_byte : (Cond.arrayClass .byte) ∈ tb := tb_2 (List.mem_of_getElem? (i := 56) rfl) rfl
theorem mt_AC : (Cond.instantiable "ActionDigests$Action" 2) ∈ tb := tb_2 (List.mem_of_getElem? (i := 57) rfl) rfl
theorem mi_AC_init : (Cond.instanceMethod y_AC_init) ∈ tb := tb_2 (List.mem_of_getElem? (i := 59) rfl) rfl
theorem mc_AC_init : (Cond.code y_AC_init b_AC_init 1 none) ∈ tb := tb_2 (List.mem_of_getElem? (i := 60) rfl) rfl
theorem ml_AC_3 : (Cond.methodLink "ActionDigests$Action" 3 ⟨"java/lang/Object", "<init>", "()V"⟩) ∈ tb := tb_2 (List.mem_of_getElem? (i := 61) rfl) rfl
theorem mk_AC_9 : (Cond.classLink "ActionDigests$Action" 9 "ActionDigests$Row") ∈ tb := tb_2 (List.mem_of_getElem? (i := 62) rfl) rfl
theorem mf_AC_11 : (Cond.fieldLink "ActionDigests$Action" 11 "ActionDigests$Action" "ordered" "[LActionDigests$Row;") ∈ tb := tb_2 (List.mem_of_getElem? (i := 64) rfl) rfl
theorem mf_AC_17 : (Cond.fieldLink "ActionDigests$Action" 17 "ActionDigests$Action" "count" "I") ∈ tb := tb_2 (List.mem_of_getElem? (i := 65) rfl) rfl
theorem ml_LW_52 : (Cond.methodLink "ActionDigestsLaw" 52 ⟨"ActionDigestsLaw", "row", "(LActionDigests;II)I"⟩) ∈ tb := tb_2 (List.mem_of_getElem? (i := 71) rfl) rfl
theorem ms_LW_row : (Cond.static ⟨"ActionDigestsLaw", "row", "(LActionDigests;II)I"⟩) ∈ tb := tb_2 (List.mem_of_getElem? (i := 72) rfl) rfl
theorem mk_LW_19 : (Cond.classLink "ActionDigestsLaw" 19 "java/lang/IllegalArgumentException") ∈ tb := tb_2 (List.mem_of_getElem? (i := 74) rfl) rfl
theorem ml_LW_15 : (Cond.methodLink "ActionDigestsLaw" 15 y_AD_row) ∈ tb := tb_2 (List.mem_of_getElem? (i := 75) rfl) rfl
theorem mi_AD_row : (Cond.instanceMethod y_AD_row) ∈ tb := tb_2 (List.mem_of_getElem? (i := 76) rfl) rfl
theorem mx_AD_row : (Cond.selects "ActionDigests" y_AD_row y_AD_row) ∈ tb := tb_2 (List.mem_of_getElem? (i := 77) rfl) rfl
theorem mc_AD_row : (Cond.code y_AD_row b_AD_row 6 none) ∈ tb := tb_2 (List.mem_of_getElem? (i := 78) rfl) rfl
theorem mk_AD_73 : (Cond.classLink "ActionDigests" 73 "java/lang/IllegalArgumentException") ∈ tb := tb_2 (List.mem_of_getElem? (i := 79) rfl) rfl
theorem mt_IA : (Cond.instantiable "java/lang/IllegalArgumentException" 6) ∈ tb := tb_2 (List.mem_of_getElem? (i := 80) rfl) rfl
theorem ml_AD_77 : (Cond.methodLink "ActionDigests" 77 ⟨"java/lang/IllegalArgumentException", "<init>", "(Ljava/lang/String;)V"⟩) ∈ tb := tb_2 (List.mem_of_getElem? (i := 89) rfl) rfl
theorem mi_IA_init : (Cond.instanceMethod ⟨"java/lang/IllegalArgumentException", "<init>", "(Ljava/lang/String;)V"⟩) ∈ tb := tb_2 (List.mem_of_getElem? (i := 90) rfl) rfl
theorem mc_IA_init : (Cond.code ⟨"java/lang/IllegalArgumentException", "<init>", "(Ljava/lang/String;)V"⟩ prog_11_method_2_code 2 none) ∈ tb := tb_2 (List.mem_of_getElem? (i := 91) rfl) rfl
theorem ml_IA_7 : (Cond.methodLink "java/lang/IllegalArgumentException" 7 ⟨"java/lang/RuntimeException", "<init>", "(Ljava/lang/String;)V"⟩) ∈ tb := tb_2 (List.mem_of_getElem? (i := 92) rfl) rfl
theorem ml_AD_78 : (Cond.methodLink "ActionDigests" 78 y_FM_fits) ∈ tb := tb_2 (List.mem_of_getElem? (i := 95) rfl) rfl
theorem ms_FM_fits : (Cond.static y_FM_fits) ∈ tb := tb_2 (List.mem_of_getElem? (i := 96) rfl) rfl
theorem mc_FM_fits : (Cond.code y_FM_fits b_FM_fits 2 (some .boolean)) ∈ tb := tb_2 (List.mem_of_getElem? (i := 97) rfl) rfl
theorem ml_FM_9 : (Cond.methodLink "ActionDigests$Forms" 9 y_FM_isPath) ∈ tb := tb_2 (List.mem_of_getElem? (i := 98) rfl) rfl
theorem ms_FM_isPath : (Cond.static y_FM_isPath) ∈ tb := tb_2 (List.mem_of_getElem? (i := 99) rfl) rfl
theorem mc_FM_isPath : (Cond.code y_FM_isPath b_FM_isPath 3 (some .boolean)) ∈ tb := tb_2 (List.mem_of_getElem? (i := 100) rfl) rfl
theorem ml_FM_33 : (Cond.methodLink "ActionDigests$Forms" 33 y_FM_isPiece) ∈ tb := tb_2 (List.mem_of_getElem? (i := 101) rfl) rfl
theorem ms_FM_isPiece : (Cond.static y_FM_isPiece) ∈ tb := tb_2 (List.mem_of_getElem? (i := 102) rfl) rfl
theorem mc_FM_isPiece : (Cond.code y_FM_isPiece b_FM_isPiece 6 (some .boolean)) ∈ tb := tb_2 (List.mem_of_getElem? (i := 103) rfl) rfl
theorem ml_FM_22 : (Cond.methodLink "ActionDigests$Forms" 22 y_FM_isLetter) ∈ tb := tb_2 (List.mem_of_getElem? (i := 104) rfl) rfl
theorem ms_FM_isLetter : (Cond.static y_FM_isLetter) ∈ tb := tb_2 (List.mem_of_getElem? (i := 105) rfl) rfl
theorem mc_FM_isLetter : (Cond.code y_FM_isLetter b_FM_isLetter 1 (some .boolean)) ∈ tb := tb_2 (List.mem_of_getElem? (i := 106) rfl) rfl
theorem ml_FM_26 : (Cond.methodLink "ActionDigests$Forms" 26 y_FM_isDigit) ∈ tb := tb_2 (List.mem_of_getElem? (i := 107) rfl) rfl
theorem ms_FM_isDigit : (Cond.static y_FM_isDigit) ∈ tb := tb_2 (List.mem_of_getElem? (i := 108) rfl) rfl
theorem mc_FM_isDigit : (Cond.code y_FM_isDigit b_FM_isDigit 1 (some .boolean)) ∈ tb := tb_2 (List.mem_of_getElem? (i := 109) rfl) rfl
theorem ml_FM_15 : (Cond.methodLink "ActionDigests$Forms" 15 y_FM_isNameAndValue) ∈ tb := tb_2 (List.mem_of_getElem? (i := 110) rfl) rfl
theorem ms_FM_isNameAndValue : (Cond.static y_FM_isNameAndValue) ∈ tb := tb_2 (List.mem_of_getElem? (i := 111) rfl) rfl
theorem mc_FM_isNameAndValue : (Cond.code y_FM_isNameAndValue b_FM_isNameAndValue 2 (some .boolean)) ∈ tb := tb_2 (List.mem_of_getElem? (i := 112) rfl) rfl
theorem ml_FM_18 : (Cond.methodLink "ActionDigests$Forms" 18 y_FM_nameLength) ∈ tb := tb_2 (List.mem_of_getElem? (i := 113) rfl) rfl
theorem ms_FM_nameLength : (Cond.static y_FM_nameLength) ∈ tb := tb_2 (List.mem_of_getElem? (i := 114) rfl) rfl
theorem mc_FM_nameLength : (Cond.code y_FM_nameLength b_FM_nameLength 2 (some .int)) ∈ tb := tb_2 (List.mem_of_getElem? (i := 115) rfl) rfl
theorem ml_FM_29 : (Cond.methodLink "ActionDigests$Forms" 29 y_FM_isName) ∈ tb := tb_2 (List.mem_of_getElem? (i := 116) rfl) rfl
theorem ms_FM_isName : (Cond.static y_FM_isName) ∈ tb := tb_2 (List.mem_of_getElem? (i := 117) rfl) rfl
theorem mc_FM_isName : (Cond.code y_FM_isName b_FM_isName 3 (some .boolean)) ∈ tb := tb_2 (List.mem_of_getElem? (i := 118) rfl) rfl
theorem mt_KY : (Cond.instantiable "ActionDigests$Key" 2) ∈ tb := tb_2 (List.mem_of_getElem? (i := 120) rfl) rfl
theorem ml_AD_86 : (Cond.methodLink "ActionDigests" 86 y_FM_keyLength) ∈ tb := tb_2 (List.mem_of_getElem? (i := 121) rfl) rfl
theorem ms_FM_keyLength : (Cond.static y_FM_keyLength) ∈ tb := tb_2 (List.mem_of_getElem? (i := 122) rfl) rfl
theorem mc_FM_keyLength : (Cond.code y_FM_keyLength b_FM_keyLength 2 (some .int)) ∈ tb := tb_2 (List.mem_of_getElem? (i := 123) rfl) rfl
theorem ml_AD_90 : (Cond.methodLink "ActionDigests" 90 y_KY_init) ∈ tb := tb_2 (List.mem_of_getElem? (i := 124) rfl) rfl
theorem mi_KY_init : (Cond.instanceMethod y_KY_init) ∈ tb := tb_2 (List.mem_of_getElem? (i := 125) rfl) rfl
theorem mc_KY_init : (Cond.code y_KY_init b_KY_init 3 none) ∈ tb := tb_2 (List.mem_of_getElem? (i := 126) rfl) rfl
theorem ml_KY_1 : (Cond.methodLink "ActionDigests$Key" 1 ⟨"java/lang/Object", "<init>", "()V"⟩) ∈ tb := tb_2 (List.mem_of_getElem? (i := 127) rfl) rfl
theorem mf_KY_7 : (Cond.fieldLink "ActionDigests$Key" 7 "ActionDigests$Key" "characters" "[C") ∈ tb := tb_2 (List.mem_of_getElem? (i := 128) rfl) rfl
theorem mf_KY_13 : (Cond.fieldLink "ActionDigests$Key" 13 "ActionDigests$Key" "length" "I") ∈ tb := tb_2 (List.mem_of_getElem? (i := 129) rfl) rfl
theorem ml_AD_93 : (Cond.methodLink "ActionDigests" 93 y_AC_has) ∈ tb := tb_2 (List.mem_of_getElem? (i := 135) rfl) rfl
theorem mi_AC_has : (Cond.instanceMethod y_AC_has) ∈ tb := tb_2 (List.mem_of_getElem? (i := 136) rfl) rfl
theorem mx_AC_has : (Cond.selects "ActionDigests$Action" y_AC_has y_AC_has) ∈ tb := tb_2 (List.mem_of_getElem? (i := 137) rfl) rfl
theorem mc_AC_has : (Cond.code y_AC_has b_AC_has 4 (some .boolean)) ∈ tb := tb_2 (List.mem_of_getElem? (i := 138) rfl) rfl
theorem ml_AC_28 : (Cond.methodLink "ActionDigests$Action" 28 y_KY_compareWith) ∈ tb := tb_2 (List.mem_of_getElem? (i := 139) rfl) rfl
theorem ml_AD_99 : (Cond.methodLink "ActionDigests" 99 y_AC_isFull) ∈ tb := tb_2 (List.mem_of_getElem? (i := 141) rfl) rfl
theorem mi_AC_isFull : (Cond.instanceMethod y_AC_isFull) ∈ tb := tb_2 (List.mem_of_getElem? (i := 142) rfl) rfl
theorem mx_AC_isFull : (Cond.selects "ActionDigests$Action" y_AC_isFull y_AC_isFull) ∈ tb := tb_2 (List.mem_of_getElem? (i := 143) rfl) rfl
theorem mc_AC_isFull : (Cond.code y_AC_isFull b_AC_isFull 1 (some .boolean)) ∈ tb := tb_2 (List.mem_of_getElem? (i := 144) rfl) rfl
theorem mk_AD_105 : (Cond.classLink "ActionDigests" 105 "ActionDigests$Row") ∈ tb := tb_2 (List.mem_of_getElem? (i := 146) rfl) rfl
theorem mt_RW : (Cond.instantiable "ActionDigests$Row" 3) ∈ tb := tb_2 (List.mem_of_getElem? (i := 147) rfl) rfl
theorem ml_AD_107 : (Cond.methodLink "ActionDigests" 107 y_AD_bodyOf) ∈ tb := tb_2 (List.mem_of_getElem? (i := 148) rfl) rfl
theorem mi_AD_bodyOf : (Cond.instanceMethod y_AD_bodyOf) ∈ tb := tb_2 (List.mem_of_getElem? (i := 150) rfl) rfl
theorem mc_AD_bodyOf : (Cond.code y_AD_bodyOf b_AD_bodyOf 5 (some (.array .char))) ∈ tb := tb_2 (List.mem_of_getElem? (i := 151) rfl) rfl
theorem ml_AD_111 : (Cond.methodLink "ActionDigests" 111 y_RW_init) ∈ tb := tb_2 (List.mem_of_getElem? (i := 152) rfl) rfl
theorem mi_RW_init : (Cond.instanceMethod y_RW_init) ∈ tb := tb_2 (List.mem_of_getElem? (i := 153) rfl) rfl
theorem mc_RW_init : (Cond.code y_RW_init b_RW_init 4 none) ∈ tb := tb_2 (List.mem_of_getElem? (i := 154) rfl) rfl
theorem ml_RW_3 : (Cond.methodLink "ActionDigests$Row" 3 ⟨"java/lang/Object", "<init>", "()V"⟩) ∈ tb := tb_2 (List.mem_of_getElem? (i := 155) rfl) rfl
theorem mf_RW_9 : (Cond.fieldLink "ActionDigests$Row" 9 "ActionDigests$Row" "kind" "I") ∈ tb := tb_2 (List.mem_of_getElem? (i := 156) rfl) rfl
theorem mf_AC_21 : (Cond.fieldLink "ActionDigests$Action" 21 "ActionDigests$Row" "kind" "I") ∈ tb := tb_2 (List.mem_of_getElem? (i := 157) rfl) rfl
theorem mf_AD_151 : (Cond.fieldLink "ActionDigests" 151 "ActionDigests$Row" "kind" "I") ∈ tb := tb_2 (List.mem_of_getElem? (i := 158) rfl) rfl
theorem mf_RW_15 : (Cond.fieldLink "ActionDigests$Row" 15 "ActionDigests$Row" "key" "LActionDigests$Key;") ∈ tb := tb_2 (List.mem_of_getElem? (i := 159) rfl) rfl
theorem mf_AC_24 : (Cond.fieldLink "ActionDigests$Action" 24 "ActionDigests$Row" "key" "LActionDigests$Key;") ∈ tb := tb_2 (List.mem_of_getElem? (i := 160) rfl) rfl
theorem mf_AD_194 : (Cond.fieldLink "ActionDigests" 194 "ActionDigests$Row" "key" "LActionDigests$Key;") ∈ tb := tb_2 (List.mem_of_getElem? (i := 161) rfl) rfl
theorem mf_RW_19 : (Cond.fieldLink "ActionDigests$Row" 19 "ActionDigests$Row" "body" "[C") ∈ tb := tb_2 (List.mem_of_getElem? (i := 162) rfl) rfl
theorem ml_AD_114 : (Cond.methodLink "ActionDigests" 114 y_AC_insert) ∈ tb := tb_2 (List.mem_of_getElem? (i := 170) rfl) rfl
theorem mi_AC_insert : (Cond.instanceMethod y_AC_insert) ∈ tb := tb_2 (List.mem_of_getElem? (i := 171) rfl) rfl
theorem mx_AC_insert : (Cond.selects "ActionDigests$Action" y_AC_insert y_AC_insert) ∈ tb := tb_2 (List.mem_of_getElem? (i := 172) rfl) rfl
theorem mc_AC_insert : (Cond.code y_AC_insert b_AC_insert 3 none) ∈ tb := tb_2 (List.mem_of_getElem? (i := 173) rfl) rfl
theorem ml_AC_34 : (Cond.methodLink "ActionDigests$Action" 34 y_AC_isFull) ∈ tb := tb_2 (List.mem_of_getElem? (i := 174) rfl) rfl
theorem ml_AC_38 : (Cond.methodLink "ActionDigests$Action" 38 y_RW_isBehind) ∈ tb := tb_2 (List.mem_of_getElem? (i := 175) rfl) rfl
theorem mi_RW_isBehind : (Cond.instanceMethod y_RW_isBehind) ∈ tb := tb_2 (List.mem_of_getElem? (i := 176) rfl) rfl
theorem mx_RW_isBehind : (Cond.selects "ActionDigests$Row" y_RW_isBehind y_RW_isBehind) ∈ tb := tb_2 (List.mem_of_getElem? (i := 177) rfl) rfl
theorem mc_RW_isBehind : (Cond.code y_RW_isBehind b_RW_isBehind 2 (some .boolean)) ∈ tb := tb_2 (List.mem_of_getElem? (i := 178) rfl) rfl
theorem ml_RW_23 : (Cond.methodLink "ActionDigests$Row" 23 y_KY_compareWith) ∈ tb := tb_2 (List.mem_of_getElem? (i := 179) rfl) rfl
theorem ml_LW_56 : (Cond.methodLink "ActionDigestsLaw" 56 ⟨"ActionDigestsLaw", "edition", "(LActionDigests;II)I"⟩) ∈ tb := tb_2 (List.mem_of_getElem? (i := 180) rfl) rfl
theorem ms_LW_edition : (Cond.static ⟨"ActionDigestsLaw", "edition", "(LActionDigests;II)I"⟩) ∈ tb := tb_2 (List.mem_of_getElem? (i := 181) rfl) rfl
theorem ml_LW_21 : (Cond.methodLink "ActionDigestsLaw" 21 y_AD_edition) ∈ tb := tb_2 (List.mem_of_getElem? (i := 183) rfl) rfl
theorem mi_AD_edition : (Cond.instanceMethod y_AD_edition) ∈ tb := tb_2 (List.mem_of_getElem? (i := 184) rfl) rfl
theorem mx_AD_edition : (Cond.selects "ActionDigests" y_AD_edition y_AD_edition) ∈ tb := tb_2 (List.mem_of_getElem? (i := 185) rfl) rfl
theorem mc_AD_edition : (Cond.code y_AD_edition b_AD_edition 6 none) ∈ tb := tb_2 (List.mem_of_getElem? (i := 186) rfl) rfl
theorem mq_AD_118 : (Cond.constant "ActionDigests" 118 (99999999 : Int32)) ∈ tb := tb_2 (List.mem_of_getElem? (i := 187) rfl) rfl
theorem ml_AD_121 : (Cond.methodLink "ActionDigests" 121 y_AD_editionDigits) ∈ tb := tb_2 (List.mem_of_getElem? (i := 189) rfl) rfl
theorem ms_AD_editionDigits : (Cond.static y_AD_editionDigits) ∈ tb := tb_2 (List.mem_of_getElem? (i := 190) rfl) rfl
theorem mc_AD_editionDigits : (Cond.code y_AD_editionDigits b_AD_editionDigits 4 (some (.array .char))) ∈ tb := tb_2 (List.mem_of_getElem? (i := 191) rfl) rfl
theorem ml_AD_125 : (Cond.methodLink "ActionDigests" 125 y_AC_replaceEdition) ∈ tb := tb_2 (List.mem_of_getElem? (i := 192) rfl) rfl
theorem mi_AC_replaceEdition : (Cond.instanceMethod y_AC_replaceEdition) ∈ tb := tb_2 (List.mem_of_getElem? (i := 193) rfl) rfl
theorem mx_AC_replaceEdition : (Cond.selects "ActionDigests$Action" y_AC_replaceEdition y_AC_replaceEdition) ∈ tb := tb_2 (List.mem_of_getElem? (i := 194) rfl) rfl
theorem mc_AC_replaceEdition : (Cond.code y_AC_replaceEdition b_AC_replaceEdition 3 (some .boolean)) ∈ tb := tb_2 (List.mem_of_getElem? (i := 195) rfl) rfl
theorem ml_LW_59 : (Cond.methodLink "ActionDigestsLaw" 59 ⟨"ActionDigestsLaw", "allow", "(LActionDigests;)I"⟩) ∈ tb := tb_2 (List.mem_of_getElem? (i := 196) rfl) rfl
theorem ms_LW_allow : (Cond.static ⟨"ActionDigestsLaw", "allow", "(LActionDigests;)I"⟩) ∈ tb := tb_2 (List.mem_of_getElem? (i := 197) rfl) rfl
theorem ml_LW_24 : (Cond.methodLink "ActionDigestsLaw" 24 y_AD_allow) ∈ tb := tb_2 (List.mem_of_getElem? (i := 199) rfl) rfl
theorem mi_AD_allow : (Cond.instanceMethod y_AD_allow) ∈ tb := tb_2 (List.mem_of_getElem? (i := 200) rfl) rfl
theorem mx_AD_allow : (Cond.selects "ActionDigests" y_AD_allow y_AD_allow) ∈ tb := tb_2 (List.mem_of_getElem? (i := 201) rfl) rfl
theorem mc_AD_allow : (Cond.code y_AD_allow b_AD_allow 3 none) ∈ tb := tb_2 (List.mem_of_getElem? (i := 202) rfl) rfl
theorem ml_AD_129 : (Cond.methodLink "ActionDigests" 129 y_FM_isName) ∈ tb := tb_2 (List.mem_of_getElem? (i := 203) rfl) rfl
theorem ml_LW_63 : (Cond.methodLink "ActionDigestsLaw" 63 ⟨"ActionDigestsLaw", "salt", "(LActionDigests;)I"⟩) ∈ tb := tb_2 (List.mem_of_getElem? (i := 207) rfl) rfl
theorem ms_LW_salt : (Cond.static ⟨"ActionDigestsLaw", "salt", "(LActionDigests;)I"⟩) ∈ tb := tb_2 (List.mem_of_getElem? (i := 208) rfl) rfl
theorem ml_LW_27 : (Cond.methodLink "ActionDigestsLaw" 27 y_AD_salt) ∈ tb := tb_2 (List.mem_of_getElem? (i := 210) rfl) rfl
theorem mi_AD_salt : (Cond.instanceMethod y_AD_salt) ∈ tb := tb_2 (List.mem_of_getElem? (i := 211) rfl) rfl
theorem mx_AD_salt : (Cond.selects "ActionDigests" y_AD_salt y_AD_salt) ∈ tb := tb_2 (List.mem_of_getElem? (i := 212) rfl) rfl
theorem mc_AD_salt : (Cond.code y_AD_salt b_AD_salt 2 none) ∈ tb := tb_2 (List.mem_of_getElem? (i := 213) rfl) rfl
theorem mk_LW_31 : (Cond.classLink "ActionDigestsLaw" 31 "ActionDigestsModel") ∈ tb := tb_2 (List.mem_of_getElem? (i := 215) rfl) rfl
theorem mt_MD : (Cond.instantiable "ActionDigestsModel" 22) ∈ tb := tb_2 (List.mem_of_getElem? (i := 216) rfl) rfl
theorem ml_LW_33 : (Cond.methodLink "ActionDigestsLaw" 33 y_MD_init) ∈ tb := tb_2 (List.mem_of_getElem? (i := 217) rfl) rfl
theorem mi_MD_init : (Cond.instanceMethod y_MD_init) ∈ tb := tb_2 (List.mem_of_getElem? (i := 218) rfl) rfl
theorem mc_MD_init : (Cond.code y_MD_init b_MD_init 1 none) ∈ tb := tb_2 (List.mem_of_getElem? (i := 219) rfl) rfl
theorem ml_MD_1 : (Cond.methodLink "ActionDigestsModel" 1 ⟨"java/lang/Object", "<init>", "()V"⟩) ∈ tb := tb_2 (List.mem_of_getElem? (i := 220) rfl) rfl
theorem mq_MD_7 : (Cond.constant "ActionDigestsModel" 7 (1116352408 : Int32)) ∈ tb := tb_2 (List.mem_of_getElem? (i := 221) rfl) rfl
theorem mq_MD_8 : (Cond.constant "ActionDigestsModel" 8 (1899447441 : Int32)) ∈ tb := tb_2 (List.mem_of_getElem? (i := 222) rfl) rfl
theorem mq_MD_9 : (Cond.constant "ActionDigestsModel" 9 (-1245643825 : Int32)) ∈ tb := tb_2 (List.mem_of_getElem? (i := 223) rfl) rfl
theorem mq_MD_10 : (Cond.constant "ActionDigestsModel" 10 (-373957723 : Int32)) ∈ tb := tb_2 (List.mem_of_getElem? (i := 224) rfl) rfl
theorem mq_MD_11 : (Cond.constant "ActionDigestsModel" 11 (961987163 : Int32)) ∈ tb := tb_2 (List.mem_of_getElem? (i := 225) rfl) rfl
theorem mq_MD_12 : (Cond.constant "ActionDigestsModel" 12 (1508970993 : Int32)) ∈ tb := tb_2 (List.mem_of_getElem? (i := 226) rfl) rfl
theorem mq_MD_13 : (Cond.constant "ActionDigestsModel" 13 (-1841331548 : Int32)) ∈ tb := tb_2 (List.mem_of_getElem? (i := 227) rfl) rfl
theorem mq_MD_14 : (Cond.constant "ActionDigestsModel" 14 (-1424204075 : Int32)) ∈ tb := tb_2 (List.mem_of_getElem? (i := 228) rfl) rfl
theorem mq_MD_15 : (Cond.constant "ActionDigestsModel" 15 (-670586216 : Int32)) ∈ tb := tb_2 (List.mem_of_getElem? (i := 229) rfl) rfl
theorem mq_MD_16 : (Cond.constant "ActionDigestsModel" 16 (310598401 : Int32)) ∈ tb := tb_2 (List.mem_of_getElem? (i := 230) rfl) rfl
theorem mq_MD_17 : (Cond.constant "ActionDigestsModel" 17 (607225278 : Int32)) ∈ tb := tb_2 (List.mem_of_getElem? (i := 231) rfl) rfl
theorem mq_MD_18 : (Cond.constant "ActionDigestsModel" 18 (1426881987 : Int32)) ∈ tb := tb_2 (List.mem_of_getElem? (i := 232) rfl) rfl
theorem mq_MD_19 : (Cond.constant "ActionDigestsModel" 19 (1925078388 : Int32)) ∈ tb := tb_2 (List.mem_of_getElem? (i := 233) rfl) rfl
theorem mq_MD_20 : (Cond.constant "ActionDigestsModel" 20 (-2132889090 : Int32)) ∈ tb := tb_2 (List.mem_of_getElem? (i := 234) rfl) rfl
theorem mq_MD_21 : (Cond.constant "ActionDigestsModel" 21 (-1680079193 : Int32)) ∈ tb := tb_2 (List.mem_of_getElem? (i := 235) rfl) rfl
theorem mq_MD_22 : (Cond.constant "ActionDigestsModel" 22 (-1046744716 : Int32)) ∈ tb := tb_2 (List.mem_of_getElem? (i := 236) rfl) rfl
theorem mq_MD_23 : (Cond.constant "ActionDigestsModel" 23 (-459576895 : Int32)) ∈ tb := tb_2 (List.mem_of_getElem? (i := 237) rfl) rfl
theorem mq_MD_24 : (Cond.constant "ActionDigestsModel" 24 (-272742522 : Int32)) ∈ tb := tb_2 (List.mem_of_getElem? (i := 238) rfl) rfl
theorem mq_MD_25 : (Cond.constant "ActionDigestsModel" 25 (264347078 : Int32)) ∈ tb := tb_2 (List.mem_of_getElem? (i := 239) rfl) rfl
theorem mq_MD_26 : (Cond.constant "ActionDigestsModel" 26 (604807628 : Int32)) ∈ tb := tb_3 (List.mem_of_getElem? (i := 0) rfl) rfl
theorem mq_MD_27 : (Cond.constant "ActionDigestsModel" 27 (770255983 : Int32)) ∈ tb := tb_3 (List.mem_of_getElem? (i := 1) rfl) rfl
theorem mq_MD_28 : (Cond.constant "ActionDigestsModel" 28 (1249150122 : Int32)) ∈ tb := tb_3 (List.mem_of_getElem? (i := 2) rfl) rfl
theorem mq_MD_29 : (Cond.constant "ActionDigestsModel" 29 (1555081692 : Int32)) ∈ tb := tb_3 (List.mem_of_getElem? (i := 3) rfl) rfl
theorem mq_MD_30 : (Cond.constant "ActionDigestsModel" 30 (1996064986 : Int32)) ∈ tb := tb_3 (List.mem_of_getElem? (i := 4) rfl) rfl
theorem mq_MD_31 : (Cond.constant "ActionDigestsModel" 31 (-1740746414 : Int32)) ∈ tb := tb_3 (List.mem_of_getElem? (i := 5) rfl) rfl
theorem mq_MD_32 : (Cond.constant "ActionDigestsModel" 32 (-1473132947 : Int32)) ∈ tb := tb_3 (List.mem_of_getElem? (i := 6) rfl) rfl
theorem mq_MD_33 : (Cond.constant "ActionDigestsModel" 33 (-1341970488 : Int32)) ∈ tb := tb_3 (List.mem_of_getElem? (i := 7) rfl) rfl
theorem mq_MD_34 : (Cond.constant "ActionDigestsModel" 34 (-1084653625 : Int32)) ∈ tb := tb_3 (List.mem_of_getElem? (i := 8) rfl) rfl
theorem mq_MD_35 : (Cond.constant "ActionDigestsModel" 35 (-958395405 : Int32)) ∈ tb := tb_3 (List.mem_of_getElem? (i := 9) rfl) rfl
theorem mq_MD_36 : (Cond.constant "ActionDigestsModel" 36 (-710438585 : Int32)) ∈ tb := tb_3 (List.mem_of_getElem? (i := 10) rfl) rfl
theorem mq_MD_37 : (Cond.constant "ActionDigestsModel" 37 (113926993 : Int32)) ∈ tb := tb_3 (List.mem_of_getElem? (i := 11) rfl) rfl
theorem mq_MD_38 : (Cond.constant "ActionDigestsModel" 38 (338241895 : Int32)) ∈ tb := tb_3 (List.mem_of_getElem? (i := 12) rfl) rfl
theorem mq_MD_39 : (Cond.constant "ActionDigestsModel" 39 (666307205 : Int32)) ∈ tb := tb_3 (List.mem_of_getElem? (i := 13) rfl) rfl
theorem mq_MD_40 : (Cond.constant "ActionDigestsModel" 40 (773529912 : Int32)) ∈ tb := tb_3 (List.mem_of_getElem? (i := 14) rfl) rfl
theorem mq_MD_41 : (Cond.constant "ActionDigestsModel" 41 (1294757372 : Int32)) ∈ tb := tb_3 (List.mem_of_getElem? (i := 15) rfl) rfl
theorem mq_MD_42 : (Cond.constant "ActionDigestsModel" 42 (1396182291 : Int32)) ∈ tb := tb_3 (List.mem_of_getElem? (i := 16) rfl) rfl
theorem mq_MD_43 : (Cond.constant "ActionDigestsModel" 43 (1695183700 : Int32)) ∈ tb := tb_3 (List.mem_of_getElem? (i := 17) rfl) rfl
theorem mq_MD_44 : (Cond.constant "ActionDigestsModel" 44 (1986661051 : Int32)) ∈ tb := tb_3 (List.mem_of_getElem? (i := 18) rfl) rfl
theorem mq_MD_45 : (Cond.constant "ActionDigestsModel" 45 (-2117940946 : Int32)) ∈ tb := tb_3 (List.mem_of_getElem? (i := 19) rfl) rfl
theorem mq_MD_46 : (Cond.constant "ActionDigestsModel" 46 (-1838011259 : Int32)) ∈ tb := tb_3 (List.mem_of_getElem? (i := 20) rfl) rfl
theorem mq_MD_47 : (Cond.constant "ActionDigestsModel" 47 (-1564481375 : Int32)) ∈ tb := tb_3 (List.mem_of_getElem? (i := 21) rfl) rfl
theorem mq_MD_48 : (Cond.constant "ActionDigestsModel" 48 (-1474664885 : Int32)) ∈ tb := tb_3 (List.mem_of_getElem? (i := 22) rfl) rfl
theorem mq_MD_49 : (Cond.constant "ActionDigestsModel" 49 (-1035236496 : Int32)) ∈ tb := tb_3 (List.mem_of_getElem? (i := 23) rfl) rfl
theorem mq_MD_50 : (Cond.constant "ActionDigestsModel" 50 (-949202525 : Int32)) ∈ tb := tb_3 (List.mem_of_getElem? (i := 24) rfl) rfl
theorem mq_MD_51 : (Cond.constant "ActionDigestsModel" 51 (-778901479 : Int32)) ∈ tb := tb_3 (List.mem_of_getElem? (i := 25) rfl) rfl
theorem mq_MD_52 : (Cond.constant "ActionDigestsModel" 52 (-694614492 : Int32)) ∈ tb := tb_3 (List.mem_of_getElem? (i := 26) rfl) rfl
theorem mq_MD_53 : (Cond.constant "ActionDigestsModel" 53 (-200395387 : Int32)) ∈ tb := tb_3 (List.mem_of_getElem? (i := 27) rfl) rfl
theorem mq_MD_54 : (Cond.constant "ActionDigestsModel" 54 (275423344 : Int32)) ∈ tb := tb_3 (List.mem_of_getElem? (i := 28) rfl) rfl
theorem mq_MD_55 : (Cond.constant "ActionDigestsModel" 55 (430227734 : Int32)) ∈ tb := tb_3 (List.mem_of_getElem? (i := 29) rfl) rfl
theorem mq_MD_56 : (Cond.constant "ActionDigestsModel" 56 (506948616 : Int32)) ∈ tb := tb_3 (List.mem_of_getElem? (i := 30) rfl) rfl
theorem mq_MD_57 : (Cond.constant "ActionDigestsModel" 57 (659060556 : Int32)) ∈ tb := tb_3 (List.mem_of_getElem? (i := 31) rfl) rfl
theorem mq_MD_58 : (Cond.constant "ActionDigestsModel" 58 (883997877 : Int32)) ∈ tb := tb_3 (List.mem_of_getElem? (i := 32) rfl) rfl
theorem mq_MD_59 : (Cond.constant "ActionDigestsModel" 59 (958139571 : Int32)) ∈ tb := tb_3 (List.mem_of_getElem? (i := 33) rfl) rfl
theorem mq_MD_60 : (Cond.constant "ActionDigestsModel" 60 (1322822218 : Int32)) ∈ tb := tb_3 (List.mem_of_getElem? (i := 34) rfl) rfl
theorem mq_MD_61 : (Cond.constant "ActionDigestsModel" 61 (1537002063 : Int32)) ∈ tb := tb_3 (List.mem_of_getElem? (i := 35) rfl) rfl
theorem mq_MD_62 : (Cond.constant "ActionDigestsModel" 62 (1747873779 : Int32)) ∈ tb := tb_3 (List.mem_of_getElem? (i := 36) rfl) rfl
theorem mq_MD_63 : (Cond.constant "ActionDigestsModel" 63 (1955562222 : Int32)) ∈ tb := tb_3 (List.mem_of_getElem? (i := 37) rfl) rfl
theorem mq_MD_64 : (Cond.constant "ActionDigestsModel" 64 (2024104815 : Int32)) ∈ tb := tb_3 (List.mem_of_getElem? (i := 38) rfl) rfl
theorem mq_MD_65 : (Cond.constant "ActionDigestsModel" 65 (-2067236844 : Int32)) ∈ tb := tb_3 (List.mem_of_getElem? (i := 39) rfl) rfl
theorem mq_MD_66 : (Cond.constant "ActionDigestsModel" 66 (-1933114872 : Int32)) ∈ tb := tb_3 (List.mem_of_getElem? (i := 40) rfl) rfl
theorem mq_MD_67 : (Cond.constant "ActionDigestsModel" 67 (-1866530822 : Int32)) ∈ tb := tb_3 (List.mem_of_getElem? (i := 41) rfl) rfl
theorem mq_MD_68 : (Cond.constant "ActionDigestsModel" 68 (-1538233109 : Int32)) ∈ tb := tb_3 (List.mem_of_getElem? (i := 42) rfl) rfl
theorem mq_MD_69 : (Cond.constant "ActionDigestsModel" 69 (-1090935817 : Int32)) ∈ tb := tb_3 (List.mem_of_getElem? (i := 43) rfl) rfl
theorem mq_MD_70 : (Cond.constant "ActionDigestsModel" 70 (-965641998 : Int32)) ∈ tb := tb_3 (List.mem_of_getElem? (i := 44) rfl) rfl
theorem mq_MD_71 : (Cond.constant "ActionDigestsModel" 71 (1779033703 : Int32)) ∈ tb := tb_3 (List.mem_of_getElem? (i := 45) rfl) rfl
theorem mq_MD_72 : (Cond.constant "ActionDigestsModel" 72 (-1150833019 : Int32)) ∈ tb := tb_3 (List.mem_of_getElem? (i := 46) rfl) rfl
theorem mq_MD_73 : (Cond.constant "ActionDigestsModel" 73 (1013904242 : Int32)) ∈ tb := tb_3 (List.mem_of_getElem? (i := 47) rfl) rfl
theorem mq_MD_74 : (Cond.constant "ActionDigestsModel" 74 (-1521486534 : Int32)) ∈ tb := tb_3 (List.mem_of_getElem? (i := 48) rfl) rfl
theorem mq_MD_75 : (Cond.constant "ActionDigestsModel" 75 (1359893119 : Int32)) ∈ tb := tb_3 (List.mem_of_getElem? (i := 49) rfl) rfl
theorem mq_MD_76 : (Cond.constant "ActionDigestsModel" 76 (-1694144372 : Int32)) ∈ tb := tb_3 (List.mem_of_getElem? (i := 50) rfl) rfl
theorem mq_MD_77 : (Cond.constant "ActionDigestsModel" 77 (528734635 : Int32)) ∈ tb := tb_3 (List.mem_of_getElem? (i := 51) rfl) rfl
theorem mq_MD_78 : (Cond.constant "ActionDigestsModel" 78 (1541459225 : Int32)) ∈ tb := tb_3 (List.mem_of_getElem? (i := 52) rfl) rfl
theorem ml_MD_130 : (Cond.methodLink "ActionDigestsModel" 130 y_MD_sumUp) ∈ tb := tb_3 (List.mem_of_getElem? (i := 53) rfl) rfl
theorem mi_MD_sumUp : (Cond.instanceMethod y_MD_sumUp) ∈ tb := tb_3 (List.mem_of_getElem? (i := 55) rfl) rfl
theorem mc_MD_sumUp : (Cond.code y_MD_sumUp b_MD_sumUp 7 none) ∈ tb := tb_3 (List.mem_of_getElem? (i := 56) rfl) rfl
theorem ml_MD_217 : (Cond.methodLink "ActionDigestsModel" 217 y_MD_byteAt) ∈ tb := tb_3 (List.mem_of_getElem? (i := 57) rfl) rfl
theorem mi_MD_byteAt : (Cond.instanceMethod y_MD_byteAt) ∈ tb := tb_3 (List.mem_of_getElem? (i := 59) rfl) rfl
theorem mc_MD_byteAt : (Cond.code y_MD_byteAt b_MD_byteAt 6 (some .int)) ∈ tb := tb_3 (List.mem_of_getElem? (i := 60) rfl) rfl
theorem mq_MD_215 : (Cond.constantLong "ActionDigestsModel" 215 (8 : Int64)) ∈ tb := tb_3 (List.mem_of_getElem? (i := 61) rfl) rfl
theorem ml_MD_221 : (Cond.methodLink "ActionDigestsModel" 221 y_MD_turned) ∈ tb := tb_3 (List.mem_of_getElem? (i := 62) rfl) rfl
theorem ms_MD_turned : (Cond.static y_MD_turned) ∈ tb := tb_3 (List.mem_of_getElem? (i := 63) rfl) rfl
theorem mc_MD_turned : (Cond.code y_MD_turned b_MD_turned 2 (some .int)) ∈ tb := tb_3 (List.mem_of_getElem? (i := 64) rfl) rfl
theorem ml_MD_224 : (Cond.methodLink "ActionDigestsModel" 224 y_MD_mixIn) ∈ tb := tb_3 (List.mem_of_getElem? (i := 65) rfl) rfl
theorem mi_MD_mixIn : (Cond.instanceMethod y_MD_mixIn) ∈ tb := tb_3 (List.mem_of_getElem? (i := 67) rfl) rfl
theorem mc_MD_mixIn : (Cond.code y_MD_mixIn b_MD_mixIn 10 none) ∈ tb := tb_3 (List.mem_of_getElem? (i := 68) rfl) rfl
theorem ml_MD_134 : (Cond.methodLink "ActionDigestsModel" 134 y_MD_keepSum) ∈ tb := tb_3 (List.mem_of_getElem? (i := 69) rfl) rfl
theorem mi_MD_keepSum : (Cond.instanceMethod y_MD_keepSum) ∈ tb := tb_3 (List.mem_of_getElem? (i := 71) rfl) rfl
theorem mc_MD_keepSum : (Cond.code y_MD_keepSum b_MD_keepSum 2 none) ∈ tb := tb_3 (List.mem_of_getElem? (i := 72) rfl) rfl
theorem mf_MD_79 : (Cond.fieldLink "ActionDigestsModel" 79 "ActionDigestsModel" "roots" "[I") ∈ tb := tb_3 (List.mem_of_getElem? (i := 73) rfl) rfl
theorem mf_MD_137 : (Cond.fieldLink "ActionDigestsModel" 137 "ActionDigestsModel" "code" "I") ∈ tb := tb_3 (List.mem_of_getElem? (i := 74) rfl) rfl
theorem mf_MD_85 : (Cond.fieldLink "ActionDigestsModel" 85 "ActionDigestsModel" "text" "[I") ∈ tb := tb_3 (List.mem_of_getElem? (i := 75) rfl) rfl
theorem mf_MD_141 : (Cond.fieldLink "ActionDigestsModel" 141 "ActionDigestsModel" "typed" "I") ∈ tb := tb_3 (List.mem_of_getElem? (i := 76) rfl) rfl
theorem mf_MD_144 : (Cond.fieldLink "ActionDigestsModel" 144 "ActionDigestsModel" "actions" "I") ∈ tb := tb_3 (List.mem_of_getElem? (i := 77) rfl) rfl
theorem mf_MD_183 : (Cond.fieldLink "ActionDigestsModel" 183 "ActionDigestsModel" "allowed" "I") ∈ tb := tb_3 (List.mem_of_getElem? (i := 78) rfl) rfl
theorem mf_MD_186 : (Cond.fieldLink "ActionDigestsModel" 186 "ActionDigestsModel" "salted" "I") ∈ tb := tb_3 (List.mem_of_getElem? (i := 79) rfl) rfl
theorem mf_MD_88 : (Cond.fieldLink "ActionDigestsModel" 88 "ActionDigestsModel" "held" "[I") ∈ tb := tb_3 (List.mem_of_getElem? (i := 80) rfl) rfl
theorem mf_MD_91 : (Cond.fieldLink "ActionDigestsModel" 91 "ActionDigestsModel" "count" "[I") ∈ tb := tb_3 (List.mem_of_getElem? (i := 81) rfl) rfl
theorem mf_MD_94 : (Cond.fieldLink "ActionDigestsModel" 94 "ActionDigestsModel" "kind" "[I") ∈ tb := tb_3 (List.mem_of_getElem? (i := 82) rfl) rfl
theorem mf_MD_97 : (Cond.fieldLink "ActionDigestsModel" 97 "ActionDigestsModel" "size" "[I") ∈ tb := tb_3 (List.mem_of_getElem? (i := 83) rfl) rfl
theorem mf_MD_100 : (Cond.fieldLink "ActionDigestsModel" 100 "ActionDigestsModel" "key" "[I") ∈ tb := tb_3 (List.mem_of_getElem? (i := 84) rfl) rfl
theorem mf_MD_103 : (Cond.fieldLink "ActionDigestsModel" 103 "ActionDigestsModel" "letters" "[I") ∈ tb := tb_3 (List.mem_of_getElem? (i := 85) rfl) rfl
theorem mf_MD_106 : (Cond.fieldLink "ActionDigestsModel" 106 "ActionDigestsModel" "digests" "[I") ∈ tb := tb_3 (List.mem_of_getElem? (i := 86) rfl) rfl
theorem mf_MD_109 : (Cond.fieldLink "ActionDigestsModel" 109 "ActionDigestsModel" "names" "[I") ∈ tb := tb_3 (List.mem_of_getElem? (i := 87) rfl) rfl
theorem mf_MD_112 : (Cond.fieldLink "ActionDigestsModel" 112 "ActionDigestsModel" "nameSize" "[I") ∈ tb := tb_3 (List.mem_of_getElem? (i := 88) rfl) rfl
theorem mf_MD_115 : (Cond.fieldLink "ActionDigestsModel" 115 "ActionDigestsModel" "salt" "[I") ∈ tb := tb_3 (List.mem_of_getElem? (i := 89) rfl) rfl
theorem mf_MD_118 : (Cond.fieldLink "ActionDigestsModel" 118 "ActionDigestsModel" "stable" "[I") ∈ tb := tb_3 (List.mem_of_getElem? (i := 90) rfl) rfl
theorem mf_MD_203 : (Cond.fieldLink "ActionDigestsModel" 203 "ActionDigestsModel" "stableSize" "I") ∈ tb := tb_3 (List.mem_of_getElem? (i := 91) rfl) rfl
theorem mf_MD_121 : (Cond.fieldLink "ActionDigestsModel" 121 "ActionDigestsModel" "sum" "[I") ∈ tb := tb_3 (List.mem_of_getElem? (i := 92) rfl) rfl
theorem mf_MD_124 : (Cond.fieldLink "ActionDigestsModel" 124 "ActionDigestsModel" "wide" "[I") ∈ tb := tb_3 (List.mem_of_getElem? (i := 93) rfl) rfl
theorem mf_MD_127 : (Cond.fieldLink "ActionDigestsModel" 127 "ActionDigestsModel" "turn" "[I") ∈ tb := tb_3 (List.mem_of_getElem? (i := 94) rfl) rfl
theorem ml_LW_45 : (Cond.methodLink "ActionDigestsLaw" 45 y_MD_thrown) ∈ tb := tb_3 (List.mem_of_getElem? (i := 140) rfl) rfl
theorem mi_MD_thrown : (Cond.instanceMethod y_MD_thrown) ∈ tb := tb_3 (List.mem_of_getElem? (i := 141) rfl) rfl
theorem mx_MD_thrown : (Cond.selects "ActionDigestsModel" y_MD_thrown y_MD_thrown) ∈ tb := tb_3 (List.mem_of_getElem? (i := 142) rfl) rfl
theorem mc_MD_thrown : (Cond.code y_MD_thrown b_MD_thrown 1 (some .int)) ∈ tb := tb_3 (List.mem_of_getElem? (i := 143) rfl) rfl
theorem ml_LW_38 : (Cond.methodLink "ActionDigestsLaw" 38 y_MD_type) ∈ tb := tb_3 (List.mem_of_getElem? (i := 144) rfl) rfl
theorem mi_MD_type : (Cond.instanceMethod y_MD_type) ∈ tb := tb_3 (List.mem_of_getElem? (i := 145) rfl) rfl
theorem mx_MD_type : (Cond.selects "ActionDigestsModel" y_MD_type y_MD_type) ∈ tb := tb_3 (List.mem_of_getElem? (i := 146) rfl) rfl
theorem mc_MD_type : (Cond.code y_MD_type b_MD_type 2 (some .boolean)) ∈ tb := tb_3 (List.mem_of_getElem? (i := 147) rfl) rfl
theorem ml_LW_44 : (Cond.methodLink "ActionDigestsLaw" 44 y_MD_action) ∈ tb := tb_3 (List.mem_of_getElem? (i := 148) rfl) rfl
theorem mi_MD_action : (Cond.instanceMethod y_MD_action) ∈ tb := tb_3 (List.mem_of_getElem? (i := 149) rfl) rfl
theorem mx_MD_action : (Cond.selects "ActionDigestsModel" y_MD_action y_MD_action) ∈ tb := tb_3 (List.mem_of_getElem? (i := 150) rfl) rfl
theorem mc_MD_action : (Cond.code y_MD_action b_MD_action 1 (some .int)) ∈ tb := tb_3 (List.mem_of_getElem? (i := 151) rfl) rfl
theorem ml_LW_55 : (Cond.methodLink "ActionDigestsLaw" 55 y_MD_row) ∈ tb := tb_3 (List.mem_of_getElem? (i := 152) rfl) rfl
theorem mi_MD_row : (Cond.instanceMethod y_MD_row) ∈ tb := tb_3 (List.mem_of_getElem? (i := 153) rfl) rfl
theorem mx_MD_row : (Cond.selects "ActionDigestsModel" y_MD_row y_MD_row) ∈ tb := tb_3 (List.mem_of_getElem? (i := 154) rfl) rfl
theorem mc_MD_row : (Cond.code y_MD_row b_MD_row 9 none) ∈ tb := tb_3 (List.mem_of_getElem? (i := 155) rfl) rfl
theorem ml_MD_164 : (Cond.methodLink "ActionDigestsModel" 164 y_MD_takes) ∈ tb := tb_3 (List.mem_of_getElem? (i := 156) rfl) rfl
theorem mi_MD_takes : (Cond.instanceMethod y_MD_takes) ∈ tb := tb_3 (List.mem_of_getElem? (i := 158) rfl) rfl
theorem mc_MD_takes : (Cond.code y_MD_takes b_MD_takes 2 (some .int)) ∈ tb := tb_3 (List.mem_of_getElem? (i := 159) rfl) rfl
theorem ml_MD_168 : (Cond.methodLink "ActionDigestsModel" 168 y_MD_isAction) ∈ tb := tb_3 (List.mem_of_getElem? (i := 160) rfl) rfl
theorem mi_MD_isAction : (Cond.instanceMethod y_MD_isAction) ∈ tb := tb_3 (List.mem_of_getElem? (i := 162) rfl) rfl
theorem mc_MD_isAction : (Cond.code y_MD_isAction b_MD_isAction 2 (some .boolean)) ∈ tb := tb_3 (List.mem_of_getElem? (i := 163) rfl) rfl
theorem ml_MD_171 : (Cond.methodLink "ActionDigestsModel" 171 y_MD_keyOf) ∈ tb := tb_3 (List.mem_of_getElem? (i := 164) rfl) rfl
theorem mi_MD_keyOf : (Cond.instanceMethod y_MD_keyOf) ∈ tb := tb_3 (List.mem_of_getElem? (i := 166) rfl) rfl
theorem mc_MD_keyOf : (Cond.code y_MD_keyOf b_MD_keyOf 4 (some .int)) ∈ tb := tb_3 (List.mem_of_getElem? (i := 167) rfl) rfl
theorem ml_MD_154 : (Cond.methodLink "ActionDigestsModel" 154 y_MD_isPath) ∈ tb := tb_3 (List.mem_of_getElem? (i := 168) rfl) rfl
theorem mi_MD_isPath : (Cond.instanceMethod y_MD_isPath) ∈ tb := tb_3 (List.mem_of_getElem? (i := 170) rfl) rfl
theorem mc_MD_isPath : (Cond.code y_MD_isPath b_MD_isPath 5 (some .boolean)) ∈ tb := tb_3 (List.mem_of_getElem? (i := 171) rfl) rfl
theorem ml_MD_147 : (Cond.methodLink "ActionDigestsModel" 147 y_MD_isLetter) ∈ tb := tb_3 (List.mem_of_getElem? (i := 172) rfl) rfl
theorem ms_MD_isLetter : (Cond.static y_MD_isLetter) ∈ tb := tb_3 (List.mem_of_getElem? (i := 173) rfl) rfl
theorem mc_MD_isLetter : (Cond.code y_MD_isLetter b_MD_isLetter 1 (some .boolean)) ∈ tb := tb_3 (List.mem_of_getElem? (i := 174) rfl) rfl
theorem ml_MD_151 : (Cond.methodLink "ActionDigestsModel" 151 y_MD_isDigit) ∈ tb := tb_3 (List.mem_of_getElem? (i := 175) rfl) rfl
theorem ms_MD_isDigit : (Cond.static y_MD_isDigit) ∈ tb := tb_3 (List.mem_of_getElem? (i := 176) rfl) rfl
theorem mc_MD_isDigit : (Cond.code y_MD_isDigit b_MD_isDigit 1 (some .boolean)) ∈ tb := tb_3 (List.mem_of_getElem? (i := 177) rfl) rfl
theorem ml_MD_157 : (Cond.methodLink "ActionDigestsModel" 157 y_MD_isName) ∈ tb := tb_3 (List.mem_of_getElem? (i := 178) rfl) rfl
theorem mi_MD_isName : (Cond.instanceMethod y_MD_isName) ∈ tb := tb_3 (List.mem_of_getElem? (i := 180) rfl) rfl
theorem mc_MD_isName : (Cond.code y_MD_isName b_MD_isName 4 (some .boolean)) ∈ tb := tb_3 (List.mem_of_getElem? (i := 181) rfl) rfl
theorem ml_MD_174 : (Cond.methodLink "ActionDigestsModel" 174 y_MD_hasKey) ∈ tb := tb_3 (List.mem_of_getElem? (i := 182) rfl) rfl
theorem mi_MD_hasKey : (Cond.instanceMethod y_MD_hasKey) ∈ tb := tb_3 (List.mem_of_getElem? (i := 184) rfl) rfl
theorem mc_MD_hasKey : (Cond.code y_MD_hasKey b_MD_hasKey 9 (some .boolean)) ∈ tb := tb_3 (List.mem_of_getElem? (i := 185) rfl) rfl
theorem ml_MD_160 : (Cond.methodLink "ActionDigestsModel" 160 y_MD_place) ∈ tb := tb_3 (List.mem_of_getElem? (i := 186) rfl) rfl
theorem mi_MD_place : (Cond.instanceMethod y_MD_place) ∈ tb := tb_3 (List.mem_of_getElem? (i := 188) rfl) rfl
theorem mc_MD_place : (Cond.code y_MD_place b_MD_place 3 (some .int)) ∈ tb := tb_3 (List.mem_of_getElem? (i := 189) rfl) rfl
theorem ml_MD_178 : (Cond.methodLink "ActionDigestsModel" 178 y_MD_refuses) ∈ tb := tb_3 (List.mem_of_getElem? (i := 190) rfl) rfl
theorem mi_MD_refuses : (Cond.instanceMethod y_MD_refuses) ∈ tb := tb_3 (List.mem_of_getElem? (i := 192) rfl) rfl
theorem mc_MD_refuses : (Cond.code y_MD_refuses b_MD_refuses 3 (some .boolean)) ∈ tb := tb_3 (List.mem_of_getElem? (i := 193) rfl) rfl
theorem ml_LW_58 : (Cond.methodLink "ActionDigestsLaw" 58 y_MD_edition) ∈ tb := tb_3 (List.mem_of_getElem? (i := 194) rfl) rfl
theorem mi_MD_edition : (Cond.instanceMethod y_MD_edition) ∈ tb := tb_3 (List.mem_of_getElem? (i := 195) rfl) rfl
theorem mx_MD_edition : (Cond.selects "ActionDigestsModel" y_MD_edition y_MD_edition) ∈ tb := tb_3 (List.mem_of_getElem? (i := 196) rfl) rfl
theorem mc_MD_edition : (Cond.code y_MD_edition b_MD_edition 8 none) ∈ tb := tb_3 (List.mem_of_getElem? (i := 197) rfl) rfl
theorem mq_MD_182 : (Cond.constant "ActionDigestsModel" 182 (99999999 : Int32)) ∈ tb := tb_3 (List.mem_of_getElem? (i := 198) rfl) rfl
theorem ml_LW_62 : (Cond.methodLink "ActionDigestsLaw" 62 y_MD_allow) ∈ tb := tb_3 (List.mem_of_getElem? (i := 199) rfl) rfl
theorem mi_MD_allow : (Cond.instanceMethod y_MD_allow) ∈ tb := tb_3 (List.mem_of_getElem? (i := 200) rfl) rfl
theorem mx_MD_allow : (Cond.selects "ActionDigestsModel" y_MD_allow y_MD_allow) ∈ tb := tb_3 (List.mem_of_getElem? (i := 201) rfl) rfl
theorem mc_MD_allow : (Cond.code y_MD_allow b_MD_allow 7 none) ∈ tb := tb_3 (List.mem_of_getElem? (i := 202) rfl) rfl
theorem ml_LW_65 : (Cond.methodLink "ActionDigestsLaw" 65 y_MD_salt) ∈ tb := tb_3 (List.mem_of_getElem? (i := 203) rfl) rfl
theorem mi_MD_salt : (Cond.instanceMethod y_MD_salt) ∈ tb := tb_3 (List.mem_of_getElem? (i := 204) rfl) rfl
theorem mx_MD_salt : (Cond.selects "ActionDigestsModel" y_MD_salt y_MD_salt) ∈ tb := tb_3 (List.mem_of_getElem? (i := 205) rfl) rfl
theorem mc_MD_salt : (Cond.code y_MD_salt b_MD_salt 3 none) ∈ tb := tb_3 (List.mem_of_getElem? (i := 206) rfl) rfl
theorem ml_LW_70 : (Cond.methodLink "ActionDigestsLaw" 70 y_MD_rows) ∈ tb := tb_3 (List.mem_of_getElem? (i := 207) rfl) rfl
theorem mi_MD_rows : (Cond.instanceMethod y_MD_rows) ∈ tb := tb_3 (List.mem_of_getElem? (i := 208) rfl) rfl
theorem mx_MD_rows : (Cond.selects "ActionDigestsModel" y_MD_rows y_MD_rows) ∈ tb := tb_3 (List.mem_of_getElem? (i := 209) rfl) rfl
theorem mc_MD_rows : (Cond.code y_MD_rows b_MD_rows 2 (some .int)) ∈ tb := tb_3 (List.mem_of_getElem? (i := 210) rfl) rfl
theorem ml_MD_196 : (Cond.methodLink "ActionDigestsModel" 196 y_MD_counting) ∈ tb := tb_3 (List.mem_of_getElem? (i := 211) rfl) rfl
theorem mi_MD_counting : (Cond.instanceMethod y_MD_counting) ∈ tb := tb_3 (List.mem_of_getElem? (i := 213) rfl) rfl
theorem mc_MD_counting : (Cond.code y_MD_counting b_MD_counting 4 (some .int)) ∈ tb := tb_3 (List.mem_of_getElem? (i := 214) rfl) rfl
theorem ml_MD_189 : (Cond.methodLink "ActionDigestsModel" 189 y_MD_isAllowed) ∈ tb := tb_3 (List.mem_of_getElem? (i := 215) rfl) rfl
theorem mi_MD_isAllowed : (Cond.instanceMethod y_MD_isAllowed) ∈ tb := tb_3 (List.mem_of_getElem? (i := 217) rfl) rfl
theorem mc_MD_isAllowed : (Cond.code y_MD_isAllowed b_MD_isAllowed 5 (some .boolean)) ∈ tb := tb_3 (List.mem_of_getElem? (i := 218) rfl) rfl
theorem ml_LW_75 : (Cond.methodLink "ActionDigestsLaw" 75 y_MD_kind) ∈ tb := tb_3 (List.mem_of_getElem? (i := 219) rfl) rfl
theorem mi_MD_kind : (Cond.instanceMethod y_MD_kind) ∈ tb := tb_3 (List.mem_of_getElem? (i := 220) rfl) rfl
theorem mx_MD_kind : (Cond.selects "ActionDigestsModel" y_MD_kind y_MD_kind) ∈ tb := tb_3 (List.mem_of_getElem? (i := 221) rfl) rfl
theorem mc_MD_kind : (Cond.code y_MD_kind b_MD_kind 3 (some .int)) ∈ tb := tb_3 (List.mem_of_getElem? (i := 222) rfl) rfl
theorem ml_MD_200 : (Cond.methodLink "ActionDigestsModel" 200 y_MD_rowAt) ∈ tb := tb_3 (List.mem_of_getElem? (i := 223) rfl) rfl
theorem mi_MD_rowAt : (Cond.instanceMethod y_MD_rowAt) ∈ tb := tb_3 (List.mem_of_getElem? (i := 225) rfl) rfl
theorem mc_MD_rowAt : (Cond.code y_MD_rowAt b_MD_rowAt 7 (some .int)) ∈ tb := tb_3 (List.mem_of_getElem? (i := 226) rfl) rfl
theorem ml_MD_192 : (Cond.methodLink "ActionDigestsModel" 192 y_MD_isBefore) ∈ tb := tb_3 (List.mem_of_getElem? (i := 227) rfl) rfl
theorem mi_MD_isBefore : (Cond.instanceMethod y_MD_isBefore) ∈ tb := tb_3 (List.mem_of_getElem? (i := 229) rfl) rfl
theorem mc_MD_isBefore : (Cond.code y_MD_isBefore b_MD_isBefore 4 (some .boolean)) ∈ tb := tb_3 (List.mem_of_getElem? (i := 230) rfl) rfl
theorem ml_LW_79 : (Cond.methodLink "ActionDigestsLaw" 79 y_MD_size) ∈ tb := tb_3 (List.mem_of_getElem? (i := 231) rfl) rfl
theorem mi_MD_size : (Cond.instanceMethod y_MD_size) ∈ tb := tb_3 (List.mem_of_getElem? (i := 232) rfl) rfl
theorem mx_MD_size : (Cond.selects "ActionDigestsModel" y_MD_size y_MD_size) ∈ tb := tb_3 (List.mem_of_getElem? (i := 233) rfl) rfl
theorem mc_MD_size : (Cond.code y_MD_size b_MD_size 2 (some .int)) ∈ tb := tb_3 (List.mem_of_getElem? (i := 234) rfl) rfl
theorem ml_MD_212 : (Cond.methodLink "ActionDigestsModel" 212 y_MD_write) ∈ tb := tb_3 (List.mem_of_getElem? (i := 235) rfl) rfl
theorem mi_MD_write : (Cond.instanceMethod y_MD_write) ∈ tb := tb_3 (List.mem_of_getElem? (i := 237) rfl) rfl
theorem mc_MD_write : (Cond.code y_MD_write b_MD_write 8 none) ∈ tb := tb_3 (List.mem_of_getElem? (i := 238) rfl) rfl
theorem ml_MD_206 : (Cond.methodLink "ActionDigestsModel" 206 y_MD_put) ∈ tb := tb_3 (List.mem_of_getElem? (i := 239) rfl) rfl
theorem mi_MD_put : (Cond.instanceMethod y_MD_put) ∈ tb := tb_4 (List.mem_of_getElem? (i := 1) rfl) rfl
theorem mc_MD_put : (Cond.code y_MD_put b_MD_put 2 none) ∈ tb := tb_4 (List.mem_of_getElem? (i := 2) rfl) rfl
theorem ml_MD_209 : (Cond.methodLink "ActionDigestsModel" 209 y_MD_hex) ∈ tb := tb_4 (List.mem_of_getElem? (i := 3) rfl) rfl
theorem ms_MD_hex : (Cond.static y_MD_hex) ∈ tb := tb_4 (List.mem_of_getElem? (i := 4) rfl) rfl
theorem mc_MD_hex : (Cond.code y_MD_hex b_MD_hex 1 (some .int)) ∈ tb := tb_4 (List.mem_of_getElem? (i := 5) rfl) rfl
theorem ml_LW_83 : (Cond.methodLink "ActionDigestsLaw" 83 y_MD_character) ∈ tb := tb_4 (List.mem_of_getElem? (i := 6) rfl) rfl
theorem mi_MD_character : (Cond.instanceMethod y_MD_character) ∈ tb := tb_4 (List.mem_of_getElem? (i := 7) rfl) rfl
theorem mx_MD_character : (Cond.selects "ActionDigestsModel" y_MD_character y_MD_character) ∈ tb := tb_4 (List.mem_of_getElem? (i := 8) rfl) rfl
theorem mc_MD_character : (Cond.code y_MD_character b_MD_character 3 (some .int)) ∈ tb := tb_4 (List.mem_of_getElem? (i := 9) rfl) rfl
theorem ml_LW_51 : (Cond.methodLink "ActionDigestsLaw" 51 y_MD_hold) ∈ tb := tb_4 (List.mem_of_getElem? (i := 10) rfl) rfl
theorem mi_MD_hold : (Cond.instanceMethod y_MD_hold) ∈ tb := tb_4 (List.mem_of_getElem? (i := 11) rfl) rfl
theorem mx_MD_hold : (Cond.selects "ActionDigestsModel" y_MD_hold y_MD_hold) ∈ tb := tb_4 (List.mem_of_getElem? (i := 12) rfl) rfl
theorem mc_MD_hold : (Cond.code y_MD_hold b_MD_hold 3 none) ∈ tb := tb_4 (List.mem_of_getElem? (i := 13) rfl) rfl
theorem ml_LW_87 : (Cond.methodLink "ActionDigestsLaw" 87 y_MD_digest) ∈ tb := tb_4 (List.mem_of_getElem? (i := 14) rfl) rfl
theorem mi_MD_digest : (Cond.instanceMethod y_MD_digest) ∈ tb := tb_4 (List.mem_of_getElem? (i := 15) rfl) rfl
theorem mx_MD_digest : (Cond.selects "ActionDigestsModel" y_MD_digest y_MD_digest) ∈ tb := tb_4 (List.mem_of_getElem? (i := 16) rfl) rfl
theorem mc_MD_digest : (Cond.code y_MD_digest b_MD_digest 4 (some .int)) ∈ tb := tb_4 (List.mem_of_getElem? (i := 17) rfl) rfl
theorem ml_LW_91 : (Cond.methodLink "ActionDigestsLaw" 91 y_MD_differ) ∈ tb := tb_4 (List.mem_of_getElem? (i := 18) rfl) rfl
theorem mi_MD_differ : (Cond.instanceMethod y_MD_differ) ∈ tb := tb_4 (List.mem_of_getElem? (i := 19) rfl) rfl
theorem mx_MD_differ : (Cond.selects "ActionDigestsModel" y_MD_differ y_MD_differ) ∈ tb := tb_4 (List.mem_of_getElem? (i := 20) rfl) rfl
theorem mc_MD_differ : (Cond.code y_MD_differ b_MD_differ 6 (some .int)) ∈ tb := tb_4 (List.mem_of_getElem? (i := 21) rfl) rfl
theorem ml_MD_227 : (Cond.methodLink "ActionDigestsModel" 227 y_MD_same) ∈ tb := tb_4 (List.mem_of_getElem? (i := 22) rfl) rfl
theorem mi_MD_same : (Cond.instanceMethod y_MD_same) ∈ tb := tb_4 (List.mem_of_getElem? (i := 24) rfl) rfl
theorem mc_MD_same : (Cond.code y_MD_same b_MD_same 5 (some .boolean)) ∈ tb := tb_4 (List.mem_of_getElem? (i := 25) rfl) rfl
theorem ml_LW_95 : (Cond.methodLink "ActionDigestsLaw" 95 y_MD_constant) ∈ tb := tb_4 (List.mem_of_getElem? (i := 26) rfl) rfl
theorem mi_MD_constant : (Cond.instanceMethod y_MD_constant) ∈ tb := tb_4 (List.mem_of_getElem? (i := 27) rfl) rfl
theorem mx_MD_constant : (Cond.selects "ActionDigestsModel" y_MD_constant y_MD_constant) ∈ tb := tb_4 (List.mem_of_getElem? (i := 28) rfl) rfl
theorem mc_MD_constant : (Cond.code y_MD_constant b_MD_constant 2 (some .int)) ∈ tb := tb_4 (List.mem_of_getElem? (i := 29) rfl) rfl
theorem ma_long : (Cond.arrayClass .long) ∈ tb := tb_4 (List.mem_of_getElem? (i := 30) rfl) rfl
end
section
/-! THE HEAPLET: what lies at which address, as a partial function; one fact 'hp_H' says that the heap holds it. Rows of the kit turned to it. -/
abbrev hp_M : Type := Nat → Option va_E
def hp_up (M : hp_M) (a : Nat) (e : va_E) : hp_M := fun q => if q = a then some e else M q
theorem hp_us {M : hp_M} {a : Nat} {e : va_E} : hp_up M a e a = some e := if_pos rfl
theorem hp_un {M : hp_M} {a b : Nat} {e : va_E} (h : b ≠ a) : hp_up M a e b = M b := if_neg h
theorem hp_k {M : hp_M} {a b : Nat} {e x : va_E} (h : b ≠ a) (hb : M b = some x) : hp_up M a e b = some x := by rw [hp_un h]; exact hb
theorem hp_uu {M : hp_M} {a : Nat} {e x : va_E} : hp_up (hp_up M a e) a x = hp_up M a x := by
  funext q
  unfold hp_up
  by_cases h : q = a
  · rw [if_pos h, if_pos h]
  · rw [if_neg h, if_neg h, if_neg h]
theorem hp_same {M : hp_M} {a : Nat} {e : va_E} (h : M a = some e) : hp_up M a e = M := by
  funext q
  unfold hp_up
  by_cases hq : q = a
  · rw [if_pos hq, hq, h]
  · rw [if_neg hq]
/-- what a method may write: the heaplet's addresses, and new ones -/
def hp_A (M : hp_M) (sz : Nat) : Nat → Prop := fun q => M q ≠ none ∨ sz ≤ q
def hp_H (D : va_G) (cl : List vw_C) (A : Nat → Prop) (M : hp_M) (H : Heap) : Prop := ∃ ws : va_W, va_P D cl ws H ∧ va_D A ws ∧ ∀ (a : Nat) (e : va_E), M a = some e ↔ (a, e) ∈ ws
theorem hp_set_i {M : hp_M} {A : Nat → Prop} {ws : va_W} {q0 a : Nat} {e e' : va_E} (hD : va_D A ws) (hi : ∀ (b : Nat) (x : va_E), M b = some x ↔ (b, x) ∈ ws) (he : ws[q0]? = some (a, e)) : ∀ (b : Nat) (x : va_E), hp_up M a e' b = some x ↔ (b, x) ∈ ws.set q0 (a, e') := by
  have hlt : q0 < ws.length := (List.getElem?_eq_some_iff.mp he).1
  intro b x
  constructor
  · intro h
    by_cases hb : b = a
    · subst hb
      rw [hp_us] at h
      cases h
      exact List.mem_of_getElem? (i := q0) (List.getElem?_set_self hlt)
    · rw [hp_un hb] at h
      obtain ⟨i, hi'⟩ := List.getElem?_of_mem ((hi b x).mp h)
      have hne : q0 ≠ i := fun q => by
        subst q
        rw [he] at hi'
        cases hi'
        exact hb rfl
      exact List.mem_of_getElem? (i := i) (by rw [List.getElem?_set_ne hne]; exact hi')
  · intro h
    obtain ⟨i, hi'⟩ := List.getElem?_of_mem h
    by_cases hq : q0 = i
    · subst hq
      rw [List.getElem?_set_self hlt] at hi'
      cases hi'
      exact hp_us
    · rw [List.getElem?_set_ne hq] at hi'
      have hb : b ≠ a := fun q => hq (hD.1 _ _ _ _ he hi' q.symm)
      rw [hp_un hb]
      exact (hi b x).mpr (List.mem_of_getElem? hi')
theorem hp_push_i {M : hp_M} {A : Nat → Prop} {ws : va_W} {q : Nat} {e : va_E} (hD : va_D A (ws ++ [(q, e)])) (hi : ∀ (b : Nat) (x : va_E), M b = some x ↔ (b, x) ∈ ws) : M q = none ∧ ∀ (b : Nat) (x : va_E), hp_up M q e b = some x ↔ (b, x) ∈ ws ++ [(q, e)] := by
  have fresh : ∀ x : va_E, (q, x) ∉ ws := fun x h => by
    obtain ⟨i, hi'⟩ := List.getElem?_of_mem h
    have hlt : i < ws.length := (List.getElem?_eq_some_iff.mp hi').1
    have h3 := hD.1 i ws.length (q, x) (q, e) (by rw [List.getElem?_append_left hlt]; exact hi') (by simp) rfl
    omega
  refine ⟨?_, fun b x => ?_⟩
  · cases hM : M q with
    | none => rfl
    | some x => exact absurd ((hi q x).mp hM) (fresh x)
  · rw [List.mem_append, List.mem_singleton]
    constructor
    · intro h
      by_cases hb : b = q
      · subst hb
        rw [hp_us] at h
        cases h
        exact Or.inr rfl
      · rw [hp_un hb] at h
        exact Or.inl ((hi b x).mp h)
    · intro h
      rcases h with h | h
      · have hb : b ≠ q := fun e1 => by
          subst e1
          exact fresh x h
        rw [hp_un hb]
        exact (hi b x).mpr h
      · cases h
        exact hp_us
theorem hp_H.wide {D : va_G} {cl : List vw_C} {A B : Nat → Prop} {M : hp_M} {H : Heap} (h : hp_H D cl A M H) (hAB : ∀ q, A q → B q) : hp_H D cl B M H := by
  obtain ⟨ws, hP, hD, hi⟩ := h
  exact ⟨ws, hP, ⟨hD.1, fun k q hk => hAB _ (hD.2 k q hk)⟩, hi⟩
theorem hp_H.self {D : va_G} {cl : List vw_C} {A : Nat → Prop} {M : hp_M} {H : Heap} (h : hp_H D cl A M H) (sz : Nat) : hp_H D cl (hp_A M sz) M H := by
  obtain ⟨ws, hP, hD, hi⟩ := h
  refine ⟨ws, hP, ⟨hD.1, fun k q hk => Or.inl ?_⟩, hi⟩
  rw [(hi q.1 q.2).mpr (List.mem_of_getElem? hk)]
  exact Option.some_ne_none _
theorem hp_H.mem {D : va_G} {cl : List vw_C} {A : Nat → Prop} {M : hp_M} {H : Heap} (h : hp_H D cl A M H) {a : Nat} {e : va_E} (hm : M a = some e) : A a ∧ va_at D cl (a, e) H := by
  obtain ⟨ws, hP, hD, hi⟩ := h
  obtain ⟨q0, he⟩ := List.getElem?_of_mem ((hi a e).mp hm)
  exact ⟨hD.2 q0 _ he, hP q0 _ he⟩
theorem hp_H.lt {D : va_G} {cl : List vw_C} {A : Nat → Prop} {M : hp_M} {H : Heap} (h : hp_H D cl A M H) {a : Nat} (hm : M a ≠ none) : a < H.size := by
  cases hM : M a with
  | none => exact absurd hM hm
  | some e => exact (h.mem hM).2.lt
/-- a heap that agrees on the heaplet's addresses holds it too -/
theorem hp_H.kept {D : va_G} {cl : List vw_C} {A : Nat → Prop} {M : hp_M} {H H1 : Heap} (h : hp_H D cl A M H) (hq : ∀ a : Nat, M a ≠ none → H1[a]? = H[a]?) : hp_H D cl A M H1 := by
  obtain ⟨ws, hP, hD, hi⟩ := h
  refine ⟨ws, fun k q hk => (hP k q hk).kept (hq q.1 ?_), hD, hi⟩
  rw [(hi q.1 q.2).mpr (List.mem_of_getElem? hk)]
  exact Option.some_ne_none _
theorem hp_sub {D : va_G} {cl : List vw_C} {A : Nat → Prop} {M : hp_M} {H0 H : Heap} {locs : List Loc} (hM : hp_H D cl A M H) (hS : va_S A H0 H locs) (hA : ∀ q, H0.size ≤ q → A q) {q : Nat} (h : hp_A M H.size q) : A q := by
  rcases h with h | h
  · cases hm : M q with
    | none => exact absurd hm h
    | some e => exact (hM.mem hm).1
  · exact hA q (Nat.le_trans hS.1 h)
/-- other contents of an array that agree below its length -/
theorem hp_H.cong {D : va_G} {cl : List vw_C} {A : Nat → Prop} {M : hp_M} {H : Heap} (h : hp_H D cl A M H) {a : Nat} {cA : ClassId} {n : Nat} {f g : Nat → Int32} (hm : M a = some (.inl (cA, n, .inl f))) (hfg : ∀ i, i < n → f i = g i) : hp_H D cl A (hp_up M a (.inl (cA, n, .inl g))) H := by
  obtain ⟨ws, hP, hD, hi⟩ := h
  obtain ⟨q0, he⟩ := List.getElem?_of_mem ((hi a _).mp hm)
  have hlt : q0 < ws.length := (List.getElem?_eq_some_iff.mp he).1
  have hcell : vp_cell cA (n, .inl f) = vp_cell cA (n, .inl g) := by
    rw [vp_cell_i, vp_cell_i]
    unfold arrV
    congr 1
    apply Array.ext
    · simp
    · intro i h1 h2
      simp only [Array.size_ofFn] at h1
      simp [hfg i h1]
  refine ⟨ws.set q0 (a, .inl (cA, n, .inl g)), fun k q hk => ?_, ⟨fun i j p q h1 h2 h3 => ?_, fun k q hk => ?_⟩, hp_set_i hD hi he⟩
  · by_cases hkq : q0 = k
    · subst hkq
      rw [List.getElem?_set_self hlt] at hk
      cases hk
      have h9 : H[a]? = some (vp_cell cA (n, .inl f)) := hP q0 _ he
      show H[a]? = some (vp_cell cA (n, .inl g))
      rw [← hcell]
      exact h9
    · rw [List.getElem?_set_ne hkq] at hk
      exact hP k q hk
  · have key : ∀ (i : Nat) (p : Nat × va_E), (ws.set q0 (a, .inl (cA, n, .inl g)))[i]? = some p → ∃ p' : Nat × va_E, ws[i]? = some p' ∧ p'.1 = p.1 := fun i p hp => by
      by_cases hkq : q0 = i
      · subst hkq
        rw [List.getElem?_set_self hlt] at hp
        cases hp
        exact ⟨_, he, rfl⟩
      · rw [List.getElem?_set_ne hkq] at hp
        exact ⟨p, hp, rfl⟩
    obtain ⟨p', e1, e2⟩ := key i p h1
    obtain ⟨q', e3, e4⟩ := key j q h2
    exact hD.1 i j p' q' e1 e3 (by rw [e2, e4]; exact h3)
  · by_cases hkq : q0 = k
    · subst hkq
      rw [List.getElem?_set_self hlt] at hk
      cases hk
      have h9 := hD.2 q0 _ he
      exact h9
    · rw [List.getElem?_set_ne hkq] at hk
      exact hD.2 k q hk
theorem hp_RA {U : State} {c1 c2 : ClassId} {ty : FieldType} (h1 : va_RA U c1 ty) (h2 : va_RA U c2 ty) : c1 = c2 := by
  cases ty with
  | object C =>
    obtain ⟨_, _, _, _, _, h1⟩ := h1
    obtain ⟨_, _, _, _, _, h2⟩ := h2
    exact Option.some.inj (h1.symm.trans h2)
  | _ => exact Option.some.inj (Eq.trans (Eq.symm h1) h2)
theorem hp_cA {D : va_G} {cl : List vw_C} {tys : List (ClassId × FieldType)} {s : State} {t0 : Nat} {c0 cA : ClassId} {ty : FieldType} (hK : va_K D cl tys s) (ht : tys[t0]? = some (c0, ty)) (hK1 : va_K D cl (tys ++ [(cA, ty)]) s) : cA = c0 :=
  hp_RA (hK1.2 tys.length (cA, ty) (by simp)).2 (hK.2 t0 _ ht).2
section HPW
variable {p : Program} {l : Launch} {e : Env} {R : Room} {s : State} {m : MethodId} {args : Array Value} {below : List Frame} {meth : Method} {c : Code} {H : Heap} {locs : List Loc} {cells slots : Nat} {Q : State → Prop}
variable {cc : ByteArray} {pc nL : Nat} {ls : Array Slot} {rest : List Value} {D : va_G} {cl : List vw_C} {A : Nat → Prop} {a : Nat} {tys : List (ClassId × FieldType)} {M : hp_M} {H0 : Heap} {Ts : List Cond} {own : String}
theorem hp_get (S : CallFix p m c cc nL s args Ts own) (hK : va_K D cl tys s) (hM : hp_H D cl A M H) {C ref : String} {T : u_T} {N ci index : Nat} (hin : ∀ w ∈ u_ws C T N, w ∈ Ts) {fs : List Value} (hm : M a = some (.inr (ci, fs))) (hc : cl[ci]? = some (C, T, N)) (k : Nat) (hk : k < N) (hlink : Cond.fieldLink own index ref (T k).2.1 (T k).2.2.1 ∈ Ts) (hsame : ∀ x, s.fieldFound? (T k).1 (T k).2.1 (T k).2.2.1 = some x → s.fieldFound? ref (T k).2.1 (T k).2.2.1 = some x) {v : Value} (hv : fs[k]? = some v) (hdg : decode cc pc = .ok (.getfield index, 3))
    (kk : W p l e R s m args below meth c H locs cells slots Q (F0 m (pc + 3) ls (v :: rest))) : W p l e R s m args below meth c H locs cells slots Q (F0 m pc ls (.ref a :: rest)) := by
  obtain ⟨ws, hP, hD, hi⟩ := hM
  obtain ⟨q0, he⟩ := List.getElem?_of_mem ((hi a _).mp hm)
  exact va_get S.1 S.2.1 S.2.2.2.2 hin S.2.2.2.1 hK hP q0 he hc k hk (S.2.2.2.2 _ hlink) hsame hv hdg kk
theorem hp_getN (S : CallFix p m c cc nL s args Ts own) (hK : va_K D cl tys s) (hM : hp_H D cl A M H) {C ref host : String} {T : u_T} {N ci index : Nat} (hin : ∀ w ∈ u_ws C T N, w ∈ Ts) {fs : List Value} (hm : M a = some (.inr (ci, fs))) (hc : cl[ci]? = some (C, T, N)) (k : Nat) (hk : k < N) (hlink : Cond.fieldLinkNest own index ref (T k).2.1 (T k).2.2.1 host ∈ Ts) (hsame : ∀ x, s.fieldFound? (T k).1 (T k).2.1 (T k).2.2.1 = some x → s.fieldFound? ref (T k).2.1 (T k).2.2.1 = some x) {v : Value} (hv : fs[k]? = some v) (hdg : decode cc pc = .ok (.getfield index, 3))
    (kk : W p l e R s m args below meth c H locs cells slots Q (F0 m (pc + 3) ls (v :: rest))) : W p l e R s m args below meth c H locs cells slots Q (F0 m pc ls (.ref a :: rest)) := by
  obtain ⟨ws, hP, hD, hi⟩ := hM
  obtain ⟨q0, he⟩ := List.getElem?_of_mem ((hi a _).mp hm)
  exact va_getN S.1 S.2.1 S.2.2.2.2 hin S.2.2.2.1 hK hP q0 he hc k hk (S.2.2.2.2 _ hlink) hsame hv hdg kk
theorem hp_put (S : CallFix p m c cc nL s args Ts own) (hK : va_K D cl tys s) (hM : hp_H D cl A M H) (hS : va_S A H0 H locs) {C ref : String} {T : u_T} {N ci index : Nat} (hin : ∀ w ∈ u_ws C T N, w ∈ Ts) (ty0 : Nat → FieldType) (hty : ∀ k, k < N → parseFieldDescriptor (T k).2.2.1 = some (ty0 k)) (hnm : ∀ a, a < N → ∀ b, b < N → a ≠ b → (T a).2.1 ≠ (T b).2.1) {fs : List Value} (hm : M a = some (.inr (ci, fs))) (hc : cl[ci]? = some (C, T, N)) (k : Nat) (hk : k < N) (hlink : Cond.fieldLink own index ref (T k).2.1 (T k).2.2.1 ∈ Ts) (hsame : ∀ x, s.fieldFound? (T k).1 (T k).2.1 (T k).2.2.1 = some x → s.fieldFound? ref (T k).2.1 (T k).2.2.1 = some x) (hfin : (T k).2.2.2 = false) {ty : FieldType} {v : Value} (hd : parseFieldDescriptor (T k).2.2.1 = some ty) (hn : narrow ty v = v) (hfit : fits ty v = true) (hl : k < fs.length) {fs' : List Value} (hfs : fs.set k v = fs') (hdg : decode cc pc = .ok (.putfield index, 3))
    (kk : ∀ (H1 : Heap) (locs1 : List Loc), hp_H D cl A (hp_up M a (.inr (ci, fs'))) H1 → va_S A H0 H1 locs1 → W p l e R s m args below meth c H1 locs1 cells slots Q (F0 m (pc + 3) ls rest)) : W p l e R s m args below meth c H locs cells slots Q (F0 m pc ls (v :: .ref a :: rest)) := by
  subst hfs
  obtain ⟨ws, hP, hD, hi⟩ := hM
  obtain ⟨q0, he⟩ := List.getElem?_of_mem ((hi a _).mp hm)
  exact va_put S.1 S.2.1 S.2.2.2.2 hin ty0 hty hnm S.2.2.2.1 hK hP hD hS q0 he hc k hk (S.2.2.2.2 _ hlink) hsame hfin hd hn hfit hl hdg (fun H1 locs1 hP1 hD1 hS1 => kk H1 locs1 ⟨_, hP1, hD1, hp_set_i hD hi he⟩ hS1)
theorem hp_putF (S : CallFix p m c cc nL s args Ts own) (hK : va_K D cl tys s) (hM : hp_H D cl A M H) (hS : va_S A H0 H locs) {C ref : String} {T : u_T} {N ci index : Nat} (hin : ∀ w ∈ u_ws C T N, w ∈ Ts) (ty0 : Nat → FieldType) (hty : ∀ k, k < N → parseFieldDescriptor (T k).2.2.1 = some (ty0 k)) (hnm : ∀ a, a < N → ∀ b, b < N → a ≠ b → (T a).2.1 ≠ (T b).2.1) {fs : List Value} (hm : M a = some (.inr (ci, fs))) (hc : cl[ci]? = some (C, T, N)) (k : Nat) (hk : k < N) (hlink : Cond.fieldLink own index ref (T k).2.1 (T k).2.2.1 ∈ Ts) (hsame : ∀ x, s.fieldFound? (T k).1 (T k).2.1 (T k).2.2.1 = some x → s.fieldFound? ref (T k).2.1 (T k).2.2.1 = some x) (hfin : (T k).2.2.2 = true) (hin2 : meth.name = "<init>") (hdecl : (T k).1 = own) {ty : FieldType} {v : Value} (hd : parseFieldDescriptor (T k).2.2.1 = some ty) (hn : narrow ty v = v) (hfit : fits ty v = true) (hl : k < fs.length) {fs' : List Value} (hfs : fs.set k v = fs') (hdg : decode cc pc = .ok (.putfield index, 3))
    (kk : ∀ (H1 : Heap) (locs1 : List Loc), hp_H D cl A (hp_up M a (.inr (ci, fs'))) H1 → va_S A H0 H1 locs1 → W p l e R s m args below meth c H1 locs1 cells slots Q (F0 m (pc + 3) ls rest)) : W p l e R s m args below meth c H locs cells slots Q (F0 m pc ls (v :: .ref a :: rest)) := by
  subst hfs
  obtain ⟨ws, hP, hD, hi⟩ := hM
  obtain ⟨q0, he⟩ := List.getElem?_of_mem ((hi a _).mp hm)
  exact va_putF S.1 S.2.1 S.2.2.2.2 hin ty0 hty hnm S.2.2.2.1 hK hP hD hS q0 he hc k hk (S.2.2.2.2 _ hlink) hsame hfin hin2 hdecl hd hn hfit hl hdg (fun H1 locs1 hP1 hD1 hS1 => kk H1 locs1 ⟨_, hP1, hD1, hp_set_i hD hi he⟩ hS1)
theorem hp_iald (S : CallFix p m c cc nL s args Ts own) (hK : va_K D cl tys s) (hM : hp_H D cl A M H) (t0 : Nat) {cA : ClassId} {n : Nat} {f : Nat → Int32} (hm : M a = some (.inl (cA, n, .inl f))) (ht : tys[t0]? = some (cA, .int)) {i : Int32} (j : Nat) (hj : i = nI j) (hjn : j < n) (hn : n < 2 ^ 31) (hdg : decode cc pc = .ok (.iaload, 1))
    (kk : W p l e R s m args below meth c H locs cells slots Q (F0 m (pc + 1) ls (.int (f j) :: rest))) : W p l e R s m args below meth c H locs cells slots Q (F0 m pc ls (.int i :: .ref a :: rest)) := by
  obtain ⟨ws, hP, hD, hi⟩ := hM
  obtain ⟨q0, he⟩ := List.getElem?_of_mem ((hi a _).mp hm)
  subst hj
  refine va_iald S.1 S.2.1 hK hP q0 t0 he ht (vp_in_nI hjn hn) hdg ?_
  rw [nI_clamp (by omega)]
  exact kk
theorem hp_cald (S : CallFix p m c cc nL s args Ts own) (hK : va_K D cl tys s) (hM : hp_H D cl A M H) (t0 : Nat) {cA : ClassId} {n : Nat} {f : Nat → Int32} (hm : M a = some (.inl (cA, n, .inl f))) (ht : tys[t0]? = some (cA, .char)) {i : Int32} (j : Nat) (hj : i = nI j) (hjn : j < n) (hn : n < 2 ^ 31) (hdg : decode cc pc = .ok (.caload, 1))
    (kk : W p l e R s m args below meth c H locs cells slots Q (F0 m (pc + 1) ls (.int (f j) :: rest))) : W p l e R s m args below meth c H locs cells slots Q (F0 m pc ls (.int i :: .ref a :: rest)) := by
  obtain ⟨ws, hP, hD, hi⟩ := hM
  obtain ⟨q0, he⟩ := List.getElem?_of_mem ((hi a _).mp hm)
  subst hj
  refine va_cald S.1 S.2.1 hK hP q0 t0 he ht (vp_in_nI hjn hn) hdg ?_
  rw [nI_clamp (by omega)]
  exact kk
theorem hp_iast (S : CallFix p m c cc nL s args Ts own) (hK : va_K D cl tys s) (hM : hp_H D cl A M H) (hS : va_S A H0 H locs) (t0 : Nat) {cA : ClassId} {n : Nat} {f : Nat → Int32} (hm : M a = some (.inl (cA, n, .inl f))) (ht : tys[t0]? = some (cA, .int)) {i x : Int32} (j : Nat) (hj : i = nI j) (hjn : j < n) (hn : n < 2 ^ 31) (hdg : decode cc pc = .ok (.iastore, 1))
    (kk : ∀ (H1 : Heap) (locs1 : List Loc), hp_H D cl A (hp_up M a (.inl (cA, n, .inl (upd f j x)))) H1 → va_S A H0 H1 locs1 → W p l e R s m args below meth c H1 locs1 cells slots Q (F0 m (pc + 1) ls rest)) : W p l e R s m args below meth c H locs cells slots Q (F0 m pc ls (.int x :: .int i :: .ref a :: rest)) := by
  obtain ⟨ws, hP, hD, hi⟩ := hM
  obtain ⟨q0, he⟩ := List.getElem?_of_mem ((hi a _).mp hm)
  subst hj
  refine va_iast S.1 S.2.1 hK hP hD hS q0 t0 he ht (vp_in_nI hjn hn) hdg (fun H1 locs1 hP1 hD1 hS1 => ?_)
  rw [nI_clamp (by omega)] at hP1 hD1
  exact kk H1 locs1 ⟨_, hP1, hD1, hp_set_i hD hi he⟩ hS1
theorem hp_cast (S : CallFix p m c cc nL s args Ts own) (hK : va_K D cl tys s) (hM : hp_H D cl A M H) (hS : va_S A H0 H locs) (t0 : Nat) {cA : ClassId} {n : Nat} {f : Nat → Int32} (hm : M a = some (.inl (cA, n, .inl f))) (ht : tys[t0]? = some (cA, .char)) {i x : Int32} (j : Nat) (hj : i = nI j) (hjn : j < n) (hn : n < 2 ^ 31) {x' : Int32} (hx : vp_nar .char x = x') (hdg : decode cc pc = .ok (.castore, 1))
    (kk : ∀ (H1 : Heap) (locs1 : List Loc), hp_H D cl A (hp_up M a (.inl (cA, n, .inl (upd f j x')))) H1 → va_S A H0 H1 locs1 → W p l e R s m args below meth c H1 locs1 cells slots Q (F0 m (pc + 1) ls rest)) : W p l e R s m args below meth c H locs cells slots Q (F0 m pc ls (.int x :: .int i :: .ref a :: rest)) := by
  obtain ⟨ws, hP, hD, hi⟩ := hM
  obtain ⟨q0, he⟩ := List.getElem?_of_mem ((hi a _).mp hm)
  subst hj
  subst hx
  refine va_cast S.1 S.2.1 hK hP hD hS q0 t0 he ht (vp_in_nI hjn hn) hdg (fun H1 locs1 hP1 hD1 hS1 => ?_)
  rw [nI_clamp (by omega)] at hP1 hD1
  exact kk H1 locs1 ⟨_, hP1, hD1, hp_set_i hD hi he⟩ hS1
theorem hp_alen (S : CallFix p m c cc nL s args Ts own) (hK : va_K D cl tys s) (hM : hp_H D cl A M H) (t0 : Nat) {cA : ClassId} {x : vp_A} (hm : M a = some (.inl (cA, x))) {ty : FieldType} (ht : tys[t0]? = some (cA, ty)) (hdg : decode cc pc = .ok (.arraylength, 1))
    (kk : W p l e R s m args below meth c H locs cells slots Q (F0 m (pc + 1) ls (.int (nI x.1) :: rest))) : W p l e R s m args below meth c H locs cells slots Q (F0 m pc ls (.ref a :: rest)) := by
  obtain ⟨ws, hP, hD, hi⟩ := hM
  obtain ⟨q0, he⟩ := List.getElem?_of_mem ((hi a _).mp hm)
  exact va_alen S.1 S.2.1 hK hP q0 t0 he ht rfl hdg kk
theorem hp_aald (S : CallFix p m c cc nL s args Ts own) (hK : va_K D cl tys s) (hM : hp_H D cl A M H) (t0 : Nat) {cA : ClassId} {C : String} {n : Nat} {f : Nat → Option Nat} (hm : M a = some (.inl (cA, n, .inr (.inr (.inr (.inr f)))))) (ht : tys[t0]? = some (cA, .object C)) {i : Int32} (j : Nat) (hj : i = nI j) (hjn : j < n) (hn : n < 2 ^ 31) {v : Value} (hv : va_rf (f j) = v) (hdg : decode cc pc = .ok (.aaload, 1))
    (kk : W p l e R s m args below meth c H locs cells slots Q (F0 m (pc + 1) ls (v :: rest))) : W p l e R s m args below meth c H locs cells slots Q (F0 m pc ls (.int i :: .ref a :: rest)) := by
  obtain ⟨ws, hP, hD, hi⟩ := hM
  obtain ⟨q0, he⟩ := List.getElem?_of_mem ((hi a _).mp hm)
  subst hj
  subst hv
  refine va_aldq S.1 S.2.1 hK hP q0 t0 he ht (vp_in_nI hjn hn) hdg ?_
  rw [nI_clamp (by omega)]
  exact kk
theorem hp_aast (S : CallFix p m c cc nL s args Ts own) (hK : va_K D cl tys s) (hM : hp_H D cl A M H) (hS : va_S A H0 H locs) (t0 ci : Nat) {cA : ClassId} {r : vw_C} {n v : Nat} {vs : List Value} {f : Nat → Option Nat} (hm : M a = some (.inl (cA, n, .inr (.inr (.inr (.inr f)))))) (ht : tys[t0]? = some (cA, .object r.1)) (hv : M v = some (.inr (ci, vs))) (hc : cl[ci]? = some r) {i : Int32} (j : Nat) (hj : i = nI j) (hjn : j < n) (hn : n < 2 ^ 31) (hdg : decode cc pc = .ok (.aastore, 1))
    (kk : ∀ (H1 : Heap) (locs1 : List Loc), hp_H D cl A (hp_up M a (.inl (cA, n, .inr (.inr (.inr (.inr (va_up f j (some v)))))))) H1 → va_S A H0 H1 locs1 → W p l e R s m args below meth c H1 locs1 cells slots Q (F0 m (pc + 1) ls rest)) : W p l e R s m args below meth c H locs cells slots Q (F0 m pc ls (.ref v :: .int i :: .ref a :: rest)) := by
  obtain ⟨ws, hP, hD, hi⟩ := hM
  obtain ⟨q0, he⟩ := List.getElem?_of_mem ((hi a _).mp hm)
  obtain ⟨qk, hk⟩ := List.getElem?_of_mem ((hi v _).mp hv)
  subst hj
  refine va_astq S.1 S.2.1 hK hP hD hS q0 t0 qk ci he ht hk hc (vp_in_nI hjn hn) hdg (fun H1 locs1 hP1 hD1 hS1 => ?_)
  rw [nI_clamp (by omega)] at hP1 hD1
  exact kk H1 locs1 ⟨_, hP1, hD1, hp_set_i hD hi he⟩ hS1
/-- a new array of ints or chars, all 0 -/
theorem hp_newi (S : CallFix p m c cc nL s args Ts own) (hK : va_K D cl tys s) (hM : hp_H D cl A M H) (hS : va_S A H0 H locs) (hA : ∀ q, H0.size ≤ q → A q) {atype : ArrayType} {ty : FieldType} (hat : newarray.typeOf atype = ty) (harr : Cond.arrayClass (newarray.typeOf atype) ∈ Ts) (t0 : Nat) {c0 : ClassId} (ht : tys[t0]? = some (c0, ty)) (hdef : defaultValue ty = .int 0) (hbyte : componentBytes ty ≤ 4) {n : Int32} (k : Nat) (hk : n = nI k) (hkn : k < 2 ^ 20) (hcells : cells + 1 ≤ R.cells) (hslots : slots + k ≤ R.slots) (hdg : decode cc pc = .ok (.newarray atype, 2))
    (kk : ∀ (q : Nat) (H1 : Heap), M q = none → hp_H D cl A (hp_up M q (.inl (c0, k, .inl (fun _ => 0)))) H1 → va_S A H0 H1 locs → W p l e R s m args below meth c H1 locs (cells + 1) (slots + k) Q (F0 m (pc + 2) ls (.ref q :: rest))) : W p l e R s m args below meth c H locs cells slots Q (F0 m pc ls (.int n :: rest)) := by
  obtain ⟨ws, hP, hD, hi⟩ := hM
  subst hk
  refine va_newa (a0 := (k, .inl (fun _ => 0))) (N' := k) S.1 S.2.1 (S.2.2.2.2 _ harr) hat hK hP hD hS hA (fun cA => by rw [vp_cell_i, hdef]) (nI_pos (by omega)) (nI_clamp (by omega)) (Nat.le_trans (Nat.mul_le_mul (Nat.le_of_lt hkn) hbyte) (by decide)) hcells hslots hdg (fun q cA H1 hK1 hP1 hD1 hS1 => ?_)
  have hcA := hp_cA hK ht hK1
  subst hcA
  have h9 := hp_push_i hD1 hi
  exact kk q H1 h9.1 ⟨_, hP1, hD1, h9.2⟩ hS1
/-- a new array of references, all null -/
theorem hp_newq (S : CallFix p m c cc nL s args Ts own) (hK : va_K D cl tys s) (hM : hp_H D cl A M H) (hS : va_S A H0 H locs) (hA : ∀ q, H0.size ≤ q → A q) {C : String} {index : Nat} (hclink : Cond.classLink own index C ∈ Ts) (hover : va_AO C s) (t0 : Nat) {c0 : ClassId} (ht : tys[t0]? = some (c0, .object C)) {n : Int32} (k : Nat) (hk : n = nI k) (hkn : k < 2 ^ 20) (hcells : cells + 1 ≤ R.cells) (hslots : slots + k ≤ R.slots) (hdg : decode cc pc = .ok (.anewarray index, 3))
    (kk : ∀ (q : Nat) (H1 : Heap), M q = none → hp_H D cl A (hp_up M q (.inl (c0, k, .inr (.inr (.inr (.inr (fun _ => none))))))) H1 → va_S A H0 H1 locs → W p l e R s m args below meth c H1 locs (cells + 1) (slots + k) Q (F0 m (pc + 3) ls (.ref q :: rest))) : W p l e R s m args below meth c H locs cells slots Q (F0 m pc ls (.int n :: rest)) := by
  obtain ⟨ws, hP, hD, hi⟩ := hM
  subst hk
  refine va_newq (N' := k) S.1 S.2.1 S.2.2.2.1 (S.2.2.2.2 _ hclink) hover hK hP hD hS hA (nI_pos (by omega)) (nI_clamp (by omega)) (by omega) hcells hslots hdg (fun q cA H1 hK1 hP1 hD1 hS1 => ?_)
  have hcA := hp_cA hK ht hK1
  subst hcA
  have h9 := hp_push_i hD1 hi
  exact kk q H1 h9.1 ⟨_, hP1, hD1, h9.2⟩ hS1
theorem hp_new (S : CallFix p m c cc nL s args Ts own) (hK : va_K D cl tys s) (hM : hp_H D cl A M H) (hS : va_S A H0 H locs) (hA : ∀ q, H0.size ≤ q → A q) {C : String} {T : u_T} {N ci index : Nat} (hin : ∀ w ∈ u_ws C T N, w ∈ Ts) (ty : Nat → FieldType) (hty : ∀ k, k < N → parseFieldDescriptor (T k).2.2.1 = some (ty k)) (hcl : Cond.classLink own index C ∈ Ts) (hinst : Cond.instantiable C N ∈ Ts) (hini : Cond.initialized C ∈ Ts) (hc : cl[ci]? = some (C, T, N)) {fs : List Value} (hfs : ∀ j, j < N → defaultValue (ty j) = vp_V fs j) (hcells : cells + 1 ≤ R.cells) (hslots : slots + N ≤ R.slots) (hdg : decode cc pc = .ok (.new index, 3))
    (kk : ∀ (q : Nat) (H1 : Heap), M q = none → hp_H D cl A (hp_up M q (.inr (ci, fs))) H1 → va_S A H0 H1 locs → W p l e R s m args below meth c H1 locs (cells + 1) (slots + N) Q (F0 m (pc + 3) ls (.ref q :: rest))) : W p l e R s m args below meth c H locs cells slots Q (F0 m pc ls rest) := by
  obtain ⟨ws, hP, hD, hi⟩ := hM
  refine va_new S.1 S.2.1 S.2.2.2.2 hin ty hty S.2.2.2.1 (S.2.2.2.2 _ hcl) (S.2.2.2.2 _ hinst) (S.2.2.2.2 _ hini) hK hP hD hS hA hc hfs hcells hslots hdg (fun q H1 hP1 hD1 hS1 => ?_)
  have h9 := hp_push_i hD1 hi
  exact kk q H1 h9.1 ⟨_, hP1, hD1, h9.2⟩ hS1
end HPW
/-! CONTRACTS over a heaplet: one shape for all methods -/
/-- what the statics hold, and nobody writes: moves with the state, the heap, the free addresses -/
def hp_Zok (Z : (Nat → Prop) → State → Heap → Prop) : Prop := (∀ (A : Nat → Prop) (u U : State) (H : Heap), u.WarmedH U.vm → Z A u H → Z A U H) ∧ (∀ (A : Nat → Prop) (U : State) (H H1 : Heap), (∀ a : Nat, a < H.size → ¬ A a → H1[a]? = H[a]?) → Z A U H → Z A U H1) ∧ ∀ (A B : Nat → Prop) (U : State) (H : Heap), (∀ q, B q → A q) → Z A U H → Z B U H
def hp_Pc (avs : List Value) (D : va_G) (cl : List vw_C) (tys : List (ClassId × FieldType)) (Z : (Nat → Prop) → State → Heap → Prop) (M : hp_M) (sz : Nat) : Array Value → State → Prop := va_Pc avs (fun U => U.heap.size = sz ∧ hp_H D cl (hp_A M sz) M U.heap ∧ va_K D cl tys U ∧ Z (hp_A M sz) U U.heap)
def hp_B (D : va_G) (cl : List vw_C) (M : hp_M) (sz : Nat) (M1 : hp_M) (t : State) : Prop := hp_H D cl (hp_A M sz) M1 t.heap
theorem hp_blind {avs : List Value} {D : va_G} {cl : List vw_C} {tys : List (ClassId × FieldType)} {Z : (Nat → Prop) → State → Heap → Prop} {M : hp_M} {sz : Nat} (hZ : hp_Zok Z) : FrameBlind (hp_Pc avs D cl tys Z M sz) := fun a U g mk q => by
  obtain ⟨q0, q1, qM, qK, qZ⟩ := q
  exact ⟨q0, q1, qM, va_K.moved (u := U) (U := U.calling g mk a) (Vm.Alike.refl U.vm) qK, hZ.1 _ U (U.calling g mk a) _ (State.WarmedH.refl U) qZ⟩
section HPC
variable {p : Program} {l : Launch} {e : Env} {R : Room} {s : State} {m : MethodId} {args : Array Value} {below : List Frame} {meth : Method} {c : Code} {H : Heap} {locs : List Loc} {cells slots : Nat} {Q : State → Prop}
variable {cc : ByteArray} {pc nL mc ms : Nat} {ls : Array Slot} {rest st0 : List Value} {D : va_G} {cl : List vw_C} {A : Nat → Prop} {a : Array Value} {tys : List (ClassId × FieldType)} {M : hp_M} {Ts : List Cond} {own : String} {Z : (Nat → Prop) → State → Heap → Prop} {avs : List Value}
theorem hp_pre (hZ : hp_Zok Z) (hK : va_K D cl tys s) (hM : hp_H D cl A M H) (hS : va_S A s.heap H locs) (hA : ∀ q, s.heap.size ≤ q → A q) (hz : Z A s s.heap) : ∀ U : State, U.heap = H → s.WarmedH U.vm → hp_Pc avs D cl tys Z M H.size avs.toArray U := fun U hU hW =>
  ⟨rfl, by rw [hU], by rw [hU]; exact hM.self _, va_K.moved hW.alike hK, by rw [hU]; exact hZ.1 _ s U _ hW (hZ.2.2 A _ s H (fun q h => hp_sub hM hS hA h) (hZ.2.1 A s s.heap H (fun q h1 h2 => hS.2.1 q h1 h2) hz))⟩
theorem hp_preS (hZ : hp_Zok Z) (hK : va_K D cl tys s) (hM : hp_H D cl A M H) (hS : va_S A s.heap H locs) (hA : ∀ q, s.heap.size ≤ q → A q) (hz : Z A s s.heap) : PreS s H (hp_Pc avs D cl tys Z M H.size) avs :=
  ⟨hp_blind hZ, hp_pre hZ hK hM hS hA hz⟩
theorem hp_preV {b : Nat} {ci : Nat} {fs : List Value} {r : vw_C} (hZ : hp_Zok Z) (hK : va_K D cl tys s) (hM : hp_H D cl A M H) (hS : va_S A s.heap H locs) (hA : ∀ q, s.heap.size ≤ q → A q) (hz : Z A s s.heap) (hm : M b = some (.inr (ci, fs))) (hc : cl[ci]? = some r) : PreV s H r.1 b (hp_Pc (.ref b :: avs) D cl tys Z M H.size) avs := by
  refine ⟨hp_blind hZ, ?_, hp_pre (avs := .ref b :: avs) hZ hK hM hS hA hz⟩
  obtain ⟨ws, hP, hD, hi⟩ := hM
  obtain ⟨q0, he⟩ := List.getElem?_of_mem ((hi b _).mp hm)
  exact va_recv hK hP hc he
theorem hp_calli {post : Int32 → hp_M → Prop} (hr : va_Run p l e R s m args below meth c H locs cells slots mc ms (F0 m pc ls st0) rest (va_Qi post (hp_B D cl M H.size) (hp_A M H.size) a) (hp_A M H.size)) (hM : hp_H D cl A M H) (hS : va_S A s.heap H locs) (hA : ∀ q, s.heap.size ≤ q → A q)
    (kk : ∀ (r : Int32) (M1 : hp_M) (H1 : Heap) (locs1 : List Loc), post r M1 → hp_H D cl A M1 H1 → va_S A s.heap H1 locs1 → W p l e R s m args below meth c H1 locs1 (cells + mc) (slots + ms) Q (F0 m (pc + 3) ls (.int r :: rest))) : W p l e R s m args below meth c H locs cells slots Q (F0 m pc ls st0) :=
  va_calli hr hS (fun _ _ h => hp_sub hM hS hA h) (fun _ h => hp_sub hM hS hA h) (fun r u t H1 locs1 ht _ hw hB _ _ hS1 => kk r u H1 locs1 hw (by rw [← ht]; exact hp_H.wide hB (fun _ h => hp_sub hM hS hA h)) hS1)
theorem hp_callv {post : hp_M → Prop} (hr : va_Run p l e R s m args below meth c H locs cells slots mc ms (F0 m pc ls st0) rest (va_Qv post (hp_B D cl M H.size) (hp_A M H.size) a) (hp_A M H.size)) (hM : hp_H D cl A M H) (hS : va_S A s.heap H locs) (hA : ∀ q, s.heap.size ≤ q → A q)
    (kk : ∀ (M1 : hp_M) (H1 : Heap) (locs1 : List Loc), post M1 → hp_H D cl A M1 H1 → va_S A s.heap H1 locs1 → W p l e R s m args below meth c H1 locs1 (cells + mc) (slots + ms) Q (F0 m (pc + 3) ls rest)) : W p l e R s m args below meth c H locs cells slots Q (F0 m pc ls st0) :=
  va_callv hr hS (fun _ _ h => hp_sub hM hS hA h) (fun _ h => hp_sub hM hS hA h) (fun u t H1 locs1 ht _ hw hB _ _ hS1 => kk u H1 locs1 hw (by rw [← ht]; exact hp_H.wide hB (fun _ h => hp_sub hM hS hA h)) hS1)
/-- an answer that is null or an address -/
theorem hp_callq {post : Option Nat → hp_M → Prop} (hr : va_Run p l e R s m args below meth c H locs cells slots mc ms (F0 m pc ls st0) rest (va_Qq post (hp_B D cl M H.size) (hp_A M H.size) a) (hp_A M H.size)) (hM : hp_H D cl A M H) (hS : va_S A s.heap H locs) (hA : ∀ q, s.heap.size ≤ q → A q)
    (kk : ∀ (r : Option Nat) (M1 : hp_M) (H1 : Heap) (locs1 : List Loc), post r M1 → hp_H D cl A M1 H1 → va_S A s.heap H1 locs1 → W p l e R s m args below meth c H1 locs1 (cells + mc) (slots + ms) Q (F0 m (pc + 3) ls (va_rf r :: rest))) : W p l e R s m args below meth c H locs cells slots Q (F0 m pc ls st0) := by
  intro T hT X
  obtain ⟨v, st₀, t, T', L, h0, X', hL, e1, e2, ⟨⟨r, u, hv, hp, hb⟩, hz, hk⟩, st⟩ := hr T hT X
  cases hv
  rw [h0] at hz hk
  have hsub : ∀ q, hp_A M H.size q → A q := fun _ h => hp_sub hM hS hA h
  obtain ⟨t2, a1, b1⟩ := kk r u T'.heap (locs ++ L) hp (by rw [e1]; exact hp_H.wide hb hsub)
    ⟨Nat.le_trans hS.1 (by rw [e1]; exact hz), fun q h1 h2 => by rw [e1, hk q (Nat.lt_of_lt_of_le h1 hS.1) (fun z => h2 (hsub q z))]; exact hS.2.1 q h1 h2, fun q hq => by
      rcases List.mem_append.mp hq with h | h
      · exact hS.2.2 q h
      · exact hsub _ (hL q h)⟩ T' rfl X'
  exact ⟨t2, st t2 a1, b1⟩
theorem hp_iret {M0 : hp_M} {sz : Nat} {post : Int32 → hp_M → Prop} {v : Int32} {ty : FieldType} (S : CallFix p m c cc nL s args Ts own) (hr : meth.sig.returnType = some ty) (hlocks : meth.locks = false) (hn : narrow ty (.int v) = .int v) (hM : hp_H D cl (hp_A M0 sz) M H) (hS : va_S (hp_A M0 sz) s.heap H locs) (hp : post v M) (hdg : decode cc pc = .ok (.ireturn, 1)) : W p l e R s m args below meth c H locs cells slots (MQ below (va_Qi post (hp_B D cl M0 sz) (hp_A M0 sz)) args s cells slots (hp_A M0 sz)) (F0 m pc ls [.int v]) :=
  W.zret S.1 S.2.1 hr hn (fun t ht hW => ⟨⟨v, M, rfl, hp, by unfold hp_B; rw [ht]; exact hM⟩, hS.F ht⟩) hS.2.2 hdg hlocks
theorem hp_vret {M0 : hp_M} {sz : Nat} {post : hp_M → Prop} (S : CallFix p m c cc nL s args Ts own) (hr : meth.sig.returnType = none) (hlocks : meth.locks = false) (hM : hp_H D cl (hp_A M0 sz) M H) (hS : va_S (hp_A M0 sz) s.heap H locs) (hp : post M) (hdg : decode cc pc = .ok (.return_, 1)) : W p l e R s m args below meth c H locs cells slots (MQ below (va_Qv post (hp_B D cl M0 sz) (hp_A M0 sz)) args s cells slots (hp_A M0 sz)) (F0 m pc ls []) :=
  W.vret S.1 S.2.1 hr (fun t ht hW => ⟨⟨M, rfl, hp, by unfold hp_B; rw [ht]; exact hM⟩, hS.F ht⟩) hS.2.2 hdg hlocks
theorem hp_aret {M0 : hp_M} {sz : Nat} {post : Option Nat → hp_M → Prop} {v : Value} (r : Option Nat) (hv : v = va_rf r) {ty : FieldType} (S : CallFix p m c cc nL s args Ts own) (hr : meth.sig.returnType = some ty) (hrt : (∃ n, ty = .object n) ∨ ∃ t, ty = .array t) (hlocks : meth.locks = false) (hM : hp_H D cl (hp_A M0 sz) M H) (hS : va_S (hp_A M0 sz) s.heap H locs) (hp : post r M) (hdg : decode cc pc = .ok (.areturn, 1)) : W p l e R s m args below meth c H locs cells slots (MQ below (va_Qq post (hp_B D cl M0 sz) (hp_A M0 sz)) args s cells slots (hp_A M0 sz)) (F0 m pc ls [v]) := by
  subst hv
  exact W.aret S.1 S.2.1 hr hrt (by cases r with | none => exact Or.inl rfl | some a => exact Or.inr ⟨a, rfl⟩) (fun t ht hW => ⟨⟨r, M, rfl, hp, by unfold hp_B; rw [ht]; exact hM⟩, hS.F ht⟩) hS.2.2 hdg hlocks
end HPC
/-- THE HEAD OF ANY METHOD -/
theorem hp_enter {l : Launch} {y : MethodName} {ws ws' : List Cond} {rm : Room} {Qc : Array Value → State → Outcome → State → Prop} {mc ms sz : Nat} {free : Addr → Prop} {cc : ByteArray} {maxL : Nat} {ret : Option FieldType} {avs : List Value} {D : va_G} {cl : List vw_C} {tys : List (ClassId × FieldType)} {Z : (Nat → Prop) → State → Heap → Prop} {M : hp_M}
    (hy : plainName y.cls = true) (hw : ws = Cond.code y cc maxL ret :: ws') (hlen : (lg_sl avs).length ≤ maxL)
    (body : ∀ (p : Program) (e : Env) (s : State) (m : MethodId) (below : List Frame) (meth : Method) (c : Code) (ls : Array Slot), CallFix p m c cc maxL s avs.toArray ws y.cls → meth.sig.returnType = ret → meth.locks = false → meth.name = y.name → s.heap.size = sz → va_K D cl tys s → hp_H D cl (hp_A M sz) M s.heap → va_S (hp_A M sz) s.heap s.heap [] → (∀ q, s.heap.size ≤ q → hp_A M sz q) → Z (hp_A M sz) s s.heap → lv_has ls maxL (lv_args 0 avs) →
      W p l e rm s m avs.toArray below meth c s.heap [] 0 0 (MQ below Qc avs.toArray s mc ms free) (F0 m 0 ls [])) : Met l y ws rm (hp_Pc avs D cl tys Z M sz) Qc mc ms free := by
  refine Met.ofW (cc := cc) (maxL := maxL) (ret := ret) hy hw ?_
  intro p e s m args below meth c s₁ B hml hv
  obtain ⟨rfl, hsz, hM, hK, hZ⟩ := hv
  have hts := atoms_spec (ws := ws) B.pre
  have hown : s.vm.findClass y.cls = some m.cls := findClass_of_methodNamed B.named
  have hl := lv_entry avs (n := maxL) hlen
  rw [lg_entry_eq]
  exact body p e s m below meth c _ ⟨B.exec, B.bytes, hml, hown, hts⟩ B.returns B.notSynchronized (name_of_methodNamed B.named B.method).1 hsz hK hM va_S.rf (fun q h => Or.inr (by rw [← hsz]; exact h)) hZ hl
end
section
/-! PURE WORDS: texts are lists of numbers below 65536 -/
/-- an answer that is a truth value -/
def bo (r : Int32) (P : Prop) : Prop := (P ∧ r = nI 1) ∨ (¬ P ∧ r = nI 0)
theorem bo_t {P : Prop} (h : P) : bo (nI 1) P := Or.inl ⟨h, rfl⟩
theorem bo_f {P : Prop} (h : ¬ P) : bo (nI 0) P := Or.inr ⟨h, rfl⟩
theorem bo_nar {r : Int32} {P : Prop} (h : bo r P) : narrow .boolean (.int r) = .int r := by
  rcases h with ⟨-, rfl⟩ | ⟨-, rfl⟩ <;> rfl
theorem bo_0 {r : Int32} {P : Prop} (h : bo r P) : r = 0 ↔ ¬ P := by
  rcases h with ⟨h1, rfl⟩ | ⟨h1, rfl⟩
  · exact ⟨fun h => absurd h (nI_ne0 (by decide) (by decide)), fun h => absurd h1 h⟩
  · exact ⟨fun _ => h1, fun _ => rfl⟩
theorem bo_iff {r : Int32} {P Q : Prop} (h : bo r P) (e : P ↔ Q) : bo r Q := by
  rcases h with ⟨h1, rfl⟩ | ⟨h1, rfl⟩
  · exact bo_t (e.mp h1)
  · exact bo_f (fun q => h1 (e.mpr q))
theorem nar_nI {k : Nat} (h : k < 65536) : vp_nar .char (nI k) = nI k := by
  unfold vp_nar
  rw [(pk_charN h).1]
/-- the contents of an array that holds a list -/
def tx (l : List Nat) : Nat → Int32 := fun i => nI (l.getD i 0)
theorem nI_neq {a b : Nat} (ha : a < 2 ^ 31) (hb : b < 2 ^ 31) (h : a ≠ b) : ¬ nI a = nI b := fun q => h ((nI_eq ha hb).mp q)
/-- the order of PATHS and NAMES -/
def cmpK : List Nat → List Nat → Int
  | [], [] => 0
  | [], _ :: _ => -1
  | _ :: _, [] => 1
  | x :: xs, y :: ys => if x < y then -1 else if y < x then 1 else cmpK xs ys
theorem cmpK_diff : ∀ (xs ys : List Nat) (i : Nat), i < xs.length → i < ys.length → (∀ j, j < i → xs.getD j 0 = ys.getD j 0) → xs.getD i 0 ≠ ys.getD i 0 → cmpK xs ys = if xs.getD i 0 < ys.getD i 0 then -1 else 1
  | [], _, i, h, _, _, _ => absurd h (Nat.not_lt_zero i)
  | _ :: _, [], i, _, h, _, _ => absurd h (Nat.not_lt_zero i)
  | x :: xs, y :: ys, 0, _, _, _, hne => by
    have hne : x ≠ y := hne
    show (if x < y then (-1 : Int) else if y < x then 1 else cmpK xs ys) = if x < y then -1 else 1
    by_cases h : x < y
    · rw [if_pos h, if_pos h]
    · rw [if_neg h, if_neg h, if_pos (by omega)]
  | x :: xs, y :: ys, i + 1, h1, h2, heq, hne => by
    have h0 : x = y := heq 0 (by omega)
    subst h0
    have ih := cmpK_diff xs ys i (by simpa using h1) (by simpa using h2) (fun j hj => by simpa using heq (j + 1) (by omega)) (by simpa using hne)
    show (if x < x then (-1 : Int) else if x < x then 1 else cmpK xs ys) = _
    rw [if_neg (Nat.lt_irrefl x), if_neg (Nat.lt_irrefl x), ih]
    simp
theorem cmpK_pre : ∀ (xs ys : List Nat), (∀ j, j < xs.length → j < ys.length → xs.getD j 0 = ys.getD j 0) → cmpK xs ys = if xs.length = ys.length then 0 else if xs.length < ys.length then -1 else 1
  | [], [], _ => rfl
  | [], y :: ys, _ => by simp [cmpK]
  | x :: xs, [], _ => by simp [cmpK]
  | x :: xs, y :: ys, heq => by
    have h0 : x = y := heq 0 (by simp) (by simp)
    subst h0
    have ih := cmpK_pre xs ys (fun j h1 h2 => by simpa using heq (j + 1) (by simpa using h1) (by simpa using h2))
    show (if x < x then (-1 : Int) else if x < x then 1 else cmpK xs ys) = _
    rw [if_neg (Nat.lt_irrefl x), if_neg (Nat.lt_irrefl x), ih]
    simp
theorem cmpK_0 : ∀ (xs ys : List Nat), cmpK xs ys = 0 ↔ xs = ys
  | [], [] => by simp [cmpK]
  | [], y :: ys => by simp [cmpK]
  | x :: xs, [] => by simp [cmpK]
  | x :: xs, y :: ys => by
    show (if x < y then (-1 : Int) else if y < x then 1 else cmpK xs ys) = 0 ↔ _
    by_cases h : x < y
    · rw [if_pos h]
      constructor
      · intro q; omega
      · intro q
        rw [List.cons.injEq] at q
        omega
    · rw [if_neg h]
      by_cases h2 : y < x
      · rw [if_pos h2]
        constructor
        · intro q; omega
        · intro q
          rw [List.cons.injEq] at q
          omega
      · rw [if_neg h2, cmpK_0 xs ys, List.cons.injEq]
        constructor
        · intro q
          exact ⟨by omega, q⟩
        · intro q
          exact q.2
/-- letters, digits -/
def isLet (k : Nat) : Prop := (97 ≤ k ∧ k ≤ 122) ∨ (65 ≤ k ∧ k ≤ 90)
def isDig (k : Nat) : Prop := 48 ≤ k ∧ k ≤ 57
def isWrd (k : Nat) : Prop := isLet k ∨ isDig k ∨ k = 95
def isDot (k : Nat) : Prop := isWrd k ∨ k = 45 ∨ k = 46
/-- the first n characters of a text are a NAME -/
def isNam (l : List Nat) (n : Nat) : Prop := 1 ≤ n ∧ n ≤ 16 ∧ n ≤ l.length ∧ isLet (l.getD 0 0) ∧ ∀ i, 1 ≤ i → i < n → isWrd (l.getD i 0)
/-- where the first = stands, or the end -/
def isEqs (l : List Nat) (n : Nat) : Prop := n ≤ l.length ∧ (∀ i, i < n → l.getD i 0 ≠ 61) ∧ (n < l.length → l.getD n 0 = 61)
theorem isEqs_one {l : List Nat} {a b : Nat} (ha : isEqs l a) (hb : isEqs l b) : a = b := by
  rcases Nat.lt_trichotomy a b with h | h | h
  · exact absurd (ha.2.2 (Nat.lt_of_lt_of_le h hb.1)) (hb.2.1 a h)
  · exact h
  · exact absurd (hb.2.2 (Nat.lt_of_lt_of_le h ha.1)) (ha.2.1 b h)
/-- the characters from a to b are a PIECE -/
def isPce (l : List Nat) (a b : Nat) : Prop := (∀ i, a ≤ i → i < b → isDot (l.getD i 0)) ∧ ((∀ i, a ≤ i → i < b → l.getD i 0 = 46) → 2 < b - a)
/-- the characters from a to b are a stretch between slashes -/
def isBnd (l : List Nat) (a b : Nat) : Prop := a ≤ b ∧ b ≤ l.length ∧ (a = 0 ∨ l.getD (a - 1) 0 = 47) ∧ (b = l.length ∨ l.getD b 0 = 47) ∧ ∀ i, a ≤ i → i < b → l.getD i 0 ≠ 47
theorem isBnd_one {l : List Nat} {a c b : Nat} (h : isBnd l a b) (hc : c ≤ b) (h0 : c = 0 ∨ l.getD (c - 1) 0 = 47) (hn : ∀ i, c ≤ i → i < b → l.getD i 0 ≠ 47) : a = c := by
  obtain ⟨h1, -, h3, -, h5⟩ := h
  rcases Nat.lt_trichotomy a c with q | q | q
  · rcases h0 with z | z
    · omega
    · exact absurd z (h5 (c - 1) (by omega) (by omega))
  · exact q
  · rcases h3 with z | z
    · omega
    · exact absurd z (hn (a - 1) (by omega) (by omega))
/-- a PATH -/
def isPth (l : List Nat) : Prop := l.length ≤ 40 ∧ ∀ a b, isBnd l a b → isPce l a b
/-- a NAME, =, and what it is -/
def isNv (l : List Nat) : Prop := ∃ n, isEqs l n ∧ n < l.length ∧ isNam l n ∧ l.length - n - 1 ≤ 40
def kP (k : Int32) : Prop := k = nI 1 ∨ k = nI 3 ∨ k = nI 5
def kN (k : Int32) : Prop := k = nI 2 ∨ k = nI 4 ∨ k = nI 6
/-- a text is one of a KIND -/
def fitK (l : List Nat) (k : Int32) : Prop := k = nI 0 ∨ (kP k ∧ isPth l) ∨ (kN k ∧ isNv l)
/-- how many characters a text's PATH or NAME has -/
def isKl (l : List Nat) (k : Int32) (n : Nat) : Prop := (kP k ∧ n = l.length) ∨ (kN k ∧ isEqs l n) ∨ (¬ kP k ∧ ¬ kN k ∧ n = 0)
theorem sw_in (k : Int32) (n : Nat) (hn : n < 2 ^ 31) : (∃ j, j ≤ n ∧ k = nI j) ∨ (k.toInt < 0 ∨ (n : Int) < k.toInt) := by
  by_cases h : k < 0
  · right; left
    exact Int32.lt_iff_toInt_lt.mp h
  · obtain ⟨j, hj, rfl⟩ := nI_of h
    rcases Nat.lt_or_ge n j with q | q
    · right; right
      rw [nI_toInt hj]
      omega
    · exact Or.inl ⟨j, q, rfl⟩
end
section
/-! CONTRACTS OF THIS CLAIM: all methods have the words tb behind their own code -/

abbrev hp_Z : Type := (Nat → Prop) → State → Heap → Prop
/-- a contract: of an int (truth values, characters too), of nothing, of a reference or null -/
abbrev Mi (l : Launch) (y : MethodName) (b : ByteArray) (n : Nat) (ret : Option FieldType) (fr lo ce sl : Nat) (avs : List Value) (D : va_G) (ct : Nat → ClassId) (Z : hp_Z) (M : hp_M) (sz : Nat) (post : Int32 → hp_M → Prop) : Prop :=
  Met l y (Cond.code y b n ret :: tb) { frames := fr, cells := ce, slots := sl, locals := lo } (hp_Pc avs D ccl (tys ct) Z M sz) (va_Qi post (hp_B D ccl M sz) (hp_A M sz)) ce sl (hp_A M sz)
abbrev Mv (l : Launch) (y : MethodName) (b : ByteArray) (n : Nat) (ret : Option FieldType) (fr lo ce sl : Nat) (avs : List Value) (D : va_G) (ct : Nat → ClassId) (Z : hp_Z) (M : hp_M) (sz : Nat) (post : hp_M → Prop) : Prop :=
  Met l y (Cond.code y b n ret :: tb) { frames := fr, cells := ce, slots := sl, locals := lo } (hp_Pc avs D ccl (tys ct) Z M sz) (va_Qv post (hp_B D ccl M sz) (hp_A M sz)) ce sl (hp_A M sz)
abbrev Mq (l : Launch) (y : MethodName) (b : ByteArray) (n : Nat) (ret : Option FieldType) (fr lo ce sl : Nat) (avs : List Value) (D : va_G) (ct : Nat → ClassId) (Z : hp_Z) (M : hp_M) (sz : Nat) (post : Option Nat → hp_M → Prop) : Prop :=
  Met l y (Cond.code y b n ret :: tb) { frames := fr, cells := ce, slots := sl, locals := lo } (hp_Pc avs D ccl (tys ct) Z M sz) (va_Qq post (hp_B D ccl M sz) (hp_A M sz)) ce sl (hp_A M sz)
theorem hp_start {l : Launch} {y : MethodName} {rm : Room} {Qc : Array Value → State → Outcome → State → Prop} {mc ms sz : Nat} {free : Addr → Prop} {cc : ByteArray} {maxL : Nat} {ret : Option FieldType} {avs : List Value} {D : va_G} {ct : Nat → ClassId} {Z : hp_Z} {M : hp_M}
    (hy : plainName y.cls = true) (hlen : (lg_sl avs).length ≤ maxL)
    (body : ∀ (p : Program) (e : Env) (s : State) (m : MethodId) (below : List Frame) (meth : Method) (c : Code) (ls : Array Slot), CallFix p m c cc maxL s avs.toArray tb y.cls → meth.sig.returnType = ret → meth.locks = false → meth.name = y.name → s.heap.size = sz → va_K D ccl (tys ct) s → hp_H D ccl (hp_A M sz) M s.heap → va_S (hp_A M sz) s.heap s.heap [] → (∀ q, s.heap.size ≤ q → hp_A M sz q) → Z (hp_A M sz) s s.heap → lv_has ls maxL (lv_args 0 avs) →
      W p l e rm s m avs.toArray below meth c s.heap [] 0 0 (MQ below Qc avs.toArray s mc ms free) (F0 m 0 ls [])) : Met l y (Cond.code y cc maxL ret :: tb) rm (hp_Pc avs D ccl (tys ct) Z M sz) Qc mc ms free :=
  hp_enter hy rfl hlen (fun p e s m below meth c ls S => body p e s m below meth c ls ⟨S.1, S.2.1, S.2.2.1, S.2.2.2.1, fun w h => S.2.2.2.2 w (List.mem_cons_of_mem _ h)⟩)
section CALL
variable {p : Program} {l : Launch} {e : Env} {R : Room} {s : State} {m : MethodId} {args : Array Value} {below : List Frame} {meth : Method} {c : Code} {H : Heap} {locs : List Loc} {cells slots : Nat} {Q : State → Prop}
variable {cc : ByteArray} {pc nL : Nat} {ls : Array Slot} {rest st0 : List Value} {D : va_G} {A : Nat → Prop} {ct : Nat → ClassId} {M : hp_M} {own : String} {Z : hp_Z} {As : List Value}
variable {y : MethodName} {b : ByteArray} {n index fr lo ce sl k : Nat} {ret : Option FieldType}
theorem cw_G (hc : Cond.code y b n ret ∈ tb) : GoodIn tb (Cond.code y b n ret :: tb) := fun w hw => by
  rcases List.mem_cons.mp hw with h | h
  · rw [h]; exact gd_tb _ hc
  · exact gd_tb w h
theorem cw_B (S : CallFix p m c cc nL s args tb own) (hc : Cond.code y b n ret ∈ tb) (hi : Cond.initialized y.cls ∈ tb) (hl : Cond.methodLink own index y ∈ tb) (hd : y.cls ≠ "java/lang/invoke/MethodHandle" ∧ y.cls ≠ "java/lang/invoke/VarHandle" ∧ (parseMethodDescriptor y.desc).map (fun d => d.parameters.length) = some k) (hR : fr + 1 ≤ R.frames ∧ 8 + (n + 11) + lo ≤ R.locals) : CallB R s args own index y b n ret (Cond.code y b n ret :: tb) { frames := fr, cells := ce, slots := sl, locals := lo } ce sl k :=
  callB_of k S.2.2.2.2 (cw_G hc) rfl rfl rfl (S.2.2.2.2 _ hi) (S.2.2.2.2 _ hl) hd hR
/-- what a call needs that isn't the callee's: the words, the arguments on the stack, the room -/
theorem go_V (S : CallFix p m c cc nL s args tb own) (hZ : hp_Zok Z) (hK : va_K D ccl (tys ct) s) (hM : hp_H D ccl A M H) (hS : va_S A s.heap H locs) (hA : ∀ q, s.heap.size ≤ q → A q) (hz : Z A s s.heap) {Qc : Array Value → State → Outcome → State → Prop} {o ci : Nat} {fs : List Value} {r : vw_C}
    (hC : Met l y (Cond.code y b n ret :: tb) { frames := fr, cells := ce, slots := sl, locals := lo } (hp_Pc (.ref o :: As) D ccl (tys ct) Z M H.size) Qc ce sl (hp_A M H.size))
    (hc : Cond.code y b n ret ∈ tb) (hi : Cond.initialized y.cls ∈ tb) (hl : Cond.methodLink own index y ∈ tb) (hin : Cond.instanceMethod y ∈ tb) (hse : Cond.selects y.cls y y ∈ tb) (hd : y.cls ≠ "java/lang/invoke/MethodHandle" ∧ y.cls ≠ "java/lang/invoke/VarHandle" ∧ (parseMethodDescriptor y.desc).map (fun d => d.parameters.length) = some k) (hk : As.length = k) (hR : fr + 1 ≤ R.frames ∧ 8 + (n + 11) + lo ≤ R.locals)
    (hm : M o = some (.inr (ci, fs))) (hr : ccl[ci]? = some r) (hrc : r.1 = y.cls) (hsize : ls.size = nL) (hst : st0 = As.reverse ++ .ref o :: rest) (hW : (rest.map fun v => v.category).sum ≤ 8) (hdg : decode cc pc = .ok (.invokevirtual index, 3)) (hf : cells + ce ≤ R.cells ∧ slots + sl ≤ R.slots) :
    va_Run p l e R s m args below meth c H locs cells slots ce sl (F0 m pc ls st0) rest (Qc (Value.ref o :: As).toArray) (hp_A M H.size) :=
  va_runV (C := y.cls) (As := As) (b := o) S hC ⟨cw_B S hc hi hl hd hR, S.2.2.2.2 _ hin, S.2.2.2.2 _ hse⟩ (by rw [← hrc]; exact hp_preV hZ hK hM hS hA hz hm hr) rfl hk hsize hst (lv_room hW) hdg hf
theorem go_S (S : CallFix p m c cc nL s args tb own) (hZ : hp_Zok Z) (hK : va_K D ccl (tys ct) s) (hM : hp_H D ccl A M H) (hS : va_S A s.heap H locs) (hA : ∀ q, s.heap.size ≤ q → A q) (hz : Z A s s.heap) {Qc : Array Value → State → Outcome → State → Prop}
    (hC : Met l y (Cond.code y b n ret :: tb) { frames := fr, cells := ce, slots := sl, locals := lo } (hp_Pc As D ccl (tys ct) Z M H.size) Qc ce sl (hp_A M H.size))
    (hc : Cond.code y b n ret ∈ tb) (hi : Cond.initialized y.cls ∈ tb) (hl : Cond.methodLink own index y ∈ tb) (hst' : Cond.static y ∈ tb) (hd : y.cls ≠ "java/lang/invoke/MethodHandle" ∧ y.cls ≠ "java/lang/invoke/VarHandle" ∧ (parseMethodDescriptor y.desc).map (fun d => d.parameters.length) = some k) (hk : As.length = k) (hR : fr + 1 ≤ R.frames ∧ 8 + (n + 11) + lo ≤ R.locals)
    (hsize : ls.size = nL) (hst : st0 = As.reverse ++ rest) (hW : (rest.map fun v => v.category).sum ≤ 8) (hdg : decode cc pc = .ok (.invokestatic index, 3)) (hf : cells + ce ≤ R.cells ∧ slots + sl ≤ R.slots) :
    va_Run p l e R s m args below meth c H locs cells slots ce sl (F0 m pc ls st0) rest (Qc As.toArray) (hp_A M H.size) :=
  va_runS (As := As) S hC ⟨cw_B S hc hi hl hd hR, S.2.2.2.2 _ hst'⟩ (hp_preS hZ hK hM hS hA hz) rfl hk hsize hst (lv_room hW) hdg hf
theorem go_I (S : CallFix p m c cc nL s args tb own) (hZ : hp_Zok Z) (hK : va_K D ccl (tys ct) s) (hM : hp_H D ccl A M H) (hS : va_S A s.heap H locs) (hA : ∀ q, s.heap.size ≤ q → A q) (hz : Z A s s.heap) {Qc : Array Value → State → Outcome → State → Prop} {o : Nat}
    (hC : Met l y (Cond.code y b n none :: tb) { frames := fr, cells := ce, slots := sl, locals := lo } (hp_Pc (.ref o :: As) D ccl (tys ct) Z M H.size) Qc ce sl (hp_A M H.size))
    (hc : Cond.code y b n none ∈ tb) (hi : Cond.initialized y.cls ∈ tb) (hl : Cond.methodLink own index y ∈ tb) (hin : Cond.instanceMethod y ∈ tb) (hy : y.name = "<init>") (hd : y.cls ≠ "java/lang/invoke/MethodHandle" ∧ y.cls ≠ "java/lang/invoke/VarHandle" ∧ (parseMethodDescriptor y.desc).map (fun d => d.parameters.length) = some k) (hk : As.length = k) (hR : fr + 1 ≤ R.frames ∧ 8 + (n + 11) + lo ≤ R.locals)
    (hsize : ls.size = nL) (hst : st0 = As.reverse ++ .ref o :: rest) (hW : (rest.map fun v => v.category).sum ≤ 8) (hdg : decode cc pc = .ok (.invokespecial index, 3)) (hf : cells + ce ≤ R.cells ∧ slots + sl ≤ R.slots) :
    va_Run p l e R s m args below meth c H locs cells slots ce sl (F0 m pc ls st0) rest (Qc (Value.ref o :: As).toArray) (hp_A M H.size) :=
  va_runI (As := As) (b := o) S hC ⟨cw_B S hc hi hl hd hR, hy, S.2.2.2.2 _ hin⟩ (hp_preS (avs := .ref o :: As) hZ hK hM hS hA hz) rfl hk hsize hst (lv_room hW) hdg hf
/-- .. of a nest mate's constructor that javac links by its nest -/
theorem go_IN {host : String} (S : CallFix p m c cc nL s args tb own) (hZ : hp_Zok Z) (hK : va_K D ccl (tys ct) s) (hM : hp_H D ccl A M H) (hS : va_S A s.heap H locs) (hA : ∀ q, s.heap.size ≤ q → A q) (hz : Z A s s.heap) {Qc : Array Value → State → Outcome → State → Prop} {o : Nat}
    (hC : Met l y (Cond.code y b n none :: tb) { frames := fr, cells := ce, slots := sl, locals := lo } (hp_Pc (.ref o :: As) D ccl (tys ct) Z M H.size) Qc ce sl (hp_A M H.size))
    (hc : Cond.code y b n none ∈ tb) (hi : Cond.initialized y.cls ∈ tb) (hl : va_Nw (.methodLinkNest own index y host) s) (hin : Cond.instanceMethod y ∈ tb) (hy : y.name = "<init>") (hd : y.cls ≠ "java/lang/invoke/MethodHandle" ∧ y.cls ≠ "java/lang/invoke/VarHandle" ∧ (parseMethodDescriptor y.desc).map (fun d => d.parameters.length) = some k) (hk : As.length = k) (hR : fr + 1 ≤ R.frames ∧ 8 + (n + 11) + lo ≤ R.locals)
    (hsize : ls.size = nL) (hst : st0 = As.reverse ++ .ref o :: rest) (hW : (rest.map fun v => v.category).sum ≤ 8) (hdg : decode cc pc = .ok (.invokespecial index, 3)) (hf : cells + ce ≤ R.cells ∧ slots + sl ≤ R.slots) :
    va_Run p l e R s m args below meth c H locs cells slots ce sl (F0 m pc ls st0) rest (Qc (Value.ref o :: As).toArray) (hp_A M H.size) :=
  va_runIN (As := As) (b := o) S hC ⟨va_cnB k S.2.2.2.2 (cw_G hc) rfl rfl rfl hl (S.2.2.2.2 _ hi) hd hR, hy, S.2.2.2.2 _ hin⟩ (hp_preS (avs := .ref o :: As) hZ hK hM hS hA hz) rfl hk hsize hst (lv_room hW) hdg hf
end CALL
/-- two arrays of other types are of other classes -/
theorem ct_ne {D : va_G} {ct : Nat → ClassId} {s : State} (hK : va_K D ccl (tys ct) s) {i j : Nat} {t1 t2 : FieldType} (hi : (tys ct)[i]? = some (ct i, t1)) (hj : (tys ct)[j]? = some (ct j, t2)) (hne : t1 ≠ t2) : ct i ≠ ct j := by
  intro q
  obtain ⟨-, kA, hk, comp, hc⟩ := (hK.2 i _ hi).1 0 (fun _ => .null)
  obtain ⟨-, kB, hk2, comp2, hc2⟩ := (hK.2 j _ hj).1 0 (fun _ => .null)
  have hk : s.vm.classes[ct i]? = some kA := hk
  have hk2 : s.vm.classes[ct j]? = some kB := hk2
  rw [q, hk2] at hk
  cases hk
  rw [hc] at hc2
  cases hc2
  exact hne rfl
theorem hp_ne {M : hp_M} {a b : Nat} {e x : va_E} (ha : M a = some e) (hb : M b = some x) (h : e ≠ x) : a ≠ b := fun q => h (by rw [q, hb] at ha; exact (Option.some.inj ha).symm)
end
section
/-! BRANCHES and sums over numbers that are nI of a Nat; truth values -/
section NB
variable {p : Program} {l : Launch} {e : Env} {R : Room} {s : State} {m : MethodId} {args : Array Value} {below : List Frame} {meth : Method} {c : Code} {H : Heap} {locs : List Loc} {cells slots : Nat} {Q : State → Prop}
variable {cc : ByteArray} {pc : Nat} {ls : Array Slot} {rest : List Value} {a b : Nat} {off : Int} {tgt : Nat}
theorem nb_eq (hexec : p.tables.exec = Jvm.exec) (hb : c.code = cc) (hdg : decode cc pc = .ok (.if_icmp .eq off, 3)) (ht : (pc : Int) + off = (tgt : Int)) (ha : a < 2 ^ 31) (hb2 : b < 2 ^ 31)
    (kt : a = b → W p l e R s m args below meth c H locs cells slots Q (F0 m tgt ls rest)) (kf : a ≠ b → W p l e R s m args below meth c H locs cells slots Q (F0 m (pc + 3) ls rest)) : W p l e R s m args below meth c H locs cells slots Q (F0 m pc ls (.int (nI b) :: .int (nI a) :: rest)) :=
  lv_icmp_eq hexec hb hdg ht (fun h => kt ((nI_eq ha hb2).mp h)) (fun h => kf (fun q => h ((nI_eq ha hb2).mpr q)))
theorem nb_ne (hexec : p.tables.exec = Jvm.exec) (hb : c.code = cc) (hdg : decode cc pc = .ok (.if_icmp .ne off, 3)) (ht : (pc : Int) + off = (tgt : Int)) (ha : a < 2 ^ 31) (hb2 : b < 2 ^ 31)
    (kt : a ≠ b → W p l e R s m args below meth c H locs cells slots Q (F0 m tgt ls rest)) (kf : a = b → W p l e R s m args below meth c H locs cells slots Q (F0 m (pc + 3) ls rest)) : W p l e R s m args below meth c H locs cells slots Q (F0 m pc ls (.int (nI b) :: .int (nI a) :: rest)) :=
  lv_icmp_ne hexec hb hdg ht (fun h => kt (fun q => h ((nI_eq ha hb2).mpr q))) (fun h => kf ((nI_eq ha hb2).mp h))
theorem nb_lt (hexec : p.tables.exec = Jvm.exec) (hb : c.code = cc) (hdg : decode cc pc = .ok (.if_icmp .lt off, 3)) (ht : (pc : Int) + off = (tgt : Int)) (ha : a < 2 ^ 31) (hb2 : b < 2 ^ 31)
    (kt : a < b → W p l e R s m args below meth c H locs cells slots Q (F0 m tgt ls rest)) (kf : b ≤ a → W p l e R s m args below meth c H locs cells slots Q (F0 m (pc + 3) ls rest)) : W p l e R s m args below meth c H locs cells slots Q (F0 m pc ls (.int (nI b) :: .int (nI a) :: rest)) :=
  lv_icmp_lt hexec hb hdg ht (fun h => kt ((nI_ltI ha hb2).mp h)) (fun h => kf (Nat.not_lt.mp (fun q => h ((nI_ltI ha hb2).mpr q))))
theorem nb_ge (hexec : p.tables.exec = Jvm.exec) (hb : c.code = cc) (hdg : decode cc pc = .ok (.if_icmp .ge off, 3)) (ht : (pc : Int) + off = (tgt : Int)) (ha : a < 2 ^ 31) (hb2 : b < 2 ^ 31)
    (kt : b ≤ a → W p l e R s m args below meth c H locs cells slots Q (F0 m tgt ls rest)) (kf : a < b → W p l e R s m args below meth c H locs cells slots Q (F0 m (pc + 3) ls rest)) : W p l e R s m args below meth c H locs cells slots Q (F0 m pc ls (.int (nI b) :: .int (nI a) :: rest)) :=
  lv_icmp_ge hexec hb hdg ht (fun h => kt ((nI_leI hb2 ha).mp h)) (fun h => kf (Nat.not_le.mp (fun q => h ((nI_leI hb2 ha).mpr q))))
theorem nb_gt (hexec : p.tables.exec = Jvm.exec) (hb : c.code = cc) (hdg : decode cc pc = .ok (.if_icmp .gt off, 3)) (ht : (pc : Int) + off = (tgt : Int)) (ha : a < 2 ^ 31) (hb2 : b < 2 ^ 31)
    (kt : b < a → W p l e R s m args below meth c H locs cells slots Q (F0 m tgt ls rest)) (kf : a ≤ b → W p l e R s m args below meth c H locs cells slots Q (F0 m (pc + 3) ls rest)) : W p l e R s m args below meth c H locs cells slots Q (F0 m pc ls (.int (nI b) :: .int (nI a) :: rest)) :=
  lv_icmp_gt hexec hb hdg ht (fun h => kt ((nI_ltI hb2 ha).mp h)) (fun h => kf (Nat.not_lt.mp (fun q => h ((nI_ltI hb2 ha).mpr q))))
theorem nb_le (hexec : p.tables.exec = Jvm.exec) (hb : c.code = cc) (hdg : decode cc pc = .ok (.if_icmp .le off, 3)) (ht : (pc : Int) + off = (tgt : Int)) (ha : a < 2 ^ 31) (hb2 : b < 2 ^ 31)
    (kt : a ≤ b → W p l e R s m args below meth c H locs cells slots Q (F0 m tgt ls rest)) (kf : b < a → W p l e R s m args below meth c H locs cells slots Q (F0 m (pc + 3) ls rest)) : W p l e R s m args below meth c H locs cells slots Q (F0 m pc ls (.int (nI b) :: .int (nI a) :: rest)) :=
  lv_icmp_le hexec hb hdg ht (fun h => kt ((nI_leI ha hb2).mp h)) (fun h => kf (Nat.not_le.mp (fun q => h ((nI_leI ha hb2).mpr q))))
theorem nz_eq (hexec : p.tables.exec = Jvm.exec) (hb : c.code = cc) (hdg : decode cc pc = .ok (.ifCond .eq off, 3)) (ht : (pc : Int) + off = (tgt : Int)) (ha : a < 2 ^ 31)
    (kt : a = 0 → W p l e R s m args below meth c H locs cells slots Q (F0 m tgt ls rest)) (kf : a ≠ 0 → W p l e R s m args below meth c H locs cells slots Q (F0 m (pc + 3) ls rest)) : W p l e R s m args below meth c H locs cells slots Q (F0 m pc ls (.int (nI a) :: rest)) :=
  lv_if_eq hexec hb hdg ht (fun h => kt ((nI_eq ha (by decide)).mp (h.trans nI_0.symm))) (fun h => kf (fun q => h (by rw [q]; exact nI_0)))
theorem nz_ne (hexec : p.tables.exec = Jvm.exec) (hb : c.code = cc) (hdg : decode cc pc = .ok (.ifCond .ne off, 3)) (ht : (pc : Int) + off = (tgt : Int)) (ha : a < 2 ^ 31)
    (kt : a ≠ 0 → W p l e R s m args below meth c H locs cells slots Q (F0 m tgt ls rest)) (kf : a = 0 → W p l e R s m args below meth c H locs cells slots Q (F0 m (pc + 3) ls rest)) : W p l e R s m args below meth c H locs cells slots Q (F0 m pc ls (.int (nI a) :: rest)) :=
  lv_if_ne hexec hb hdg ht (fun h => kt (fun q => h (by rw [q]; exact nI_0))) (fun h => kf ((nI_eq ha (by decide)).mp (h.trans nI_0.symm)))
theorem nz_lt (hexec : p.tables.exec = Jvm.exec) (hb : c.code = cc) (hdg : decode cc pc = .ok (.ifCond .lt off, 3)) (ht : (pc : Int) + off = (tgt : Int)) (ha : a < 2 ^ 31)
    (kt : False → W p l e R s m args below meth c H locs cells slots Q (F0 m tgt ls rest)) (kf : True → W p l e R s m args below meth c H locs cells slots Q (F0 m (pc + 3) ls rest)) : W p l e R s m args below meth c H locs cells slots Q (F0 m pc ls (.int (nI a) :: rest)) :=
  lv_if_lt hexec hb hdg ht (fun h => kt (nI_pos ha h)) (fun _ => kf trivial)
theorem nz_ge (hexec : p.tables.exec = Jvm.exec) (hb : c.code = cc) (hdg : decode cc pc = .ok (.ifCond .ge off, 3)) (ht : (pc : Int) + off = (tgt : Int)) (ha : a < 2 ^ 31)
    (kt : True → W p l e R s m args below meth c H locs cells slots Q (F0 m tgt ls rest)) (kf : False → W p l e R s m args below meth c H locs cells slots Q (F0 m (pc + 3) ls rest)) : W p l e R s m args below meth c H locs cells slots Q (F0 m pc ls (.int (nI a) :: rest)) :=
  lv_if_ge hexec hb hdg ht (fun _ => kt trivial) (fun h => kf (h (nI_pos' ha)))
theorem nz_gt (hexec : p.tables.exec = Jvm.exec) (hb : c.code = cc) (hdg : decode cc pc = .ok (.ifCond .gt off, 3)) (ht : (pc : Int) + off = (tgt : Int)) (ha : a < 2 ^ 31)
    (kt : 0 < a → W p l e R s m args below meth c H locs cells slots Q (F0 m tgt ls rest)) (kf : a = 0 → W p l e R s m args below meth c H locs cells slots Q (F0 m (pc + 3) ls rest)) : W p l e R s m args below meth c H locs cells slots Q (F0 m pc ls (.int (nI a) :: rest)) :=
  lv_if_gt hexec hb hdg ht (fun h => kt (by rw [← nI_0] at h; exact (nI_ltI (by decide) ha).mp h)) (fun h => kf ((Nat.eq_zero_or_pos a).elim id (fun q => absurd (by rw [← nI_0]; exact (nI_ltI (by decide) ha).mpr q) h)))
theorem nz_le (hexec : p.tables.exec = Jvm.exec) (hb : c.code = cc) (hdg : decode cc pc = .ok (.ifCond .le off, 3)) (ht : (pc : Int) + off = (tgt : Int)) (ha : a < 2 ^ 31)
    (kt : a = 0 → W p l e R s m args below meth c H locs cells slots Q (F0 m tgt ls rest)) (kf : 0 < a → W p l e R s m args below meth c H locs cells slots Q (F0 m (pc + 3) ls rest)) : W p l e R s m args below meth c H locs cells slots Q (F0 m pc ls (.int (nI a) :: rest)) :=
  lv_if_le hexec hb hdg ht (fun h => kt (by rw [← nI_0] at h; have := (nI_leI ha (by decide)).mp h; omega)) (fun h => kf ((Nat.eq_zero_or_pos a).elim (fun q => absurd (by rw [q, nI_0]; exact Int32.le_refl 0) h) id))
theorem nt_ne {r : Int32} {P : Prop} (hexec : p.tables.exec = Jvm.exec) (hb : c.code = cc) (hdg : decode cc pc = .ok (.ifCond .ne off, 3)) (ht : (pc : Int) + off = (tgt : Int)) (hr : bo r P)
    (kt : P → W p l e R s m args below meth c H locs cells slots Q (F0 m tgt ls rest)) (kf : ¬ P → W p l e R s m args below meth c H locs cells slots Q (F0 m (pc + 3) ls rest)) : W p l e R s m args below meth c H locs cells slots Q (F0 m pc ls (.int r :: rest)) := by
  refine lv_if_ne hexec hb hdg ht (fun h => kt ?_) (fun h => kf ((bo_0 hr).mp h))
  rcases hr with ⟨h1, -⟩ | ⟨-, h1⟩
  · exact h1
  · exact absurd h1 h
theorem nt_eq {r : Int32} {P : Prop} (hexec : p.tables.exec = Jvm.exec) (hb : c.code = cc) (hdg : decode cc pc = .ok (.ifCond .eq off, 3)) (ht : (pc : Int) + off = (tgt : Int)) (hr : bo r P)
    (kt : ¬ P → W p l e R s m args below meth c H locs cells slots Q (F0 m tgt ls rest)) (kf : P → W p l e R s m args below meth c H locs cells slots Q (F0 m (pc + 3) ls rest)) : W p l e R s m args below meth c H locs cells slots Q (F0 m pc ls (.int r :: rest)) := by
  refine lv_if_eq hexec hb hdg ht (fun h => kt ((bo_0 hr).mp h)) (fun h => kf ?_)
  rcases hr with ⟨h1, -⟩ | ⟨-, h1⟩
  · exact h1
  · exact absurd h1 h
theorem nb_iadd (hexec : p.tables.exec = Jvm.exec) (hb : c.code = cc) (hdg : decode cc pc = .ok (.iadd, 1)) 
    (kk : W p l e R s m args below meth c H locs cells slots Q (F0 m (pc + 1) ls (.int (nI (a + b)) :: rest))) : W p l e R s m args below meth c H locs cells slots Q (F0 m pc ls (.int (nI b) :: .int (nI a) :: rest)) := by
  refine lv_iadd hexec hb hdg ?_
  rw [nI_add a b]
  exact kk
theorem nb_isub (hexec : p.tables.exec = Jvm.exec) (hb : c.code = cc) (hdg : decode cc pc = .ok (.isub, 1)) (hle : b ≤ a) 
    (kk : W p l e R s m args below meth c H locs cells slots Q (F0 m (pc + 1) ls (.int (nI (a - b)) :: rest))) : W p l e R s m args below meth c H locs cells slots Q (F0 m pc ls (.int (nI b) :: .int (nI a) :: rest)) := by
  refine lv_isub hexec hb hdg ?_
  rw [pk_sub hle]
  exact kk
theorem nb_imul (hexec : p.tables.exec = Jvm.exec) (hb : c.code = cc) (hdg : decode cc pc = .ok (.imul, 1)) 
    (kk : W p l e R s m args below meth c H locs cells slots Q (F0 m (pc + 1) ls (.int (nI (a * b)) :: rest))) : W p l e R s m args below meth c H locs cells slots Q (F0 m pc ls (.int (nI b) :: .int (nI a) :: rest)) := by
  refine lv_imul hexec hb hdg ?_
  rw [pk_mul a b]
  exact kk
theorem nb_idiv (hexec : p.tables.exec = Jvm.exec) (hb : c.code = cc) (hdg : decode cc pc = .ok (.idiv, 1)) (ha : a < 2 ^ 31) (h0 : 0 < b) (hb2 : b < 2 ^ 31)
    (kk : W p l e R s m args below meth c H locs cells slots Q (F0 m (pc + 1) ls (.int (nI (a / b)) :: rest))) : W p l e R s m args below meth c H locs cells slots Q (F0 m pc ls (.int (nI b) :: .int (nI a) :: rest)) := by
  refine lv_idiv hexec hb hdg (nI_ne0 h0 hb2) ?_
  rw [pk_div ha h0 hb2]
  exact kk
theorem nb_irem (hexec : p.tables.exec = Jvm.exec) (hb : c.code = cc) (hdg : decode cc pc = .ok (.irem, 1)) (ha : a < 2 ^ 31) (h0 : 0 < b) (hb2 : b < 2 ^ 31)
    (kk : W p l e R s m args below meth c H locs cells slots Q (F0 m (pc + 1) ls (.int (nI (a % b)) :: rest))) : W p l e R s m args below meth c H locs cells slots Q (F0 m pc ls (.int (nI b) :: .int (nI a) :: rest)) := by
  refine lv_irem hexec hb hdg (nI_ne0 h0 hb2) ?_
  rw [pk_rem ha h0 hb2]
  exact kk
end NB
theorem lt_b {lo j : Nat} {P : Nat → Prop} (h : ∀ a, lo ≤ a → a < j → P a) (hj : P j) : ∀ a, lo ≤ a → a < j + 1 → P a := fun a h1 h2 => by
  rcases Nat.lt_or_ge a j with q | q
  · exact h a h1 q
  · rw [show a = j by omega]
    exact hj
/-- contents that are numbers -/
def nf (g : Nat → Nat) : Nat → Int32 := fun i => nI (g i)
theorem nf_up {g : Nat → Nat} {j k : Nat} : upd (nf g) j (nI k) = nf (va_up g j k) := by
  funext i
  unfold upd nf va_up
  by_cases h : i = j
  · rw [if_pos h, if_pos h]
  · rw [if_neg h, if_neg h]
theorem nf_0 : (fun _ => 0 : Nat → Int32) = nf (fun _ => 0) := by
  funext i
  exact nI_0.symm
theorem up_s {α : Type} {g : Nat → α} {j : Nat} {k : α} : va_up g j k j = k := if_pos rfl
theorem up_n {α : Type} {g : Nat → α} {i j : Nat} {k : α} (h : i ≠ j) : va_up g j k i = g i := if_neg h
theorem hp_nn {M : hp_M} {b q : Nat} {x : va_E} (hb : M b = some x) (hq : M q = none) : b ≠ q := fun e => by
  rw [e, hq] at hb
  cases hb
theorem hp_uc {M : hp_M} {a b : Nat} {e x : va_E} (h : a ≠ b) : hp_up (hp_up M a e) b x = hp_up (hp_up M b x) a e := by
  funext q
  unfold hp_up
  by_cases h1 : q = b
  · rw [if_pos h1, if_neg (fun z => h (z.symm.trans h1)), if_pos h1]
  · rw [if_neg h1]
    by_cases h2 : q = a
    · rw [if_pos h2, if_pos h2]
    · rw [if_neg h2, if_neg h2, if_neg h1]
end
section
theorem d_FM_isLetter_0 : decode b_FM_isLetter 0 = .ok (.iload_n 0, 1) := by decide +kernel
theorem d_FM_isLetter_1 : decode b_FM_isLetter 1 = .ok (.bipush 97, 2) := by decide +kernel
theorem d_FM_isLetter_3 : decode b_FM_isLetter 3 = .ok (.if_icmp .lt 9, 3) := by decide +kernel
theorem d_FM_isLetter_6 : decode b_FM_isLetter 6 = .ok (.iload_n 0, 1) := by decide +kernel
theorem d_FM_isLetter_7 : decode b_FM_isLetter 7 = .ok (.bipush 122, 2) := by decide +kernel
theorem d_FM_isLetter_9 : decode b_FM_isLetter 9 = .ok (.if_icmp .le 15, 3) := by decide +kernel
theorem d_FM_isLetter_12 : decode b_FM_isLetter 12 = .ok (.iload_n 0, 1) := by decide +kernel
theorem d_FM_isLetter_13 : decode b_FM_isLetter 13 = .ok (.bipush 65, 2) := by decide +kernel
theorem d_FM_isLetter_15 : decode b_FM_isLetter 15 = .ok (.if_icmp .lt 13, 3) := by decide +kernel
theorem d_FM_isLetter_18 : decode b_FM_isLetter 18 = .ok (.iload_n 0, 1) := by decide +kernel
theorem d_FM_isLetter_19 : decode b_FM_isLetter 19 = .ok (.bipush 90, 2) := by decide +kernel
theorem d_FM_isLetter_21 : decode b_FM_isLetter 21 = .ok (.if_icmp .gt 7, 3) := by decide +kernel
theorem d_FM_isLetter_24 : decode b_FM_isLetter 24 = .ok (.iconst 1, 1) := by decide +kernel
theorem d_FM_isLetter_25 : decode b_FM_isLetter 25 = .ok (.goto 4, 3) := by decide +kernel
theorem d_FM_isLetter_28 : decode b_FM_isLetter 28 = .ok (.iconst 0, 1) := by decide +kernel
theorem d_FM_isLetter_29 : decode b_FM_isLetter 29 = .ok (.ireturn, 1) := by decide +kernel
theorem d_FM_isDigit_0 : decode b_FM_isDigit 0 = .ok (.iload_n 0, 1) := by decide +kernel
theorem d_FM_isDigit_1 : decode b_FM_isDigit 1 = .ok (.bipush 48, 2) := by decide +kernel
theorem d_FM_isDigit_3 : decode b_FM_isDigit 3 = .ok (.if_icmp .lt 13, 3) := by decide +kernel
theorem d_FM_isDigit_6 : decode b_FM_isDigit 6 = .ok (.iload_n 0, 1) := by decide +kernel
theorem d_FM_isDigit_7 : decode b_FM_isDigit 7 = .ok (.bipush 57, 2) := by decide +kernel
theorem d_FM_isDigit_9 : decode b_FM_isDigit 9 = .ok (.if_icmp .gt 7, 3) := by decide +kernel
theorem d_FM_isDigit_12 : decode b_FM_isDigit 12 = .ok (.iconst 1, 1) := by decide +kernel
theorem d_FM_isDigit_13 : decode b_FM_isDigit 13 = .ok (.goto 4, 3) := by decide +kernel
theorem d_FM_isDigit_16 : decode b_FM_isDigit 16 = .ok (.iconst 0, 1) := by decide +kernel
theorem d_FM_isDigit_17 : decode b_FM_isDigit 17 = .ok (.ireturn, 1) := by decide +kernel
set_option maxHeartbeats 4000000 in
set_option maxRecDepth 100000 in
/-- a character is a letter -/
theorem c_FM_isLetter (l : Launch) (D : va_G) (ct : Nat → ClassId) (Z : hp_Z) (hZ : hp_Zok Z) (M : hp_M) (sz : Nat) (k : Nat) (hk : k < 65536) : Mi l y_FM_isLetter b_FM_isLetter 1 (some .boolean) 0 0 0 0 [.int (nI k)] D ct Z M sz (fun r M1 => M1 = M ∧ bo r (isLet k)) := by
  refine hp_start (by decide) (Nat.le_of_ble_eq_true rfl) (fun p e s m below meth c ls S hret hlk hnm hsz hK hM hS hA hz hl => ?_)
  have hx := S.1
  have hb := S.2.1
  have hl : lv_has ls 1 [(0, .int (nI k))] := hl
  refine lv_iload_n hx hb d_FM_isLetter_0 rfl (lv_at hl 0 rfl) ?_
  refine lv_bipush (v := nI 97) hx hb d_FM_isLetter_1 rfl ?_
  refine nb_lt (tgt := 12) hx hb d_FM_isLetter_3 (by decide) (by omega) (by omega) (fun h1 => ?_) (fun h1 => ?_)
  · refine lv_iload_n hx hb d_FM_isLetter_12 rfl (lv_at hl 0 rfl) ?_
    refine lv_bipush (v := nI 65) hx hb d_FM_isLetter_13 rfl ?_
    refine nb_lt (tgt := 28) hx hb d_FM_isLetter_15 (by decide) (by omega) (by omega) (fun h2 => ?_) (fun h2 => ?_)
    · refine lv_iconst (v := nI 0) hx hb d_FM_isLetter_28 rfl ?_
      exact hp_iret S hret hlk (rfl) hM hS (⟨rfl, bo_f (by unfold isLet; omega)⟩) d_FM_isLetter_29
    · refine lv_iload_n hx hb d_FM_isLetter_18 rfl (lv_at hl 0 rfl) ?_
      refine lv_bipush (v := nI 90) hx hb d_FM_isLetter_19 rfl ?_
      refine nb_gt (tgt := 28) hx hb d_FM_isLetter_21 (by decide) (by omega) (by omega) (fun h3 => ?_) (fun h3 => ?_)
      · refine lv_iconst (v := nI 0) hx hb d_FM_isLetter_28 rfl ?_
        exact hp_iret S hret hlk (rfl) hM hS (⟨rfl, bo_f (by unfold isLet; omega)⟩) d_FM_isLetter_29
      · refine lv_iconst (v := nI 1) hx hb d_FM_isLetter_24 rfl ?_
        refine lv_goto (tgt := 29) hx hb d_FM_isLetter_25 (by decide) ?_
        exact hp_iret S hret hlk (rfl) hM hS (⟨rfl, bo_t (by unfold isLet; omega)⟩) d_FM_isLetter_29
  · refine lv_iload_n hx hb d_FM_isLetter_6 rfl (lv_at hl 0 rfl) ?_
    refine lv_bipush (v := nI 122) hx hb d_FM_isLetter_7 rfl ?_
    refine nb_le (tgt := 24) hx hb d_FM_isLetter_9 (by decide) (by omega) (by omega) (fun h4 => ?_) (fun h4 => ?_)
    · refine lv_iconst (v := nI 1) hx hb d_FM_isLetter_24 rfl ?_
      refine lv_goto (tgt := 29) hx hb d_FM_isLetter_25 (by decide) ?_
      exact hp_iret S hret hlk (rfl) hM hS (⟨rfl, bo_t (by unfold isLet; omega)⟩) d_FM_isLetter_29
    · refine lv_iload_n hx hb d_FM_isLetter_12 rfl (lv_at hl 0 rfl) ?_
      refine lv_bipush (v := nI 65) hx hb d_FM_isLetter_13 rfl ?_
      refine nb_lt (tgt := 28) hx hb d_FM_isLetter_15 (by decide) (by omega) (by omega) (fun h5 => ?_) (fun h5 => ?_)
      · refine lv_iconst (v := nI 0) hx hb d_FM_isLetter_28 rfl ?_
        exact hp_iret S hret hlk (rfl) hM hS (⟨rfl, bo_f (by unfold isLet; omega)⟩) d_FM_isLetter_29
      · refine lv_iload_n hx hb d_FM_isLetter_18 rfl (lv_at hl 0 rfl) ?_
        refine lv_bipush (v := nI 90) hx hb d_FM_isLetter_19 rfl ?_
        refine nb_gt (tgt := 28) hx hb d_FM_isLetter_21 (by decide) (by omega) (by omega) (fun h6 => ?_) (fun h6 => ?_)
        · refine lv_iconst (v := nI 0) hx hb d_FM_isLetter_28 rfl ?_
          exact hp_iret S hret hlk (rfl) hM hS (⟨rfl, bo_f (by unfold isLet; omega)⟩) d_FM_isLetter_29
        · refine lv_iconst (v := nI 1) hx hb d_FM_isLetter_24 rfl ?_
          refine lv_goto (tgt := 29) hx hb d_FM_isLetter_25 (by decide) ?_
          exact hp_iret S hret hlk (rfl) hM hS (⟨rfl, bo_t (by unfold isLet; omega)⟩) d_FM_isLetter_29
set_option maxHeartbeats 4000000 in
set_option maxRecDepth 100000 in
/-- a character is a digit -/
theorem c_FM_isDigit (l : Launch) (D : va_G) (ct : Nat → ClassId) (Z : hp_Z) (hZ : hp_Zok Z) (M : hp_M) (sz : Nat) (k : Nat) (hk : k < 65536) : Mi l y_FM_isDigit b_FM_isDigit 1 (some .boolean) 0 0 0 0 [.int (nI k)] D ct Z M sz (fun r M1 => M1 = M ∧ bo r (isDig k)) := by
  refine hp_start (by decide) (Nat.le_of_ble_eq_true rfl) (fun p e s m below meth c ls S hret hlk hnm hsz hK hM hS hA hz hl => ?_)
  have hx := S.1
  have hb := S.2.1
  have hl : lv_has ls 1 [(0, .int (nI k))] := hl
  refine lv_iload_n hx hb d_FM_isDigit_0 rfl (lv_at hl 0 rfl) ?_
  refine lv_bipush (v := nI 48) hx hb d_FM_isDigit_1 rfl ?_
  refine nb_lt (tgt := 16) hx hb d_FM_isDigit_3 (by decide) (by omega) (by omega) (fun h1 => ?_) (fun h1 => ?_)
  · refine lv_iconst (v := nI 0) hx hb d_FM_isDigit_16 rfl ?_
    exact hp_iret S hret hlk (rfl) hM hS (⟨rfl, bo_f (by unfold isDig; omega)⟩) d_FM_isDigit_17
  · refine lv_iload_n hx hb d_FM_isDigit_6 rfl (lv_at hl 0 rfl) ?_
    refine lv_bipush (v := nI 57) hx hb d_FM_isDigit_7 rfl ?_
    refine nb_gt (tgt := 16) hx hb d_FM_isDigit_9 (by decide) (by omega) (by omega) (fun h2 => ?_) (fun h2 => ?_)
    · refine lv_iconst (v := nI 0) hx hb d_FM_isDigit_16 rfl ?_
      exact hp_iret S hret hlk (rfl) hM hS (⟨rfl, bo_f (by unfold isDig; omega)⟩) d_FM_isDigit_17
    · refine lv_iconst (v := nI 1) hx hb d_FM_isDigit_12 rfl ?_
      refine lv_goto (tgt := 17) hx hb d_FM_isDigit_13 (by decide) ?_
      exact hp_iret S hret hlk (rfl) hM hS (⟨rfl, bo_t (by unfold isDig; omega)⟩) d_FM_isDigit_17
end
section
theorem d_FM_nameLength_0 : decode b_FM_nameLength 0 = .ok (.iconst 0, 1) := by decide +kernel
theorem d_FM_nameLength_1 : decode b_FM_nameLength 1 = .ok (.istore_n 1, 1) := by decide +kernel
theorem d_FM_nameLength_2 : decode b_FM_nameLength 2 = .ok (.iload_n 1, 1) := by decide +kernel
theorem d_FM_nameLength_3 : decode b_FM_nameLength 3 = .ok (.aload_n 0, 1) := by decide +kernel
theorem d_FM_nameLength_4 : decode b_FM_nameLength 4 = .ok (.arraylength, 1) := by decide +kernel
theorem d_FM_nameLength_5 : decode b_FM_nameLength 5 = .ok (.if_icmp .ge 19, 3) := by decide +kernel
theorem d_FM_nameLength_8 : decode b_FM_nameLength 8 = .ok (.aload_n 0, 1) := by decide +kernel
theorem d_FM_nameLength_9 : decode b_FM_nameLength 9 = .ok (.iload_n 1, 1) := by decide +kernel
theorem d_FM_nameLength_10 : decode b_FM_nameLength 10 = .ok (.caload, 1) := by decide +kernel
theorem d_FM_nameLength_11 : decode b_FM_nameLength 11 = .ok (.bipush 61, 2) := by decide +kernel
theorem d_FM_nameLength_13 : decode b_FM_nameLength 13 = .ok (.if_icmp .ne 5, 3) := by decide +kernel
theorem d_FM_nameLength_16 : decode b_FM_nameLength 16 = .ok (.iload_n 1, 1) := by decide +kernel
theorem d_FM_nameLength_17 : decode b_FM_nameLength 17 = .ok (.ireturn, 1) := by decide +kernel
theorem d_FM_nameLength_18 : decode b_FM_nameLength 18 = .ok (.iinc 1 1, 3) := by decide +kernel
theorem d_FM_nameLength_21 : decode b_FM_nameLength 21 = .ok (.goto (-19), 3) := by decide +kernel
theorem d_FM_nameLength_24 : decode b_FM_nameLength 24 = .ok (.aload_n 0, 1) := by decide +kernel
theorem d_FM_nameLength_25 : decode b_FM_nameLength 25 = .ok (.arraylength, 1) := by decide +kernel
theorem d_FM_nameLength_26 : decode b_FM_nameLength 26 = .ok (.ireturn, 1) := by decide +kernel
theorem d_FM_isName_0 : decode b_FM_isName 0 = .ok (.iload_n 1, 1) := by decide +kernel
theorem d_FM_isName_1 : decode b_FM_isName 1 = .ok (.iconst 1, 1) := by decide +kernel
theorem d_FM_isName_2 : decode b_FM_isName 2 = .ok (.if_icmp .lt 24, 3) := by decide +kernel
theorem d_FM_isName_5 : decode b_FM_isName 5 = .ok (.iload_n 1, 1) := by decide +kernel
theorem d_FM_isName_6 : decode b_FM_isName 6 = .ok (.bipush 16, 2) := by decide +kernel
theorem d_FM_isName_8 : decode b_FM_isName 8 = .ok (.if_icmp .gt 18, 3) := by decide +kernel
theorem d_FM_isName_11 : decode b_FM_isName 11 = .ok (.iload_n 1, 1) := by decide +kernel
theorem d_FM_isName_12 : decode b_FM_isName 12 = .ok (.aload_n 0, 1) := by decide +kernel
theorem d_FM_isName_13 : decode b_FM_isName 13 = .ok (.arraylength, 1) := by decide +kernel
theorem d_FM_isName_14 : decode b_FM_isName 14 = .ok (.if_icmp .gt 12, 3) := by decide +kernel
theorem d_FM_isName_17 : decode b_FM_isName 17 = .ok (.aload_n 0, 1) := by decide +kernel
theorem d_FM_isName_18 : decode b_FM_isName 18 = .ok (.iconst 0, 1) := by decide +kernel
theorem d_FM_isName_19 : decode b_FM_isName 19 = .ok (.caload, 1) := by decide +kernel
theorem d_FM_isName_20 : decode b_FM_isName 20 = .ok (.invokestatic 22, 3) := by decide +kernel
theorem d_FM_isName_23 : decode b_FM_isName 23 = .ok (.ifCond .ne 5, 3) := by decide +kernel
theorem d_FM_isName_26 : decode b_FM_isName 26 = .ok (.iconst 0, 1) := by decide +kernel
theorem d_FM_isName_27 : decode b_FM_isName 27 = .ok (.ireturn, 1) := by decide +kernel
theorem d_FM_isName_28 : decode b_FM_isName 28 = .ok (.iconst 1, 1) := by decide +kernel
theorem d_FM_isName_29 : decode b_FM_isName 29 = .ok (.istore_n 2, 1) := by decide +kernel
theorem d_FM_isName_30 : decode b_FM_isName 30 = .ok (.iload_n 2, 1) := by decide +kernel
theorem d_FM_isName_31 : decode b_FM_isName 31 = .ok (.iload_n 1, 1) := by decide +kernel
theorem d_FM_isName_32 : decode b_FM_isName 32 = .ok (.if_icmp .ge 37, 3) := by decide +kernel
theorem d_FM_isName_35 : decode b_FM_isName 35 = .ok (.aload_n 0, 1) := by decide +kernel
theorem d_FM_isName_36 : decode b_FM_isName 36 = .ok (.iload_n 2, 1) := by decide +kernel
theorem d_FM_isName_37 : decode b_FM_isName 37 = .ok (.caload, 1) := by decide +kernel
theorem d_FM_isName_38 : decode b_FM_isName 38 = .ok (.invokestatic 22, 3) := by decide +kernel
theorem d_FM_isName_41 : decode b_FM_isName 41 = .ok (.ifCond .ne 22, 3) := by decide +kernel
theorem d_FM_isName_44 : decode b_FM_isName 44 = .ok (.aload_n 0, 1) := by decide +kernel
theorem d_FM_isName_45 : decode b_FM_isName 45 = .ok (.iload_n 2, 1) := by decide +kernel
theorem d_FM_isName_46 : decode b_FM_isName 46 = .ok (.caload, 1) := by decide +kernel
theorem d_FM_isName_47 : decode b_FM_isName 47 = .ok (.invokestatic 26, 3) := by decide +kernel
theorem d_FM_isName_50 : decode b_FM_isName 50 = .ok (.ifCond .ne 13, 3) := by decide +kernel
theorem d_FM_isName_53 : decode b_FM_isName 53 = .ok (.aload_n 0, 1) := by decide +kernel
theorem d_FM_isName_54 : decode b_FM_isName 54 = .ok (.iload_n 2, 1) := by decide +kernel
theorem d_FM_isName_55 : decode b_FM_isName 55 = .ok (.caload, 1) := by decide +kernel
theorem d_FM_isName_56 : decode b_FM_isName 56 = .ok (.bipush 95, 2) := by decide +kernel
theorem d_FM_isName_58 : decode b_FM_isName 58 = .ok (.if_icmp .eq 5, 3) := by decide +kernel
theorem d_FM_isName_61 : decode b_FM_isName 61 = .ok (.iconst 0, 1) := by decide +kernel
theorem d_FM_isName_62 : decode b_FM_isName 62 = .ok (.ireturn, 1) := by decide +kernel
theorem d_FM_isName_63 : decode b_FM_isName 63 = .ok (.iinc 2 1, 3) := by decide +kernel
theorem d_FM_isName_66 : decode b_FM_isName 66 = .ok (.goto (-36), 3) := by decide +kernel
theorem d_FM_isName_69 : decode b_FM_isName 69 = .ok (.iconst 1, 1) := by decide +kernel
theorem d_FM_isName_70 : decode b_FM_isName 70 = .ok (.ireturn, 1) := by decide +kernel
theorem d_FM_isPiece_0 : decode b_FM_isPiece 0 = .ok (.iconst 1, 1) := by decide +kernel
theorem d_FM_isPiece_1 : decode b_FM_isPiece 1 = .ok (.istore_n 3, 1) := by decide +kernel
theorem d_FM_isPiece_2 : decode b_FM_isPiece 2 = .ok (.iload_n 1, 1) := by decide +kernel
theorem d_FM_isPiece_3 : decode b_FM_isPiece 3 = .ok (.istore 4, 2) := by decide +kernel
theorem d_FM_isPiece_5 : decode b_FM_isPiece 5 = .ok (.iload 4, 2) := by decide +kernel
theorem d_FM_isPiece_7 : decode b_FM_isPiece 7 = .ok (.iload_n 2, 1) := by decide +kernel
theorem d_FM_isPiece_8 : decode b_FM_isPiece 8 = .ok (.if_icmp .ge 56, 3) := by decide +kernel
theorem d_FM_isPiece_11 : decode b_FM_isPiece 11 = .ok (.aload_n 0, 1) := by decide +kernel
theorem d_FM_isPiece_12 : decode b_FM_isPiece 12 = .ok (.iload 4, 2) := by decide +kernel
theorem d_FM_isPiece_14 : decode b_FM_isPiece 14 = .ok (.caload, 1) := by decide +kernel
theorem d_FM_isPiece_15 : decode b_FM_isPiece 15 = .ok (.istore 5, 2) := by decide +kernel
theorem d_FM_isPiece_17 : decode b_FM_isPiece 17 = .ok (.iload 5, 2) := by decide +kernel
theorem d_FM_isPiece_19 : decode b_FM_isPiece 19 = .ok (.bipush 46, 2) := by decide +kernel
theorem d_FM_isPiece_21 : decode b_FM_isPiece 21 = .ok (.if_icmp .eq 37, 3) := by decide +kernel
theorem d_FM_isPiece_24 : decode b_FM_isPiece 24 = .ok (.iconst 0, 1) := by decide +kernel
theorem d_FM_isPiece_25 : decode b_FM_isPiece 25 = .ok (.istore_n 3, 1) := by decide +kernel
theorem d_FM_isPiece_26 : decode b_FM_isPiece 26 = .ok (.iload 5, 2) := by decide +kernel
theorem d_FM_isPiece_28 : decode b_FM_isPiece 28 = .ok (.invokestatic 22, 3) := by decide +kernel
theorem d_FM_isPiece_31 : decode b_FM_isPiece 31 = .ok (.ifCond .ne 27, 3) := by decide +kernel
theorem d_FM_isPiece_34 : decode b_FM_isPiece 34 = .ok (.iload 5, 2) := by decide +kernel
theorem d_FM_isPiece_36 : decode b_FM_isPiece 36 = .ok (.invokestatic 26, 3) := by decide +kernel
theorem d_FM_isPiece_39 : decode b_FM_isPiece 39 = .ok (.ifCond .ne 19, 3) := by decide +kernel
theorem d_FM_isPiece_42 : decode b_FM_isPiece 42 = .ok (.iload 5, 2) := by decide +kernel
theorem d_FM_isPiece_44 : decode b_FM_isPiece 44 = .ok (.bipush 95, 2) := by decide +kernel
theorem d_FM_isPiece_46 : decode b_FM_isPiece 46 = .ok (.if_icmp .eq 12, 3) := by decide +kernel
theorem d_FM_isPiece_49 : decode b_FM_isPiece 49 = .ok (.iload 5, 2) := by decide +kernel
theorem d_FM_isPiece_51 : decode b_FM_isPiece 51 = .ok (.bipush 45, 2) := by decide +kernel
theorem d_FM_isPiece_53 : decode b_FM_isPiece 53 = .ok (.if_icmp .eq 5, 3) := by decide +kernel
theorem d_FM_isPiece_56 : decode b_FM_isPiece 56 = .ok (.iconst 0, 1) := by decide +kernel
theorem d_FM_isPiece_57 : decode b_FM_isPiece 57 = .ok (.ireturn, 1) := by decide +kernel
theorem d_FM_isPiece_58 : decode b_FM_isPiece 58 = .ok (.iinc 4 1, 3) := by decide +kernel
theorem d_FM_isPiece_61 : decode b_FM_isPiece 61 = .ok (.goto (-56), 3) := by decide +kernel
theorem d_FM_isPiece_64 : decode b_FM_isPiece 64 = .ok (.iload_n 3, 1) := by decide +kernel
theorem d_FM_isPiece_65 : decode b_FM_isPiece 65 = .ok (.ifCond .eq 10, 3) := by decide +kernel
theorem d_FM_isPiece_68 : decode b_FM_isPiece 68 = .ok (.iload_n 2, 1) := by decide +kernel
theorem d_FM_isPiece_69 : decode b_FM_isPiece 69 = .ok (.iload_n 1, 1) := by decide +kernel
theorem d_FM_isPiece_70 : decode b_FM_isPiece 70 = .ok (.isub, 1) := by decide +kernel
theorem d_FM_isPiece_71 : decode b_FM_isPiece 71 = .ok (.iconst 2, 1) := by decide +kernel
theorem d_FM_isPiece_72 : decode b_FM_isPiece 72 = .ok (.if_icmp .le 7, 3) := by decide +kernel
theorem d_FM_isPiece_75 : decode b_FM_isPiece 75 = .ok (.iconst 1, 1) := by decide +kernel
theorem d_FM_isPiece_76 : decode b_FM_isPiece 76 = .ok (.goto 4, 3) := by decide +kernel
theorem d_FM_isPiece_79 : decode b_FM_isPiece 79 = .ok (.iconst 0, 1) := by decide +kernel
theorem d_FM_isPiece_80 : decode b_FM_isPiece 80 = .ok (.ireturn, 1) := by decide +kernel
theorem d_FM_isPath_0 : decode b_FM_isPath 0 = .ok (.aload_n 0, 1) := by decide +kernel
theorem d_FM_isPath_1 : decode b_FM_isPath 1 = .ok (.arraylength, 1) := by decide +kernel
theorem d_FM_isPath_2 : decode b_FM_isPath 2 = .ok (.bipush 40, 2) := by decide +kernel
theorem d_FM_isPath_4 : decode b_FM_isPath 4 = .ok (.if_icmp .le 5, 3) := by decide +kernel
theorem d_FM_isPath_7 : decode b_FM_isPath 7 = .ok (.iconst 0, 1) := by decide +kernel
theorem d_FM_isPath_8 : decode b_FM_isPath 8 = .ok (.ireturn, 1) := by decide +kernel
theorem d_FM_isPath_9 : decode b_FM_isPath 9 = .ok (.iconst 0, 1) := by decide +kernel
theorem d_FM_isPath_10 : decode b_FM_isPath 10 = .ok (.istore_n 1, 1) := by decide +kernel
theorem d_FM_isPath_11 : decode b_FM_isPath 11 = .ok (.iconst 0, 1) := by decide +kernel
theorem d_FM_isPath_12 : decode b_FM_isPath 12 = .ok (.istore_n 2, 1) := by decide +kernel
theorem d_FM_isPath_13 : decode b_FM_isPath 13 = .ok (.iload_n 2, 1) := by decide +kernel
theorem d_FM_isPath_14 : decode b_FM_isPath 14 = .ok (.aload_n 0, 1) := by decide +kernel
theorem d_FM_isPath_15 : decode b_FM_isPath 15 = .ok (.arraylength, 1) := by decide +kernel
theorem d_FM_isPath_16 : decode b_FM_isPath 16 = .ok (.if_icmp .ge 32, 3) := by decide +kernel
theorem d_FM_isPath_19 : decode b_FM_isPath 19 = .ok (.aload_n 0, 1) := by decide +kernel
theorem d_FM_isPath_20 : decode b_FM_isPath 20 = .ok (.iload_n 2, 1) := by decide +kernel
theorem d_FM_isPath_21 : decode b_FM_isPath 21 = .ok (.caload, 1) := by decide +kernel
theorem d_FM_isPath_22 : decode b_FM_isPath 22 = .ok (.bipush 47, 2) := by decide +kernel
theorem d_FM_isPath_24 : decode b_FM_isPath 24 = .ok (.if_icmp .ne 18, 3) := by decide +kernel
theorem d_FM_isPath_27 : decode b_FM_isPath 27 = .ok (.aload_n 0, 1) := by decide +kernel
theorem d_FM_isPath_28 : decode b_FM_isPath 28 = .ok (.iload_n 1, 1) := by decide +kernel
theorem d_FM_isPath_29 : decode b_FM_isPath 29 = .ok (.iload_n 2, 1) := by decide +kernel
theorem d_FM_isPath_30 : decode b_FM_isPath 30 = .ok (.invokestatic 33, 3) := by decide +kernel
theorem d_FM_isPath_33 : decode b_FM_isPath 33 = .ok (.ifCond .ne 5, 3) := by decide +kernel
theorem d_FM_isPath_36 : decode b_FM_isPath 36 = .ok (.iconst 0, 1) := by decide +kernel
theorem d_FM_isPath_37 : decode b_FM_isPath 37 = .ok (.ireturn, 1) := by decide +kernel
theorem d_FM_isPath_38 : decode b_FM_isPath 38 = .ok (.iload_n 2, 1) := by decide +kernel
theorem d_FM_isPath_39 : decode b_FM_isPath 39 = .ok (.iconst 1, 1) := by decide +kernel
theorem d_FM_isPath_40 : decode b_FM_isPath 40 = .ok (.iadd, 1) := by decide +kernel
theorem d_FM_isPath_41 : decode b_FM_isPath 41 = .ok (.istore_n 1, 1) := by decide +kernel
theorem d_FM_isPath_42 : decode b_FM_isPath 42 = .ok (.iinc 2 1, 3) := by decide +kernel
theorem d_FM_isPath_45 : decode b_FM_isPath 45 = .ok (.goto (-32), 3) := by decide +kernel
theorem d_FM_isPath_48 : decode b_FM_isPath 48 = .ok (.aload_n 0, 1) := by decide +kernel
theorem d_FM_isPath_49 : decode b_FM_isPath 49 = .ok (.iload_n 1, 1) := by decide +kernel
theorem d_FM_isPath_50 : decode b_FM_isPath 50 = .ok (.aload_n 0, 1) := by decide +kernel
theorem d_FM_isPath_51 : decode b_FM_isPath 51 = .ok (.arraylength, 1) := by decide +kernel
theorem d_FM_isPath_52 : decode b_FM_isPath 52 = .ok (.invokestatic 33, 3) := by decide +kernel
theorem d_FM_isPath_55 : decode b_FM_isPath 55 = .ok (.ireturn, 1) := by decide +kernel
theorem d_FM_isNameAndValue_0 : decode b_FM_isNameAndValue 0 = .ok (.aload_n 0, 1) := by decide +kernel
theorem d_FM_isNameAndValue_1 : decode b_FM_isNameAndValue 1 = .ok (.invokestatic 18, 3) := by decide +kernel
theorem d_FM_isNameAndValue_4 : decode b_FM_isNameAndValue 4 = .ok (.istore_n 1, 1) := by decide +kernel
theorem d_FM_isNameAndValue_5 : decode b_FM_isNameAndValue 5 = .ok (.iload_n 1, 1) := by decide +kernel
theorem d_FM_isNameAndValue_6 : decode b_FM_isNameAndValue 6 = .ok (.aload_n 0, 1) := by decide +kernel
theorem d_FM_isNameAndValue_7 : decode b_FM_isNameAndValue 7 = .ok (.arraylength, 1) := by decide +kernel
theorem d_FM_isNameAndValue_8 : decode b_FM_isNameAndValue 8 = .ok (.if_icmp .ge 26, 3) := by decide +kernel
theorem d_FM_isNameAndValue_11 : decode b_FM_isNameAndValue 11 = .ok (.aload_n 0, 1) := by decide +kernel
theorem d_FM_isNameAndValue_12 : decode b_FM_isNameAndValue 12 = .ok (.iload_n 1, 1) := by decide +kernel
theorem d_FM_isNameAndValue_13 : decode b_FM_isNameAndValue 13 = .ok (.invokestatic 29, 3) := by decide +kernel
theorem d_FM_isNameAndValue_16 : decode b_FM_isNameAndValue 16 = .ok (.ifCond .eq 18, 3) := by decide +kernel
theorem d_FM_isNameAndValue_19 : decode b_FM_isNameAndValue 19 = .ok (.aload_n 0, 1) := by decide +kernel
theorem d_FM_isNameAndValue_20 : decode b_FM_isNameAndValue 20 = .ok (.arraylength, 1) := by decide +kernel
theorem d_FM_isNameAndValue_21 : decode b_FM_isNameAndValue 21 = .ok (.iload_n 1, 1) := by decide +kernel
theorem d_FM_isNameAndValue_22 : decode b_FM_isNameAndValue 22 = .ok (.isub, 1) := by decide +kernel
theorem d_FM_isNameAndValue_23 : decode b_FM_isNameAndValue 23 = .ok (.iconst 1, 1) := by decide +kernel
theorem d_FM_isNameAndValue_24 : decode b_FM_isNameAndValue 24 = .ok (.isub, 1) := by decide +kernel
theorem d_FM_isNameAndValue_25 : decode b_FM_isNameAndValue 25 = .ok (.bipush 40, 2) := by decide +kernel
theorem d_FM_isNameAndValue_27 : decode b_FM_isNameAndValue 27 = .ok (.if_icmp .gt 7, 3) := by decide +kernel
theorem d_FM_isNameAndValue_30 : decode b_FM_isNameAndValue 30 = .ok (.iconst 1, 1) := by decide +kernel
theorem d_FM_isNameAndValue_31 : decode b_FM_isNameAndValue 31 = .ok (.goto 4, 3) := by decide +kernel
theorem d_FM_isNameAndValue_34 : decode b_FM_isNameAndValue 34 = .ok (.iconst 0, 1) := by decide +kernel
theorem d_FM_isNameAndValue_35 : decode b_FM_isNameAndValue 35 = .ok (.ireturn, 1) := by decide +kernel
theorem d_FM_fits_0 : decode b_FM_fits 0 = .ok (.iload_n 1, 1) := by decide +kernel
theorem d_FM_fits_1 : decode b_FM_fits 1 = .ok (.tableswitch 55 0 6 #[43, 45, 50, 45, 50, 45, 50], 43) := by decide +kernel
theorem d_FM_fits_44 : decode b_FM_fits 44 = .ok (.iconst 1, 1) := by decide +kernel
theorem d_FM_fits_45 : decode b_FM_fits 45 = .ok (.ireturn, 1) := by decide +kernel
theorem d_FM_fits_46 : decode b_FM_fits 46 = .ok (.aload_n 0, 1) := by decide +kernel
theorem d_FM_fits_47 : decode b_FM_fits 47 = .ok (.invokestatic 9, 3) := by decide +kernel
theorem d_FM_fits_50 : decode b_FM_fits 50 = .ok (.ireturn, 1) := by decide +kernel
theorem d_FM_fits_51 : decode b_FM_fits 51 = .ok (.aload_n 0, 1) := by decide +kernel
theorem d_FM_fits_52 : decode b_FM_fits 52 = .ok (.invokestatic 15, 3) := by decide +kernel
theorem d_FM_fits_55 : decode b_FM_fits 55 = .ok (.ireturn, 1) := by decide +kernel
theorem d_FM_fits_56 : decode b_FM_fits 56 = .ok (.iconst 0, 1) := by decide +kernel
theorem d_FM_fits_57 : decode b_FM_fits 57 = .ok (.ireturn, 1) := by decide +kernel
theorem d_FM_keyLength_0 : decode b_FM_keyLength 0 = .ok (.iload_n 1, 1) := by decide +kernel
theorem d_FM_keyLength_1 : decode b_FM_keyLength 1 = .ok (.tableswitch 47 1 6 #[39, 42, 39, 42, 39, 42], 39) := by decide +kernel
theorem d_FM_keyLength_40 : decode b_FM_keyLength 40 = .ok (.aload_n 0, 1) := by decide +kernel
theorem d_FM_keyLength_41 : decode b_FM_keyLength 41 = .ok (.arraylength, 1) := by decide +kernel
theorem d_FM_keyLength_42 : decode b_FM_keyLength 42 = .ok (.ireturn, 1) := by decide +kernel
theorem d_FM_keyLength_43 : decode b_FM_keyLength 43 = .ok (.aload_n 0, 1) := by decide +kernel
theorem d_FM_keyLength_44 : decode b_FM_keyLength 44 = .ok (.invokestatic 18, 3) := by decide +kernel
theorem d_FM_keyLength_47 : decode b_FM_keyLength 47 = .ok (.ireturn, 1) := by decide +kernel
theorem d_FM_keyLength_48 : decode b_FM_keyLength 48 = .ok (.iconst 0, 1) := by decide +kernel
theorem d_FM_keyLength_49 : decode b_FM_keyLength 49 = .ok (.ireturn, 1) := by decide +kernel
set_option maxHeartbeats 4000000 in
set_option maxRecDepth 100000 in
/-- where the first = stands, or the length -/
theorem c_FM_nameLength (l : Launch) (D : va_G) (ct : Nat → ClassId) (Z : hp_Z) (hZ : hp_Zok Z) (M : hp_M) (sz : Nat) (t : Nat) (x : List Nat) (hL : x.length ≤ 64) (hc_x : ∀ i, x.getD i 0 < 65536) (f_t : M t = some (.inl (ct 0, x.length, .inl (tx x)))) : Mi l y_FM_nameLength b_FM_nameLength 2 (some .int) 0 0 0 0 [.ref t] D ct Z M sz (fun r M1 => M1 = M ∧ ∃ n : Nat, r = nI n ∧ isEqs x n) := by
  refine hp_start (by decide) (Nat.le_of_ble_eq_true rfl) (fun p e s m below meth c ls S hret hlk hnm hsz hK hM hS hA hz hl => ?_)
  have hx := S.1
  have hb := S.2.1
  have hl : lv_has ls 2 [(0, .ref t)] := hl
  refine lv_iconst (v := nI 0) hx hb d_FM_nameLength_0 rfl ?_
  refine lv_istore_n (lv' := [(1, .int (nI 0)), (0, .ref t)]) hx hb d_FM_nameLength_1 rfl hl (by decide) rfl (fun ls hl => ?_)
  replace hl : lv_has ls 2 [(0, .ref t), (1, .int (nI 0))] := lv_sub hl [1, 0] rfl
  obtain ⟨j, e9j⟩ : ∃ z : Nat, z = 0 := ⟨_, rfl⟩
  replace hl : lv_has ls 2 [(0, .ref t), (1, .int (nI j))] := by subst e9j; exact hl
  have hinv : ∀ i, i < j → x.getD i 0 ≠ 61 := by subst e9j; intro i hi; omega
  obtain ⟨fu, hn⟩ : ∃ fu : Nat, j + fu = x.length := ⟨x.length - j, by omega⟩
  clear e9j
  induction fu generalizing j ls with
  | zero =>
    have hn : j = x.length := by omega
    refine lv_iload_n hx hb d_FM_nameLength_2 rfl (lv_at hl 1 rfl) ?_
    refine lv_aload_n hx hb d_FM_nameLength_3 rfl (lv_at hl 0 rfl) ?_
    refine hp_alen S hK hM 0 f_t rfl d_FM_nameLength_4 ?_
    refine nb_ge (tgt := 24) hx hb d_FM_nameLength_5 (by decide) (by omega) (by omega) (fun h1 => ?_) (fun h1 => ?_)
    · refine lv_aload_n hx hb d_FM_nameLength_24 rfl (lv_at hl 0 rfl) ?_
      refine hp_alen S hK hM 0 f_t rfl d_FM_nameLength_25 ?_
      exact hp_iret S hret hlk (rfl) hM hS (⟨rfl, x.length, rfl, Nat.le_refl _, fun i hi => hinv i (by omega), fun h => absurd h (Nat.lt_irrefl _)⟩) d_FM_nameLength_26
    · exact absurd hn (by omega)
  | succ fu ih =>
    refine lv_iload_n hx hb d_FM_nameLength_2 rfl (lv_at hl 1 rfl) ?_
    refine lv_aload_n hx hb d_FM_nameLength_3 rfl (lv_at hl 0 rfl) ?_
    refine hp_alen S hK hM 0 f_t rfl d_FM_nameLength_4 ?_
    refine nb_ge (tgt := 24) hx hb d_FM_nameLength_5 (by decide) (by omega) (by omega) (fun h2 => ?_) (fun h2 => ?_)
    · exact absurd hn (by omega)
    · refine lv_aload_n hx hb d_FM_nameLength_8 rfl (lv_at hl 0 rfl) ?_
      refine lv_iload_n hx hb d_FM_nameLength_9 rfl (lv_at hl 1 rfl) ?_
      refine hp_cald S hK hM 0 f_t rfl j rfl (by omega) (by omega) d_FM_nameLength_10 ?_
      refine lv_bipush (v := nI 61) hx hb d_FM_nameLength_11 rfl ?_
      refine nb_ne (tgt := 18) hx hb d_FM_nameLength_13 (by decide) (Nat.lt_trans (hc_x _) (by decide)) (by omega) (fun h61 => ?_) (fun h61 => ?_)
      · refine lv_iinc (v := nI (j + 1)) (lv' := [(1, .int (nI (j + 1))), (0, .ref t)]) hx hb d_FM_nameLength_18 hl (k := 1) rfl (nI_add j 1) (by decide) rfl (fun ls hl => ?_)
        refine lv_goto (tgt := 2) hx hb d_FM_nameLength_21 (by decide) ?_
        exact ih (ls := ls) (hl := lv_sub hl [1, 0] rfl) (j := j + 1) (hn := by omega) (hinv := lt_s hinv h61)
      · refine lv_iload_n hx hb d_FM_nameLength_16 rfl (lv_at hl 1 rfl) ?_
        exact hp_iret S hret hlk (rfl) hM hS (⟨rfl, j, rfl, by omega, hinv, fun _ => h61⟩) d_FM_nameLength_17
set_option maxHeartbeats 4000000 in
set_option maxRecDepth 100000 in
/-- the first n characters are a NAME -/
theorem c_FM_isName (l : Launch) (D : va_G) (ct : Nat → ClassId) (Z : hp_Z) (hZ : hp_Zok Z) (M : hp_M) (sz : Nat) (t : Nat) (x : List Nat) (hL : x.length ≤ 64) (hc_x : ∀ i, x.getD i 0 < 65536) (f_t : M t = some (.inl (ct 0, x.length, .inl (tx x)))) (n : Nat) (hn31 : n < 2 ^ 31) : Mi l y_FM_isName b_FM_isName 3 (some .boolean) 1 20 0 0 [.ref t, .int (nI n)] D ct Z M sz (fun r M1 => M1 = M ∧ bo r (isNam x n)) := by
  refine hp_start (by decide) (Nat.le_of_ble_eq_true rfl) (fun p e s m below meth c ls S hret hlk hnm hsz hK hM hS hA hz hl => ?_)
  have hx := S.1
  have hb := S.2.1
  have hl : lv_has ls 3 [(0, .ref t), (1, .int (nI n))] := hl
  refine lv_iload_n hx hb d_FM_isName_0 rfl (lv_at hl 1 rfl) ?_
  refine lv_iconst (v := nI 1) hx hb d_FM_isName_1 rfl ?_
  refine nb_lt (tgt := 26) hx hb d_FM_isName_2 (by decide) (by omega) (by omega) (fun ha => ?_) (fun ha => ?_)
  · refine lv_iconst (v := nI 0) hx hb d_FM_isName_26 rfl ?_
    exact hp_iret S hret hlk (rfl) hM hS (⟨rfl, bo_f (fun q => by obtain ⟨q1, q2, q3, q4, q5⟩ := q; first | omega | exact hd1 q4)⟩) d_FM_isName_27
  · refine lv_iload_n hx hb d_FM_isName_5 rfl (lv_at hl 1 rfl) ?_
    refine lv_bipush (v := nI 16) hx hb d_FM_isName_6 rfl ?_
    refine nb_gt (tgt := 26) hx hb d_FM_isName_8 (by decide) (by omega) (by omega) (fun hb1 => ?_) (fun hb1 => ?_)
    · refine lv_iconst (v := nI 0) hx hb d_FM_isName_26 rfl ?_
      exact hp_iret S hret hlk (rfl) hM hS (⟨rfl, bo_f (fun q => by obtain ⟨q1, q2, q3, q4, q5⟩ := q; first | omega | exact hd1 q4)⟩) d_FM_isName_27
    · refine lv_iload_n hx hb d_FM_isName_11 rfl (lv_at hl 1 rfl) ?_
      refine lv_aload_n hx hb d_FM_isName_12 rfl (lv_at hl 0 rfl) ?_
      refine hp_alen S hK hM 0 f_t rfl d_FM_isName_13 ?_
      refine nb_gt (tgt := 26) hx hb d_FM_isName_14 (by decide) (by omega) (by omega) (fun hc1 => ?_) (fun hc1 => ?_)
      · refine lv_iconst (v := nI 0) hx hb d_FM_isName_26 rfl ?_
        exact hp_iret S hret hlk (rfl) hM hS (⟨rfl, bo_f (fun q => by obtain ⟨q1, q2, q3, q4, q5⟩ := q; first | omega | exact hd1 q4)⟩) d_FM_isName_27
      · refine lv_aload_n hx hb d_FM_isName_17 rfl (lv_at hl 0 rfl) ?_
        refine lv_iconst (v := nI 0) hx hb d_FM_isName_18 rfl ?_
        refine hp_cald S hK hM 0 f_t rfl 0 rfl (by omega) (by omega) d_FM_isName_19 ?_
        refine hp_calli (go_S S hZ hK hM hS hA hz (c_FM_isLetter l D ct Z hZ _ _ (x.getD 0 0) (hc_x _)) mc_FM_isLetter mz_FM ml_FM_22 ms_FM_isLetter hd_FM_isLetter rfl ⟨by decide, by decide⟩ hl.1 rfl (Nat.le_of_ble_eq_true rfl) d_FM_isName_20 ⟨by decide, by decide⟩) hM hS hA (fun r1 N2 H locs hr1 hM hS => ?_)
        rw [hr1.1] at hM
        replace hr1 := hr1.2
        refine nt_ne (tgt := 28) hx hb d_FM_isName_23 (by decide) hr1 (fun hd1 => ?_) (fun hd1 => ?_)
        · refine lv_iconst (v := nI 1) hx hb d_FM_isName_28 rfl ?_
          refine lv_istore_n (lv' := [(2, .int (nI 1)), (0, .ref t), (1, .int (nI n))]) hx hb d_FM_isName_29 rfl hl (by decide) rfl (fun ls hl => ?_)
          replace hl : lv_has ls 3 [(0, .ref t), (1, .int (nI n)), (2, .int (nI 1))] := lv_sub hl [1, 2, 0] rfl
          obtain ⟨j, e9j⟩ : ∃ z : Nat, z = 1 := ⟨_, rfl⟩
          replace hl : lv_has ls 3 [(0, .ref t), (1, .int (nI n)), (2, .int (nI j))] := by subst e9j; exact hl
          have hinv : ∀ i, 1 ≤ i → i < j → isWrd (x.getD i 0) := by subst e9j; intro i h1 h2; omega
          have hj1 : 1 ≤ j := by subst e9j; decide
          obtain ⟨fu, hn⟩ : ∃ fu : Nat, j + fu = n := ⟨n - j, by omega⟩
          clear e9j
          induction fu generalizing j H locs ls with
          | zero =>
            have hn : j = n := by omega
            refine lv_iload_n hx hb d_FM_isName_30 rfl (lv_at hl 2 rfl) ?_
            refine lv_iload_n hx hb d_FM_isName_31 rfl (lv_at hl 1 rfl) ?_
            refine nb_ge (tgt := 69) hx hb d_FM_isName_32 (by decide) (by omega) (by omega) (fun h3 => ?_) (fun h3 => ?_)
            · refine lv_iconst (v := nI 1) hx hb d_FM_isName_69 rfl ?_
              exact hp_iret S hret hlk (rfl) hM hS (⟨rfl, bo_t ⟨by omega, by omega, by omega, hd1, fun i h1 h2 => hinv i h1 (by omega)⟩⟩) d_FM_isName_70
            · exact absurd hn (by omega)
          | succ fu ih =>
            refine lv_iload_n hx hb d_FM_isName_30 rfl (lv_at hl 2 rfl) ?_
            refine lv_iload_n hx hb d_FM_isName_31 rfl (lv_at hl 1 rfl) ?_
            refine nb_ge (tgt := 69) hx hb d_FM_isName_32 (by decide) (by omega) (by omega) (fun h4 => ?_) (fun h4 => ?_)
            · exact absurd hn (by omega)
            · refine lv_aload_n hx hb d_FM_isName_35 rfl (lv_at hl 0 rfl) ?_
              refine lv_iload_n hx hb d_FM_isName_36 rfl (lv_at hl 2 rfl) ?_
              refine hp_cald S hK hM 0 f_t rfl j rfl (by omega) (by omega) d_FM_isName_37 ?_
              refine hp_calli (go_S S hZ hK hM hS hA hz (c_FM_isLetter l D ct Z hZ _ _ (x.getD j 0) (hc_x _)) mc_FM_isLetter mz_FM ml_FM_22 ms_FM_isLetter hd_FM_isLetter rfl ⟨by decide, by decide⟩ hl.1 rfl (Nat.le_of_ble_eq_true rfl) d_FM_isName_38 ⟨by decide, by decide⟩) hM hS hA (fun r5 N6 H locs hr5 hM hS => ?_)
              rw [hr5.1] at hM
              replace hr5 := hr5.2
              refine nt_ne (tgt := 63) hx hb d_FM_isName_41 (by decide) hr5 (fun he1 => ?_) (fun he1 => ?_)
              · refine lv_iinc (v := nI (j + 1)) (lv' := [(2, .int (nI (j + 1))), (0, .ref t), (1, .int (nI n))]) hx hb d_FM_isName_63 hl (k := 2) rfl (nI_add j 1) (by decide) rfl (fun ls hl => ?_)
                refine lv_goto (tgt := 30) hx hb d_FM_isName_66 (by decide) ?_
                exact ih (ls := ls) (hl := lv_sub hl [1, 2, 0] rfl) (j := j + 1) (hn := by omega) (hj1 := by omega) (hinv := lt_b hinv (by first | exact Or.inl he1 | exact Or.inr (Or.inl hf1) | exact Or.inr (Or.inr hg1))) (H := H) (locs := locs) (hM := hM) (hS := hS)
              · refine lv_aload_n hx hb d_FM_isName_44 rfl (lv_at hl 0 rfl) ?_
                refine lv_iload_n hx hb d_FM_isName_45 rfl (lv_at hl 2 rfl) ?_
                refine hp_cald S hK hM 0 f_t rfl j rfl (by omega) (by omega) d_FM_isName_46 ?_
                refine hp_calli (go_S S hZ hK hM hS hA hz (c_FM_isDigit l D ct Z hZ _ _ (x.getD j 0) (hc_x _)) mc_FM_isDigit mz_FM ml_FM_26 ms_FM_isDigit hd_FM_isDigit rfl ⟨by decide, by decide⟩ hl.1 rfl (Nat.le_of_ble_eq_true rfl) d_FM_isName_47 ⟨by decide, by decide⟩) hM hS hA (fun r7 N8 H locs hr7 hM hS => ?_)
                rw [hr7.1] at hM
                replace hr7 := hr7.2
                refine nt_ne (tgt := 63) hx hb d_FM_isName_50 (by decide) hr7 (fun hf1 => ?_) (fun hf1 => ?_)
                · refine lv_iinc (v := nI (j + 1)) (lv' := [(2, .int (nI (j + 1))), (0, .ref t), (1, .int (nI n))]) hx hb d_FM_isName_63 hl (k := 2) rfl (nI_add j 1) (by decide) rfl (fun ls hl => ?_)
                  refine lv_goto (tgt := 30) hx hb d_FM_isName_66 (by decide) ?_
                  exact ih (ls := ls) (hl := lv_sub hl [1, 2, 0] rfl) (j := j + 1) (hn := by omega) (hj1 := by omega) (hinv := lt_b hinv (by first | exact Or.inl he1 | exact Or.inr (Or.inl hf1) | exact Or.inr (Or.inr hg1))) (H := H) (locs := locs) (hM := hM) (hS := hS)
                · refine lv_aload_n hx hb d_FM_isName_53 rfl (lv_at hl 0 rfl) ?_
                  refine lv_iload_n hx hb d_FM_isName_54 rfl (lv_at hl 2 rfl) ?_
                  refine hp_cald S hK hM 0 f_t rfl j rfl (by omega) (by omega) d_FM_isName_55 ?_
                  refine lv_bipush (v := nI 95) hx hb d_FM_isName_56 rfl ?_
                  refine nb_eq (tgt := 63) hx hb d_FM_isName_58 (by decide) (Nat.lt_trans (hc_x _) (by decide)) (by omega) (fun hg1 => ?_) (fun hg1 => ?_)
                  · refine lv_iinc (v := nI (j + 1)) (lv' := [(2, .int (nI (j + 1))), (0, .ref t), (1, .int (nI n))]) hx hb d_FM_isName_63 hl (k := 2) rfl (nI_add j 1) (by decide) rfl (fun ls hl => ?_)
                    refine lv_goto (tgt := 30) hx hb d_FM_isName_66 (by decide) ?_
                    exact ih (ls := ls) (hl := lv_sub hl [1, 2, 0] rfl) (j := j + 1) (hn := by omega) (hj1 := by omega) (hinv := lt_b hinv (by first | exact Or.inl he1 | exact Or.inr (Or.inl hf1) | exact Or.inr (Or.inr hg1))) (H := H) (locs := locs) (hM := hM) (hS := hS)
                  · refine lv_iconst (v := nI 0) hx hb d_FM_isName_61 rfl ?_
                    exact hp_iret S hret hlk (rfl) hM hS (⟨rfl, bo_f (fun q => (q.2.2.2.2 j (by omega) (by omega)).elim he1 (fun q => q.elim hf1 hg1))⟩) d_FM_isName_62
        · refine lv_iconst (v := nI 0) hx hb d_FM_isName_26 rfl ?_
          exact hp_iret S hret hlk (rfl) hM hS (⟨rfl, bo_f (fun q => by obtain ⟨q1, q2, q3, q4, q5⟩ := q; first | omega | exact hd1 q4)⟩) d_FM_isName_27
set_option maxHeartbeats 4000000 in
set_option maxRecDepth 100000 in
/-- the characters from a to b are a PIECE -/
theorem c_FM_isPiece (l : Launch) (D : va_G) (ct : Nat → ClassId) (Z : hp_Z) (hZ : hp_Zok Z) (M : hp_M) (sz : Nat) (t : Nat) (x : List Nat) (hL : x.length ≤ 64) (hc_x : ∀ i, x.getD i 0 < 65536) (f_t : M t = some (.inl (ct 0, x.length, .inl (tx x)))) (a b : Nat) (hab : a ≤ b) (hbx : b ≤ x.length) : Mi l y_FM_isPiece b_FM_isPiece 6 (some .boolean) 1 20 0 0 [.ref t, .int (nI a), .int (nI b)] D ct Z M sz (fun r M1 => M1 = M ∧ bo r (isPce x a b)) := by
  refine hp_start (by decide) (Nat.le_of_ble_eq_true rfl) (fun p e s m below meth c ls S hret hlk hnm hsz hK hM hS hA hz hl => ?_)
  have hx := S.1
  have hb := S.2.1
  have hl : lv_has ls 6 [(0, .ref t), (1, .int (nI a)), (2, .int (nI b))] := hl
  refine lv_iconst (v := nI 1) hx hb d_FM_isPiece_0 rfl ?_
  refine lv_istore_n (lv' := [(3, .int (nI 1)), (0, .ref t), (1, .int (nI a)), (2, .int (nI b))]) hx hb d_FM_isPiece_1 rfl hl (by decide) rfl (fun ls hl => ?_)
  refine lv_iload_n hx hb d_FM_isPiece_2 rfl (lv_at hl 2 rfl) ?_
  refine lv_istore (lv' := [(4, .int (nI a)), (3, .int (nI 1)), (0, .ref t), (1, .int (nI a)), (2, .int (nI b))]) hx hb d_FM_isPiece_3 hl (by decide) rfl (fun ls hl => ?_)
  replace hl : lv_has ls 6 [(0, .ref t), (1, .int (nI a)), (2, .int (nI b)), (3, .int (nI 1)), (4, .int (nI a))] := lv_sub hl [2, 3, 4, 1, 0] rfl
  obtain ⟨j, e9j⟩ : ∃ z : Nat, z = a := ⟨_, rfl⟩
  obtain ⟨d, e9d⟩ : ∃ z : Nat, z = 1 := ⟨_, rfl⟩
  replace hl : lv_has ls 6 [(0, .ref t), (1, .int (nI a)), (2, .int (nI b)), (3, .int (nI d)), (4, .int (nI j))] := by subst e9j e9d; exact hl
  obtain ⟨H, e9H⟩ : ∃ z : Heap, z = s.heap := ⟨_, rfl⟩
  obtain ⟨locs, e9L⟩ : ∃ z : List Loc, z = [] := ⟨_, rfl⟩
  replace hM : hp_H D ccl (hp_A M sz) M H := by rw [e9H]; exact hM
  replace hS : va_S (hp_A M sz) s.heap H locs := by rw [e9H, e9L]; exact hS
  rw [← e9H, ← e9L]
  clear e9H e9L
  have haj : a ≤ j := by subst e9j e9d; exact Nat.le_refl _
  have hinv : ∀ i, a ≤ i → i < j → isDot (x.getD i 0) := by subst e9j e9d; intro i h1 h2; omega
  have hd : (d = 1 ∧ ∀ i, a ≤ i → i < j → x.getD i 0 = 46) ∨ (d = 0 ∧ ∃ i, a ≤ i ∧ i < j ∧ x.getD i 0 ≠ 46) := by subst e9j e9d; exact Or.inl ⟨rfl, fun i h1 h2 => by omega⟩
  obtain ⟨fu, hn⟩ : ∃ fu : Nat, j + fu = b := ⟨b - j, by omega⟩
  clear e9j e9d
  induction fu generalizing j d H locs ls with
  | zero =>
    have hn : j = b := by omega
    refine lv_iload hx hb d_FM_isPiece_5 (lv_at hl 4 rfl) ?_
    refine lv_iload_n hx hb d_FM_isPiece_7 rfl (lv_at hl 2 rfl) ?_
    refine nb_ge (tgt := 64) hx hb d_FM_isPiece_8 (by decide) (by omega) (by omega) (fun h1 => ?_) (fun h1 => ?_)
    · refine lv_iload_n hx hb d_FM_isPiece_64 rfl (lv_at hl 3 rfl) ?_
      refine nz_eq (tgt := 75) hx hb d_FM_isPiece_65 (by decide) (by omega) (fun hk1 => ?_) (fun hk1 => ?_)
      · refine lv_iconst (v := nI 1) hx hb d_FM_isPiece_75 rfl ?_
        refine lv_goto (tgt := 80) hx hb d_FM_isPiece_76 (by decide) ?_
        exact hp_iret S hret hlk rfl hM hS ⟨rfl, bo_t ⟨fun i h1 h2 => hinv i h1 (by omega), fun h => hd.elim (fun q => by omega) (fun q => by obtain ⟨-, i, q1, q2, q3⟩ := q; exact absurd (h i q1 (by omega)) q3)⟩⟩ d_FM_isPiece_80
      · refine lv_iload_n hx hb d_FM_isPiece_68 rfl (lv_at hl 2 rfl) ?_
        refine lv_iload_n hx hb d_FM_isPiece_69 rfl (lv_at hl 1 rfl) ?_
        refine nb_isub hx hb d_FM_isPiece_70 (by omega) ?_
        refine lv_iconst (v := nI 2) hx hb d_FM_isPiece_71 rfl ?_
        refine nb_le (tgt := 79) hx hb d_FM_isPiece_72 (by decide) (by omega) (by omega) (fun hm1 => ?_) (fun hm1 => ?_)
        · refine lv_iconst (v := nI 0) hx hb d_FM_isPiece_79 rfl ?_
          exact hp_iret S hret hlk rfl hM hS ⟨rfl, bo_f (fun q => by have q2 := q.2 (hd.elim (fun z => fun i h1 h2 => z.2 i h1 (by omega)) (fun z => by omega)); omega)⟩ d_FM_isPiece_80
        · refine lv_iconst (v := nI 1) hx hb d_FM_isPiece_75 rfl ?_
          refine lv_goto (tgt := 80) hx hb d_FM_isPiece_76 (by decide) ?_
          exact hp_iret S hret hlk rfl hM hS ⟨rfl, bo_t ⟨fun i h1 h2 => hinv i h1 (by omega), fun h => hd.elim (fun q => by omega) (fun q => by obtain ⟨-, i, q1, q2, q3⟩ := q; exact absurd (h i q1 (by omega)) q3)⟩⟩ d_FM_isPiece_80
    · exact absurd hn (by omega)
  | succ fu ih =>
    refine lv_iload hx hb d_FM_isPiece_5 (lv_at hl 4 rfl) ?_
    refine lv_iload_n hx hb d_FM_isPiece_7 rfl (lv_at hl 2 rfl) ?_
    refine nb_ge (tgt := 64) hx hb d_FM_isPiece_8 (by decide) (by omega) (by omega) (fun h2 => ?_) (fun h2 => ?_)
    · exact absurd hn (by omega)
    · refine lv_aload_n hx hb d_FM_isPiece_11 rfl (lv_at hl 0 rfl) ?_
      refine lv_iload hx hb d_FM_isPiece_12 (lv_at hl 4 rfl) ?_
      refine hp_cald S hK hM 0 f_t rfl j rfl (by omega) (by omega) d_FM_isPiece_14 ?_
      refine lv_istore (lv' := [(5, .int (nI (x.getD j 0))), (0, .ref t), (1, .int (nI a)), (2, .int (nI b)), (3, .int (nI d)), (4, .int (nI j))]) hx hb d_FM_isPiece_15 hl (by decide) rfl (fun ls hl => ?_)
      refine lv_iload hx hb d_FM_isPiece_17 (lv_at hl 0 rfl) ?_
      refine lv_bipush (v := nI 46) hx hb d_FM_isPiece_19 rfl ?_
      refine nb_eq (tgt := 58) hx hb d_FM_isPiece_21 (by decide) (Nat.lt_trans (hc_x _) (by decide)) (by omega) (fun h46 => ?_) (fun h46 => ?_)
      · refine lv_iinc (v := nI (j + 1)) (lv' := [(4, .int (nI (j + 1))), (5, .int (nI (x.getD j 0))), (0, .ref t), (1, .int (nI a)), (2, .int (nI b)), (3, .int (nI d))]) hx hb d_FM_isPiece_58 hl (k := 5) rfl (nI_add j 1) (by decide) rfl (fun ls hl => ?_)
        refine lv_goto (tgt := 5) hx hb d_FM_isPiece_61 (by decide) ?_
        exact ih (ls := ls) (hl := lv_sub hl [2, 3, 4, 5, 0] rfl) (j := j + 1) (hn := by omega) (d := d) (haj := by omega) (hinv := lt_b hinv (Or.inr (Or.inr h46))) (hd := hd.imp (fun q => ⟨q.1, lt_b q.2 h46⟩) (fun q => by obtain ⟨q0, i, q1, q2, q3⟩ := q; exact ⟨q0, i, q1, by omega, q3⟩)) (H := H) (locs := locs) (hM := hM) (hS := hS)
      · refine lv_iconst (v := nI 0) hx hb d_FM_isPiece_24 rfl ?_
        refine lv_istore_n (lv' := [(3, .int (nI 0)), (5, .int (nI (x.getD j 0))), (0, .ref t), (1, .int (nI a)), (2, .int (nI b)), (4, .int (nI j))]) hx hb d_FM_isPiece_25 rfl hl (by decide) rfl (fun ls hl => ?_)
        refine lv_iload hx hb d_FM_isPiece_26 (lv_at hl 1 rfl) ?_
        refine hp_calli (go_S S hZ hK hM hS hA hz (c_FM_isLetter l D ct Z hZ _ _ (x.getD j 0) (hc_x _)) mc_FM_isLetter mz_FM ml_FM_22 ms_FM_isLetter hd_FM_isLetter rfl ⟨by decide, by decide⟩ hl.1 rfl (Nat.le_of_ble_eq_true rfl) d_FM_isPiece_28 ⟨by decide, by decide⟩) hM hS hA (fun r3 N4 H locs hr3 hM hS => ?_)
        rw [hr3.1] at hM
        replace hr3 := hr3.2
        refine nt_ne (tgt := 58) hx hb d_FM_isPiece_31 (by decide) hr3 (fun he1 => ?_) (fun he1 => ?_)
        · refine lv_iinc (v := nI (j + 1)) (lv' := [(4, .int (nI (j + 1))), (3, .int (nI 0)), (5, .int (nI (x.getD j 0))), (0, .ref t), (1, .int (nI a)), (2, .int (nI b))]) hx hb d_FM_isPiece_58 hl (k := 5) rfl (nI_add j 1) (by decide) rfl (fun ls hl => ?_)
          refine lv_goto (tgt := 5) hx hb d_FM_isPiece_61 (by decide) ?_
          exact ih (ls := ls) (hl := lv_sub hl [3, 4, 5, 1, 0] rfl) (j := j + 1) (hn := by omega) (d := 0) (haj := by omega) (hinv := lt_b hinv (by first | exact Or.inl (Or.inl he1) | exact Or.inl (Or.inr (Or.inl hf1)) | exact Or.inl (Or.inr (Or.inr hg1)) | exact Or.inr (Or.inl hh1))) (hd := Or.inr ⟨rfl, j, haj, by omega, h46⟩) (H := H) (locs := locs) (hM := hM) (hS := hS)
        · refine lv_iload hx hb d_FM_isPiece_34 (lv_at hl 1 rfl) ?_
          refine hp_calli (go_S S hZ hK hM hS hA hz (c_FM_isDigit l D ct Z hZ _ _ (x.getD j 0) (hc_x _)) mc_FM_isDigit mz_FM ml_FM_26 ms_FM_isDigit hd_FM_isDigit rfl ⟨by decide, by decide⟩ hl.1 rfl (Nat.le_of_ble_eq_true rfl) d_FM_isPiece_36 ⟨by decide, by decide⟩) hM hS hA (fun r5 N6 H locs hr5 hM hS => ?_)
          rw [hr5.1] at hM
          replace hr5 := hr5.2
          refine nt_ne (tgt := 58) hx hb d_FM_isPiece_39 (by decide) hr5 (fun hf1 => ?_) (fun hf1 => ?_)
          · refine lv_iinc (v := nI (j + 1)) (lv' := [(4, .int (nI (j + 1))), (3, .int (nI 0)), (5, .int (nI (x.getD j 0))), (0, .ref t), (1, .int (nI a)), (2, .int (nI b))]) hx hb d_FM_isPiece_58 hl (k := 5) rfl (nI_add j 1) (by decide) rfl (fun ls hl => ?_)
            refine lv_goto (tgt := 5) hx hb d_FM_isPiece_61 (by decide) ?_
            exact ih (ls := ls) (hl := lv_sub hl [3, 4, 5, 1, 0] rfl) (j := j + 1) (hn := by omega) (d := 0) (haj := by omega) (hinv := lt_b hinv (by first | exact Or.inl (Or.inl he1) | exact Or.inl (Or.inr (Or.inl hf1)) | exact Or.inl (Or.inr (Or.inr hg1)) | exact Or.inr (Or.inl hh1))) (hd := Or.inr ⟨rfl, j, haj, by omega, h46⟩) (H := H) (locs := locs) (hM := hM) (hS := hS)
          · refine lv_iload hx hb d_FM_isPiece_42 (lv_at hl 1 rfl) ?_
            refine lv_bipush (v := nI 95) hx hb d_FM_isPiece_44 rfl ?_
            refine nb_eq (tgt := 58) hx hb d_FM_isPiece_46 (by decide) (Nat.lt_trans (hc_x _) (by decide)) (by omega) (fun hg1 => ?_) (fun hg1 => ?_)
            · refine lv_iinc (v := nI (j + 1)) (lv' := [(4, .int (nI (j + 1))), (3, .int (nI 0)), (5, .int (nI (x.getD j 0))), (0, .ref t), (1, .int (nI a)), (2, .int (nI b))]) hx hb d_FM_isPiece_58 hl (k := 5) rfl (nI_add j 1) (by decide) rfl (fun ls hl => ?_)
              refine lv_goto (tgt := 5) hx hb d_FM_isPiece_61 (by decide) ?_
              exact ih (ls := ls) (hl := lv_sub hl [3, 4, 5, 1, 0] rfl) (j := j + 1) (hn := by omega) (d := 0) (haj := by omega) (hinv := lt_b hinv (by first | exact Or.inl (Or.inl he1) | exact Or.inl (Or.inr (Or.inl hf1)) | exact Or.inl (Or.inr (Or.inr hg1)) | exact Or.inr (Or.inl hh1))) (hd := Or.inr ⟨rfl, j, haj, by omega, h46⟩) (H := H) (locs := locs) (hM := hM) (hS := hS)
            · refine lv_iload hx hb d_FM_isPiece_49 (lv_at hl 1 rfl) ?_
              refine lv_bipush (v := nI 45) hx hb d_FM_isPiece_51 rfl ?_
              refine nb_eq (tgt := 58) hx hb d_FM_isPiece_53 (by decide) (Nat.lt_trans (hc_x _) (by decide)) (by omega) (fun hh1 => ?_) (fun hh1 => ?_)
              · refine lv_iinc (v := nI (j + 1)) (lv' := [(4, .int (nI (j + 1))), (3, .int (nI 0)), (5, .int (nI (x.getD j 0))), (0, .ref t), (1, .int (nI a)), (2, .int (nI b))]) hx hb d_FM_isPiece_58 hl (k := 5) rfl (nI_add j 1) (by decide) rfl (fun ls hl => ?_)
                refine lv_goto (tgt := 5) hx hb d_FM_isPiece_61 (by decide) ?_
                exact ih (ls := ls) (hl := lv_sub hl [3, 4, 5, 1, 0] rfl) (j := j + 1) (hn := by omega) (d := 0) (haj := by omega) (hinv := lt_b hinv (by first | exact Or.inl (Or.inl he1) | exact Or.inl (Or.inr (Or.inl hf1)) | exact Or.inl (Or.inr (Or.inr hg1)) | exact Or.inr (Or.inl hh1))) (hd := Or.inr ⟨rfl, j, haj, by omega, h46⟩) (H := H) (locs := locs) (hM := hM) (hS := hS)
              · refine lv_iconst (v := nI 0) hx hb d_FM_isPiece_56 rfl ?_
                exact hp_iret S hret hlk (rfl) hM hS (⟨rfl, bo_f (fun q => (q.1 j (by omega) (by omega)).elim (fun q => q.elim he1 (fun q => q.elim hf1 hg1)) (fun q => q.elim hh1 h46))⟩) d_FM_isPiece_57
set_option maxHeartbeats 4000000 in
set_option maxRecDepth 100000 in
/-- a PATH -/
theorem c_FM_isPath (l : Launch) (D : va_G) (ct : Nat → ClassId) (Z : hp_Z) (hZ : hp_Zok Z) (M : hp_M) (sz : Nat) (t : Nat) (x : List Nat) (hL : x.length ≤ 64) (hc_x : ∀ i, x.getD i 0 < 65536) (f_t : M t = some (.inl (ct 0, x.length, .inl (tx x)))) : Mi l y_FM_isPath b_FM_isPath 3 (some .boolean) 2 45 0 0 [.ref t] D ct Z M sz (fun r M1 => M1 = M ∧ bo r (isPth x)) := by
  refine hp_start (by decide) (Nat.le_of_ble_eq_true rfl) (fun p e s m below meth c ls S hret hlk hnm hsz hK hM hS hA hz hl => ?_)
  have hx := S.1
  have hb := S.2.1
  have hl : lv_has ls 3 [(0, .ref t)] := hl
  refine lv_aload_n hx hb d_FM_isPath_0 rfl (lv_at hl 0 rfl) ?_
  refine hp_alen S hK hM 0 f_t rfl d_FM_isPath_1 ?_
  refine lv_bipush (v := nI 40) hx hb d_FM_isPath_2 rfl ?_
  refine nb_le (tgt := 9) hx hb d_FM_isPath_4 (by decide) (by omega) (by omega) (fun h40 => ?_) (fun h40 => ?_)
  · refine lv_iconst (v := nI 0) hx hb d_FM_isPath_9 rfl ?_
    refine lv_istore_n (lv' := [(1, .int (nI 0)), (0, .ref t)]) hx hb d_FM_isPath_10 rfl hl (by decide) rfl (fun ls hl => ?_)
    refine lv_iconst (v := nI 0) hx hb d_FM_isPath_11 rfl ?_
    refine lv_istore_n (lv' := [(2, .int (nI 0)), (1, .int (nI 0)), (0, .ref t)]) hx hb d_FM_isPath_12 rfl hl (by decide) rfl (fun ls hl => ?_)
    replace hl : lv_has ls 3 [(0, .ref t), (1, .int (nI 0)), (2, .int (nI 0))] := lv_sub hl [2, 1, 0] rfl
    obtain ⟨j, e9j⟩ : ∃ z : Nat, z = 0 := ⟨_, rfl⟩
    obtain ⟨st, e9st⟩ : ∃ z : Nat, z = 0 := ⟨_, rfl⟩
    replace hl : lv_has ls 3 [(0, .ref t), (1, .int (nI st)), (2, .int (nI j))] := by subst e9j e9st; exact hl
    obtain ⟨H, e9H⟩ : ∃ z : Heap, z = s.heap := ⟨_, rfl⟩
    obtain ⟨locs, e9L⟩ : ∃ z : List Loc, z = [] := ⟨_, rfl⟩
    replace hM : hp_H D ccl (hp_A M sz) M H := by rw [e9H]; exact hM
    replace hS : va_S (hp_A M sz) s.heap H locs := by rw [e9H, e9L]; exact hS
    rw [← e9H, ← e9L]
    clear e9H e9L
    have hsj : st ≤ j := by subst e9j e9st; exact Nat.le_refl _
    have hst : st = 0 ∨ x.getD (st - 1) 0 = 47 := by subst e9j e9st; exact Or.inl rfl
    have hno : ∀ i, st ≤ i → i < j → x.getD i 0 ≠ 47 := by subst e9j e9st; intro i h1 h2; omega
    have hpc : ∀ a b, isBnd x a b → b < j → isPce x a b := by subst e9j e9st; intro a b _ h2; omega
    obtain ⟨fu, hn⟩ : ∃ fu : Nat, j + fu = x.length := ⟨x.length - j, by omega⟩
    clear e9j e9st
    induction fu generalizing j st H locs ls with
    | zero =>
      have hn : j = x.length := by omega
      refine lv_iload_n hx hb d_FM_isPath_13 rfl (lv_at hl 2 rfl) ?_
      refine lv_aload_n hx hb d_FM_isPath_14 rfl (lv_at hl 0 rfl) ?_
      refine hp_alen S hK hM 0 f_t rfl d_FM_isPath_15 ?_
      refine nb_ge (tgt := 48) hx hb d_FM_isPath_16 (by decide) (by omega) (by omega) (fun h1 => ?_) (fun h1 => ?_)
      · refine lv_aload_n hx hb d_FM_isPath_48 rfl (lv_at hl 0 rfl) ?_
        refine lv_iload_n hx hb d_FM_isPath_49 rfl (lv_at hl 1 rfl) ?_
        refine lv_aload_n hx hb d_FM_isPath_50 rfl (lv_at hl 0 rfl) ?_
        refine hp_alen S hK hM 0 f_t rfl d_FM_isPath_51 ?_
        refine hp_calli (go_S S hZ hK hM hS hA hz (c_FM_isPiece l D ct Z hZ _ _ t x hL hc_x f_t (st) (x.length) (by omega) (by omega)) mc_FM_isPiece mz_FM ml_FM_33 ms_FM_isPiece hd_FM_isPiece rfl ⟨by decide, by decide⟩ hl.1 rfl (Nat.le_of_ble_eq_true rfl) d_FM_isPath_52 ⟨by decide, by decide⟩) hM hS hA (fun r2 N3 H locs hr2 hM hS => ?_)
        rw [hr2.1] at hM
        replace hr2 := hr2.2
        have key : isBnd x st x.length := ⟨by omega, Nat.le_refl _, hst, Or.inl rfl, fun i h1 h2 => hno i h1 (by omega)⟩
        exact hp_iret S hret hlk (bo_nar hr2) hM hS ⟨rfl, bo_iff hr2 ⟨fun q => ⟨by omega, fun a b hb => by
          rcases Nat.lt_or_ge b j with z | z
          · exact hpc a b hb z
          · have hbe : b = x.length := by have := hb.2.1; omega
            subst hbe
            rw [isBnd_one hb (by omega) hst key.2.2.2.2]; exact q⟩, fun q => q.2 st x.length key⟩⟩ d_FM_isPath_55
      · exact absurd hn (by omega)
    | succ fu ih =>
      refine lv_iload_n hx hb d_FM_isPath_13 rfl (lv_at hl 2 rfl) ?_
      refine lv_aload_n hx hb d_FM_isPath_14 rfl (lv_at hl 0 rfl) ?_
      refine hp_alen S hK hM 0 f_t rfl d_FM_isPath_15 ?_
      refine nb_ge (tgt := 48) hx hb d_FM_isPath_16 (by decide) (by omega) (by omega) (fun h4 => ?_) (fun h4 => ?_)
      · exact absurd hn (by omega)
      · refine lv_aload_n hx hb d_FM_isPath_19 rfl (lv_at hl 0 rfl) ?_
        refine lv_iload_n hx hb d_FM_isPath_20 rfl (lv_at hl 2 rfl) ?_
        refine hp_cald S hK hM 0 f_t rfl j rfl (by omega) (by omega) d_FM_isPath_21 ?_
        refine lv_bipush (v := nI 47) hx hb d_FM_isPath_22 rfl ?_
        refine nb_ne (tgt := 42) hx hb d_FM_isPath_24 (by decide) (Nat.lt_trans (hc_x _) (by decide)) (by omega) (fun h47 => ?_) (fun h47 => ?_)
        · refine lv_iinc (v := nI (j + 1)) (lv' := [(2, .int (nI (j + 1))), (0, .ref t), (1, .int (nI st))]) hx hb d_FM_isPath_42 hl (k := 2) rfl (nI_add j 1) (by decide) rfl (fun ls hl => ?_)
          refine lv_goto (tgt := 13) hx hb d_FM_isPath_45 (by decide) ?_
          exact ih (ls := ls) (hl := lv_sub hl [1, 2, 0] rfl) (j := j + 1) (hn := by omega) (st := st) (hsj := by omega) (hst := hst) (hno := lt_b hno h47) (hpc := fun a b hb z => hpc a b hb (by rcases Nat.lt_or_eq_of_le (Nat.le_of_lt_succ z) with q | q; exact q; exact absurd (by rw [q] at hb; exact hb.2.2.2.1.elim (fun q => by omega) id) h47)) (H := H) (locs := locs) (hM := hM) (hS := hS)
        · refine lv_aload_n hx hb d_FM_isPath_27 rfl (lv_at hl 0 rfl) ?_
          refine lv_iload_n hx hb d_FM_isPath_28 rfl (lv_at hl 1 rfl) ?_
          refine lv_iload_n hx hb d_FM_isPath_29 rfl (lv_at hl 2 rfl) ?_
          refine hp_calli (go_S S hZ hK hM hS hA hz (c_FM_isPiece l D ct Z hZ _ _ t x hL hc_x f_t (st) (j) (by omega) (by omega)) mc_FM_isPiece mz_FM ml_FM_33 ms_FM_isPiece hd_FM_isPiece rfl ⟨by decide, by decide⟩ hl.1 rfl (Nat.le_of_ble_eq_true rfl) d_FM_isPath_30 ⟨by decide, by decide⟩) hM hS hA (fun r5 N6 H locs hr5 hM hS => ?_)
          rw [hr5.1] at hM
          replace hr5 := hr5.2
          refine nt_ne (tgt := 38) hx hb d_FM_isPath_33 (by decide) hr5 (fun hp1 => ?_) (fun hp1 => ?_)
          · refine lv_iload_n hx hb d_FM_isPath_38 rfl (lv_at hl 2 rfl) ?_
            refine lv_iconst (v := nI 1) hx hb d_FM_isPath_39 rfl ?_
            refine nb_iadd hx hb d_FM_isPath_40 ?_
            refine lv_istore_n (lv' := [(1, .int (nI (j + 1))), (0, .ref t), (2, .int (nI j))]) hx hb d_FM_isPath_41 rfl hl (by decide) rfl (fun ls hl => ?_)
            refine lv_iinc (v := nI (j + 1)) (lv' := [(2, .int (nI (j + 1))), (1, .int (nI (j + 1))), (0, .ref t)]) hx hb d_FM_isPath_42 hl (k := 2) rfl (nI_add j 1) (by decide) rfl (fun ls hl => ?_)
            refine lv_goto (tgt := 13) hx hb d_FM_isPath_45 (by decide) ?_
            exact ih (ls := ls) (hl := lv_sub hl [2, 1, 0] rfl) (j := j + 1) (hn := by omega) (st := j + 1) (hsj := Nat.le_refl _) (hst := Or.inr h47) (hno := fun i h1 h2 => by omega) (hpc := fun a b hb z => (Nat.lt_or_eq_of_le (Nat.le_of_lt_succ z)).elim (hpc a b hb) (fun q => by subst q; rw [isBnd_one hb hsj hst hno]; exact hp1)) (H := H) (locs := locs) (hM := hM) (hS := hS)
          · refine lv_iconst (v := nI 0) hx hb d_FM_isPath_36 rfl ?_
            exact hp_iret S hret hlk (rfl) hM hS (⟨rfl, bo_f (fun q => hp1 (q.2 st j ⟨hsj, by omega, hst, Or.inr h47, hno⟩))⟩) d_FM_isPath_37
  · refine lv_iconst (v := nI 0) hx hb d_FM_isPath_7 rfl ?_
    exact hp_iret S hret hlk (rfl) hM hS (⟨rfl, bo_f (fun q => by have := q.1; omega)⟩) d_FM_isPath_8
set_option maxHeartbeats 4000000 in
set_option maxRecDepth 100000 in
/-- a NAME, =, and what it is -/
theorem c_FM_isNameAndValue (l : Launch) (D : va_G) (ct : Nat → ClassId) (Z : hp_Z) (hZ : hp_Zok Z) (M : hp_M) (sz : Nat) (t : Nat) (x : List Nat) (hL : x.length ≤ 64) (hc_x : ∀ i, x.getD i 0 < 65536) (f_t : M t = some (.inl (ct 0, x.length, .inl (tx x)))) : Mi l y_FM_isNameAndValue b_FM_isNameAndValue 2 (some .boolean) 2 42 0 0 [.ref t] D ct Z M sz (fun r M1 => M1 = M ∧ bo r (isNv x)) := by
  refine hp_start (by decide) (Nat.le_of_ble_eq_true rfl) (fun p e s m below meth c ls S hret hlk hnm hsz hK hM hS hA hz hl => ?_)
  have hx := S.1
  have hb := S.2.1
  have hl : lv_has ls 2 [(0, .ref t)] := hl
  refine lv_aload_n hx hb d_FM_isNameAndValue_0 rfl (lv_at hl 0 rfl) ?_
  refine hp_calli (go_S S hZ hK hM hS hA hz (c_FM_nameLength l D ct Z hZ _ _ t x hL hc_x f_t) mc_FM_nameLength mz_FM ml_FM_18 ms_FM_nameLength hd_FM_nameLength rfl ⟨by decide, by decide⟩ hl.1 rfl (Nat.le_of_ble_eq_true rfl) d_FM_isNameAndValue_1 ⟨by decide, by decide⟩) hM hS hA (fun r1 N2 H locs hr1 hM hS => ?_)
  rw [hr1.1] at hM
  replace hr1 := hr1.2
  obtain ⟨n, er1, hq⟩ := hr1
  subst er1
  have hq1 := hq.1
  refine lv_istore_n (lv' := [(1, .int (nI n)), (0, .ref t)]) hx hb d_FM_isNameAndValue_4 rfl hl (by decide) rfl (fun ls hl => ?_)
  refine lv_iload_n hx hb d_FM_isNameAndValue_5 rfl (lv_at hl 0 rfl) ?_
  refine lv_aload_n hx hb d_FM_isNameAndValue_6 rfl (lv_at hl 1 rfl) ?_
  refine hp_alen S hK hM 0 f_t rfl d_FM_isNameAndValue_7 ?_
  refine nb_ge (tgt := 34) hx hb d_FM_isNameAndValue_8 (by decide) (by omega) (by omega) (fun ha => ?_) (fun ha => ?_)
  · refine lv_iconst (v := nI 0) hx hb d_FM_isNameAndValue_34 rfl ?_
    exact hp_iret S hret hlk (rfl) hM hS (⟨rfl, bo_f (fun q => by obtain ⟨n2, q1, q2, q3, q4⟩ := q; have e9 := isEqs_one q1 hq; subst e9; first | omega | exact hb1 q3)⟩) d_FM_isNameAndValue_35
  · refine lv_aload_n hx hb d_FM_isNameAndValue_11 rfl (lv_at hl 1 rfl) ?_
    refine lv_iload_n hx hb d_FM_isNameAndValue_12 rfl (lv_at hl 0 rfl) ?_
    refine hp_calli (go_S S hZ hK hM hS hA hz (c_FM_isName l D ct Z hZ _ _ t x hL hc_x f_t n (by omega)) mc_FM_isName mz_FM ml_FM_29 ms_FM_isName hd_FM_isName rfl ⟨by decide, by decide⟩ hl.1 rfl (Nat.le_of_ble_eq_true rfl) d_FM_isNameAndValue_13 ⟨by decide, by decide⟩) hM hS hA (fun r3 N4 H locs hr3 hM hS => ?_)
    rw [hr3.1] at hM
    replace hr3 := hr3.2
    refine nt_eq (tgt := 34) hx hb d_FM_isNameAndValue_16 (by decide) hr3 (fun hb1 => ?_) (fun hb1 => ?_)
    · refine lv_iconst (v := nI 0) hx hb d_FM_isNameAndValue_34 rfl ?_
      exact hp_iret S hret hlk (rfl) hM hS (⟨rfl, bo_f (fun q => by obtain ⟨n2, q1, q2, q3, q4⟩ := q; have e9 := isEqs_one q1 hq; subst e9; first | omega | exact hb1 q3)⟩) d_FM_isNameAndValue_35
    · refine lv_aload_n hx hb d_FM_isNameAndValue_19 rfl (lv_at hl 1 rfl) ?_
      refine hp_alen S hK hM 0 f_t rfl d_FM_isNameAndValue_20 ?_
      refine lv_iload_n hx hb d_FM_isNameAndValue_21 rfl (lv_at hl 0 rfl) ?_
      refine nb_isub hx hb d_FM_isNameAndValue_22 (by omega) ?_
      refine lv_iconst (v := nI 1) hx hb d_FM_isNameAndValue_23 rfl ?_
      refine nb_isub hx hb d_FM_isNameAndValue_24 (by omega) ?_
      refine lv_bipush (v := nI 40) hx hb d_FM_isNameAndValue_25 rfl ?_
      refine nb_gt (tgt := 34) hx hb d_FM_isNameAndValue_27 (by decide) (by omega) (by omega) (fun hc1 => ?_) (fun hc1 => ?_)
      · refine lv_iconst (v := nI 0) hx hb d_FM_isNameAndValue_34 rfl ?_
        exact hp_iret S hret hlk (rfl) hM hS (⟨rfl, bo_f (fun q => by obtain ⟨n2, q1, q2, q3, q4⟩ := q; have e9 := isEqs_one q1 hq; subst e9; first | omega | exact hb1 q3)⟩) d_FM_isNameAndValue_35
      · refine lv_iconst (v := nI 1) hx hb d_FM_isNameAndValue_30 rfl ?_
        refine lv_goto (tgt := 35) hx hb d_FM_isNameAndValue_31 (by decide) ?_
        exact hp_iret S hret hlk (rfl) hM hS (⟨rfl, bo_t ⟨n, hq, by omega, hb1, by omega⟩⟩) d_FM_isNameAndValue_35
theorem kfit1 {x : List Nat} : fitK x (nI 1) → isPth x := fun h => h.elim (fun q => absurd q (nI_neq (by decide) (by decide) (by decide))) (fun h => h.elim (fun q => q.2) (fun q => (q.1.elim (fun z => absurd z (nI_neq (by decide) (by decide) (by decide))) (fun z => z.elim (fun z => absurd z (nI_neq (by decide) (by decide) (by decide))) (fun z => absurd z (nI_neq (by decide) (by decide) (by decide)))))))
theorem kfit3 {x : List Nat} : fitK x (nI 3) → isPth x := fun h => h.elim (fun q => absurd q (nI_neq (by decide) (by decide) (by decide))) (fun h => h.elim (fun q => q.2) (fun q => (q.1.elim (fun z => absurd z (nI_neq (by decide) (by decide) (by decide))) (fun z => z.elim (fun z => absurd z (nI_neq (by decide) (by decide) (by decide))) (fun z => absurd z (nI_neq (by decide) (by decide) (by decide)))))))
theorem kfit5 {x : List Nat} : fitK x (nI 5) → isPth x := fun h => h.elim (fun q => absurd q (nI_neq (by decide) (by decide) (by decide))) (fun h => h.elim (fun q => q.2) (fun q => (q.1.elim (fun z => absurd z (nI_neq (by decide) (by decide) (by decide))) (fun z => z.elim (fun z => absurd z (nI_neq (by decide) (by decide) (by decide))) (fun z => absurd z (nI_neq (by decide) (by decide) (by decide)))))))
theorem kfit2 {x : List Nat} : fitK x (nI 2) → isNv x := fun h => h.elim (fun q => absurd q (nI_neq (by decide) (by decide) (by decide))) (fun h => h.elim (fun q => (q.1.elim (fun z => absurd z (nI_neq (by decide) (by decide) (by decide))) (fun z => z.elim (fun z => absurd z (nI_neq (by decide) (by decide) (by decide))) (fun z => absurd z (nI_neq (by decide) (by decide) (by decide)))))) (fun q => q.2))
theorem kfit4 {x : List Nat} : fitK x (nI 4) → isNv x := fun h => h.elim (fun q => absurd q (nI_neq (by decide) (by decide) (by decide))) (fun h => h.elim (fun q => (q.1.elim (fun z => absurd z (nI_neq (by decide) (by decide) (by decide))) (fun z => z.elim (fun z => absurd z (nI_neq (by decide) (by decide) (by decide))) (fun z => absurd z (nI_neq (by decide) (by decide) (by decide)))))) (fun q => q.2))
theorem kfit6 {x : List Nat} : fitK x (nI 6) → isNv x := fun h => h.elim (fun q => absurd q (nI_neq (by decide) (by decide) (by decide))) (fun h => h.elim (fun q => (q.1.elim (fun z => absurd z (nI_neq (by decide) (by decide) (by decide))) (fun z => z.elim (fun z => absurd z (nI_neq (by decide) (by decide) (by decide))) (fun z => absurd z (nI_neq (by decide) (by decide) (by decide)))))) (fun q => q.2))
theorem knoo {k : Int32} (h : k.toInt < 0 ∨ ((6 : Nat) : Int) < k.toInt) : ¬ kP k ∧ ¬ kN k := by
  have key : ∀ j : Nat, j ≤ 6 → k ≠ nI j := fun j hj q => by
    rw [q, nI_toInt (by omega)] at h
    omega
  exact ⟨fun q => q.elim (key 1 (by decide)) (fun q => q.elim (key 3 (by decide)) (key 5 (by decide))), fun q => q.elim (key 2 (by decide)) (fun q => q.elim (key 4 (by decide)) (key 6 (by decide)))⟩
theorem kout {x : List Nat} {k : Int32} (h : k.toInt < 0 ∨ ((6 : Nat) : Int) < k.toInt) : ¬ fitK x k := fun q => q.elim (fun q => by rw [q, nI_toInt (by decide)] at h; omega) (fun q => q.elim (fun q => (knoo h).1 q.1) (fun q => (knoo h).2 q.1))
theorem kno0 : ¬ kP (nI 0) ∧ ¬ kN (nI 0) := ⟨fun q => q.elim (nI_neq (by decide) (by decide) (by decide)) (fun q => q.elim (nI_neq (by decide) (by decide) (by decide)) (nI_neq (by decide) (by decide) (by decide))), fun q => q.elim (nI_neq (by decide) (by decide) (by decide)) (fun q => q.elim (nI_neq (by decide) (by decide) (by decide)) (nI_neq (by decide) (by decide) (by decide)))⟩
set_option maxHeartbeats 4000000 in
set_option maxRecDepth 100000 in
/-- a text is one of a KIND -/
theorem c_FM_fits (l : Launch) (D : va_G) (ct : Nat → ClassId) (Z : hp_Z) (hZ : hp_Zok Z) (M : hp_M) (sz : Nat) (t : Nat) (x : List Nat) (hL : x.length ≤ 64) (hc_x : ∀ i, x.getD i 0 < 65536) (f_t : M t = some (.inl (ct 0, x.length, .inl (tx x)))) (k : Int32) : Mi l y_FM_fits b_FM_fits 2 (some .boolean) 3 67 0 0 [.ref t, .int k] D ct Z M sz (fun r M1 => M1 = M ∧ bo r (fitK x k)) := by
  refine hp_start (by decide) (Nat.le_of_ble_eq_true rfl) (fun p e s m below meth c ls S hret hlk hnm hsz hK hM hS hA hz hl => ?_)
  have hx := S.1
  have hb := S.2.1
  have hl : lv_has ls 2 [(0, .ref t), (1, .int k)] := hl
  rcases sw_in k 6 (by decide) with ⟨j, hj, ej⟩ | hout
  · rcases (show j = 0 ∨ j = 1 ∨ j = 2 ∨ j = 3 ∨ j = 4 ∨ j = 5 ∨ j = 6 by omega) with h | h | h | h | h | h | h <;> subst h <;> subst ej
    · refine lv_iload_n hx hb d_FM_fits_0 rfl (lv_at hl 1 rfl) ?_
      refine lv_tableIn (tgt := 44) hx hb d_FM_fits_1 (by decide) (by decide) rfl (by decide) ?_
      refine lv_iconst (v := nI 1) hx hb d_FM_fits_44 rfl ?_
      exact hp_iret S hret hlk (rfl) hM hS ⟨rfl, bo_t (Or.inl rfl)⟩ d_FM_fits_45
    · refine lv_iload_n hx hb d_FM_fits_0 rfl (lv_at hl 1 rfl) ?_
      refine lv_tableIn (tgt := 46) hx hb d_FM_fits_1 (by decide) (by decide) rfl (by decide) ?_
      refine lv_aload_n hx hb d_FM_fits_46 rfl (lv_at hl 0 rfl) ?_
      refine hp_calli (go_S S hZ hK hM hS hA hz (c_FM_isPath l D ct Z hZ _ _ t x hL hc_x f_t) mc_FM_isPath mz_FM ml_FM_9 ms_FM_isPath hd_FM_isPath rfl ⟨by decide, by decide⟩ hl.1 rfl (Nat.le_of_ble_eq_true rfl) d_FM_fits_47 ⟨by decide, by decide⟩) hM hS hA (fun r1 N2 H locs hr1 hM hS => ?_)
      rw [hr1.1] at hM
      replace hr1 := hr1.2
      exact hp_iret S hret hlk (bo_nar hr1) hM hS ⟨rfl, bo_iff hr1 ⟨fun q => Or.inr (Or.inl ⟨Or.inl rfl, q⟩), kfit1⟩⟩ d_FM_fits_50
    · refine lv_iload_n hx hb d_FM_fits_0 rfl (lv_at hl 1 rfl) ?_
      refine lv_tableIn (tgt := 51) hx hb d_FM_fits_1 (by decide) (by decide) rfl (by decide) ?_
      refine lv_aload_n hx hb d_FM_fits_51 rfl (lv_at hl 0 rfl) ?_
      refine hp_calli (go_S S hZ hK hM hS hA hz (c_FM_isNameAndValue l D ct Z hZ _ _ t x hL hc_x f_t) mc_FM_isNameAndValue mz_FM ml_FM_15 ms_FM_isNameAndValue hd_FM_isNameAndValue rfl ⟨by decide, by decide⟩ hl.1 rfl (Nat.le_of_ble_eq_true rfl) d_FM_fits_52 ⟨by decide, by decide⟩) hM hS hA (fun r3 N4 H locs hr3 hM hS => ?_)
      rw [hr3.1] at hM
      replace hr3 := hr3.2
      exact hp_iret S hret hlk (bo_nar hr3) hM hS ⟨rfl, bo_iff hr3 ⟨fun q => Or.inr (Or.inr ⟨Or.inl rfl, q⟩), kfit2⟩⟩ d_FM_fits_55
    · refine lv_iload_n hx hb d_FM_fits_0 rfl (lv_at hl 1 rfl) ?_
      refine lv_tableIn (tgt := 46) hx hb d_FM_fits_1 (by decide) (by decide) rfl (by decide) ?_
      refine lv_aload_n hx hb d_FM_fits_46 rfl (lv_at hl 0 rfl) ?_
      refine hp_calli (go_S S hZ hK hM hS hA hz (c_FM_isPath l D ct Z hZ _ _ t x hL hc_x f_t) mc_FM_isPath mz_FM ml_FM_9 ms_FM_isPath hd_FM_isPath rfl ⟨by decide, by decide⟩ hl.1 rfl (Nat.le_of_ble_eq_true rfl) d_FM_fits_47 ⟨by decide, by decide⟩) hM hS hA (fun r5 N6 H locs hr5 hM hS => ?_)
      rw [hr5.1] at hM
      replace hr5 := hr5.2
      exact hp_iret S hret hlk (bo_nar hr5) hM hS ⟨rfl, bo_iff hr5 ⟨fun q => Or.inr (Or.inl ⟨Or.inr (Or.inl rfl), q⟩), kfit3⟩⟩ d_FM_fits_50
    · refine lv_iload_n hx hb d_FM_fits_0 rfl (lv_at hl 1 rfl) ?_
      refine lv_tableIn (tgt := 51) hx hb d_FM_fits_1 (by decide) (by decide) rfl (by decide) ?_
      refine lv_aload_n hx hb d_FM_fits_51 rfl (lv_at hl 0 rfl) ?_
      refine hp_calli (go_S S hZ hK hM hS hA hz (c_FM_isNameAndValue l D ct Z hZ _ _ t x hL hc_x f_t) mc_FM_isNameAndValue mz_FM ml_FM_15 ms_FM_isNameAndValue hd_FM_isNameAndValue rfl ⟨by decide, by decide⟩ hl.1 rfl (Nat.le_of_ble_eq_true rfl) d_FM_fits_52 ⟨by decide, by decide⟩) hM hS hA (fun r7 N8 H locs hr7 hM hS => ?_)
      rw [hr7.1] at hM
      replace hr7 := hr7.2
      exact hp_iret S hret hlk (bo_nar hr7) hM hS ⟨rfl, bo_iff hr7 ⟨fun q => Or.inr (Or.inr ⟨Or.inr (Or.inl rfl), q⟩), kfit4⟩⟩ d_FM_fits_55
    · refine lv_iload_n hx hb d_FM_fits_0 rfl (lv_at hl 1 rfl) ?_
      refine lv_tableIn (tgt := 46) hx hb d_FM_fits_1 (by decide) (by decide) rfl (by decide) ?_
      refine lv_aload_n hx hb d_FM_fits_46 rfl (lv_at hl 0 rfl) ?_
      refine hp_calli (go_S S hZ hK hM hS hA hz (c_FM_isPath l D ct Z hZ _ _ t x hL hc_x f_t) mc_FM_isPath mz_FM ml_FM_9 ms_FM_isPath hd_FM_isPath rfl ⟨by decide, by decide⟩ hl.1 rfl (Nat.le_of_ble_eq_true rfl) d_FM_fits_47 ⟨by decide, by decide⟩) hM hS hA (fun r9 N10 H locs hr9 hM hS => ?_)
      rw [hr9.1] at hM
      replace hr9 := hr9.2
      exact hp_iret S hret hlk (bo_nar hr9) hM hS ⟨rfl, bo_iff hr9 ⟨fun q => Or.inr (Or.inl ⟨Or.inr (Or.inr rfl), q⟩), kfit5⟩⟩ d_FM_fits_50
    · refine lv_iload_n hx hb d_FM_fits_0 rfl (lv_at hl 1 rfl) ?_
      refine lv_tableIn (tgt := 51) hx hb d_FM_fits_1 (by decide) (by decide) rfl (by decide) ?_
      refine lv_aload_n hx hb d_FM_fits_51 rfl (lv_at hl 0 rfl) ?_
      refine hp_calli (go_S S hZ hK hM hS hA hz (c_FM_isNameAndValue l D ct Z hZ _ _ t x hL hc_x f_t) mc_FM_isNameAndValue mz_FM ml_FM_15 ms_FM_isNameAndValue hd_FM_isNameAndValue rfl ⟨by decide, by decide⟩ hl.1 rfl (Nat.le_of_ble_eq_true rfl) d_FM_fits_52 ⟨by decide, by decide⟩) hM hS hA (fun r11 N12 H locs hr11 hM hS => ?_)
      rw [hr11.1] at hM
      replace hr11 := hr11.2
      exact hp_iret S hret hlk (bo_nar hr11) hM hS ⟨rfl, bo_iff hr11 ⟨fun q => Or.inr (Or.inr ⟨Or.inr (Or.inr rfl), q⟩), kfit6⟩⟩ d_FM_fits_55
  · refine lv_iload_n hx hb d_FM_fits_0 rfl (lv_at hl 1 rfl) ?_
    refine lv_tableOut (tgt := 56) hx hb d_FM_fits_1 (by omega) (by decide) ?_
    refine lv_iconst (v := nI 0) hx hb d_FM_fits_56 rfl ?_
    exact hp_iret S hret hlk (rfl) hM hS ⟨rfl, bo_f (kout hout)⟩ d_FM_fits_57
set_option maxHeartbeats 4000000 in
set_option maxRecDepth 100000 in
/-- how long a PATH or NAME is -/
theorem c_FM_keyLength (l : Launch) (D : va_G) (ct : Nat → ClassId) (Z : hp_Z) (hZ : hp_Zok Z) (M : hp_M) (sz : Nat) (t : Nat) (x : List Nat) (hL : x.length ≤ 64) (hc_x : ∀ i, x.getD i 0 < 65536) (f_t : M t = some (.inl (ct 0, x.length, .inl (tx x)))) (k : Int32) : Mi l y_FM_keyLength b_FM_keyLength 2 (some .int) 1 21 0 0 [.ref t, .int k] D ct Z M sz (fun r M1 => M1 = M ∧ ∃ n : Nat, r = nI n ∧ isKl x k n) := by
  refine hp_start (by decide) (Nat.le_of_ble_eq_true rfl) (fun p e s m below meth c ls S hret hlk hnm hsz hK hM hS hA hz hl => ?_)
  have hx := S.1
  have hb := S.2.1
  have hl : lv_has ls 2 [(0, .ref t), (1, .int k)] := hl
  rcases sw_in k 6 (by decide) with ⟨j, hj, ej⟩ | hout
  · rcases (show j = 0 ∨ j = 1 ∨ j = 2 ∨ j = 3 ∨ j = 4 ∨ j = 5 ∨ j = 6 by omega) with h | h | h | h | h | h | h <;> subst h <;> subst ej
    · refine lv_iload_n hx hb d_FM_keyLength_0 rfl (lv_at hl 1 rfl) ?_
      refine lv_tableOut (tgt := 48) hx hb d_FM_keyLength_1 (by decide) (by decide) ?_
      refine lv_iconst (v := nI 0) hx hb d_FM_keyLength_48 rfl ?_
      exact hp_iret S hret hlk rfl hM hS ⟨rfl, ⟨0, rfl, Or.inr (Or.inr ⟨kno0.1, kno0.2, rfl⟩)⟩⟩ d_FM_keyLength_49
    · refine lv_iload_n hx hb d_FM_keyLength_0 rfl (lv_at hl 1 rfl) ?_
      refine lv_tableIn (tgt := 40) hx hb d_FM_keyLength_1 (by decide) (by decide) rfl (by decide) ?_
      refine lv_aload_n hx hb d_FM_keyLength_40 rfl (lv_at hl 0 rfl) ?_
      refine hp_alen S hK hM 0 f_t rfl d_FM_keyLength_41 ?_
      exact hp_iret S hret hlk rfl hM hS ⟨rfl, ⟨_, rfl, Or.inl ⟨Or.inl rfl, rfl⟩⟩⟩ d_FM_keyLength_42
    · refine lv_iload_n hx hb d_FM_keyLength_0 rfl (lv_at hl 1 rfl) ?_
      refine lv_tableIn (tgt := 43) hx hb d_FM_keyLength_1 (by decide) (by decide) rfl (by decide) ?_
      refine lv_aload_n hx hb d_FM_keyLength_43 rfl (lv_at hl 0 rfl) ?_
      refine hp_calli (go_S S hZ hK hM hS hA hz (c_FM_nameLength l D ct Z hZ _ _ t x hL hc_x f_t) mc_FM_nameLength mz_FM ml_FM_18 ms_FM_nameLength hd_FM_nameLength rfl ⟨by decide, by decide⟩ hl.1 rfl (Nat.le_of_ble_eq_true rfl) d_FM_keyLength_44 ⟨by decide, by decide⟩) hM hS hA (fun r1 N2 H locs hr1 hM hS => ?_)
      rw [hr1.1] at hM
      replace hr1 := hr1.2
      obtain ⟨n, e9, hq⟩ := hr1
      exact hp_iret S hret hlk rfl hM hS ⟨rfl, ⟨n, e9, Or.inr (Or.inl ⟨Or.inl rfl, hq⟩)⟩⟩ d_FM_keyLength_47
    · refine lv_iload_n hx hb d_FM_keyLength_0 rfl (lv_at hl 1 rfl) ?_
      refine lv_tableIn (tgt := 40) hx hb d_FM_keyLength_1 (by decide) (by decide) rfl (by decide) ?_
      refine lv_aload_n hx hb d_FM_keyLength_40 rfl (lv_at hl 0 rfl) ?_
      refine hp_alen S hK hM 0 f_t rfl d_FM_keyLength_41 ?_
      exact hp_iret S hret hlk rfl hM hS ⟨rfl, ⟨_, rfl, Or.inl ⟨Or.inr (Or.inl rfl), rfl⟩⟩⟩ d_FM_keyLength_42
    · refine lv_iload_n hx hb d_FM_keyLength_0 rfl (lv_at hl 1 rfl) ?_
      refine lv_tableIn (tgt := 43) hx hb d_FM_keyLength_1 (by decide) (by decide) rfl (by decide) ?_
      refine lv_aload_n hx hb d_FM_keyLength_43 rfl (lv_at hl 0 rfl) ?_
      refine hp_calli (go_S S hZ hK hM hS hA hz (c_FM_nameLength l D ct Z hZ _ _ t x hL hc_x f_t) mc_FM_nameLength mz_FM ml_FM_18 ms_FM_nameLength hd_FM_nameLength rfl ⟨by decide, by decide⟩ hl.1 rfl (Nat.le_of_ble_eq_true rfl) d_FM_keyLength_44 ⟨by decide, by decide⟩) hM hS hA (fun r3 N4 H locs hr3 hM hS => ?_)
      rw [hr3.1] at hM
      replace hr3 := hr3.2
      obtain ⟨n, e9, hq⟩ := hr3
      exact hp_iret S hret hlk rfl hM hS ⟨rfl, ⟨n, e9, Or.inr (Or.inl ⟨Or.inr (Or.inl rfl), hq⟩)⟩⟩ d_FM_keyLength_47
    · refine lv_iload_n hx hb d_FM_keyLength_0 rfl (lv_at hl 1 rfl) ?_
      refine lv_tableIn (tgt := 40) hx hb d_FM_keyLength_1 (by decide) (by decide) rfl (by decide) ?_
      refine lv_aload_n hx hb d_FM_keyLength_40 rfl (lv_at hl 0 rfl) ?_
      refine hp_alen S hK hM 0 f_t rfl d_FM_keyLength_41 ?_
      exact hp_iret S hret hlk rfl hM hS ⟨rfl, ⟨_, rfl, Or.inl ⟨Or.inr (Or.inr rfl), rfl⟩⟩⟩ d_FM_keyLength_42
    · refine lv_iload_n hx hb d_FM_keyLength_0 rfl (lv_at hl 1 rfl) ?_
      refine lv_tableIn (tgt := 43) hx hb d_FM_keyLength_1 (by decide) (by decide) rfl (by decide) ?_
      refine lv_aload_n hx hb d_FM_keyLength_43 rfl (lv_at hl 0 rfl) ?_
      refine hp_calli (go_S S hZ hK hM hS hA hz (c_FM_nameLength l D ct Z hZ _ _ t x hL hc_x f_t) mc_FM_nameLength mz_FM ml_FM_18 ms_FM_nameLength hd_FM_nameLength rfl ⟨by decide, by decide⟩ hl.1 rfl (Nat.le_of_ble_eq_true rfl) d_FM_keyLength_44 ⟨by decide, by decide⟩) hM hS hA (fun r5 N6 H locs hr5 hM hS => ?_)
      rw [hr5.1] at hM
      replace hr5 := hr5.2
      obtain ⟨n, e9, hq⟩ := hr5
      exact hp_iret S hret hlk rfl hM hS ⟨rfl, ⟨n, e9, Or.inr (Or.inl ⟨Or.inr (Or.inr rfl), hq⟩)⟩⟩ d_FM_keyLength_47
  · refine lv_iload_n hx hb d_FM_keyLength_0 rfl (lv_at hl 1 rfl) ?_
    refine lv_tableOut (tgt := 48) hx hb d_FM_keyLength_1 (by omega) (by decide) ?_
    refine lv_iconst (v := nI 0) hx hb d_FM_keyLength_48 rfl ?_
    exact hp_iret S hret hlk rfl hM hS ⟨rfl, ⟨0, rfl, Or.inr (Or.inr ⟨(knoo hout).1, (knoo hout).2, rfl⟩)⟩⟩ d_FM_keyLength_49
end
section
theorem d_TX_init_0 : decode b_TX_init 0 = .ok (.aload_n 0, 1) := by decide +kernel
theorem d_TX_init_1 : decode b_TX_init 1 = .ok (.invokespecial 3, 3) := by decide +kernel
theorem d_TX_init_4 : decode b_TX_init 4 = .ok (.aload_n 0, 1) := by decide +kernel
theorem d_TX_init_5 : decode b_TX_init 5 = .ok (.bipush 64, 2) := by decide +kernel
theorem d_TX_init_7 : decode b_TX_init 7 = .ok (.newarray .char, 2) := by decide +kernel
theorem d_TX_init_9 : decode b_TX_init 9 = .ok (.putfield 9, 3) := by decide +kernel
theorem d_TX_init_12 : decode b_TX_init 12 = .ok (.aload_n 0, 1) := by decide +kernel
theorem d_TX_init_13 : decode b_TX_init 13 = .ok (.iconst 0, 1) := by decide +kernel
theorem d_TX_init_14 : decode b_TX_init 14 = .ok (.putfield 15, 3) := by decide +kernel
theorem d_TX_init_17 : decode b_TX_init 17 = .ok (.return_, 1) := by decide +kernel
theorem d_TX_append_0 : decode b_TX_append 0 = .ok (.iload_n 1, 1) := by decide +kernel
theorem d_TX_append_1 : decode b_TX_append 1 = .ok (.bipush 32, 2) := by decide +kernel
theorem d_TX_append_3 : decode b_TX_append 3 = .ok (.if_icmp .lt 18, 3) := by decide +kernel
theorem d_TX_append_6 : decode b_TX_append 6 = .ok (.iload_n 1, 1) := by decide +kernel
theorem d_TX_append_7 : decode b_TX_append 7 = .ok (.bipush 126, 2) := by decide +kernel
theorem d_TX_append_9 : decode b_TX_append 9 = .ok (.if_icmp .gt 12, 3) := by decide +kernel
theorem d_TX_append_12 : decode b_TX_append 12 = .ok (.aload_n 0, 1) := by decide +kernel
theorem d_TX_append_13 : decode b_TX_append 13 = .ok (.getfield 15, 3) := by decide +kernel
theorem d_TX_append_16 : decode b_TX_append 16 = .ok (.bipush 64, 2) := by decide +kernel
theorem d_TX_append_18 : decode b_TX_append 18 = .ok (.if_icmp .lt 5, 3) := by decide +kernel
theorem d_TX_append_21 : decode b_TX_append 21 = .ok (.iconst 0, 1) := by decide +kernel
theorem d_TX_append_22 : decode b_TX_append 22 = .ok (.ireturn, 1) := by decide +kernel
theorem d_TX_append_23 : decode b_TX_append 23 = .ok (.aload_n 0, 1) := by decide +kernel
theorem d_TX_append_24 : decode b_TX_append 24 = .ok (.getfield 9, 3) := by decide +kernel
theorem d_TX_append_27 : decode b_TX_append 27 = .ok (.aload_n 0, 1) := by decide +kernel
theorem d_TX_append_28 : decode b_TX_append 28 = .ok (.getfield 15, 3) := by decide +kernel
theorem d_TX_append_31 : decode b_TX_append 31 = .ok (.iload_n 1, 1) := by decide +kernel
theorem d_TX_append_32 : decode b_TX_append 32 = .ok (.castore, 1) := by decide +kernel
theorem d_TX_append_33 : decode b_TX_append 33 = .ok (.aload_n 0, 1) := by decide +kernel
theorem d_TX_append_34 : decode b_TX_append 34 = .ok (.dup, 1) := by decide +kernel
theorem d_TX_append_35 : decode b_TX_append 35 = .ok (.getfield 15, 3) := by decide +kernel
theorem d_TX_append_38 : decode b_TX_append 38 = .ok (.iconst 1, 1) := by decide +kernel
theorem d_TX_append_39 : decode b_TX_append 39 = .ok (.iadd, 1) := by decide +kernel
theorem d_TX_append_40 : decode b_TX_append 40 = .ok (.putfield 15, 3) := by decide +kernel
theorem d_TX_append_43 : decode b_TX_append 43 = .ok (.iconst 1, 1) := by decide +kernel
theorem d_TX_append_44 : decode b_TX_append 44 = .ok (.ireturn, 1) := by decide +kernel
theorem d_TX_take_0 : decode b_TX_take 0 = .ok (.aload_n 0, 1) := by decide +kernel
theorem d_TX_take_1 : decode b_TX_take 1 = .ok (.getfield 15, 3) := by decide +kernel
theorem d_TX_take_4 : decode b_TX_take 4 = .ok (.newarray .char, 2) := by decide +kernel
theorem d_TX_take_6 : decode b_TX_take 6 = .ok (.astore_n 1, 1) := by decide +kernel
theorem d_TX_take_7 : decode b_TX_take 7 = .ok (.iconst 0, 1) := by decide +kernel
theorem d_TX_take_8 : decode b_TX_take 8 = .ok (.istore_n 2, 1) := by decide +kernel
theorem d_TX_take_9 : decode b_TX_take 9 = .ok (.iload_n 2, 1) := by decide +kernel
theorem d_TX_take_10 : decode b_TX_take 10 = .ok (.aload_n 1, 1) := by decide +kernel
theorem d_TX_take_11 : decode b_TX_take 11 = .ok (.arraylength, 1) := by decide +kernel
theorem d_TX_take_12 : decode b_TX_take 12 = .ok (.if_icmp .ge 18, 3) := by decide +kernel
theorem d_TX_take_15 : decode b_TX_take 15 = .ok (.aload_n 1, 1) := by decide +kernel
theorem d_TX_take_16 : decode b_TX_take 16 = .ok (.iload_n 2, 1) := by decide +kernel
theorem d_TX_take_17 : decode b_TX_take 17 = .ok (.aload_n 0, 1) := by decide +kernel
theorem d_TX_take_18 : decode b_TX_take 18 = .ok (.getfield 9, 3) := by decide +kernel
theorem d_TX_take_21 : decode b_TX_take 21 = .ok (.iload_n 2, 1) := by decide +kernel
theorem d_TX_take_22 : decode b_TX_take 22 = .ok (.caload, 1) := by decide +kernel
theorem d_TX_take_23 : decode b_TX_take 23 = .ok (.castore, 1) := by decide +kernel
theorem d_TX_take_24 : decode b_TX_take 24 = .ok (.iinc 2 1, 3) := by decide +kernel
theorem d_TX_take_27 : decode b_TX_take 27 = .ok (.goto (-18), 3) := by decide +kernel
theorem d_TX_take_30 : decode b_TX_take 30 = .ok (.aload_n 0, 1) := by decide +kernel
theorem d_TX_take_31 : decode b_TX_take 31 = .ok (.iconst 0, 1) := by decide +kernel
theorem d_TX_take_32 : decode b_TX_take 32 = .ok (.putfield 15, 3) := by decide +kernel
theorem d_TX_take_35 : decode b_TX_take 35 = .ok (.aload_n 1, 1) := by decide +kernel
theorem d_TX_take_36 : decode b_TX_take 36 = .ok (.areturn, 1) := by decide +kernel
theorem d_KY_init_0 : decode b_KY_init 0 = .ok (.aload_n 0, 1) := by decide +kernel
theorem d_KY_init_1 : decode b_KY_init 1 = .ok (.invokespecial 1, 3) := by decide +kernel
theorem d_KY_init_4 : decode b_KY_init 4 = .ok (.aload_n 0, 1) := by decide +kernel
theorem d_KY_init_5 : decode b_KY_init 5 = .ok (.aload_n 1, 1) := by decide +kernel
theorem d_KY_init_6 : decode b_KY_init 6 = .ok (.putfield 7, 3) := by decide +kernel
theorem d_KY_init_9 : decode b_KY_init 9 = .ok (.aload_n 0, 1) := by decide +kernel
theorem d_KY_init_10 : decode b_KY_init 10 = .ok (.iload_n 2, 1) := by decide +kernel
theorem d_KY_init_11 : decode b_KY_init 11 = .ok (.putfield 13, 3) := by decide +kernel
theorem d_KY_init_14 : decode b_KY_init 14 = .ok (.return_, 1) := by decide +kernel
theorem d_RW_init_0 : decode b_RW_init 0 = .ok (.aload_n 0, 1) := by decide +kernel
theorem d_RW_init_1 : decode b_RW_init 1 = .ok (.invokespecial 3, 3) := by decide +kernel
theorem d_RW_init_4 : decode b_RW_init 4 = .ok (.aload_n 0, 1) := by decide +kernel
theorem d_RW_init_5 : decode b_RW_init 5 = .ok (.iload_n 1, 1) := by decide +kernel
theorem d_RW_init_6 : decode b_RW_init 6 = .ok (.putfield 9, 3) := by decide +kernel
theorem d_RW_init_9 : decode b_RW_init 9 = .ok (.aload_n 0, 1) := by decide +kernel
theorem d_RW_init_10 : decode b_RW_init 10 = .ok (.aload_n 2, 1) := by decide +kernel
theorem d_RW_init_11 : decode b_RW_init 11 = .ok (.putfield 15, 3) := by decide +kernel
theorem d_RW_init_14 : decode b_RW_init 14 = .ok (.aload_n 0, 1) := by decide +kernel
theorem d_RW_init_15 : decode b_RW_init 15 = .ok (.aload_n 3, 1) := by decide +kernel
theorem d_RW_init_16 : decode b_RW_init 16 = .ok (.putfield 19, 3) := by decide +kernel
theorem d_RW_init_19 : decode b_RW_init 19 = .ok (.return_, 1) := by decide +kernel
set_option maxHeartbeats 4000000 in
set_option maxRecDepth 100000 in
/-- Text() -/
theorem c_TX_init (l : Launch) (D : va_G) (ct : Nat → ClassId) (Z : hp_Z) (hZ : hp_Zok Z) (M : hp_M) (sz : Nat) (a : Nat) (f_a : M a = some (.inr (1, [.null, .int (nI 0)]))) : Mv l y_TX_init b_TX_init 1 none 1 12 1 64 [.ref a] D ct Z M sz (fun M1 => ∃ ch, M ch = none ∧ M1 = hp_up (hp_up M ch (.inl (ct 0, 64, .inl (nf (fun _ => 0))))) a (.inr (1, [.ref ch, .int (nI 0)]))) := by
  refine hp_start (by decide) (Nat.le_of_ble_eq_true rfl) (fun p e s m below meth c ls S hret hlk hnm hsz hK hM hS hA hz hl => ?_)
  have hx := S.1
  have hb := S.2.1
  have hl : lv_has ls 1 [(0, .ref a)] := hl
  refine lv_aload_n hx hb d_TX_init_0 rfl (lv_at hl 0 rfl) ?_
  refine W.objInit hx hb S.2.2.2.1 (S.2.2.2.2 _ ml_TX_3) (S.2.2.2.2 _ mi_OB_init) (S.2.2.2.2 _ mc_OB_init) rfl (by rw [S.2.2.1]; exact hl.1) rfl d_TX_init_1 (by decide) (Nat.le_of_ble_eq_true rfl) ?_
  refine W.eq (g2 := F0 m 4 ls []) rfl ?_
  refine lv_aload_n hx hb d_TX_init_4 rfl (lv_at hl 0 rfl) ?_
  refine lv_bipush (v := nI 64) hx hb d_TX_init_5 rfl ?_
  refine hp_newi S hK hM hS hA (atype := .char) rfl ma_char 0 rfl rfl (by decide) 64 rfl (by omega) (by decide) (by decide) d_TX_init_7 (fun q7 H hq_q7 hM hS => ?_)
  refine W.widen (k := 1) (n := 64) (by omega) (by omega) ?_
  rw [nf_0] at hM
  have ne_a_q7 : a ≠ q7 := hp_nn f_a hq_q7
  have f_a := hp_k (e := (.inl (ct 0, 64, .inl (nf (fun _ => 0))))) ne_a_q7 f_a
  have f_q7 : hp_up M q7 (.inl (ct 0, 64, .inl (nf (fun _ => 0)))) q7 = some (.inl (ct 0, 64, .inl (nf (fun _ => 0)))) := hp_us
  obtain ⟨M1, eM1⟩ : ∃ z, z = hp_up M q7 (.inl (ct 0, 64, .inl (nf (fun _ => 0)))) := ⟨_, rfl⟩
  rw [← eM1] at hM f_a f_q7
  refine hp_putF (ty := (.array .char)) (fs' := [.ref q7, .int (nI 0)]) S hK hM hS i_TX t_TX to_TX n_TX f_a rfl 0 (by decide) mf_TX_9 (fun _ h9 => h9) rfl hnm rfl (by decide +kernel) rfl rfl (by simp) rfl d_TX_init_9 (fun H locs hM hS => ?_)
  have f_q7 := hp_k (e := (.inr (1, [.ref q7, .int (nI 0)]))) (Ne.symm ne_a_q7) f_q7
  have f_a : hp_up M1 a (.inr (1, [.ref q7, .int (nI 0)])) a = some (.inr (1, [.ref q7, .int (nI 0)])) := hp_us
  obtain ⟨M2, eM2⟩ : ∃ z, z = hp_up M1 a (.inr (1, [.ref q7, .int (nI 0)])) := ⟨_, rfl⟩
  rw [← eM2] at hM f_a f_q7
  refine lv_aload_n hx hb d_TX_init_12 rfl (lv_at hl 0 rfl) ?_
  refine lv_iconst (v := nI 0) hx hb d_TX_init_13 rfl ?_
  refine hp_put (ty := .int) (fs' := [.ref q7, .int (nI 0)]) S hK hM hS i_TX t_TX to_TX n_TX f_a rfl 1 (by decide) mf_TX_15 (fun _ h9 => h9) rfl (by decide +kernel) rfl rfl (by simp) rfl d_TX_init_14 (fun H locs hM hS => ?_)
  have f_q7 := hp_k (e := (.inr (1, [.ref q7, .int (nI 0)]))) (Ne.symm ne_a_q7) f_q7
  have f_a : hp_up M2 a (.inr (1, [.ref q7, .int (nI 0)])) a = some (.inr (1, [.ref q7, .int (nI 0)])) := hp_us
  obtain ⟨M3, eM3⟩ : ∃ z, z = hp_up M2 a (.inr (1, [.ref q7, .int (nI 0)])) := ⟨_, rfl⟩
  rw [← eM3] at hM f_a f_q7
  exact hp_vret S hret hlk hM hS (⟨q7, hq_q7, by rw [eM3, eM2, eM1, hp_uu]⟩) d_TX_init_17
set_option maxHeartbeats 4000000 in
set_option maxRecDepth 100000 in
/-- Text.append -/
theorem c_TX_append (l : Launch) (D : va_G) (ct : Nat → ClassId) (Z : hp_Z) (hZ : hp_Zok Z) (M : hp_M) (sz : Nat) (a ch n : Nat) (g : Nat → Nat) (hn : n ≤ 64) (f_a : M a = some (.inr (1, [.ref ch, .int (nI n)]))) (f_ch : M ch = some (.inl (ct 0, 64, .inl (nf g)))) (k : Nat) (hk : k < 65536) : Mi l y_TX_append b_TX_append 2 (some .boolean) 0 0 0 0 [.ref a, .int (nI k)] D ct Z M sz (fun r M1 => ((32 ≤ k ∧ k ≤ 126 ∧ n < 64) ∧ r = nI 1 ∧ M1 = hp_up (hp_up M ch (.inl (ct 0, 64, .inl (nf (va_up g n k))))) a (.inr (1, [.ref ch, .int (nI (n + 1))]))) ∨ (¬ (32 ≤ k ∧ k ≤ 126 ∧ n < 64) ∧ r = nI 0 ∧ M1 = M)) := by
  refine hp_start (by decide) (Nat.le_of_ble_eq_true rfl) (fun p e s m below meth c ls S hret hlk hnm hsz hK hM hS hA hz hl => ?_)
  have hx := S.1
  have hb := S.2.1
  have hl : lv_has ls 2 [(0, .ref a), (1, .int (nI k))] := hl
  refine lv_iload_n hx hb d_TX_append_0 rfl (lv_at hl 1 rfl) ?_
  refine lv_bipush (v := nI 32) hx hb d_TX_append_1 rfl ?_
  refine nb_lt (tgt := 21) hx hb d_TX_append_3 (by decide) (by omega) (by omega) (fun h1 => ?_) (fun h1 => ?_)
  · refine lv_iconst (v := nI 0) hx hb d_TX_append_21 rfl ?_
    exact hp_iret S hret hlk (rfl) hM hS (Or.inr ⟨by omega, rfl, rfl⟩) d_TX_append_22
  · refine lv_iload_n hx hb d_TX_append_6 rfl (lv_at hl 1 rfl) ?_
    refine lv_bipush (v := nI 126) hx hb d_TX_append_7 rfl ?_
    refine nb_gt (tgt := 21) hx hb d_TX_append_9 (by decide) (by omega) (by omega) (fun h2 => ?_) (fun h2 => ?_)
    · refine lv_iconst (v := nI 0) hx hb d_TX_append_21 rfl ?_
      exact hp_iret S hret hlk (rfl) hM hS (Or.inr ⟨by omega, rfl, rfl⟩) d_TX_append_22
    · refine lv_aload_n hx hb d_TX_append_12 rfl (lv_at hl 0 rfl) ?_
      refine hp_get S hK hM i_TX f_a rfl 1 (by decide) mf_TX_15 (fun _ h9 => h9) rfl d_TX_append_13 ?_
      refine lv_bipush (v := nI 64) hx hb d_TX_append_16 rfl ?_
      refine nb_lt (tgt := 23) hx hb d_TX_append_18 (by decide) (by omega) (by omega) (fun h3 => ?_) (fun h3 => ?_)
      · refine lv_aload_n hx hb d_TX_append_23 rfl (lv_at hl 0 rfl) ?_
        refine hp_get S hK hM i_TX f_a rfl 0 (by decide) mf_TX_9 (fun _ h9 => h9) rfl d_TX_append_24 ?_
        refine lv_aload_n hx hb d_TX_append_27 rfl (lv_at hl 0 rfl) ?_
        refine hp_get S hK hM i_TX f_a rfl 1 (by decide) mf_TX_15 (fun _ h9 => h9) rfl d_TX_append_28 ?_
        refine lv_iload_n hx hb d_TX_append_31 rfl (lv_at hl 1 rfl) ?_
        refine hp_cast S hK hM hS 0 f_ch rfl n rfl (by omega) (by omega) (nar_nI (by omega)) d_TX_append_32 (fun H locs hM hS => ?_)
        rw [nf_up] at hM
        have f_a := hp_k (e := (.inl (ct 0, 64, .inl (nf (va_up g n k))))) (hp_ne f_a f_ch (by simp)) f_a
        have f_ch : hp_up M ch (.inl (ct 0, 64, .inl (nf (va_up g n k)))) ch = some (.inl (ct 0, 64, .inl (nf (va_up g n k)))) := hp_us
        obtain ⟨M4, eM4⟩ : ∃ z, z = hp_up M ch (.inl (ct 0, 64, .inl (nf (va_up g n k)))) := ⟨_, rfl⟩
        rw [← eM4] at hM f_a f_ch
        refine lv_aload_n hx hb d_TX_append_33 rfl (lv_at hl 0 rfl) ?_
        refine lv_dup hx hb d_TX_append_34 rfl ?_
        refine hp_get S hK hM i_TX f_a rfl 1 (by decide) mf_TX_15 (fun _ h9 => h9) rfl d_TX_append_35 ?_
        refine lv_iconst (v := nI 1) hx hb d_TX_append_38 rfl ?_
        refine nb_iadd hx hb d_TX_append_39 ?_
        refine hp_put (ty := .int) (fs' := [.ref ch, .int (nI (n + 1))]) S hK hM hS i_TX t_TX to_TX n_TX f_a rfl 1 (by decide) mf_TX_15 (fun _ h9 => h9) rfl (by decide +kernel) rfl rfl (by simp) rfl d_TX_append_40 (fun H locs hM hS => ?_)
        have f_ch := hp_k (e := (.inr (1, [.ref ch, .int (nI (n + 1))]))) (hp_ne f_ch f_a (by simp)) f_ch
        have f_a : hp_up M4 a (.inr (1, [.ref ch, .int (nI (n + 1))])) a = some (.inr (1, [.ref ch, .int (nI (n + 1))])) := hp_us
        obtain ⟨M5, eM5⟩ : ∃ z, z = hp_up M4 a (.inr (1, [.ref ch, .int (nI (n + 1))])) := ⟨_, rfl⟩
        rw [← eM5] at hM f_a f_ch
        refine lv_iconst (v := nI 1) hx hb d_TX_append_43 rfl ?_
        exact hp_iret S hret hlk (rfl) hM hS (Or.inl ⟨by omega, rfl, by rw [eM5, eM4]⟩) d_TX_append_44
      · refine lv_iconst (v := nI 0) hx hb d_TX_append_21 rfl ?_
        exact hp_iret S hret hlk (rfl) hM hS (Or.inr ⟨by omega, rfl, rfl⟩) d_TX_append_22
set_option maxHeartbeats 4000000 in
set_option maxRecDepth 100000 in
/-- Text.take -/
theorem c_TX_take (l : Launch) (D : va_G) (ct : Nat → ClassId) (Z : hp_Z) (hZ : hp_Zok Z) (M : hp_M) (sz : Nat) (a ch n : Nat) (g : Nat → Nat) (hn : n ≤ 64) (f_a : M a = some (.inr (1, [.ref ch, .int (nI n)]))) (f_ch : M ch = some (.inl (ct 0, 64, .inl (nf g)))) (hg : ∀ i, g i < 65536) : Mq l y_TX_take b_TX_take 3 (some (.array .char)) 0 0 1 64 [.ref a] D ct Z M sz (fun r M1 => ∃ q, r = some q ∧ M q = none ∧ M1 = hp_up (hp_up M q (.inl (ct 0, n, .inl (nf g)))) a (.inr (1, [.ref ch, .int (nI 0)]))) := by
  refine hp_start (by decide) (Nat.le_of_ble_eq_true rfl) (fun p e s m below meth c ls S hret hlk hnm hsz hK hM hS hA hz hl => ?_)
  have hx := S.1
  have hb := S.2.1
  have hl : lv_has ls 3 [(0, .ref a)] := hl
  have f0_a := f_a
  have f0_ch := f_ch
  refine lv_aload_n hx hb d_TX_take_0 rfl (lv_at hl 0 rfl) ?_
  refine hp_get S hK hM i_TX f_a rfl 1 (by decide) mf_TX_15 (fun _ h9 => h9) rfl d_TX_take_1 ?_
  refine hp_newi S hK hM hS hA (atype := .char) rfl ma_char 0 rfl rfl (by decide) n rfl (by omega) (by decide) (by show 0 + n ≤ 64; omega) d_TX_take_4 (fun q H hq_q hM hS => ?_)
  refine W.widen (k := 1) (n := 64) (by omega) (by omega) ?_
  rw [nf_0] at hM
  have ne_a_q : a ≠ q := hp_nn f_a hq_q
  have f_a := hp_k (e := (.inl (ct 0, n, .inl (nf (fun _ => 0))))) ne_a_q f_a
  have ne_ch_q : ch ≠ q := hp_nn f_ch hq_q
  have f_ch := hp_k (e := (.inl (ct 0, n, .inl (nf (fun _ => 0))))) ne_ch_q f_ch
  have f_q : hp_up M q (.inl (ct 0, n, .inl (nf (fun _ => 0)))) q = some (.inl (ct 0, n, .inl (nf (fun _ => 0)))) := hp_us
  obtain ⟨M1, eM1⟩ : ∃ z, z = hp_up M q (.inl (ct 0, n, .inl (nf (fun _ => 0)))) := ⟨_, rfl⟩
  rw [← eM1] at hM f_a f_ch f_q
  refine lv_astore_n (lv' := [(1, .ref q), (0, .ref a)]) hx hb d_TX_take_6 rfl hl (by decide) rfl (fun ls hl => ?_)
  refine lv_iconst (v := nI 0) hx hb d_TX_take_7 rfl ?_
  refine lv_istore_n (lv' := [(2, .int (nI 0)), (1, .ref q), (0, .ref a)]) hx hb d_TX_take_8 rfl hl (by decide) rfl (fun ls hl => ?_)
  replace hl : lv_has ls 3 [(0, .ref a), (1, .ref q), (2, .int (nI 0))] := lv_sub hl [2, 1, 0] rfl
  obtain ⟨j, e9j⟩ : ∃ z : Nat, z = 0 := ⟨_, rfl⟩
  obtain ⟨gq, e9gq⟩ : ∃ z : Nat → Nat, z = fun _ => 0 := ⟨_, rfl⟩
  replace hl : lv_has ls 3 [(0, .ref a), (1, .ref q), (2, .int (nI j))] := by subst e9j e9gq; exact hl
  obtain ⟨locs, e9L⟩ : ∃ z : List Loc, z = [] := ⟨_, rfl⟩
  replace hS : va_S (hp_A M sz) s.heap H locs := by rw [e9L]; exact hS
  rw [← e9L]
  clear e9L
  obtain ⟨N2, e9N2⟩ : ∃ z : hp_M, z = M1 := ⟨_, rfl⟩
  replace hM : hp_H D ccl (hp_A M sz) N2 H := by rw [e9N2]; exact hM
  replace f_a : N2 a = some (.inr (1, [.ref ch, .int (nI n)])) := by rw [e9N2]; exact f_a
  replace f_ch : N2 ch = some (.inl (ct 0, 64, .inl (nf g))) := by rw [e9N2]; exact f_ch
  replace f_q : N2 q = some (.inl (ct 0, n, .inl (nf (fun _ => 0)))) := by rw [e9N2]; exact f_q
  replace f_q : N2 q = some (.inl (ct 0, n, .inl (nf gq))) := by subst e9j e9gq; exact f_q
  have hN : N2 = hp_up M q (.inl (ct 0, n, .inl (nf gq))) := by subst e9j e9gq; exact e9N2.trans eM1
  have hgq : ∀ i, i < j → gq i = g i := by subst e9j e9gq; intro i hi; omega
  obtain ⟨fu, hn⟩ : ∃ fu : Nat, j + fu = n := ⟨n - j, by omega⟩
  clear e9j e9gq e9N2
  induction fu generalizing j gq H locs N2 ls with
  | zero =>
    have hn : j = n := by omega
    have hn2 : j = n := by omega
    replace hM := hM.cong f_q (g := nf g) (fun i hi => congrArg nI (hgq i (by omega)))
    rw [hN, hp_uu] at hM
    replace f_a := hp_k (e := .inl (ct 0, n, .inl (nf g))) ne_a_q f0_a
    replace f_ch := hp_k (e := .inl (ct 0, n, .inl (nf g))) ne_ch_q f0_ch
    have f_q : hp_up M q (.inl (ct 0, n, .inl (nf g))) q = some (.inl (ct 0, n, .inl (nf g))) := hp_us
    refine lv_iload_n hx hb d_TX_take_9 rfl (lv_at hl 2 rfl) ?_
    refine lv_aload_n hx hb d_TX_take_10 rfl (lv_at hl 1 rfl) ?_
    refine hp_alen S hK hM 0 f_q rfl d_TX_take_11 ?_
    refine nb_ge (tgt := 30) hx hb d_TX_take_12 (by decide) (by omega) (by omega) (fun h3 => ?_) (fun h3 => ?_)
    · refine lv_aload_n hx hb d_TX_take_30 rfl (lv_at hl 0 rfl) ?_
      refine lv_iconst (v := nI 0) hx hb d_TX_take_31 rfl ?_
      refine hp_put (ty := .int) (fs' := [.ref ch, .int (nI 0)]) S hK hM hS i_TX t_TX to_TX n_TX f_a rfl 1 (by decide) mf_TX_15 (fun _ h9 => h9) rfl (by decide +kernel) rfl rfl (by simp) rfl d_TX_take_32 (fun H locs hM hS => ?_)
      have f_ch := hp_k (e := (.inr (1, [.ref ch, .int (nI 0)]))) (hp_ne f_ch f_a (by simp)) f_ch
      have f_q := hp_k (e := (.inr (1, [.ref ch, .int (nI 0)]))) (Ne.symm ne_a_q) f_q
      have f_a : hp_up (hp_up M q (.inl (ct 0, n, .inl (nf g)))) a (.inr (1, [.ref ch, .int (nI 0)])) a = some (.inr (1, [.ref ch, .int (nI 0)])) := hp_us
      obtain ⟨M4, eM4⟩ : ∃ z, z = hp_up (hp_up M q (.inl (ct 0, n, .inl (nf g)))) a (.inr (1, [.ref ch, .int (nI 0)])) := ⟨_, rfl⟩
      rw [← eM4] at hM f_a f_ch f_q
      refine lv_aload_n hx hb d_TX_take_35 rfl (lv_at hl 1 rfl) ?_
      exact hp_aret (some q) rfl S hret (Or.inr ⟨_, rfl⟩) hlk hM hS (⟨q, rfl, hq_q, by rw [eM4]⟩) d_TX_take_36
    · exact absurd hn2 (by omega)
  | succ fu ih =>
    refine lv_iload_n hx hb d_TX_take_9 rfl (lv_at hl 2 rfl) ?_
    refine lv_aload_n hx hb d_TX_take_10 rfl (lv_at hl 1 rfl) ?_
    refine hp_alen S hK hM 0 f_q rfl d_TX_take_11 ?_
    refine nb_ge (tgt := 30) hx hb d_TX_take_12 (by decide) (by omega) (by omega) (fun h5 => ?_) (fun h5 => ?_)
    · exact absurd hn (by omega)
    · refine lv_aload_n hx hb d_TX_take_15 rfl (lv_at hl 1 rfl) ?_
      refine lv_iload_n hx hb d_TX_take_16 rfl (lv_at hl 2 rfl) ?_
      refine lv_aload_n hx hb d_TX_take_17 rfl (lv_at hl 0 rfl) ?_
      refine hp_get S hK hM i_TX f_a rfl 0 (by decide) mf_TX_9 (fun _ h9 => h9) rfl d_TX_take_18 ?_
      refine lv_iload_n hx hb d_TX_take_21 rfl (lv_at hl 2 rfl) ?_
      refine hp_cald S hK hM 0 f_ch rfl j rfl (by omega) (by omega) d_TX_take_22 ?_
      refine hp_cast S hK hM hS 0 f_q rfl j rfl (by omega) (by omega) (nar_nI (hg _)) d_TX_take_23 (fun H locs hM hS => ?_)
      rw [nf_up] at hM
      have f_a := hp_k (e := (.inl (ct 0, n, .inl (nf (va_up gq j (g j)))))) ne_a_q f_a
      have f_ch := hp_k (e := (.inl (ct 0, n, .inl (nf (va_up gq j (g j)))))) ne_ch_q f_ch
      have f_q : hp_up N2 q (.inl (ct 0, n, .inl (nf (va_up gq j (g j))))) q = some (.inl (ct 0, n, .inl (nf (va_up gq j (g j))))) := hp_us
      obtain ⟨M6, eM6⟩ : ∃ z, z = hp_up N2 q (.inl (ct 0, n, .inl (nf (va_up gq j (g j))))) := ⟨_, rfl⟩
      rw [← eM6] at hM f_a f_ch f_q
      refine lv_iinc (v := nI (j + 1)) (lv' := [(2, .int (nI (j + 1))), (0, .ref a), (1, .ref q)]) hx hb d_TX_take_24 hl (k := 2) rfl (nI_add j 1) (by decide) rfl (fun ls hl => ?_)
      refine lv_goto (tgt := 9) hx hb d_TX_take_27 (by decide) ?_
      exact ih (ls := ls) (hl := lv_sub hl [1, 2, 0] rfl) (j := j + 1) (hn := by omega) (gq := va_up gq j (g j)) (hN := by rw [eM6, hN, hp_uu]) (hgq := lt_s (fun i hi => by rw [up_n (Nat.ne_of_lt hi)]; exact hgq i hi) up_s) (H := H) (locs := locs) (hM := hM) (hS := hS) (N2 := M6) (f_a := f_a) (f_ch := f_ch) (f_q := f_q)
set_option maxHeartbeats 4000000 in
set_option maxRecDepth 100000 in
/-- Key() -/
theorem c_KY_init (l : Launch) (D : va_G) (ct : Nat → ClassId) (Z : hp_Z) (hZ : hp_Zok Z) (M : hp_M) (sz : Nat) (a cs n : Nat) (f_a : M a = some (.inr (5, [.null, .int (nI 0)]))) : Mv l y_KY_init b_KY_init 3 none 1 12 0 0 [.ref a, .ref cs, .int (nI n)] D ct Z M sz (fun M1 => M1 = hp_up M a (.inr (5, [.ref cs, .int (nI n)]))) := by
  refine hp_start (by decide) (Nat.le_of_ble_eq_true rfl) (fun p e s m below meth c ls S hret hlk hnm hsz hK hM hS hA hz hl => ?_)
  have hx := S.1
  have hb := S.2.1
  have hl : lv_has ls 3 [(0, .ref a), (1, .ref cs), (2, .int (nI n))] := hl
  refine lv_aload_n hx hb d_KY_init_0 rfl (lv_at hl 0 rfl) ?_
  refine W.objInit hx hb S.2.2.2.1 (S.2.2.2.2 _ ml_KY_1) (S.2.2.2.2 _ mi_OB_init) (S.2.2.2.2 _ mc_OB_init) rfl (by rw [S.2.2.1]; exact hl.1) rfl d_KY_init_1 (by decide) (Nat.le_of_ble_eq_true rfl) ?_
  refine W.eq (g2 := F0 m 4 ls []) rfl ?_
  refine lv_aload_n hx hb d_KY_init_4 rfl (lv_at hl 0 rfl) ?_
  refine lv_aload_n hx hb d_KY_init_5 rfl (lv_at hl 1 rfl) ?_
  refine hp_putF (ty := (.array .char)) (fs' := [.ref cs, .int (nI 0)]) S hK hM hS i_KY t_KY to_KY n_KY f_a rfl 0 (by decide) mf_KY_7 (fun _ h9 => h9) rfl hnm rfl (by decide +kernel) rfl rfl (by simp) rfl d_KY_init_6 (fun H locs hM hS => ?_)
  have f_a : hp_up M a (.inr (5, [.ref cs, .int (nI 0)])) a = some (.inr (5, [.ref cs, .int (nI 0)])) := hp_us
  obtain ⟨M1, eM1⟩ : ∃ z, z = hp_up M a (.inr (5, [.ref cs, .int (nI 0)])) := ⟨_, rfl⟩
  rw [← eM1] at hM f_a
  refine lv_aload_n hx hb d_KY_init_9 rfl (lv_at hl 0 rfl) ?_
  refine lv_iload_n hx hb d_KY_init_10 rfl (lv_at hl 2 rfl) ?_
  refine hp_putF (ty := .int) (fs' := [.ref cs, .int (nI n)]) S hK hM hS i_KY t_KY to_KY n_KY f_a rfl 1 (by decide) mf_KY_13 (fun _ h9 => h9) rfl hnm rfl (by decide +kernel) rfl rfl (by simp) rfl d_KY_init_11 (fun H locs hM hS => ?_)
  have f_a : hp_up M1 a (.inr (5, [.ref cs, .int (nI n)])) a = some (.inr (5, [.ref cs, .int (nI n)])) := hp_us
  obtain ⟨M2, eM2⟩ : ∃ z, z = hp_up M1 a (.inr (5, [.ref cs, .int (nI n)])) := ⟨_, rfl⟩
  rw [← eM2] at hM f_a
  exact hp_vret S hret hlk hM hS (by rw [eM2, eM1, hp_uu]) d_KY_init_14
set_option maxHeartbeats 4000000 in
set_option maxRecDepth 100000 in
/-- Row() -/
theorem c_RW_init (l : Launch) (D : va_G) (ct : Nat → ClassId) (Z : hp_Z) (hZ : hp_Zok Z) (M : hp_M) (sz : Nat) (a k ky bd : Nat) (f_a : M a = some (.inr (4, [.int (nI 0), .null, .null]))) : Mv l y_RW_init b_RW_init 4 none 1 12 0 0 [.ref a, .int (nI k), .ref ky, .ref bd] D ct Z M sz (fun M1 => M1 = hp_up M a (.inr (4, [.int (nI k), .ref ky, .ref bd]))) := by
  refine hp_start (by decide) (Nat.le_of_ble_eq_true rfl) (fun p e s m below meth c ls S hret hlk hnm hsz hK hM hS hA hz hl => ?_)
  have hx := S.1
  have hb := S.2.1
  have hl : lv_has ls 4 [(0, .ref a), (1, .int (nI k)), (2, .ref ky), (3, .ref bd)] := hl
  refine lv_aload_n hx hb d_RW_init_0 rfl (lv_at hl 0 rfl) ?_
  refine W.objInit hx hb S.2.2.2.1 (S.2.2.2.2 _ ml_RW_3) (S.2.2.2.2 _ mi_OB_init) (S.2.2.2.2 _ mc_OB_init) rfl (by rw [S.2.2.1]; exact hl.1) rfl d_RW_init_1 (by decide) (Nat.le_of_ble_eq_true rfl) ?_
  refine W.eq (g2 := F0 m 4 ls []) rfl ?_
  refine lv_aload_n hx hb d_RW_init_4 rfl (lv_at hl 0 rfl) ?_
  refine lv_iload_n hx hb d_RW_init_5 rfl (lv_at hl 1 rfl) ?_
  refine hp_putF (ty := .int) (fs' := [.int (nI k), .null, .null]) S hK hM hS i_RW t_RW to_RW n_RW f_a rfl 0 (by decide) mf_RW_9 (fun _ h9 => h9) rfl hnm rfl (by decide +kernel) rfl rfl (by simp) rfl d_RW_init_6 (fun H locs hM hS => ?_)
  have f_a : hp_up M a (.inr (4, [.int (nI k), .null, .null])) a = some (.inr (4, [.int (nI k), .null, .null])) := hp_us
  obtain ⟨M1, eM1⟩ : ∃ z, z = hp_up M a (.inr (4, [.int (nI k), .null, .null])) := ⟨_, rfl⟩
  rw [← eM1] at hM f_a
  refine lv_aload_n hx hb d_RW_init_9 rfl (lv_at hl 0 rfl) ?_
  refine lv_aload_n hx hb d_RW_init_10 rfl (lv_at hl 2 rfl) ?_
  refine hp_putF (ty := (.object "ActionDigests$Key")) (fs' := [.int (nI k), .ref ky, .null]) S hK hM hS i_RW t_RW to_RW n_RW f_a rfl 1 (by decide) mf_RW_15 (fun _ h9 => h9) rfl hnm rfl (by decide +kernel) rfl rfl (by simp) rfl d_RW_init_11 (fun H locs hM hS => ?_)
  have f_a : hp_up M1 a (.inr (4, [.int (nI k), .ref ky, .null])) a = some (.inr (4, [.int (nI k), .ref ky, .null])) := hp_us
  obtain ⟨M2, eM2⟩ : ∃ z, z = hp_up M1 a (.inr (4, [.int (nI k), .ref ky, .null])) := ⟨_, rfl⟩
  rw [← eM2] at hM f_a
  refine lv_aload_n hx hb d_RW_init_14 rfl (lv_at hl 0 rfl) ?_
  refine lv_aload_n hx hb d_RW_init_15 rfl (lv_at hl 3 rfl) ?_
  refine hp_putF (ty := (.array .char)) (fs' := [.int (nI k), .ref ky, .ref bd]) S hK hM hS i_RW t_RW to_RW n_RW f_a rfl 2 (by decide) mf_RW_19 (fun _ h9 => h9) rfl hnm rfl (by decide +kernel) rfl rfl (by simp) rfl d_RW_init_16 (fun H locs hM hS => ?_)
  have f_a : hp_up M2 a (.inr (4, [.int (nI k), .ref ky, .ref bd])) a = some (.inr (4, [.int (nI k), .ref ky, .ref bd])) := hp_us
  obtain ⟨M3, eM3⟩ : ∃ z, z = hp_up M2 a (.inr (4, [.int (nI k), .ref ky, .ref bd])) := ⟨_, rfl⟩
  rw [← eM3] at hM f_a
  exact hp_vret S hret hlk hM hS (by rw [eM3, eM2, eM1, hp_uu, hp_uu]) d_RW_init_19
end
section
/-! KEYS, ROWS: what they are in a heaplet -/
/-- KIND, PATH or NAME, what follows the length in the STABLE TEXT -/
abbrev RowT : Type := Nat × List Nat × List Nat
/-- a Key that holds a PATH or NAME; fz: its characters are nobody's to write -/
def kyOk (ct : Nat → ClassId) (fz : Nat → Prop) (M : hp_M) (a : Nat) (K : List Nat) : Prop := ∃ (ca : Nat) (xs : List Nat), M a = some (.inr (5, [.ref ca, .int (nI K.length)])) ∧ M ca = some (.inl (ct 0, xs.length, .inl (tx xs))) ∧ xs.take K.length = K ∧ K.length ≤ xs.length ∧ xs.length ≤ 64 ∧ (∀ i, xs.getD i 0 < 65536) ∧ fz ca
def rwOk (ct : Nat → ClassId) (fz : Nat → Prop) (M : hp_M) (a : Nat) (R : RowT) : Prop := ∃ ky ba : Nat, M a = some (.inr (4, [.int (nI R.1), .ref ky, .ref ba])) ∧ kyOk ct fz M ky R.2.1 ∧ M ba = some (.inl (ct 0, R.2.2.length, .inl (tx R.2.2))) ∧ R.2.2.length ≤ 105 ∧ (∀ i, R.2.2.getD i 0 < 65536) ∧ fz ba ∧ R.1 ≤ 7
/-- the sign of an answer -/
def cmpR (r : Int32) (c : Int) : Prop := (r = 0 ↔ c = 0) ∧ (0 < r ↔ 0 < c)
theorem sub_sgn {a b : Nat} (ha : a < 2 ^ 30) (hb : b < 2 ^ 30) : (nI a - nI b = 0 ↔ a = b) ∧ (0 < nI a - nI b ↔ b < a) := by
  have h := pk_sub_toInt ha hb
  constructor
  · constructor
    · intro q
      rw [q, Int32.toInt_zero] at h
      omega
    · intro q
      subst q
      exact Int32.toInt_inj.mp (by rw [h, Int32.toInt_zero]; omega)
  · rw [Int32.lt_iff_toInt_lt, h, Int32.toInt_zero]
    omega
theorem take_getD {x : List Nat} {n i : Nat} (h : i < n) : (x.take n).getD i 0 = x.getD i 0 := by
  simp [List.getD_eq_getElem?_getD, List.getElem?_take, h]
theorem list_ext {x y : List Nat} (h : x.length = y.length) (hg : ∀ i, i < x.length → x.getD i 0 = y.getD i 0) : x = y := by
  apply List.ext_getElem h
  intro i h1 h2
  have h3 := hg i h1
  rw [List.getD_eq_getElem?_getD, List.getD_eq_getElem?_getD, List.getElem?_eq_getElem h1, List.getElem?_eq_getElem h2] at h3
  exact h3
theorem min_nI {a b : Nat} (ha : a < 2 ^ 31) (hb : b < 2 ^ 31) : (if nI b < nI a then nI b else nI a) = nI (min a b) := by
  by_cases h : b < a
  · rw [if_pos ((nI_ltI hb ha).mpr h), Nat.min_eq_right (Nat.le_of_lt h)]
  · rw [if_neg (fun q => h ((nI_ltI hb ha).mp q)), Nat.min_eq_left (by omega)]
/-- the STABLE TEXT of a row -/
def stT (R : RowT) : List Nat := (48 + R.1) :: (48 + R.2.2.length / 64) :: (48 + R.2.2.length % 64) :: R.2.2
/-- a row comes behind another -/
def behind (R S : RowT) : Prop := S.1 < R.1 ∨ (R.1 = S.1 ∧ 0 < cmpK R.2.1 S.2.1)
theorem d_KY_compareWith_0 : decode b_KY_compareWith 0 = .ok (.aload_n 0, 1) := by decide +kernel
theorem d_KY_compareWith_1 : decode b_KY_compareWith 1 = .ok (.getfield 13, 3) := by decide +kernel
theorem d_KY_compareWith_4 : decode b_KY_compareWith 4 = .ok (.aload_n 1, 1) := by decide +kernel
theorem d_KY_compareWith_5 : decode b_KY_compareWith 5 = .ok (.getfield 13, 3) := by decide +kernel
theorem d_KY_compareWith_8 : decode b_KY_compareWith 8 = .ok (.invokestatic 17, 3) := by decide +kernel
theorem d_KY_compareWith_11 : decode b_KY_compareWith 11 = .ok (.istore_n 2, 1) := by decide +kernel
theorem d_KY_compareWith_12 : decode b_KY_compareWith 12 = .ok (.iconst 0, 1) := by decide +kernel
theorem d_KY_compareWith_13 : decode b_KY_compareWith 13 = .ok (.istore_n 3, 1) := by decide +kernel
theorem d_KY_compareWith_14 : decode b_KY_compareWith 14 = .ok (.iload_n 3, 1) := by decide +kernel
theorem d_KY_compareWith_15 : decode b_KY_compareWith 15 = .ok (.iload_n 2, 1) := by decide +kernel
theorem d_KY_compareWith_16 : decode b_KY_compareWith 16 = .ok (.if_icmp .ge 38, 3) := by decide +kernel
theorem d_KY_compareWith_19 : decode b_KY_compareWith 19 = .ok (.aload_n 0, 1) := by decide +kernel
theorem d_KY_compareWith_20 : decode b_KY_compareWith 20 = .ok (.getfield 7, 3) := by decide +kernel
theorem d_KY_compareWith_23 : decode b_KY_compareWith 23 = .ok (.iload_n 3, 1) := by decide +kernel
theorem d_KY_compareWith_24 : decode b_KY_compareWith 24 = .ok (.caload, 1) := by decide +kernel
theorem d_KY_compareWith_25 : decode b_KY_compareWith 25 = .ok (.aload_n 1, 1) := by decide +kernel
theorem d_KY_compareWith_26 : decode b_KY_compareWith 26 = .ok (.getfield 7, 3) := by decide +kernel
theorem d_KY_compareWith_29 : decode b_KY_compareWith 29 = .ok (.iload_n 3, 1) := by decide +kernel
theorem d_KY_compareWith_30 : decode b_KY_compareWith 30 = .ok (.caload, 1) := by decide +kernel
theorem d_KY_compareWith_31 : decode b_KY_compareWith 31 = .ok (.if_icmp .eq 17, 3) := by decide +kernel
theorem d_KY_compareWith_34 : decode b_KY_compareWith 34 = .ok (.aload_n 0, 1) := by decide +kernel
theorem d_KY_compareWith_35 : decode b_KY_compareWith 35 = .ok (.getfield 7, 3) := by decide +kernel
theorem d_KY_compareWith_38 : decode b_KY_compareWith 38 = .ok (.iload_n 3, 1) := by decide +kernel
theorem d_KY_compareWith_39 : decode b_KY_compareWith 39 = .ok (.caload, 1) := by decide +kernel
theorem d_KY_compareWith_40 : decode b_KY_compareWith 40 = .ok (.aload_n 1, 1) := by decide +kernel
theorem d_KY_compareWith_41 : decode b_KY_compareWith 41 = .ok (.getfield 7, 3) := by decide +kernel
theorem d_KY_compareWith_44 : decode b_KY_compareWith 44 = .ok (.iload_n 3, 1) := by decide +kernel
theorem d_KY_compareWith_45 : decode b_KY_compareWith 45 = .ok (.caload, 1) := by decide +kernel
theorem d_KY_compareWith_46 : decode b_KY_compareWith 46 = .ok (.isub, 1) := by decide +kernel
theorem d_KY_compareWith_47 : decode b_KY_compareWith 47 = .ok (.ireturn, 1) := by decide +kernel
theorem d_KY_compareWith_48 : decode b_KY_compareWith 48 = .ok (.iinc 3 1, 3) := by decide +kernel
theorem d_KY_compareWith_51 : decode b_KY_compareWith 51 = .ok (.goto (-37), 3) := by decide +kernel
theorem d_KY_compareWith_54 : decode b_KY_compareWith 54 = .ok (.aload_n 0, 1) := by decide +kernel
theorem d_KY_compareWith_55 : decode b_KY_compareWith 55 = .ok (.getfield 13, 3) := by decide +kernel
theorem d_KY_compareWith_58 : decode b_KY_compareWith 58 = .ok (.aload_n 1, 1) := by decide +kernel
theorem d_KY_compareWith_59 : decode b_KY_compareWith 59 = .ok (.getfield 13, 3) := by decide +kernel
theorem d_KY_compareWith_62 : decode b_KY_compareWith 62 = .ok (.isub, 1) := by decide +kernel
theorem d_KY_compareWith_63 : decode b_KY_compareWith 63 = .ok (.ireturn, 1) := by decide +kernel
theorem d_RW_stableLength_0 : decode b_RW_stableLength 0 = .ok (.iconst 3, 1) := by decide +kernel
theorem d_RW_stableLength_1 : decode b_RW_stableLength 1 = .ok (.aload_n 0, 1) := by decide +kernel
theorem d_RW_stableLength_2 : decode b_RW_stableLength 2 = .ok (.getfield 19, 3) := by decide +kernel
theorem d_RW_stableLength_5 : decode b_RW_stableLength 5 = .ok (.arraylength, 1) := by decide +kernel
theorem d_RW_stableLength_6 : decode b_RW_stableLength 6 = .ok (.iadd, 1) := by decide +kernel
theorem d_RW_stableLength_7 : decode b_RW_stableLength 7 = .ok (.ireturn, 1) := by decide +kernel
theorem d_RW_stableCharacter_0 : decode b_RW_stableCharacter 0 = .ok (.iload_n 1, 1) := by decide +kernel
theorem d_RW_stableCharacter_1 : decode b_RW_stableCharacter 1 = .ok (.ifCond .ne 11, 3) := by decide +kernel
theorem d_RW_stableCharacter_4 : decode b_RW_stableCharacter 4 = .ok (.bipush 48, 2) := by decide +kernel
theorem d_RW_stableCharacter_6 : decode b_RW_stableCharacter 6 = .ok (.aload_n 0, 1) := by decide +kernel
theorem d_RW_stableCharacter_7 : decode b_RW_stableCharacter 7 = .ok (.getfield 9, 3) := by decide +kernel
theorem d_RW_stableCharacter_10 : decode b_RW_stableCharacter 10 = .ok (.iadd, 1) := by decide +kernel
theorem d_RW_stableCharacter_11 : decode b_RW_stableCharacter 11 = .ok (.ireturn, 1) := by decide +kernel
theorem d_RW_stableCharacter_12 : decode b_RW_stableCharacter 12 = .ok (.iload_n 1, 1) := by decide +kernel
theorem d_RW_stableCharacter_13 : decode b_RW_stableCharacter 13 = .ok (.iconst 1, 1) := by decide +kernel
theorem d_RW_stableCharacter_14 : decode b_RW_stableCharacter 14 = .ok (.if_icmp .ne 15, 3) := by decide +kernel
theorem d_RW_stableCharacter_17 : decode b_RW_stableCharacter 17 = .ok (.bipush 48, 2) := by decide +kernel
theorem d_RW_stableCharacter_19 : decode b_RW_stableCharacter 19 = .ok (.aload_n 0, 1) := by decide +kernel
theorem d_RW_stableCharacter_20 : decode b_RW_stableCharacter 20 = .ok (.getfield 19, 3) := by decide +kernel
theorem d_RW_stableCharacter_23 : decode b_RW_stableCharacter 23 = .ok (.arraylength, 1) := by decide +kernel
theorem d_RW_stableCharacter_24 : decode b_RW_stableCharacter 24 = .ok (.bipush 64, 2) := by decide +kernel
theorem d_RW_stableCharacter_26 : decode b_RW_stableCharacter 26 = .ok (.idiv, 1) := by decide +kernel
theorem d_RW_stableCharacter_27 : decode b_RW_stableCharacter 27 = .ok (.iadd, 1) := by decide +kernel
theorem d_RW_stableCharacter_28 : decode b_RW_stableCharacter 28 = .ok (.ireturn, 1) := by decide +kernel
theorem d_RW_stableCharacter_29 : decode b_RW_stableCharacter 29 = .ok (.iload_n 1, 1) := by decide +kernel
theorem d_RW_stableCharacter_30 : decode b_RW_stableCharacter 30 = .ok (.iconst 2, 1) := by decide +kernel
theorem d_RW_stableCharacter_31 : decode b_RW_stableCharacter 31 = .ok (.if_icmp .ne 15, 3) := by decide +kernel
theorem d_RW_stableCharacter_34 : decode b_RW_stableCharacter 34 = .ok (.bipush 48, 2) := by decide +kernel
theorem d_RW_stableCharacter_36 : decode b_RW_stableCharacter 36 = .ok (.aload_n 0, 1) := by decide +kernel
theorem d_RW_stableCharacter_37 : decode b_RW_stableCharacter 37 = .ok (.getfield 19, 3) := by decide +kernel
theorem d_RW_stableCharacter_40 : decode b_RW_stableCharacter 40 = .ok (.arraylength, 1) := by decide +kernel
theorem d_RW_stableCharacter_41 : decode b_RW_stableCharacter 41 = .ok (.bipush 64, 2) := by decide +kernel
theorem d_RW_stableCharacter_43 : decode b_RW_stableCharacter 43 = .ok (.irem, 1) := by decide +kernel
theorem d_RW_stableCharacter_44 : decode b_RW_stableCharacter 44 = .ok (.iadd, 1) := by decide +kernel
theorem d_RW_stableCharacter_45 : decode b_RW_stableCharacter 45 = .ok (.ireturn, 1) := by decide +kernel
theorem d_RW_stableCharacter_46 : decode b_RW_stableCharacter 46 = .ok (.iload_n 1, 1) := by decide +kernel
theorem d_RW_stableCharacter_47 : decode b_RW_stableCharacter 47 = .ok (.iconst 3, 1) := by decide +kernel
theorem d_RW_stableCharacter_48 : decode b_RW_stableCharacter 48 = .ok (.isub, 1) := by decide +kernel
theorem d_RW_stableCharacter_49 : decode b_RW_stableCharacter 49 = .ok (.istore_n 2, 1) := by decide +kernel
theorem d_RW_stableCharacter_50 : decode b_RW_stableCharacter 50 = .ok (.iload_n 2, 1) := by decide +kernel
theorem d_RW_stableCharacter_51 : decode b_RW_stableCharacter 51 = .ok (.ifCond .lt 12, 3) := by decide +kernel
theorem d_RW_stableCharacter_54 : decode b_RW_stableCharacter 54 = .ok (.iload_n 2, 1) := by decide +kernel
theorem d_RW_stableCharacter_55 : decode b_RW_stableCharacter 55 = .ok (.aload_n 0, 1) := by decide +kernel
theorem d_RW_stableCharacter_56 : decode b_RW_stableCharacter 56 = .ok (.getfield 19, 3) := by decide +kernel
theorem d_RW_stableCharacter_59 : decode b_RW_stableCharacter 59 = .ok (.arraylength, 1) := by decide +kernel
theorem d_RW_stableCharacter_60 : decode b_RW_stableCharacter 60 = .ok (.if_icmp .lt 7, 3) := by decide +kernel
theorem d_RW_stableCharacter_63 : decode b_RW_stableCharacter 63 = .ok (.iconst (-1), 1) := by decide +kernel
theorem d_RW_stableCharacter_64 : decode b_RW_stableCharacter 64 = .ok (.goto 9, 3) := by decide +kernel
theorem d_RW_stableCharacter_67 : decode b_RW_stableCharacter 67 = .ok (.aload_n 0, 1) := by decide +kernel
theorem d_RW_stableCharacter_68 : decode b_RW_stableCharacter 68 = .ok (.getfield 19, 3) := by decide +kernel
theorem d_RW_stableCharacter_71 : decode b_RW_stableCharacter 71 = .ok (.iload_n 2, 1) := by decide +kernel
theorem d_RW_stableCharacter_72 : decode b_RW_stableCharacter 72 = .ok (.caload, 1) := by decide +kernel
theorem d_RW_stableCharacter_73 : decode b_RW_stableCharacter 73 = .ok (.ireturn, 1) := by decide +kernel
theorem d_RW_isBehind_0 : decode b_RW_isBehind 0 = .ok (.aload_n 0, 1) := by decide +kernel
theorem d_RW_isBehind_1 : decode b_RW_isBehind 1 = .ok (.getfield 9, 3) := by decide +kernel
theorem d_RW_isBehind_4 : decode b_RW_isBehind 4 = .ok (.aload_n 1, 1) := by decide +kernel
theorem d_RW_isBehind_5 : decode b_RW_isBehind 5 = .ok (.getfield 9, 3) := by decide +kernel
theorem d_RW_isBehind_8 : decode b_RW_isBehind 8 = .ok (.if_icmp .eq 22, 3) := by decide +kernel
theorem d_RW_isBehind_11 : decode b_RW_isBehind 11 = .ok (.aload_n 0, 1) := by decide +kernel
theorem d_RW_isBehind_12 : decode b_RW_isBehind 12 = .ok (.getfield 9, 3) := by decide +kernel
theorem d_RW_isBehind_15 : decode b_RW_isBehind 15 = .ok (.aload_n 1, 1) := by decide +kernel
theorem d_RW_isBehind_16 : decode b_RW_isBehind 16 = .ok (.getfield 9, 3) := by decide +kernel
theorem d_RW_isBehind_19 : decode b_RW_isBehind 19 = .ok (.if_icmp .le 7, 3) := by decide +kernel
theorem d_RW_isBehind_22 : decode b_RW_isBehind 22 = .ok (.iconst 1, 1) := by decide +kernel
theorem d_RW_isBehind_23 : decode b_RW_isBehind 23 = .ok (.goto 26, 3) := by decide +kernel
theorem d_RW_isBehind_26 : decode b_RW_isBehind 26 = .ok (.iconst 0, 1) := by decide +kernel
theorem d_RW_isBehind_27 : decode b_RW_isBehind 27 = .ok (.goto 22, 3) := by decide +kernel
theorem d_RW_isBehind_30 : decode b_RW_isBehind 30 = .ok (.aload_n 0, 1) := by decide +kernel
theorem d_RW_isBehind_31 : decode b_RW_isBehind 31 = .ok (.getfield 15, 3) := by decide +kernel
theorem d_RW_isBehind_34 : decode b_RW_isBehind 34 = .ok (.aload_n 1, 1) := by decide +kernel
theorem d_RW_isBehind_35 : decode b_RW_isBehind 35 = .ok (.getfield 15, 3) := by decide +kernel
theorem d_RW_isBehind_38 : decode b_RW_isBehind 38 = .ok (.invokevirtual 23, 3) := by decide +kernel
theorem d_RW_isBehind_41 : decode b_RW_isBehind 41 = .ok (.ifCond .le 7, 3) := by decide +kernel
theorem d_RW_isBehind_44 : decode b_RW_isBehind 44 = .ok (.iconst 1, 1) := by decide +kernel
theorem d_RW_isBehind_45 : decode b_RW_isBehind 45 = .ok (.goto 4, 3) := by decide +kernel
theorem d_RW_isBehind_48 : decode b_RW_isBehind 48 = .ok (.iconst 0, 1) := by decide +kernel
theorem d_RW_isBehind_49 : decode b_RW_isBehind 49 = .ok (.ireturn, 1) := by decide +kernel
theorem d_RW_isLike_0 : decode b_RW_isLike 0 = .ok (.aload_n 0, 1) := by decide +kernel
theorem d_RW_isLike_1 : decode b_RW_isLike 1 = .ok (.getfield 9, 3) := by decide +kernel
theorem d_RW_isLike_4 : decode b_RW_isLike 4 = .ok (.aload_n 1, 1) := by decide +kernel
theorem d_RW_isLike_5 : decode b_RW_isLike 5 = .ok (.getfield 9, 3) := by decide +kernel
theorem d_RW_isLike_8 : decode b_RW_isLike 8 = .ok (.if_icmp .ne 16, 3) := by decide +kernel
theorem d_RW_isLike_11 : decode b_RW_isLike 11 = .ok (.aload_n 0, 1) := by decide +kernel
theorem d_RW_isLike_12 : decode b_RW_isLike 12 = .ok (.getfield 19, 3) := by decide +kernel
theorem d_RW_isLike_15 : decode b_RW_isLike 15 = .ok (.arraylength, 1) := by decide +kernel
theorem d_RW_isLike_16 : decode b_RW_isLike 16 = .ok (.aload_n 1, 1) := by decide +kernel
theorem d_RW_isLike_17 : decode b_RW_isLike 17 = .ok (.getfield 19, 3) := by decide +kernel
theorem d_RW_isLike_20 : decode b_RW_isLike 20 = .ok (.arraylength, 1) := by decide +kernel
theorem d_RW_isLike_21 : decode b_RW_isLike 21 = .ok (.if_icmp .eq 5, 3) := by decide +kernel
theorem d_RW_isLike_24 : decode b_RW_isLike 24 = .ok (.iconst 0, 1) := by decide +kernel
theorem d_RW_isLike_25 : decode b_RW_isLike 25 = .ok (.ireturn, 1) := by decide +kernel
theorem d_RW_isLike_26 : decode b_RW_isLike 26 = .ok (.iconst 0, 1) := by decide +kernel
theorem d_RW_isLike_27 : decode b_RW_isLike 27 = .ok (.istore_n 2, 1) := by decide +kernel
theorem d_RW_isLike_28 : decode b_RW_isLike 28 = .ok (.iload_n 2, 1) := by decide +kernel
theorem d_RW_isLike_29 : decode b_RW_isLike 29 = .ok (.aload_n 0, 1) := by decide +kernel
theorem d_RW_isLike_30 : decode b_RW_isLike 30 = .ok (.getfield 19, 3) := by decide +kernel
theorem d_RW_isLike_33 : decode b_RW_isLike 33 = .ok (.arraylength, 1) := by decide +kernel
theorem d_RW_isLike_34 : decode b_RW_isLike 34 = .ok (.if_icmp .ge 26, 3) := by decide +kernel
theorem d_RW_isLike_37 : decode b_RW_isLike 37 = .ok (.aload_n 0, 1) := by decide +kernel
theorem d_RW_isLike_38 : decode b_RW_isLike 38 = .ok (.getfield 19, 3) := by decide +kernel
theorem d_RW_isLike_41 : decode b_RW_isLike 41 = .ok (.iload_n 2, 1) := by decide +kernel
theorem d_RW_isLike_42 : decode b_RW_isLike 42 = .ok (.caload, 1) := by decide +kernel
theorem d_RW_isLike_43 : decode b_RW_isLike 43 = .ok (.aload_n 1, 1) := by decide +kernel
theorem d_RW_isLike_44 : decode b_RW_isLike 44 = .ok (.getfield 19, 3) := by decide +kernel
theorem d_RW_isLike_47 : decode b_RW_isLike 47 = .ok (.iload_n 2, 1) := by decide +kernel
theorem d_RW_isLike_48 : decode b_RW_isLike 48 = .ok (.caload, 1) := by decide +kernel
theorem d_RW_isLike_49 : decode b_RW_isLike 49 = .ok (.if_icmp .eq 5, 3) := by decide +kernel
theorem d_RW_isLike_52 : decode b_RW_isLike 52 = .ok (.iconst 0, 1) := by decide +kernel
theorem d_RW_isLike_53 : decode b_RW_isLike 53 = .ok (.ireturn, 1) := by decide +kernel
theorem d_RW_isLike_54 : decode b_RW_isLike 54 = .ok (.iinc 2 1, 3) := by decide +kernel
theorem d_RW_isLike_57 : decode b_RW_isLike 57 = .ok (.goto (-29), 3) := by decide +kernel
theorem d_RW_isLike_60 : decode b_RW_isLike 60 = .ok (.iconst 1, 1) := by decide +kernel
theorem d_RW_isLike_61 : decode b_RW_isLike 61 = .ok (.ireturn, 1) := by decide +kernel
set_option maxHeartbeats 4000000 in
set_option maxRecDepth 100000 in
/-- the order of PATHS and NAMES -/
theorem c_KY_compareWith (l : Launch) (D : va_G) (ct : Nat → ClassId) (Z : hp_Z) (hZ : hp_Zok Z) (M : hp_M) (sz : Nat) (fz : Nat → Prop) (a b : Nat) (K L : List Nat) (hka : kyOk ct fz M a K) (hkb : kyOk ct fz M b L) : Mi l y_KY_compareWith b_KY_compareWith 4 (some .int) 1 13 0 0 [.ref a, .ref b] D ct Z M sz (fun r M1 => M1 = M ∧ cmpR r (cmpK K L)) := by
  refine hp_start (by decide) (Nat.le_of_ble_eq_true rfl) (fun p e s m below meth c ls S hret hlk hnm hsz hK hM hS hA hz hl => ?_)
  have hx := S.1
  have hb := S.2.1
  have hl : lv_has ls 4 [(0, .ref a), (1, .ref b)] := hl
  obtain ⟨ca, xa, f_a, f_ca, hta, hla, hxa, hc_xa, -⟩ := hka
  obtain ⟨cb, xb, f_b, f_cb, htb, hlb, hxb, hc_xb, -⟩ := hkb
  have ga : ∀ i, i < K.length → K.getD i 0 = xa.getD i 0 := fun i hi => by have h := take_getD (x := xa) hi; rw [hta] at h; exact h
  have gb : ∀ i, i < L.length → L.getD i 0 = xb.getD i 0 := fun i hi => by have h := take_getD (x := xb) hi; rw [htb] at h; exact h
  refine lv_aload_n hx hb d_KY_compareWith_0 rfl (lv_at hl 0 rfl) ?_
  refine hp_get S hK hM i_KY f_a rfl 1 (by decide) mf_KY_13 (fun _ h9 => h9) rfl d_KY_compareWith_1 ?_
  refine lv_aload_n hx hb d_KY_compareWith_4 rfl (lv_at hl 1 rfl) ?_
  refine hp_get S hK hM i_KY f_b rfl 1 (by decide) mf_KY_13 (fun _ h9 => h9) rfl d_KY_compareWith_5 ?_
  refine va_mmin hx hb (by rw [S.2.2.1]; exact hl.1.symm) S.2.2.2.1 (S.2.2.2.2 _ ml_KY_17) (S.2.2.2.2 _ ms_MA_min) (S.2.2.2.2 _ mz_MA) (S.2.2.2.2 _ mc_MA_min) (by decide) (by decide) (by decide) (by decide) d_KY_compareWith_8 ?_
  rw [min_nI (by omega) (by omega)]
  refine lv_istore_n (lv' := [(2, .int (nI (min K.length L.length))), (0, .ref a), (1, .ref b)]) hx hb d_KY_compareWith_11 rfl hl (by decide) rfl (fun ls hl => ?_)
  refine lv_iconst (v := nI 0) hx hb d_KY_compareWith_12 rfl ?_
  refine lv_istore_n (lv' := [(3, .int (nI 0)), (2, .int (nI (min K.length L.length))), (0, .ref a), (1, .ref b)]) hx hb d_KY_compareWith_13 rfl hl (by decide) rfl (fun ls hl => ?_)
  replace hl : lv_has ls 4 [(0, .ref a), (1, .ref b), (2, .int (nI (min K.length L.length))), (3, .int (nI 0))] := lv_sub hl [2, 3, 1, 0] rfl
  obtain ⟨j, e9j⟩ : ∃ z : Nat, z = 0 := ⟨_, rfl⟩
  replace hl : lv_has ls 4 [(0, .ref a), (1, .ref b), (2, .int (nI (min K.length L.length))), (3, .int (nI j))] := by subst e9j; exact hl
  have hinv : ∀ i, i < j → xa.getD i 0 = xb.getD i 0 := by subst e9j; intro i hi; omega
  obtain ⟨fu, hn⟩ : ∃ fu : Nat, j + fu = min K.length L.length := ⟨min K.length L.length - j, by omega⟩
  clear e9j
  induction fu generalizing j ls with
  | zero =>
    have hn : j = min K.length L.length := by omega
    refine lv_iload_n hx hb d_KY_compareWith_14 rfl (lv_at hl 3 rfl) ?_
    refine lv_iload_n hx hb d_KY_compareWith_15 rfl (lv_at hl 2 rfl) ?_
    refine nb_ge (tgt := 54) hx hb d_KY_compareWith_16 (by decide) (by omega) (by omega) (fun h1 => ?_) (fun h1 => ?_)
    · refine lv_aload_n hx hb d_KY_compareWith_54 rfl (lv_at hl 0 rfl) ?_
      refine hp_get S hK hM i_KY f_a rfl 1 (by decide) mf_KY_13 (fun _ h9 => h9) rfl d_KY_compareWith_55 ?_
      refine lv_aload_n hx hb d_KY_compareWith_58 rfl (lv_at hl 1 rfl) ?_
      refine hp_get S hK hM i_KY f_b rfl 1 (by decide) mf_KY_13 (fun _ h9 => h9) rfl d_KY_compareWith_59 ?_
      refine lv_isub hx hb d_KY_compareWith_62 ?_
      have hs := sub_sgn (a := K.length) (b := L.length) (by omega) (by omega)
      have hc := cmpK_pre K L (fun i h1 h2 => by rw [ga i h1, gb i h2]; exact hinv i (by omega))
      refine hp_iret S hret hlk rfl hM hS ⟨rfl, ?_⟩ d_KY_compareWith_63
      rw [hc]; unfold cmpR; rw [hs.1, hs.2]
      by_cases q1 : K.length = L.length
      · rw [if_pos q1]; omega
      · rw [if_neg q1]
        by_cases q2 : K.length < L.length
        · rw [if_pos q2]; omega
        · rw [if_neg q2]; omega
    · exact absurd hn (by omega)
  | succ fu ih =>
    refine lv_iload_n hx hb d_KY_compareWith_14 rfl (lv_at hl 3 rfl) ?_
    refine lv_iload_n hx hb d_KY_compareWith_15 rfl (lv_at hl 2 rfl) ?_
    refine nb_ge (tgt := 54) hx hb d_KY_compareWith_16 (by decide) (by omega) (by omega) (fun h2 => ?_) (fun h2 => ?_)
    · exact absurd hn (by omega)
    · refine lv_aload_n hx hb d_KY_compareWith_19 rfl (lv_at hl 0 rfl) ?_
      refine hp_get S hK hM i_KY f_a rfl 0 (by decide) mf_KY_7 (fun _ h9 => h9) rfl d_KY_compareWith_20 ?_
      refine lv_iload_n hx hb d_KY_compareWith_23 rfl (lv_at hl 3 rfl) ?_
      refine hp_cald S hK hM 0 f_ca rfl j rfl (by omega) (by omega) d_KY_compareWith_24 ?_
      refine lv_aload_n hx hb d_KY_compareWith_25 rfl (lv_at hl 1 rfl) ?_
      refine hp_get S hK hM i_KY f_b rfl 0 (by decide) mf_KY_7 (fun _ h9 => h9) rfl d_KY_compareWith_26 ?_
      refine lv_iload_n hx hb d_KY_compareWith_29 rfl (lv_at hl 3 rfl) ?_
      refine hp_cald S hK hM 0 f_cb rfl j rfl (by omega) (by omega) d_KY_compareWith_30 ?_
      refine nb_eq (tgt := 48) hx hb d_KY_compareWith_31 (by decide) (Nat.lt_trans (hc_xa _) (by decide)) (Nat.lt_trans (hc_xb _) (by decide)) (fun heq => ?_) (fun heq => ?_)
      · refine lv_iinc (v := nI (j + 1)) (lv' := [(3, .int (nI (j + 1))), (0, .ref a), (1, .ref b), (2, .int (nI (min K.length L.length)))]) hx hb d_KY_compareWith_48 hl (k := 3) rfl (nI_add j 1) (by decide) rfl (fun ls hl => ?_)
        refine lv_goto (tgt := 14) hx hb d_KY_compareWith_51 (by decide) ?_
        exact ih (ls := ls) (hl := lv_sub hl [1, 2, 3, 0] rfl) (j := j + 1) (hn := by omega) (hinv := lt_s hinv heq)
      · refine lv_aload_n hx hb d_KY_compareWith_34 rfl (lv_at hl 0 rfl) ?_
        refine hp_get S hK hM i_KY f_a rfl 0 (by decide) mf_KY_7 (fun _ h9 => h9) rfl d_KY_compareWith_35 ?_
        refine lv_iload_n hx hb d_KY_compareWith_38 rfl (lv_at hl 3 rfl) ?_
        refine hp_cald S hK hM 0 f_ca rfl j rfl (by omega) (by omega) d_KY_compareWith_39 ?_
        refine lv_aload_n hx hb d_KY_compareWith_40 rfl (lv_at hl 1 rfl) ?_
        refine hp_get S hK hM i_KY f_b rfl 0 (by decide) mf_KY_7 (fun _ h9 => h9) rfl d_KY_compareWith_41 ?_
        refine lv_iload_n hx hb d_KY_compareWith_44 rfl (lv_at hl 3 rfl) ?_
        refine hp_cald S hK hM 0 f_cb rfl j rfl (by omega) (by omega) d_KY_compareWith_45 ?_
        refine lv_isub hx hb d_KY_compareWith_46 ?_
        have hs := sub_sgn (a := xa.getD j 0) (b := xb.getD j 0) (Nat.lt_trans (hc_xa _) (by decide)) (Nat.lt_trans (hc_xb _) (by decide))
        have hc := cmpK_diff K L j (by omega) (by omega) (fun i hi => by rw [ga i (by omega), gb i (by omega)]; exact hinv i hi) (by rw [ga j (by omega), gb j (by omega)]; exact heq)
        rw [ga j (by omega), gb j (by omega)] at hc
        refine hp_iret S hret hlk rfl hM hS ⟨rfl, ?_⟩ d_KY_compareWith_47
        show cmpR (nI (xa.getD j 0) - nI (xb.getD j 0)) _
        rw [hc]; unfold cmpR; rw [hs.1, hs.2]
        by_cases q2 : xa.getD j 0 < xb.getD j 0
        · rw [if_pos q2]; omega
        · rw [if_neg q2]; omega
set_option maxHeartbeats 4000000 in
set_option maxRecDepth 100000 in
/-- how many characters a row gives -/
theorem c_RW_stableLength (l : Launch) (D : va_G) (ct : Nat → ClassId) (Z : hp_Z) (hZ : hp_Zok Z) (M : hp_M) (sz : Nat) (fz : Nat → Prop) (a : Nat) (R : RowT) (hra : rwOk ct fz M a R) : Mi l y_RW_stableLength b_RW_stableLength 1 (some .int) 0 0 0 0 [.ref a] D ct Z M sz (fun r M1 => M1 = M ∧ r = nI (stT R).length) := by
  refine hp_start (by decide) (Nat.le_of_ble_eq_true rfl) (fun p e s m below meth c ls S hret hlk hnm hsz hK hM hS hA hz hl => ?_)
  have hx := S.1
  have hb := S.2.1
  have hl : lv_has ls 1 [(0, .ref a)] := hl
  obtain ⟨ky, ba, f_a, hky, f_ba, hbl, hc_bd, hfb, hk7⟩ := hra
  refine lv_iconst (v := nI 3) hx hb d_RW_stableLength_0 rfl ?_
  refine lv_aload_n hx hb d_RW_stableLength_1 rfl (lv_at hl 0 rfl) ?_
  refine hp_get S hK hM i_RW f_a rfl 2 (by decide) mf_RW_19 (fun _ h9 => h9) rfl d_RW_stableLength_2 ?_
  refine hp_alen S hK hM 0 f_ba rfl d_RW_stableLength_5 ?_
  refine nb_iadd hx hb d_RW_stableLength_6 ?_
  exact hp_iret S hret hlk (rfl) hM hS (⟨rfl, congrArg nI (show 3 + R.2.2.length = (R.2.2.length + 1 + 1 + 1) by omega)⟩) d_RW_stableLength_7
set_option maxHeartbeats 4000000 in
set_option maxRecDepth 100000 in
/-- a character of a row -/
theorem c_RW_stableCharacter (l : Launch) (D : va_G) (ct : Nat → ClassId) (Z : hp_Z) (hZ : hp_Zok Z) (M : hp_M) (sz : Nat) (fz : Nat → Prop) (a : Nat) (R : RowT) (hra : rwOk ct fz M a R) (i : Nat) (hi : i < (stT R).length) : Mi l y_RW_stableCharacter b_RW_stableCharacter 3 (some .int) 0 0 0 0 [.ref a, .int (nI i)] D ct Z M sz (fun r M1 => M1 = M ∧ r = nI ((stT R).getD i 0)) := by
  refine hp_start (by decide) (Nat.le_of_ble_eq_true rfl) (fun p e s m below meth c ls S hret hlk hnm hsz hK hM hS hA hz hl => ?_)
  have hx := S.1
  have hb := S.2.1
  have hl : lv_has ls 3 [(0, .ref a), (1, .int (nI i))] := hl
  obtain ⟨ky, ba, f_a, hky, f_ba, hbl, hc_bd, hfb, hk7⟩ := hra
  have hi : i < R.2.2.length + 3 := hi
  refine lv_iload_n hx hb d_RW_stableCharacter_0 rfl (lv_at hl 1 rfl) ?_
  refine nz_ne (tgt := 12) hx hb d_RW_stableCharacter_1 (by decide) (by omega) (fun h1 => ?_) (fun h1 => ?_)
  · refine lv_iload_n hx hb d_RW_stableCharacter_12 rfl (lv_at hl 1 rfl) ?_
    refine lv_iconst (v := nI 1) hx hb d_RW_stableCharacter_13 rfl ?_
    refine nb_ne (tgt := 29) hx hb d_RW_stableCharacter_14 (by decide) (by omega) (by omega) (fun h2 => ?_) (fun h2 => ?_)
    · refine lv_iload_n hx hb d_RW_stableCharacter_29 rfl (lv_at hl 1 rfl) ?_
      refine lv_iconst (v := nI 2) hx hb d_RW_stableCharacter_30 rfl ?_
      refine nb_ne (tgt := 46) hx hb d_RW_stableCharacter_31 (by decide) (by omega) (by omega) (fun h3 => ?_) (fun h3 => ?_)
      · refine lv_iload_n hx hb d_RW_stableCharacter_46 rfl (lv_at hl 1 rfl) ?_
        refine lv_iconst (v := nI 3) hx hb d_RW_stableCharacter_47 rfl ?_
        refine nb_isub hx hb d_RW_stableCharacter_48 (by omega) ?_
        refine lv_istore_n (lv' := [(2, .int (nI (i - 3))), (0, .ref a), (1, .int (nI i))]) hx hb d_RW_stableCharacter_49 rfl hl (by decide) rfl (fun ls hl => ?_)
        refine lv_iload_n hx hb d_RW_stableCharacter_50 rfl (lv_at hl 0 rfl) ?_
        refine nz_lt (tgt := 63) hx hb d_RW_stableCharacter_51 (by decide) (by omega) (fun h4 => ?_) (fun h4 => ?_)
        · exact absurd h4 (fun q => q)
        · refine lv_iload_n hx hb d_RW_stableCharacter_54 rfl (lv_at hl 0 rfl) ?_
          refine lv_aload_n hx hb d_RW_stableCharacter_55 rfl (lv_at hl 1 rfl) ?_
          refine hp_get S hK hM i_RW f_a rfl 2 (by decide) mf_RW_19 (fun _ h9 => h9) rfl d_RW_stableCharacter_56 ?_
          refine hp_alen S hK hM 0 f_ba rfl d_RW_stableCharacter_59 ?_
          refine nb_lt (tgt := 67) hx hb d_RW_stableCharacter_60 (by decide) (by omega) (by omega) (fun h5 => ?_) (fun h5 => ?_)
          · refine lv_aload_n hx hb d_RW_stableCharacter_67 rfl (lv_at hl 1 rfl) ?_
            refine hp_get S hK hM i_RW f_a rfl 2 (by decide) mf_RW_19 (fun _ h9 => h9) rfl d_RW_stableCharacter_68 ?_
            refine lv_iload_n hx hb d_RW_stableCharacter_71 rfl (lv_at hl 0 rfl) ?_
            refine hp_cald S hK hM 0 f_ba rfl (i - 3) rfl (by omega) (by omega) d_RW_stableCharacter_72 ?_
            obtain ⟨u, eu⟩ : ∃ u, i = u + 3 := ⟨i - 3, by omega⟩
            subst eu
            exact hp_iret S hret hlk rfl hM hS ⟨rfl, rfl⟩ d_RW_stableCharacter_73
          · exact absurd h5 (by omega)
      · refine lv_bipush (v := nI 48) hx hb d_RW_stableCharacter_34 rfl ?_
        refine lv_aload_n hx hb d_RW_stableCharacter_36 rfl (lv_at hl 0 rfl) ?_
        refine hp_get S hK hM i_RW f_a rfl 2 (by decide) mf_RW_19 (fun _ h9 => h9) rfl d_RW_stableCharacter_37 ?_
        refine hp_alen S hK hM 0 f_ba rfl d_RW_stableCharacter_40 ?_
        refine lv_bipush (v := nI 64) hx hb d_RW_stableCharacter_41 rfl ?_
        refine nb_irem hx hb d_RW_stableCharacter_43 (by omega) (by omega) (by omega) ?_
        refine nb_iadd hx hb d_RW_stableCharacter_44 ?_
        have e0 : i = 2 := by omega
        subst e0
        exact hp_iret S hret hlk rfl hM hS ⟨rfl, rfl⟩ d_RW_stableCharacter_45
    · refine lv_bipush (v := nI 48) hx hb d_RW_stableCharacter_17 rfl ?_
      refine lv_aload_n hx hb d_RW_stableCharacter_19 rfl (lv_at hl 0 rfl) ?_
      refine hp_get S hK hM i_RW f_a rfl 2 (by decide) mf_RW_19 (fun _ h9 => h9) rfl d_RW_stableCharacter_20 ?_
      refine hp_alen S hK hM 0 f_ba rfl d_RW_stableCharacter_23 ?_
      refine lv_bipush (v := nI 64) hx hb d_RW_stableCharacter_24 rfl ?_
      refine nb_idiv hx hb d_RW_stableCharacter_26 (by omega) (by omega) (by omega) ?_
      refine nb_iadd hx hb d_RW_stableCharacter_27 ?_
      have e0 : i = 1 := by omega
      subst e0
      exact hp_iret S hret hlk rfl hM hS ⟨rfl, rfl⟩ d_RW_stableCharacter_28
  · refine lv_bipush (v := nI 48) hx hb d_RW_stableCharacter_4 rfl ?_
    refine lv_aload_n hx hb d_RW_stableCharacter_6 rfl (lv_at hl 0 rfl) ?_
    refine hp_get S hK hM i_RW f_a rfl 0 (by decide) mf_RW_9 (fun _ h9 => h9) rfl d_RW_stableCharacter_7 ?_
    refine nb_iadd hx hb d_RW_stableCharacter_10 ?_
    have e0 : i = 0 := by omega
    subst e0
    exact hp_iret S hret hlk rfl hM hS ⟨rfl, rfl⟩ d_RW_stableCharacter_11
set_option maxHeartbeats 4000000 in
set_option maxRecDepth 100000 in
/-- a row comes behind another -/
theorem c_RW_isBehind (l : Launch) (D : va_G) (ct : Nat → ClassId) (Z : hp_Z) (hZ : hp_Zok Z) (M : hp_M) (sz : Nat) (fz : Nat → Prop) (a b : Nat) (R R2 : RowT) (hra : rwOk ct fz M a R) (hrb : rwOk ct fz M b R2) : Mi l y_RW_isBehind b_RW_isBehind 2 (some .boolean) 2 36 0 0 [.ref a, .ref b] D ct Z M sz (fun r M1 => M1 = M ∧ bo r (behind R R2)) := by
  refine hp_start (by decide) (Nat.le_of_ble_eq_true rfl) (fun p e s m below meth c ls S hret hlk hnm hsz hK hM hS hA hz hl => ?_)
  have hx := S.1
  have hb := S.2.1
  have hl : lv_has ls 2 [(0, .ref a), (1, .ref b)] := hl
  obtain ⟨ky, ba, f_a, hky, f_ba, hbl, hc_bd, hfb, hk7⟩ := hra
  obtain ⟨ky2, ba2, f_b, hky2, f_ba2, hbl2, hc_bd2, hfb2, hk72⟩ := hrb
  obtain ⟨ca, xa, f_ky, -⟩ := id hky
  refine lv_aload_n hx hb d_RW_isBehind_0 rfl (lv_at hl 0 rfl) ?_
  refine hp_get S hK hM i_RW f_a rfl 0 (by decide) mf_RW_9 (fun _ h9 => h9) rfl d_RW_isBehind_1 ?_
  refine lv_aload_n hx hb d_RW_isBehind_4 rfl (lv_at hl 1 rfl) ?_
  refine hp_get S hK hM i_RW f_b rfl 0 (by decide) mf_RW_9 (fun _ h9 => h9) rfl d_RW_isBehind_5 ?_
  refine nb_eq (tgt := 30) hx hb d_RW_isBehind_8 (by decide) (by omega) (by omega) (fun hAA => ?_) (fun hAA => ?_)
  · refine lv_aload_n hx hb d_RW_isBehind_30 rfl (lv_at hl 0 rfl) ?_
    refine hp_get S hK hM i_RW f_a rfl 1 (by decide) mf_RW_15 (fun _ h9 => h9) rfl d_RW_isBehind_31 ?_
    refine lv_aload_n hx hb d_RW_isBehind_34 rfl (lv_at hl 1 rfl) ?_
    refine hp_get S hK hM i_RW f_b rfl 1 (by decide) mf_RW_15 (fun _ h9 => h9) rfl d_RW_isBehind_35 ?_
    refine hp_calli (go_V S hZ hK hM hS hA hz (c_KY_compareWith l D ct Z hZ _ _ fz ky ky2 R.2.1 R2.2.1 hky hky2) mc_KY_compareWith mz_KY ml_RW_23 mi_KY_compareWith mx_KY_compareWith hd_KY_compareWith rfl ⟨by decide, by decide⟩ f_ky rfl rfl hl.1 rfl (Nat.le_of_ble_eq_true rfl) d_RW_isBehind_38 ⟨by decide, by decide⟩) hM hS hA (fun r1 N2 H locs hr1 hM hS => ?_)
    rw [hr1.1] at hM
    replace hr1 := hr1.2
    refine lv_if_le (tgt := 48) hx hb d_RW_isBehind_41 (by decide) (fun hCC => ?_) (fun hCC => ?_)
    · refine lv_iconst (v := nI 0) hx hb d_RW_isBehind_48 rfl ?_
      exact hp_iret S hret hlk rfl hM hS ⟨rfl, bo_f (fun q => q.elim (fun q => by omega) (fun q => absurd (hr1.2.mpr q.2) (Int32.not_lt.mpr hCC)))⟩ d_RW_isBehind_49
    · refine lv_iconst (v := nI 1) hx hb d_RW_isBehind_44 rfl ?_
      refine lv_goto (tgt := 49) hx hb d_RW_isBehind_45 (by decide) ?_
      exact hp_iret S hret hlk rfl hM hS ⟨rfl, bo_t (Or.inr ⟨hAA, hr1.2.mp (Int32.not_le.mp hCC)⟩)⟩ d_RW_isBehind_49
  · refine lv_aload_n hx hb d_RW_isBehind_11 rfl (lv_at hl 0 rfl) ?_
    refine hp_get S hK hM i_RW f_a rfl 0 (by decide) mf_RW_9 (fun _ h9 => h9) rfl d_RW_isBehind_12 ?_
    refine lv_aload_n hx hb d_RW_isBehind_15 rfl (lv_at hl 1 rfl) ?_
    refine hp_get S hK hM i_RW f_b rfl 0 (by decide) mf_RW_9 (fun _ h9 => h9) rfl d_RW_isBehind_16 ?_
    refine nb_le (tgt := 26) hx hb d_RW_isBehind_19 (by decide) (by omega) (by omega) (fun hBB => ?_) (fun hBB => ?_)
    · refine lv_iconst (v := nI 0) hx hb d_RW_isBehind_26 rfl ?_
      refine lv_goto (tgt := 49) hx hb d_RW_isBehind_27 (by decide) ?_
      exact hp_iret S hret hlk rfl hM hS ⟨rfl, bo_f (fun q => q.elim (fun q => by omega) (fun q => hAA q.1))⟩ d_RW_isBehind_49
    · refine lv_iconst (v := nI 1) hx hb d_RW_isBehind_22 rfl ?_
      refine lv_goto (tgt := 49) hx hb d_RW_isBehind_23 (by decide) ?_
      exact hp_iret S hret hlk rfl hM hS ⟨rfl, bo_t (Or.inl (by omega))⟩ d_RW_isBehind_49
set_option maxHeartbeats 4000000 in
set_option maxRecDepth 100000 in
/-- two rows say the same -/
theorem c_RW_isLike (l : Launch) (D : va_G) (ct : Nat → ClassId) (Z : hp_Z) (hZ : hp_Zok Z) (M : hp_M) (sz : Nat) (fz : Nat → Prop) (a b : Nat) (R R2 : RowT) (hra : rwOk ct fz M a R) (hrb : rwOk ct fz M b R2) : Mi l y_RW_isLike b_RW_isLike 3 (some .boolean) 0 0 0 0 [.ref a, .ref b] D ct Z M sz (fun r M1 => M1 = M ∧ bo r (R.1 = R2.1 ∧ R.2.2 = R2.2.2)) := by
  refine hp_start (by decide) (Nat.le_of_ble_eq_true rfl) (fun p e s m below meth c ls S hret hlk hnm hsz hK hM hS hA hz hl => ?_)
  have hx := S.1
  have hb := S.2.1
  have hl : lv_has ls 3 [(0, .ref a), (1, .ref b)] := hl
  obtain ⟨ky, ba, f_a, hky, f_ba, hbl, hc_bd, hfb, hk7⟩ := hra
  obtain ⟨ky2, ba2, f_b, hky2, f_ba2, hbl2, hc_bd2, hfb2, hk72⟩ := hrb
  refine lv_aload_n hx hb d_RW_isLike_0 rfl (lv_at hl 0 rfl) ?_
  refine hp_get S hK hM i_RW f_a rfl 0 (by decide) mf_RW_9 (fun _ h9 => h9) rfl d_RW_isLike_1 ?_
  refine lv_aload_n hx hb d_RW_isLike_4 rfl (lv_at hl 1 rfl) ?_
  refine hp_get S hK hM i_RW f_b rfl 0 (by decide) mf_RW_9 (fun _ h9 => h9) rfl d_RW_isLike_5 ?_
  refine nb_ne (tgt := 24) hx hb d_RW_isLike_8 (by decide) (by omega) (by omega) (fun hAA => ?_) (fun hAA => ?_)
  · refine lv_iconst (v := nI 0) hx hb d_RW_isLike_24 rfl ?_
    exact hp_iret S hret hlk (rfl) hM hS (⟨rfl, bo_f (fun q => by first | exact hAA q.1 | exact hBB (by rw [q.2]))⟩) d_RW_isLike_25
  · refine lv_aload_n hx hb d_RW_isLike_11 rfl (lv_at hl 0 rfl) ?_
    refine hp_get S hK hM i_RW f_a rfl 2 (by decide) mf_RW_19 (fun _ h9 => h9) rfl d_RW_isLike_12 ?_
    refine hp_alen S hK hM 0 f_ba rfl d_RW_isLike_15 ?_
    refine lv_aload_n hx hb d_RW_isLike_16 rfl (lv_at hl 1 rfl) ?_
    refine hp_get S hK hM i_RW f_b rfl 2 (by decide) mf_RW_19 (fun _ h9 => h9) rfl d_RW_isLike_17 ?_
    refine hp_alen S hK hM 0 f_ba2 rfl d_RW_isLike_20 ?_
    refine nb_eq (tgt := 26) hx hb d_RW_isLike_21 (by decide) (by omega) (by omega) (fun hBB => ?_) (fun hBB => ?_)
    · refine lv_iconst (v := nI 0) hx hb d_RW_isLike_26 rfl ?_
      refine lv_istore_n (lv' := [(2, .int (nI 0)), (0, .ref a), (1, .ref b)]) hx hb d_RW_isLike_27 rfl hl (by decide) rfl (fun ls hl => ?_)
      replace hl : lv_has ls 3 [(0, .ref a), (1, .ref b), (2, .int (nI 0))] := lv_sub hl [1, 2, 0] rfl
      obtain ⟨j, e9j⟩ : ∃ z : Nat, z = 0 := ⟨_, rfl⟩
      replace hl : lv_has ls 3 [(0, .ref a), (1, .ref b), (2, .int (nI j))] := by subst e9j; exact hl
      have hinv : ∀ i, i < j → R.2.2.getD i 0 = R2.2.2.getD i 0 := by subst e9j; intro i hi; omega
      obtain ⟨fu, hn⟩ : ∃ fu : Nat, j + fu = R.2.2.length := ⟨R.2.2.length - j, by omega⟩
      clear e9j
      induction fu generalizing j ls with
      | zero =>
        have hn : j = R.2.2.length := by omega
        refine lv_iload_n hx hb d_RW_isLike_28 rfl (lv_at hl 2 rfl) ?_
        refine lv_aload_n hx hb d_RW_isLike_29 rfl (lv_at hl 0 rfl) ?_
        refine hp_get S hK hM i_RW f_a rfl 2 (by decide) mf_RW_19 (fun _ h9 => h9) rfl d_RW_isLike_30 ?_
        refine hp_alen S hK hM 0 f_ba rfl d_RW_isLike_33 ?_
        refine nb_ge (tgt := 60) hx hb d_RW_isLike_34 (by decide) (by omega) (by omega) (fun h1 => ?_) (fun h1 => ?_)
        · refine lv_iconst (v := nI 1) hx hb d_RW_isLike_60 rfl ?_
          exact hp_iret S hret hlk (rfl) hM hS (⟨rfl, bo_t ⟨hAA, list_ext hBB (fun i h1 => hinv i (by omega))⟩⟩) d_RW_isLike_61
        · exact absurd hn (by omega)
      | succ fu ih =>
        refine lv_iload_n hx hb d_RW_isLike_28 rfl (lv_at hl 2 rfl) ?_
        refine lv_aload_n hx hb d_RW_isLike_29 rfl (lv_at hl 0 rfl) ?_
        refine hp_get S hK hM i_RW f_a rfl 2 (by decide) mf_RW_19 (fun _ h9 => h9) rfl d_RW_isLike_30 ?_
        refine hp_alen S hK hM 0 f_ba rfl d_RW_isLike_33 ?_
        refine nb_ge (tgt := 60) hx hb d_RW_isLike_34 (by decide) (by omega) (by omega) (fun h2 => ?_) (fun h2 => ?_)
        · exact absurd hn (by omega)
        · refine lv_aload_n hx hb d_RW_isLike_37 rfl (lv_at hl 0 rfl) ?_
          refine hp_get S hK hM i_RW f_a rfl 2 (by decide) mf_RW_19 (fun _ h9 => h9) rfl d_RW_isLike_38 ?_
          refine lv_iload_n hx hb d_RW_isLike_41 rfl (lv_at hl 2 rfl) ?_
          refine hp_cald S hK hM 0 f_ba rfl j rfl (by omega) (by omega) d_RW_isLike_42 ?_
          refine lv_aload_n hx hb d_RW_isLike_43 rfl (lv_at hl 1 rfl) ?_
          refine hp_get S hK hM i_RW f_b rfl 2 (by decide) mf_RW_19 (fun _ h9 => h9) rfl d_RW_isLike_44 ?_
          refine lv_iload_n hx hb d_RW_isLike_47 rfl (lv_at hl 2 rfl) ?_
          refine hp_cald S hK hM 0 f_ba2 rfl j rfl (by omega) (by omega) d_RW_isLike_48 ?_
          refine nb_eq (tgt := 54) hx hb d_RW_isLike_49 (by decide) (Nat.lt_trans (hc_bd _) (by decide)) (Nat.lt_trans (hc_bd2 _) (by decide)) (fun heq => ?_) (fun heq => ?_)
          · refine lv_iinc (v := nI (j + 1)) (lv' := [(2, .int (nI (j + 1))), (0, .ref a), (1, .ref b)]) hx hb d_RW_isLike_54 hl (k := 2) rfl (nI_add j 1) (by decide) rfl (fun ls hl => ?_)
            refine lv_goto (tgt := 28) hx hb d_RW_isLike_57 (by decide) ?_
            exact ih (ls := ls) (hl := lv_sub hl [1, 2, 0] rfl) (j := j + 1) (hn := by omega) (hinv := lt_s hinv heq)
          · refine lv_iconst (v := nI 0) hx hb d_RW_isLike_52 rfl ?_
            exact hp_iret S hret hlk (rfl) hM hS (⟨rfl, bo_f (fun q => heq (by rw [q.2]))⟩) d_RW_isLike_53
    · refine lv_iconst (v := nI 0) hx hb d_RW_isLike_24 rfl ?_
      exact hp_iret S hret hlk (rfl) hM hS (⟨rfl, bo_f (fun q => by first | exact hAA q.1 | exact hBB (by rw [q.2]))⟩) d_RW_isLike_25
end
section
/-! ACTIONS: what stays while other cells are written -/
/-- Keys, Rows and characters that nobody writes stay -/
def stab (ct : Nat → ClassId) (fz : Nat → Prop) (M M1 : hp_M) : Prop := (∀ (q k : Nat) (fs : List Value), k = 4 ∨ k = 5 → M q = some (.inr (k, fs)) → M1 q = some (.inr (k, fs))) ∧ ∀ (q n : Nat) (f : Nat → Int32), fz q → M q = some (.inl (ct 0, n, .inl f)) → M1 q = some (.inl (ct 0, n, .inl f))
theorem stab_rf {ct : Nat → ClassId} {fz : Nat → Prop} {M : hp_M} : stab ct fz M M := ⟨fun _ _ _ _ h => h, fun _ _ _ _ h => h⟩
theorem stab.tr {ct : Nat → ClassId} {fz : Nat → Prop} {M M1 M2 : hp_M} (h : stab ct fz M M1) (g : stab ct fz M1 M2) : stab ct fz M M2 := ⟨fun q k fs hk h1 => g.1 q k fs hk (h.1 q k fs hk h1), fun q n f hq h1 => g.2 q n f hq (h.2 q n f hq h1)⟩
theorem stab_q {ct : Nat → ClassId} {fz : Nat → Prop} {M : hp_M} {a : Nat} {cA : ClassId} {n : Nat} {f : (Nat → Int64) ⊕ (Nat → UInt32) ⊕ (Nat → UInt64) ⊕ (Nat → Option Nat)} {E : va_E} (h : M a = some (.inl (cA, n, .inr f))) : stab ct fz M (hp_up M a E) :=
  ⟨fun q k fs _ h1 => hp_k (hp_ne h1 h (by simp)) h1, fun q n2 f2 _ h1 => hp_k (hp_ne h1 h (by simp)) h1⟩
theorem stab_o {ct : Nat → ClassId} {fz : Nat → Prop} {M : hp_M} {a k : Nat} {fs : List Value} {E : va_E} (h : M a = some (.inr (k, fs))) (hk : k ≠ 4 ∧ k ≠ 5) : stab ct fz M (hp_up M a E) :=
  ⟨fun q k2 fs2 hk2 h1 => hp_k (hp_ne h1 h (fun e9 => by have e8 := congrArg Prod.fst (Sum.inr.inj e9); simp only at e8; omega)) h1, fun q n2 f2 _ h1 => hp_k (hp_ne h1 h (by simp)) h1⟩
theorem stab_i {ct : Nat → ClassId} {fz : Nat → Prop} {M : hp_M} {a n : Nat} {cA : ClassId} {f : Nat → Int32} {E : va_E} (h : M a = some (.inl (cA, n, .inl f))) (hne : ct 0 ≠ cA) : stab ct fz M (hp_up M a E) :=
  ⟨fun q k fs _ h1 => hp_k (hp_ne h1 h (by simp)) h1, fun q n2 f2 _ h1 => hp_k (hp_ne h1 h (fun e9 => hne (congrArg Prod.fst (Sum.inl.inj e9)))) h1⟩
theorem stab_c {ct : Nat → ClassId} {fz : Nat → Prop} {M : hp_M} {a n : Nat} {cA : ClassId} {f : Nat → Int32} {E : va_E} (h : M a = some (.inl (cA, n, .inl f))) (hne : ¬ fz a) : stab ct fz M (hp_up M a E) :=
  ⟨fun q k fs _ h1 => hp_k (hp_ne h1 h (by simp)) h1, fun q n2 f2 hq h1 => hp_k (fun e9 => hne (by rw [← e9]; exact hq)) h1⟩
theorem stab_n {ct : Nat → ClassId} {fz : Nat → Prop} {M : hp_M} {a : Nat} {E : va_E} (h : M a = none) : stab ct fz M (hp_up M a E) :=
  ⟨fun q k fs _ h1 => hp_k (hp_nn h1 h) h1, fun q n2 f2 _ h1 => hp_k (hp_nn h1 h) h1⟩
theorem kyOk.st {ct : Nat → ClassId} {fz : Nat → Prop} {M M1 : hp_M} {a : Nat} {K : List Nat} (h : kyOk ct fz M a K) (hs : stab ct fz M M1) : kyOk ct fz M1 a K := by
  obtain ⟨ca, xs, h1, h2, h3, h4, h5, h6, h7⟩ := h
  exact ⟨ca, xs, hs.1 _ _ _ (Or.inr rfl) h1, hs.2 _ _ _ h7 h2, h3, h4, h5, h6, h7⟩
theorem rwOk.st {ct : Nat → ClassId} {fz : Nat → Prop} {M M1 : hp_M} {a : Nat} {R : RowT} (h : rwOk ct fz M a R) (hs : stab ct fz M M1) : rwOk ct fz M1 a R := by
  obtain ⟨ky, ba, h1, h2, h3, h4, h5, h6, h7⟩ := h
  exact ⟨ky, ba, hs.1 _ _ _ (Or.inl rfl) h1, h2.st hs, hs.2 _ _ _ h6 h3, h4, h5, h6, h7⟩
abbrev rw0 : RowT := (0, [], [])
/-- the rows of an action lie in its array -/
def rsOk (ct : Nat → ClassId) (fz : Nat → Prop) (M : hp_M) (f : Nat → Option Nat) (rs : List RowT) : Prop := ∀ i, i < rs.length → ∃ r, f i = some r ∧ rwOk ct fz M r (rs.getD i rw0)
theorem rsOk.st {ct : Nat → ClassId} {fz : Nat → Prop} {M M1 : hp_M} {f : Nat → Option Nat} {rs : List RowT} (h : rsOk ct fz M f rs) (hs : stab ct fz M M1) : rsOk ct fz M1 f rs := fun i hi => by
  obtain ⟨r, h1, h2⟩ := h i hi
  exact ⟨r, h1, h2.st hs⟩
theorem d_AC_init_0 : decode b_AC_init 0 = .ok (.aload_n 0, 1) := by decide +kernel
theorem d_AC_init_1 : decode b_AC_init 1 = .ok (.invokespecial 3, 3) := by decide +kernel
theorem d_AC_init_4 : decode b_AC_init 4 = .ok (.aload_n 0, 1) := by decide +kernel
theorem d_AC_init_5 : decode b_AC_init 5 = .ok (.bipush 24, 2) := by decide +kernel
theorem d_AC_init_7 : decode b_AC_init 7 = .ok (.anewarray 9, 3) := by decide +kernel
theorem d_AC_init_10 : decode b_AC_init 10 = .ok (.putfield 11, 3) := by decide +kernel
theorem d_AC_init_13 : decode b_AC_init 13 = .ok (.aload_n 0, 1) := by decide +kernel
theorem d_AC_init_14 : decode b_AC_init 14 = .ok (.iconst 0, 1) := by decide +kernel
theorem d_AC_init_15 : decode b_AC_init 15 = .ok (.putfield 17, 3) := by decide +kernel
theorem d_AC_init_18 : decode b_AC_init 18 = .ok (.return_, 1) := by decide +kernel
theorem d_AC_isFull_0 : decode b_AC_isFull 0 = .ok (.aload_n 0, 1) := by decide +kernel
theorem d_AC_isFull_1 : decode b_AC_isFull 1 = .ok (.getfield 17, 3) := by decide +kernel
theorem d_AC_isFull_4 : decode b_AC_isFull 4 = .ok (.bipush 24, 2) := by decide +kernel
theorem d_AC_isFull_6 : decode b_AC_isFull 6 = .ok (.if_icmp .lt 7, 3) := by decide +kernel
theorem d_AC_isFull_9 : decode b_AC_isFull 9 = .ok (.iconst 1, 1) := by decide +kernel
theorem d_AC_isFull_10 : decode b_AC_isFull 10 = .ok (.goto 4, 3) := by decide +kernel
theorem d_AC_isFull_13 : decode b_AC_isFull 13 = .ok (.iconst 0, 1) := by decide +kernel
theorem d_AC_isFull_14 : decode b_AC_isFull 14 = .ok (.ireturn, 1) := by decide +kernel
theorem d_AC_rowAt_0 : decode b_AC_rowAt 0 = .ok (.iload_n 1, 1) := by decide +kernel
theorem d_AC_rowAt_1 : decode b_AC_rowAt 1 = .ok (.ifCond .lt 11, 3) := by decide +kernel
theorem d_AC_rowAt_4 : decode b_AC_rowAt 4 = .ok (.iload_n 1, 1) := by decide +kernel
theorem d_AC_rowAt_5 : decode b_AC_rowAt 5 = .ok (.aload_n 0, 1) := by decide +kernel
theorem d_AC_rowAt_6 : decode b_AC_rowAt 6 = .ok (.getfield 17, 3) := by decide +kernel
theorem d_AC_rowAt_9 : decode b_AC_rowAt 9 = .ok (.if_icmp .lt 7, 3) := by decide +kernel
theorem d_AC_rowAt_12 : decode b_AC_rowAt 12 = .ok (.aconst_null, 1) := by decide +kernel
theorem d_AC_rowAt_13 : decode b_AC_rowAt 13 = .ok (.goto 9, 3) := by decide +kernel
theorem d_AC_rowAt_16 : decode b_AC_rowAt 16 = .ok (.aload_n 0, 1) := by decide +kernel
theorem d_AC_rowAt_17 : decode b_AC_rowAt 17 = .ok (.getfield 11, 3) := by decide +kernel
theorem d_AC_rowAt_20 : decode b_AC_rowAt 20 = .ok (.iload_n 1, 1) := by decide +kernel
theorem d_AC_rowAt_21 : decode b_AC_rowAt 21 = .ok (.aaload, 1) := by decide +kernel
theorem d_AC_rowAt_22 : decode b_AC_rowAt 22 = .ok (.areturn, 1) := by decide +kernel
theorem d_AC_has_0 : decode b_AC_has 0 = .ok (.iconst 0, 1) := by decide +kernel
theorem d_AC_has_1 : decode b_AC_has 1 = .ok (.istore_n 3, 1) := by decide +kernel
theorem d_AC_has_2 : decode b_AC_has 2 = .ok (.iload_n 3, 1) := by decide +kernel
theorem d_AC_has_3 : decode b_AC_has 3 = .ok (.aload_n 0, 1) := by decide +kernel
theorem d_AC_has_4 : decode b_AC_has 4 = .ok (.getfield 17, 3) := by decide +kernel
theorem d_AC_has_7 : decode b_AC_has 7 = .ok (.if_icmp .ge 40, 3) := by decide +kernel
theorem d_AC_has_10 : decode b_AC_has 10 = .ok (.aload_n 0, 1) := by decide +kernel
theorem d_AC_has_11 : decode b_AC_has 11 = .ok (.getfield 11, 3) := by decide +kernel
theorem d_AC_has_14 : decode b_AC_has 14 = .ok (.iload_n 3, 1) := by decide +kernel
theorem d_AC_has_15 : decode b_AC_has 15 = .ok (.aaload, 1) := by decide +kernel
theorem d_AC_has_16 : decode b_AC_has 16 = .ok (.getfield 21, 3) := by decide +kernel
theorem d_AC_has_19 : decode b_AC_has 19 = .ok (.iload_n 1, 1) := by decide +kernel
theorem d_AC_has_20 : decode b_AC_has 20 = .ok (.if_icmp .ne 21, 3) := by decide +kernel
theorem d_AC_has_23 : decode b_AC_has 23 = .ok (.aload_n 0, 1) := by decide +kernel
theorem d_AC_has_24 : decode b_AC_has 24 = .ok (.getfield 11, 3) := by decide +kernel
theorem d_AC_has_27 : decode b_AC_has 27 = .ok (.iload_n 3, 1) := by decide +kernel
theorem d_AC_has_28 : decode b_AC_has 28 = .ok (.aaload, 1) := by decide +kernel
theorem d_AC_has_29 : decode b_AC_has 29 = .ok (.getfield 24, 3) := by decide +kernel
theorem d_AC_has_32 : decode b_AC_has 32 = .ok (.aload_n 2, 1) := by decide +kernel
theorem d_AC_has_33 : decode b_AC_has 33 = .ok (.invokevirtual 28, 3) := by decide +kernel
theorem d_AC_has_36 : decode b_AC_has 36 = .ok (.ifCond .ne 5, 3) := by decide +kernel
theorem d_AC_has_39 : decode b_AC_has 39 = .ok (.iconst 1, 1) := by decide +kernel
theorem d_AC_has_40 : decode b_AC_has 40 = .ok (.ireturn, 1) := by decide +kernel
theorem d_AC_has_41 : decode b_AC_has 41 = .ok (.iinc 3 1, 3) := by decide +kernel
theorem d_AC_has_44 : decode b_AC_has 44 = .ok (.goto (-42), 3) := by decide +kernel
theorem d_AC_has_47 : decode b_AC_has 47 = .ok (.iconst 0, 1) := by decide +kernel
theorem d_AC_has_48 : decode b_AC_has 48 = .ok (.ireturn, 1) := by decide +kernel
theorem d_AC_insert_0 : decode b_AC_insert 0 = .ok (.aload_n 0, 1) := by decide +kernel
theorem d_AC_insert_1 : decode b_AC_insert 1 = .ok (.invokevirtual 34, 3) := by decide +kernel
theorem d_AC_insert_4 : decode b_AC_insert 4 = .ok (.ifCond .eq 4, 3) := by decide +kernel
theorem d_AC_insert_7 : decode b_AC_insert 7 = .ok (.return_, 1) := by decide +kernel
theorem d_AC_insert_8 : decode b_AC_insert 8 = .ok (.aload_n 0, 1) := by decide +kernel
theorem d_AC_insert_9 : decode b_AC_insert 9 = .ok (.getfield 17, 3) := by decide +kernel
theorem d_AC_insert_12 : decode b_AC_insert 12 = .ok (.istore_n 2, 1) := by decide +kernel
theorem d_AC_insert_13 : decode b_AC_insert 13 = .ok (.iload_n 2, 1) := by decide +kernel
theorem d_AC_insert_14 : decode b_AC_insert 14 = .ok (.ifCond .le 38, 3) := by decide +kernel
theorem d_AC_insert_17 : decode b_AC_insert 17 = .ok (.aload_n 0, 1) := by decide +kernel
theorem d_AC_insert_18 : decode b_AC_insert 18 = .ok (.getfield 11, 3) := by decide +kernel
theorem d_AC_insert_21 : decode b_AC_insert 21 = .ok (.iload_n 2, 1) := by decide +kernel
theorem d_AC_insert_22 : decode b_AC_insert 22 = .ok (.iconst 1, 1) := by decide +kernel
theorem d_AC_insert_23 : decode b_AC_insert 23 = .ok (.isub, 1) := by decide +kernel
theorem d_AC_insert_24 : decode b_AC_insert 24 = .ok (.aaload, 1) := by decide +kernel
theorem d_AC_insert_25 : decode b_AC_insert 25 = .ok (.aload_n 1, 1) := by decide +kernel
theorem d_AC_insert_26 : decode b_AC_insert 26 = .ok (.invokevirtual 38, 3) := by decide +kernel
theorem d_AC_insert_29 : decode b_AC_insert 29 = .ok (.ifCond .eq 23, 3) := by decide +kernel
theorem d_AC_insert_32 : decode b_AC_insert 32 = .ok (.aload_n 0, 1) := by decide +kernel
theorem d_AC_insert_33 : decode b_AC_insert 33 = .ok (.getfield 11, 3) := by decide +kernel
theorem d_AC_insert_36 : decode b_AC_insert 36 = .ok (.iload_n 2, 1) := by decide +kernel
theorem d_AC_insert_37 : decode b_AC_insert 37 = .ok (.aload_n 0, 1) := by decide +kernel
theorem d_AC_insert_38 : decode b_AC_insert 38 = .ok (.getfield 11, 3) := by decide +kernel
theorem d_AC_insert_41 : decode b_AC_insert 41 = .ok (.iload_n 2, 1) := by decide +kernel
theorem d_AC_insert_42 : decode b_AC_insert 42 = .ok (.iconst 1, 1) := by decide +kernel
theorem d_AC_insert_43 : decode b_AC_insert 43 = .ok (.isub, 1) := by decide +kernel
theorem d_AC_insert_44 : decode b_AC_insert 44 = .ok (.aaload, 1) := by decide +kernel
theorem d_AC_insert_45 : decode b_AC_insert 45 = .ok (.aastore, 1) := by decide +kernel
theorem d_AC_insert_46 : decode b_AC_insert 46 = .ok (.iinc 2 (-1), 3) := by decide +kernel
theorem d_AC_insert_49 : decode b_AC_insert 49 = .ok (.goto (-36), 3) := by decide +kernel
theorem d_AC_insert_52 : decode b_AC_insert 52 = .ok (.aload_n 0, 1) := by decide +kernel
theorem d_AC_insert_53 : decode b_AC_insert 53 = .ok (.getfield 11, 3) := by decide +kernel
theorem d_AC_insert_56 : decode b_AC_insert 56 = .ok (.iload_n 2, 1) := by decide +kernel
theorem d_AC_insert_57 : decode b_AC_insert 57 = .ok (.aload_n 1, 1) := by decide +kernel
theorem d_AC_insert_58 : decode b_AC_insert 58 = .ok (.aastore, 1) := by decide +kernel
theorem d_AC_insert_59 : decode b_AC_insert 59 = .ok (.aload_n 0, 1) := by decide +kernel
theorem d_AC_insert_60 : decode b_AC_insert 60 = .ok (.dup, 1) := by decide +kernel
theorem d_AC_insert_61 : decode b_AC_insert 61 = .ok (.getfield 17, 3) := by decide +kernel
theorem d_AC_insert_64 : decode b_AC_insert 64 = .ok (.iconst 1, 1) := by decide +kernel
theorem d_AC_insert_65 : decode b_AC_insert 65 = .ok (.iadd, 1) := by decide +kernel
theorem d_AC_insert_66 : decode b_AC_insert 66 = .ok (.putfield 17, 3) := by decide +kernel
theorem d_AC_insert_69 : decode b_AC_insert 69 = .ok (.return_, 1) := by decide +kernel
theorem d_AC_replaceEdition_0 : decode b_AC_replaceEdition 0 = .ok (.iconst 0, 1) := by decide +kernel
theorem d_AC_replaceEdition_1 : decode b_AC_replaceEdition 1 = .ok (.istore_n 2, 1) := by decide +kernel
theorem d_AC_replaceEdition_2 : decode b_AC_replaceEdition 2 = .ok (.iload_n 2, 1) := by decide +kernel
theorem d_AC_replaceEdition_3 : decode b_AC_replaceEdition 3 = .ok (.aload_n 0, 1) := by decide +kernel
theorem d_AC_replaceEdition_4 : decode b_AC_replaceEdition 4 = .ok (.getfield 17, 3) := by decide +kernel
theorem d_AC_replaceEdition_7 : decode b_AC_replaceEdition 7 = .ok (.if_icmp .ge 32, 3) := by decide +kernel
theorem d_AC_replaceEdition_10 : decode b_AC_replaceEdition 10 = .ok (.aload_n 0, 1) := by decide +kernel
theorem d_AC_replaceEdition_11 : decode b_AC_replaceEdition 11 = .ok (.getfield 11, 3) := by decide +kernel
theorem d_AC_replaceEdition_14 : decode b_AC_replaceEdition 14 = .ok (.iload_n 2, 1) := by decide +kernel
theorem d_AC_replaceEdition_15 : decode b_AC_replaceEdition 15 = .ok (.aaload, 1) := by decide +kernel
theorem d_AC_replaceEdition_16 : decode b_AC_replaceEdition 16 = .ok (.getfield 21, 3) := by decide +kernel
theorem d_AC_replaceEdition_19 : decode b_AC_replaceEdition 19 = .ok (.bipush 7, 2) := by decide +kernel
theorem d_AC_replaceEdition_21 : decode b_AC_replaceEdition 21 = .ok (.if_icmp .ne 12, 3) := by decide +kernel
theorem d_AC_replaceEdition_24 : decode b_AC_replaceEdition 24 = .ok (.aload_n 0, 1) := by decide +kernel
theorem d_AC_replaceEdition_25 : decode b_AC_replaceEdition 25 = .ok (.getfield 11, 3) := by decide +kernel
theorem d_AC_replaceEdition_28 : decode b_AC_replaceEdition 28 = .ok (.iload_n 2, 1) := by decide +kernel
theorem d_AC_replaceEdition_29 : decode b_AC_replaceEdition 29 = .ok (.aload_n 1, 1) := by decide +kernel
theorem d_AC_replaceEdition_30 : decode b_AC_replaceEdition 30 = .ok (.aastore, 1) := by decide +kernel
theorem d_AC_replaceEdition_31 : decode b_AC_replaceEdition 31 = .ok (.iconst 1, 1) := by decide +kernel
theorem d_AC_replaceEdition_32 : decode b_AC_replaceEdition 32 = .ok (.ireturn, 1) := by decide +kernel
theorem d_AC_replaceEdition_33 : decode b_AC_replaceEdition 33 = .ok (.iinc 2 1, 3) := by decide +kernel
theorem d_AC_replaceEdition_36 : decode b_AC_replaceEdition 36 = .ok (.goto (-34), 3) := by decide +kernel
theorem d_AC_replaceEdition_39 : decode b_AC_replaceEdition 39 = .ok (.iconst 0, 1) := by decide +kernel
theorem d_AC_replaceEdition_40 : decode b_AC_replaceEdition 40 = .ok (.ireturn, 1) := by decide +kernel
set_option maxHeartbeats 4000000 in
set_option maxRecDepth 100000 in
/-- Action() -/
theorem c_AC_init (l : Launch) (D : va_G) (ct : Nat → ClassId) (Z : hp_Z) (hZ : hp_Zok Z) (M : hp_M) (sz : Nat) (hzo : ∀ A U H, Z A U H → va_AO "ActionDigests$Row" U) (a : Nat) (f_a : M a = some (.inr (3, [.null, .int (nI 0)]))) : Mv l y_AC_init b_AC_init 1 none 1 12 1 24 [.ref a] D ct Z M sz (fun M1 => ∃ oa, M oa = none ∧ M1 = hp_up (hp_up M oa (.inl (ct 2, 24, .inr (.inr (.inr (.inr (fun _ => none))))))) a (.inr (3, [.ref oa, .int (nI 0)]))) := by
  refine hp_start (by decide) (Nat.le_of_ble_eq_true rfl) (fun p e s m below meth c ls S hret hlk hnm hsz hK hM hS hA hz hl => ?_)
  have hx := S.1
  have hb := S.2.1
  have hl : lv_has ls 1 [(0, .ref a)] := hl
  refine lv_aload_n hx hb d_AC_init_0 rfl (lv_at hl 0 rfl) ?_
  refine W.objInit hx hb S.2.2.2.1 (S.2.2.2.2 _ ml_AC_3) (S.2.2.2.2 _ mi_OB_init) (S.2.2.2.2 _ mc_OB_init) rfl (by rw [S.2.2.1]; exact hl.1) rfl d_AC_init_1 (by decide) (Nat.le_of_ble_eq_true rfl) ?_
  refine W.eq (g2 := F0 m 4 ls []) rfl ?_
  refine lv_aload_n hx hb d_AC_init_4 rfl (lv_at hl 0 rfl) ?_
  refine lv_bipush (v := nI 24) hx hb d_AC_init_5 rfl ?_
  refine hp_newq S hK hM hS hA mk_AC_9 (hzo _ _ _ hz) 2 rfl 24 rfl (by decide) (by decide) (by decide) d_AC_init_7 (fun q7 H hq_q7 hM hS => ?_)
  refine W.widen (k := 1) (n := 24) (by omega) (by omega) ?_
  have ne_a_q7 : a ≠ q7 := hp_nn f_a hq_q7
  have f_a := hp_k (e := (.inl (ct 2, 24, .inr (.inr (.inr (.inr (fun _ => none))))))) ne_a_q7 f_a
  have f_q7 : hp_up M q7 (.inl (ct 2, 24, .inr (.inr (.inr (.inr (fun _ => none)))))) q7 = some (.inl (ct 2, 24, .inr (.inr (.inr (.inr (fun _ => none)))))) := hp_us
  obtain ⟨M1, eM1⟩ : ∃ z, z = hp_up M q7 (.inl (ct 2, 24, .inr (.inr (.inr (.inr (fun _ => none)))))) := ⟨_, rfl⟩
  rw [← eM1] at hM f_a f_q7
  refine hp_putF (ty := (.array (.object "ActionDigests$Row"))) (fs' := [.ref q7, .int (nI 0)]) S hK hM hS i_AC t_AC to_AC n_AC f_a rfl 0 (by decide) mf_AC_11 (fun _ h9 => h9) rfl hnm rfl (by decide +kernel) rfl rfl (by simp) rfl d_AC_init_10 (fun H locs hM hS => ?_)
  have f_q7 := hp_k (e := (.inr (3, [.ref q7, .int (nI 0)]))) (Ne.symm ne_a_q7) f_q7
  have f_a : hp_up M1 a (.inr (3, [.ref q7, .int (nI 0)])) a = some (.inr (3, [.ref q7, .int (nI 0)])) := hp_us
  obtain ⟨M2, eM2⟩ : ∃ z, z = hp_up M1 a (.inr (3, [.ref q7, .int (nI 0)])) := ⟨_, rfl⟩
  rw [← eM2] at hM f_a f_q7
  refine lv_aload_n hx hb d_AC_init_13 rfl (lv_at hl 0 rfl) ?_
  refine lv_iconst (v := nI 0) hx hb d_AC_init_14 rfl ?_
  refine hp_put (ty := .int) (fs' := [.ref q7, .int (nI 0)]) S hK hM hS i_AC t_AC to_AC n_AC f_a rfl 1 (by decide) mf_AC_17 (fun _ h9 => h9) rfl (by decide +kernel) rfl rfl (by simp) rfl d_AC_init_15 (fun H locs hM hS => ?_)
  have f_q7 := hp_k (e := (.inr (3, [.ref q7, .int (nI 0)]))) (Ne.symm ne_a_q7) f_q7
  have f_a : hp_up M2 a (.inr (3, [.ref q7, .int (nI 0)])) a = some (.inr (3, [.ref q7, .int (nI 0)])) := hp_us
  obtain ⟨M3, eM3⟩ : ∃ z, z = hp_up M2 a (.inr (3, [.ref q7, .int (nI 0)])) := ⟨_, rfl⟩
  rw [← eM3] at hM f_a f_q7
  exact hp_vret S hret hlk hM hS (⟨q7, hq_q7, by rw [eM3, eM2, eM1, hp_uu]⟩) d_AC_init_18
set_option maxHeartbeats 4000000 in
set_option maxRecDepth 100000 in
/-- there are 24 rows -/
theorem c_AC_isFull (l : Launch) (D : va_G) (ct : Nat → ClassId) (Z : hp_Z) (hZ : hp_Zok Z) (M : hp_M) (sz : Nat) (a oa n : Nat) (hn24 : n ≤ 24) (f_a : M a = some (.inr (3, [.ref oa, .int (nI n)]))) : Mi l y_AC_isFull b_AC_isFull 1 (some .boolean) 0 0 0 0 [.ref a] D ct Z M sz (fun r M1 => M1 = M ∧ bo r (24 ≤ n)) := by
  refine hp_start (by decide) (Nat.le_of_ble_eq_true rfl) (fun p e s m below meth c ls S hret hlk hnm hsz hK hM hS hA hz hl => ?_)
  have hx := S.1
  have hb := S.2.1
  have hl : lv_has ls 1 [(0, .ref a)] := hl
  refine lv_aload_n hx hb d_AC_isFull_0 rfl (lv_at hl 0 rfl) ?_
  refine hp_get S hK hM i_AC f_a rfl 1 (by decide) mf_AC_17 (fun _ h9 => h9) rfl d_AC_isFull_1 ?_
  refine lv_bipush (v := nI 24) hx hb d_AC_isFull_4 rfl ?_
  refine nb_lt (tgt := 13) hx hb d_AC_isFull_6 (by decide) (by omega) (by omega) (fun h1 => ?_) (fun h1 => ?_)
  · refine lv_iconst (v := nI 0) hx hb d_AC_isFull_13 rfl ?_
    exact hp_iret S hret hlk (rfl) hM hS (⟨rfl, bo_f (by omega)⟩) d_AC_isFull_14
  · refine lv_iconst (v := nI 1) hx hb d_AC_isFull_9 rfl ?_
    refine lv_goto (tgt := 14) hx hb d_AC_isFull_10 (by decide) ?_
    exact hp_iret S hret hlk (rfl) hM hS (⟨rfl, bo_t (by omega)⟩) d_AC_isFull_14
set_option maxHeartbeats 4000000 in
set_option maxRecDepth 100000 in
/-- the row at a place -/
theorem c_AC_rowAt (l : Launch) (D : va_G) (ct : Nat → ClassId) (Z : hp_Z) (hZ : hp_Zok Z) (M : hp_M) (sz : Nat) (fz : Nat → Prop) (a oa : Nat) (f : Nat → Option Nat) (rs : List RowT) (hn24 : rs.length ≤ 24) (f_a : M a = some (.inr (3, [.ref oa, .int (nI rs.length)]))) (f_oa : M oa = some (.inl (ct 2, 24, .inr (.inr (.inr (.inr f)))))) (hrs : rsOk ct fz M f rs) (i : Nat) (hi : i < 2 ^ 31) : Mq l y_AC_rowAt b_AC_rowAt 2 (some (.object "ActionDigests$Row")) 0 0 0 0 [.ref a, .int (nI i)] D ct Z M sz (fun r M1 => M1 = M ∧ ((i < rs.length ∧ ∃ q, r = some q ∧ rwOk ct fz M q (rs.getD i rw0)) ∨ (rs.length ≤ i ∧ r = none))) := by
  refine hp_start (by decide) (Nat.le_of_ble_eq_true rfl) (fun p e s m below meth c ls S hret hlk hnm hsz hK hM hS hA hz hl => ?_)
  have hx := S.1
  have hb := S.2.1
  have hl : lv_has ls 2 [(0, .ref a), (1, .int (nI i))] := hl
  refine lv_iload_n hx hb d_AC_rowAt_0 rfl (lv_at hl 1 rfl) ?_
  refine nz_lt (tgt := 12) hx hb d_AC_rowAt_1 (by decide) (by omega) (fun h1 => ?_) (fun h1 => ?_)
  · exact absurd h1 (fun q => q)
  · refine lv_iload_n hx hb d_AC_rowAt_4 rfl (lv_at hl 1 rfl) ?_
    refine lv_aload_n hx hb d_AC_rowAt_5 rfl (lv_at hl 0 rfl) ?_
    refine hp_get S hK hM i_AC f_a rfl 1 (by decide) mf_AC_17 (fun _ h9 => h9) rfl d_AC_rowAt_6 ?_
    refine nb_lt (tgt := 16) hx hb d_AC_rowAt_9 (by decide) (by omega) (by omega) (fun hlt => ?_) (fun hlt => ?_)
    · refine lv_aload_n hx hb d_AC_rowAt_16 rfl (lv_at hl 0 rfl) ?_
      refine hp_get S hK hM i_AC f_a rfl 0 (by decide) mf_AC_11 (fun _ h9 => h9) rfl d_AC_rowAt_17 ?_
      refine lv_iload_n hx hb d_AC_rowAt_20 rfl (lv_at hl 1 rfl) ?_
      obtain ⟨q, hfq, hq⟩ := hrs i hlt
      refine hp_aald S hK hM 2 f_oa rfl i rfl (by omega) (by decide) (congrArg va_rf hfq) d_AC_rowAt_21 ?_
      exact hp_aret (some q) rfl S hret (Or.inl ⟨_, rfl⟩) hlk hM hS (⟨rfl, Or.inl ⟨hlt, q, rfl, hq⟩⟩) d_AC_rowAt_22
    · refine lv_null hx hb d_AC_rowAt_12 ?_
      refine lv_goto (tgt := 22) hx hb d_AC_rowAt_13 (by decide) ?_
      exact hp_aret (none) rfl S hret (Or.inl ⟨_, rfl⟩) hlk hM hS (⟨rfl, Or.inr ⟨by omega, rfl⟩⟩) d_AC_rowAt_22
set_option maxHeartbeats 4000000 in
set_option maxRecDepth 100000 in
/-- a PATH or NAME is there for a KIND -/
theorem c_AC_has (l : Launch) (D : va_G) (ct : Nat → ClassId) (Z : hp_Z) (hZ : hp_Zok Z) (M : hp_M) (sz : Nat) (fz : Nat → Prop) (a oa : Nat) (f : Nat → Option Nat) (rs : List RowT) (hn24 : rs.length ≤ 24) (f_a : M a = some (.inr (3, [.ref oa, .int (nI rs.length)]))) (f_oa : M oa = some (.inl (ct 2, 24, .inr (.inr (.inr (.inr f)))))) (hrs : rsOk ct fz M f rs) (k ky : Nat) (hk : k < 2 ^ 31) (K : List Nat) (hky : kyOk ct fz M ky K) : Mi l y_AC_has b_AC_has 4 (some .boolean) 2 36 0 0 [.ref a, .int (nI k), .ref ky] D ct Z M sz (fun r M1 => M1 = M ∧ bo r (∃ i, i < rs.length ∧ (rs.getD i rw0).1 = k ∧ (rs.getD i rw0).2.1 = K)) := by
  refine hp_start (by decide) (Nat.le_of_ble_eq_true rfl) (fun p e s m below meth c ls S hret hlk hnm hsz hK hM hS hA hz hl => ?_)
  have hx := S.1
  have hb := S.2.1
  have hl : lv_has ls 4 [(0, .ref a), (1, .int (nI k)), (2, .ref ky)] := hl
  refine lv_iconst (v := nI 0) hx hb d_AC_has_0 rfl ?_
  refine lv_istore_n (lv' := [(3, .int (nI 0)), (0, .ref a), (1, .int (nI k)), (2, .ref ky)]) hx hb d_AC_has_1 rfl hl (by decide) rfl (fun ls hl => ?_)
  replace hl : lv_has ls 4 [(0, .ref a), (1, .int (nI k)), (2, .ref ky), (3, .int (nI 0))] := lv_sub hl [1, 2, 3, 0] rfl
  obtain ⟨j, e9j⟩ : ∃ z : Nat, z = 0 := ⟨_, rfl⟩
  replace hl : lv_has ls 4 [(0, .ref a), (1, .int (nI k)), (2, .ref ky), (3, .int (nI j))] := by subst e9j; exact hl
  obtain ⟨H, e9H⟩ : ∃ z : Heap, z = s.heap := ⟨_, rfl⟩
  replace hM : hp_H D ccl (hp_A M sz) M H := by rw [e9H]; exact hM
  replace hS : va_S (hp_A M sz) s.heap H [] := by rw [e9H]; exact hS
  rw [← e9H]
  clear e9H
  obtain ⟨locs, e9L⟩ : ∃ z : List Loc, z = [] := ⟨_, rfl⟩
  replace hS : va_S (hp_A M sz) s.heap H locs := by rw [e9L]; exact hS
  rw [← e9L]
  clear e9L
  have hinv : ∀ i, i < j → ¬ ((rs.getD i rw0).1 = k ∧ (rs.getD i rw0).2.1 = K) := by subst e9j; intro i hi; omega
  obtain ⟨fu, hn⟩ : ∃ fu : Nat, j + fu = rs.length := ⟨rs.length - j, by omega⟩
  clear e9j
  induction fu generalizing j H locs ls with
  | zero =>
    have hn : j = rs.length := by omega
    refine lv_iload_n hx hb d_AC_has_2 rfl (lv_at hl 3 rfl) ?_
    refine lv_aload_n hx hb d_AC_has_3 rfl (lv_at hl 0 rfl) ?_
    refine hp_get S hK hM i_AC f_a rfl 1 (by decide) mf_AC_17 (fun _ h9 => h9) rfl d_AC_has_4 ?_
    refine nb_ge (tgt := 47) hx hb d_AC_has_7 (by decide) (by omega) (by omega) (fun h1 => ?_) (fun h1 => ?_)
    · refine lv_iconst (v := nI 0) hx hb d_AC_has_47 rfl ?_
      exact hp_iret S hret hlk (rfl) hM hS (⟨rfl, bo_f (fun q => by obtain ⟨i, q1, q2⟩ := q; exact hinv i (by omega) q2)⟩) d_AC_has_48
    · exact absurd hn (by omega)
  | succ fu ih =>
    obtain ⟨q, hfq, hq⟩ := hrs j (by omega)
    obtain ⟨ky2, ba2, f_q, hky2, f_ba2, hbl2, hc_bd2, hfb2, hk72⟩ := id hq
    obtain ⟨ca2, xa2, f_ky2, -⟩ := id hky2
    refine lv_iload_n hx hb d_AC_has_2 rfl (lv_at hl 3 rfl) ?_
    refine lv_aload_n hx hb d_AC_has_3 rfl (lv_at hl 0 rfl) ?_
    refine hp_get S hK hM i_AC f_a rfl 1 (by decide) mf_AC_17 (fun _ h9 => h9) rfl d_AC_has_4 ?_
    refine nb_ge (tgt := 47) hx hb d_AC_has_7 (by decide) (by omega) (by omega) (fun h2 => ?_) (fun h2 => ?_)
    · exact absurd hn (by omega)
    · refine lv_aload_n hx hb d_AC_has_10 rfl (lv_at hl 0 rfl) ?_
      refine hp_get S hK hM i_AC f_a rfl 0 (by decide) mf_AC_11 (fun _ h9 => h9) rfl d_AC_has_11 ?_
      refine lv_iload_n hx hb d_AC_has_14 rfl (lv_at hl 3 rfl) ?_
      refine hp_aald S hK hM 2 f_oa rfl j rfl (by omega) (by decide) (congrArg va_rf hfq) d_AC_has_15 ?_
      refine hp_get S hK hM i_RW f_q rfl 0 (by decide) mf_AC_21 (fun _ h9 => h9) rfl d_AC_has_16 ?_
      refine lv_iload_n hx hb d_AC_has_19 rfl (lv_at hl 1 rfl) ?_
      refine nb_ne (tgt := 41) hx hb d_AC_has_20 (by decide) (by omega) (by omega) (fun hk1 => ?_) (fun hk1 => ?_)
      · refine lv_iinc (v := nI (j + 1)) (lv' := [(3, .int (nI (j + 1))), (0, .ref a), (1, .int (nI k)), (2, .ref ky)]) hx hb d_AC_has_41 hl (k := 3) rfl (nI_add j 1) (by decide) rfl (fun ls hl => ?_)
        refine lv_goto (tgt := 2) hx hb d_AC_has_44 (by decide) ?_
        exact ih (ls := ls) (hl := lv_sub hl [1, 2, 3, 0] rfl) (j := j + 1) (hn := by omega) (hinv := lt_s hinv (fun z => hk1 z.1)) (H := H) (locs := locs) (hM := hM) (hS := hS)
      · refine lv_aload_n hx hb d_AC_has_23 rfl (lv_at hl 0 rfl) ?_
        refine hp_get S hK hM i_AC f_a rfl 0 (by decide) mf_AC_11 (fun _ h9 => h9) rfl d_AC_has_24 ?_
        refine lv_iload_n hx hb d_AC_has_27 rfl (lv_at hl 3 rfl) ?_
        refine hp_aald S hK hM 2 f_oa rfl j rfl (by omega) (by decide) (congrArg va_rf hfq) d_AC_has_28 ?_
        refine hp_get S hK hM i_RW f_q rfl 1 (by decide) mf_AC_24 (fun _ h9 => h9) rfl d_AC_has_29 ?_
        refine lv_aload_n hx hb d_AC_has_32 rfl (lv_at hl 2 rfl) ?_
        refine hp_calli (go_V S hZ hK hM hS hA hz (c_KY_compareWith l D ct Z hZ _ _ fz ky2 ky (rs.getD j rw0).2.1 K hky2 hky) mc_KY_compareWith mz_KY ml_AC_28 mi_KY_compareWith mx_KY_compareWith hd_KY_compareWith rfl ⟨by decide, by decide⟩ f_ky2 rfl rfl hl.1 rfl (Nat.le_of_ble_eq_true rfl) d_AC_has_33 ⟨by decide, by decide⟩) hM hS hA (fun r3 N4 H locs hr3 hM hS => ?_)
        rw [hr3.1] at hM
        replace hr3 := hr3.2
        refine lv_if_ne (tgt := 41) hx hb d_AC_has_36 (by decide) (fun hk2 => ?_) (fun hk2 => ?_)
        · refine lv_iinc (v := nI (j + 1)) (lv' := [(3, .int (nI (j + 1))), (0, .ref a), (1, .int (nI k)), (2, .ref ky)]) hx hb d_AC_has_41 hl (k := 3) rfl (nI_add j 1) (by decide) rfl (fun ls hl => ?_)
          refine lv_goto (tgt := 2) hx hb d_AC_has_44 (by decide) ?_
          exact ih (ls := ls) (hl := lv_sub hl [1, 2, 3, 0] rfl) (j := j + 1) (hn := by omega) (hinv := lt_s hinv (fun z => hk2 (hr3.1.mpr ((cmpK_0 _ _).mpr z.2)))) (H := H) (locs := locs) (hM := hM) (hS := hS)
        · refine lv_iconst (v := nI 1) hx hb d_AC_has_39 rfl ?_
          exact hp_iret S hret hlk (rfl) hM hS (⟨rfl, bo_t ⟨j, by omega, hk1, (cmpK_0 _ _).mp (hr3.1.mp hk2)⟩⟩) d_AC_has_40
set_option maxHeartbeats 4000000 in
set_option maxRecDepth 100000 in
/-- an EDITION takes the place of another -/
theorem c_AC_replaceEdition (l : Launch) (D : va_G) (ct : Nat → ClassId) (Z : hp_Z) (hZ : hp_Zok Z) (M : hp_M) (sz : Nat) (fz : Nat → Prop) (a oa : Nat) (f : Nat → Option Nat) (rs : List RowT) (hn24 : rs.length ≤ 24) (f_a : M a = some (.inr (3, [.ref oa, .int (nI rs.length)]))) (f_oa : M oa = some (.inl (ct 2, 24, .inr (.inr (.inr (.inr f)))))) (hrs : rsOk ct fz M f rs) (b : Nat) (R : RowT) (hrb : rwOk ct fz M b R) : Mi l y_AC_replaceEdition b_AC_replaceEdition 3 (some .boolean) 0 0 0 0 [.ref a, .ref b] D ct Z M sz (fun r M1 => (∃ i, i < rs.length ∧ (∀ j, j < i → (rs.getD j rw0).1 ≠ 7) ∧ (rs.getD i rw0).1 = 7 ∧ r = nI 1 ∧ M1 = hp_up M oa (.inl (ct 2, 24, .inr (.inr (.inr (.inr (va_up f i (some b)))))))) ∨ ((∀ j, j < rs.length → (rs.getD j rw0).1 ≠ 7) ∧ r = nI 0 ∧ M1 = M)) := by
  refine hp_start (by decide) (Nat.le_of_ble_eq_true rfl) (fun p e s m below meth c ls S hret hlk hnm hsz hK hM hS hA hz hl => ?_)
  have hx := S.1
  have hb := S.2.1
  have hl : lv_has ls 3 [(0, .ref a), (1, .ref b)] := hl
  obtain ⟨kyb, bab, f_b, -⟩ := id hrb
  refine lv_iconst (v := nI 0) hx hb d_AC_replaceEdition_0 rfl ?_
  refine lv_istore_n (lv' := [(2, .int (nI 0)), (0, .ref a), (1, .ref b)]) hx hb d_AC_replaceEdition_1 rfl hl (by decide) rfl (fun ls hl => ?_)
  replace hl : lv_has ls 3 [(0, .ref a), (1, .ref b), (2, .int (nI 0))] := lv_sub hl [1, 2, 0] rfl
  obtain ⟨j, e9j⟩ : ∃ z : Nat, z = 0 := ⟨_, rfl⟩
  replace hl : lv_has ls 3 [(0, .ref a), (1, .ref b), (2, .int (nI j))] := by subst e9j; exact hl
  have hinv : ∀ i, i < j → (rs.getD i rw0).1 ≠ 7 := by subst e9j; intro i hi; omega
  obtain ⟨fu, hn⟩ : ∃ fu : Nat, j + fu = rs.length := ⟨rs.length - j, by omega⟩
  clear e9j
  induction fu generalizing j ls with
  | zero =>
    have hn : j = rs.length := by omega
    refine lv_iload_n hx hb d_AC_replaceEdition_2 rfl (lv_at hl 2 rfl) ?_
    refine lv_aload_n hx hb d_AC_replaceEdition_3 rfl (lv_at hl 0 rfl) ?_
    refine hp_get S hK hM i_AC f_a rfl 1 (by decide) mf_AC_17 (fun _ h9 => h9) rfl d_AC_replaceEdition_4 ?_
    refine nb_ge (tgt := 39) hx hb d_AC_replaceEdition_7 (by decide) (by omega) (by omega) (fun h1 => ?_) (fun h1 => ?_)
    · refine lv_iconst (v := nI 0) hx hb d_AC_replaceEdition_39 rfl ?_
      exact hp_iret S hret hlk (rfl) hM hS (Or.inr ⟨fun i hi => hinv i (by omega), rfl, rfl⟩) d_AC_replaceEdition_40
    · exact absurd hn (by omega)
  | succ fu ih =>
    obtain ⟨q, hfq, hq⟩ := hrs j (by omega)
    obtain ⟨ky2, ba2, f_q, hky2, f_ba2, hbl2, hc_bd2, hfb2, hk72⟩ := id hq
    refine lv_iload_n hx hb d_AC_replaceEdition_2 rfl (lv_at hl 2 rfl) ?_
    refine lv_aload_n hx hb d_AC_replaceEdition_3 rfl (lv_at hl 0 rfl) ?_
    refine hp_get S hK hM i_AC f_a rfl 1 (by decide) mf_AC_17 (fun _ h9 => h9) rfl d_AC_replaceEdition_4 ?_
    refine nb_ge (tgt := 39) hx hb d_AC_replaceEdition_7 (by decide) (by omega) (by omega) (fun h2 => ?_) (fun h2 => ?_)
    · exact absurd hn (by omega)
    · refine lv_aload_n hx hb d_AC_replaceEdition_10 rfl (lv_at hl 0 rfl) ?_
      refine hp_get S hK hM i_AC f_a rfl 0 (by decide) mf_AC_11 (fun _ h9 => h9) rfl d_AC_replaceEdition_11 ?_
      refine lv_iload_n hx hb d_AC_replaceEdition_14 rfl (lv_at hl 2 rfl) ?_
      refine hp_aald S hK hM 2 f_oa rfl j rfl (by omega) (by decide) (congrArg va_rf hfq) d_AC_replaceEdition_15 ?_
      refine hp_get S hK hM i_RW f_q rfl 0 (by decide) mf_AC_21 (fun _ h9 => h9) rfl d_AC_replaceEdition_16 ?_
      refine lv_bipush (v := nI 7) hx hb d_AC_replaceEdition_19 rfl ?_
      refine nb_ne (tgt := 33) hx hb d_AC_replaceEdition_21 (by decide) (by omega) (by omega) (fun hk1 => ?_) (fun hk1 => ?_)
      · refine lv_iinc (v := nI (j + 1)) (lv' := [(2, .int (nI (j + 1))), (0, .ref a), (1, .ref b)]) hx hb d_AC_replaceEdition_33 hl (k := 2) rfl (nI_add j 1) (by decide) rfl (fun ls hl => ?_)
        refine lv_goto (tgt := 2) hx hb d_AC_replaceEdition_36 (by decide) ?_
        exact ih (ls := ls) (hl := lv_sub hl [1, 2, 0] rfl) (j := j + 1) (hn := by omega) (hinv := lt_s hinv hk1)
      · refine lv_aload_n hx hb d_AC_replaceEdition_24 rfl (lv_at hl 0 rfl) ?_
        refine hp_get S hK hM i_AC f_a rfl 0 (by decide) mf_AC_11 (fun _ h9 => h9) rfl d_AC_replaceEdition_25 ?_
        refine lv_iload_n hx hb d_AC_replaceEdition_28 rfl (lv_at hl 2 rfl) ?_
        refine lv_aload_n hx hb d_AC_replaceEdition_29 rfl (lv_at hl 1 rfl) ?_
        refine hp_aast S hK hM hS 2 4 f_oa rfl f_b rfl j rfl (by omega) (by decide) d_AC_replaceEdition_30 (fun H locs hM hS => ?_)
        have f_a := hp_k (e := (.inl (ct 2, 24, .inr (.inr (.inr (.inr (va_up f j (some b)))))))) (hp_ne f_a f_oa (by simp)) f_a
        have f_b := hp_k (e := (.inl (ct 2, 24, .inr (.inr (.inr (.inr (va_up f j (some b)))))))) (hp_ne f_b f_oa (by simp)) f_b
        have f_q := hp_k (e := (.inl (ct 2, 24, .inr (.inr (.inr (.inr (va_up f j (some b)))))))) (hp_ne f_q f_oa (by simp)) f_q
        have f_oa : hp_up M oa (.inl (ct 2, 24, .inr (.inr (.inr (.inr (va_up f j (some b))))))) oa = some (.inl (ct 2, 24, .inr (.inr (.inr (.inr (va_up f j (some b))))))) := hp_us
        obtain ⟨M3, eM3⟩ : ∃ z, z = hp_up M oa (.inl (ct 2, 24, .inr (.inr (.inr (.inr (va_up f j (some b))))))) := ⟨_, rfl⟩
        rw [← eM3] at hM f_a f_oa f_b f_q
        refine lv_iconst (v := nI 1) hx hb d_AC_replaceEdition_31 rfl ?_
        exact hp_iret S hret hlk (rfl) hM hS (Or.inl ⟨j, by omega, hinv, hk1, rfl, by rw [eM3]⟩) d_AC_replaceEdition_32
set_option maxHeartbeats 4000000 in
set_option maxRecDepth 100000 in
/-- a row goes in, ahead of those that come behind it -/
theorem c_AC_insert (l : Launch) (D : va_G) (ct : Nat → ClassId) (Z : hp_Z) (hZ : hp_Zok Z) (M : hp_M) (sz : Nat) (fz : Nat → Prop) (a oa : Nat) (f : Nat → Option Nat) (rs : List RowT) (hn24 : rs.length < 24) (f_a : M a = some (.inr (3, [.ref oa, .int (nI rs.length)]))) (f_oa : M oa = some (.inl (ct 2, 24, .inr (.inr (.inr (.inr f)))))) (hrs : rsOk ct fz M f rs) (b : Nat) (R : RowT) (hrb : rwOk ct fz M b R) : Mv l y_AC_insert b_AC_insert 3 none 3 57 0 0 [.ref a, .ref b] D ct Z M sz (fun M1 => ∃ (u : Nat) (f1 : Nat → Option Nat), u ≤ rs.length ∧ (∀ i, u ≤ i → i < rs.length → behind (rs.getD i rw0) R) ∧ (u = 0 ∨ ¬ behind (rs.getD (u - 1) rw0) R) ∧ (∀ i, i < u → f1 i = f i) ∧ f1 u = some b ∧ (∀ i, u < i → i ≤ rs.length → f1 i = f (i - 1)) ∧ M1 = hp_up (hp_up M oa (.inl (ct 2, 24, .inr (.inr (.inr (.inr f1)))))) a (.inr (3, [.ref oa, .int (nI (rs.length + 1))]))) := by
  refine hp_start (by decide) (Nat.le_of_ble_eq_true rfl) (fun p e s m below meth c ls S hret hlk hnm hsz hK hM hS hA hz hl => ?_)
  have hx := S.1
  have hb := S.2.1
  have hl : lv_has ls 3 [(0, .ref a), (1, .ref b)] := hl
  obtain ⟨kyb, bab, f_b, -⟩ := id hrb
  have f0_oa := f_oa
  refine lv_aload_n hx hb d_AC_insert_0 rfl (lv_at hl 0 rfl) ?_
  refine hp_calli (go_V S hZ hK hM hS hA hz (c_AC_isFull l D ct Z hZ _ _ a oa rs.length (by omega) f_a) mc_AC_isFull mz_AC ml_AC_34 mi_AC_isFull mx_AC_isFull hd_AC_isFull rfl ⟨by decide, by decide⟩ f_a rfl rfl hl.1 rfl (Nat.le_of_ble_eq_true rfl) d_AC_insert_1 ⟨by decide, by decide⟩) hM hS hA (fun r1 N2 H locs hr1 hM hS => ?_)
  rw [hr1.1] at hM
  replace hr1 := hr1.2
  refine nt_eq (tgt := 8) hx hb d_AC_insert_4 (by decide) hr1 (fun h3 => ?_) (fun h3 => ?_)
  · refine lv_aload_n hx hb d_AC_insert_8 rfl (lv_at hl 0 rfl) ?_
    refine hp_get S hK hM i_AC f_a rfl 1 (by decide) mf_AC_17 (fun _ h9 => h9) rfl d_AC_insert_9 ?_
    refine lv_istore_n (lv' := [(2, .int (nI (rs.length))), (0, .ref a), (1, .ref b)]) hx hb d_AC_insert_12 rfl hl (by decide) rfl (fun ls hl => ?_)
    replace hl : lv_has ls 3 [(0, .ref a), (1, .ref b), (2, .int (nI (rs.length)))] := lv_sub hl [1, 2, 0] rfl
    obtain ⟨u, e9u⟩ : ∃ z : Nat, z = rs.length := ⟨_, rfl⟩
    obtain ⟨fq, e9f⟩ : ∃ z : Nat → Option Nat, z = f := ⟨_, rfl⟩
    replace hl : lv_has ls 3 [(0, .ref a), (1, .ref b), (2, .int (nI u))] := by rw [e9u]; exact hl
    obtain ⟨N, e9N⟩ : ∃ z : hp_M, z = M := ⟨_, rfl⟩
    replace hM : hp_H D ccl (hp_A M sz) N H := by rw [e9N]; exact hM
    replace f_a : N a = some (.inr (3, [.ref oa, .int (nI rs.length)])) := by rw [e9N]; exact f_a
    replace f_oa : N oa = some (.inl (ct 2, 24, .inr (.inr (.inr (.inr f))))) := by rw [e9N]; exact f_oa
    replace f_b : N b = some (.inr (4, [.int (nI R.1), .ref kyb, .ref bab])) := by rw [e9N]; exact f_b
    replace f_oa : N oa = some (.inl (ct 2, 24, .inr (.inr (.inr (.inr fq))))) := by rw [e9f]; exact f_oa
    have hN : N = hp_up M oa (.inl (ct 2, 24, .inr (.inr (.inr (.inr fq))))) := by rw [e9f, hp_same f0_oa]; exact e9N
    have hu : u ≤ rs.length := by omega
    have hlo : ∀ i, i < u → fq i = f i := fun i _ => by rw [e9f]
    have hhi : ∀ i, u < i → i ≤ rs.length → fq i = f (i - 1) := fun i h1 h2 => by omega
    have hbh : ∀ i, u ≤ i → i < rs.length → behind (rs.getD i rw0) R := fun i h1 h2 => by omega
    clear e9u e9f e9N
    induction u generalizing fq N H locs ls with
    | zero =>
      refine lv_iload_n hx hb d_AC_insert_13 rfl (lv_at hl 2 rfl) ?_
      refine nz_le (tgt := 52) hx hb d_AC_insert_14 (by decide) (by omega) (fun h4 => ?_) (fun h4 => ?_)
      · refine lv_aload_n hx hb d_AC_insert_52 rfl (lv_at hl 0 rfl) ?_
        refine hp_get S hK hM i_AC f_a rfl 0 (by decide) mf_AC_11 (fun _ h9 => h9) rfl d_AC_insert_53 ?_
        refine lv_iload_n hx hb d_AC_insert_56 rfl (lv_at hl 2 rfl) ?_
        refine lv_aload_n hx hb d_AC_insert_57 rfl (lv_at hl 1 rfl) ?_
        refine hp_aast S hK hM hS 2 4 f_oa rfl f_b rfl 0 rfl (by omega) (by decide) d_AC_insert_58 (fun H locs hM hS => ?_)
        have f_a := hp_k (e := (.inl (ct 2, 24, .inr (.inr (.inr (.inr (va_up fq 0 (some b)))))))) (hp_ne f_a f_oa (by simp)) f_a
        have f_b := hp_k (e := (.inl (ct 2, 24, .inr (.inr (.inr (.inr (va_up fq 0 (some b)))))))) (hp_ne f_b f_oa (by simp)) f_b
        have f_oa : hp_up N oa (.inl (ct 2, 24, .inr (.inr (.inr (.inr (va_up fq 0 (some b))))))) oa = some (.inl (ct 2, 24, .inr (.inr (.inr (.inr (va_up fq 0 (some b))))))) := hp_us
        obtain ⟨M5, eM5⟩ : ∃ z, z = hp_up N oa (.inl (ct 2, 24, .inr (.inr (.inr (.inr (va_up fq 0 (some b))))))) := ⟨_, rfl⟩
        rw [← eM5] at hM f_a f_oa f_b
        refine lv_aload_n hx hb d_AC_insert_59 rfl (lv_at hl 0 rfl) ?_
        refine lv_dup hx hb d_AC_insert_60 rfl ?_
        refine hp_get S hK hM i_AC f_a rfl 1 (by decide) mf_AC_17 (fun _ h9 => h9) rfl d_AC_insert_61 ?_
        refine lv_iconst (v := nI 1) hx hb d_AC_insert_64 rfl ?_
        refine nb_iadd hx hb d_AC_insert_65 ?_
        refine hp_put (ty := .int) (fs' := [.ref oa, .int (nI ((rs.length) + 1))]) S hK hM hS i_AC t_AC to_AC n_AC f_a rfl 1 (by decide) mf_AC_17 (fun _ h9 => h9) rfl (by decide +kernel) rfl rfl (by simp) rfl d_AC_insert_66 (fun H locs hM hS => ?_)
        have f_oa := hp_k (e := (.inr (3, [.ref oa, .int (nI ((rs.length) + 1))]))) (hp_ne f_oa f_a (by simp)) f_oa
        have f_b := hp_k (e := (.inr (3, [.ref oa, .int (nI ((rs.length) + 1))]))) (hp_ne f_b f_a (by simp)) f_b
        have f_a : hp_up M5 a (.inr (3, [.ref oa, .int (nI ((rs.length) + 1))])) a = some (.inr (3, [.ref oa, .int (nI ((rs.length) + 1))])) := hp_us
        obtain ⟨M6, eM6⟩ : ∃ z, z = hp_up M5 a (.inr (3, [.ref oa, .int (nI ((rs.length) + 1))])) := ⟨_, rfl⟩
        rw [← eM6] at hM f_a f_oa f_b
        exact hp_vret S hret hlk hM hS ⟨0, va_up fq 0 (some b), by omega, hbh, Or.inl rfl, fun i hi => by rw [up_n (Nat.ne_of_lt hi)]; exact hlo i hi, up_s, fun i h1 h2 => by rw [up_n (by omega)]; exact hhi i h1 h2, by rw [eM6, eM5, hN, hp_uu]⟩ d_AC_insert_69
      · exact absurd h4 (by omega)
    | succ u ih =>
      have hst : stab ct fz M N := by rw [hN]; exact stab_q f0_oa
      obtain ⟨q, hfq0, hq0⟩ := hrs u (by omega)
      have hq := hq0.st hst
      have hfq : fq (u + 1 - 1) = some q := (hlo u (by omega)).trans hfq0
      obtain ⟨ky2, ba2, f_q, -⟩ := id hq
      refine lv_iload_n hx hb d_AC_insert_13 rfl (lv_at hl 2 rfl) ?_
      refine nz_le (tgt := 52) hx hb d_AC_insert_14 (by decide) (by omega) (fun h7 => ?_) (fun h7 => ?_)
      · exact absurd h7 (by omega)
      · refine lv_aload_n hx hb d_AC_insert_17 rfl (lv_at hl 0 rfl) ?_
        refine hp_get S hK hM i_AC f_a rfl 0 (by decide) mf_AC_11 (fun _ h9 => h9) rfl d_AC_insert_18 ?_
        refine lv_iload_n hx hb d_AC_insert_21 rfl (lv_at hl 2 rfl) ?_
        refine lv_iconst (v := nI 1) hx hb d_AC_insert_22 rfl ?_
        refine nb_isub hx hb d_AC_insert_23 (by omega) ?_
        refine hp_aald S hK hM 2 f_oa rfl ((u + 1) - 1) rfl (by omega) (by decide) (congrArg va_rf hfq) d_AC_insert_24 ?_
        refine lv_aload_n hx hb d_AC_insert_25 rfl (lv_at hl 1 rfl) ?_
        refine hp_calli (go_V S hZ hK hM hS hA hz (c_RW_isBehind l D ct Z hZ _ _ fz q b (rs.getD u rw0) R hq (hrb.st hst)) mc_RW_isBehind mz_RW ml_AC_38 mi_RW_isBehind mx_RW_isBehind hd_RW_isBehind rfl ⟨by decide, by decide⟩ f_q rfl rfl hl.1 rfl (Nat.le_of_ble_eq_true rfl) d_AC_insert_26 ⟨by decide, by decide⟩) hM hS hA (fun r8 N9 H locs hr8 hM hS => ?_)
        rw [hr8.1] at hM
        replace hr8 := hr8.2
        refine nt_eq (tgt := 52) hx hb d_AC_insert_29 (by decide) hr8 (fun hbe => ?_) (fun hbe => ?_)
        · refine lv_aload_n hx hb d_AC_insert_52 rfl (lv_at hl 0 rfl) ?_
          refine hp_get S hK hM i_AC f_a rfl 0 (by decide) mf_AC_11 (fun _ h9 => h9) rfl d_AC_insert_53 ?_
          refine lv_iload_n hx hb d_AC_insert_56 rfl (lv_at hl 2 rfl) ?_
          refine lv_aload_n hx hb d_AC_insert_57 rfl (lv_at hl 1 rfl) ?_
          refine hp_aast S hK hM hS 2 4 f_oa rfl f_b rfl (u + 1) rfl (by omega) (by decide) d_AC_insert_58 (fun H locs hM hS => ?_)
          have f_a := hp_k (e := (.inl (ct 2, 24, .inr (.inr (.inr (.inr (va_up fq (u + 1) (some b)))))))) (hp_ne f_a f_oa (by simp)) f_a
          have f_b := hp_k (e := (.inl (ct 2, 24, .inr (.inr (.inr (.inr (va_up fq (u + 1) (some b)))))))) (hp_ne f_b f_oa (by simp)) f_b
          have f_q := hp_k (e := (.inl (ct 2, 24, .inr (.inr (.inr (.inr (va_up fq (u + 1) (some b)))))))) (hp_ne f_q f_oa (by simp)) f_q
          have f_oa : hp_up N oa (.inl (ct 2, 24, .inr (.inr (.inr (.inr (va_up fq (u + 1) (some b))))))) oa = some (.inl (ct 2, 24, .inr (.inr (.inr (.inr (va_up fq (u + 1) (some b))))))) := hp_us
          obtain ⟨M10, eM10⟩ : ∃ z, z = hp_up N oa (.inl (ct 2, 24, .inr (.inr (.inr (.inr (va_up fq (u + 1) (some b))))))) := ⟨_, rfl⟩
          rw [← eM10] at hM f_a f_oa f_b f_q
          refine lv_aload_n hx hb d_AC_insert_59 rfl (lv_at hl 0 rfl) ?_
          refine lv_dup hx hb d_AC_insert_60 rfl ?_
          refine hp_get S hK hM i_AC f_a rfl 1 (by decide) mf_AC_17 (fun _ h9 => h9) rfl d_AC_insert_61 ?_
          refine lv_iconst (v := nI 1) hx hb d_AC_insert_64 rfl ?_
          refine nb_iadd hx hb d_AC_insert_65 ?_
          refine hp_put (ty := .int) (fs' := [.ref oa, .int (nI ((rs.length) + 1))]) S hK hM hS i_AC t_AC to_AC n_AC f_a rfl 1 (by decide) mf_AC_17 (fun _ h9 => h9) rfl (by decide +kernel) rfl rfl (by simp) rfl d_AC_insert_66 (fun H locs hM hS => ?_)
          have f_oa := hp_k (e := (.inr (3, [.ref oa, .int (nI ((rs.length) + 1))]))) (hp_ne f_oa f_a (by simp)) f_oa
          have f_b := hp_k (e := (.inr (3, [.ref oa, .int (nI ((rs.length) + 1))]))) (hp_ne f_b f_a (by simp)) f_b
          have f_q := hp_k (e := (.inr (3, [.ref oa, .int (nI ((rs.length) + 1))]))) (hp_ne f_q f_a (by simp)) f_q
          have f_a : hp_up M10 a (.inr (3, [.ref oa, .int (nI ((rs.length) + 1))])) a = some (.inr (3, [.ref oa, .int (nI ((rs.length) + 1))])) := hp_us
          obtain ⟨M11, eM11⟩ : ∃ z, z = hp_up M10 a (.inr (3, [.ref oa, .int (nI ((rs.length) + 1))])) := ⟨_, rfl⟩
          rw [← eM11] at hM f_a f_oa f_b f_q
          exact hp_vret S hret hlk hM hS ⟨(u + 1), va_up fq (u + 1) (some b), by omega, hbh, Or.inr hbe, fun i hi => by rw [up_n (Nat.ne_of_lt hi)]; exact hlo i hi, up_s, fun i h1 h2 => by rw [up_n (by omega)]; exact hhi i h1 h2, by rw [eM11, eM10, hN, hp_uu]⟩ d_AC_insert_69
        · refine lv_aload_n hx hb d_AC_insert_32 rfl (lv_at hl 0 rfl) ?_
          refine hp_get S hK hM i_AC f_a rfl 0 (by decide) mf_AC_11 (fun _ h9 => h9) rfl d_AC_insert_33 ?_
          refine lv_iload_n hx hb d_AC_insert_36 rfl (lv_at hl 2 rfl) ?_
          refine lv_aload_n hx hb d_AC_insert_37 rfl (lv_at hl 0 rfl) ?_
          refine hp_get S hK hM i_AC f_a rfl 0 (by decide) mf_AC_11 (fun _ h9 => h9) rfl d_AC_insert_38 ?_
          refine lv_iload_n hx hb d_AC_insert_41 rfl (lv_at hl 2 rfl) ?_
          refine lv_iconst (v := nI 1) hx hb d_AC_insert_42 rfl ?_
          refine nb_isub hx hb d_AC_insert_43 (by omega) ?_
          refine hp_aald S hK hM 2 f_oa rfl ((u + 1) - 1) rfl (by omega) (by decide) (congrArg va_rf hfq) d_AC_insert_44 ?_
          refine hp_aast S hK hM hS 2 4 f_oa rfl f_q rfl (u + 1) rfl (by omega) (by decide) d_AC_insert_45 (fun H locs hM hS => ?_)
          have f_a := hp_k (e := (.inl (ct 2, 24, .inr (.inr (.inr (.inr (va_up fq (u + 1) (some q)))))))) (hp_ne f_a f_oa (by simp)) f_a
          have f_b := hp_k (e := (.inl (ct 2, 24, .inr (.inr (.inr (.inr (va_up fq (u + 1) (some q)))))))) (hp_ne f_b f_oa (by simp)) f_b
          have f_q := hp_k (e := (.inl (ct 2, 24, .inr (.inr (.inr (.inr (va_up fq (u + 1) (some q)))))))) (hp_ne f_q f_oa (by simp)) f_q
          have f_oa : hp_up N oa (.inl (ct 2, 24, .inr (.inr (.inr (.inr (va_up fq (u + 1) (some q))))))) oa = some (.inl (ct 2, 24, .inr (.inr (.inr (.inr (va_up fq (u + 1) (some q))))))) := hp_us
          obtain ⟨M12, eM12⟩ : ∃ z, z = hp_up N oa (.inl (ct 2, 24, .inr (.inr (.inr (.inr (va_up fq (u + 1) (some q))))))) := ⟨_, rfl⟩
          rw [← eM12] at hM f_a f_oa f_b f_q
          refine lv_iinc (v := nI u) (lv' := [(2, .int (nI u)), (0, .ref a), (1, .ref b)]) hx hb d_AC_insert_46 hl (k := 2) rfl (pk_m1 u) (by decide) rfl (fun ls hl => ?_)
          refine lv_goto (tgt := 13) hx hb d_AC_insert_49 (by decide) ?_
          exact ih (fq := va_up fq (u + 1) (some q)) (N := M12) (H := H) (locs := locs) (ls := ls) (hM := hM) (hS := hS) (f_a := f_a) (f_b := f_b) (f_oa := f_oa) (hl := lv_sub hl [1, 2, 0] rfl) (hN := by rw [eM12, hN, hp_uu]) (hu := by omega) (hlo := fun i hi => by rw [up_n (by omega)]; exact hlo i (by omega)) (hhi := fun i h1 h2 => by rcases Nat.lt_or_ge (u + 1) i with z | z; (rw [up_n (by omega)]; exact hhi i z h2); (rw [show i = u + 1 by omega, up_s]; exact hfq0.symm)) (hbh := fun i h1 h2 => by rcases Nat.lt_or_ge u i with z | z; exact hbh i z h2; (rw [show i = u by omega]; exact hbe))
  · exact absurd h3 (by omega)
end
section
/-! SHA-256: the tables, words, rounds -/
def kF (i : Nat) : Int32 := ([1116352408, 1899447441, -1245643825, -373957723, 961987163, 1508970993, -1841331548, -1424204075, -670586216, 310598401, 607225278, 1426881987, 1925078388, -2132889090, -1680079193, -1046744716, -459576895, -272742522, 264347078, 604807628, 770255983, 1249150122, 1555081692, 1996064986, -1740746414, -1473132947, -1341970488, -1084653625, -958395405, -710438585, 113926993, 338241895, 666307205, 773529912, 1294757372, 1396182291, 1695183700, 1986661051, -2117940946, -1838011259, -1564481375, -1474664885, -1035236496, -949202525, -778901479, -694614492, -200395387, 275423344, 430227734, 506948616, 659060556, 883997877, 958139571, 1322822218, 1537002063, 1747873779, 1955562222, 2024104815, -2067236844, -1933114872, -1866530822, -1538233109, -1090935817, -965641998] : List Int32).getD i 0
def hF (i : Nat) : Int32 := ([1779033703, -1150833019, 1013904242, -1521486534, 1359893119, -1694144372, 528734635, 1541459225] : List Int32).getD i 0
def zK (Z : hp_Z) (tk : Nat) : Prop := ∀ (A : Nat → Prop) (U : State) (H : Heap), Z A U H → va_Z "ActionDigests" "ROUND_CONSTANTS" "[I" (.ref tk) A U H ∧ va_T .int tk 64 (fun i => .int (kF i)) A U H ∧ va_Nw (.fieldLinkNest "ActionDigests$Sha" 47 "ActionDigests" "ROUND_CONSTANTS" "[I" "ActionDigests") U
def zH (Z : hp_Z) (th : Nat) : Prop := ∀ (A : Nat → Prop) (U : State) (H : Heap), Z A U H → va_Z "ActionDigests" "FIRST_SUMS" "[I" (.ref th) A U H ∧ va_T .int th 8 (fun i => .int (hF i)) A U H ∧ va_Nw (.fieldLinkNest "ActionDigests$Sha" 26 "ActionDigests" "FIRST_SUMS" "[I" "ActionDigests") U
theorem shr2 {n : Nat} (h : n < 2 ^ 31) : nI n >>> (nI 2 &&& 31) = nI (n / 4) := pk_shrN h _ 2 (by decide)
theorem shr3 {n : Nat} (h : n < 2 ^ 31) : nI n >>> (nI 3 &&& 31) = nI (n / 8) := pk_shrN h _ 3 (by decide)
theorem and7 {n : Nat} (h : n < 2 ^ 32) : nI n &&& nI 7 = nI (n % 8) := pk_andN h 3 (by decide)
theorem and15 {n : Nat} (h : n < 2 ^ 32) : nI n &&& nI 15 = nI (n % 16) := pk_andN h 4 (by decide)
theorem i2c_nI {n : Nat} (h : n < 65536) : ((nI n).toUInt32 % 65536).toInt32 = nI n := by
  rw [pk_char, pk_tn (by omega), Nat.mod_eq_of_lt h]
/-- a number's digit of sixteen -/
def nibN (x : Int32) (k : Nat) : Nat := x.toBitVec.toNat / 2 ^ k % 16
theorem nib_eq (x : Int32) {k : Nat} (hk : k < 32) : (x.toUInt32 >>> ((nI k).toUInt32 &&& Int32.toUInt32 31)).toInt32 &&& nI 15 = nI (nibN x k) := by
  have hs : ∀ k, k < 32 → (((nI k).toUInt32 &&& Int32.toUInt32 31).toBitVec % 32).toNat = k := by decide
  rw [pk_and _ (m := nI 15) 4 (by decide), pk_ushr x (nI k) k (hs k hk)]
  rfl
/-- turned right -/
def tr (x : Int32) (b : Nat) : Int32 := (Int32.toUInt32 x >>> (Int32.toUInt32 (nI b) &&& Int32.toUInt32 31)).toInt32 ||| (x <<< (nI (32 - b) &&& 31))
def us (x : Int32) (b : Nat) : Int32 := (Int32.toUInt32 x >>> (Int32.toUInt32 (nI b) &&& Int32.toUInt32 31)).toInt32
/-- one more word -/
def spj (w : Nat → Int32) (j : Nat) : Nat → Int32 := upd w j ((((tr (w (j - 2)) 17 ^^^ tr (w (j - 2)) 19) ^^^ us (w (j - 2)) 10) + w (j - 7)) + ((tr (w (j - 15)) 7 ^^^ tr (w (j - 15)) 18) ^^^ us (w (j - 15)) 3) + w (j - 16))
def spw (w : Nat → Int32) : Nat → Nat → Int32
  | 0 => w
  | k + 1 => spj (spw w k) (16 + k)
/-- a round -/
def rnX (k w : Int32) (v : Nat → Int32) : Int32 := (((v 7 + ((tr (v 4) 6 ^^^ tr (v 4) 11) ^^^ tr (v 4) 25)) + ((v 4 &&& v 5) ^^^ ((v 4 ^^^ (-1)) &&& v 6))) + k) + w
def rnY (v : Nat → Int32) : Int32 := ((tr (v 0) 2 ^^^ tr (v 0) 13) ^^^ tr (v 0) 22) + (((v 0 &&& v 1) ^^^ (v 0 &&& v 2)) ^^^ (v 1 &&& v 2))
def rnd (k w : Int32) (v : Nat → Int32) : Nat → Int32
  | 0 => rnX k w v + rnY v
  | 1 => v 0
  | 2 => v 1
  | 3 => v 2
  | 4 => v 3 + rnX k w v
  | 5 => v 4
  | 6 => v 5
  | _ => v 6
def mixn (w : Nat → Int32) (v : Nat → Int32) : Nat → Nat → Int32
  | 0 => v
  | t + 1 => rnd (kF t) (w t) (mixn w v t)
def ad1 (v : Nat → Int32) (k : Nat) (s : Nat → Int32) : Nat → Int32 := upd s k (s k + v k)
def adds (v s : Nat → Int32) : Nat → Int32 := ad1 v 7 (ad1 v 6 (ad1 v 5 (ad1 v 4 (ad1 v 3 (ad1 v 2 (ad1 v 1 (ad1 v 0 s)))))))
/-- a Sha's state: sums, words, how many bytes of a block, how many in all -/
abbrev ShT : Type := (Nat → Int32) × (Nat → Int32) × Nat × Int64
def shM (ct : Nat → ClassId) (M : hp_M) (sh su wo : Nat) (Y : ShT) : hp_M := hp_up (hp_up (hp_up M su (.inl (ct 1, 8, .inl Y.1))) wo (.inl (ct 1, 64, .inl Y.2.1))) sh (.inr (2, [.ref su, .ref wo, .int (nI Y.2.2.1), .long Y.2.2.2]))
def shOk (ct : Nat → ClassId) (M : hp_M) (sh su wo : Nat) (Y : ShT) : Prop := M su = some (.inl (ct 1, 8, .inl Y.1)) ∧ M wo = some (.inl (ct 1, 64, .inl Y.2.1)) ∧ M sh = some (.inr (2, [.ref su, .ref wo, .int (nI Y.2.2.1), .long Y.2.2.2])) ∧ Y.2.2.1 ≤ 64
theorem shM_ne {ct : Nat → ClassId} {M : hp_M} {sh su wo : Nat} {Y : ShT} (h : shOk ct M sh su wo Y) : su ≠ wo ∧ su ≠ sh ∧ wo ≠ sh := ⟨hp_ne h.1 h.2.1 (by simp), hp_ne h.1 h.2.2.1 (by simp), hp_ne h.2.1 h.2.2.1 (by simp)⟩
theorem shM_uu {ct : Nat → ClassId} {M : hp_M} {sh su wo : Nat} {Y X : ShT} : shM ct (shM ct M sh su wo Y) sh su wo X = shM ct M sh su wo X := by
  funext q
  unfold shM hp_up
  by_cases h1 : q = sh
  · simp only [if_pos h1]
  · by_cases h2 : q = wo
    · simp only [if_neg h1, if_pos h2]
    · by_cases h3 : q = su
      · simp only [if_neg h1, if_neg h2, if_pos h3]
      · simp only [if_neg h1, if_neg h2, if_neg h3]
theorem shM_self {ct : Nat → ClassId} {M : hp_M} {sh su wo : Nat} {Y : ShT} (h : shOk ct M sh su wo Y) : shM ct M sh su wo Y = M := by
  unfold shM
  rw [hp_same h.1, hp_same h.2.1, hp_same h.2.2.1]
theorem shM_su {ct : Nat → ClassId} {M : hp_M} {sh su wo : Nat} {Y : ShT} (h : shOk ct M sh su wo Y) (s : Nat → Int32) : hp_up M su (.inl (ct 1, 8, .inl s)) = shM ct M sh su wo (s, Y.2.1, Y.2.2.1, Y.2.2.2) := by
  obtain ⟨n1, n2, n3⟩ := shM_ne h
  unfold shM
  rw [hp_same (hp_k (Ne.symm n1) h.2.1), hp_same (hp_k (Ne.symm n2) h.2.2.1)]
theorem shM_wo {ct : Nat → ClassId} {M : hp_M} {sh su wo : Nat} {Y : ShT} (h : shOk ct M sh su wo Y) (w : Nat → Int32) : hp_up M wo (.inl (ct 1, 64, .inl w)) = shM ct M sh su wo (Y.1, w, Y.2.2.1, Y.2.2.2) := by
  obtain ⟨n1, n2, n3⟩ := shM_ne h
  unfold shM
  rw [hp_same h.1, hp_same (hp_k (Ne.symm n3) h.2.2.1)]
theorem shM_sh {ct : Nat → ClassId} {M : hp_M} {sh su wo : Nat} {Y : ShT} (h : shOk ct M sh su wo Y) (n : Nat) (d : Int64) : hp_up M sh (.inr (2, [.ref su, .ref wo, .int (nI n), .long d])) = shM ct M sh su wo (Y.1, Y.2.1, n, d) := by
  unfold shM
  rw [hp_same h.1, hp_same h.2.1]
theorem shM_ok {ct : Nat → ClassId} {M : hp_M} {sh su wo : Nat} {Y : ShT} (h : shOk ct M sh su wo Y) {X : ShT} (hX : X.2.2.1 ≤ 64) : shOk ct (shM ct M sh su wo X) sh su wo X := by
  obtain ⟨n1, n2, n3⟩ := shM_ne h
  exact ⟨hp_k n2 (hp_k n1 hp_us), hp_k n3 hp_us, hp_us, hX⟩
/-- a byte pushed into a word; a byte fed -/
def pb (w v : Int32) : Int32 := (w <<< (nI 8 &&& 31)) ||| (v &&& nI 255)
def blk (Y : ShT) : ShT := (adds (mixn (spw Y.2.1 48) Y.1 64) Y.1, spw Y.2.1 48, 0, Y.2.2.2)
def fd0 (v : Int32) (Y : ShT) : ShT := (Y.1, upd Y.2.1 (Y.2.2.1 / 4 % 16) (pb (Y.2.1 (Y.2.2.1 / 4 % 16)) v), Y.2.2.1 + 1, Y.2.2.2 + 1)
def feedS (v : Int32) (Y : ShT) : ShT := if (Y.2.2.1 + 1) < 64 then fd0 v Y else blk (fd0 v Y)
theorem feedS_lt {v : Int32} {Y : ShT} : (feedS v Y).2.2.1 < 64 := by
  unfold feedS
  by_cases h : Y.2.2.1 + 1 < 64
  · rw [if_pos h]; exact h
  · rw [if_neg h]; exact (by decide : 0 < 64)
theorem shM_k {ct : Nat → ClassId} {M : hp_M} {sh su wo t : Nat} {X : ShT} {e : va_E} (h : M t = some e) (h1 : t ≠ su) (h2 : t ≠ wo) (h3 : t ≠ sh) : shM ct M sh su wo X t = some e := hp_k h3 (hp_k h2 (hp_k h1 h))
def feedL (Y : ShT) (l : List Nat) : ShT := l.foldl (fun Y k => feedS (nI k) Y) Y
theorem d_SH_init_0 : decode b_SH_init 0 = .ok (.aload_n 0, 1) := by decide +kernel
theorem d_SH_init_1 : decode b_SH_init 1 = .ok (.invokespecial 3, 3) := by decide +kernel
theorem d_SH_init_4 : decode b_SH_init 4 = .ok (.aload_n 0, 1) := by decide +kernel
theorem d_SH_init_5 : decode b_SH_init 5 = .ok (.bipush 8, 2) := by decide +kernel
theorem d_SH_init_7 : decode b_SH_init 7 = .ok (.newarray .int, 2) := by decide +kernel
theorem d_SH_init_9 : decode b_SH_init 9 = .ok (.putfield 9, 3) := by decide +kernel
theorem d_SH_init_12 : decode b_SH_init 12 = .ok (.aload_n 0, 1) := by decide +kernel
theorem d_SH_init_13 : decode b_SH_init 13 = .ok (.bipush 64, 2) := by decide +kernel
theorem d_SH_init_15 : decode b_SH_init 15 = .ok (.newarray .int, 2) := by decide +kernel
theorem d_SH_init_17 : decode b_SH_init 17 = .ok (.putfield 15, 3) := by decide +kernel
theorem d_SH_init_20 : decode b_SH_init 20 = .ok (.aload_n 0, 1) := by decide +kernel
theorem d_SH_init_21 : decode b_SH_init 21 = .ok (.iconst 0, 1) := by decide +kernel
theorem d_SH_init_22 : decode b_SH_init 22 = .ok (.putfield 18, 3) := by decide +kernel
theorem d_SH_init_25 : decode b_SH_init 25 = .ok (.aload_n 0, 1) := by decide +kernel
theorem d_SH_init_26 : decode b_SH_init 26 = .ok (.lconst 0, 1) := by decide +kernel
theorem d_SH_init_27 : decode b_SH_init 27 = .ok (.putfield 22, 3) := by decide +kernel
theorem d_SH_init_30 : decode b_SH_init 30 = .ok (.return_, 1) := by decide +kernel
theorem d_SH_turned_0 : decode b_SH_turned 0 = .ok (.iload_n 0, 1) := by decide +kernel
theorem d_SH_turned_1 : decode b_SH_turned 1 = .ok (.iload_n 1, 1) := by decide +kernel
theorem d_SH_turned_2 : decode b_SH_turned 2 = .ok (.iushr, 1) := by decide +kernel
theorem d_SH_turned_3 : decode b_SH_turned 3 = .ok (.iload_n 0, 1) := by decide +kernel
theorem d_SH_turned_4 : decode b_SH_turned 4 = .ok (.bipush 32, 2) := by decide +kernel
theorem d_SH_turned_6 : decode b_SH_turned 6 = .ok (.iload_n 1, 1) := by decide +kernel
theorem d_SH_turned_7 : decode b_SH_turned 7 = .ok (.isub, 1) := by decide +kernel
theorem d_SH_turned_8 : decode b_SH_turned 8 = .ok (.ishl, 1) := by decide +kernel
theorem d_SH_turned_9 : decode b_SH_turned 9 = .ok (.ior, 1) := by decide +kernel
theorem d_SH_turned_10 : decode b_SH_turned 10 = .ok (.ireturn, 1) := by decide +kernel
theorem d_SH_spreadWords_0 : decode b_SH_spreadWords 0 = .ok (.bipush 16, 2) := by decide +kernel
theorem d_SH_spreadWords_2 : decode b_SH_spreadWords 2 = .ok (.istore_n 1, 1) := by decide +kernel
theorem d_SH_spreadWords_3 : decode b_SH_spreadWords 3 = .ok (.iload_n 1, 1) := by decide +kernel
theorem d_SH_spreadWords_4 : decode b_SH_spreadWords 4 = .ok (.bipush 64, 2) := by decide +kernel
theorem d_SH_spreadWords_6 : decode b_SH_spreadWords 6 = .ok (.if_icmp .ge 98, 3) := by decide +kernel
theorem d_SH_spreadWords_9 : decode b_SH_spreadWords 9 = .ok (.aload_n 0, 1) := by decide +kernel
theorem d_SH_spreadWords_10 : decode b_SH_spreadWords 10 = .ok (.getfield 15, 3) := by decide +kernel
theorem d_SH_spreadWords_13 : decode b_SH_spreadWords 13 = .ok (.iload_n 1, 1) := by decide +kernel
theorem d_SH_spreadWords_14 : decode b_SH_spreadWords 14 = .ok (.iconst 2, 1) := by decide +kernel
theorem d_SH_spreadWords_15 : decode b_SH_spreadWords 15 = .ok (.isub, 1) := by decide +kernel
theorem d_SH_spreadWords_16 : decode b_SH_spreadWords 16 = .ok (.iaload, 1) := by decide +kernel
theorem d_SH_spreadWords_17 : decode b_SH_spreadWords 17 = .ok (.istore_n 2, 1) := by decide +kernel
theorem d_SH_spreadWords_18 : decode b_SH_spreadWords 18 = .ok (.aload_n 0, 1) := by decide +kernel
theorem d_SH_spreadWords_19 : decode b_SH_spreadWords 19 = .ok (.getfield 15, 3) := by decide +kernel
theorem d_SH_spreadWords_22 : decode b_SH_spreadWords 22 = .ok (.iload_n 1, 1) := by decide +kernel
theorem d_SH_spreadWords_23 : decode b_SH_spreadWords 23 = .ok (.bipush 15, 2) := by decide +kernel
theorem d_SH_spreadWords_25 : decode b_SH_spreadWords 25 = .ok (.isub, 1) := by decide +kernel
theorem d_SH_spreadWords_26 : decode b_SH_spreadWords 26 = .ok (.iaload, 1) := by decide +kernel
theorem d_SH_spreadWords_27 : decode b_SH_spreadWords 27 = .ok (.istore_n 3, 1) := by decide +kernel
theorem d_SH_spreadWords_28 : decode b_SH_spreadWords 28 = .ok (.iload_n 2, 1) := by decide +kernel
theorem d_SH_spreadWords_29 : decode b_SH_spreadWords 29 = .ok (.bipush 17, 2) := by decide +kernel
theorem d_SH_spreadWords_31 : decode b_SH_spreadWords 31 = .ok (.invokestatic 43, 3) := by decide +kernel
theorem d_SH_spreadWords_34 : decode b_SH_spreadWords 34 = .ok (.iload_n 2, 1) := by decide +kernel
theorem d_SH_spreadWords_35 : decode b_SH_spreadWords 35 = .ok (.bipush 19, 2) := by decide +kernel
theorem d_SH_spreadWords_37 : decode b_SH_spreadWords 37 = .ok (.invokestatic 43, 3) := by decide +kernel
theorem d_SH_spreadWords_40 : decode b_SH_spreadWords 40 = .ok (.ixor, 1) := by decide +kernel
theorem d_SH_spreadWords_41 : decode b_SH_spreadWords 41 = .ok (.iload_n 2, 1) := by decide +kernel
theorem d_SH_spreadWords_42 : decode b_SH_spreadWords 42 = .ok (.bipush 10, 2) := by decide +kernel
theorem d_SH_spreadWords_44 : decode b_SH_spreadWords 44 = .ok (.iushr, 1) := by decide +kernel
theorem d_SH_spreadWords_45 : decode b_SH_spreadWords 45 = .ok (.ixor, 1) := by decide +kernel
theorem d_SH_spreadWords_46 : decode b_SH_spreadWords 46 = .ok (.istore 4, 2) := by decide +kernel
theorem d_SH_spreadWords_48 : decode b_SH_spreadWords 48 = .ok (.iload_n 3, 1) := by decide +kernel
theorem d_SH_spreadWords_49 : decode b_SH_spreadWords 49 = .ok (.bipush 7, 2) := by decide +kernel
theorem d_SH_spreadWords_51 : decode b_SH_spreadWords 51 = .ok (.invokestatic 43, 3) := by decide +kernel
theorem d_SH_spreadWords_54 : decode b_SH_spreadWords 54 = .ok (.iload_n 3, 1) := by decide +kernel
theorem d_SH_spreadWords_55 : decode b_SH_spreadWords 55 = .ok (.bipush 18, 2) := by decide +kernel
theorem d_SH_spreadWords_57 : decode b_SH_spreadWords 57 = .ok (.invokestatic 43, 3) := by decide +kernel
theorem d_SH_spreadWords_60 : decode b_SH_spreadWords 60 = .ok (.ixor, 1) := by decide +kernel
theorem d_SH_spreadWords_61 : decode b_SH_spreadWords 61 = .ok (.iload_n 3, 1) := by decide +kernel
theorem d_SH_spreadWords_62 : decode b_SH_spreadWords 62 = .ok (.iconst 3, 1) := by decide +kernel
theorem d_SH_spreadWords_63 : decode b_SH_spreadWords 63 = .ok (.iushr, 1) := by decide +kernel
theorem d_SH_spreadWords_64 : decode b_SH_spreadWords 64 = .ok (.ixor, 1) := by decide +kernel
theorem d_SH_spreadWords_65 : decode b_SH_spreadWords 65 = .ok (.istore 5, 2) := by decide +kernel
theorem d_SH_spreadWords_67 : decode b_SH_spreadWords 67 = .ok (.aload_n 0, 1) := by decide +kernel
theorem d_SH_spreadWords_68 : decode b_SH_spreadWords 68 = .ok (.getfield 15, 3) := by decide +kernel
theorem d_SH_spreadWords_71 : decode b_SH_spreadWords 71 = .ok (.iload_n 1, 1) := by decide +kernel
theorem d_SH_spreadWords_72 : decode b_SH_spreadWords 72 = .ok (.iload 4, 2) := by decide +kernel
theorem d_SH_spreadWords_74 : decode b_SH_spreadWords 74 = .ok (.aload_n 0, 1) := by decide +kernel
theorem d_SH_spreadWords_75 : decode b_SH_spreadWords 75 = .ok (.getfield 15, 3) := by decide +kernel
theorem d_SH_spreadWords_78 : decode b_SH_spreadWords 78 = .ok (.iload_n 1, 1) := by decide +kernel
theorem d_SH_spreadWords_79 : decode b_SH_spreadWords 79 = .ok (.bipush 7, 2) := by decide +kernel
theorem d_SH_spreadWords_81 : decode b_SH_spreadWords 81 = .ok (.isub, 1) := by decide +kernel
theorem d_SH_spreadWords_82 : decode b_SH_spreadWords 82 = .ok (.iaload, 1) := by decide +kernel
theorem d_SH_spreadWords_83 : decode b_SH_spreadWords 83 = .ok (.iadd, 1) := by decide +kernel
theorem d_SH_spreadWords_84 : decode b_SH_spreadWords 84 = .ok (.iload 5, 2) := by decide +kernel
theorem d_SH_spreadWords_86 : decode b_SH_spreadWords 86 = .ok (.iadd, 1) := by decide +kernel
theorem d_SH_spreadWords_87 : decode b_SH_spreadWords 87 = .ok (.aload_n 0, 1) := by decide +kernel
theorem d_SH_spreadWords_88 : decode b_SH_spreadWords 88 = .ok (.getfield 15, 3) := by decide +kernel
theorem d_SH_spreadWords_91 : decode b_SH_spreadWords 91 = .ok (.iload_n 1, 1) := by decide +kernel
theorem d_SH_spreadWords_92 : decode b_SH_spreadWords 92 = .ok (.bipush 16, 2) := by decide +kernel
theorem d_SH_spreadWords_94 : decode b_SH_spreadWords 94 = .ok (.isub, 1) := by decide +kernel
theorem d_SH_spreadWords_95 : decode b_SH_spreadWords 95 = .ok (.iaload, 1) := by decide +kernel
theorem d_SH_spreadWords_96 : decode b_SH_spreadWords 96 = .ok (.iadd, 1) := by decide +kernel
theorem d_SH_spreadWords_97 : decode b_SH_spreadWords 97 = .ok (.iastore, 1) := by decide +kernel
theorem d_SH_spreadWords_98 : decode b_SH_spreadWords 98 = .ok (.iinc 1 1, 3) := by decide +kernel
theorem d_SH_spreadWords_101 : decode b_SH_spreadWords 101 = .ok (.goto (-98), 3) := by decide +kernel
theorem d_SH_spreadWords_104 : decode b_SH_spreadWords 104 = .ok (.return_, 1) := by decide +kernel
theorem shinit {M : hp_M} {sh su wo : Nat} {e1 e2 e3 e4 : va_E} (h1 : sh ≠ su) (h2 : sh ≠ wo) : hp_up (hp_up (hp_up (hp_up M su e1) sh e2) wo e3) sh e4 = hp_up (hp_up (hp_up M su e1) wo e3) sh e4 := by
  rw [hp_uc h2, hp_uu]
set_option maxHeartbeats 4000000 in
set_option maxRecDepth 100000 in
/-- Sha() -/
theorem c_SH_init (l : Launch) (D : va_G) (ct : Nat → ClassId) (Z : hp_Z) (hZ : hp_Zok Z) (M : hp_M) (sz : Nat) (sh : Nat) (f_sh : M sh = some (.inr (2, [.null, .null, .int (nI 0), .long 0]))) : Mv l y_SH_init b_SH_init 1 none 1 12 2 72 [.ref sh] D ct Z M sz (fun M1 => ∃ su wo, M su = none ∧ M wo = none ∧ su ≠ wo ∧ M1 = shM ct M sh su wo (nf (fun _ => 0), nf (fun _ => 0), 0, 0)) := by
  refine hp_start (by decide) (Nat.le_of_ble_eq_true rfl) (fun p e s m below meth c ls S hret hlk hnm hsz hK hM hS hA hz hl => ?_)
  have hx := S.1
  have hb := S.2.1
  have hl : lv_has ls 1 [(0, .ref sh)] := hl
  refine lv_aload_n hx hb d_SH_init_0 rfl (lv_at hl 0 rfl) ?_
  refine W.objInit hx hb S.2.2.2.1 (S.2.2.2.2 _ ml_SH_3) (S.2.2.2.2 _ mi_OB_init) (S.2.2.2.2 _ mc_OB_init) rfl (by rw [S.2.2.1]; exact hl.1) rfl d_SH_init_1 (by decide) (Nat.le_of_ble_eq_true rfl) ?_
  refine W.eq (g2 := F0 m 4 ls []) rfl ?_
  refine lv_aload_n hx hb d_SH_init_4 rfl (lv_at hl 0 rfl) ?_
  refine lv_bipush (v := nI 8) hx hb d_SH_init_5 rfl ?_
  refine hp_newi S hK hM hS hA (atype := .int) rfl ma_int 1 rfl rfl (by decide) 8 rfl (by omega) (by decide) (by decide) d_SH_init_7 (fun q7 H hq_q7 hM hS => ?_)
  refine W.widen (k := 1) (n := 8) (by omega) (by omega) ?_
  rw [nf_0] at hM
  have ne_sh_q7 : sh ≠ q7 := hp_nn f_sh hq_q7
  have f_sh := hp_k (e := (.inl (ct 1, 8, .inl (nf (fun _ => 0))))) ne_sh_q7 f_sh
  have f_q7 : hp_up M q7 (.inl (ct 1, 8, .inl (nf (fun _ => 0)))) q7 = some (.inl (ct 1, 8, .inl (nf (fun _ => 0)))) := hp_us
  obtain ⟨M1, eM1⟩ : ∃ z, z = hp_up M q7 (.inl (ct 1, 8, .inl (nf (fun _ => 0)))) := ⟨_, rfl⟩
  rw [← eM1] at hM f_sh f_q7
  refine hp_putF (ty := (.array .int)) (fs' := [.ref q7, .null, .int (nI 0), .long 0]) S hK hM hS i_SH t_SH to_SH n_SH f_sh rfl 0 (by decide) mf_SH_9 (fun _ h9 => h9) rfl hnm rfl (by decide +kernel) rfl rfl (by simp) rfl d_SH_init_9 (fun H locs hM hS => ?_)
  have f_q7 := hp_k (e := (.inr (2, [.ref q7, .null, .int (nI 0), .long 0]))) (Ne.symm ne_sh_q7) f_q7
  have f_sh : hp_up M1 sh (.inr (2, [.ref q7, .null, .int (nI 0), .long 0])) sh = some (.inr (2, [.ref q7, .null, .int (nI 0), .long 0])) := hp_us
  obtain ⟨M2, eM2⟩ : ∃ z, z = hp_up M1 sh (.inr (2, [.ref q7, .null, .int (nI 0), .long 0])) := ⟨_, rfl⟩
  rw [← eM2] at hM f_sh f_q7
  refine lv_aload_n hx hb d_SH_init_12 rfl (lv_at hl 0 rfl) ?_
  refine lv_bipush (v := nI 64) hx hb d_SH_init_13 rfl ?_
  refine hp_newi S hK hM hS hA (atype := .int) rfl ma_int 1 rfl rfl (by decide) 64 rfl (by omega) (by decide) (by decide) d_SH_init_15 (fun q15 H hq_q15 hM hS => ?_)
  refine W.widen (k := 2) (n := 72) (by omega) (by omega) ?_
  rw [nf_0] at hM
  have ne_sh_q15 : sh ≠ q15 := hp_nn f_sh hq_q15
  have f_sh := hp_k (e := (.inl (ct 1, 64, .inl (nf (fun _ => 0))))) ne_sh_q15 f_sh
  have ne_q7_q15 : q7 ≠ q15 := hp_nn f_q7 hq_q15
  have f_q7 := hp_k (e := (.inl (ct 1, 64, .inl (nf (fun _ => 0))))) ne_q7_q15 f_q7
  have f_q15 : hp_up M2 q15 (.inl (ct 1, 64, .inl (nf (fun _ => 0)))) q15 = some (.inl (ct 1, 64, .inl (nf (fun _ => 0)))) := hp_us
  obtain ⟨M3, eM3⟩ : ∃ z, z = hp_up M2 q15 (.inl (ct 1, 64, .inl (nf (fun _ => 0)))) := ⟨_, rfl⟩
  rw [← eM3] at hM f_sh f_q7 f_q15
  refine hp_putF (ty := (.array .int)) (fs' := [.ref q7, .ref q15, .int (nI 0), .long 0]) S hK hM hS i_SH t_SH to_SH n_SH f_sh rfl 1 (by decide) mf_SH_15 (fun _ h9 => h9) rfl hnm rfl (by decide +kernel) rfl rfl (by simp) rfl d_SH_init_17 (fun H locs hM hS => ?_)
  have f_q7 := hp_k (e := (.inr (2, [.ref q7, .ref q15, .int (nI 0), .long 0]))) (Ne.symm ne_sh_q7) f_q7
  have f_q15 := hp_k (e := (.inr (2, [.ref q7, .ref q15, .int (nI 0), .long 0]))) (Ne.symm ne_sh_q15) f_q15
  have f_sh : hp_up M3 sh (.inr (2, [.ref q7, .ref q15, .int (nI 0), .long 0])) sh = some (.inr (2, [.ref q7, .ref q15, .int (nI 0), .long 0])) := hp_us
  obtain ⟨M4, eM4⟩ : ∃ z, z = hp_up M3 sh (.inr (2, [.ref q7, .ref q15, .int (nI 0), .long 0])) := ⟨_, rfl⟩
  rw [← eM4] at hM f_sh f_q7 f_q15
  refine lv_aload_n hx hb d_SH_init_20 rfl (lv_at hl 0 rfl) ?_
  refine lv_iconst (v := nI 0) hx hb d_SH_init_21 rfl ?_
  refine hp_put (ty := .int) (fs' := [.ref q7, .ref q15, .int (nI 0), .long 0]) S hK hM hS i_SH t_SH to_SH n_SH f_sh rfl 2 (by decide) mf_SH_18 (fun _ h9 => h9) rfl (by decide +kernel) rfl rfl (by simp) rfl d_SH_init_22 (fun H locs hM hS => ?_)
  have f_q7 := hp_k (e := (.inr (2, [.ref q7, .ref q15, .int (nI 0), .long 0]))) (Ne.symm ne_sh_q7) f_q7
  have f_q15 := hp_k (e := (.inr (2, [.ref q7, .ref q15, .int (nI 0), .long 0]))) (Ne.symm ne_sh_q15) f_q15
  have f_sh : hp_up M4 sh (.inr (2, [.ref q7, .ref q15, .int (nI 0), .long 0])) sh = some (.inr (2, [.ref q7, .ref q15, .int (nI 0), .long 0])) := hp_us
  obtain ⟨M5, eM5⟩ : ∃ z, z = hp_up M4 sh (.inr (2, [.ref q7, .ref q15, .int (nI 0), .long 0])) := ⟨_, rfl⟩
  rw [← eM5] at hM f_sh f_q7 f_q15
  refine lv_aload_n hx hb d_SH_init_25 rfl (lv_at hl 0 rfl) ?_
  refine lv_lconst (v := 0) hx hb d_SH_init_26 (by decide) ?_
  refine hp_put (ty := .long) (fs' := [.ref q7, .ref q15, .int (nI 0), .long 0]) S hK hM hS i_SH t_SH to_SH n_SH f_sh rfl 3 (by decide) mf_SH_22 (fun _ h9 => h9) rfl (by decide +kernel) rfl rfl (by simp) rfl d_SH_init_27 (fun H locs hM hS => ?_)
  have f_q7 := hp_k (e := (.inr (2, [.ref q7, .ref q15, .int (nI 0), .long 0]))) (Ne.symm ne_sh_q7) f_q7
  have f_q15 := hp_k (e := (.inr (2, [.ref q7, .ref q15, .int (nI 0), .long 0]))) (Ne.symm ne_sh_q15) f_q15
  have f_sh : hp_up M5 sh (.inr (2, [.ref q7, .ref q15, .int (nI 0), .long 0])) sh = some (.inr (2, [.ref q7, .ref q15, .int (nI 0), .long 0])) := hp_us
  obtain ⟨M6, eM6⟩ : ∃ z, z = hp_up M5 sh (.inr (2, [.ref q7, .ref q15, .int (nI 0), .long 0])) := ⟨_, rfl⟩
  rw [← eM6] at hM f_sh f_q7 f_q15
  have hq9 : M q15 = none := by rw [eM2, eM1, hp_un (Ne.symm ne_sh_q15), hp_un (Ne.symm ne_q7_q15)] at hq_q15; exact hq_q15
  exact hp_vret S hret hlk hM hS ⟨q7, q15, hq_q7, hq9, ne_q7_q15, by rw [eM6, eM5, eM4, eM3, eM2, eM1, hp_uu, hp_uu]; exact shinit ne_sh_q7 ne_sh_q15⟩ d_SH_init_30
set_option maxHeartbeats 4000000 in
set_option maxRecDepth 100000 in
/-- turned right -/
theorem c_SH_turned (l : Launch) (D : va_G) (ct : Nat → ClassId) (Z : hp_Z) (hZ : hp_Zok Z) (M : hp_M) (sz : Nat) (x : Int32) (b : Nat) (hb32 : b ≤ 32) : Mi l y_SH_turned b_SH_turned 2 (some .int) 0 0 0 0 [.int x, .int (nI b)] D ct Z M sz (fun r M1 => M1 = M ∧ r = tr x b) := by
  refine hp_start (by decide) (Nat.le_of_ble_eq_true rfl) (fun p e s m below meth c ls S hret hlk hnm hsz hK hM hS hA hz hl => ?_)
  have hx := S.1
  have hb := S.2.1
  have hl : lv_has ls 2 [(0, .int x), (1, .int (nI b))] := hl
  refine lv_iload_n hx hb d_SH_turned_0 rfl (lv_at hl 0 rfl) ?_
  refine lv_iload_n hx hb d_SH_turned_1 rfl (lv_at hl 1 rfl) ?_
  refine lv_iushr hx hb d_SH_turned_2 rfl ?_
  refine lv_iload_n hx hb d_SH_turned_3 rfl (lv_at hl 0 rfl) ?_
  refine lv_bipush (v := nI 32) hx hb d_SH_turned_4 rfl ?_
  refine lv_iload_n hx hb d_SH_turned_6 rfl (lv_at hl 1 rfl) ?_
  refine nb_isub hx hb d_SH_turned_7 (by omega) ?_
  refine lv_ishl hx hb d_SH_turned_8 ?_
  refine lv_ior hx hb d_SH_turned_9 ?_
  exact hp_iret S hret hlk (rfl) hM hS (⟨rfl, rfl⟩) d_SH_turned_10
set_option maxHeartbeats 4000000 in
set_option maxRecDepth 100000 in
/-- the words 16 .. 63 -/
theorem c_SH_spreadWords (l : Launch) (D : va_G) (ct : Nat → ClassId) (Z : hp_Z) (hZ : hp_Zok Z) (M : hp_M) (sz : Nat) (sh su wo : Nat) (Y : ShT) (hsh : shOk ct M sh su wo Y) : Mv l y_SH_spreadWords b_SH_spreadWords 6 none 1 21 0 0 [.ref sh] D ct Z M sz (fun M1 => M1 = shM ct M sh su wo (Y.1, spw Y.2.1 48, Y.2.2.1, Y.2.2.2)) := by
  refine hp_start (by decide) (Nat.le_of_ble_eq_true rfl) (fun p e s m below meth c ls S hret hlk hnm hsz hK hM hS hA hz hl => ?_)
  have hx := S.1
  have hb := S.2.1
  have hl : lv_has ls 6 [(0, .ref sh)] := hl
  obtain ⟨f_su, f_wo, f_sh, hfl⟩ := id hsh
  have f0_wo := f_wo
  refine lv_bipush (v := nI 16) hx hb d_SH_spreadWords_0 rfl ?_
  refine lv_istore_n (lv' := [(1, .int (nI 16)), (0, .ref sh)]) hx hb d_SH_spreadWords_2 rfl hl (by decide) rfl (fun ls hl => ?_)
  replace hl : lv_has ls 6 [(0, .ref sh), (1, .int (nI 16))] := lv_sub hl [1, 0] rfl
  obtain ⟨j, e9j⟩ : ∃ z : Nat, z = 16 := ⟨_, rfl⟩
  obtain ⟨wv, e9wv⟩ : ∃ z : Nat → Int32, z = Y.2.1 := ⟨_, rfl⟩
  replace hl : lv_has ls 6 [(0, .ref sh), (1, .int (nI j))] := by subst e9j e9wv; exact hl
  obtain ⟨H, e9H⟩ : ∃ z : Heap, z = s.heap := ⟨_, rfl⟩
  replace hM : hp_H D ccl (hp_A M sz) M H := by rw [e9H]; exact hM
  replace hS : va_S (hp_A M sz) s.heap H [] := by rw [e9H]; exact hS
  rw [← e9H]
  clear e9H
  obtain ⟨locs, e9L⟩ : ∃ z : List Loc, z = [] := ⟨_, rfl⟩
  replace hS : va_S (hp_A M sz) s.heap H locs := by rw [e9L]; exact hS
  rw [← e9L]
  clear e9L
  obtain ⟨N1, e9N1⟩ : ∃ z : hp_M, z = M := ⟨_, rfl⟩
  replace hM : hp_H D ccl (hp_A M sz) N1 H := by rw [e9N1]; exact hM
  replace f_su : N1 su = some (.inl (ct 1, 8, .inl (Y.1))) := by rw [e9N1]; exact f_su
  replace f_wo : N1 wo = some (.inl (ct 1, 64, .inl (Y.2.1))) := by rw [e9N1]; exact f_wo
  replace f_sh : N1 sh = some (.inr (2, [.ref su, .ref wo, .int (nI Y.2.2.1), .long Y.2.2.2])) := by rw [e9N1]; exact f_sh
  replace f_wo : N1 wo = some (.inl (ct 1, 64, .inl wv)) := by subst e9j e9wv; exact f_wo
  have h16 : 16 ≤ j := by subst e9j e9wv; decide
  have hwv : wv = spw Y.2.1 (j - 16) := by subst e9j e9wv; rfl
  have hN : N1 = hp_up M wo (.inl (ct 1, 64, .inl wv)) := by subst e9j e9wv; rw [hp_same f0_wo]; exact e9N1
  obtain ⟨fu, hn⟩ : ∃ fu : Nat, j + fu = 64 := ⟨64 - j, by omega⟩
  clear e9j e9wv e9N1
  induction fu generalizing j wv H locs N1 ls with
  | zero =>
    have hn : j = 64 := by omega
    refine lv_iload_n hx hb d_SH_spreadWords_3 rfl (lv_at hl 1 rfl) ?_
    refine lv_bipush (v := nI 64) hx hb d_SH_spreadWords_4 rfl ?_
    refine nb_ge (tgt := 104) hx hb d_SH_spreadWords_6 (by decide) (by omega) (by omega) (fun h2 => ?_) (fun h2 => ?_)
    · exact hp_vret S hret hlk hM hS (by rw [hN, hwv, show j - 16 = 48 by omega]; exact shM_wo hsh _) d_SH_spreadWords_104
    · exact absurd hn (by omega)
  | succ fu ih =>
    refine lv_iload_n hx hb d_SH_spreadWords_3 rfl (lv_at hl 1 rfl) ?_
    refine lv_bipush (v := nI 64) hx hb d_SH_spreadWords_4 rfl ?_
    refine nb_ge (tgt := 104) hx hb d_SH_spreadWords_6 (by decide) (by omega) (by omega) (fun h3 => ?_) (fun h3 => ?_)
    · exact absurd hn (by omega)
    · refine lv_aload_n hx hb d_SH_spreadWords_9 rfl (lv_at hl 0 rfl) ?_
      refine hp_get S hK hM i_SH f_sh rfl 1 (by decide) mf_SH_15 (fun _ h9 => h9) rfl d_SH_spreadWords_10 ?_
      refine lv_iload_n hx hb d_SH_spreadWords_13 rfl (lv_at hl 1 rfl) ?_
      refine lv_iconst (v := nI 2) hx hb d_SH_spreadWords_14 rfl ?_
      refine nb_isub hx hb d_SH_spreadWords_15 (by omega) ?_
      refine hp_iald S hK hM 1 f_wo rfl (j - 2) rfl (by omega) (by omega) d_SH_spreadWords_16 ?_
      refine lv_istore_n (lv' := [(2, .int (wv (j - 2))), (0, .ref sh), (1, .int (nI j))]) hx hb d_SH_spreadWords_17 rfl hl (by decide) rfl (fun ls hl => ?_)
      refine lv_aload_n hx hb d_SH_spreadWords_18 rfl (lv_at hl 1 rfl) ?_
      refine hp_get S hK hM i_SH f_sh rfl 1 (by decide) mf_SH_15 (fun _ h9 => h9) rfl d_SH_spreadWords_19 ?_
      refine lv_iload_n hx hb d_SH_spreadWords_22 rfl (lv_at hl 2 rfl) ?_
      refine lv_bipush (v := nI 15) hx hb d_SH_spreadWords_23 rfl ?_
      refine nb_isub hx hb d_SH_spreadWords_25 (by omega) ?_
      refine hp_iald S hK hM 1 f_wo rfl (j - 15) rfl (by omega) (by omega) d_SH_spreadWords_26 ?_
      refine lv_istore_n (lv' := [(3, .int (wv (j - 15))), (2, .int (wv (j - 2))), (0, .ref sh), (1, .int (nI j))]) hx hb d_SH_spreadWords_27 rfl hl (by decide) rfl (fun ls hl => ?_)
      refine lv_iload_n hx hb d_SH_spreadWords_28 rfl (lv_at hl 1 rfl) ?_
      refine lv_bipush (v := nI 17) hx hb d_SH_spreadWords_29 rfl ?_
      refine hp_calli (go_S S hZ hK hM hS hA hz (c_SH_turned l D ct Z hZ _ _ (wv (j - 2)) 17 (by decide)) mc_SH_turned mz_SH ml_SH_43 ms_SH_turned hd_SH_turned rfl ⟨by decide, by decide⟩ hl.1 rfl (Nat.le_of_ble_eq_true rfl) d_SH_spreadWords_31 ⟨by decide, by decide⟩) hM hS hA (fun r4 N5 H locs hr4 hM hS => ?_)
      rw [hr4.1] at hM
      replace hr4 := hr4.2
      subst hr4
      refine lv_iload_n hx hb d_SH_spreadWords_34 rfl (lv_at hl 1 rfl) ?_
      refine lv_bipush (v := nI 19) hx hb d_SH_spreadWords_35 rfl ?_
      refine hp_calli (go_S S hZ hK hM hS hA hz (c_SH_turned l D ct Z hZ _ _ (wv (j - 2)) 19 (by decide)) mc_SH_turned mz_SH ml_SH_43 ms_SH_turned hd_SH_turned rfl ⟨by decide, by decide⟩ hl.1 rfl (Nat.le_of_ble_eq_true rfl) d_SH_spreadWords_37 ⟨by decide, by decide⟩) hM hS hA (fun r6 N7 H locs hr6 hM hS => ?_)
      rw [hr6.1] at hM
      replace hr6 := hr6.2
      subst hr6
      refine lv_ixor hx hb d_SH_spreadWords_40 ?_
      refine lv_iload_n hx hb d_SH_spreadWords_41 rfl (lv_at hl 1 rfl) ?_
      refine lv_bipush (v := nI 10) hx hb d_SH_spreadWords_42 rfl ?_
      refine lv_iushr hx hb d_SH_spreadWords_44 rfl ?_
      refine lv_ixor hx hb d_SH_spreadWords_45 ?_
      refine lv_istore (lv' := [(4, .int (((tr (wv (j - 2)) 17) ^^^ (tr (wv (j - 2)) 19)) ^^^ ((Int32.toUInt32 (wv (j - 2)) >>> (Int32.toUInt32 (nI 10) &&& Int32.toUInt32 31)).toInt32))), (3, .int (wv (j - 15))), (2, .int (wv (j - 2))), (0, .ref sh), (1, .int (nI j))]) hx hb d_SH_spreadWords_46 hl (by decide) rfl (fun ls hl => ?_)
      refine lv_iload_n hx hb d_SH_spreadWords_48 rfl (lv_at hl 1 rfl) ?_
      refine lv_bipush (v := nI 7) hx hb d_SH_spreadWords_49 rfl ?_
      refine hp_calli (go_S S hZ hK hM hS hA hz (c_SH_turned l D ct Z hZ _ _ (wv (j - 15)) 7 (by decide)) mc_SH_turned mz_SH ml_SH_43 ms_SH_turned hd_SH_turned rfl ⟨by decide, by decide⟩ hl.1 rfl (Nat.le_of_ble_eq_true rfl) d_SH_spreadWords_51 ⟨by decide, by decide⟩) hM hS hA (fun r8 N9 H locs hr8 hM hS => ?_)
      rw [hr8.1] at hM
      replace hr8 := hr8.2
      subst hr8
      refine lv_iload_n hx hb d_SH_spreadWords_54 rfl (lv_at hl 1 rfl) ?_
      refine lv_bipush (v := nI 18) hx hb d_SH_spreadWords_55 rfl ?_
      refine hp_calli (go_S S hZ hK hM hS hA hz (c_SH_turned l D ct Z hZ _ _ (wv (j - 15)) 18 (by decide)) mc_SH_turned mz_SH ml_SH_43 ms_SH_turned hd_SH_turned rfl ⟨by decide, by decide⟩ hl.1 rfl (Nat.le_of_ble_eq_true rfl) d_SH_spreadWords_57 ⟨by decide, by decide⟩) hM hS hA (fun r10 N11 H locs hr10 hM hS => ?_)
      rw [hr10.1] at hM
      replace hr10 := hr10.2
      subst hr10
      refine lv_ixor hx hb d_SH_spreadWords_60 ?_
      refine lv_iload_n hx hb d_SH_spreadWords_61 rfl (lv_at hl 1 rfl) ?_
      refine lv_iconst (v := nI 3) hx hb d_SH_spreadWords_62 rfl ?_
      refine lv_iushr hx hb d_SH_spreadWords_63 rfl ?_
      refine lv_ixor hx hb d_SH_spreadWords_64 ?_
      refine lv_istore (lv' := [(5, .int (((tr (wv (j - 15)) 7) ^^^ (tr (wv (j - 15)) 18)) ^^^ ((Int32.toUInt32 (wv (j - 15)) >>> (Int32.toUInt32 (nI 3) &&& Int32.toUInt32 31)).toInt32))), (4, .int (((tr (wv (j - 2)) 17) ^^^ (tr (wv (j - 2)) 19)) ^^^ ((Int32.toUInt32 (wv (j - 2)) >>> (Int32.toUInt32 (nI 10) &&& Int32.toUInt32 31)).toInt32))), (3, .int (wv (j - 15))), (2, .int (wv (j - 2))), (0, .ref sh), (1, .int (nI j))]) hx hb d_SH_spreadWords_65 hl (by decide) rfl (fun ls hl => ?_)
      refine lv_aload_n hx hb d_SH_spreadWords_67 rfl (lv_at hl 4 rfl) ?_
      refine hp_get S hK hM i_SH f_sh rfl 1 (by decide) mf_SH_15 (fun _ h9 => h9) rfl d_SH_spreadWords_68 ?_
      refine lv_iload_n hx hb d_SH_spreadWords_71 rfl (lv_at hl 5 rfl) ?_
      refine lv_iload hx hb d_SH_spreadWords_72 (lv_at hl 1 rfl) ?_
      refine lv_aload_n hx hb d_SH_spreadWords_74 rfl (lv_at hl 4 rfl) ?_
      refine hp_get S hK hM i_SH f_sh rfl 1 (by decide) mf_SH_15 (fun _ h9 => h9) rfl d_SH_spreadWords_75 ?_
      refine lv_iload_n hx hb d_SH_spreadWords_78 rfl (lv_at hl 5 rfl) ?_
      refine lv_bipush (v := nI 7) hx hb d_SH_spreadWords_79 rfl ?_
      refine nb_isub hx hb d_SH_spreadWords_81 (by omega) ?_
      refine hp_iald S hK hM 1 f_wo rfl (j - 7) rfl (by omega) (by omega) d_SH_spreadWords_82 ?_
      refine lv_iadd hx hb d_SH_spreadWords_83 ?_
      refine lv_iload hx hb d_SH_spreadWords_84 (lv_at hl 0 rfl) ?_
      refine lv_iadd hx hb d_SH_spreadWords_86 ?_
      refine lv_aload_n hx hb d_SH_spreadWords_87 rfl (lv_at hl 4 rfl) ?_
      refine hp_get S hK hM i_SH f_sh rfl 1 (by decide) mf_SH_15 (fun _ h9 => h9) rfl d_SH_spreadWords_88 ?_
      refine lv_iload_n hx hb d_SH_spreadWords_91 rfl (lv_at hl 5 rfl) ?_
      refine lv_bipush (v := nI 16) hx hb d_SH_spreadWords_92 rfl ?_
      refine nb_isub hx hb d_SH_spreadWords_94 (by omega) ?_
      refine hp_iald S hK hM 1 f_wo rfl (j - 16) rfl (by omega) (by omega) d_SH_spreadWords_95 ?_
      refine lv_iadd hx hb d_SH_spreadWords_96 ?_
      refine hp_iast S hK hM hS 1 f_wo rfl j rfl (by omega) (by omega) d_SH_spreadWords_97 (fun H locs hM hS => ?_)
      have f_su := hp_k (e := (.inl (ct 1, 64, .inl (upd wv j ((((((tr (wv (j - 2)) 17) ^^^ (tr (wv (j - 2)) 19)) ^^^ ((Int32.toUInt32 (wv (j - 2)) >>> (Int32.toUInt32 (nI 10) &&& Int32.toUInt32 31)).toInt32)) + (wv (j - 7))) + (((tr (wv (j - 15)) 7) ^^^ (tr (wv (j - 15)) 18)) ^^^ ((Int32.toUInt32 (wv (j - 15)) >>> (Int32.toUInt32 (nI 3) &&& Int32.toUInt32 31)).toInt32))) + (wv (j - 16))))))) (hp_ne f_su f_wo (by simp)) f_su
      have f_sh := hp_k (e := (.inl (ct 1, 64, .inl (upd wv j ((((((tr (wv (j - 2)) 17) ^^^ (tr (wv (j - 2)) 19)) ^^^ ((Int32.toUInt32 (wv (j - 2)) >>> (Int32.toUInt32 (nI 10) &&& Int32.toUInt32 31)).toInt32)) + (wv (j - 7))) + (((tr (wv (j - 15)) 7) ^^^ (tr (wv (j - 15)) 18)) ^^^ ((Int32.toUInt32 (wv (j - 15)) >>> (Int32.toUInt32 (nI 3) &&& Int32.toUInt32 31)).toInt32))) + (wv (j - 16))))))) (hp_ne f_sh f_wo (by simp)) f_sh
      have f_wo : hp_up N1 wo (.inl (ct 1, 64, .inl (upd wv j ((((((tr (wv (j - 2)) 17) ^^^ (tr (wv (j - 2)) 19)) ^^^ ((Int32.toUInt32 (wv (j - 2)) >>> (Int32.toUInt32 (nI 10) &&& Int32.toUInt32 31)).toInt32)) + (wv (j - 7))) + (((tr (wv (j - 15)) 7) ^^^ (tr (wv (j - 15)) 18)) ^^^ ((Int32.toUInt32 (wv (j - 15)) >>> (Int32.toUInt32 (nI 3) &&& Int32.toUInt32 31)).toInt32))) + (wv (j - 16)))))) wo = some (.inl (ct 1, 64, .inl (upd wv j ((((((tr (wv (j - 2)) 17) ^^^ (tr (wv (j - 2)) 19)) ^^^ ((Int32.toUInt32 (wv (j - 2)) >>> (Int32.toUInt32 (nI 10) &&& Int32.toUInt32 31)).toInt32)) + (wv (j - 7))) + (((tr (wv (j - 15)) 7) ^^^ (tr (wv (j - 15)) 18)) ^^^ ((Int32.toUInt32 (wv (j - 15)) >>> (Int32.toUInt32 (nI 3) &&& Int32.toUInt32 31)).toInt32))) + (wv (j - 16)))))) := hp_us
      obtain ⟨M12, eM12⟩ : ∃ z, z = hp_up N1 wo (.inl (ct 1, 64, .inl (upd wv j ((((((tr (wv (j - 2)) 17) ^^^ (tr (wv (j - 2)) 19)) ^^^ ((Int32.toUInt32 (wv (j - 2)) >>> (Int32.toUInt32 (nI 10) &&& Int32.toUInt32 31)).toInt32)) + (wv (j - 7))) + (((tr (wv (j - 15)) 7) ^^^ (tr (wv (j - 15)) 18)) ^^^ ((Int32.toUInt32 (wv (j - 15)) >>> (Int32.toUInt32 (nI 3) &&& Int32.toUInt32 31)).toInt32))) + (wv (j - 16)))))) := ⟨_, rfl⟩
      rw [← eM12] at hM f_su f_wo f_sh
      refine lv_iinc (v := nI (j + 1)) (lv' := [(1, .int (nI (j + 1))), (5, .int (((tr (wv (j - 15)) 7) ^^^ (tr (wv (j - 15)) 18)) ^^^ ((Int32.toUInt32 (wv (j - 15)) >>> (Int32.toUInt32 (nI 3) &&& Int32.toUInt32 31)).toInt32))), (4, .int (((tr (wv (j - 2)) 17) ^^^ (tr (wv (j - 2)) 19)) ^^^ ((Int32.toUInt32 (wv (j - 2)) >>> (Int32.toUInt32 (nI 10) &&& Int32.toUInt32 31)).toInt32))), (3, .int (wv (j - 15))), (2, .int (wv (j - 2))), (0, .ref sh)]) hx hb d_SH_spreadWords_98 hl (k := 5) rfl (nI_add j 1) (by decide) rfl (fun ls hl => ?_)
      refine lv_goto (tgt := 3) hx hb d_SH_spreadWords_101 (by decide) ?_
      exact ih (ls := ls) (hl := lv_sub hl [5, 0] rfl) (j := j + 1) (hn := by omega) (wv := spj wv j) (h16 := by omega) (hwv := by rw [hwv, show j + 1 - 16 = (j - 16) + 1 by omega]; show spj _ _ = spj _ _; rw [show 16 + (j - 16) = j by omega]) (hN := by rw [eM12, hN, hp_uu]; rfl) (H := H) (locs := locs) (hM := hM) (hS := hS) (N1 := M12) (f_su := f_su) (f_wo := f_wo) (f_sh := f_sh)
end
section
theorem d_SH_mixBlock_0 : decode b_SH_mixBlock 0 = .ok (.aload_n 0, 1) := by decide +kernel
theorem d_SH_mixBlock_1 : decode b_SH_mixBlock 1 = .ok (.getfield 9, 3) := by decide +kernel
theorem d_SH_mixBlock_4 : decode b_SH_mixBlock 4 = .ok (.iconst 0, 1) := by decide +kernel
theorem d_SH_mixBlock_5 : decode b_SH_mixBlock 5 = .ok (.iaload, 1) := by decide +kernel
theorem d_SH_mixBlock_6 : decode b_SH_mixBlock 6 = .ok (.istore_n 1, 1) := by decide +kernel
theorem d_SH_mixBlock_7 : decode b_SH_mixBlock 7 = .ok (.aload_n 0, 1) := by decide +kernel
theorem d_SH_mixBlock_8 : decode b_SH_mixBlock 8 = .ok (.getfield 9, 3) := by decide +kernel
theorem d_SH_mixBlock_11 : decode b_SH_mixBlock 11 = .ok (.iconst 1, 1) := by decide +kernel
theorem d_SH_mixBlock_12 : decode b_SH_mixBlock 12 = .ok (.iaload, 1) := by decide +kernel
theorem d_SH_mixBlock_13 : decode b_SH_mixBlock 13 = .ok (.istore_n 2, 1) := by decide +kernel
theorem d_SH_mixBlock_14 : decode b_SH_mixBlock 14 = .ok (.aload_n 0, 1) := by decide +kernel
theorem d_SH_mixBlock_15 : decode b_SH_mixBlock 15 = .ok (.getfield 9, 3) := by decide +kernel
theorem d_SH_mixBlock_18 : decode b_SH_mixBlock 18 = .ok (.iconst 2, 1) := by decide +kernel
theorem d_SH_mixBlock_19 : decode b_SH_mixBlock 19 = .ok (.iaload, 1) := by decide +kernel
theorem d_SH_mixBlock_20 : decode b_SH_mixBlock 20 = .ok (.istore_n 3, 1) := by decide +kernel
theorem d_SH_mixBlock_21 : decode b_SH_mixBlock 21 = .ok (.aload_n 0, 1) := by decide +kernel
theorem d_SH_mixBlock_22 : decode b_SH_mixBlock 22 = .ok (.getfield 9, 3) := by decide +kernel
theorem d_SH_mixBlock_25 : decode b_SH_mixBlock 25 = .ok (.iconst 3, 1) := by decide +kernel
theorem d_SH_mixBlock_26 : decode b_SH_mixBlock 26 = .ok (.iaload, 1) := by decide +kernel
theorem d_SH_mixBlock_27 : decode b_SH_mixBlock 27 = .ok (.istore 4, 2) := by decide +kernel
theorem d_SH_mixBlock_29 : decode b_SH_mixBlock 29 = .ok (.aload_n 0, 1) := by decide +kernel
theorem d_SH_mixBlock_30 : decode b_SH_mixBlock 30 = .ok (.getfield 9, 3) := by decide +kernel
theorem d_SH_mixBlock_33 : decode b_SH_mixBlock 33 = .ok (.iconst 4, 1) := by decide +kernel
theorem d_SH_mixBlock_34 : decode b_SH_mixBlock 34 = .ok (.iaload, 1) := by decide +kernel
theorem d_SH_mixBlock_35 : decode b_SH_mixBlock 35 = .ok (.istore 5, 2) := by decide +kernel
theorem d_SH_mixBlock_37 : decode b_SH_mixBlock 37 = .ok (.aload_n 0, 1) := by decide +kernel
theorem d_SH_mixBlock_38 : decode b_SH_mixBlock 38 = .ok (.getfield 9, 3) := by decide +kernel
theorem d_SH_mixBlock_41 : decode b_SH_mixBlock 41 = .ok (.iconst 5, 1) := by decide +kernel
theorem d_SH_mixBlock_42 : decode b_SH_mixBlock 42 = .ok (.iaload, 1) := by decide +kernel
theorem d_SH_mixBlock_43 : decode b_SH_mixBlock 43 = .ok (.istore 6, 2) := by decide +kernel
theorem d_SH_mixBlock_45 : decode b_SH_mixBlock 45 = .ok (.aload_n 0, 1) := by decide +kernel
theorem d_SH_mixBlock_46 : decode b_SH_mixBlock 46 = .ok (.getfield 9, 3) := by decide +kernel
theorem d_SH_mixBlock_49 : decode b_SH_mixBlock 49 = .ok (.bipush 6, 2) := by decide +kernel
theorem d_SH_mixBlock_51 : decode b_SH_mixBlock 51 = .ok (.iaload, 1) := by decide +kernel
theorem d_SH_mixBlock_52 : decode b_SH_mixBlock 52 = .ok (.istore 7, 2) := by decide +kernel
theorem d_SH_mixBlock_54 : decode b_SH_mixBlock 54 = .ok (.aload_n 0, 1) := by decide +kernel
theorem d_SH_mixBlock_55 : decode b_SH_mixBlock 55 = .ok (.getfield 9, 3) := by decide +kernel
theorem d_SH_mixBlock_58 : decode b_SH_mixBlock 58 = .ok (.bipush 7, 2) := by decide +kernel
theorem d_SH_mixBlock_60 : decode b_SH_mixBlock 60 = .ok (.iaload, 1) := by decide +kernel
theorem d_SH_mixBlock_61 : decode b_SH_mixBlock 61 = .ok (.istore 8, 2) := by decide +kernel
theorem d_SH_mixBlock_63 : decode b_SH_mixBlock 63 = .ok (.iconst 0, 1) := by decide +kernel
theorem d_SH_mixBlock_64 : decode b_SH_mixBlock 64 = .ok (.istore 9, 2) := by decide +kernel
theorem d_SH_mixBlock_66 : decode b_SH_mixBlock 66 = .ok (.iload 9, 2) := by decide +kernel
theorem d_SH_mixBlock_68 : decode b_SH_mixBlock 68 = .ok (.bipush 64, 2) := by decide +kernel
theorem d_SH_mixBlock_70 : decode b_SH_mixBlock 70 = .ok (.if_icmp .ge 139, 3) := by decide +kernel
theorem d_SH_mixBlock_73 : decode b_SH_mixBlock 73 = .ok (.iload 5, 2) := by decide +kernel
theorem d_SH_mixBlock_75 : decode b_SH_mixBlock 75 = .ok (.bipush 6, 2) := by decide +kernel
theorem d_SH_mixBlock_77 : decode b_SH_mixBlock 77 = .ok (.invokestatic 43, 3) := by decide +kernel
theorem d_SH_mixBlock_80 : decode b_SH_mixBlock 80 = .ok (.iload 5, 2) := by decide +kernel
theorem d_SH_mixBlock_82 : decode b_SH_mixBlock 82 = .ok (.bipush 11, 2) := by decide +kernel
theorem d_SH_mixBlock_84 : decode b_SH_mixBlock 84 = .ok (.invokestatic 43, 3) := by decide +kernel
theorem d_SH_mixBlock_87 : decode b_SH_mixBlock 87 = .ok (.ixor, 1) := by decide +kernel
theorem d_SH_mixBlock_88 : decode b_SH_mixBlock 88 = .ok (.iload 5, 2) := by decide +kernel
theorem d_SH_mixBlock_90 : decode b_SH_mixBlock 90 = .ok (.bipush 25, 2) := by decide +kernel
theorem d_SH_mixBlock_92 : decode b_SH_mixBlock 92 = .ok (.invokestatic 43, 3) := by decide +kernel
theorem d_SH_mixBlock_95 : decode b_SH_mixBlock 95 = .ok (.ixor, 1) := by decide +kernel
theorem d_SH_mixBlock_96 : decode b_SH_mixBlock 96 = .ok (.istore 10, 2) := by decide +kernel
theorem d_SH_mixBlock_98 : decode b_SH_mixBlock 98 = .ok (.iload_n 1, 1) := by decide +kernel
theorem d_SH_mixBlock_99 : decode b_SH_mixBlock 99 = .ok (.iconst 2, 1) := by decide +kernel
theorem d_SH_mixBlock_100 : decode b_SH_mixBlock 100 = .ok (.invokestatic 43, 3) := by decide +kernel
theorem d_SH_mixBlock_103 : decode b_SH_mixBlock 103 = .ok (.iload_n 1, 1) := by decide +kernel
theorem d_SH_mixBlock_104 : decode b_SH_mixBlock 104 = .ok (.bipush 13, 2) := by decide +kernel
theorem d_SH_mixBlock_106 : decode b_SH_mixBlock 106 = .ok (.invokestatic 43, 3) := by decide +kernel
theorem d_SH_mixBlock_109 : decode b_SH_mixBlock 109 = .ok (.ixor, 1) := by decide +kernel
theorem d_SH_mixBlock_110 : decode b_SH_mixBlock 110 = .ok (.iload_n 1, 1) := by decide +kernel
theorem d_SH_mixBlock_111 : decode b_SH_mixBlock 111 = .ok (.bipush 22, 2) := by decide +kernel
theorem d_SH_mixBlock_113 : decode b_SH_mixBlock 113 = .ok (.invokestatic 43, 3) := by decide +kernel
theorem d_SH_mixBlock_116 : decode b_SH_mixBlock 116 = .ok (.ixor, 1) := by decide +kernel
theorem d_SH_mixBlock_117 : decode b_SH_mixBlock 117 = .ok (.istore 11, 2) := by decide +kernel
theorem d_SH_mixBlock_119 : decode b_SH_mixBlock 119 = .ok (.iload 8, 2) := by decide +kernel
theorem d_SH_mixBlock_121 : decode b_SH_mixBlock 121 = .ok (.iload 10, 2) := by decide +kernel
theorem d_SH_mixBlock_123 : decode b_SH_mixBlock 123 = .ok (.iadd, 1) := by decide +kernel
theorem d_SH_mixBlock_124 : decode b_SH_mixBlock 124 = .ok (.iload 5, 2) := by decide +kernel
theorem d_SH_mixBlock_126 : decode b_SH_mixBlock 126 = .ok (.iload 6, 2) := by decide +kernel
theorem d_SH_mixBlock_128 : decode b_SH_mixBlock 128 = .ok (.iand, 1) := by decide +kernel
theorem d_SH_mixBlock_129 : decode b_SH_mixBlock 129 = .ok (.iload 5, 2) := by decide +kernel
theorem d_SH_mixBlock_131 : decode b_SH_mixBlock 131 = .ok (.iconst (-1), 1) := by decide +kernel
theorem d_SH_mixBlock_132 : decode b_SH_mixBlock 132 = .ok (.ixor, 1) := by decide +kernel
theorem d_SH_mixBlock_133 : decode b_SH_mixBlock 133 = .ok (.iload 7, 2) := by decide +kernel
theorem d_SH_mixBlock_135 : decode b_SH_mixBlock 135 = .ok (.iand, 1) := by decide +kernel
theorem d_SH_mixBlock_136 : decode b_SH_mixBlock 136 = .ok (.ixor, 1) := by decide +kernel
theorem d_SH_mixBlock_137 : decode b_SH_mixBlock 137 = .ok (.iadd, 1) := by decide +kernel
theorem d_SH_mixBlock_138 : decode b_SH_mixBlock 138 = .ok (.getstatic 47, 3) := by decide +kernel
theorem d_SH_mixBlock_141 : decode b_SH_mixBlock 141 = .ok (.iload 9, 2) := by decide +kernel
theorem d_SH_mixBlock_143 : decode b_SH_mixBlock 143 = .ok (.iaload, 1) := by decide +kernel
theorem d_SH_mixBlock_144 : decode b_SH_mixBlock 144 = .ok (.iadd, 1) := by decide +kernel
theorem d_SH_mixBlock_145 : decode b_SH_mixBlock 145 = .ok (.aload_n 0, 1) := by decide +kernel
theorem d_SH_mixBlock_146 : decode b_SH_mixBlock 146 = .ok (.getfield 15, 3) := by decide +kernel
theorem d_SH_mixBlock_149 : decode b_SH_mixBlock 149 = .ok (.iload 9, 2) := by decide +kernel
theorem d_SH_mixBlock_151 : decode b_SH_mixBlock 151 = .ok (.iaload, 1) := by decide +kernel
theorem d_SH_mixBlock_152 : decode b_SH_mixBlock 152 = .ok (.iadd, 1) := by decide +kernel
theorem d_SH_mixBlock_153 : decode b_SH_mixBlock 153 = .ok (.istore 12, 2) := by decide +kernel
theorem d_SH_mixBlock_155 : decode b_SH_mixBlock 155 = .ok (.iload 11, 2) := by decide +kernel
theorem d_SH_mixBlock_157 : decode b_SH_mixBlock 157 = .ok (.iload_n 1, 1) := by decide +kernel
theorem d_SH_mixBlock_158 : decode b_SH_mixBlock 158 = .ok (.iload_n 2, 1) := by decide +kernel
theorem d_SH_mixBlock_159 : decode b_SH_mixBlock 159 = .ok (.iand, 1) := by decide +kernel
theorem d_SH_mixBlock_160 : decode b_SH_mixBlock 160 = .ok (.iload_n 1, 1) := by decide +kernel
theorem d_SH_mixBlock_161 : decode b_SH_mixBlock 161 = .ok (.iload_n 3, 1) := by decide +kernel
theorem d_SH_mixBlock_162 : decode b_SH_mixBlock 162 = .ok (.iand, 1) := by decide +kernel
theorem d_SH_mixBlock_163 : decode b_SH_mixBlock 163 = .ok (.ixor, 1) := by decide +kernel
theorem d_SH_mixBlock_164 : decode b_SH_mixBlock 164 = .ok (.iload_n 2, 1) := by decide +kernel
theorem d_SH_mixBlock_165 : decode b_SH_mixBlock 165 = .ok (.iload_n 3, 1) := by decide +kernel
theorem d_SH_mixBlock_166 : decode b_SH_mixBlock 166 = .ok (.iand, 1) := by decide +kernel
theorem d_SH_mixBlock_167 : decode b_SH_mixBlock 167 = .ok (.ixor, 1) := by decide +kernel
theorem d_SH_mixBlock_168 : decode b_SH_mixBlock 168 = .ok (.iadd, 1) := by decide +kernel
theorem d_SH_mixBlock_169 : decode b_SH_mixBlock 169 = .ok (.istore 13, 2) := by decide +kernel
theorem d_SH_mixBlock_171 : decode b_SH_mixBlock 171 = .ok (.iload 7, 2) := by decide +kernel
theorem d_SH_mixBlock_173 : decode b_SH_mixBlock 173 = .ok (.istore 8, 2) := by decide +kernel
theorem d_SH_mixBlock_175 : decode b_SH_mixBlock 175 = .ok (.iload 6, 2) := by decide +kernel
theorem d_SH_mixBlock_177 : decode b_SH_mixBlock 177 = .ok (.istore 7, 2) := by decide +kernel
theorem d_SH_mixBlock_179 : decode b_SH_mixBlock 179 = .ok (.iload 5, 2) := by decide +kernel
theorem d_SH_mixBlock_181 : decode b_SH_mixBlock 181 = .ok (.istore 6, 2) := by decide +kernel
theorem d_SH_mixBlock_183 : decode b_SH_mixBlock 183 = .ok (.iload 4, 2) := by decide +kernel
theorem d_SH_mixBlock_185 : decode b_SH_mixBlock 185 = .ok (.iload 12, 2) := by decide +kernel
theorem d_SH_mixBlock_187 : decode b_SH_mixBlock 187 = .ok (.iadd, 1) := by decide +kernel
theorem d_SH_mixBlock_188 : decode b_SH_mixBlock 188 = .ok (.istore 5, 2) := by decide +kernel
theorem d_SH_mixBlock_190 : decode b_SH_mixBlock 190 = .ok (.iload_n 3, 1) := by decide +kernel
theorem d_SH_mixBlock_191 : decode b_SH_mixBlock 191 = .ok (.istore 4, 2) := by decide +kernel
theorem d_SH_mixBlock_193 : decode b_SH_mixBlock 193 = .ok (.iload_n 2, 1) := by decide +kernel
theorem d_SH_mixBlock_194 : decode b_SH_mixBlock 194 = .ok (.istore_n 3, 1) := by decide +kernel
theorem d_SH_mixBlock_195 : decode b_SH_mixBlock 195 = .ok (.iload_n 1, 1) := by decide +kernel
theorem d_SH_mixBlock_196 : decode b_SH_mixBlock 196 = .ok (.istore_n 2, 1) := by decide +kernel
theorem d_SH_mixBlock_197 : decode b_SH_mixBlock 197 = .ok (.iload 12, 2) := by decide +kernel
theorem d_SH_mixBlock_199 : decode b_SH_mixBlock 199 = .ok (.iload 13, 2) := by decide +kernel
theorem d_SH_mixBlock_201 : decode b_SH_mixBlock 201 = .ok (.iadd, 1) := by decide +kernel
theorem d_SH_mixBlock_202 : decode b_SH_mixBlock 202 = .ok (.istore_n 1, 1) := by decide +kernel
theorem d_SH_mixBlock_203 : decode b_SH_mixBlock 203 = .ok (.iinc 9 1, 3) := by decide +kernel
theorem d_SH_mixBlock_206 : decode b_SH_mixBlock 206 = .ok (.goto (-140), 3) := by decide +kernel
theorem d_SH_mixBlock_209 : decode b_SH_mixBlock 209 = .ok (.aload_n 0, 1) := by decide +kernel
theorem d_SH_mixBlock_210 : decode b_SH_mixBlock 210 = .ok (.getfield 9, 3) := by decide +kernel
theorem d_SH_mixBlock_213 : decode b_SH_mixBlock 213 = .ok (.iconst 0, 1) := by decide +kernel
theorem d_SH_mixBlock_214 : decode b_SH_mixBlock 214 = .ok (.dup2, 1) := by decide +kernel
theorem d_SH_mixBlock_215 : decode b_SH_mixBlock 215 = .ok (.iaload, 1) := by decide +kernel
theorem d_SH_mixBlock_216 : decode b_SH_mixBlock 216 = .ok (.iload_n 1, 1) := by decide +kernel
theorem d_SH_mixBlock_217 : decode b_SH_mixBlock 217 = .ok (.iadd, 1) := by decide +kernel
theorem d_SH_mixBlock_218 : decode b_SH_mixBlock 218 = .ok (.iastore, 1) := by decide +kernel
theorem d_SH_mixBlock_219 : decode b_SH_mixBlock 219 = .ok (.aload_n 0, 1) := by decide +kernel
theorem d_SH_mixBlock_220 : decode b_SH_mixBlock 220 = .ok (.getfield 9, 3) := by decide +kernel
theorem d_SH_mixBlock_223 : decode b_SH_mixBlock 223 = .ok (.iconst 1, 1) := by decide +kernel
theorem d_SH_mixBlock_224 : decode b_SH_mixBlock 224 = .ok (.dup2, 1) := by decide +kernel
theorem d_SH_mixBlock_225 : decode b_SH_mixBlock 225 = .ok (.iaload, 1) := by decide +kernel
theorem d_SH_mixBlock_226 : decode b_SH_mixBlock 226 = .ok (.iload_n 2, 1) := by decide +kernel
theorem d_SH_mixBlock_227 : decode b_SH_mixBlock 227 = .ok (.iadd, 1) := by decide +kernel
theorem d_SH_mixBlock_228 : decode b_SH_mixBlock 228 = .ok (.iastore, 1) := by decide +kernel
theorem d_SH_mixBlock_229 : decode b_SH_mixBlock 229 = .ok (.aload_n 0, 1) := by decide +kernel
theorem d_SH_mixBlock_230 : decode b_SH_mixBlock 230 = .ok (.getfield 9, 3) := by decide +kernel
theorem d_SH_mixBlock_233 : decode b_SH_mixBlock 233 = .ok (.iconst 2, 1) := by decide +kernel
theorem d_SH_mixBlock_234 : decode b_SH_mixBlock 234 = .ok (.dup2, 1) := by decide +kernel
theorem d_SH_mixBlock_235 : decode b_SH_mixBlock 235 = .ok (.iaload, 1) := by decide +kernel
theorem d_SH_mixBlock_236 : decode b_SH_mixBlock 236 = .ok (.iload_n 3, 1) := by decide +kernel
theorem d_SH_mixBlock_237 : decode b_SH_mixBlock 237 = .ok (.iadd, 1) := by decide +kernel
theorem d_SH_mixBlock_238 : decode b_SH_mixBlock 238 = .ok (.iastore, 1) := by decide +kernel
theorem d_SH_mixBlock_239 : decode b_SH_mixBlock 239 = .ok (.aload_n 0, 1) := by decide +kernel
theorem d_SH_mixBlock_240 : decode b_SH_mixBlock 240 = .ok (.getfield 9, 3) := by decide +kernel
theorem d_SH_mixBlock_243 : decode b_SH_mixBlock 243 = .ok (.iconst 3, 1) := by decide +kernel
theorem d_SH_mixBlock_244 : decode b_SH_mixBlock 244 = .ok (.dup2, 1) := by decide +kernel
theorem d_SH_mixBlock_245 : decode b_SH_mixBlock 245 = .ok (.iaload, 1) := by decide +kernel
theorem d_SH_mixBlock_246 : decode b_SH_mixBlock 246 = .ok (.iload 4, 2) := by decide +kernel
theorem d_SH_mixBlock_248 : decode b_SH_mixBlock 248 = .ok (.iadd, 1) := by decide +kernel
theorem d_SH_mixBlock_249 : decode b_SH_mixBlock 249 = .ok (.iastore, 1) := by decide +kernel
theorem d_SH_mixBlock_250 : decode b_SH_mixBlock 250 = .ok (.aload_n 0, 1) := by decide +kernel
theorem d_SH_mixBlock_251 : decode b_SH_mixBlock 251 = .ok (.getfield 9, 3) := by decide +kernel
theorem d_SH_mixBlock_254 : decode b_SH_mixBlock 254 = .ok (.iconst 4, 1) := by decide +kernel
theorem d_SH_mixBlock_255 : decode b_SH_mixBlock 255 = .ok (.dup2, 1) := by decide +kernel
theorem d_SH_mixBlock_256 : decode b_SH_mixBlock 256 = .ok (.iaload, 1) := by decide +kernel
theorem d_SH_mixBlock_257 : decode b_SH_mixBlock 257 = .ok (.iload 5, 2) := by decide +kernel
theorem d_SH_mixBlock_259 : decode b_SH_mixBlock 259 = .ok (.iadd, 1) := by decide +kernel
theorem d_SH_mixBlock_260 : decode b_SH_mixBlock 260 = .ok (.iastore, 1) := by decide +kernel
theorem d_SH_mixBlock_261 : decode b_SH_mixBlock 261 = .ok (.aload_n 0, 1) := by decide +kernel
theorem d_SH_mixBlock_262 : decode b_SH_mixBlock 262 = .ok (.getfield 9, 3) := by decide +kernel
theorem d_SH_mixBlock_265 : decode b_SH_mixBlock 265 = .ok (.iconst 5, 1) := by decide +kernel
theorem d_SH_mixBlock_266 : decode b_SH_mixBlock 266 = .ok (.dup2, 1) := by decide +kernel
theorem d_SH_mixBlock_267 : decode b_SH_mixBlock 267 = .ok (.iaload, 1) := by decide +kernel
theorem d_SH_mixBlock_268 : decode b_SH_mixBlock 268 = .ok (.iload 6, 2) := by decide +kernel
theorem d_SH_mixBlock_270 : decode b_SH_mixBlock 270 = .ok (.iadd, 1) := by decide +kernel
theorem d_SH_mixBlock_271 : decode b_SH_mixBlock 271 = .ok (.iastore, 1) := by decide +kernel
theorem d_SH_mixBlock_272 : decode b_SH_mixBlock 272 = .ok (.aload_n 0, 1) := by decide +kernel
theorem d_SH_mixBlock_273 : decode b_SH_mixBlock 273 = .ok (.getfield 9, 3) := by decide +kernel
theorem d_SH_mixBlock_276 : decode b_SH_mixBlock 276 = .ok (.bipush 6, 2) := by decide +kernel
theorem d_SH_mixBlock_278 : decode b_SH_mixBlock 278 = .ok (.dup2, 1) := by decide +kernel
theorem d_SH_mixBlock_279 : decode b_SH_mixBlock 279 = .ok (.iaload, 1) := by decide +kernel
theorem d_SH_mixBlock_280 : decode b_SH_mixBlock 280 = .ok (.iload 7, 2) := by decide +kernel
theorem d_SH_mixBlock_282 : decode b_SH_mixBlock 282 = .ok (.iadd, 1) := by decide +kernel
theorem d_SH_mixBlock_283 : decode b_SH_mixBlock 283 = .ok (.iastore, 1) := by decide +kernel
theorem d_SH_mixBlock_284 : decode b_SH_mixBlock 284 = .ok (.aload_n 0, 1) := by decide +kernel
theorem d_SH_mixBlock_285 : decode b_SH_mixBlock 285 = .ok (.getfield 9, 3) := by decide +kernel
theorem d_SH_mixBlock_288 : decode b_SH_mixBlock 288 = .ok (.bipush 7, 2) := by decide +kernel
theorem d_SH_mixBlock_290 : decode b_SH_mixBlock 290 = .ok (.dup2, 1) := by decide +kernel
theorem d_SH_mixBlock_291 : decode b_SH_mixBlock 291 = .ok (.iaload, 1) := by decide +kernel
theorem d_SH_mixBlock_292 : decode b_SH_mixBlock 292 = .ok (.iload 8, 2) := by decide +kernel
theorem d_SH_mixBlock_294 : decode b_SH_mixBlock 294 = .ok (.iadd, 1) := by decide +kernel
theorem d_SH_mixBlock_295 : decode b_SH_mixBlock 295 = .ok (.iastore, 1) := by decide +kernel
theorem d_SH_mixBlock_296 : decode b_SH_mixBlock 296 = .ok (.return_, 1) := by decide +kernel
theorem d_SH_begin_0 : decode b_SH_begin 0 = .ok (.iconst 0, 1) := by decide +kernel
theorem d_SH_begin_1 : decode b_SH_begin 1 = .ok (.istore_n 1, 1) := by decide +kernel
theorem d_SH_begin_2 : decode b_SH_begin 2 = .ok (.iload_n 1, 1) := by decide +kernel
theorem d_SH_begin_3 : decode b_SH_begin 3 = .ok (.bipush 8, 2) := by decide +kernel
theorem d_SH_begin_5 : decode b_SH_begin 5 = .ok (.if_icmp .ge 20, 3) := by decide +kernel
theorem d_SH_begin_8 : decode b_SH_begin 8 = .ok (.aload_n 0, 1) := by decide +kernel
theorem d_SH_begin_9 : decode b_SH_begin 9 = .ok (.getfield 9, 3) := by decide +kernel
theorem d_SH_begin_12 : decode b_SH_begin 12 = .ok (.iload_n 1, 1) := by decide +kernel
theorem d_SH_begin_13 : decode b_SH_begin 13 = .ok (.getstatic 26, 3) := by decide +kernel
theorem d_SH_begin_16 : decode b_SH_begin 16 = .ok (.iload_n 1, 1) := by decide +kernel
theorem d_SH_begin_17 : decode b_SH_begin 17 = .ok (.iaload, 1) := by decide +kernel
theorem d_SH_begin_18 : decode b_SH_begin 18 = .ok (.iastore, 1) := by decide +kernel
theorem d_SH_begin_19 : decode b_SH_begin 19 = .ok (.iinc 1 1, 3) := by decide +kernel
theorem d_SH_begin_22 : decode b_SH_begin 22 = .ok (.goto (-20), 3) := by decide +kernel
theorem d_SH_begin_25 : decode b_SH_begin 25 = .ok (.aload_n 0, 1) := by decide +kernel
theorem d_SH_begin_26 : decode b_SH_begin 26 = .ok (.iconst 0, 1) := by decide +kernel
theorem d_SH_begin_27 : decode b_SH_begin 27 = .ok (.putfield 18, 3) := by decide +kernel
theorem d_SH_begin_30 : decode b_SH_begin 30 = .ok (.aload_n 0, 1) := by decide +kernel
theorem d_SH_begin_31 : decode b_SH_begin 31 = .ok (.lconst 0, 1) := by decide +kernel
theorem d_SH_begin_32 : decode b_SH_begin 32 = .ok (.putfield 22, 3) := by decide +kernel
theorem d_SH_begin_35 : decode b_SH_begin 35 = .ok (.return_, 1) := by decide +kernel
theorem d_SH_feed_0 : decode b_SH_feed 0 = .ok (.aload_n 0, 1) := by decide +kernel
theorem d_SH_feed_1 : decode b_SH_feed 1 = .ok (.getfield 18, 3) := by decide +kernel
theorem d_SH_feed_4 : decode b_SH_feed 4 = .ok (.iconst 2, 1) := by decide +kernel
theorem d_SH_feed_5 : decode b_SH_feed 5 = .ok (.ishr, 1) := by decide +kernel
theorem d_SH_feed_6 : decode b_SH_feed 6 = .ok (.bipush 15, 2) := by decide +kernel
theorem d_SH_feed_8 : decode b_SH_feed 8 = .ok (.iand, 1) := by decide +kernel
theorem d_SH_feed_9 : decode b_SH_feed 9 = .ok (.istore_n 2, 1) := by decide +kernel
theorem d_SH_feed_10 : decode b_SH_feed 10 = .ok (.aload_n 0, 1) := by decide +kernel
theorem d_SH_feed_11 : decode b_SH_feed 11 = .ok (.getfield 15, 3) := by decide +kernel
theorem d_SH_feed_14 : decode b_SH_feed 14 = .ok (.iload_n 2, 1) := by decide +kernel
theorem d_SH_feed_15 : decode b_SH_feed 15 = .ok (.aload_n 0, 1) := by decide +kernel
theorem d_SH_feed_16 : decode b_SH_feed 16 = .ok (.getfield 15, 3) := by decide +kernel
theorem d_SH_feed_19 : decode b_SH_feed 19 = .ok (.iload_n 2, 1) := by decide +kernel
theorem d_SH_feed_20 : decode b_SH_feed 20 = .ok (.iaload, 1) := by decide +kernel
theorem d_SH_feed_21 : decode b_SH_feed 21 = .ok (.bipush 8, 2) := by decide +kernel
theorem d_SH_feed_23 : decode b_SH_feed 23 = .ok (.ishl, 1) := by decide +kernel
theorem d_SH_feed_24 : decode b_SH_feed 24 = .ok (.iload_n 1, 1) := by decide +kernel
theorem d_SH_feed_25 : decode b_SH_feed 25 = .ok (.sipush 255, 3) := by decide +kernel
theorem d_SH_feed_28 : decode b_SH_feed 28 = .ok (.iand, 1) := by decide +kernel
theorem d_SH_feed_29 : decode b_SH_feed 29 = .ok (.ior, 1) := by decide +kernel
theorem d_SH_feed_30 : decode b_SH_feed 30 = .ok (.iastore, 1) := by decide +kernel
theorem d_SH_feed_31 : decode b_SH_feed 31 = .ok (.aload_n 0, 1) := by decide +kernel
theorem d_SH_feed_32 : decode b_SH_feed 32 = .ok (.dup, 1) := by decide +kernel
theorem d_SH_feed_33 : decode b_SH_feed 33 = .ok (.getfield 18, 3) := by decide +kernel
theorem d_SH_feed_36 : decode b_SH_feed 36 = .ok (.iconst 1, 1) := by decide +kernel
theorem d_SH_feed_37 : decode b_SH_feed 37 = .ok (.iadd, 1) := by decide +kernel
theorem d_SH_feed_38 : decode b_SH_feed 38 = .ok (.putfield 18, 3) := by decide +kernel
theorem d_SH_feed_41 : decode b_SH_feed 41 = .ok (.aload_n 0, 1) := by decide +kernel
theorem d_SH_feed_42 : decode b_SH_feed 42 = .ok (.dup, 1) := by decide +kernel
theorem d_SH_feed_43 : decode b_SH_feed 43 = .ok (.getfield 22, 3) := by decide +kernel
theorem d_SH_feed_46 : decode b_SH_feed 46 = .ok (.lconst 1, 1) := by decide +kernel
theorem d_SH_feed_47 : decode b_SH_feed 47 = .ok (.ladd, 1) := by decide +kernel
theorem d_SH_feed_48 : decode b_SH_feed 48 = .ok (.putfield 22, 3) := by decide +kernel
theorem d_SH_feed_51 : decode b_SH_feed 51 = .ok (.aload_n 0, 1) := by decide +kernel
theorem d_SH_feed_52 : decode b_SH_feed 52 = .ok (.getfield 18, 3) := by decide +kernel
theorem d_SH_feed_55 : decode b_SH_feed 55 = .ok (.bipush 64, 2) := by decide +kernel
theorem d_SH_feed_57 : decode b_SH_feed 57 = .ok (.if_icmp .lt 16, 3) := by decide +kernel
theorem d_SH_feed_60 : decode b_SH_feed 60 = .ok (.aload_n 0, 1) := by decide +kernel
theorem d_SH_feed_61 : decode b_SH_feed 61 = .ok (.invokevirtual 33, 3) := by decide +kernel
theorem d_SH_feed_64 : decode b_SH_feed 64 = .ok (.aload_n 0, 1) := by decide +kernel
theorem d_SH_feed_65 : decode b_SH_feed 65 = .ok (.invokevirtual 36, 3) := by decide +kernel
theorem d_SH_feed_68 : decode b_SH_feed 68 = .ok (.aload_n 0, 1) := by decide +kernel
theorem d_SH_feed_69 : decode b_SH_feed 69 = .ok (.iconst 0, 1) := by decide +kernel
theorem d_SH_feed_70 : decode b_SH_feed 70 = .ok (.putfield 18, 3) := by decide +kernel
theorem d_SH_feed_73 : decode b_SH_feed 73 = .ok (.return_, 1) := by decide +kernel
theorem d_SH_feedAll_0 : decode b_SH_feedAll 0 = .ok (.iconst 0, 1) := by decide +kernel
theorem d_SH_feedAll_1 : decode b_SH_feedAll 1 = .ok (.istore_n 2, 1) := by decide +kernel
theorem d_SH_feedAll_2 : decode b_SH_feedAll 2 = .ok (.iload_n 2, 1) := by decide +kernel
theorem d_SH_feedAll_3 : decode b_SH_feedAll 3 = .ok (.aload_n 1, 1) := by decide +kernel
theorem d_SH_feedAll_4 : decode b_SH_feedAll 4 = .ok (.arraylength, 1) := by decide +kernel
theorem d_SH_feedAll_5 : decode b_SH_feedAll 5 = .ok (.if_icmp .ge 16, 3) := by decide +kernel
theorem d_SH_feedAll_8 : decode b_SH_feedAll 8 = .ok (.aload_n 0, 1) := by decide +kernel
theorem d_SH_feedAll_9 : decode b_SH_feedAll 9 = .ok (.aload_n 1, 1) := by decide +kernel
theorem d_SH_feedAll_10 : decode b_SH_feedAll 10 = .ok (.iload_n 2, 1) := by decide +kernel
theorem d_SH_feedAll_11 : decode b_SH_feedAll 11 = .ok (.caload, 1) := by decide +kernel
theorem d_SH_feedAll_12 : decode b_SH_feedAll 12 = .ok (.invokevirtual 29, 3) := by decide +kernel
theorem d_SH_feedAll_15 : decode b_SH_feedAll 15 = .ok (.iinc 2 1, 3) := by decide +kernel
theorem d_SH_feedAll_18 : decode b_SH_feedAll 18 = .ok (.goto (-16), 3) := by decide +kernel
theorem d_SH_feedAll_21 : decode b_SH_feedAll 21 = .ok (.return_, 1) := by decide +kernel
theorem d_SH_end_0 : decode b_SH_end 0 = .ok (.aload_n 0, 1) := by decide +kernel
theorem d_SH_end_1 : decode b_SH_end 1 = .ok (.getfield 22, 3) := by decide +kernel
theorem d_SH_end_4 : decode b_SH_end 4 = .ok (.ldc2_w 39, 3) := by decide +kernel
theorem d_SH_end_7 : decode b_SH_end 7 = .ok (.lmul, 1) := by decide +kernel
theorem d_SH_end_8 : decode b_SH_end 8 = .ok (.lstore_n 1, 1) := by decide +kernel
theorem d_SH_end_9 : decode b_SH_end 9 = .ok (.aload_n 0, 1) := by decide +kernel
theorem d_SH_end_10 : decode b_SH_end 10 = .ok (.sipush 128, 3) := by decide +kernel
theorem d_SH_end_13 : decode b_SH_end 13 = .ok (.invokevirtual 29, 3) := by decide +kernel
theorem d_SH_end_16 : decode b_SH_end 16 = .ok (.iconst 0, 1) := by decide +kernel
theorem d_SH_end_17 : decode b_SH_end 17 = .ok (.istore_n 3, 1) := by decide +kernel
theorem d_SH_end_18 : decode b_SH_end 18 = .ok (.iload_n 3, 1) := by decide +kernel
theorem d_SH_end_19 : decode b_SH_end 19 = .ok (.bipush 64, 2) := by decide +kernel
theorem d_SH_end_21 : decode b_SH_end 21 = .ok (.if_icmp .ge 23, 3) := by decide +kernel
theorem d_SH_end_24 : decode b_SH_end 24 = .ok (.aload_n 0, 1) := by decide +kernel
theorem d_SH_end_25 : decode b_SH_end 25 = .ok (.getfield 18, 3) := by decide +kernel
theorem d_SH_end_28 : decode b_SH_end 28 = .ok (.bipush 56, 2) := by decide +kernel
theorem d_SH_end_30 : decode b_SH_end 30 = .ok (.if_icmp .eq 14, 3) := by decide +kernel
theorem d_SH_end_33 : decode b_SH_end 33 = .ok (.aload_n 0, 1) := by decide +kernel
theorem d_SH_end_34 : decode b_SH_end 34 = .ok (.iconst 0, 1) := by decide +kernel
theorem d_SH_end_35 : decode b_SH_end 35 = .ok (.invokevirtual 29, 3) := by decide +kernel
theorem d_SH_end_38 : decode b_SH_end 38 = .ok (.iinc 3 1, 3) := by decide +kernel
theorem d_SH_end_41 : decode b_SH_end 41 = .ok (.goto (-23), 3) := by decide +kernel
theorem d_SH_end_44 : decode b_SH_end 44 = .ok (.bipush 56, 2) := by decide +kernel
theorem d_SH_end_46 : decode b_SH_end 46 = .ok (.istore_n 3, 1) := by decide +kernel
theorem d_SH_end_47 : decode b_SH_end 47 = .ok (.iload_n 3, 1) := by decide +kernel
theorem d_SH_end_48 : decode b_SH_end 48 = .ok (.ifCond .lt 21, 3) := by decide +kernel
theorem d_SH_end_51 : decode b_SH_end 51 = .ok (.aload_n 0, 1) := by decide +kernel
theorem d_SH_end_52 : decode b_SH_end 52 = .ok (.lload_n 1, 1) := by decide +kernel
theorem d_SH_end_53 : decode b_SH_end 53 = .ok (.iload_n 3, 1) := by decide +kernel
theorem d_SH_end_54 : decode b_SH_end 54 = .ok (.lushr, 1) := by decide +kernel
theorem d_SH_end_55 : decode b_SH_end 55 = .ok (.ldc2_w 41, 3) := by decide +kernel
theorem d_SH_end_58 : decode b_SH_end 58 = .ok (.land, 1) := by decide +kernel
theorem d_SH_end_59 : decode b_SH_end 59 = .ok (.l2i, 1) := by decide +kernel
theorem d_SH_end_60 : decode b_SH_end 60 = .ok (.invokevirtual 29, 3) := by decide +kernel
theorem d_SH_end_63 : decode b_SH_end 63 = .ok (.iinc 3 (-8), 3) := by decide +kernel
theorem d_SH_end_66 : decode b_SH_end 66 = .ok (.goto (-19), 3) := by decide +kernel
theorem d_SH_end_69 : decode b_SH_end 69 = .ok (.return_, 1) := by decide +kernel
theorem d_SH_writeDigits_0 : decode b_SH_writeDigits 0 = .ok (.iconst 0, 1) := by decide +kernel
theorem d_SH_writeDigits_1 : decode b_SH_writeDigits 1 = .ok (.istore_n 2, 1) := by decide +kernel
theorem d_SH_writeDigits_2 : decode b_SH_writeDigits 2 = .ok (.iload_n 2, 1) := by decide +kernel
theorem d_SH_writeDigits_3 : decode b_SH_writeDigits 3 = .ok (.bipush 64, 2) := by decide +kernel
theorem d_SH_writeDigits_5 : decode b_SH_writeDigits 5 = .ok (.if_icmp .ge 61, 3) := by decide +kernel
theorem d_SH_writeDigits_8 : decode b_SH_writeDigits 8 = .ok (.iload_n 2, 1) := by decide +kernel
theorem d_SH_writeDigits_9 : decode b_SH_writeDigits 9 = .ok (.aload_n 1, 1) := by decide +kernel
theorem d_SH_writeDigits_10 : decode b_SH_writeDigits 10 = .ok (.arraylength, 1) := by decide +kernel
theorem d_SH_writeDigits_11 : decode b_SH_writeDigits 11 = .ok (.if_icmp .ge 55, 3) := by decide +kernel
theorem d_SH_writeDigits_14 : decode b_SH_writeDigits 14 = .ok (.aload_n 0, 1) := by decide +kernel
theorem d_SH_writeDigits_15 : decode b_SH_writeDigits 15 = .ok (.getfield 9, 3) := by decide +kernel
theorem d_SH_writeDigits_18 : decode b_SH_writeDigits 18 = .ok (.iload_n 2, 1) := by decide +kernel
theorem d_SH_writeDigits_19 : decode b_SH_writeDigits 19 = .ok (.iconst 3, 1) := by decide +kernel
theorem d_SH_writeDigits_20 : decode b_SH_writeDigits 20 = .ok (.ishr, 1) := by decide +kernel
theorem d_SH_writeDigits_21 : decode b_SH_writeDigits 21 = .ok (.iaload, 1) := by decide +kernel
theorem d_SH_writeDigits_22 : decode b_SH_writeDigits 22 = .ok (.bipush 28, 2) := by decide +kernel
theorem d_SH_writeDigits_24 : decode b_SH_writeDigits 24 = .ok (.iconst 4, 1) := by decide +kernel
theorem d_SH_writeDigits_25 : decode b_SH_writeDigits 25 = .ok (.iload_n 2, 1) := by decide +kernel
theorem d_SH_writeDigits_26 : decode b_SH_writeDigits 26 = .ok (.bipush 7, 2) := by decide +kernel
theorem d_SH_writeDigits_28 : decode b_SH_writeDigits 28 = .ok (.iand, 1) := by decide +kernel
theorem d_SH_writeDigits_29 : decode b_SH_writeDigits 29 = .ok (.imul, 1) := by decide +kernel
theorem d_SH_writeDigits_30 : decode b_SH_writeDigits 30 = .ok (.isub, 1) := by decide +kernel
theorem d_SH_writeDigits_31 : decode b_SH_writeDigits 31 = .ok (.iushr, 1) := by decide +kernel
theorem d_SH_writeDigits_32 : decode b_SH_writeDigits 32 = .ok (.bipush 15, 2) := by decide +kernel
theorem d_SH_writeDigits_34 : decode b_SH_writeDigits 34 = .ok (.iand, 1) := by decide +kernel
theorem d_SH_writeDigits_35 : decode b_SH_writeDigits 35 = .ok (.istore_n 3, 1) := by decide +kernel
theorem d_SH_writeDigits_36 : decode b_SH_writeDigits 36 = .ok (.aload_n 1, 1) := by decide +kernel
theorem d_SH_writeDigits_37 : decode b_SH_writeDigits 37 = .ok (.iload_n 2, 1) := by decide +kernel
theorem d_SH_writeDigits_38 : decode b_SH_writeDigits 38 = .ok (.iload_n 3, 1) := by decide +kernel
theorem d_SH_writeDigits_39 : decode b_SH_writeDigits 39 = .ok (.bipush 10, 2) := by decide +kernel
theorem d_SH_writeDigits_41 : decode b_SH_writeDigits 41 = .ok (.if_icmp .ge 10, 3) := by decide +kernel
theorem d_SH_writeDigits_44 : decode b_SH_writeDigits 44 = .ok (.bipush 48, 2) := by decide +kernel
theorem d_SH_writeDigits_46 : decode b_SH_writeDigits 46 = .ok (.iload_n 3, 1) := by decide +kernel
theorem d_SH_writeDigits_47 : decode b_SH_writeDigits 47 = .ok (.iadd, 1) := by decide +kernel
theorem d_SH_writeDigits_48 : decode b_SH_writeDigits 48 = .ok (.goto 10, 3) := by decide +kernel
theorem d_SH_writeDigits_51 : decode b_SH_writeDigits 51 = .ok (.bipush 97, 2) := by decide +kernel
theorem d_SH_writeDigits_53 : decode b_SH_writeDigits 53 = .ok (.iload_n 3, 1) := by decide +kernel
theorem d_SH_writeDigits_54 : decode b_SH_writeDigits 54 = .ok (.iadd, 1) := by decide +kernel
theorem d_SH_writeDigits_55 : decode b_SH_writeDigits 55 = .ok (.bipush 10, 2) := by decide +kernel
theorem d_SH_writeDigits_57 : decode b_SH_writeDigits 57 = .ok (.isub, 1) := by decide +kernel
theorem d_SH_writeDigits_58 : decode b_SH_writeDigits 58 = .ok (.i2c, 1) := by decide +kernel
theorem d_SH_writeDigits_59 : decode b_SH_writeDigits 59 = .ok (.castore, 1) := by decide +kernel
theorem d_SH_writeDigits_60 : decode b_SH_writeDigits 60 = .ok (.iinc 2 1, 3) := by decide +kernel
theorem d_SH_writeDigits_63 : decode b_SH_writeDigits 63 = .ok (.goto (-61), 3) := by decide +kernel
theorem d_SH_writeDigits_66 : decode b_SH_writeDigits 66 = .ok (.return_, 1) := by decide +kernel
set_option maxHeartbeats 4000000 in
set_option maxRecDepth 100000 in
/-- the rounds over a block -/
theorem c_SH_mixBlock (l : Launch) (D : va_G) (ct : Nat → ClassId) (Z : hp_Z) (hZ : hp_Zok Z) (M : hp_M) (sz : Nat) (tk : Nat) (hzk : zK Z tk) (sh su wo : Nat) (Y : ShT) (hsh : shOk ct M sh su wo Y) : Mv l y_SH_mixBlock b_SH_mixBlock 14 none 1 21 0 0 [.ref sh] D ct Z M sz (fun M1 => M1 = shM ct M sh su wo (adds (mixn Y.2.1 Y.1 64) Y.1, Y.2.1, Y.2.2.1, Y.2.2.2)) := by
  refine hp_start (by decide) (Nat.le_of_ble_eq_true rfl) (fun p e s m below meth c ls S hret hlk hnm hsz hK hM hS hA hz hl => ?_)
  have hx := S.1
  have hb := S.2.1
  have hl : lv_has ls 14 [(0, .ref sh)] := hl
  obtain ⟨f_su, f_wo, f_sh, hfl⟩ := id hsh
  refine lv_aload_n hx hb d_SH_mixBlock_0 rfl (lv_at hl 0 rfl) ?_
  refine hp_get S hK hM i_SH f_sh rfl 0 (by decide) mf_SH_9 (fun _ h9 => h9) rfl d_SH_mixBlock_1 ?_
  refine lv_iconst (v := nI 0) hx hb d_SH_mixBlock_4 rfl ?_
  refine hp_iald S hK hM 1 f_su rfl 0 rfl (by omega) (by omega) d_SH_mixBlock_5 ?_
  refine lv_istore_n (lv' := [(1, .int ((Y.1) 0)), (0, .ref sh)]) hx hb d_SH_mixBlock_6 rfl hl (by decide) rfl (fun ls hl => ?_)
  refine lv_aload_n hx hb d_SH_mixBlock_7 rfl (lv_at hl 1 rfl) ?_
  refine hp_get S hK hM i_SH f_sh rfl 0 (by decide) mf_SH_9 (fun _ h9 => h9) rfl d_SH_mixBlock_8 ?_
  refine lv_iconst (v := nI 1) hx hb d_SH_mixBlock_11 rfl ?_
  refine hp_iald S hK hM 1 f_su rfl 1 rfl (by omega) (by omega) d_SH_mixBlock_12 ?_
  refine lv_istore_n (lv' := [(2, .int ((Y.1) 1)), (1, .int ((Y.1) 0)), (0, .ref sh)]) hx hb d_SH_mixBlock_13 rfl hl (by decide) rfl (fun ls hl => ?_)
  refine lv_aload_n hx hb d_SH_mixBlock_14 rfl (lv_at hl 2 rfl) ?_
  refine hp_get S hK hM i_SH f_sh rfl 0 (by decide) mf_SH_9 (fun _ h9 => h9) rfl d_SH_mixBlock_15 ?_
  refine lv_iconst (v := nI 2) hx hb d_SH_mixBlock_18 rfl ?_
  refine hp_iald S hK hM 1 f_su rfl 2 rfl (by omega) (by omega) d_SH_mixBlock_19 ?_
  refine lv_istore_n (lv' := [(3, .int ((Y.1) 2)), (2, .int ((Y.1) 1)), (1, .int ((Y.1) 0)), (0, .ref sh)]) hx hb d_SH_mixBlock_20 rfl hl (by decide) rfl (fun ls hl => ?_)
  refine lv_aload_n hx hb d_SH_mixBlock_21 rfl (lv_at hl 3 rfl) ?_
  refine hp_get S hK hM i_SH f_sh rfl 0 (by decide) mf_SH_9 (fun _ h9 => h9) rfl d_SH_mixBlock_22 ?_
  refine lv_iconst (v := nI 3) hx hb d_SH_mixBlock_25 rfl ?_
  refine hp_iald S hK hM 1 f_su rfl 3 rfl (by omega) (by omega) d_SH_mixBlock_26 ?_
  refine lv_istore (lv' := [(4, .int ((Y.1) 3)), (3, .int ((Y.1) 2)), (2, .int ((Y.1) 1)), (1, .int ((Y.1) 0)), (0, .ref sh)]) hx hb d_SH_mixBlock_27 hl (by decide) rfl (fun ls hl => ?_)
  refine lv_aload_n hx hb d_SH_mixBlock_29 rfl (lv_at hl 4 rfl) ?_
  refine hp_get S hK hM i_SH f_sh rfl 0 (by decide) mf_SH_9 (fun _ h9 => h9) rfl d_SH_mixBlock_30 ?_
  refine lv_iconst (v := nI 4) hx hb d_SH_mixBlock_33 rfl ?_
  refine hp_iald S hK hM 1 f_su rfl 4 rfl (by omega) (by omega) d_SH_mixBlock_34 ?_
  refine lv_istore (lv' := [(5, .int ((Y.1) 4)), (4, .int ((Y.1) 3)), (3, .int ((Y.1) 2)), (2, .int ((Y.1) 1)), (1, .int ((Y.1) 0)), (0, .ref sh)]) hx hb d_SH_mixBlock_35 hl (by decide) rfl (fun ls hl => ?_)
  refine lv_aload_n hx hb d_SH_mixBlock_37 rfl (lv_at hl 5 rfl) ?_
  refine hp_get S hK hM i_SH f_sh rfl 0 (by decide) mf_SH_9 (fun _ h9 => h9) rfl d_SH_mixBlock_38 ?_
  refine lv_iconst (v := nI 5) hx hb d_SH_mixBlock_41 rfl ?_
  refine hp_iald S hK hM 1 f_su rfl 5 rfl (by omega) (by omega) d_SH_mixBlock_42 ?_
  refine lv_istore (lv' := [(6, .int ((Y.1) 5)), (5, .int ((Y.1) 4)), (4, .int ((Y.1) 3)), (3, .int ((Y.1) 2)), (2, .int ((Y.1) 1)), (1, .int ((Y.1) 0)), (0, .ref sh)]) hx hb d_SH_mixBlock_43 hl (by decide) rfl (fun ls hl => ?_)
  refine lv_aload_n hx hb d_SH_mixBlock_45 rfl (lv_at hl 6 rfl) ?_
  refine hp_get S hK hM i_SH f_sh rfl 0 (by decide) mf_SH_9 (fun _ h9 => h9) rfl d_SH_mixBlock_46 ?_
  refine lv_bipush (v := nI 6) hx hb d_SH_mixBlock_49 rfl ?_
  refine hp_iald S hK hM 1 f_su rfl 6 rfl (by omega) (by omega) d_SH_mixBlock_51 ?_
  refine lv_istore (lv' := [(7, .int ((Y.1) 6)), (6, .int ((Y.1) 5)), (5, .int ((Y.1) 4)), (4, .int ((Y.1) 3)), (3, .int ((Y.1) 2)), (2, .int ((Y.1) 1)), (1, .int ((Y.1) 0)), (0, .ref sh)]) hx hb d_SH_mixBlock_52 hl (by decide) rfl (fun ls hl => ?_)
  refine lv_aload_n hx hb d_SH_mixBlock_54 rfl (lv_at hl 7 rfl) ?_
  refine hp_get S hK hM i_SH f_sh rfl 0 (by decide) mf_SH_9 (fun _ h9 => h9) rfl d_SH_mixBlock_55 ?_
  refine lv_bipush (v := nI 7) hx hb d_SH_mixBlock_58 rfl ?_
  refine hp_iald S hK hM 1 f_su rfl 7 rfl (by omega) (by omega) d_SH_mixBlock_60 ?_
  refine lv_istore (lv' := [(8, .int ((Y.1) 7)), (7, .int ((Y.1) 6)), (6, .int ((Y.1) 5)), (5, .int ((Y.1) 4)), (4, .int ((Y.1) 3)), (3, .int ((Y.1) 2)), (2, .int ((Y.1) 1)), (1, .int ((Y.1) 0)), (0, .ref sh)]) hx hb d_SH_mixBlock_61 hl (by decide) rfl (fun ls hl => ?_)
  refine lv_iconst (v := nI 0) hx hb d_SH_mixBlock_63 rfl ?_
  refine lv_istore (lv' := [(9, .int (nI 0)), (8, .int ((Y.1) 7)), (7, .int ((Y.1) 6)), (6, .int ((Y.1) 5)), (5, .int ((Y.1) 4)), (4, .int ((Y.1) 3)), (3, .int ((Y.1) 2)), (2, .int ((Y.1) 1)), (1, .int ((Y.1) 0)), (0, .ref sh)]) hx hb d_SH_mixBlock_64 hl (by decide) rfl (fun ls hl => ?_)
  replace hl : lv_has ls 14 [(0, .ref sh), (1, .int ((Y.1) 0)), (2, .int ((Y.1) 1)), (3, .int ((Y.1) 2)), (4, .int ((Y.1) 3)), (5, .int ((Y.1) 4)), (6, .int ((Y.1) 5)), (7, .int ((Y.1) 6)), (8, .int ((Y.1) 7)), (9, .int (nI 0))] := lv_sub hl [9, 8, 7, 6, 5, 4, 3, 2, 1, 0] rfl
  obtain ⟨j, e9j⟩ : ∃ z : Nat, z = 0 := ⟨_, rfl⟩
  obtain ⟨V, e9V⟩ : ∃ z : Nat → Int32, z = Y.1 := ⟨_, rfl⟩
  replace hl : lv_has ls 14 [(0, .ref sh), (1, .int (V 0)), (2, .int (V 1)), (3, .int (V 2)), (4, .int (V 3)), (5, .int (V 4)), (6, .int (V 5)), (7, .int (V 6)), (8, .int (V 7)), (9, .int (nI j))] := by subst e9j e9V; exact hl
  obtain ⟨H, e9H⟩ : ∃ z : Heap, z = s.heap := ⟨_, rfl⟩
  replace hM : hp_H D ccl (hp_A M sz) M H := by rw [e9H]; exact hM
  replace hS : va_S (hp_A M sz) s.heap H [] := by rw [e9H]; exact hS
  rw [← e9H]
  clear e9H
  obtain ⟨locs, e9L⟩ : ∃ z : List Loc, z = [] := ⟨_, rfl⟩
  replace hS : va_S (hp_A M sz) s.heap H locs := by rw [e9L]; exact hS
  rw [← e9L]
  clear e9L
  have hV : V = mixn Y.2.1 Y.1 j := by subst e9j e9V; rfl
  obtain ⟨fu, hn⟩ : ∃ fu : Nat, j + fu = 64 := ⟨64 - j, by omega⟩
  clear e9j e9V
  induction fu generalizing j V H locs ls with
  | zero =>
    have hn : j = 64 := by omega
    subst hn
    refine lv_iload hx hb d_SH_mixBlock_66 (lv_at hl 9 rfl) ?_
    refine lv_bipush (v := nI 64) hx hb d_SH_mixBlock_68 rfl ?_
    refine nb_ge (tgt := 209) hx hb d_SH_mixBlock_70 (by decide) (by omega) (by omega) (fun h1 => ?_) (fun h1 => ?_)
    · refine lv_aload_n hx hb d_SH_mixBlock_209 rfl (lv_at hl 0 rfl) ?_
      refine hp_get S hK hM i_SH f_sh rfl 0 (by decide) mf_SH_9 (fun _ h9 => h9) rfl d_SH_mixBlock_210 ?_
      refine lv_iconst (v := nI 0) hx hb d_SH_mixBlock_213 rfl ?_
      refine lv_dup2_11 hx hb d_SH_mixBlock_214 rfl rfl ?_
      refine hp_iald S hK hM 1 f_su rfl 0 rfl (by omega) (by omega) d_SH_mixBlock_215 ?_
      refine lv_iload_n hx hb d_SH_mixBlock_216 rfl (lv_at hl 1 rfl) ?_
      refine lv_iadd hx hb d_SH_mixBlock_217 ?_
      refine hp_iast S hK hM hS 1 f_su rfl 0 rfl (by omega) (by omega) d_SH_mixBlock_218 (fun H locs hM hS => ?_)
      have f_wo := hp_k (e := (.inl (ct 1, 8, .inl (upd (Y.1) 0 (((Y.1) 0) + (V 0)))))) (hp_ne f_wo f_su (by simp)) f_wo
      have f_sh := hp_k (e := (.inl (ct 1, 8, .inl (upd (Y.1) 0 (((Y.1) 0) + (V 0)))))) (hp_ne f_sh f_su (by simp)) f_sh
      have f_su : hp_up M su (.inl (ct 1, 8, .inl (upd (Y.1) 0 (((Y.1) 0) + (V 0))))) su = some (.inl (ct 1, 8, .inl (upd (Y.1) 0 (((Y.1) 0) + (V 0))))) := hp_us
      obtain ⟨M2, eM2⟩ : ∃ z, z = hp_up M su (.inl (ct 1, 8, .inl (upd (Y.1) 0 (((Y.1) 0) + (V 0))))) := ⟨_, rfl⟩
      rw [← eM2] at hM f_su f_wo f_sh
      refine lv_aload_n hx hb d_SH_mixBlock_219 rfl (lv_at hl 0 rfl) ?_
      refine hp_get S hK hM i_SH f_sh rfl 0 (by decide) mf_SH_9 (fun _ h9 => h9) rfl d_SH_mixBlock_220 ?_
      refine lv_iconst (v := nI 1) hx hb d_SH_mixBlock_223 rfl ?_
      refine lv_dup2_11 hx hb d_SH_mixBlock_224 rfl rfl ?_
      refine hp_iald S hK hM 1 f_su rfl 1 rfl (by omega) (by omega) d_SH_mixBlock_225 ?_
      refine lv_iload_n hx hb d_SH_mixBlock_226 rfl (lv_at hl 2 rfl) ?_
      refine lv_iadd hx hb d_SH_mixBlock_227 ?_
      refine hp_iast S hK hM hS 1 f_su rfl 1 rfl (by omega) (by omega) d_SH_mixBlock_228 (fun H locs hM hS => ?_)
      have f_wo := hp_k (e := (.inl (ct 1, 8, .inl (upd (upd (Y.1) 0 (((Y.1) 0) + (V 0))) 1 (((upd (Y.1) 0 (((Y.1) 0) + (V 0))) 1) + (V 1)))))) (hp_ne f_wo f_su (by simp)) f_wo
      have f_sh := hp_k (e := (.inl (ct 1, 8, .inl (upd (upd (Y.1) 0 (((Y.1) 0) + (V 0))) 1 (((upd (Y.1) 0 (((Y.1) 0) + (V 0))) 1) + (V 1)))))) (hp_ne f_sh f_su (by simp)) f_sh
      have f_su : hp_up M2 su (.inl (ct 1, 8, .inl (upd (upd (Y.1) 0 (((Y.1) 0) + (V 0))) 1 (((upd (Y.1) 0 (((Y.1) 0) + (V 0))) 1) + (V 1))))) su = some (.inl (ct 1, 8, .inl (upd (upd (Y.1) 0 (((Y.1) 0) + (V 0))) 1 (((upd (Y.1) 0 (((Y.1) 0) + (V 0))) 1) + (V 1))))) := hp_us
      obtain ⟨M3, eM3⟩ : ∃ z, z = hp_up M2 su (.inl (ct 1, 8, .inl (upd (upd (Y.1) 0 (((Y.1) 0) + (V 0))) 1 (((upd (Y.1) 0 (((Y.1) 0) + (V 0))) 1) + (V 1))))) := ⟨_, rfl⟩
      rw [← eM3] at hM f_su f_wo f_sh
      refine lv_aload_n hx hb d_SH_mixBlock_229 rfl (lv_at hl 0 rfl) ?_
      refine hp_get S hK hM i_SH f_sh rfl 0 (by decide) mf_SH_9 (fun _ h9 => h9) rfl d_SH_mixBlock_230 ?_
      refine lv_iconst (v := nI 2) hx hb d_SH_mixBlock_233 rfl ?_
      refine lv_dup2_11 hx hb d_SH_mixBlock_234 rfl rfl ?_
      refine hp_iald S hK hM 1 f_su rfl 2 rfl (by omega) (by omega) d_SH_mixBlock_235 ?_
      refine lv_iload_n hx hb d_SH_mixBlock_236 rfl (lv_at hl 3 rfl) ?_
      refine lv_iadd hx hb d_SH_mixBlock_237 ?_
      refine hp_iast S hK hM hS 1 f_su rfl 2 rfl (by omega) (by omega) d_SH_mixBlock_238 (fun H locs hM hS => ?_)
      have f_wo := hp_k (e := (.inl (ct 1, 8, .inl (upd (upd (upd (Y.1) 0 (((Y.1) 0) + (V 0))) 1 (((upd (Y.1) 0 (((Y.1) 0) + (V 0))) 1) + (V 1))) 2 (((upd (upd (Y.1) 0 (((Y.1) 0) + (V 0))) 1 (((upd (Y.1) 0 (((Y.1) 0) + (V 0))) 1) + (V 1))) 2) + (V 2)))))) (hp_ne f_wo f_su (by simp)) f_wo
      have f_sh := hp_k (e := (.inl (ct 1, 8, .inl (upd (upd (upd (Y.1) 0 (((Y.1) 0) + (V 0))) 1 (((upd (Y.1) 0 (((Y.1) 0) + (V 0))) 1) + (V 1))) 2 (((upd (upd (Y.1) 0 (((Y.1) 0) + (V 0))) 1 (((upd (Y.1) 0 (((Y.1) 0) + (V 0))) 1) + (V 1))) 2) + (V 2)))))) (hp_ne f_sh f_su (by simp)) f_sh
      have f_su : hp_up M3 su (.inl (ct 1, 8, .inl (upd (upd (upd (Y.1) 0 (((Y.1) 0) + (V 0))) 1 (((upd (Y.1) 0 (((Y.1) 0) + (V 0))) 1) + (V 1))) 2 (((upd (upd (Y.1) 0 (((Y.1) 0) + (V 0))) 1 (((upd (Y.1) 0 (((Y.1) 0) + (V 0))) 1) + (V 1))) 2) + (V 2))))) su = some (.inl (ct 1, 8, .inl (upd (upd (upd (Y.1) 0 (((Y.1) 0) + (V 0))) 1 (((upd (Y.1) 0 (((Y.1) 0) + (V 0))) 1) + (V 1))) 2 (((upd (upd (Y.1) 0 (((Y.1) 0) + (V 0))) 1 (((upd (Y.1) 0 (((Y.1) 0) + (V 0))) 1) + (V 1))) 2) + (V 2))))) := hp_us
      obtain ⟨M4, eM4⟩ : ∃ z, z = hp_up M3 su (.inl (ct 1, 8, .inl (upd (upd (upd (Y.1) 0 (((Y.1) 0) + (V 0))) 1 (((upd (Y.1) 0 (((Y.1) 0) + (V 0))) 1) + (V 1))) 2 (((upd (upd (Y.1) 0 (((Y.1) 0) + (V 0))) 1 (((upd (Y.1) 0 (((Y.1) 0) + (V 0))) 1) + (V 1))) 2) + (V 2))))) := ⟨_, rfl⟩
      rw [← eM4] at hM f_su f_wo f_sh
      refine lv_aload_n hx hb d_SH_mixBlock_239 rfl (lv_at hl 0 rfl) ?_
      refine hp_get S hK hM i_SH f_sh rfl 0 (by decide) mf_SH_9 (fun _ h9 => h9) rfl d_SH_mixBlock_240 ?_
      refine lv_iconst (v := nI 3) hx hb d_SH_mixBlock_243 rfl ?_
      refine lv_dup2_11 hx hb d_SH_mixBlock_244 rfl rfl ?_
      refine hp_iald S hK hM 1 f_su rfl 3 rfl (by omega) (by omega) d_SH_mixBlock_245 ?_
      refine lv_iload hx hb d_SH_mixBlock_246 (lv_at hl 4 rfl) ?_
      refine lv_iadd hx hb d_SH_mixBlock_248 ?_
      refine hp_iast S hK hM hS 1 f_su rfl 3 rfl (by omega) (by omega) d_SH_mixBlock_249 (fun H locs hM hS => ?_)
      have f_wo := hp_k (e := (.inl (ct 1, 8, .inl (upd (upd (upd (upd (Y.1) 0 (((Y.1) 0) + (V 0))) 1 (((upd (Y.1) 0 (((Y.1) 0) + (V 0))) 1) + (V 1))) 2 (((upd (upd (Y.1) 0 (((Y.1) 0) + (V 0))) 1 (((upd (Y.1) 0 (((Y.1) 0) + (V 0))) 1) + (V 1))) 2) + (V 2))) 3 (((upd (upd (upd (Y.1) 0 (((Y.1) 0) + (V 0))) 1 (((upd (Y.1) 0 (((Y.1) 0) + (V 0))) 1) + (V 1))) 2 (((upd (upd (Y.1) 0 (((Y.1) 0) + (V 0))) 1 (((upd (Y.1) 0 (((Y.1) 0) + (V 0))) 1) + (V 1))) 2) + (V 2))) 3) + (V 3)))))) (hp_ne f_wo f_su (by simp)) f_wo
      have f_sh := hp_k (e := (.inl (ct 1, 8, .inl (upd (upd (upd (upd (Y.1) 0 (((Y.1) 0) + (V 0))) 1 (((upd (Y.1) 0 (((Y.1) 0) + (V 0))) 1) + (V 1))) 2 (((upd (upd (Y.1) 0 (((Y.1) 0) + (V 0))) 1 (((upd (Y.1) 0 (((Y.1) 0) + (V 0))) 1) + (V 1))) 2) + (V 2))) 3 (((upd (upd (upd (Y.1) 0 (((Y.1) 0) + (V 0))) 1 (((upd (Y.1) 0 (((Y.1) 0) + (V 0))) 1) + (V 1))) 2 (((upd (upd (Y.1) 0 (((Y.1) 0) + (V 0))) 1 (((upd (Y.1) 0 (((Y.1) 0) + (V 0))) 1) + (V 1))) 2) + (V 2))) 3) + (V 3)))))) (hp_ne f_sh f_su (by simp)) f_sh
      have f_su : hp_up M4 su (.inl (ct 1, 8, .inl (upd (upd (upd (upd (Y.1) 0 (((Y.1) 0) + (V 0))) 1 (((upd (Y.1) 0 (((Y.1) 0) + (V 0))) 1) + (V 1))) 2 (((upd (upd (Y.1) 0 (((Y.1) 0) + (V 0))) 1 (((upd (Y.1) 0 (((Y.1) 0) + (V 0))) 1) + (V 1))) 2) + (V 2))) 3 (((upd (upd (upd (Y.1) 0 (((Y.1) 0) + (V 0))) 1 (((upd (Y.1) 0 (((Y.1) 0) + (V 0))) 1) + (V 1))) 2 (((upd (upd (Y.1) 0 (((Y.1) 0) + (V 0))) 1 (((upd (Y.1) 0 (((Y.1) 0) + (V 0))) 1) + (V 1))) 2) + (V 2))) 3) + (V 3))))) su = some (.inl (ct 1, 8, .inl (upd (upd (upd (upd (Y.1) 0 (((Y.1) 0) + (V 0))) 1 (((upd (Y.1) 0 (((Y.1) 0) + (V 0))) 1) + (V 1))) 2 (((upd (upd (Y.1) 0 (((Y.1) 0) + (V 0))) 1 (((upd (Y.1) 0 (((Y.1) 0) + (V 0))) 1) + (V 1))) 2) + (V 2))) 3 (((upd (upd (upd (Y.1) 0 (((Y.1) 0) + (V 0))) 1 (((upd (Y.1) 0 (((Y.1) 0) + (V 0))) 1) + (V 1))) 2 (((upd (upd (Y.1) 0 (((Y.1) 0) + (V 0))) 1 (((upd (Y.1) 0 (((Y.1) 0) + (V 0))) 1) + (V 1))) 2) + (V 2))) 3) + (V 3))))) := hp_us
      obtain ⟨M5, eM5⟩ : ∃ z, z = hp_up M4 su (.inl (ct 1, 8, .inl (upd (upd (upd (upd (Y.1) 0 (((Y.1) 0) + (V 0))) 1 (((upd (Y.1) 0 (((Y.1) 0) + (V 0))) 1) + (V 1))) 2 (((upd (upd (Y.1) 0 (((Y.1) 0) + (V 0))) 1 (((upd (Y.1) 0 (((Y.1) 0) + (V 0))) 1) + (V 1))) 2) + (V 2))) 3 (((upd (upd (upd (Y.1) 0 (((Y.1) 0) + (V 0))) 1 (((upd (Y.1) 0 (((Y.1) 0) + (V 0))) 1) + (V 1))) 2 (((upd (upd (Y.1) 0 (((Y.1) 0) + (V 0))) 1 (((upd (Y.1) 0 (((Y.1) 0) + (V 0))) 1) + (V 1))) 2) + (V 2))) 3) + (V 3))))) := ⟨_, rfl⟩
      rw [← eM5] at hM f_su f_wo f_sh
      refine lv_aload_n hx hb d_SH_mixBlock_250 rfl (lv_at hl 0 rfl) ?_
      refine hp_get S hK hM i_SH f_sh rfl 0 (by decide) mf_SH_9 (fun _ h9 => h9) rfl d_SH_mixBlock_251 ?_
      refine lv_iconst (v := nI 4) hx hb d_SH_mixBlock_254 rfl ?_
      refine lv_dup2_11 hx hb d_SH_mixBlock_255 rfl rfl ?_
      refine hp_iald S hK hM 1 f_su rfl 4 rfl (by omega) (by omega) d_SH_mixBlock_256 ?_
      refine lv_iload hx hb d_SH_mixBlock_257 (lv_at hl 5 rfl) ?_
      refine lv_iadd hx hb d_SH_mixBlock_259 ?_
      refine hp_iast S hK hM hS 1 f_su rfl 4 rfl (by omega) (by omega) d_SH_mixBlock_260 (fun H locs hM hS => ?_)
      have f_wo := hp_k (e := (.inl (ct 1, 8, .inl (upd (upd (upd (upd (upd (Y.1) 0 (((Y.1) 0) + (V 0))) 1 (((upd (Y.1) 0 (((Y.1) 0) + (V 0))) 1) + (V 1))) 2 (((upd (upd (Y.1) 0 (((Y.1) 0) + (V 0))) 1 (((upd (Y.1) 0 (((Y.1) 0) + (V 0))) 1) + (V 1))) 2) + (V 2))) 3 (((upd (upd (upd (Y.1) 0 (((Y.1) 0) + (V 0))) 1 (((upd (Y.1) 0 (((Y.1) 0) + (V 0))) 1) + (V 1))) 2 (((upd (upd (Y.1) 0 (((Y.1) 0) + (V 0))) 1 (((upd (Y.1) 0 (((Y.1) 0) + (V 0))) 1) + (V 1))) 2) + (V 2))) 3) + (V 3))) 4 (((upd (upd (upd (upd (Y.1) 0 (((Y.1) 0) + (V 0))) 1 (((upd (Y.1) 0 (((Y.1) 0) + (V 0))) 1) + (V 1))) 2 (((upd (upd (Y.1) 0 (((Y.1) 0) + (V 0))) 1 (((upd (Y.1) 0 (((Y.1) 0) + (V 0))) 1) + (V 1))) 2) + (V 2))) 3 (((upd (upd (upd (Y.1) 0 (((Y.1) 0) + (V 0))) 1 (((upd (Y.1) 0 (((Y.1) 0) + (V 0))) 1) + (V 1))) 2 (((upd (upd (Y.1) 0 (((Y.1) 0) + (V 0))) 1 (((upd (Y.1) 0 (((Y.1) 0) + (V 0))) 1) + (V 1))) 2) + (V 2))) 3) + (V 3))) 4) + (V 4)))))) (hp_ne f_wo f_su (by simp)) f_wo
      have f_sh := hp_k (e := (.inl (ct 1, 8, .inl (upd (upd (upd (upd (upd (Y.1) 0 (((Y.1) 0) + (V 0))) 1 (((upd (Y.1) 0 (((Y.1) 0) + (V 0))) 1) + (V 1))) 2 (((upd (upd (Y.1) 0 (((Y.1) 0) + (V 0))) 1 (((upd (Y.1) 0 (((Y.1) 0) + (V 0))) 1) + (V 1))) 2) + (V 2))) 3 (((upd (upd (upd (Y.1) 0 (((Y.1) 0) + (V 0))) 1 (((upd (Y.1) 0 (((Y.1) 0) + (V 0))) 1) + (V 1))) 2 (((upd (upd (Y.1) 0 (((Y.1) 0) + (V 0))) 1 (((upd (Y.1) 0 (((Y.1) 0) + (V 0))) 1) + (V 1))) 2) + (V 2))) 3) + (V 3))) 4 (((upd (upd (upd (upd (Y.1) 0 (((Y.1) 0) + (V 0))) 1 (((upd (Y.1) 0 (((Y.1) 0) + (V 0))) 1) + (V 1))) 2 (((upd (upd (Y.1) 0 (((Y.1) 0) + (V 0))) 1 (((upd (Y.1) 0 (((Y.1) 0) + (V 0))) 1) + (V 1))) 2) + (V 2))) 3 (((upd (upd (upd (Y.1) 0 (((Y.1) 0) + (V 0))) 1 (((upd (Y.1) 0 (((Y.1) 0) + (V 0))) 1) + (V 1))) 2 (((upd (upd (Y.1) 0 (((Y.1) 0) + (V 0))) 1 (((upd (Y.1) 0 (((Y.1) 0) + (V 0))) 1) + (V 1))) 2) + (V 2))) 3) + (V 3))) 4) + (V 4)))))) (hp_ne f_sh f_su (by simp)) f_sh
      have f_su : hp_up M5 su (.inl (ct 1, 8, .inl (upd (upd (upd (upd (upd (Y.1) 0 (((Y.1) 0) + (V 0))) 1 (((upd (Y.1) 0 (((Y.1) 0) + (V 0))) 1) + (V 1))) 2 (((upd (upd (Y.1) 0 (((Y.1) 0) + (V 0))) 1 (((upd (Y.1) 0 (((Y.1) 0) + (V 0))) 1) + (V 1))) 2) + (V 2))) 3 (((upd (upd (upd (Y.1) 0 (((Y.1) 0) + (V 0))) 1 (((upd (Y.1) 0 (((Y.1) 0) + (V 0))) 1) + (V 1))) 2 (((upd (upd (Y.1) 0 (((Y.1) 0) + (V 0))) 1 (((upd (Y.1) 0 (((Y.1) 0) + (V 0))) 1) + (V 1))) 2) + (V 2))) 3) + (V 3))) 4 (((upd (upd (upd (upd (Y.1) 0 (((Y.1) 0) + (V 0))) 1 (((upd (Y.1) 0 (((Y.1) 0) + (V 0))) 1) + (V 1))) 2 (((upd (upd (Y.1) 0 (((Y.1) 0) + (V 0))) 1 (((upd (Y.1) 0 (((Y.1) 0) + (V 0))) 1) + (V 1))) 2) + (V 2))) 3 (((upd (upd (upd (Y.1) 0 (((Y.1) 0) + (V 0))) 1 (((upd (Y.1) 0 (((Y.1) 0) + (V 0))) 1) + (V 1))) 2 (((upd (upd (Y.1) 0 (((Y.1) 0) + (V 0))) 1 (((upd (Y.1) 0 (((Y.1) 0) + (V 0))) 1) + (V 1))) 2) + (V 2))) 3) + (V 3))) 4) + (V 4))))) su = some (.inl (ct 1, 8, .inl (upd (upd (upd (upd (upd (Y.1) 0 (((Y.1) 0) + (V 0))) 1 (((upd (Y.1) 0 (((Y.1) 0) + (V 0))) 1) + (V 1))) 2 (((upd (upd (Y.1) 0 (((Y.1) 0) + (V 0))) 1 (((upd (Y.1) 0 (((Y.1) 0) + (V 0))) 1) + (V 1))) 2) + (V 2))) 3 (((upd (upd (upd (Y.1) 0 (((Y.1) 0) + (V 0))) 1 (((upd (Y.1) 0 (((Y.1) 0) + (V 0))) 1) + (V 1))) 2 (((upd (upd (Y.1) 0 (((Y.1) 0) + (V 0))) 1 (((upd (Y.1) 0 (((Y.1) 0) + (V 0))) 1) + (V 1))) 2) + (V 2))) 3) + (V 3))) 4 (((upd (upd (upd (upd (Y.1) 0 (((Y.1) 0) + (V 0))) 1 (((upd (Y.1) 0 (((Y.1) 0) + (V 0))) 1) + (V 1))) 2 (((upd (upd (Y.1) 0 (((Y.1) 0) + (V 0))) 1 (((upd (Y.1) 0 (((Y.1) 0) + (V 0))) 1) + (V 1))) 2) + (V 2))) 3 (((upd (upd (upd (Y.1) 0 (((Y.1) 0) + (V 0))) 1 (((upd (Y.1) 0 (((Y.1) 0) + (V 0))) 1) + (V 1))) 2 (((upd (upd (Y.1) 0 (((Y.1) 0) + (V 0))) 1 (((upd (Y.1) 0 (((Y.1) 0) + (V 0))) 1) + (V 1))) 2) + (V 2))) 3) + (V 3))) 4) + (V 4))))) := hp_us
      obtain ⟨M6, eM6⟩ : ∃ z, z = hp_up M5 su (.inl (ct 1, 8, .inl (upd (upd (upd (upd (upd (Y.1) 0 (((Y.1) 0) + (V 0))) 1 (((upd (Y.1) 0 (((Y.1) 0) + (V 0))) 1) + (V 1))) 2 (((upd (upd (Y.1) 0 (((Y.1) 0) + (V 0))) 1 (((upd (Y.1) 0 (((Y.1) 0) + (V 0))) 1) + (V 1))) 2) + (V 2))) 3 (((upd (upd (upd (Y.1) 0 (((Y.1) 0) + (V 0))) 1 (((upd (Y.1) 0 (((Y.1) 0) + (V 0))) 1) + (V 1))) 2 (((upd (upd (Y.1) 0 (((Y.1) 0) + (V 0))) 1 (((upd (Y.1) 0 (((Y.1) 0) + (V 0))) 1) + (V 1))) 2) + (V 2))) 3) + (V 3))) 4 (((upd (upd (upd (upd (Y.1) 0 (((Y.1) 0) + (V 0))) 1 (((upd (Y.1) 0 (((Y.1) 0) + (V 0))) 1) + (V 1))) 2 (((upd (upd (Y.1) 0 (((Y.1) 0) + (V 0))) 1 (((upd (Y.1) 0 (((Y.1) 0) + (V 0))) 1) + (V 1))) 2) + (V 2))) 3 (((upd (upd (upd (Y.1) 0 (((Y.1) 0) + (V 0))) 1 (((upd (Y.1) 0 (((Y.1) 0) + (V 0))) 1) + (V 1))) 2 (((upd (upd (Y.1) 0 (((Y.1) 0) + (V 0))) 1 (((upd (Y.1) 0 (((Y.1) 0) + (V 0))) 1) + (V 1))) 2) + (V 2))) 3) + (V 3))) 4) + (V 4))))) := ⟨_, rfl⟩
      rw [← eM6] at hM f_su f_wo f_sh
      refine lv_aload_n hx hb d_SH_mixBlock_261 rfl (lv_at hl 0 rfl) ?_
      refine hp_get S hK hM i_SH f_sh rfl 0 (by decide) mf_SH_9 (fun _ h9 => h9) rfl d_SH_mixBlock_262 ?_
      refine lv_iconst (v := nI 5) hx hb d_SH_mixBlock_265 rfl ?_
      refine lv_dup2_11 hx hb d_SH_mixBlock_266 rfl rfl ?_
      refine hp_iald S hK hM 1 f_su rfl 5 rfl (by omega) (by omega) d_SH_mixBlock_267 ?_
      refine lv_iload hx hb d_SH_mixBlock_268 (lv_at hl 6 rfl) ?_
      refine lv_iadd hx hb d_SH_mixBlock_270 ?_
      refine hp_iast S hK hM hS 1 f_su rfl 5 rfl (by omega) (by omega) d_SH_mixBlock_271 (fun H locs hM hS => ?_)
      have f_wo := hp_k (e := (.inl (ct 1, 8, .inl (upd (upd (upd (upd (upd (upd (Y.1) 0 (((Y.1) 0) + (V 0))) 1 (((upd (Y.1) 0 (((Y.1) 0) + (V 0))) 1) + (V 1))) 2 (((upd (upd (Y.1) 0 (((Y.1) 0) + (V 0))) 1 (((upd (Y.1) 0 (((Y.1) 0) + (V 0))) 1) + (V 1))) 2) + (V 2))) 3 (((upd (upd (upd (Y.1) 0 (((Y.1) 0) + (V 0))) 1 (((upd (Y.1) 0 (((Y.1) 0) + (V 0))) 1) + (V 1))) 2 (((upd (upd (Y.1) 0 (((Y.1) 0) + (V 0))) 1 (((upd (Y.1) 0 (((Y.1) 0) + (V 0))) 1) + (V 1))) 2) + (V 2))) 3) + (V 3))) 4 (((upd (upd (upd (upd (Y.1) 0 (((Y.1) 0) + (V 0))) 1 (((upd (Y.1) 0 (((Y.1) 0) + (V 0))) 1) + (V 1))) 2 (((upd (upd (Y.1) 0 (((Y.1) 0) + (V 0))) 1 (((upd (Y.1) 0 (((Y.1) 0) + (V 0))) 1) + (V 1))) 2) + (V 2))) 3 (((upd (upd (upd (Y.1) 0 (((Y.1) 0) + (V 0))) 1 (((upd (Y.1) 0 (((Y.1) 0) + (V 0))) 1) + (V 1))) 2 (((upd (upd (Y.1) 0 (((Y.1) 0) + (V 0))) 1 (((upd (Y.1) 0 (((Y.1) 0) + (V 0))) 1) + (V 1))) 2) + (V 2))) 3) + (V 3))) 4) + (V 4))) 5 (((upd (upd (upd (upd (upd (Y.1) 0 (((Y.1) 0) + (V 0))) 1 (((upd (Y.1) 0 (((Y.1) 0) + (V 0))) 1) + (V 1))) 2 (((upd (upd (Y.1) 0 (((Y.1) 0) + (V 0))) 1 (((upd (Y.1) 0 (((Y.1) 0) + (V 0))) 1) + (V 1))) 2) + (V 2))) 3 (((upd (upd (upd (Y.1) 0 (((Y.1) 0) + (V 0))) 1 (((upd (Y.1) 0 (((Y.1) 0) + (V 0))) 1) + (V 1))) 2 (((upd (upd (Y.1) 0 (((Y.1) 0) + (V 0))) 1 (((upd (Y.1) 0 (((Y.1) 0) + (V 0))) 1) + (V 1))) 2) + (V 2))) 3) + (V 3))) 4 (((upd (upd (upd (upd (Y.1) 0 (((Y.1) 0) + (V 0))) 1 (((upd (Y.1) 0 (((Y.1) 0) + (V 0))) 1) + (V 1))) 2 (((upd (upd (Y.1) 0 (((Y.1) 0) + (V 0))) 1 (((upd (Y.1) 0 (((Y.1) 0) + (V 0))) 1) + (V 1))) 2) + (V 2))) 3 (((upd (upd (upd (Y.1) 0 (((Y.1) 0) + (V 0))) 1 (((upd (Y.1) 0 (((Y.1) 0) + (V 0))) 1) + (V 1))) 2 (((upd (upd (Y.1) 0 (((Y.1) 0) + (V 0))) 1 (((upd (Y.1) 0 (((Y.1) 0) + (V 0))) 1) + (V 1))) 2) + (V 2))) 3) + (V 3))) 4) + (V 4))) 5) + (V 5)))))) (hp_ne f_wo f_su (by simp)) f_wo
      have f_sh := hp_k (e := (.inl (ct 1, 8, .inl (upd (upd (upd (upd (upd (upd (Y.1) 0 (((Y.1) 0) + (V 0))) 1 (((upd (Y.1) 0 (((Y.1) 0) + (V 0))) 1) + (V 1))) 2 (((upd (upd (Y.1) 0 (((Y.1) 0) + (V 0))) 1 (((upd (Y.1) 0 (((Y.1) 0) + (V 0))) 1) + (V 1))) 2) + (V 2))) 3 (((upd (upd (upd (Y.1) 0 (((Y.1) 0) + (V 0))) 1 (((upd (Y.1) 0 (((Y.1) 0) + (V 0))) 1) + (V 1))) 2 (((upd (upd (Y.1) 0 (((Y.1) 0) + (V 0))) 1 (((upd (Y.1) 0 (((Y.1) 0) + (V 0))) 1) + (V 1))) 2) + (V 2))) 3) + (V 3))) 4 (((upd (upd (upd (upd (Y.1) 0 (((Y.1) 0) + (V 0))) 1 (((upd (Y.1) 0 (((Y.1) 0) + (V 0))) 1) + (V 1))) 2 (((upd (upd (Y.1) 0 (((Y.1) 0) + (V 0))) 1 (((upd (Y.1) 0 (((Y.1) 0) + (V 0))) 1) + (V 1))) 2) + (V 2))) 3 (((upd (upd (upd (Y.1) 0 (((Y.1) 0) + (V 0))) 1 (((upd (Y.1) 0 (((Y.1) 0) + (V 0))) 1) + (V 1))) 2 (((upd (upd (Y.1) 0 (((Y.1) 0) + (V 0))) 1 (((upd (Y.1) 0 (((Y.1) 0) + (V 0))) 1) + (V 1))) 2) + (V 2))) 3) + (V 3))) 4) + (V 4))) 5 (((upd (upd (upd (upd (upd (Y.1) 0 (((Y.1) 0) + (V 0))) 1 (((upd (Y.1) 0 (((Y.1) 0) + (V 0))) 1) + (V 1))) 2 (((upd (upd (Y.1) 0 (((Y.1) 0) + (V 0))) 1 (((upd (Y.1) 0 (((Y.1) 0) + (V 0))) 1) + (V 1))) 2) + (V 2))) 3 (((upd (upd (upd (Y.1) 0 (((Y.1) 0) + (V 0))) 1 (((upd (Y.1) 0 (((Y.1) 0) + (V 0))) 1) + (V 1))) 2 (((upd (upd (Y.1) 0 (((Y.1) 0) + (V 0))) 1 (((upd (Y.1) 0 (((Y.1) 0) + (V 0))) 1) + (V 1))) 2) + (V 2))) 3) + (V 3))) 4 (((upd (upd (upd (upd (Y.1) 0 (((Y.1) 0) + (V 0))) 1 (((upd (Y.1) 0 (((Y.1) 0) + (V 0))) 1) + (V 1))) 2 (((upd (upd (Y.1) 0 (((Y.1) 0) + (V 0))) 1 (((upd (Y.1) 0 (((Y.1) 0) + (V 0))) 1) + (V 1))) 2) + (V 2))) 3 (((upd (upd (upd (Y.1) 0 (((Y.1) 0) + (V 0))) 1 (((upd (Y.1) 0 (((Y.1) 0) + (V 0))) 1) + (V 1))) 2 (((upd (upd (Y.1) 0 (((Y.1) 0) + (V 0))) 1 (((upd (Y.1) 0 (((Y.1) 0) + (V 0))) 1) + (V 1))) 2) + (V 2))) 3) + (V 3))) 4) + (V 4))) 5) + (V 5)))))) (hp_ne f_sh f_su (by simp)) f_sh
      have f_su : hp_up M6 su (.inl (ct 1, 8, .inl (upd (upd (upd (upd (upd (upd (Y.1) 0 (((Y.1) 0) + (V 0))) 1 (((upd (Y.1) 0 (((Y.1) 0) + (V 0))) 1) + (V 1))) 2 (((upd (upd (Y.1) 0 (((Y.1) 0) + (V 0))) 1 (((upd (Y.1) 0 (((Y.1) 0) + (V 0))) 1) + (V 1))) 2) + (V 2))) 3 (((upd (upd (upd (Y.1) 0 (((Y.1) 0) + (V 0))) 1 (((upd (Y.1) 0 (((Y.1) 0) + (V 0))) 1) + (V 1))) 2 (((upd (upd (Y.1) 0 (((Y.1) 0) + (V 0))) 1 (((upd (Y.1) 0 (((Y.1) 0) + (V 0))) 1) + (V 1))) 2) + (V 2))) 3) + (V 3))) 4 (((upd (upd (upd (upd (Y.1) 0 (((Y.1) 0) + (V 0))) 1 (((upd (Y.1) 0 (((Y.1) 0) + (V 0))) 1) + (V 1))) 2 (((upd (upd (Y.1) 0 (((Y.1) 0) + (V 0))) 1 (((upd (Y.1) 0 (((Y.1) 0) + (V 0))) 1) + (V 1))) 2) + (V 2))) 3 (((upd (upd (upd (Y.1) 0 (((Y.1) 0) + (V 0))) 1 (((upd (Y.1) 0 (((Y.1) 0) + (V 0))) 1) + (V 1))) 2 (((upd (upd (Y.1) 0 (((Y.1) 0) + (V 0))) 1 (((upd (Y.1) 0 (((Y.1) 0) + (V 0))) 1) + (V 1))) 2) + (V 2))) 3) + (V 3))) 4) + (V 4))) 5 (((upd (upd (upd (upd (upd (Y.1) 0 (((Y.1) 0) + (V 0))) 1 (((upd (Y.1) 0 (((Y.1) 0) + (V 0))) 1) + (V 1))) 2 (((upd (upd (Y.1) 0 (((Y.1) 0) + (V 0))) 1 (((upd (Y.1) 0 (((Y.1) 0) + (V 0))) 1) + (V 1))) 2) + (V 2))) 3 (((upd (upd (upd (Y.1) 0 (((Y.1) 0) + (V 0))) 1 (((upd (Y.1) 0 (((Y.1) 0) + (V 0))) 1) + (V 1))) 2 (((upd (upd (Y.1) 0 (((Y.1) 0) + (V 0))) 1 (((upd (Y.1) 0 (((Y.1) 0) + (V 0))) 1) + (V 1))) 2) + (V 2))) 3) + (V 3))) 4 (((upd (upd (upd (upd (Y.1) 0 (((Y.1) 0) + (V 0))) 1 (((upd (Y.1) 0 (((Y.1) 0) + (V 0))) 1) + (V 1))) 2 (((upd (upd (Y.1) 0 (((Y.1) 0) + (V 0))) 1 (((upd (Y.1) 0 (((Y.1) 0) + (V 0))) 1) + (V 1))) 2) + (V 2))) 3 (((upd (upd (upd (Y.1) 0 (((Y.1) 0) + (V 0))) 1 (((upd (Y.1) 0 (((Y.1) 0) + (V 0))) 1) + (V 1))) 2 (((upd (upd (Y.1) 0 (((Y.1) 0) + (V 0))) 1 (((upd (Y.1) 0 (((Y.1) 0) + (V 0))) 1) + (V 1))) 2) + (V 2))) 3) + (V 3))) 4) + (V 4))) 5) + (V 5))))) su = some (.inl (ct 1, 8, .inl (upd (upd (upd (upd (upd (upd (Y.1) 0 (((Y.1) 0) + (V 0))) 1 (((upd (Y.1) 0 (((Y.1) 0) + (V 0))) 1) + (V 1))) 2 (((upd (upd (Y.1) 0 (((Y.1) 0) + (V 0))) 1 (((upd (Y.1) 0 (((Y.1) 0) + (V 0))) 1) + (V 1))) 2) + (V 2))) 3 (((upd (upd (upd (Y.1) 0 (((Y.1) 0) + (V 0))) 1 (((upd (Y.1) 0 (((Y.1) 0) + (V 0))) 1) + (V 1))) 2 (((upd (upd (Y.1) 0 (((Y.1) 0) + (V 0))) 1 (((upd (Y.1) 0 (((Y.1) 0) + (V 0))) 1) + (V 1))) 2) + (V 2))) 3) + (V 3))) 4 (((upd (upd (upd (upd (Y.1) 0 (((Y.1) 0) + (V 0))) 1 (((upd (Y.1) 0 (((Y.1) 0) + (V 0))) 1) + (V 1))) 2 (((upd (upd (Y.1) 0 (((Y.1) 0) + (V 0))) 1 (((upd (Y.1) 0 (((Y.1) 0) + (V 0))) 1) + (V 1))) 2) + (V 2))) 3 (((upd (upd (upd (Y.1) 0 (((Y.1) 0) + (V 0))) 1 (((upd (Y.1) 0 (((Y.1) 0) + (V 0))) 1) + (V 1))) 2 (((upd (upd (Y.1) 0 (((Y.1) 0) + (V 0))) 1 (((upd (Y.1) 0 (((Y.1) 0) + (V 0))) 1) + (V 1))) 2) + (V 2))) 3) + (V 3))) 4) + (V 4))) 5 (((upd (upd (upd (upd (upd (Y.1) 0 (((Y.1) 0) + (V 0))) 1 (((upd (Y.1) 0 (((Y.1) 0) + (V 0))) 1) + (V 1))) 2 (((upd (upd (Y.1) 0 (((Y.1) 0) + (V 0))) 1 (((upd (Y.1) 0 (((Y.1) 0) + (V 0))) 1) + (V 1))) 2) + (V 2))) 3 (((upd (upd (upd (Y.1) 0 (((Y.1) 0) + (V 0))) 1 (((upd (Y.1) 0 (((Y.1) 0) + (V 0))) 1) + (V 1))) 2 (((upd (upd (Y.1) 0 (((Y.1) 0) + (V 0))) 1 (((upd (Y.1) 0 (((Y.1) 0) + (V 0))) 1) + (V 1))) 2) + (V 2))) 3) + (V 3))) 4 (((upd (upd (upd (upd (Y.1) 0 (((Y.1) 0) + (V 0))) 1 (((upd (Y.1) 0 (((Y.1) 0) + (V 0))) 1) + (V 1))) 2 (((upd (upd (Y.1) 0 (((Y.1) 0) + (V 0))) 1 (((upd (Y.1) 0 (((Y.1) 0) + (V 0))) 1) + (V 1))) 2) + (V 2))) 3 (((upd (upd (upd (Y.1) 0 (((Y.1) 0) + (V 0))) 1 (((upd (Y.1) 0 (((Y.1) 0) + (V 0))) 1) + (V 1))) 2 (((upd (upd (Y.1) 0 (((Y.1) 0) + (V 0))) 1 (((upd (Y.1) 0 (((Y.1) 0) + (V 0))) 1) + (V 1))) 2) + (V 2))) 3) + (V 3))) 4) + (V 4))) 5) + (V 5))))) := hp_us
      obtain ⟨M7, eM7⟩ : ∃ z, z = hp_up M6 su (.inl (ct 1, 8, .inl (upd (upd (upd (upd (upd (upd (Y.1) 0 (((Y.1) 0) + (V 0))) 1 (((upd (Y.1) 0 (((Y.1) 0) + (V 0))) 1) + (V 1))) 2 (((upd (upd (Y.1) 0 (((Y.1) 0) + (V 0))) 1 (((upd (Y.1) 0 (((Y.1) 0) + (V 0))) 1) + (V 1))) 2) + (V 2))) 3 (((upd (upd (upd (Y.1) 0 (((Y.1) 0) + (V 0))) 1 (((upd (Y.1) 0 (((Y.1) 0) + (V 0))) 1) + (V 1))) 2 (((upd (upd (Y.1) 0 (((Y.1) 0) + (V 0))) 1 (((upd (Y.1) 0 (((Y.1) 0) + (V 0))) 1) + (V 1))) 2) + (V 2))) 3) + (V 3))) 4 (((upd (upd (upd (upd (Y.1) 0 (((Y.1) 0) + (V 0))) 1 (((upd (Y.1) 0 (((Y.1) 0) + (V 0))) 1) + (V 1))) 2 (((upd (upd (Y.1) 0 (((Y.1) 0) + (V 0))) 1 (((upd (Y.1) 0 (((Y.1) 0) + (V 0))) 1) + (V 1))) 2) + (V 2))) 3 (((upd (upd (upd (Y.1) 0 (((Y.1) 0) + (V 0))) 1 (((upd (Y.1) 0 (((Y.1) 0) + (V 0))) 1) + (V 1))) 2 (((upd (upd (Y.1) 0 (((Y.1) 0) + (V 0))) 1 (((upd (Y.1) 0 (((Y.1) 0) + (V 0))) 1) + (V 1))) 2) + (V 2))) 3) + (V 3))) 4) + (V 4))) 5 (((upd (upd (upd (upd (upd (Y.1) 0 (((Y.1) 0) + (V 0))) 1 (((upd (Y.1) 0 (((Y.1) 0) + (V 0))) 1) + (V 1))) 2 (((upd (upd (Y.1) 0 (((Y.1) 0) + (V 0))) 1 (((upd (Y.1) 0 (((Y.1) 0) + (V 0))) 1) + (V 1))) 2) + (V 2))) 3 (((upd (upd (upd (Y.1) 0 (((Y.1) 0) + (V 0))) 1 (((upd (Y.1) 0 (((Y.1) 0) + (V 0))) 1) + (V 1))) 2 (((upd (upd (Y.1) 0 (((Y.1) 0) + (V 0))) 1 (((upd (Y.1) 0 (((Y.1) 0) + (V 0))) 1) + (V 1))) 2) + (V 2))) 3) + (V 3))) 4 (((upd (upd (upd (upd (Y.1) 0 (((Y.1) 0) + (V 0))) 1 (((upd (Y.1) 0 (((Y.1) 0) + (V 0))) 1) + (V 1))) 2 (((upd (upd (Y.1) 0 (((Y.1) 0) + (V 0))) 1 (((upd (Y.1) 0 (((Y.1) 0) + (V 0))) 1) + (V 1))) 2) + (V 2))) 3 (((upd (upd (upd (Y.1) 0 (((Y.1) 0) + (V 0))) 1 (((upd (Y.1) 0 (((Y.1) 0) + (V 0))) 1) + (V 1))) 2 (((upd (upd (Y.1) 0 (((Y.1) 0) + (V 0))) 1 (((upd (Y.1) 0 (((Y.1) 0) + (V 0))) 1) + (V 1))) 2) + (V 2))) 3) + (V 3))) 4) + (V 4))) 5) + (V 5))))) := ⟨_, rfl⟩
      rw [← eM7] at hM f_su f_wo f_sh
      refine lv_aload_n hx hb d_SH_mixBlock_272 rfl (lv_at hl 0 rfl) ?_
      refine hp_get S hK hM i_SH f_sh rfl 0 (by decide) mf_SH_9 (fun _ h9 => h9) rfl d_SH_mixBlock_273 ?_
      refine lv_bipush (v := nI 6) hx hb d_SH_mixBlock_276 rfl ?_
      refine lv_dup2_11 hx hb d_SH_mixBlock_278 rfl rfl ?_
      refine hp_iald S hK hM 1 f_su rfl 6 rfl (by omega) (by omega) d_SH_mixBlock_279 ?_
      refine lv_iload hx hb d_SH_mixBlock_280 (lv_at hl 7 rfl) ?_
      refine lv_iadd hx hb d_SH_mixBlock_282 ?_
      refine hp_iast S hK hM hS 1 f_su rfl 6 rfl (by omega) (by omega) d_SH_mixBlock_283 (fun H locs hM hS => ?_)
      have f_wo := hp_k (e := (.inl (ct 1, 8, .inl (upd (upd (upd (upd (upd (upd (upd (Y.1) 0 (((Y.1) 0) + (V 0))) 1 (((upd (Y.1) 0 (((Y.1) 0) + (V 0))) 1) + (V 1))) 2 (((upd (upd (Y.1) 0 (((Y.1) 0) + (V 0))) 1 (((upd (Y.1) 0 (((Y.1) 0) + (V 0))) 1) + (V 1))) 2) + (V 2))) 3 (((upd (upd (upd (Y.1) 0 (((Y.1) 0) + (V 0))) 1 (((upd (Y.1) 0 (((Y.1) 0) + (V 0))) 1) + (V 1))) 2 (((upd (upd (Y.1) 0 (((Y.1) 0) + (V 0))) 1 (((upd (Y.1) 0 (((Y.1) 0) + (V 0))) 1) + (V 1))) 2) + (V 2))) 3) + (V 3))) 4 (((upd (upd (upd (upd (Y.1) 0 (((Y.1) 0) + (V 0))) 1 (((upd (Y.1) 0 (((Y.1) 0) + (V 0))) 1) + (V 1))) 2 (((upd (upd (Y.1) 0 (((Y.1) 0) + (V 0))) 1 (((upd (Y.1) 0 (((Y.1) 0) + (V 0))) 1) + (V 1))) 2) + (V 2))) 3 (((upd (upd (upd (Y.1) 0 (((Y.1) 0) + (V 0))) 1 (((upd (Y.1) 0 (((Y.1) 0) + (V 0))) 1) + (V 1))) 2 (((upd (upd (Y.1) 0 (((Y.1) 0) + (V 0))) 1 (((upd (Y.1) 0 (((Y.1) 0) + (V 0))) 1) + (V 1))) 2) + (V 2))) 3) + (V 3))) 4) + (V 4))) 5 (((upd (upd (upd (upd (upd (Y.1) 0 (((Y.1) 0) + (V 0))) 1 (((upd (Y.1) 0 (((Y.1) 0) + (V 0))) 1) + (V 1))) 2 (((upd (upd (Y.1) 0 (((Y.1) 0) + (V 0))) 1 (((upd (Y.1) 0 (((Y.1) 0) + (V 0))) 1) + (V 1))) 2) + (V 2))) 3 (((upd (upd (upd (Y.1) 0 (((Y.1) 0) + (V 0))) 1 (((upd (Y.1) 0 (((Y.1) 0) + (V 0))) 1) + (V 1))) 2 (((upd (upd (Y.1) 0 (((Y.1) 0) + (V 0))) 1 (((upd (Y.1) 0 (((Y.1) 0) + (V 0))) 1) + (V 1))) 2) + (V 2))) 3) + (V 3))) 4 (((upd (upd (upd (upd (Y.1) 0 (((Y.1) 0) + (V 0))) 1 (((upd (Y.1) 0 (((Y.1) 0) + (V 0))) 1) + (V 1))) 2 (((upd (upd (Y.1) 0 (((Y.1) 0) + (V 0))) 1 (((upd (Y.1) 0 (((Y.1) 0) + (V 0))) 1) + (V 1))) 2) + (V 2))) 3 (((upd (upd (upd (Y.1) 0 (((Y.1) 0) + (V 0))) 1 (((upd (Y.1) 0 (((Y.1) 0) + (V 0))) 1) + (V 1))) 2 (((upd (upd (Y.1) 0 (((Y.1) 0) + (V 0))) 1 (((upd (Y.1) 0 (((Y.1) 0) + (V 0))) 1) + (V 1))) 2) + (V 2))) 3) + (V 3))) 4) + (V 4))) 5) + (V 5))) 6 (((upd (upd (upd (upd (upd (upd (Y.1) 0 (((Y.1) 0) + (V 0))) 1 (((upd (Y.1) 0 (((Y.1) 0) + (V 0))) 1) + (V 1))) 2 (((upd (upd (Y.1) 0 (((Y.1) 0) + (V 0))) 1 (((upd (Y.1) 0 (((Y.1) 0) + (V 0))) 1) + (V 1))) 2) + (V 2))) 3 (((upd (upd (upd (Y.1) 0 (((Y.1) 0) + (V 0))) 1 (((upd (Y.1) 0 (((Y.1) 0) + (V 0))) 1) + (V 1))) 2 (((upd (upd (Y.1) 0 (((Y.1) 0) + (V 0))) 1 (((upd (Y.1) 0 (((Y.1) 0) + (V 0))) 1) + (V 1))) 2) + (V 2))) 3) + (V 3))) 4 (((upd (upd (upd (upd (Y.1) 0 (((Y.1) 0) + (V 0))) 1 (((upd (Y.1) 0 (((Y.1) 0) + (V 0))) 1) + (V 1))) 2 (((upd (upd (Y.1) 0 (((Y.1) 0) + (V 0))) 1 (((upd (Y.1) 0 (((Y.1) 0) + (V 0))) 1) + (V 1))) 2) + (V 2))) 3 (((upd (upd (upd (Y.1) 0 (((Y.1) 0) + (V 0))) 1 (((upd (Y.1) 0 (((Y.1) 0) + (V 0))) 1) + (V 1))) 2 (((upd (upd (Y.1) 0 (((Y.1) 0) + (V 0))) 1 (((upd (Y.1) 0 (((Y.1) 0) + (V 0))) 1) + (V 1))) 2) + (V 2))) 3) + (V 3))) 4) + (V 4))) 5 (((upd (upd (upd (upd (upd (Y.1) 0 (((Y.1) 0) + (V 0))) 1 (((upd (Y.1) 0 (((Y.1) 0) + (V 0))) 1) + (V 1))) 2 (((upd (upd (Y.1) 0 (((Y.1) 0) + (V 0))) 1 (((upd (Y.1) 0 (((Y.1) 0) + (V 0))) 1) + (V 1))) 2) + (V 2))) 3 (((upd (upd (upd (Y.1) 0 (((Y.1) 0) + (V 0))) 1 (((upd (Y.1) 0 (((Y.1) 0) + (V 0))) 1) + (V 1))) 2 (((upd (upd (Y.1) 0 (((Y.1) 0) + (V 0))) 1 (((upd (Y.1) 0 (((Y.1) 0) + (V 0))) 1) + (V 1))) 2) + (V 2))) 3) + (V 3))) 4 (((upd (upd (upd (upd (Y.1) 0 (((Y.1) 0) + (V 0))) 1 (((upd (Y.1) 0 (((Y.1) 0) + (V 0))) 1) + (V 1))) 2 (((upd (upd (Y.1) 0 (((Y.1) 0) + (V 0))) 1 (((upd (Y.1) 0 (((Y.1) 0) + (V 0))) 1) + (V 1))) 2) + (V 2))) 3 (((upd (upd (upd (Y.1) 0 (((Y.1) 0) + (V 0))) 1 (((upd (Y.1) 0 (((Y.1) 0) + (V 0))) 1) + (V 1))) 2 (((upd (upd (Y.1) 0 (((Y.1) 0) + (V 0))) 1 (((upd (Y.1) 0 (((Y.1) 0) + (V 0))) 1) + (V 1))) 2) + (V 2))) 3) + (V 3))) 4) + (V 4))) 5) + (V 5))) 6) + (V 6)))))) (hp_ne f_wo f_su (by simp)) f_wo
      have f_sh := hp_k (e := (.inl (ct 1, 8, .inl (upd (upd (upd (upd (upd (upd (upd (Y.1) 0 (((Y.1) 0) + (V 0))) 1 (((upd (Y.1) 0 (((Y.1) 0) + (V 0))) 1) + (V 1))) 2 (((upd (upd (Y.1) 0 (((Y.1) 0) + (V 0))) 1 (((upd (Y.1) 0 (((Y.1) 0) + (V 0))) 1) + (V 1))) 2) + (V 2))) 3 (((upd (upd (upd (Y.1) 0 (((Y.1) 0) + (V 0))) 1 (((upd (Y.1) 0 (((Y.1) 0) + (V 0))) 1) + (V 1))) 2 (((upd (upd (Y.1) 0 (((Y.1) 0) + (V 0))) 1 (((upd (Y.1) 0 (((Y.1) 0) + (V 0))) 1) + (V 1))) 2) + (V 2))) 3) + (V 3))) 4 (((upd (upd (upd (upd (Y.1) 0 (((Y.1) 0) + (V 0))) 1 (((upd (Y.1) 0 (((Y.1) 0) + (V 0))) 1) + (V 1))) 2 (((upd (upd (Y.1) 0 (((Y.1) 0) + (V 0))) 1 (((upd (Y.1) 0 (((Y.1) 0) + (V 0))) 1) + (V 1))) 2) + (V 2))) 3 (((upd (upd (upd (Y.1) 0 (((Y.1) 0) + (V 0))) 1 (((upd (Y.1) 0 (((Y.1) 0) + (V 0))) 1) + (V 1))) 2 (((upd (upd (Y.1) 0 (((Y.1) 0) + (V 0))) 1 (((upd (Y.1) 0 (((Y.1) 0) + (V 0))) 1) + (V 1))) 2) + (V 2))) 3) + (V 3))) 4) + (V 4))) 5 (((upd (upd (upd (upd (upd (Y.1) 0 (((Y.1) 0) + (V 0))) 1 (((upd (Y.1) 0 (((Y.1) 0) + (V 0))) 1) + (V 1))) 2 (((upd (upd (Y.1) 0 (((Y.1) 0) + (V 0))) 1 (((upd (Y.1) 0 (((Y.1) 0) + (V 0))) 1) + (V 1))) 2) + (V 2))) 3 (((upd (upd (upd (Y.1) 0 (((Y.1) 0) + (V 0))) 1 (((upd (Y.1) 0 (((Y.1) 0) + (V 0))) 1) + (V 1))) 2 (((upd (upd (Y.1) 0 (((Y.1) 0) + (V 0))) 1 (((upd (Y.1) 0 (((Y.1) 0) + (V 0))) 1) + (V 1))) 2) + (V 2))) 3) + (V 3))) 4 (((upd (upd (upd (upd (Y.1) 0 (((Y.1) 0) + (V 0))) 1 (((upd (Y.1) 0 (((Y.1) 0) + (V 0))) 1) + (V 1))) 2 (((upd (upd (Y.1) 0 (((Y.1) 0) + (V 0))) 1 (((upd (Y.1) 0 (((Y.1) 0) + (V 0))) 1) + (V 1))) 2) + (V 2))) 3 (((upd (upd (upd (Y.1) 0 (((Y.1) 0) + (V 0))) 1 (((upd (Y.1) 0 (((Y.1) 0) + (V 0))) 1) + (V 1))) 2 (((upd (upd (Y.1) 0 (((Y.1) 0) + (V 0))) 1 (((upd (Y.1) 0 (((Y.1) 0) + (V 0))) 1) + (V 1))) 2) + (V 2))) 3) + (V 3))) 4) + (V 4))) 5) + (V 5))) 6 (((upd (upd (upd (upd (upd (upd (Y.1) 0 (((Y.1) 0) + (V 0))) 1 (((upd (Y.1) 0 (((Y.1) 0) + (V 0))) 1) + (V 1))) 2 (((upd (upd (Y.1) 0 (((Y.1) 0) + (V 0))) 1 (((upd (Y.1) 0 (((Y.1) 0) + (V 0))) 1) + (V 1))) 2) + (V 2))) 3 (((upd (upd (upd (Y.1) 0 (((Y.1) 0) + (V 0))) 1 (((upd (Y.1) 0 (((Y.1) 0) + (V 0))) 1) + (V 1))) 2 (((upd (upd (Y.1) 0 (((Y.1) 0) + (V 0))) 1 (((upd (Y.1) 0 (((Y.1) 0) + (V 0))) 1) + (V 1))) 2) + (V 2))) 3) + (V 3))) 4 (((upd (upd (upd (upd (Y.1) 0 (((Y.1) 0) + (V 0))) 1 (((upd (Y.1) 0 (((Y.1) 0) + (V 0))) 1) + (V 1))) 2 (((upd (upd (Y.1) 0 (((Y.1) 0) + (V 0))) 1 (((upd (Y.1) 0 (((Y.1) 0) + (V 0))) 1) + (V 1))) 2) + (V 2))) 3 (((upd (upd (upd (Y.1) 0 (((Y.1) 0) + (V 0))) 1 (((upd (Y.1) 0 (((Y.1) 0) + (V 0))) 1) + (V 1))) 2 (((upd (upd (Y.1) 0 (((Y.1) 0) + (V 0))) 1 (((upd (Y.1) 0 (((Y.1) 0) + (V 0))) 1) + (V 1))) 2) + (V 2))) 3) + (V 3))) 4) + (V 4))) 5 (((upd (upd (upd (upd (upd (Y.1) 0 (((Y.1) 0) + (V 0))) 1 (((upd (Y.1) 0 (((Y.1) 0) + (V 0))) 1) + (V 1))) 2 (((upd (upd (Y.1) 0 (((Y.1) 0) + (V 0))) 1 (((upd (Y.1) 0 (((Y.1) 0) + (V 0))) 1) + (V 1))) 2) + (V 2))) 3 (((upd (upd (upd (Y.1) 0 (((Y.1) 0) + (V 0))) 1 (((upd (Y.1) 0 (((Y.1) 0) + (V 0))) 1) + (V 1))) 2 (((upd (upd (Y.1) 0 (((Y.1) 0) + (V 0))) 1 (((upd (Y.1) 0 (((Y.1) 0) + (V 0))) 1) + (V 1))) 2) + (V 2))) 3) + (V 3))) 4 (((upd (upd (upd (upd (Y.1) 0 (((Y.1) 0) + (V 0))) 1 (((upd (Y.1) 0 (((Y.1) 0) + (V 0))) 1) + (V 1))) 2 (((upd (upd (Y.1) 0 (((Y.1) 0) + (V 0))) 1 (((upd (Y.1) 0 (((Y.1) 0) + (V 0))) 1) + (V 1))) 2) + (V 2))) 3 (((upd (upd (upd (Y.1) 0 (((Y.1) 0) + (V 0))) 1 (((upd (Y.1) 0 (((Y.1) 0) + (V 0))) 1) + (V 1))) 2 (((upd (upd (Y.1) 0 (((Y.1) 0) + (V 0))) 1 (((upd (Y.1) 0 (((Y.1) 0) + (V 0))) 1) + (V 1))) 2) + (V 2))) 3) + (V 3))) 4) + (V 4))) 5) + (V 5))) 6) + (V 6)))))) (hp_ne f_sh f_su (by simp)) f_sh
      have f_su : hp_up M7 su (.inl (ct 1, 8, .inl (upd (upd (upd (upd (upd (upd (upd (Y.1) 0 (((Y.1) 0) + (V 0))) 1 (((upd (Y.1) 0 (((Y.1) 0) + (V 0))) 1) + (V 1))) 2 (((upd (upd (Y.1) 0 (((Y.1) 0) + (V 0))) 1 (((upd (Y.1) 0 (((Y.1) 0) + (V 0))) 1) + (V 1))) 2) + (V 2))) 3 (((upd (upd (upd (Y.1) 0 (((Y.1) 0) + (V 0))) 1 (((upd (Y.1) 0 (((Y.1) 0) + (V 0))) 1) + (V 1))) 2 (((upd (upd (Y.1) 0 (((Y.1) 0) + (V 0))) 1 (((upd (Y.1) 0 (((Y.1) 0) + (V 0))) 1) + (V 1))) 2) + (V 2))) 3) + (V 3))) 4 (((upd (upd (upd (upd (Y.1) 0 (((Y.1) 0) + (V 0))) 1 (((upd (Y.1) 0 (((Y.1) 0) + (V 0))) 1) + (V 1))) 2 (((upd (upd (Y.1) 0 (((Y.1) 0) + (V 0))) 1 (((upd (Y.1) 0 (((Y.1) 0) + (V 0))) 1) + (V 1))) 2) + (V 2))) 3 (((upd (upd (upd (Y.1) 0 (((Y.1) 0) + (V 0))) 1 (((upd (Y.1) 0 (((Y.1) 0) + (V 0))) 1) + (V 1))) 2 (((upd (upd (Y.1) 0 (((Y.1) 0) + (V 0))) 1 (((upd (Y.1) 0 (((Y.1) 0) + (V 0))) 1) + (V 1))) 2) + (V 2))) 3) + (V 3))) 4) + (V 4))) 5 (((upd (upd (upd (upd (upd (Y.1) 0 (((Y.1) 0) + (V 0))) 1 (((upd (Y.1) 0 (((Y.1) 0) + (V 0))) 1) + (V 1))) 2 (((upd (upd (Y.1) 0 (((Y.1) 0) + (V 0))) 1 (((upd (Y.1) 0 (((Y.1) 0) + (V 0))) 1) + (V 1))) 2) + (V 2))) 3 (((upd (upd (upd (Y.1) 0 (((Y.1) 0) + (V 0))) 1 (((upd (Y.1) 0 (((Y.1) 0) + (V 0))) 1) + (V 1))) 2 (((upd (upd (Y.1) 0 (((Y.1) 0) + (V 0))) 1 (((upd (Y.1) 0 (((Y.1) 0) + (V 0))) 1) + (V 1))) 2) + (V 2))) 3) + (V 3))) 4 (((upd (upd (upd (upd (Y.1) 0 (((Y.1) 0) + (V 0))) 1 (((upd (Y.1) 0 (((Y.1) 0) + (V 0))) 1) + (V 1))) 2 (((upd (upd (Y.1) 0 (((Y.1) 0) + (V 0))) 1 (((upd (Y.1) 0 (((Y.1) 0) + (V 0))) 1) + (V 1))) 2) + (V 2))) 3 (((upd (upd (upd (Y.1) 0 (((Y.1) 0) + (V 0))) 1 (((upd (Y.1) 0 (((Y.1) 0) + (V 0))) 1) + (V 1))) 2 (((upd (upd (Y.1) 0 (((Y.1) 0) + (V 0))) 1 (((upd (Y.1) 0 (((Y.1) 0) + (V 0))) 1) + (V 1))) 2) + (V 2))) 3) + (V 3))) 4) + (V 4))) 5) + (V 5))) 6 (((upd (upd (upd (upd (upd (upd (Y.1) 0 (((Y.1) 0) + (V 0))) 1 (((upd (Y.1) 0 (((Y.1) 0) + (V 0))) 1) + (V 1))) 2 (((upd (upd (Y.1) 0 (((Y.1) 0) + (V 0))) 1 (((upd (Y.1) 0 (((Y.1) 0) + (V 0))) 1) + (V 1))) 2) + (V 2))) 3 (((upd (upd (upd (Y.1) 0 (((Y.1) 0) + (V 0))) 1 (((upd (Y.1) 0 (((Y.1) 0) + (V 0))) 1) + (V 1))) 2 (((upd (upd (Y.1) 0 (((Y.1) 0) + (V 0))) 1 (((upd (Y.1) 0 (((Y.1) 0) + (V 0))) 1) + (V 1))) 2) + (V 2))) 3) + (V 3))) 4 (((upd (upd (upd (upd (Y.1) 0 (((Y.1) 0) + (V 0))) 1 (((upd (Y.1) 0 (((Y.1) 0) + (V 0))) 1) + (V 1))) 2 (((upd (upd (Y.1) 0 (((Y.1) 0) + (V 0))) 1 (((upd (Y.1) 0 (((Y.1) 0) + (V 0))) 1) + (V 1))) 2) + (V 2))) 3 (((upd (upd (upd (Y.1) 0 (((Y.1) 0) + (V 0))) 1 (((upd (Y.1) 0 (((Y.1) 0) + (V 0))) 1) + (V 1))) 2 (((upd (upd (Y.1) 0 (((Y.1) 0) + (V 0))) 1 (((upd (Y.1) 0 (((Y.1) 0) + (V 0))) 1) + (V 1))) 2) + (V 2))) 3) + (V 3))) 4) + (V 4))) 5 (((upd (upd (upd (upd (upd (Y.1) 0 (((Y.1) 0) + (V 0))) 1 (((upd (Y.1) 0 (((Y.1) 0) + (V 0))) 1) + (V 1))) 2 (((upd (upd (Y.1) 0 (((Y.1) 0) + (V 0))) 1 (((upd (Y.1) 0 (((Y.1) 0) + (V 0))) 1) + (V 1))) 2) + (V 2))) 3 (((upd (upd (upd (Y.1) 0 (((Y.1) 0) + (V 0))) 1 (((upd (Y.1) 0 (((Y.1) 0) + (V 0))) 1) + (V 1))) 2 (((upd (upd (Y.1) 0 (((Y.1) 0) + (V 0))) 1 (((upd (Y.1) 0 (((Y.1) 0) + (V 0))) 1) + (V 1))) 2) + (V 2))) 3) + (V 3))) 4 (((upd (upd (upd (upd (Y.1) 0 (((Y.1) 0) + (V 0))) 1 (((upd (Y.1) 0 (((Y.1) 0) + (V 0))) 1) + (V 1))) 2 (((upd (upd (Y.1) 0 (((Y.1) 0) + (V 0))) 1 (((upd (Y.1) 0 (((Y.1) 0) + (V 0))) 1) + (V 1))) 2) + (V 2))) 3 (((upd (upd (upd (Y.1) 0 (((Y.1) 0) + (V 0))) 1 (((upd (Y.1) 0 (((Y.1) 0) + (V 0))) 1) + (V 1))) 2 (((upd (upd (Y.1) 0 (((Y.1) 0) + (V 0))) 1 (((upd (Y.1) 0 (((Y.1) 0) + (V 0))) 1) + (V 1))) 2) + (V 2))) 3) + (V 3))) 4) + (V 4))) 5) + (V 5))) 6) + (V 6))))) su = some (.inl (ct 1, 8, .inl (upd (upd (upd (upd (upd (upd (upd (Y.1) 0 (((Y.1) 0) + (V 0))) 1 (((upd (Y.1) 0 (((Y.1) 0) + (V 0))) 1) + (V 1))) 2 (((upd (upd (Y.1) 0 (((Y.1) 0) + (V 0))) 1 (((upd (Y.1) 0 (((Y.1) 0) + (V 0))) 1) + (V 1))) 2) + (V 2))) 3 (((upd (upd (upd (Y.1) 0 (((Y.1) 0) + (V 0))) 1 (((upd (Y.1) 0 (((Y.1) 0) + (V 0))) 1) + (V 1))) 2 (((upd (upd (Y.1) 0 (((Y.1) 0) + (V 0))) 1 (((upd (Y.1) 0 (((Y.1) 0) + (V 0))) 1) + (V 1))) 2) + (V 2))) 3) + (V 3))) 4 (((upd (upd (upd (upd (Y.1) 0 (((Y.1) 0) + (V 0))) 1 (((upd (Y.1) 0 (((Y.1) 0) + (V 0))) 1) + (V 1))) 2 (((upd (upd (Y.1) 0 (((Y.1) 0) + (V 0))) 1 (((upd (Y.1) 0 (((Y.1) 0) + (V 0))) 1) + (V 1))) 2) + (V 2))) 3 (((upd (upd (upd (Y.1) 0 (((Y.1) 0) + (V 0))) 1 (((upd (Y.1) 0 (((Y.1) 0) + (V 0))) 1) + (V 1))) 2 (((upd (upd (Y.1) 0 (((Y.1) 0) + (V 0))) 1 (((upd (Y.1) 0 (((Y.1) 0) + (V 0))) 1) + (V 1))) 2) + (V 2))) 3) + (V 3))) 4) + (V 4))) 5 (((upd (upd (upd (upd (upd (Y.1) 0 (((Y.1) 0) + (V 0))) 1 (((upd (Y.1) 0 (((Y.1) 0) + (V 0))) 1) + (V 1))) 2 (((upd (upd (Y.1) 0 (((Y.1) 0) + (V 0))) 1 (((upd (Y.1) 0 (((Y.1) 0) + (V 0))) 1) + (V 1))) 2) + (V 2))) 3 (((upd (upd (upd (Y.1) 0 (((Y.1) 0) + (V 0))) 1 (((upd (Y.1) 0 (((Y.1) 0) + (V 0))) 1) + (V 1))) 2 (((upd (upd (Y.1) 0 (((Y.1) 0) + (V 0))) 1 (((upd (Y.1) 0 (((Y.1) 0) + (V 0))) 1) + (V 1))) 2) + (V 2))) 3) + (V 3))) 4 (((upd (upd (upd (upd (Y.1) 0 (((Y.1) 0) + (V 0))) 1 (((upd (Y.1) 0 (((Y.1) 0) + (V 0))) 1) + (V 1))) 2 (((upd (upd (Y.1) 0 (((Y.1) 0) + (V 0))) 1 (((upd (Y.1) 0 (((Y.1) 0) + (V 0))) 1) + (V 1))) 2) + (V 2))) 3 (((upd (upd (upd (Y.1) 0 (((Y.1) 0) + (V 0))) 1 (((upd (Y.1) 0 (((Y.1) 0) + (V 0))) 1) + (V 1))) 2 (((upd (upd (Y.1) 0 (((Y.1) 0) + (V 0))) 1 (((upd (Y.1) 0 (((Y.1) 0) + (V 0))) 1) + (V 1))) 2) + (V 2))) 3) + (V 3))) 4) + (V 4))) 5) + (V 5))) 6 (((upd (upd (upd (upd (upd (upd (Y.1) 0 (((Y.1) 0) + (V 0))) 1 (((upd (Y.1) 0 (((Y.1) 0) + (V 0))) 1) + (V 1))) 2 (((upd (upd (Y.1) 0 (((Y.1) 0) + (V 0))) 1 (((upd (Y.1) 0 (((Y.1) 0) + (V 0))) 1) + (V 1))) 2) + (V 2))) 3 (((upd (upd (upd (Y.1) 0 (((Y.1) 0) + (V 0))) 1 (((upd (Y.1) 0 (((Y.1) 0) + (V 0))) 1) + (V 1))) 2 (((upd (upd (Y.1) 0 (((Y.1) 0) + (V 0))) 1 (((upd (Y.1) 0 (((Y.1) 0) + (V 0))) 1) + (V 1))) 2) + (V 2))) 3) + (V 3))) 4 (((upd (upd (upd (upd (Y.1) 0 (((Y.1) 0) + (V 0))) 1 (((upd (Y.1) 0 (((Y.1) 0) + (V 0))) 1) + (V 1))) 2 (((upd (upd (Y.1) 0 (((Y.1) 0) + (V 0))) 1 (((upd (Y.1) 0 (((Y.1) 0) + (V 0))) 1) + (V 1))) 2) + (V 2))) 3 (((upd (upd (upd (Y.1) 0 (((Y.1) 0) + (V 0))) 1 (((upd (Y.1) 0 (((Y.1) 0) + (V 0))) 1) + (V 1))) 2 (((upd (upd (Y.1) 0 (((Y.1) 0) + (V 0))) 1 (((upd (Y.1) 0 (((Y.1) 0) + (V 0))) 1) + (V 1))) 2) + (V 2))) 3) + (V 3))) 4) + (V 4))) 5 (((upd (upd (upd (upd (upd (Y.1) 0 (((Y.1) 0) + (V 0))) 1 (((upd (Y.1) 0 (((Y.1) 0) + (V 0))) 1) + (V 1))) 2 (((upd (upd (Y.1) 0 (((Y.1) 0) + (V 0))) 1 (((upd (Y.1) 0 (((Y.1) 0) + (V 0))) 1) + (V 1))) 2) + (V 2))) 3 (((upd (upd (upd (Y.1) 0 (((Y.1) 0) + (V 0))) 1 (((upd (Y.1) 0 (((Y.1) 0) + (V 0))) 1) + (V 1))) 2 (((upd (upd (Y.1) 0 (((Y.1) 0) + (V 0))) 1 (((upd (Y.1) 0 (((Y.1) 0) + (V 0))) 1) + (V 1))) 2) + (V 2))) 3) + (V 3))) 4 (((upd (upd (upd (upd (Y.1) 0 (((Y.1) 0) + (V 0))) 1 (((upd (Y.1) 0 (((Y.1) 0) + (V 0))) 1) + (V 1))) 2 (((upd (upd (Y.1) 0 (((Y.1) 0) + (V 0))) 1 (((upd (Y.1) 0 (((Y.1) 0) + (V 0))) 1) + (V 1))) 2) + (V 2))) 3 (((upd (upd (upd (Y.1) 0 (((Y.1) 0) + (V 0))) 1 (((upd (Y.1) 0 (((Y.1) 0) + (V 0))) 1) + (V 1))) 2 (((upd (upd (Y.1) 0 (((Y.1) 0) + (V 0))) 1 (((upd (Y.1) 0 (((Y.1) 0) + (V 0))) 1) + (V 1))) 2) + (V 2))) 3) + (V 3))) 4) + (V 4))) 5) + (V 5))) 6) + (V 6))))) := hp_us
      obtain ⟨M8, eM8⟩ : ∃ z, z = hp_up M7 su (.inl (ct 1, 8, .inl (upd (upd (upd (upd (upd (upd (upd (Y.1) 0 (((Y.1) 0) + (V 0))) 1 (((upd (Y.1) 0 (((Y.1) 0) + (V 0))) 1) + (V 1))) 2 (((upd (upd (Y.1) 0 (((Y.1) 0) + (V 0))) 1 (((upd (Y.1) 0 (((Y.1) 0) + (V 0))) 1) + (V 1))) 2) + (V 2))) 3 (((upd (upd (upd (Y.1) 0 (((Y.1) 0) + (V 0))) 1 (((upd (Y.1) 0 (((Y.1) 0) + (V 0))) 1) + (V 1))) 2 (((upd (upd (Y.1) 0 (((Y.1) 0) + (V 0))) 1 (((upd (Y.1) 0 (((Y.1) 0) + (V 0))) 1) + (V 1))) 2) + (V 2))) 3) + (V 3))) 4 (((upd (upd (upd (upd (Y.1) 0 (((Y.1) 0) + (V 0))) 1 (((upd (Y.1) 0 (((Y.1) 0) + (V 0))) 1) + (V 1))) 2 (((upd (upd (Y.1) 0 (((Y.1) 0) + (V 0))) 1 (((upd (Y.1) 0 (((Y.1) 0) + (V 0))) 1) + (V 1))) 2) + (V 2))) 3 (((upd (upd (upd (Y.1) 0 (((Y.1) 0) + (V 0))) 1 (((upd (Y.1) 0 (((Y.1) 0) + (V 0))) 1) + (V 1))) 2 (((upd (upd (Y.1) 0 (((Y.1) 0) + (V 0))) 1 (((upd (Y.1) 0 (((Y.1) 0) + (V 0))) 1) + (V 1))) 2) + (V 2))) 3) + (V 3))) 4) + (V 4))) 5 (((upd (upd (upd (upd (upd (Y.1) 0 (((Y.1) 0) + (V 0))) 1 (((upd (Y.1) 0 (((Y.1) 0) + (V 0))) 1) + (V 1))) 2 (((upd (upd (Y.1) 0 (((Y.1) 0) + (V 0))) 1 (((upd (Y.1) 0 (((Y.1) 0) + (V 0))) 1) + (V 1))) 2) + (V 2))) 3 (((upd (upd (upd (Y.1) 0 (((Y.1) 0) + (V 0))) 1 (((upd (Y.1) 0 (((Y.1) 0) + (V 0))) 1) + (V 1))) 2 (((upd (upd (Y.1) 0 (((Y.1) 0) + (V 0))) 1 (((upd (Y.1) 0 (((Y.1) 0) + (V 0))) 1) + (V 1))) 2) + (V 2))) 3) + (V 3))) 4 (((upd (upd (upd (upd (Y.1) 0 (((Y.1) 0) + (V 0))) 1 (((upd (Y.1) 0 (((Y.1) 0) + (V 0))) 1) + (V 1))) 2 (((upd (upd (Y.1) 0 (((Y.1) 0) + (V 0))) 1 (((upd (Y.1) 0 (((Y.1) 0) + (V 0))) 1) + (V 1))) 2) + (V 2))) 3 (((upd (upd (upd (Y.1) 0 (((Y.1) 0) + (V 0))) 1 (((upd (Y.1) 0 (((Y.1) 0) + (V 0))) 1) + (V 1))) 2 (((upd (upd (Y.1) 0 (((Y.1) 0) + (V 0))) 1 (((upd (Y.1) 0 (((Y.1) 0) + (V 0))) 1) + (V 1))) 2) + (V 2))) 3) + (V 3))) 4) + (V 4))) 5) + (V 5))) 6 (((upd (upd (upd (upd (upd (upd (Y.1) 0 (((Y.1) 0) + (V 0))) 1 (((upd (Y.1) 0 (((Y.1) 0) + (V 0))) 1) + (V 1))) 2 (((upd (upd (Y.1) 0 (((Y.1) 0) + (V 0))) 1 (((upd (Y.1) 0 (((Y.1) 0) + (V 0))) 1) + (V 1))) 2) + (V 2))) 3 (((upd (upd (upd (Y.1) 0 (((Y.1) 0) + (V 0))) 1 (((upd (Y.1) 0 (((Y.1) 0) + (V 0))) 1) + (V 1))) 2 (((upd (upd (Y.1) 0 (((Y.1) 0) + (V 0))) 1 (((upd (Y.1) 0 (((Y.1) 0) + (V 0))) 1) + (V 1))) 2) + (V 2))) 3) + (V 3))) 4 (((upd (upd (upd (upd (Y.1) 0 (((Y.1) 0) + (V 0))) 1 (((upd (Y.1) 0 (((Y.1) 0) + (V 0))) 1) + (V 1))) 2 (((upd (upd (Y.1) 0 (((Y.1) 0) + (V 0))) 1 (((upd (Y.1) 0 (((Y.1) 0) + (V 0))) 1) + (V 1))) 2) + (V 2))) 3 (((upd (upd (upd (Y.1) 0 (((Y.1) 0) + (V 0))) 1 (((upd (Y.1) 0 (((Y.1) 0) + (V 0))) 1) + (V 1))) 2 (((upd (upd (Y.1) 0 (((Y.1) 0) + (V 0))) 1 (((upd (Y.1) 0 (((Y.1) 0) + (V 0))) 1) + (V 1))) 2) + (V 2))) 3) + (V 3))) 4) + (V 4))) 5 (((upd (upd (upd (upd (upd (Y.1) 0 (((Y.1) 0) + (V 0))) 1 (((upd (Y.1) 0 (((Y.1) 0) + (V 0))) 1) + (V 1))) 2 (((upd (upd (Y.1) 0 (((Y.1) 0) + (V 0))) 1 (((upd (Y.1) 0 (((Y.1) 0) + (V 0))) 1) + (V 1))) 2) + (V 2))) 3 (((upd (upd (upd (Y.1) 0 (((Y.1) 0) + (V 0))) 1 (((upd (Y.1) 0 (((Y.1) 0) + (V 0))) 1) + (V 1))) 2 (((upd (upd (Y.1) 0 (((Y.1) 0) + (V 0))) 1 (((upd (Y.1) 0 (((Y.1) 0) + (V 0))) 1) + (V 1))) 2) + (V 2))) 3) + (V 3))) 4 (((upd (upd (upd (upd (Y.1) 0 (((Y.1) 0) + (V 0))) 1 (((upd (Y.1) 0 (((Y.1) 0) + (V 0))) 1) + (V 1))) 2 (((upd (upd (Y.1) 0 (((Y.1) 0) + (V 0))) 1 (((upd (Y.1) 0 (((Y.1) 0) + (V 0))) 1) + (V 1))) 2) + (V 2))) 3 (((upd (upd (upd (Y.1) 0 (((Y.1) 0) + (V 0))) 1 (((upd (Y.1) 0 (((Y.1) 0) + (V 0))) 1) + (V 1))) 2 (((upd (upd (Y.1) 0 (((Y.1) 0) + (V 0))) 1 (((upd (Y.1) 0 (((Y.1) 0) + (V 0))) 1) + (V 1))) 2) + (V 2))) 3) + (V 3))) 4) + (V 4))) 5) + (V 5))) 6) + (V 6))))) := ⟨_, rfl⟩
      rw [← eM8] at hM f_su f_wo f_sh
      refine lv_aload_n hx hb d_SH_mixBlock_284 rfl (lv_at hl 0 rfl) ?_
      refine hp_get S hK hM i_SH f_sh rfl 0 (by decide) mf_SH_9 (fun _ h9 => h9) rfl d_SH_mixBlock_285 ?_
      refine lv_bipush (v := nI 7) hx hb d_SH_mixBlock_288 rfl ?_
      refine lv_dup2_11 hx hb d_SH_mixBlock_290 rfl rfl ?_
      refine hp_iald S hK hM 1 f_su rfl 7 rfl (by omega) (by omega) d_SH_mixBlock_291 ?_
      refine lv_iload hx hb d_SH_mixBlock_292 (lv_at hl 8 rfl) ?_
      refine lv_iadd hx hb d_SH_mixBlock_294 ?_
      refine hp_iast S hK hM hS 1 f_su rfl 7 rfl (by omega) (by omega) d_SH_mixBlock_295 (fun H locs hM hS => ?_)
      have f_wo := hp_k (e := (.inl (ct 1, 8, .inl (upd (upd (upd (upd (upd (upd (upd (upd (Y.1) 0 (((Y.1) 0) + (V 0))) 1 (((upd (Y.1) 0 (((Y.1) 0) + (V 0))) 1) + (V 1))) 2 (((upd (upd (Y.1) 0 (((Y.1) 0) + (V 0))) 1 (((upd (Y.1) 0 (((Y.1) 0) + (V 0))) 1) + (V 1))) 2) + (V 2))) 3 (((upd (upd (upd (Y.1) 0 (((Y.1) 0) + (V 0))) 1 (((upd (Y.1) 0 (((Y.1) 0) + (V 0))) 1) + (V 1))) 2 (((upd (upd (Y.1) 0 (((Y.1) 0) + (V 0))) 1 (((upd (Y.1) 0 (((Y.1) 0) + (V 0))) 1) + (V 1))) 2) + (V 2))) 3) + (V 3))) 4 (((upd (upd (upd (upd (Y.1) 0 (((Y.1) 0) + (V 0))) 1 (((upd (Y.1) 0 (((Y.1) 0) + (V 0))) 1) + (V 1))) 2 (((upd (upd (Y.1) 0 (((Y.1) 0) + (V 0))) 1 (((upd (Y.1) 0 (((Y.1) 0) + (V 0))) 1) + (V 1))) 2) + (V 2))) 3 (((upd (upd (upd (Y.1) 0 (((Y.1) 0) + (V 0))) 1 (((upd (Y.1) 0 (((Y.1) 0) + (V 0))) 1) + (V 1))) 2 (((upd (upd (Y.1) 0 (((Y.1) 0) + (V 0))) 1 (((upd (Y.1) 0 (((Y.1) 0) + (V 0))) 1) + (V 1))) 2) + (V 2))) 3) + (V 3))) 4) + (V 4))) 5 (((upd (upd (upd (upd (upd (Y.1) 0 (((Y.1) 0) + (V 0))) 1 (((upd (Y.1) 0 (((Y.1) 0) + (V 0))) 1) + (V 1))) 2 (((upd (upd (Y.1) 0 (((Y.1) 0) + (V 0))) 1 (((upd (Y.1) 0 (((Y.1) 0) + (V 0))) 1) + (V 1))) 2) + (V 2))) 3 (((upd (upd (upd (Y.1) 0 (((Y.1) 0) + (V 0))) 1 (((upd (Y.1) 0 (((Y.1) 0) + (V 0))) 1) + (V 1))) 2 (((upd (upd (Y.1) 0 (((Y.1) 0) + (V 0))) 1 (((upd (Y.1) 0 (((Y.1) 0) + (V 0))) 1) + (V 1))) 2) + (V 2))) 3) + (V 3))) 4 (((upd (upd (upd (upd (Y.1) 0 (((Y.1) 0) + (V 0))) 1 (((upd (Y.1) 0 (((Y.1) 0) + (V 0))) 1) + (V 1))) 2 (((upd (upd (Y.1) 0 (((Y.1) 0) + (V 0))) 1 (((upd (Y.1) 0 (((Y.1) 0) + (V 0))) 1) + (V 1))) 2) + (V 2))) 3 (((upd (upd (upd (Y.1) 0 (((Y.1) 0) + (V 0))) 1 (((upd (Y.1) 0 (((Y.1) 0) + (V 0))) 1) + (V 1))) 2 (((upd (upd (Y.1) 0 (((Y.1) 0) + (V 0))) 1 (((upd (Y.1) 0 (((Y.1) 0) + (V 0))) 1) + (V 1))) 2) + (V 2))) 3) + (V 3))) 4) + (V 4))) 5) + (V 5))) 6 (((upd (upd (upd (upd (upd (upd (Y.1) 0 (((Y.1) 0) + (V 0))) 1 (((upd (Y.1) 0 (((Y.1) 0) + (V 0))) 1) + (V 1))) 2 (((upd (upd (Y.1) 0 (((Y.1) 0) + (V 0))) 1 (((upd (Y.1) 0 (((Y.1) 0) + (V 0))) 1) + (V 1))) 2) + (V 2))) 3 (((upd (upd (upd (Y.1) 0 (((Y.1) 0) + (V 0))) 1 (((upd (Y.1) 0 (((Y.1) 0) + (V 0))) 1) + (V 1))) 2 (((upd (upd (Y.1) 0 (((Y.1) 0) + (V 0))) 1 (((upd (Y.1) 0 (((Y.1) 0) + (V 0))) 1) + (V 1))) 2) + (V 2))) 3) + (V 3))) 4 (((upd (upd (upd (upd (Y.1) 0 (((Y.1) 0) + (V 0))) 1 (((upd (Y.1) 0 (((Y.1) 0) + (V 0))) 1) + (V 1))) 2 (((upd (upd (Y.1) 0 (((Y.1) 0) + (V 0))) 1 (((upd (Y.1) 0 (((Y.1) 0) + (V 0))) 1) + (V 1))) 2) + (V 2))) 3 (((upd (upd (upd (Y.1) 0 (((Y.1) 0) + (V 0))) 1 (((upd (Y.1) 0 (((Y.1) 0) + (V 0))) 1) + (V 1))) 2 (((upd (upd (Y.1) 0 (((Y.1) 0) + (V 0))) 1 (((upd (Y.1) 0 (((Y.1) 0) + (V 0))) 1) + (V 1))) 2) + (V 2))) 3) + (V 3))) 4) + (V 4))) 5 (((upd (upd (upd (upd (upd (Y.1) 0 (((Y.1) 0) + (V 0))) 1 (((upd (Y.1) 0 (((Y.1) 0) + (V 0))) 1) + (V 1))) 2 (((upd (upd (Y.1) 0 (((Y.1) 0) + (V 0))) 1 (((upd (Y.1) 0 (((Y.1) 0) + (V 0))) 1) + (V 1))) 2) + (V 2))) 3 (((upd (upd (upd (Y.1) 0 (((Y.1) 0) + (V 0))) 1 (((upd (Y.1) 0 (((Y.1) 0) + (V 0))) 1) + (V 1))) 2 (((upd (upd (Y.1) 0 (((Y.1) 0) + (V 0))) 1 (((upd (Y.1) 0 (((Y.1) 0) + (V 0))) 1) + (V 1))) 2) + (V 2))) 3) + (V 3))) 4 (((upd (upd (upd (upd (Y.1) 0 (((Y.1) 0) + (V 0))) 1 (((upd (Y.1) 0 (((Y.1) 0) + (V 0))) 1) + (V 1))) 2 (((upd (upd (Y.1) 0 (((Y.1) 0) + (V 0))) 1 (((upd (Y.1) 0 (((Y.1) 0) + (V 0))) 1) + (V 1))) 2) + (V 2))) 3 (((upd (upd (upd (Y.1) 0 (((Y.1) 0) + (V 0))) 1 (((upd (Y.1) 0 (((Y.1) 0) + (V 0))) 1) + (V 1))) 2 (((upd (upd (Y.1) 0 (((Y.1) 0) + (V 0))) 1 (((upd (Y.1) 0 (((Y.1) 0) + (V 0))) 1) + (V 1))) 2) + (V 2))) 3) + (V 3))) 4) + (V 4))) 5) + (V 5))) 6) + (V 6))) 7 (((upd (upd (upd (upd (upd (upd (upd (Y.1) 0 (((Y.1) 0) + (V 0))) 1 (((upd (Y.1) 0 (((Y.1) 0) + (V 0))) 1) + (V 1))) 2 (((upd (upd (Y.1) 0 (((Y.1) 0) + (V 0))) 1 (((upd (Y.1) 0 (((Y.1) 0) + (V 0))) 1) + (V 1))) 2) + (V 2))) 3 (((upd (upd (upd (Y.1) 0 (((Y.1) 0) + (V 0))) 1 (((upd (Y.1) 0 (((Y.1) 0) + (V 0))) 1) + (V 1))) 2 (((upd (upd (Y.1) 0 (((Y.1) 0) + (V 0))) 1 (((upd (Y.1) 0 (((Y.1) 0) + (V 0))) 1) + (V 1))) 2) + (V 2))) 3) + (V 3))) 4 (((upd (upd (upd (upd (Y.1) 0 (((Y.1) 0) + (V 0))) 1 (((upd (Y.1) 0 (((Y.1) 0) + (V 0))) 1) + (V 1))) 2 (((upd (upd (Y.1) 0 (((Y.1) 0) + (V 0))) 1 (((upd (Y.1) 0 (((Y.1) 0) + (V 0))) 1) + (V 1))) 2) + (V 2))) 3 (((upd (upd (upd (Y.1) 0 (((Y.1) 0) + (V 0))) 1 (((upd (Y.1) 0 (((Y.1) 0) + (V 0))) 1) + (V 1))) 2 (((upd (upd (Y.1) 0 (((Y.1) 0) + (V 0))) 1 (((upd (Y.1) 0 (((Y.1) 0) + (V 0))) 1) + (V 1))) 2) + (V 2))) 3) + (V 3))) 4) + (V 4))) 5 (((upd (upd (upd (upd (upd (Y.1) 0 (((Y.1) 0) + (V 0))) 1 (((upd (Y.1) 0 (((Y.1) 0) + (V 0))) 1) + (V 1))) 2 (((upd (upd (Y.1) 0 (((Y.1) 0) + (V 0))) 1 (((upd (Y.1) 0 (((Y.1) 0) + (V 0))) 1) + (V 1))) 2) + (V 2))) 3 (((upd (upd (upd (Y.1) 0 (((Y.1) 0) + (V 0))) 1 (((upd (Y.1) 0 (((Y.1) 0) + (V 0))) 1) + (V 1))) 2 (((upd (upd (Y.1) 0 (((Y.1) 0) + (V 0))) 1 (((upd (Y.1) 0 (((Y.1) 0) + (V 0))) 1) + (V 1))) 2) + (V 2))) 3) + (V 3))) 4 (((upd (upd (upd (upd (Y.1) 0 (((Y.1) 0) + (V 0))) 1 (((upd (Y.1) 0 (((Y.1) 0) + (V 0))) 1) + (V 1))) 2 (((upd (upd (Y.1) 0 (((Y.1) 0) + (V 0))) 1 (((upd (Y.1) 0 (((Y.1) 0) + (V 0))) 1) + (V 1))) 2) + (V 2))) 3 (((upd (upd (upd (Y.1) 0 (((Y.1) 0) + (V 0))) 1 (((upd (Y.1) 0 (((Y.1) 0) + (V 0))) 1) + (V 1))) 2 (((upd (upd (Y.1) 0 (((Y.1) 0) + (V 0))) 1 (((upd (Y.1) 0 (((Y.1) 0) + (V 0))) 1) + (V 1))) 2) + (V 2))) 3) + (V 3))) 4) + (V 4))) 5) + (V 5))) 6 (((upd (upd (upd (upd (upd (upd (Y.1) 0 (((Y.1) 0) + (V 0))) 1 (((upd (Y.1) 0 (((Y.1) 0) + (V 0))) 1) + (V 1))) 2 (((upd (upd (Y.1) 0 (((Y.1) 0) + (V 0))) 1 (((upd (Y.1) 0 (((Y.1) 0) + (V 0))) 1) + (V 1))) 2) + (V 2))) 3 (((upd (upd (upd (Y.1) 0 (((Y.1) 0) + (V 0))) 1 (((upd (Y.1) 0 (((Y.1) 0) + (V 0))) 1) + (V 1))) 2 (((upd (upd (Y.1) 0 (((Y.1) 0) + (V 0))) 1 (((upd (Y.1) 0 (((Y.1) 0) + (V 0))) 1) + (V 1))) 2) + (V 2))) 3) + (V 3))) 4 (((upd (upd (upd (upd (Y.1) 0 (((Y.1) 0) + (V 0))) 1 (((upd (Y.1) 0 (((Y.1) 0) + (V 0))) 1) + (V 1))) 2 (((upd (upd (Y.1) 0 (((Y.1) 0) + (V 0))) 1 (((upd (Y.1) 0 (((Y.1) 0) + (V 0))) 1) + (V 1))) 2) + (V 2))) 3 (((upd (upd (upd (Y.1) 0 (((Y.1) 0) + (V 0))) 1 (((upd (Y.1) 0 (((Y.1) 0) + (V 0))) 1) + (V 1))) 2 (((upd (upd (Y.1) 0 (((Y.1) 0) + (V 0))) 1 (((upd (Y.1) 0 (((Y.1) 0) + (V 0))) 1) + (V 1))) 2) + (V 2))) 3) + (V 3))) 4) + (V 4))) 5 (((upd (upd (upd (upd (upd (Y.1) 0 (((Y.1) 0) + (V 0))) 1 (((upd (Y.1) 0 (((Y.1) 0) + (V 0))) 1) + (V 1))) 2 (((upd (upd (Y.1) 0 (((Y.1) 0) + (V 0))) 1 (((upd (Y.1) 0 (((Y.1) 0) + (V 0))) 1) + (V 1))) 2) + (V 2))) 3 (((upd (upd (upd (Y.1) 0 (((Y.1) 0) + (V 0))) 1 (((upd (Y.1) 0 (((Y.1) 0) + (V 0))) 1) + (V 1))) 2 (((upd (upd (Y.1) 0 (((Y.1) 0) + (V 0))) 1 (((upd (Y.1) 0 (((Y.1) 0) + (V 0))) 1) + (V 1))) 2) + (V 2))) 3) + (V 3))) 4 (((upd (upd (upd (upd (Y.1) 0 (((Y.1) 0) + (V 0))) 1 (((upd (Y.1) 0 (((Y.1) 0) + (V 0))) 1) + (V 1))) 2 (((upd (upd (Y.1) 0 (((Y.1) 0) + (V 0))) 1 (((upd (Y.1) 0 (((Y.1) 0) + (V 0))) 1) + (V 1))) 2) + (V 2))) 3 (((upd (upd (upd (Y.1) 0 (((Y.1) 0) + (V 0))) 1 (((upd (Y.1) 0 (((Y.1) 0) + (V 0))) 1) + (V 1))) 2 (((upd (upd (Y.1) 0 (((Y.1) 0) + (V 0))) 1 (((upd (Y.1) 0 (((Y.1) 0) + (V 0))) 1) + (V 1))) 2) + (V 2))) 3) + (V 3))) 4) + (V 4))) 5) + (V 5))) 6) + (V 6))) 7) + (V 7)))))) (hp_ne f_wo f_su (by simp)) f_wo
      have f_sh := hp_k (e := (.inl (ct 1, 8, .inl (upd (upd (upd (upd (upd (upd (upd (upd (Y.1) 0 (((Y.1) 0) + (V 0))) 1 (((upd (Y.1) 0 (((Y.1) 0) + (V 0))) 1) + (V 1))) 2 (((upd (upd (Y.1) 0 (((Y.1) 0) + (V 0))) 1 (((upd (Y.1) 0 (((Y.1) 0) + (V 0))) 1) + (V 1))) 2) + (V 2))) 3 (((upd (upd (upd (Y.1) 0 (((Y.1) 0) + (V 0))) 1 (((upd (Y.1) 0 (((Y.1) 0) + (V 0))) 1) + (V 1))) 2 (((upd (upd (Y.1) 0 (((Y.1) 0) + (V 0))) 1 (((upd (Y.1) 0 (((Y.1) 0) + (V 0))) 1) + (V 1))) 2) + (V 2))) 3) + (V 3))) 4 (((upd (upd (upd (upd (Y.1) 0 (((Y.1) 0) + (V 0))) 1 (((upd (Y.1) 0 (((Y.1) 0) + (V 0))) 1) + (V 1))) 2 (((upd (upd (Y.1) 0 (((Y.1) 0) + (V 0))) 1 (((upd (Y.1) 0 (((Y.1) 0) + (V 0))) 1) + (V 1))) 2) + (V 2))) 3 (((upd (upd (upd (Y.1) 0 (((Y.1) 0) + (V 0))) 1 (((upd (Y.1) 0 (((Y.1) 0) + (V 0))) 1) + (V 1))) 2 (((upd (upd (Y.1) 0 (((Y.1) 0) + (V 0))) 1 (((upd (Y.1) 0 (((Y.1) 0) + (V 0))) 1) + (V 1))) 2) + (V 2))) 3) + (V 3))) 4) + (V 4))) 5 (((upd (upd (upd (upd (upd (Y.1) 0 (((Y.1) 0) + (V 0))) 1 (((upd (Y.1) 0 (((Y.1) 0) + (V 0))) 1) + (V 1))) 2 (((upd (upd (Y.1) 0 (((Y.1) 0) + (V 0))) 1 (((upd (Y.1) 0 (((Y.1) 0) + (V 0))) 1) + (V 1))) 2) + (V 2))) 3 (((upd (upd (upd (Y.1) 0 (((Y.1) 0) + (V 0))) 1 (((upd (Y.1) 0 (((Y.1) 0) + (V 0))) 1) + (V 1))) 2 (((upd (upd (Y.1) 0 (((Y.1) 0) + (V 0))) 1 (((upd (Y.1) 0 (((Y.1) 0) + (V 0))) 1) + (V 1))) 2) + (V 2))) 3) + (V 3))) 4 (((upd (upd (upd (upd (Y.1) 0 (((Y.1) 0) + (V 0))) 1 (((upd (Y.1) 0 (((Y.1) 0) + (V 0))) 1) + (V 1))) 2 (((upd (upd (Y.1) 0 (((Y.1) 0) + (V 0))) 1 (((upd (Y.1) 0 (((Y.1) 0) + (V 0))) 1) + (V 1))) 2) + (V 2))) 3 (((upd (upd (upd (Y.1) 0 (((Y.1) 0) + (V 0))) 1 (((upd (Y.1) 0 (((Y.1) 0) + (V 0))) 1) + (V 1))) 2 (((upd (upd (Y.1) 0 (((Y.1) 0) + (V 0))) 1 (((upd (Y.1) 0 (((Y.1) 0) + (V 0))) 1) + (V 1))) 2) + (V 2))) 3) + (V 3))) 4) + (V 4))) 5) + (V 5))) 6 (((upd (upd (upd (upd (upd (upd (Y.1) 0 (((Y.1) 0) + (V 0))) 1 (((upd (Y.1) 0 (((Y.1) 0) + (V 0))) 1) + (V 1))) 2 (((upd (upd (Y.1) 0 (((Y.1) 0) + (V 0))) 1 (((upd (Y.1) 0 (((Y.1) 0) + (V 0))) 1) + (V 1))) 2) + (V 2))) 3 (((upd (upd (upd (Y.1) 0 (((Y.1) 0) + (V 0))) 1 (((upd (Y.1) 0 (((Y.1) 0) + (V 0))) 1) + (V 1))) 2 (((upd (upd (Y.1) 0 (((Y.1) 0) + (V 0))) 1 (((upd (Y.1) 0 (((Y.1) 0) + (V 0))) 1) + (V 1))) 2) + (V 2))) 3) + (V 3))) 4 (((upd (upd (upd (upd (Y.1) 0 (((Y.1) 0) + (V 0))) 1 (((upd (Y.1) 0 (((Y.1) 0) + (V 0))) 1) + (V 1))) 2 (((upd (upd (Y.1) 0 (((Y.1) 0) + (V 0))) 1 (((upd (Y.1) 0 (((Y.1) 0) + (V 0))) 1) + (V 1))) 2) + (V 2))) 3 (((upd (upd (upd (Y.1) 0 (((Y.1) 0) + (V 0))) 1 (((upd (Y.1) 0 (((Y.1) 0) + (V 0))) 1) + (V 1))) 2 (((upd (upd (Y.1) 0 (((Y.1) 0) + (V 0))) 1 (((upd (Y.1) 0 (((Y.1) 0) + (V 0))) 1) + (V 1))) 2) + (V 2))) 3) + (V 3))) 4) + (V 4))) 5 (((upd (upd (upd (upd (upd (Y.1) 0 (((Y.1) 0) + (V 0))) 1 (((upd (Y.1) 0 (((Y.1) 0) + (V 0))) 1) + (V 1))) 2 (((upd (upd (Y.1) 0 (((Y.1) 0) + (V 0))) 1 (((upd (Y.1) 0 (((Y.1) 0) + (V 0))) 1) + (V 1))) 2) + (V 2))) 3 (((upd (upd (upd (Y.1) 0 (((Y.1) 0) + (V 0))) 1 (((upd (Y.1) 0 (((Y.1) 0) + (V 0))) 1) + (V 1))) 2 (((upd (upd (Y.1) 0 (((Y.1) 0) + (V 0))) 1 (((upd (Y.1) 0 (((Y.1) 0) + (V 0))) 1) + (V 1))) 2) + (V 2))) 3) + (V 3))) 4 (((upd (upd (upd (upd (Y.1) 0 (((Y.1) 0) + (V 0))) 1 (((upd (Y.1) 0 (((Y.1) 0) + (V 0))) 1) + (V 1))) 2 (((upd (upd (Y.1) 0 (((Y.1) 0) + (V 0))) 1 (((upd (Y.1) 0 (((Y.1) 0) + (V 0))) 1) + (V 1))) 2) + (V 2))) 3 (((upd (upd (upd (Y.1) 0 (((Y.1) 0) + (V 0))) 1 (((upd (Y.1) 0 (((Y.1) 0) + (V 0))) 1) + (V 1))) 2 (((upd (upd (Y.1) 0 (((Y.1) 0) + (V 0))) 1 (((upd (Y.1) 0 (((Y.1) 0) + (V 0))) 1) + (V 1))) 2) + (V 2))) 3) + (V 3))) 4) + (V 4))) 5) + (V 5))) 6) + (V 6))) 7 (((upd (upd (upd (upd (upd (upd (upd (Y.1) 0 (((Y.1) 0) + (V 0))) 1 (((upd (Y.1) 0 (((Y.1) 0) + (V 0))) 1) + (V 1))) 2 (((upd (upd (Y.1) 0 (((Y.1) 0) + (V 0))) 1 (((upd (Y.1) 0 (((Y.1) 0) + (V 0))) 1) + (V 1))) 2) + (V 2))) 3 (((upd (upd (upd (Y.1) 0 (((Y.1) 0) + (V 0))) 1 (((upd (Y.1) 0 (((Y.1) 0) + (V 0))) 1) + (V 1))) 2 (((upd (upd (Y.1) 0 (((Y.1) 0) + (V 0))) 1 (((upd (Y.1) 0 (((Y.1) 0) + (V 0))) 1) + (V 1))) 2) + (V 2))) 3) + (V 3))) 4 (((upd (upd (upd (upd (Y.1) 0 (((Y.1) 0) + (V 0))) 1 (((upd (Y.1) 0 (((Y.1) 0) + (V 0))) 1) + (V 1))) 2 (((upd (upd (Y.1) 0 (((Y.1) 0) + (V 0))) 1 (((upd (Y.1) 0 (((Y.1) 0) + (V 0))) 1) + (V 1))) 2) + (V 2))) 3 (((upd (upd (upd (Y.1) 0 (((Y.1) 0) + (V 0))) 1 (((upd (Y.1) 0 (((Y.1) 0) + (V 0))) 1) + (V 1))) 2 (((upd (upd (Y.1) 0 (((Y.1) 0) + (V 0))) 1 (((upd (Y.1) 0 (((Y.1) 0) + (V 0))) 1) + (V 1))) 2) + (V 2))) 3) + (V 3))) 4) + (V 4))) 5 (((upd (upd (upd (upd (upd (Y.1) 0 (((Y.1) 0) + (V 0))) 1 (((upd (Y.1) 0 (((Y.1) 0) + (V 0))) 1) + (V 1))) 2 (((upd (upd (Y.1) 0 (((Y.1) 0) + (V 0))) 1 (((upd (Y.1) 0 (((Y.1) 0) + (V 0))) 1) + (V 1))) 2) + (V 2))) 3 (((upd (upd (upd (Y.1) 0 (((Y.1) 0) + (V 0))) 1 (((upd (Y.1) 0 (((Y.1) 0) + (V 0))) 1) + (V 1))) 2 (((upd (upd (Y.1) 0 (((Y.1) 0) + (V 0))) 1 (((upd (Y.1) 0 (((Y.1) 0) + (V 0))) 1) + (V 1))) 2) + (V 2))) 3) + (V 3))) 4 (((upd (upd (upd (upd (Y.1) 0 (((Y.1) 0) + (V 0))) 1 (((upd (Y.1) 0 (((Y.1) 0) + (V 0))) 1) + (V 1))) 2 (((upd (upd (Y.1) 0 (((Y.1) 0) + (V 0))) 1 (((upd (Y.1) 0 (((Y.1) 0) + (V 0))) 1) + (V 1))) 2) + (V 2))) 3 (((upd (upd (upd (Y.1) 0 (((Y.1) 0) + (V 0))) 1 (((upd (Y.1) 0 (((Y.1) 0) + (V 0))) 1) + (V 1))) 2 (((upd (upd (Y.1) 0 (((Y.1) 0) + (V 0))) 1 (((upd (Y.1) 0 (((Y.1) 0) + (V 0))) 1) + (V 1))) 2) + (V 2))) 3) + (V 3))) 4) + (V 4))) 5) + (V 5))) 6 (((upd (upd (upd (upd (upd (upd (Y.1) 0 (((Y.1) 0) + (V 0))) 1 (((upd (Y.1) 0 (((Y.1) 0) + (V 0))) 1) + (V 1))) 2 (((upd (upd (Y.1) 0 (((Y.1) 0) + (V 0))) 1 (((upd (Y.1) 0 (((Y.1) 0) + (V 0))) 1) + (V 1))) 2) + (V 2))) 3 (((upd (upd (upd (Y.1) 0 (((Y.1) 0) + (V 0))) 1 (((upd (Y.1) 0 (((Y.1) 0) + (V 0))) 1) + (V 1))) 2 (((upd (upd (Y.1) 0 (((Y.1) 0) + (V 0))) 1 (((upd (Y.1) 0 (((Y.1) 0) + (V 0))) 1) + (V 1))) 2) + (V 2))) 3) + (V 3))) 4 (((upd (upd (upd (upd (Y.1) 0 (((Y.1) 0) + (V 0))) 1 (((upd (Y.1) 0 (((Y.1) 0) + (V 0))) 1) + (V 1))) 2 (((upd (upd (Y.1) 0 (((Y.1) 0) + (V 0))) 1 (((upd (Y.1) 0 (((Y.1) 0) + (V 0))) 1) + (V 1))) 2) + (V 2))) 3 (((upd (upd (upd (Y.1) 0 (((Y.1) 0) + (V 0))) 1 (((upd (Y.1) 0 (((Y.1) 0) + (V 0))) 1) + (V 1))) 2 (((upd (upd (Y.1) 0 (((Y.1) 0) + (V 0))) 1 (((upd (Y.1) 0 (((Y.1) 0) + (V 0))) 1) + (V 1))) 2) + (V 2))) 3) + (V 3))) 4) + (V 4))) 5 (((upd (upd (upd (upd (upd (Y.1) 0 (((Y.1) 0) + (V 0))) 1 (((upd (Y.1) 0 (((Y.1) 0) + (V 0))) 1) + (V 1))) 2 (((upd (upd (Y.1) 0 (((Y.1) 0) + (V 0))) 1 (((upd (Y.1) 0 (((Y.1) 0) + (V 0))) 1) + (V 1))) 2) + (V 2))) 3 (((upd (upd (upd (Y.1) 0 (((Y.1) 0) + (V 0))) 1 (((upd (Y.1) 0 (((Y.1) 0) + (V 0))) 1) + (V 1))) 2 (((upd (upd (Y.1) 0 (((Y.1) 0) + (V 0))) 1 (((upd (Y.1) 0 (((Y.1) 0) + (V 0))) 1) + (V 1))) 2) + (V 2))) 3) + (V 3))) 4 (((upd (upd (upd (upd (Y.1) 0 (((Y.1) 0) + (V 0))) 1 (((upd (Y.1) 0 (((Y.1) 0) + (V 0))) 1) + (V 1))) 2 (((upd (upd (Y.1) 0 (((Y.1) 0) + (V 0))) 1 (((upd (Y.1) 0 (((Y.1) 0) + (V 0))) 1) + (V 1))) 2) + (V 2))) 3 (((upd (upd (upd (Y.1) 0 (((Y.1) 0) + (V 0))) 1 (((upd (Y.1) 0 (((Y.1) 0) + (V 0))) 1) + (V 1))) 2 (((upd (upd (Y.1) 0 (((Y.1) 0) + (V 0))) 1 (((upd (Y.1) 0 (((Y.1) 0) + (V 0))) 1) + (V 1))) 2) + (V 2))) 3) + (V 3))) 4) + (V 4))) 5) + (V 5))) 6) + (V 6))) 7) + (V 7)))))) (hp_ne f_sh f_su (by simp)) f_sh
      have f_su : hp_up M8 su (.inl (ct 1, 8, .inl (upd (upd (upd (upd (upd (upd (upd (upd (Y.1) 0 (((Y.1) 0) + (V 0))) 1 (((upd (Y.1) 0 (((Y.1) 0) + (V 0))) 1) + (V 1))) 2 (((upd (upd (Y.1) 0 (((Y.1) 0) + (V 0))) 1 (((upd (Y.1) 0 (((Y.1) 0) + (V 0))) 1) + (V 1))) 2) + (V 2))) 3 (((upd (upd (upd (Y.1) 0 (((Y.1) 0) + (V 0))) 1 (((upd (Y.1) 0 (((Y.1) 0) + (V 0))) 1) + (V 1))) 2 (((upd (upd (Y.1) 0 (((Y.1) 0) + (V 0))) 1 (((upd (Y.1) 0 (((Y.1) 0) + (V 0))) 1) + (V 1))) 2) + (V 2))) 3) + (V 3))) 4 (((upd (upd (upd (upd (Y.1) 0 (((Y.1) 0) + (V 0))) 1 (((upd (Y.1) 0 (((Y.1) 0) + (V 0))) 1) + (V 1))) 2 (((upd (upd (Y.1) 0 (((Y.1) 0) + (V 0))) 1 (((upd (Y.1) 0 (((Y.1) 0) + (V 0))) 1) + (V 1))) 2) + (V 2))) 3 (((upd (upd (upd (Y.1) 0 (((Y.1) 0) + (V 0))) 1 (((upd (Y.1) 0 (((Y.1) 0) + (V 0))) 1) + (V 1))) 2 (((upd (upd (Y.1) 0 (((Y.1) 0) + (V 0))) 1 (((upd (Y.1) 0 (((Y.1) 0) + (V 0))) 1) + (V 1))) 2) + (V 2))) 3) + (V 3))) 4) + (V 4))) 5 (((upd (upd (upd (upd (upd (Y.1) 0 (((Y.1) 0) + (V 0))) 1 (((upd (Y.1) 0 (((Y.1) 0) + (V 0))) 1) + (V 1))) 2 (((upd (upd (Y.1) 0 (((Y.1) 0) + (V 0))) 1 (((upd (Y.1) 0 (((Y.1) 0) + (V 0))) 1) + (V 1))) 2) + (V 2))) 3 (((upd (upd (upd (Y.1) 0 (((Y.1) 0) + (V 0))) 1 (((upd (Y.1) 0 (((Y.1) 0) + (V 0))) 1) + (V 1))) 2 (((upd (upd (Y.1) 0 (((Y.1) 0) + (V 0))) 1 (((upd (Y.1) 0 (((Y.1) 0) + (V 0))) 1) + (V 1))) 2) + (V 2))) 3) + (V 3))) 4 (((upd (upd (upd (upd (Y.1) 0 (((Y.1) 0) + (V 0))) 1 (((upd (Y.1) 0 (((Y.1) 0) + (V 0))) 1) + (V 1))) 2 (((upd (upd (Y.1) 0 (((Y.1) 0) + (V 0))) 1 (((upd (Y.1) 0 (((Y.1) 0) + (V 0))) 1) + (V 1))) 2) + (V 2))) 3 (((upd (upd (upd (Y.1) 0 (((Y.1) 0) + (V 0))) 1 (((upd (Y.1) 0 (((Y.1) 0) + (V 0))) 1) + (V 1))) 2 (((upd (upd (Y.1) 0 (((Y.1) 0) + (V 0))) 1 (((upd (Y.1) 0 (((Y.1) 0) + (V 0))) 1) + (V 1))) 2) + (V 2))) 3) + (V 3))) 4) + (V 4))) 5) + (V 5))) 6 (((upd (upd (upd (upd (upd (upd (Y.1) 0 (((Y.1) 0) + (V 0))) 1 (((upd (Y.1) 0 (((Y.1) 0) + (V 0))) 1) + (V 1))) 2 (((upd (upd (Y.1) 0 (((Y.1) 0) + (V 0))) 1 (((upd (Y.1) 0 (((Y.1) 0) + (V 0))) 1) + (V 1))) 2) + (V 2))) 3 (((upd (upd (upd (Y.1) 0 (((Y.1) 0) + (V 0))) 1 (((upd (Y.1) 0 (((Y.1) 0) + (V 0))) 1) + (V 1))) 2 (((upd (upd (Y.1) 0 (((Y.1) 0) + (V 0))) 1 (((upd (Y.1) 0 (((Y.1) 0) + (V 0))) 1) + (V 1))) 2) + (V 2))) 3) + (V 3))) 4 (((upd (upd (upd (upd (Y.1) 0 (((Y.1) 0) + (V 0))) 1 (((upd (Y.1) 0 (((Y.1) 0) + (V 0))) 1) + (V 1))) 2 (((upd (upd (Y.1) 0 (((Y.1) 0) + (V 0))) 1 (((upd (Y.1) 0 (((Y.1) 0) + (V 0))) 1) + (V 1))) 2) + (V 2))) 3 (((upd (upd (upd (Y.1) 0 (((Y.1) 0) + (V 0))) 1 (((upd (Y.1) 0 (((Y.1) 0) + (V 0))) 1) + (V 1))) 2 (((upd (upd (Y.1) 0 (((Y.1) 0) + (V 0))) 1 (((upd (Y.1) 0 (((Y.1) 0) + (V 0))) 1) + (V 1))) 2) + (V 2))) 3) + (V 3))) 4) + (V 4))) 5 (((upd (upd (upd (upd (upd (Y.1) 0 (((Y.1) 0) + (V 0))) 1 (((upd (Y.1) 0 (((Y.1) 0) + (V 0))) 1) + (V 1))) 2 (((upd (upd (Y.1) 0 (((Y.1) 0) + (V 0))) 1 (((upd (Y.1) 0 (((Y.1) 0) + (V 0))) 1) + (V 1))) 2) + (V 2))) 3 (((upd (upd (upd (Y.1) 0 (((Y.1) 0) + (V 0))) 1 (((upd (Y.1) 0 (((Y.1) 0) + (V 0))) 1) + (V 1))) 2 (((upd (upd (Y.1) 0 (((Y.1) 0) + (V 0))) 1 (((upd (Y.1) 0 (((Y.1) 0) + (V 0))) 1) + (V 1))) 2) + (V 2))) 3) + (V 3))) 4 (((upd (upd (upd (upd (Y.1) 0 (((Y.1) 0) + (V 0))) 1 (((upd (Y.1) 0 (((Y.1) 0) + (V 0))) 1) + (V 1))) 2 (((upd (upd (Y.1) 0 (((Y.1) 0) + (V 0))) 1 (((upd (Y.1) 0 (((Y.1) 0) + (V 0))) 1) + (V 1))) 2) + (V 2))) 3 (((upd (upd (upd (Y.1) 0 (((Y.1) 0) + (V 0))) 1 (((upd (Y.1) 0 (((Y.1) 0) + (V 0))) 1) + (V 1))) 2 (((upd (upd (Y.1) 0 (((Y.1) 0) + (V 0))) 1 (((upd (Y.1) 0 (((Y.1) 0) + (V 0))) 1) + (V 1))) 2) + (V 2))) 3) + (V 3))) 4) + (V 4))) 5) + (V 5))) 6) + (V 6))) 7 (((upd (upd (upd (upd (upd (upd (upd (Y.1) 0 (((Y.1) 0) + (V 0))) 1 (((upd (Y.1) 0 (((Y.1) 0) + (V 0))) 1) + (V 1))) 2 (((upd (upd (Y.1) 0 (((Y.1) 0) + (V 0))) 1 (((upd (Y.1) 0 (((Y.1) 0) + (V 0))) 1) + (V 1))) 2) + (V 2))) 3 (((upd (upd (upd (Y.1) 0 (((Y.1) 0) + (V 0))) 1 (((upd (Y.1) 0 (((Y.1) 0) + (V 0))) 1) + (V 1))) 2 (((upd (upd (Y.1) 0 (((Y.1) 0) + (V 0))) 1 (((upd (Y.1) 0 (((Y.1) 0) + (V 0))) 1) + (V 1))) 2) + (V 2))) 3) + (V 3))) 4 (((upd (upd (upd (upd (Y.1) 0 (((Y.1) 0) + (V 0))) 1 (((upd (Y.1) 0 (((Y.1) 0) + (V 0))) 1) + (V 1))) 2 (((upd (upd (Y.1) 0 (((Y.1) 0) + (V 0))) 1 (((upd (Y.1) 0 (((Y.1) 0) + (V 0))) 1) + (V 1))) 2) + (V 2))) 3 (((upd (upd (upd (Y.1) 0 (((Y.1) 0) + (V 0))) 1 (((upd (Y.1) 0 (((Y.1) 0) + (V 0))) 1) + (V 1))) 2 (((upd (upd (Y.1) 0 (((Y.1) 0) + (V 0))) 1 (((upd (Y.1) 0 (((Y.1) 0) + (V 0))) 1) + (V 1))) 2) + (V 2))) 3) + (V 3))) 4) + (V 4))) 5 (((upd (upd (upd (upd (upd (Y.1) 0 (((Y.1) 0) + (V 0))) 1 (((upd (Y.1) 0 (((Y.1) 0) + (V 0))) 1) + (V 1))) 2 (((upd (upd (Y.1) 0 (((Y.1) 0) + (V 0))) 1 (((upd (Y.1) 0 (((Y.1) 0) + (V 0))) 1) + (V 1))) 2) + (V 2))) 3 (((upd (upd (upd (Y.1) 0 (((Y.1) 0) + (V 0))) 1 (((upd (Y.1) 0 (((Y.1) 0) + (V 0))) 1) + (V 1))) 2 (((upd (upd (Y.1) 0 (((Y.1) 0) + (V 0))) 1 (((upd (Y.1) 0 (((Y.1) 0) + (V 0))) 1) + (V 1))) 2) + (V 2))) 3) + (V 3))) 4 (((upd (upd (upd (upd (Y.1) 0 (((Y.1) 0) + (V 0))) 1 (((upd (Y.1) 0 (((Y.1) 0) + (V 0))) 1) + (V 1))) 2 (((upd (upd (Y.1) 0 (((Y.1) 0) + (V 0))) 1 (((upd (Y.1) 0 (((Y.1) 0) + (V 0))) 1) + (V 1))) 2) + (V 2))) 3 (((upd (upd (upd (Y.1) 0 (((Y.1) 0) + (V 0))) 1 (((upd (Y.1) 0 (((Y.1) 0) + (V 0))) 1) + (V 1))) 2 (((upd (upd (Y.1) 0 (((Y.1) 0) + (V 0))) 1 (((upd (Y.1) 0 (((Y.1) 0) + (V 0))) 1) + (V 1))) 2) + (V 2))) 3) + (V 3))) 4) + (V 4))) 5) + (V 5))) 6 (((upd (upd (upd (upd (upd (upd (Y.1) 0 (((Y.1) 0) + (V 0))) 1 (((upd (Y.1) 0 (((Y.1) 0) + (V 0))) 1) + (V 1))) 2 (((upd (upd (Y.1) 0 (((Y.1) 0) + (V 0))) 1 (((upd (Y.1) 0 (((Y.1) 0) + (V 0))) 1) + (V 1))) 2) + (V 2))) 3 (((upd (upd (upd (Y.1) 0 (((Y.1) 0) + (V 0))) 1 (((upd (Y.1) 0 (((Y.1) 0) + (V 0))) 1) + (V 1))) 2 (((upd (upd (Y.1) 0 (((Y.1) 0) + (V 0))) 1 (((upd (Y.1) 0 (((Y.1) 0) + (V 0))) 1) + (V 1))) 2) + (V 2))) 3) + (V 3))) 4 (((upd (upd (upd (upd (Y.1) 0 (((Y.1) 0) + (V 0))) 1 (((upd (Y.1) 0 (((Y.1) 0) + (V 0))) 1) + (V 1))) 2 (((upd (upd (Y.1) 0 (((Y.1) 0) + (V 0))) 1 (((upd (Y.1) 0 (((Y.1) 0) + (V 0))) 1) + (V 1))) 2) + (V 2))) 3 (((upd (upd (upd (Y.1) 0 (((Y.1) 0) + (V 0))) 1 (((upd (Y.1) 0 (((Y.1) 0) + (V 0))) 1) + (V 1))) 2 (((upd (upd (Y.1) 0 (((Y.1) 0) + (V 0))) 1 (((upd (Y.1) 0 (((Y.1) 0) + (V 0))) 1) + (V 1))) 2) + (V 2))) 3) + (V 3))) 4) + (V 4))) 5 (((upd (upd (upd (upd (upd (Y.1) 0 (((Y.1) 0) + (V 0))) 1 (((upd (Y.1) 0 (((Y.1) 0) + (V 0))) 1) + (V 1))) 2 (((upd (upd (Y.1) 0 (((Y.1) 0) + (V 0))) 1 (((upd (Y.1) 0 (((Y.1) 0) + (V 0))) 1) + (V 1))) 2) + (V 2))) 3 (((upd (upd (upd (Y.1) 0 (((Y.1) 0) + (V 0))) 1 (((upd (Y.1) 0 (((Y.1) 0) + (V 0))) 1) + (V 1))) 2 (((upd (upd (Y.1) 0 (((Y.1) 0) + (V 0))) 1 (((upd (Y.1) 0 (((Y.1) 0) + (V 0))) 1) + (V 1))) 2) + (V 2))) 3) + (V 3))) 4 (((upd (upd (upd (upd (Y.1) 0 (((Y.1) 0) + (V 0))) 1 (((upd (Y.1) 0 (((Y.1) 0) + (V 0))) 1) + (V 1))) 2 (((upd (upd (Y.1) 0 (((Y.1) 0) + (V 0))) 1 (((upd (Y.1) 0 (((Y.1) 0) + (V 0))) 1) + (V 1))) 2) + (V 2))) 3 (((upd (upd (upd (Y.1) 0 (((Y.1) 0) + (V 0))) 1 (((upd (Y.1) 0 (((Y.1) 0) + (V 0))) 1) + (V 1))) 2 (((upd (upd (Y.1) 0 (((Y.1) 0) + (V 0))) 1 (((upd (Y.1) 0 (((Y.1) 0) + (V 0))) 1) + (V 1))) 2) + (V 2))) 3) + (V 3))) 4) + (V 4))) 5) + (V 5))) 6) + (V 6))) 7) + (V 7))))) su = some (.inl (ct 1, 8, .inl (upd (upd (upd (upd (upd (upd (upd (upd (Y.1) 0 (((Y.1) 0) + (V 0))) 1 (((upd (Y.1) 0 (((Y.1) 0) + (V 0))) 1) + (V 1))) 2 (((upd (upd (Y.1) 0 (((Y.1) 0) + (V 0))) 1 (((upd (Y.1) 0 (((Y.1) 0) + (V 0))) 1) + (V 1))) 2) + (V 2))) 3 (((upd (upd (upd (Y.1) 0 (((Y.1) 0) + (V 0))) 1 (((upd (Y.1) 0 (((Y.1) 0) + (V 0))) 1) + (V 1))) 2 (((upd (upd (Y.1) 0 (((Y.1) 0) + (V 0))) 1 (((upd (Y.1) 0 (((Y.1) 0) + (V 0))) 1) + (V 1))) 2) + (V 2))) 3) + (V 3))) 4 (((upd (upd (upd (upd (Y.1) 0 (((Y.1) 0) + (V 0))) 1 (((upd (Y.1) 0 (((Y.1) 0) + (V 0))) 1) + (V 1))) 2 (((upd (upd (Y.1) 0 (((Y.1) 0) + (V 0))) 1 (((upd (Y.1) 0 (((Y.1) 0) + (V 0))) 1) + (V 1))) 2) + (V 2))) 3 (((upd (upd (upd (Y.1) 0 (((Y.1) 0) + (V 0))) 1 (((upd (Y.1) 0 (((Y.1) 0) + (V 0))) 1) + (V 1))) 2 (((upd (upd (Y.1) 0 (((Y.1) 0) + (V 0))) 1 (((upd (Y.1) 0 (((Y.1) 0) + (V 0))) 1) + (V 1))) 2) + (V 2))) 3) + (V 3))) 4) + (V 4))) 5 (((upd (upd (upd (upd (upd (Y.1) 0 (((Y.1) 0) + (V 0))) 1 (((upd (Y.1) 0 (((Y.1) 0) + (V 0))) 1) + (V 1))) 2 (((upd (upd (Y.1) 0 (((Y.1) 0) + (V 0))) 1 (((upd (Y.1) 0 (((Y.1) 0) + (V 0))) 1) + (V 1))) 2) + (V 2))) 3 (((upd (upd (upd (Y.1) 0 (((Y.1) 0) + (V 0))) 1 (((upd (Y.1) 0 (((Y.1) 0) + (V 0))) 1) + (V 1))) 2 (((upd (upd (Y.1) 0 (((Y.1) 0) + (V 0))) 1 (((upd (Y.1) 0 (((Y.1) 0) + (V 0))) 1) + (V 1))) 2) + (V 2))) 3) + (V 3))) 4 (((upd (upd (upd (upd (Y.1) 0 (((Y.1) 0) + (V 0))) 1 (((upd (Y.1) 0 (((Y.1) 0) + (V 0))) 1) + (V 1))) 2 (((upd (upd (Y.1) 0 (((Y.1) 0) + (V 0))) 1 (((upd (Y.1) 0 (((Y.1) 0) + (V 0))) 1) + (V 1))) 2) + (V 2))) 3 (((upd (upd (upd (Y.1) 0 (((Y.1) 0) + (V 0))) 1 (((upd (Y.1) 0 (((Y.1) 0) + (V 0))) 1) + (V 1))) 2 (((upd (upd (Y.1) 0 (((Y.1) 0) + (V 0))) 1 (((upd (Y.1) 0 (((Y.1) 0) + (V 0))) 1) + (V 1))) 2) + (V 2))) 3) + (V 3))) 4) + (V 4))) 5) + (V 5))) 6 (((upd (upd (upd (upd (upd (upd (Y.1) 0 (((Y.1) 0) + (V 0))) 1 (((upd (Y.1) 0 (((Y.1) 0) + (V 0))) 1) + (V 1))) 2 (((upd (upd (Y.1) 0 (((Y.1) 0) + (V 0))) 1 (((upd (Y.1) 0 (((Y.1) 0) + (V 0))) 1) + (V 1))) 2) + (V 2))) 3 (((upd (upd (upd (Y.1) 0 (((Y.1) 0) + (V 0))) 1 (((upd (Y.1) 0 (((Y.1) 0) + (V 0))) 1) + (V 1))) 2 (((upd (upd (Y.1) 0 (((Y.1) 0) + (V 0))) 1 (((upd (Y.1) 0 (((Y.1) 0) + (V 0))) 1) + (V 1))) 2) + (V 2))) 3) + (V 3))) 4 (((upd (upd (upd (upd (Y.1) 0 (((Y.1) 0) + (V 0))) 1 (((upd (Y.1) 0 (((Y.1) 0) + (V 0))) 1) + (V 1))) 2 (((upd (upd (Y.1) 0 (((Y.1) 0) + (V 0))) 1 (((upd (Y.1) 0 (((Y.1) 0) + (V 0))) 1) + (V 1))) 2) + (V 2))) 3 (((upd (upd (upd (Y.1) 0 (((Y.1) 0) + (V 0))) 1 (((upd (Y.1) 0 (((Y.1) 0) + (V 0))) 1) + (V 1))) 2 (((upd (upd (Y.1) 0 (((Y.1) 0) + (V 0))) 1 (((upd (Y.1) 0 (((Y.1) 0) + (V 0))) 1) + (V 1))) 2) + (V 2))) 3) + (V 3))) 4) + (V 4))) 5 (((upd (upd (upd (upd (upd (Y.1) 0 (((Y.1) 0) + (V 0))) 1 (((upd (Y.1) 0 (((Y.1) 0) + (V 0))) 1) + (V 1))) 2 (((upd (upd (Y.1) 0 (((Y.1) 0) + (V 0))) 1 (((upd (Y.1) 0 (((Y.1) 0) + (V 0))) 1) + (V 1))) 2) + (V 2))) 3 (((upd (upd (upd (Y.1) 0 (((Y.1) 0) + (V 0))) 1 (((upd (Y.1) 0 (((Y.1) 0) + (V 0))) 1) + (V 1))) 2 (((upd (upd (Y.1) 0 (((Y.1) 0) + (V 0))) 1 (((upd (Y.1) 0 (((Y.1) 0) + (V 0))) 1) + (V 1))) 2) + (V 2))) 3) + (V 3))) 4 (((upd (upd (upd (upd (Y.1) 0 (((Y.1) 0) + (V 0))) 1 (((upd (Y.1) 0 (((Y.1) 0) + (V 0))) 1) + (V 1))) 2 (((upd (upd (Y.1) 0 (((Y.1) 0) + (V 0))) 1 (((upd (Y.1) 0 (((Y.1) 0) + (V 0))) 1) + (V 1))) 2) + (V 2))) 3 (((upd (upd (upd (Y.1) 0 (((Y.1) 0) + (V 0))) 1 (((upd (Y.1) 0 (((Y.1) 0) + (V 0))) 1) + (V 1))) 2 (((upd (upd (Y.1) 0 (((Y.1) 0) + (V 0))) 1 (((upd (Y.1) 0 (((Y.1) 0) + (V 0))) 1) + (V 1))) 2) + (V 2))) 3) + (V 3))) 4) + (V 4))) 5) + (V 5))) 6) + (V 6))) 7 (((upd (upd (upd (upd (upd (upd (upd (Y.1) 0 (((Y.1) 0) + (V 0))) 1 (((upd (Y.1) 0 (((Y.1) 0) + (V 0))) 1) + (V 1))) 2 (((upd (upd (Y.1) 0 (((Y.1) 0) + (V 0))) 1 (((upd (Y.1) 0 (((Y.1) 0) + (V 0))) 1) + (V 1))) 2) + (V 2))) 3 (((upd (upd (upd (Y.1) 0 (((Y.1) 0) + (V 0))) 1 (((upd (Y.1) 0 (((Y.1) 0) + (V 0))) 1) + (V 1))) 2 (((upd (upd (Y.1) 0 (((Y.1) 0) + (V 0))) 1 (((upd (Y.1) 0 (((Y.1) 0) + (V 0))) 1) + (V 1))) 2) + (V 2))) 3) + (V 3))) 4 (((upd (upd (upd (upd (Y.1) 0 (((Y.1) 0) + (V 0))) 1 (((upd (Y.1) 0 (((Y.1) 0) + (V 0))) 1) + (V 1))) 2 (((upd (upd (Y.1) 0 (((Y.1) 0) + (V 0))) 1 (((upd (Y.1) 0 (((Y.1) 0) + (V 0))) 1) + (V 1))) 2) + (V 2))) 3 (((upd (upd (upd (Y.1) 0 (((Y.1) 0) + (V 0))) 1 (((upd (Y.1) 0 (((Y.1) 0) + (V 0))) 1) + (V 1))) 2 (((upd (upd (Y.1) 0 (((Y.1) 0) + (V 0))) 1 (((upd (Y.1) 0 (((Y.1) 0) + (V 0))) 1) + (V 1))) 2) + (V 2))) 3) + (V 3))) 4) + (V 4))) 5 (((upd (upd (upd (upd (upd (Y.1) 0 (((Y.1) 0) + (V 0))) 1 (((upd (Y.1) 0 (((Y.1) 0) + (V 0))) 1) + (V 1))) 2 (((upd (upd (Y.1) 0 (((Y.1) 0) + (V 0))) 1 (((upd (Y.1) 0 (((Y.1) 0) + (V 0))) 1) + (V 1))) 2) + (V 2))) 3 (((upd (upd (upd (Y.1) 0 (((Y.1) 0) + (V 0))) 1 (((upd (Y.1) 0 (((Y.1) 0) + (V 0))) 1) + (V 1))) 2 (((upd (upd (Y.1) 0 (((Y.1) 0) + (V 0))) 1 (((upd (Y.1) 0 (((Y.1) 0) + (V 0))) 1) + (V 1))) 2) + (V 2))) 3) + (V 3))) 4 (((upd (upd (upd (upd (Y.1) 0 (((Y.1) 0) + (V 0))) 1 (((upd (Y.1) 0 (((Y.1) 0) + (V 0))) 1) + (V 1))) 2 (((upd (upd (Y.1) 0 (((Y.1) 0) + (V 0))) 1 (((upd (Y.1) 0 (((Y.1) 0) + (V 0))) 1) + (V 1))) 2) + (V 2))) 3 (((upd (upd (upd (Y.1) 0 (((Y.1) 0) + (V 0))) 1 (((upd (Y.1) 0 (((Y.1) 0) + (V 0))) 1) + (V 1))) 2 (((upd (upd (Y.1) 0 (((Y.1) 0) + (V 0))) 1 (((upd (Y.1) 0 (((Y.1) 0) + (V 0))) 1) + (V 1))) 2) + (V 2))) 3) + (V 3))) 4) + (V 4))) 5) + (V 5))) 6 (((upd (upd (upd (upd (upd (upd (Y.1) 0 (((Y.1) 0) + (V 0))) 1 (((upd (Y.1) 0 (((Y.1) 0) + (V 0))) 1) + (V 1))) 2 (((upd (upd (Y.1) 0 (((Y.1) 0) + (V 0))) 1 (((upd (Y.1) 0 (((Y.1) 0) + (V 0))) 1) + (V 1))) 2) + (V 2))) 3 (((upd (upd (upd (Y.1) 0 (((Y.1) 0) + (V 0))) 1 (((upd (Y.1) 0 (((Y.1) 0) + (V 0))) 1) + (V 1))) 2 (((upd (upd (Y.1) 0 (((Y.1) 0) + (V 0))) 1 (((upd (Y.1) 0 (((Y.1) 0) + (V 0))) 1) + (V 1))) 2) + (V 2))) 3) + (V 3))) 4 (((upd (upd (upd (upd (Y.1) 0 (((Y.1) 0) + (V 0))) 1 (((upd (Y.1) 0 (((Y.1) 0) + (V 0))) 1) + (V 1))) 2 (((upd (upd (Y.1) 0 (((Y.1) 0) + (V 0))) 1 (((upd (Y.1) 0 (((Y.1) 0) + (V 0))) 1) + (V 1))) 2) + (V 2))) 3 (((upd (upd (upd (Y.1) 0 (((Y.1) 0) + (V 0))) 1 (((upd (Y.1) 0 (((Y.1) 0) + (V 0))) 1) + (V 1))) 2 (((upd (upd (Y.1) 0 (((Y.1) 0) + (V 0))) 1 (((upd (Y.1) 0 (((Y.1) 0) + (V 0))) 1) + (V 1))) 2) + (V 2))) 3) + (V 3))) 4) + (V 4))) 5 (((upd (upd (upd (upd (upd (Y.1) 0 (((Y.1) 0) + (V 0))) 1 (((upd (Y.1) 0 (((Y.1) 0) + (V 0))) 1) + (V 1))) 2 (((upd (upd (Y.1) 0 (((Y.1) 0) + (V 0))) 1 (((upd (Y.1) 0 (((Y.1) 0) + (V 0))) 1) + (V 1))) 2) + (V 2))) 3 (((upd (upd (upd (Y.1) 0 (((Y.1) 0) + (V 0))) 1 (((upd (Y.1) 0 (((Y.1) 0) + (V 0))) 1) + (V 1))) 2 (((upd (upd (Y.1) 0 (((Y.1) 0) + (V 0))) 1 (((upd (Y.1) 0 (((Y.1) 0) + (V 0))) 1) + (V 1))) 2) + (V 2))) 3) + (V 3))) 4 (((upd (upd (upd (upd (Y.1) 0 (((Y.1) 0) + (V 0))) 1 (((upd (Y.1) 0 (((Y.1) 0) + (V 0))) 1) + (V 1))) 2 (((upd (upd (Y.1) 0 (((Y.1) 0) + (V 0))) 1 (((upd (Y.1) 0 (((Y.1) 0) + (V 0))) 1) + (V 1))) 2) + (V 2))) 3 (((upd (upd (upd (Y.1) 0 (((Y.1) 0) + (V 0))) 1 (((upd (Y.1) 0 (((Y.1) 0) + (V 0))) 1) + (V 1))) 2 (((upd (upd (Y.1) 0 (((Y.1) 0) + (V 0))) 1 (((upd (Y.1) 0 (((Y.1) 0) + (V 0))) 1) + (V 1))) 2) + (V 2))) 3) + (V 3))) 4) + (V 4))) 5) + (V 5))) 6) + (V 6))) 7) + (V 7))))) := hp_us
      obtain ⟨M9, eM9⟩ : ∃ z, z = hp_up M8 su (.inl (ct 1, 8, .inl (upd (upd (upd (upd (upd (upd (upd (upd (Y.1) 0 (((Y.1) 0) + (V 0))) 1 (((upd (Y.1) 0 (((Y.1) 0) + (V 0))) 1) + (V 1))) 2 (((upd (upd (Y.1) 0 (((Y.1) 0) + (V 0))) 1 (((upd (Y.1) 0 (((Y.1) 0) + (V 0))) 1) + (V 1))) 2) + (V 2))) 3 (((upd (upd (upd (Y.1) 0 (((Y.1) 0) + (V 0))) 1 (((upd (Y.1) 0 (((Y.1) 0) + (V 0))) 1) + (V 1))) 2 (((upd (upd (Y.1) 0 (((Y.1) 0) + (V 0))) 1 (((upd (Y.1) 0 (((Y.1) 0) + (V 0))) 1) + (V 1))) 2) + (V 2))) 3) + (V 3))) 4 (((upd (upd (upd (upd (Y.1) 0 (((Y.1) 0) + (V 0))) 1 (((upd (Y.1) 0 (((Y.1) 0) + (V 0))) 1) + (V 1))) 2 (((upd (upd (Y.1) 0 (((Y.1) 0) + (V 0))) 1 (((upd (Y.1) 0 (((Y.1) 0) + (V 0))) 1) + (V 1))) 2) + (V 2))) 3 (((upd (upd (upd (Y.1) 0 (((Y.1) 0) + (V 0))) 1 (((upd (Y.1) 0 (((Y.1) 0) + (V 0))) 1) + (V 1))) 2 (((upd (upd (Y.1) 0 (((Y.1) 0) + (V 0))) 1 (((upd (Y.1) 0 (((Y.1) 0) + (V 0))) 1) + (V 1))) 2) + (V 2))) 3) + (V 3))) 4) + (V 4))) 5 (((upd (upd (upd (upd (upd (Y.1) 0 (((Y.1) 0) + (V 0))) 1 (((upd (Y.1) 0 (((Y.1) 0) + (V 0))) 1) + (V 1))) 2 (((upd (upd (Y.1) 0 (((Y.1) 0) + (V 0))) 1 (((upd (Y.1) 0 (((Y.1) 0) + (V 0))) 1) + (V 1))) 2) + (V 2))) 3 (((upd (upd (upd (Y.1) 0 (((Y.1) 0) + (V 0))) 1 (((upd (Y.1) 0 (((Y.1) 0) + (V 0))) 1) + (V 1))) 2 (((upd (upd (Y.1) 0 (((Y.1) 0) + (V 0))) 1 (((upd (Y.1) 0 (((Y.1) 0) + (V 0))) 1) + (V 1))) 2) + (V 2))) 3) + (V 3))) 4 (((upd (upd (upd (upd (Y.1) 0 (((Y.1) 0) + (V 0))) 1 (((upd (Y.1) 0 (((Y.1) 0) + (V 0))) 1) + (V 1))) 2 (((upd (upd (Y.1) 0 (((Y.1) 0) + (V 0))) 1 (((upd (Y.1) 0 (((Y.1) 0) + (V 0))) 1) + (V 1))) 2) + (V 2))) 3 (((upd (upd (upd (Y.1) 0 (((Y.1) 0) + (V 0))) 1 (((upd (Y.1) 0 (((Y.1) 0) + (V 0))) 1) + (V 1))) 2 (((upd (upd (Y.1) 0 (((Y.1) 0) + (V 0))) 1 (((upd (Y.1) 0 (((Y.1) 0) + (V 0))) 1) + (V 1))) 2) + (V 2))) 3) + (V 3))) 4) + (V 4))) 5) + (V 5))) 6 (((upd (upd (upd (upd (upd (upd (Y.1) 0 (((Y.1) 0) + (V 0))) 1 (((upd (Y.1) 0 (((Y.1) 0) + (V 0))) 1) + (V 1))) 2 (((upd (upd (Y.1) 0 (((Y.1) 0) + (V 0))) 1 (((upd (Y.1) 0 (((Y.1) 0) + (V 0))) 1) + (V 1))) 2) + (V 2))) 3 (((upd (upd (upd (Y.1) 0 (((Y.1) 0) + (V 0))) 1 (((upd (Y.1) 0 (((Y.1) 0) + (V 0))) 1) + (V 1))) 2 (((upd (upd (Y.1) 0 (((Y.1) 0) + (V 0))) 1 (((upd (Y.1) 0 (((Y.1) 0) + (V 0))) 1) + (V 1))) 2) + (V 2))) 3) + (V 3))) 4 (((upd (upd (upd (upd (Y.1) 0 (((Y.1) 0) + (V 0))) 1 (((upd (Y.1) 0 (((Y.1) 0) + (V 0))) 1) + (V 1))) 2 (((upd (upd (Y.1) 0 (((Y.1) 0) + (V 0))) 1 (((upd (Y.1) 0 (((Y.1) 0) + (V 0))) 1) + (V 1))) 2) + (V 2))) 3 (((upd (upd (upd (Y.1) 0 (((Y.1) 0) + (V 0))) 1 (((upd (Y.1) 0 (((Y.1) 0) + (V 0))) 1) + (V 1))) 2 (((upd (upd (Y.1) 0 (((Y.1) 0) + (V 0))) 1 (((upd (Y.1) 0 (((Y.1) 0) + (V 0))) 1) + (V 1))) 2) + (V 2))) 3) + (V 3))) 4) + (V 4))) 5 (((upd (upd (upd (upd (upd (Y.1) 0 (((Y.1) 0) + (V 0))) 1 (((upd (Y.1) 0 (((Y.1) 0) + (V 0))) 1) + (V 1))) 2 (((upd (upd (Y.1) 0 (((Y.1) 0) + (V 0))) 1 (((upd (Y.1) 0 (((Y.1) 0) + (V 0))) 1) + (V 1))) 2) + (V 2))) 3 (((upd (upd (upd (Y.1) 0 (((Y.1) 0) + (V 0))) 1 (((upd (Y.1) 0 (((Y.1) 0) + (V 0))) 1) + (V 1))) 2 (((upd (upd (Y.1) 0 (((Y.1) 0) + (V 0))) 1 (((upd (Y.1) 0 (((Y.1) 0) + (V 0))) 1) + (V 1))) 2) + (V 2))) 3) + (V 3))) 4 (((upd (upd (upd (upd (Y.1) 0 (((Y.1) 0) + (V 0))) 1 (((upd (Y.1) 0 (((Y.1) 0) + (V 0))) 1) + (V 1))) 2 (((upd (upd (Y.1) 0 (((Y.1) 0) + (V 0))) 1 (((upd (Y.1) 0 (((Y.1) 0) + (V 0))) 1) + (V 1))) 2) + (V 2))) 3 (((upd (upd (upd (Y.1) 0 (((Y.1) 0) + (V 0))) 1 (((upd (Y.1) 0 (((Y.1) 0) + (V 0))) 1) + (V 1))) 2 (((upd (upd (Y.1) 0 (((Y.1) 0) + (V 0))) 1 (((upd (Y.1) 0 (((Y.1) 0) + (V 0))) 1) + (V 1))) 2) + (V 2))) 3) + (V 3))) 4) + (V 4))) 5) + (V 5))) 6) + (V 6))) 7 (((upd (upd (upd (upd (upd (upd (upd (Y.1) 0 (((Y.1) 0) + (V 0))) 1 (((upd (Y.1) 0 (((Y.1) 0) + (V 0))) 1) + (V 1))) 2 (((upd (upd (Y.1) 0 (((Y.1) 0) + (V 0))) 1 (((upd (Y.1) 0 (((Y.1) 0) + (V 0))) 1) + (V 1))) 2) + (V 2))) 3 (((upd (upd (upd (Y.1) 0 (((Y.1) 0) + (V 0))) 1 (((upd (Y.1) 0 (((Y.1) 0) + (V 0))) 1) + (V 1))) 2 (((upd (upd (Y.1) 0 (((Y.1) 0) + (V 0))) 1 (((upd (Y.1) 0 (((Y.1) 0) + (V 0))) 1) + (V 1))) 2) + (V 2))) 3) + (V 3))) 4 (((upd (upd (upd (upd (Y.1) 0 (((Y.1) 0) + (V 0))) 1 (((upd (Y.1) 0 (((Y.1) 0) + (V 0))) 1) + (V 1))) 2 (((upd (upd (Y.1) 0 (((Y.1) 0) + (V 0))) 1 (((upd (Y.1) 0 (((Y.1) 0) + (V 0))) 1) + (V 1))) 2) + (V 2))) 3 (((upd (upd (upd (Y.1) 0 (((Y.1) 0) + (V 0))) 1 (((upd (Y.1) 0 (((Y.1) 0) + (V 0))) 1) + (V 1))) 2 (((upd (upd (Y.1) 0 (((Y.1) 0) + (V 0))) 1 (((upd (Y.1) 0 (((Y.1) 0) + (V 0))) 1) + (V 1))) 2) + (V 2))) 3) + (V 3))) 4) + (V 4))) 5 (((upd (upd (upd (upd (upd (Y.1) 0 (((Y.1) 0) + (V 0))) 1 (((upd (Y.1) 0 (((Y.1) 0) + (V 0))) 1) + (V 1))) 2 (((upd (upd (Y.1) 0 (((Y.1) 0) + (V 0))) 1 (((upd (Y.1) 0 (((Y.1) 0) + (V 0))) 1) + (V 1))) 2) + (V 2))) 3 (((upd (upd (upd (Y.1) 0 (((Y.1) 0) + (V 0))) 1 (((upd (Y.1) 0 (((Y.1) 0) + (V 0))) 1) + (V 1))) 2 (((upd (upd (Y.1) 0 (((Y.1) 0) + (V 0))) 1 (((upd (Y.1) 0 (((Y.1) 0) + (V 0))) 1) + (V 1))) 2) + (V 2))) 3) + (V 3))) 4 (((upd (upd (upd (upd (Y.1) 0 (((Y.1) 0) + (V 0))) 1 (((upd (Y.1) 0 (((Y.1) 0) + (V 0))) 1) + (V 1))) 2 (((upd (upd (Y.1) 0 (((Y.1) 0) + (V 0))) 1 (((upd (Y.1) 0 (((Y.1) 0) + (V 0))) 1) + (V 1))) 2) + (V 2))) 3 (((upd (upd (upd (Y.1) 0 (((Y.1) 0) + (V 0))) 1 (((upd (Y.1) 0 (((Y.1) 0) + (V 0))) 1) + (V 1))) 2 (((upd (upd (Y.1) 0 (((Y.1) 0) + (V 0))) 1 (((upd (Y.1) 0 (((Y.1) 0) + (V 0))) 1) + (V 1))) 2) + (V 2))) 3) + (V 3))) 4) + (V 4))) 5) + (V 5))) 6 (((upd (upd (upd (upd (upd (upd (Y.1) 0 (((Y.1) 0) + (V 0))) 1 (((upd (Y.1) 0 (((Y.1) 0) + (V 0))) 1) + (V 1))) 2 (((upd (upd (Y.1) 0 (((Y.1) 0) + (V 0))) 1 (((upd (Y.1) 0 (((Y.1) 0) + (V 0))) 1) + (V 1))) 2) + (V 2))) 3 (((upd (upd (upd (Y.1) 0 (((Y.1) 0) + (V 0))) 1 (((upd (Y.1) 0 (((Y.1) 0) + (V 0))) 1) + (V 1))) 2 (((upd (upd (Y.1) 0 (((Y.1) 0) + (V 0))) 1 (((upd (Y.1) 0 (((Y.1) 0) + (V 0))) 1) + (V 1))) 2) + (V 2))) 3) + (V 3))) 4 (((upd (upd (upd (upd (Y.1) 0 (((Y.1) 0) + (V 0))) 1 (((upd (Y.1) 0 (((Y.1) 0) + (V 0))) 1) + (V 1))) 2 (((upd (upd (Y.1) 0 (((Y.1) 0) + (V 0))) 1 (((upd (Y.1) 0 (((Y.1) 0) + (V 0))) 1) + (V 1))) 2) + (V 2))) 3 (((upd (upd (upd (Y.1) 0 (((Y.1) 0) + (V 0))) 1 (((upd (Y.1) 0 (((Y.1) 0) + (V 0))) 1) + (V 1))) 2 (((upd (upd (Y.1) 0 (((Y.1) 0) + (V 0))) 1 (((upd (Y.1) 0 (((Y.1) 0) + (V 0))) 1) + (V 1))) 2) + (V 2))) 3) + (V 3))) 4) + (V 4))) 5 (((upd (upd (upd (upd (upd (Y.1) 0 (((Y.1) 0) + (V 0))) 1 (((upd (Y.1) 0 (((Y.1) 0) + (V 0))) 1) + (V 1))) 2 (((upd (upd (Y.1) 0 (((Y.1) 0) + (V 0))) 1 (((upd (Y.1) 0 (((Y.1) 0) + (V 0))) 1) + (V 1))) 2) + (V 2))) 3 (((upd (upd (upd (Y.1) 0 (((Y.1) 0) + (V 0))) 1 (((upd (Y.1) 0 (((Y.1) 0) + (V 0))) 1) + (V 1))) 2 (((upd (upd (Y.1) 0 (((Y.1) 0) + (V 0))) 1 (((upd (Y.1) 0 (((Y.1) 0) + (V 0))) 1) + (V 1))) 2) + (V 2))) 3) + (V 3))) 4 (((upd (upd (upd (upd (Y.1) 0 (((Y.1) 0) + (V 0))) 1 (((upd (Y.1) 0 (((Y.1) 0) + (V 0))) 1) + (V 1))) 2 (((upd (upd (Y.1) 0 (((Y.1) 0) + (V 0))) 1 (((upd (Y.1) 0 (((Y.1) 0) + (V 0))) 1) + (V 1))) 2) + (V 2))) 3 (((upd (upd (upd (Y.1) 0 (((Y.1) 0) + (V 0))) 1 (((upd (Y.1) 0 (((Y.1) 0) + (V 0))) 1) + (V 1))) 2 (((upd (upd (Y.1) 0 (((Y.1) 0) + (V 0))) 1 (((upd (Y.1) 0 (((Y.1) 0) + (V 0))) 1) + (V 1))) 2) + (V 2))) 3) + (V 3))) 4) + (V 4))) 5) + (V 5))) 6) + (V 6))) 7) + (V 7))))) := ⟨_, rfl⟩
      rw [← eM9] at hM f_su f_wo f_sh
      exact hp_vret S hret hlk hM hS (by rw [eM9, eM8, eM7, eM6, eM5, eM4, eM3, eM2, hp_uu, hp_uu, hp_uu, hp_uu, hp_uu, hp_uu, hp_uu, ← hV]; exact shM_su hsh (adds V Y.1)) d_SH_mixBlock_296
    · exact absurd hn (by omega)
  | succ fu ih =>
    refine lv_iload hx hb d_SH_mixBlock_66 (lv_at hl 9 rfl) ?_
    refine lv_bipush (v := nI 64) hx hb d_SH_mixBlock_68 rfl ?_
    refine nb_ge (tgt := 209) hx hb d_SH_mixBlock_70 (by decide) (by omega) (by omega) (fun h10 => ?_) (fun h10 => ?_)
    · exact absurd hn (by omega)
    · refine lv_iload hx hb d_SH_mixBlock_73 (lv_at hl 5 rfl) ?_
      refine lv_bipush (v := nI 6) hx hb d_SH_mixBlock_75 rfl ?_
      refine hp_calli (go_S S hZ hK hM hS hA hz (c_SH_turned l D ct Z hZ _ _ (V 4) 6 (by decide)) mc_SH_turned mz_SH ml_SH_43 ms_SH_turned hd_SH_turned rfl ⟨by decide, by decide⟩ hl.1 rfl (Nat.le_of_ble_eq_true rfl) d_SH_mixBlock_77 ⟨by decide, by decide⟩) hM hS hA (fun r11 N12 H locs hr11 hM hS => ?_)
      rw [hr11.1] at hM
      replace hr11 := hr11.2
      subst hr11
      refine lv_iload hx hb d_SH_mixBlock_80 (lv_at hl 5 rfl) ?_
      refine lv_bipush (v := nI 11) hx hb d_SH_mixBlock_82 rfl ?_
      refine hp_calli (go_S S hZ hK hM hS hA hz (c_SH_turned l D ct Z hZ _ _ (V 4) 11 (by decide)) mc_SH_turned mz_SH ml_SH_43 ms_SH_turned hd_SH_turned rfl ⟨by decide, by decide⟩ hl.1 rfl (Nat.le_of_ble_eq_true rfl) d_SH_mixBlock_84 ⟨by decide, by decide⟩) hM hS hA (fun r13 N14 H locs hr13 hM hS => ?_)
      rw [hr13.1] at hM
      replace hr13 := hr13.2
      subst hr13
      refine lv_ixor hx hb d_SH_mixBlock_87 ?_
      refine lv_iload hx hb d_SH_mixBlock_88 (lv_at hl 5 rfl) ?_
      refine lv_bipush (v := nI 25) hx hb d_SH_mixBlock_90 rfl ?_
      refine hp_calli (go_S S hZ hK hM hS hA hz (c_SH_turned l D ct Z hZ _ _ (V 4) 25 (by decide)) mc_SH_turned mz_SH ml_SH_43 ms_SH_turned hd_SH_turned rfl ⟨by decide, by decide⟩ hl.1 rfl (Nat.le_of_ble_eq_true rfl) d_SH_mixBlock_92 ⟨by decide, by decide⟩) hM hS hA (fun r15 N16 H locs hr15 hM hS => ?_)
      rw [hr15.1] at hM
      replace hr15 := hr15.2
      subst hr15
      refine lv_ixor hx hb d_SH_mixBlock_95 ?_
      refine lv_istore (lv' := [(10, .int (((tr (V 4) 6) ^^^ (tr (V 4) 11)) ^^^ (tr (V 4) 25))), (0, .ref sh), (1, .int (V 0)), (2, .int (V 1)), (3, .int (V 2)), (4, .int (V 3)), (5, .int (V 4)), (6, .int (V 5)), (7, .int (V 6)), (8, .int (V 7)), (9, .int (nI j))]) hx hb d_SH_mixBlock_96 hl (by decide) rfl (fun ls hl => ?_)
      refine lv_iload_n hx hb d_SH_mixBlock_98 rfl (lv_at hl 2 rfl) ?_
      refine lv_iconst (v := nI 2) hx hb d_SH_mixBlock_99 rfl ?_
      refine hp_calli (go_S S hZ hK hM hS hA hz (c_SH_turned l D ct Z hZ _ _ (V 0) 2 (by decide)) mc_SH_turned mz_SH ml_SH_43 ms_SH_turned hd_SH_turned rfl ⟨by decide, by decide⟩ hl.1 rfl (Nat.le_of_ble_eq_true rfl) d_SH_mixBlock_100 ⟨by decide, by decide⟩) hM hS hA (fun r17 N18 H locs hr17 hM hS => ?_)
      rw [hr17.1] at hM
      replace hr17 := hr17.2
      subst hr17
      refine lv_iload_n hx hb d_SH_mixBlock_103 rfl (lv_at hl 2 rfl) ?_
      refine lv_bipush (v := nI 13) hx hb d_SH_mixBlock_104 rfl ?_
      refine hp_calli (go_S S hZ hK hM hS hA hz (c_SH_turned l D ct Z hZ _ _ (V 0) 13 (by decide)) mc_SH_turned mz_SH ml_SH_43 ms_SH_turned hd_SH_turned rfl ⟨by decide, by decide⟩ hl.1 rfl (Nat.le_of_ble_eq_true rfl) d_SH_mixBlock_106 ⟨by decide, by decide⟩) hM hS hA (fun r19 N20 H locs hr19 hM hS => ?_)
      rw [hr19.1] at hM
      replace hr19 := hr19.2
      subst hr19
      refine lv_ixor hx hb d_SH_mixBlock_109 ?_
      refine lv_iload_n hx hb d_SH_mixBlock_110 rfl (lv_at hl 2 rfl) ?_
      refine lv_bipush (v := nI 22) hx hb d_SH_mixBlock_111 rfl ?_
      refine hp_calli (go_S S hZ hK hM hS hA hz (c_SH_turned l D ct Z hZ _ _ (V 0) 22 (by decide)) mc_SH_turned mz_SH ml_SH_43 ms_SH_turned hd_SH_turned rfl ⟨by decide, by decide⟩ hl.1 rfl (Nat.le_of_ble_eq_true rfl) d_SH_mixBlock_113 ⟨by decide, by decide⟩) hM hS hA (fun r21 N22 H locs hr21 hM hS => ?_)
      rw [hr21.1] at hM
      replace hr21 := hr21.2
      subst hr21
      refine lv_ixor hx hb d_SH_mixBlock_116 ?_
      refine lv_istore (lv' := [(11, .int (((tr (V 0) 2) ^^^ (tr (V 0) 13)) ^^^ (tr (V 0) 22))), (10, .int (((tr (V 4) 6) ^^^ (tr (V 4) 11)) ^^^ (tr (V 4) 25))), (0, .ref sh), (1, .int (V 0)), (2, .int (V 1)), (3, .int (V 2)), (4, .int (V 3)), (5, .int (V 4)), (6, .int (V 5)), (7, .int (V 6)), (8, .int (V 7)), (9, .int (nI j))]) hx hb d_SH_mixBlock_117 hl (by decide) rfl (fun ls hl => ?_)
      refine lv_iload hx hb d_SH_mixBlock_119 (lv_at hl 10 rfl) ?_
      refine lv_iload hx hb d_SH_mixBlock_121 (lv_at hl 1 rfl) ?_
      refine lv_iadd hx hb d_SH_mixBlock_123 ?_
      refine lv_iload hx hb d_SH_mixBlock_124 (lv_at hl 7 rfl) ?_
      refine lv_iload hx hb d_SH_mixBlock_126 (lv_at hl 8 rfl) ?_
      refine lv_iand hx hb d_SH_mixBlock_128 ?_
      refine lv_iload hx hb d_SH_mixBlock_129 (lv_at hl 7 rfl) ?_
      refine lv_iconst (v := -1) hx hb d_SH_mixBlock_131 (by decide) ?_
      refine lv_ixor hx hb d_SH_mixBlock_132 ?_
      refine lv_iload hx hb d_SH_mixBlock_133 (lv_at hl 9 rfl) ?_
      refine lv_iand hx hb d_SH_mixBlock_135 ?_
      refine lv_ixor hx hb d_SH_mixBlock_136 ?_
      refine lv_iadd hx hb d_SH_mixBlock_137 ?_
      refine va_getsN hx hb (hzk _ _ _ hz).1 hS S.2.2.2.1 (va_Nw.use rfl (hzk _ _ _ hz).2.2) (fun _ h9 => h9) d_SH_mixBlock_138 ?_
      refine lv_iload hx hb d_SH_mixBlock_141 (lv_at hl 11 rfl) ?_
      refine va_ti hx hb (hzk _ _ _ hz).2.1 hS (vp_in_nI (show j < 64 by omega) (by decide)) (v := .int (kF j)) (by show Value.int (kF (nI j).toNatClampNeg) = _; rw [nI_clamp (by omega)]) d_SH_mixBlock_143 ?_
      refine lv_iadd hx hb d_SH_mixBlock_144 ?_
      refine lv_aload_n hx hb d_SH_mixBlock_145 rfl (lv_at hl 2 rfl) ?_
      refine hp_get S hK hM i_SH f_sh rfl 1 (by decide) mf_SH_15 (fun _ h9 => h9) rfl d_SH_mixBlock_146 ?_
      refine lv_iload hx hb d_SH_mixBlock_149 (lv_at hl 11 rfl) ?_
      refine hp_iald S hK hM 1 f_wo rfl j rfl (by omega) (by omega) d_SH_mixBlock_151 ?_
      refine lv_iadd hx hb d_SH_mixBlock_152 ?_
      refine lv_istore (lv' := [(12, .int (((((V 7) + (((tr (V 4) 6) ^^^ (tr (V 4) 11)) ^^^ (tr (V 4) 25))) + (((V 4) &&& (V 5)) ^^^ (((V 4) ^^^ (-1)) &&& (V 6)))) + (kF j)) + ((Y.2.1) j))), (11, .int (((tr (V 0) 2) ^^^ (tr (V 0) 13)) ^^^ (tr (V 0) 22))), (10, .int (((tr (V 4) 6) ^^^ (tr (V 4) 11)) ^^^ (tr (V 4) 25))), (0, .ref sh), (1, .int (V 0)), (2, .int (V 1)), (3, .int (V 2)), (4, .int (V 3)), (5, .int (V 4)), (6, .int (V 5)), (7, .int (V 6)), (8, .int (V 7)), (9, .int (nI j))]) hx hb d_SH_mixBlock_153 hl (by decide) rfl (fun ls hl => ?_)
      refine lv_iload hx hb d_SH_mixBlock_155 (lv_at hl 1 rfl) ?_
      refine lv_iload_n hx hb d_SH_mixBlock_157 rfl (lv_at hl 4 rfl) ?_
      refine lv_iload_n hx hb d_SH_mixBlock_158 rfl (lv_at hl 5 rfl) ?_
      refine lv_iand hx hb d_SH_mixBlock_159 ?_
      refine lv_iload_n hx hb d_SH_mixBlock_160 rfl (lv_at hl 4 rfl) ?_
      refine lv_iload_n hx hb d_SH_mixBlock_161 rfl (lv_at hl 6 rfl) ?_
      refine lv_iand hx hb d_SH_mixBlock_162 ?_
      refine lv_ixor hx hb d_SH_mixBlock_163 ?_
      refine lv_iload_n hx hb d_SH_mixBlock_164 rfl (lv_at hl 5 rfl) ?_
      refine lv_iload_n hx hb d_SH_mixBlock_165 rfl (lv_at hl 6 rfl) ?_
      refine lv_iand hx hb d_SH_mixBlock_166 ?_
      refine lv_ixor hx hb d_SH_mixBlock_167 ?_
      refine lv_iadd hx hb d_SH_mixBlock_168 ?_
      refine lv_istore (lv' := [(13, .int ((((tr (V 0) 2) ^^^ (tr (V 0) 13)) ^^^ (tr (V 0) 22)) + ((((V 0) &&& (V 1)) ^^^ ((V 0) &&& (V 2))) ^^^ ((V 1) &&& (V 2))))), (12, .int (((((V 7) + (((tr (V 4) 6) ^^^ (tr (V 4) 11)) ^^^ (tr (V 4) 25))) + (((V 4) &&& (V 5)) ^^^ (((V 4) ^^^ (-1)) &&& (V 6)))) + (kF j)) + ((Y.2.1) j))), (11, .int (((tr (V 0) 2) ^^^ (tr (V 0) 13)) ^^^ (tr (V 0) 22))), (10, .int (((tr (V 4) 6) ^^^ (tr (V 4) 11)) ^^^ (tr (V 4) 25))), (0, .ref sh), (1, .int (V 0)), (2, .int (V 1)), (3, .int (V 2)), (4, .int (V 3)), (5, .int (V 4)), (6, .int (V 5)), (7, .int (V 6)), (8, .int (V 7)), (9, .int (nI j))]) hx hb d_SH_mixBlock_169 hl (by decide) rfl (fun ls hl => ?_)
      refine lv_iload hx hb d_SH_mixBlock_171 (lv_at hl 11 rfl) ?_
      refine lv_istore (lv' := [(8, .int (V 6)), (13, .int ((((tr (V 0) 2) ^^^ (tr (V 0) 13)) ^^^ (tr (V 0) 22)) + ((((V 0) &&& (V 1)) ^^^ ((V 0) &&& (V 2))) ^^^ ((V 1) &&& (V 2))))), (12, .int (((((V 7) + (((tr (V 4) 6) ^^^ (tr (V 4) 11)) ^^^ (tr (V 4) 25))) + (((V 4) &&& (V 5)) ^^^ (((V 4) ^^^ (-1)) &&& (V 6)))) + (kF j)) + ((Y.2.1) j))), (11, .int (((tr (V 0) 2) ^^^ (tr (V 0) 13)) ^^^ (tr (V 0) 22))), (10, .int (((tr (V 4) 6) ^^^ (tr (V 4) 11)) ^^^ (tr (V 4) 25))), (0, .ref sh), (1, .int (V 0)), (2, .int (V 1)), (3, .int (V 2)), (4, .int (V 3)), (5, .int (V 4)), (6, .int (V 5)), (7, .int (V 6)), (9, .int (nI j))]) hx hb d_SH_mixBlock_173 hl (by decide) rfl (fun ls hl => ?_)
      refine lv_iload hx hb d_SH_mixBlock_175 (lv_at hl 11 rfl) ?_
      refine lv_istore (lv' := [(7, .int (V 5)), (8, .int (V 6)), (13, .int ((((tr (V 0) 2) ^^^ (tr (V 0) 13)) ^^^ (tr (V 0) 22)) + ((((V 0) &&& (V 1)) ^^^ ((V 0) &&& (V 2))) ^^^ ((V 1) &&& (V 2))))), (12, .int (((((V 7) + (((tr (V 4) 6) ^^^ (tr (V 4) 11)) ^^^ (tr (V 4) 25))) + (((V 4) &&& (V 5)) ^^^ (((V 4) ^^^ (-1)) &&& (V 6)))) + (kF j)) + ((Y.2.1) j))), (11, .int (((tr (V 0) 2) ^^^ (tr (V 0) 13)) ^^^ (tr (V 0) 22))), (10, .int (((tr (V 4) 6) ^^^ (tr (V 4) 11)) ^^^ (tr (V 4) 25))), (0, .ref sh), (1, .int (V 0)), (2, .int (V 1)), (3, .int (V 2)), (4, .int (V 3)), (5, .int (V 4)), (6, .int (V 5)), (9, .int (nI j))]) hx hb d_SH_mixBlock_177 hl (by decide) rfl (fun ls hl => ?_)
      refine lv_iload hx hb d_SH_mixBlock_179 (lv_at hl 11 rfl) ?_
      refine lv_istore (lv' := [(6, .int (V 4)), (7, .int (V 5)), (8, .int (V 6)), (13, .int ((((tr (V 0) 2) ^^^ (tr (V 0) 13)) ^^^ (tr (V 0) 22)) + ((((V 0) &&& (V 1)) ^^^ ((V 0) &&& (V 2))) ^^^ ((V 1) &&& (V 2))))), (12, .int (((((V 7) + (((tr (V 4) 6) ^^^ (tr (V 4) 11)) ^^^ (tr (V 4) 25))) + (((V 4) &&& (V 5)) ^^^ (((V 4) ^^^ (-1)) &&& (V 6)))) + (kF j)) + ((Y.2.1) j))), (11, .int (((tr (V 0) 2) ^^^ (tr (V 0) 13)) ^^^ (tr (V 0) 22))), (10, .int (((tr (V 4) 6) ^^^ (tr (V 4) 11)) ^^^ (tr (V 4) 25))), (0, .ref sh), (1, .int (V 0)), (2, .int (V 1)), (3, .int (V 2)), (4, .int (V 3)), (5, .int (V 4)), (9, .int (nI j))]) hx hb d_SH_mixBlock_181 hl (by decide) rfl (fun ls hl => ?_)
      refine lv_iload hx hb d_SH_mixBlock_183 (lv_at hl 11 rfl) ?_
      refine lv_iload hx hb d_SH_mixBlock_185 (lv_at hl 4 rfl) ?_
      refine lv_iadd hx hb d_SH_mixBlock_187 ?_
      refine lv_istore (lv' := [(5, .int ((V 3) + (((((V 7) + (((tr (V 4) 6) ^^^ (tr (V 4) 11)) ^^^ (tr (V 4) 25))) + (((V 4) &&& (V 5)) ^^^ (((V 4) ^^^ (-1)) &&& (V 6)))) + (kF j)) + ((Y.2.1) j)))), (6, .int (V 4)), (7, .int (V 5)), (8, .int (V 6)), (13, .int ((((tr (V 0) 2) ^^^ (tr (V 0) 13)) ^^^ (tr (V 0) 22)) + ((((V 0) &&& (V 1)) ^^^ ((V 0) &&& (V 2))) ^^^ ((V 1) &&& (V 2))))), (12, .int (((((V 7) + (((tr (V 4) 6) ^^^ (tr (V 4) 11)) ^^^ (tr (V 4) 25))) + (((V 4) &&& (V 5)) ^^^ (((V 4) ^^^ (-1)) &&& (V 6)))) + (kF j)) + ((Y.2.1) j))), (11, .int (((tr (V 0) 2) ^^^ (tr (V 0) 13)) ^^^ (tr (V 0) 22))), (10, .int (((tr (V 4) 6) ^^^ (tr (V 4) 11)) ^^^ (tr (V 4) 25))), (0, .ref sh), (1, .int (V 0)), (2, .int (V 1)), (3, .int (V 2)), (4, .int (V 3)), (9, .int (nI j))]) hx hb d_SH_mixBlock_188 hl (by decide) rfl (fun ls hl => ?_)
      refine lv_iload_n hx hb d_SH_mixBlock_190 rfl (lv_at hl 11 rfl) ?_
      refine lv_istore (lv' := [(4, .int (V 2)), (5, .int ((V 3) + (((((V 7) + (((tr (V 4) 6) ^^^ (tr (V 4) 11)) ^^^ (tr (V 4) 25))) + (((V 4) &&& (V 5)) ^^^ (((V 4) ^^^ (-1)) &&& (V 6)))) + (kF j)) + ((Y.2.1) j)))), (6, .int (V 4)), (7, .int (V 5)), (8, .int (V 6)), (13, .int ((((tr (V 0) 2) ^^^ (tr (V 0) 13)) ^^^ (tr (V 0) 22)) + ((((V 0) &&& (V 1)) ^^^ ((V 0) &&& (V 2))) ^^^ ((V 1) &&& (V 2))))), (12, .int (((((V 7) + (((tr (V 4) 6) ^^^ (tr (V 4) 11)) ^^^ (tr (V 4) 25))) + (((V 4) &&& (V 5)) ^^^ (((V 4) ^^^ (-1)) &&& (V 6)))) + (kF j)) + ((Y.2.1) j))), (11, .int (((tr (V 0) 2) ^^^ (tr (V 0) 13)) ^^^ (tr (V 0) 22))), (10, .int (((tr (V 4) 6) ^^^ (tr (V 4) 11)) ^^^ (tr (V 4) 25))), (0, .ref sh), (1, .int (V 0)), (2, .int (V 1)), (3, .int (V 2)), (9, .int (nI j))]) hx hb d_SH_mixBlock_191 hl (by decide) rfl (fun ls hl => ?_)
      refine lv_iload_n hx hb d_SH_mixBlock_193 rfl (lv_at hl 11 rfl) ?_
      refine lv_istore_n (lv' := [(3, .int (V 1)), (4, .int (V 2)), (5, .int ((V 3) + (((((V 7) + (((tr (V 4) 6) ^^^ (tr (V 4) 11)) ^^^ (tr (V 4) 25))) + (((V 4) &&& (V 5)) ^^^ (((V 4) ^^^ (-1)) &&& (V 6)))) + (kF j)) + ((Y.2.1) j)))), (6, .int (V 4)), (7, .int (V 5)), (8, .int (V 6)), (13, .int ((((tr (V 0) 2) ^^^ (tr (V 0) 13)) ^^^ (tr (V 0) 22)) + ((((V 0) &&& (V 1)) ^^^ ((V 0) &&& (V 2))) ^^^ ((V 1) &&& (V 2))))), (12, .int (((((V 7) + (((tr (V 4) 6) ^^^ (tr (V 4) 11)) ^^^ (tr (V 4) 25))) + (((V 4) &&& (V 5)) ^^^ (((V 4) ^^^ (-1)) &&& (V 6)))) + (kF j)) + ((Y.2.1) j))), (11, .int (((tr (V 0) 2) ^^^ (tr (V 0) 13)) ^^^ (tr (V 0) 22))), (10, .int (((tr (V 4) 6) ^^^ (tr (V 4) 11)) ^^^ (tr (V 4) 25))), (0, .ref sh), (1, .int (V 0)), (2, .int (V 1)), (9, .int (nI j))]) hx hb d_SH_mixBlock_194 rfl hl (by decide) rfl (fun ls hl => ?_)
      refine lv_iload_n hx hb d_SH_mixBlock_195 rfl (lv_at hl 11 rfl) ?_
      refine lv_istore_n (lv' := [(2, .int (V 0)), (3, .int (V 1)), (4, .int (V 2)), (5, .int ((V 3) + (((((V 7) + (((tr (V 4) 6) ^^^ (tr (V 4) 11)) ^^^ (tr (V 4) 25))) + (((V 4) &&& (V 5)) ^^^ (((V 4) ^^^ (-1)) &&& (V 6)))) + (kF j)) + ((Y.2.1) j)))), (6, .int (V 4)), (7, .int (V 5)), (8, .int (V 6)), (13, .int ((((tr (V 0) 2) ^^^ (tr (V 0) 13)) ^^^ (tr (V 0) 22)) + ((((V 0) &&& (V 1)) ^^^ ((V 0) &&& (V 2))) ^^^ ((V 1) &&& (V 2))))), (12, .int (((((V 7) + (((tr (V 4) 6) ^^^ (tr (V 4) 11)) ^^^ (tr (V 4) 25))) + (((V 4) &&& (V 5)) ^^^ (((V 4) ^^^ (-1)) &&& (V 6)))) + (kF j)) + ((Y.2.1) j))), (11, .int (((tr (V 0) 2) ^^^ (tr (V 0) 13)) ^^^ (tr (V 0) 22))), (10, .int (((tr (V 4) 6) ^^^ (tr (V 4) 11)) ^^^ (tr (V 4) 25))), (0, .ref sh), (1, .int (V 0)), (9, .int (nI j))]) hx hb d_SH_mixBlock_196 rfl hl (by decide) rfl (fun ls hl => ?_)
      refine lv_iload hx hb d_SH_mixBlock_197 (lv_at hl 8 rfl) ?_
      refine lv_iload hx hb d_SH_mixBlock_199 (lv_at hl 7 rfl) ?_
      refine lv_iadd hx hb d_SH_mixBlock_201 ?_
      refine lv_istore_n (lv' := [(1, .int ((((((V 7) + (((tr (V 4) 6) ^^^ (tr (V 4) 11)) ^^^ (tr (V 4) 25))) + (((V 4) &&& (V 5)) ^^^ (((V 4) ^^^ (-1)) &&& (V 6)))) + (kF j)) + ((Y.2.1) j)) + ((((tr (V 0) 2) ^^^ (tr (V 0) 13)) ^^^ (tr (V 0) 22)) + ((((V 0) &&& (V 1)) ^^^ ((V 0) &&& (V 2))) ^^^ ((V 1) &&& (V 2)))))), (2, .int (V 0)), (3, .int (V 1)), (4, .int (V 2)), (5, .int ((V 3) + (((((V 7) + (((tr (V 4) 6) ^^^ (tr (V 4) 11)) ^^^ (tr (V 4) 25))) + (((V 4) &&& (V 5)) ^^^ (((V 4) ^^^ (-1)) &&& (V 6)))) + (kF j)) + ((Y.2.1) j)))), (6, .int (V 4)), (7, .int (V 5)), (8, .int (V 6)), (13, .int ((((tr (V 0) 2) ^^^ (tr (V 0) 13)) ^^^ (tr (V 0) 22)) + ((((V 0) &&& (V 1)) ^^^ ((V 0) &&& (V 2))) ^^^ ((V 1) &&& (V 2))))), (12, .int (((((V 7) + (((tr (V 4) 6) ^^^ (tr (V 4) 11)) ^^^ (tr (V 4) 25))) + (((V 4) &&& (V 5)) ^^^ (((V 4) ^^^ (-1)) &&& (V 6)))) + (kF j)) + ((Y.2.1) j))), (11, .int (((tr (V 0) 2) ^^^ (tr (V 0) 13)) ^^^ (tr (V 0) 22))), (10, .int (((tr (V 4) 6) ^^^ (tr (V 4) 11)) ^^^ (tr (V 4) 25))), (0, .ref sh), (9, .int (nI j))]) hx hb d_SH_mixBlock_202 rfl hl (by decide) rfl (fun ls hl => ?_)
      refine lv_iinc (v := nI (j + 1)) (lv' := [(9, .int (nI (j + 1))), (1, .int ((((((V 7) + (((tr (V 4) 6) ^^^ (tr (V 4) 11)) ^^^ (tr (V 4) 25))) + (((V 4) &&& (V 5)) ^^^ (((V 4) ^^^ (-1)) &&& (V 6)))) + (kF j)) + ((Y.2.1) j)) + ((((tr (V 0) 2) ^^^ (tr (V 0) 13)) ^^^ (tr (V 0) 22)) + ((((V 0) &&& (V 1)) ^^^ ((V 0) &&& (V 2))) ^^^ ((V 1) &&& (V 2)))))), (2, .int (V 0)), (3, .int (V 1)), (4, .int (V 2)), (5, .int ((V 3) + (((((V 7) + (((tr (V 4) 6) ^^^ (tr (V 4) 11)) ^^^ (tr (V 4) 25))) + (((V 4) &&& (V 5)) ^^^ (((V 4) ^^^ (-1)) &&& (V 6)))) + (kF j)) + ((Y.2.1) j)))), (6, .int (V 4)), (7, .int (V 5)), (8, .int (V 6)), (13, .int ((((tr (V 0) 2) ^^^ (tr (V 0) 13)) ^^^ (tr (V 0) 22)) + ((((V 0) &&& (V 1)) ^^^ ((V 0) &&& (V 2))) ^^^ ((V 1) &&& (V 2))))), (12, .int (((((V 7) + (((tr (V 4) 6) ^^^ (tr (V 4) 11)) ^^^ (tr (V 4) 25))) + (((V 4) &&& (V 5)) ^^^ (((V 4) ^^^ (-1)) &&& (V 6)))) + (kF j)) + ((Y.2.1) j))), (11, .int (((tr (V 0) 2) ^^^ (tr (V 0) 13)) ^^^ (tr (V 0) 22))), (10, .int (((tr (V 4) 6) ^^^ (tr (V 4) 11)) ^^^ (tr (V 4) 25))), (0, .ref sh)]) hx hb d_SH_mixBlock_203 hl (k := 13) rfl (nI_add j 1) (by decide) rfl (fun ls hl => ?_)
      refine lv_goto (tgt := 66) hx hb d_SH_mixBlock_206 (by decide) ?_
      exact ih (ls := ls) (hl := lv_sub hl [13, 1, 2, 3, 4, 5, 6, 7, 8, 0] rfl) (j := j + 1) (hn := by omega) (V := rnd (kF j) (Y.2.1 j) V) (hV := by rw [hV]; rfl) (H := H) (locs := locs) (hM := hM) (hS := hS)
set_option maxHeartbeats 4000000 in
set_option maxRecDepth 100000 in
/-- the sums at first -/
theorem c_SH_begin (l : Launch) (D : va_G) (ct : Nat → ClassId) (Z : hp_Z) (hZ : hp_Zok Z) (M : hp_M) (sz : Nat) (th : Nat) (hzh : zH Z th) (sh su wo : Nat) (Y : ShT) (hsh : shOk ct M sh su wo Y) : Mv l y_SH_begin b_SH_begin 2 none 0 0 0 0 [.ref sh] D ct Z M sz (fun M1 => M1 = shM ct M sh su wo (hF, Y.2.1, 0, 0)) := by
  refine hp_start (by decide) (Nat.le_of_ble_eq_true rfl) (fun p e s m below meth c ls S hret hlk hnm hsz hK hM hS hA hz hl => ?_)
  have hx := S.1
  have hb := S.2.1
  have hl : lv_has ls 2 [(0, .ref sh)] := hl
  obtain ⟨f_su, f_wo, f_sh, hfl⟩ := id hsh
  have f0_su := f_su
  refine lv_iconst (v := nI 0) hx hb d_SH_begin_0 rfl ?_
  refine lv_istore_n (lv' := [(1, .int (nI 0)), (0, .ref sh)]) hx hb d_SH_begin_1 rfl hl (by decide) rfl (fun ls hl => ?_)
  replace hl : lv_has ls 2 [(0, .ref sh), (1, .int (nI 0))] := lv_sub hl [1, 0] rfl
  obtain ⟨j, e9j⟩ : ∃ z : Nat, z = 0 := ⟨_, rfl⟩
  obtain ⟨sv, e9sv⟩ : ∃ z : Nat → Int32, z = Y.1 := ⟨_, rfl⟩
  replace hl : lv_has ls 2 [(0, .ref sh), (1, .int (nI j))] := by subst e9j e9sv; exact hl
  obtain ⟨H, e9H⟩ : ∃ z : Heap, z = s.heap := ⟨_, rfl⟩
  replace hM : hp_H D ccl (hp_A M sz) M H := by rw [e9H]; exact hM
  replace hS : va_S (hp_A M sz) s.heap H [] := by rw [e9H]; exact hS
  rw [← e9H]
  clear e9H
  obtain ⟨locs, e9L⟩ : ∃ z : List Loc, z = [] := ⟨_, rfl⟩
  replace hS : va_S (hp_A M sz) s.heap H locs := by rw [e9L]; exact hS
  rw [← e9L]
  clear e9L
  obtain ⟨N1, e9N1⟩ : ∃ z : hp_M, z = M := ⟨_, rfl⟩
  replace hM : hp_H D ccl (hp_A M sz) N1 H := by rw [e9N1]; exact hM
  replace f_su : N1 su = some (.inl (ct 1, 8, .inl (Y.1))) := by rw [e9N1]; exact f_su
  replace f_wo : N1 wo = some (.inl (ct 1, 64, .inl (Y.2.1))) := by rw [e9N1]; exact f_wo
  replace f_sh : N1 sh = some (.inr (2, [.ref su, .ref wo, .int (nI Y.2.2.1), .long Y.2.2.2])) := by rw [e9N1]; exact f_sh
  replace f_su : N1 su = some (.inl (ct 1, 8, .inl sv)) := by subst e9j e9sv; exact f_su
  have hN : N1 = hp_up M su (.inl (ct 1, 8, .inl sv)) := by subst e9j e9sv; rw [hp_same f0_su]; exact e9N1
  have hsv : ∀ i, i < j → sv i = hF i := by subst e9j e9sv; intro i hi; omega
  obtain ⟨fu, hn⟩ : ∃ fu : Nat, j + fu = 8 := ⟨8 - j, by omega⟩
  clear e9j e9sv e9N1
  induction fu generalizing j sv H locs N1 ls with
  | zero =>
    have hn : j = 8 := by omega
    replace hM := hM.cong f_su (g := hF) (fun i hi => hsv i (by omega))
    rw [hN, hp_uu, shM_su hsh] at hM
    obtain ⟨f_su, f_wo, f_sh, -⟩ := shM_ok hsh (X := (hF, Y.2.1, Y.2.2.1, Y.2.2.2)) hfl
    have hsh1 := shM_ok hsh (X := (hF, Y.2.1, Y.2.2.1, Y.2.2.2)) hfl
    refine lv_iload_n hx hb d_SH_begin_2 rfl (lv_at hl 1 rfl) ?_
    refine lv_bipush (v := nI 8) hx hb d_SH_begin_3 rfl ?_
    refine nb_ge (tgt := 25) hx hb d_SH_begin_5 (by decide) (by omega) (by omega) (fun h2 => ?_) (fun h2 => ?_)
    · refine lv_aload_n hx hb d_SH_begin_25 rfl (lv_at hl 0 rfl) ?_
      refine lv_iconst (v := nI 0) hx hb d_SH_begin_26 rfl ?_
      refine hp_put (ty := .int) (fs' := [.ref su, .ref wo, .int (nI 0), .long Y.2.2.2]) S hK hM hS i_SH t_SH to_SH n_SH f_sh rfl 2 (by decide) mf_SH_18 (fun _ h9 => h9) rfl (by decide +kernel) rfl rfl (by simp) rfl d_SH_begin_27 (fun H locs hM hS => ?_)
      have f_su := hp_k (e := (.inr (2, [.ref su, .ref wo, .int (nI 0), .long Y.2.2.2]))) (hp_ne f_su f_sh (by simp)) f_su
      have f_wo := hp_k (e := (.inr (2, [.ref su, .ref wo, .int (nI 0), .long Y.2.2.2]))) (hp_ne f_wo f_sh (by simp)) f_wo
      have f_sh : hp_up (shM ct M sh su wo (hF, Y.2.1, Y.2.2.1, Y.2.2.2)) sh (.inr (2, [.ref su, .ref wo, .int (nI 0), .long Y.2.2.2])) sh = some (.inr (2, [.ref su, .ref wo, .int (nI 0), .long Y.2.2.2])) := hp_us
      obtain ⟨M3, eM3⟩ : ∃ z, z = hp_up (shM ct M sh su wo (hF, Y.2.1, Y.2.2.1, Y.2.2.2)) sh (.inr (2, [.ref su, .ref wo, .int (nI 0), .long Y.2.2.2])) := ⟨_, rfl⟩
      rw [← eM3] at hM f_su f_wo f_sh
      refine lv_aload_n hx hb d_SH_begin_30 rfl (lv_at hl 0 rfl) ?_
      refine lv_lconst (v := 0) hx hb d_SH_begin_31 (by decide) ?_
      refine hp_put (ty := .long) (fs' := [.ref su, .ref wo, .int (nI 0), .long 0]) S hK hM hS i_SH t_SH to_SH n_SH f_sh rfl 3 (by decide) mf_SH_22 (fun _ h9 => h9) rfl (by decide +kernel) rfl rfl (by simp) rfl d_SH_begin_32 (fun H locs hM hS => ?_)
      have f_su := hp_k (e := (.inr (2, [.ref su, .ref wo, .int (nI 0), .long 0]))) (hp_ne f_su f_sh (by simp)) f_su
      have f_wo := hp_k (e := (.inr (2, [.ref su, .ref wo, .int (nI 0), .long 0]))) (hp_ne f_wo f_sh (by simp)) f_wo
      have f_sh : hp_up M3 sh (.inr (2, [.ref su, .ref wo, .int (nI 0), .long 0])) sh = some (.inr (2, [.ref su, .ref wo, .int (nI 0), .long 0])) := hp_us
      obtain ⟨M4, eM4⟩ : ∃ z, z = hp_up M3 sh (.inr (2, [.ref su, .ref wo, .int (nI 0), .long 0])) := ⟨_, rfl⟩
      rw [← eM4] at hM f_su f_wo f_sh
      exact hp_vret S hret hlk hM hS (by rw [eM4, eM3, hp_uu, shM_sh hsh1, shM_uu]) d_SH_begin_35
    · exact absurd hn (by omega)
  | succ fu ih =>
    refine lv_iload_n hx hb d_SH_begin_2 rfl (lv_at hl 1 rfl) ?_
    refine lv_bipush (v := nI 8) hx hb d_SH_begin_3 rfl ?_
    refine nb_ge (tgt := 25) hx hb d_SH_begin_5 (by decide) (by omega) (by omega) (fun h5 => ?_) (fun h5 => ?_)
    · exact absurd hn (by omega)
    · refine lv_aload_n hx hb d_SH_begin_8 rfl (lv_at hl 0 rfl) ?_
      refine hp_get S hK hM i_SH f_sh rfl 0 (by decide) mf_SH_9 (fun _ h9 => h9) rfl d_SH_begin_9 ?_
      refine lv_iload_n hx hb d_SH_begin_12 rfl (lv_at hl 1 rfl) ?_
      refine va_getsN hx hb (hzh _ _ _ hz).1 hS S.2.2.2.1 (va_Nw.use rfl (hzh _ _ _ hz).2.2) (fun _ h9 => h9) d_SH_begin_13 ?_
      refine lv_iload_n hx hb d_SH_begin_16 rfl (lv_at hl 1 rfl) ?_
      refine va_ti hx hb (hzh _ _ _ hz).2.1 hS (vp_in_nI (show j < 8 by omega) (by decide)) (v := .int (hF j)) (by show Value.int (hF (nI j).toNatClampNeg) = _; rw [nI_clamp (by omega)]) d_SH_begin_17 ?_
      refine hp_iast S hK hM hS 1 f_su rfl j rfl (by omega) (by omega) d_SH_begin_18 (fun H locs hM hS => ?_)
      have f_wo := hp_k (e := (.inl (ct 1, 8, .inl (upd sv j (hF j))))) (hp_ne f_wo f_su (by simp)) f_wo
      have f_sh := hp_k (e := (.inl (ct 1, 8, .inl (upd sv j (hF j))))) (hp_ne f_sh f_su (by simp)) f_sh
      have f_su : hp_up N1 su (.inl (ct 1, 8, .inl (upd sv j (hF j)))) su = some (.inl (ct 1, 8, .inl (upd sv j (hF j)))) := hp_us
      obtain ⟨M6, eM6⟩ : ∃ z, z = hp_up N1 su (.inl (ct 1, 8, .inl (upd sv j (hF j)))) := ⟨_, rfl⟩
      rw [← eM6] at hM f_su f_wo f_sh
      refine lv_iinc (v := nI (j + 1)) (lv' := [(1, .int (nI (j + 1))), (0, .ref sh)]) hx hb d_SH_begin_19 hl (k := 1) rfl (nI_add j 1) (by decide) rfl (fun ls hl => ?_)
      refine lv_goto (tgt := 2) hx hb d_SH_begin_22 (by decide) ?_
      exact ih (ls := ls) (hl := lv_sub hl [1, 0] rfl) (j := j + 1) (hn := by omega) (sv := upd sv j (hF j)) (hN := by rw [eM6, hN, hp_uu]) (hsv := lt_s (fun i hi => by rw [pk_un (Nat.ne_of_lt hi)]; exact hsv i hi) pk_us) (H := H) (locs := locs) (hM := hM) (hS := hS) (N1 := M6) (f_su := f_su) (f_wo := f_wo) (f_sh := f_sh)
end
section
set_option maxHeartbeats 4000000 in
set_option maxRecDepth 100000 in
/-- a byte is fed -/
theorem c_SH_feed (l : Launch) (D : va_G) (ct : Nat → ClassId) (Z : hp_Z) (hZ : hp_Zok Z) (M : hp_M) (sz : Nat) (tk : Nat) (hzk : zK Z tk) (sh su wo : Nat) (Y : ShT) (hsh : shOk ct M sh su wo Y) (hlt : Y.2.2.1 < 64) (v : Int32) : Mv l y_SH_feed b_SH_feed 3 none 2 54 0 0 [.ref sh, .int v] D ct Z M sz (fun M1 => M1 = shM ct M sh su wo (feedS v Y)) := by
  refine hp_start (by decide) (Nat.le_of_ble_eq_true rfl) (fun p e s m below meth c ls S hret hlk hnm hsz hK hM hS hA hz hl => ?_)
  have hx := S.1
  have hb := S.2.1
  have hl : lv_has ls 3 [(0, .ref sh), (1, .int v)] := hl
  obtain ⟨f_su, f_wo, f_sh, hfl⟩ := id hsh
  refine lv_aload_n hx hb d_SH_feed_0 rfl (lv_at hl 0 rfl) ?_
  refine hp_get S hK hM i_SH f_sh rfl 2 (by decide) mf_SH_18 (fun _ h9 => h9) rfl d_SH_feed_1 ?_
  refine lv_iconst (v := nI 2) hx hb d_SH_feed_4 rfl ?_
  refine lv_ishr hx hb d_SH_feed_5 ?_
  rw [shr2 (by omega)]
  refine lv_bipush (v := nI 15) hx hb d_SH_feed_6 rfl ?_
  refine lv_iand hx hb d_SH_feed_8 ?_
  rw [and15 (by omega)]
  refine lv_istore_n (lv' := [(2, .int (nI (((Y.2.2.1) / 4) % 16))), (0, .ref sh), (1, .int v)]) hx hb d_SH_feed_9 rfl hl (by decide) rfl (fun ls hl => ?_)
  refine lv_aload_n hx hb d_SH_feed_10 rfl (lv_at hl 1 rfl) ?_
  refine hp_get S hK hM i_SH f_sh rfl 1 (by decide) mf_SH_15 (fun _ h9 => h9) rfl d_SH_feed_11 ?_
  refine lv_iload_n hx hb d_SH_feed_14 rfl (lv_at hl 0 rfl) ?_
  refine lv_aload_n hx hb d_SH_feed_15 rfl (lv_at hl 1 rfl) ?_
  refine hp_get S hK hM i_SH f_sh rfl 1 (by decide) mf_SH_15 (fun _ h9 => h9) rfl d_SH_feed_16 ?_
  refine lv_iload_n hx hb d_SH_feed_19 rfl (lv_at hl 0 rfl) ?_
  refine hp_iald S hK hM 1 f_wo rfl (((Y.2.2.1) / 4) % 16) rfl (by omega) (by omega) d_SH_feed_20 ?_
  refine lv_bipush (v := nI 8) hx hb d_SH_feed_21 rfl ?_
  refine lv_ishl hx hb d_SH_feed_23 ?_
  refine lv_iload_n hx hb d_SH_feed_24 rfl (lv_at hl 2 rfl) ?_
  refine lv_sipush (v := nI 255) hx hb d_SH_feed_25 rfl ?_
  refine lv_iand hx hb d_SH_feed_28 ?_
  refine lv_ior hx hb d_SH_feed_29 ?_
  refine hp_iast S hK hM hS 1 f_wo rfl (((Y.2.2.1) / 4) % 16) rfl (by omega) (by omega) d_SH_feed_30 (fun H locs hM hS => ?_)
  have f_su := hp_k (e := (.inl (ct 1, 64, .inl (upd (Y.2.1) (((Y.2.2.1) / 4) % 16) ((((Y.2.1) (((Y.2.2.1) / 4) % 16)) <<< ((nI 8) &&& 31)) ||| (v &&& (nI 255))))))) (hp_ne f_su f_wo (by simp)) f_su
  have f_sh := hp_k (e := (.inl (ct 1, 64, .inl (upd (Y.2.1) (((Y.2.2.1) / 4) % 16) ((((Y.2.1) (((Y.2.2.1) / 4) % 16)) <<< ((nI 8) &&& 31)) ||| (v &&& (nI 255))))))) (hp_ne f_sh f_wo (by simp)) f_sh
  have f_wo : hp_up M wo (.inl (ct 1, 64, .inl (upd (Y.2.1) (((Y.2.2.1) / 4) % 16) ((((Y.2.1) (((Y.2.2.1) / 4) % 16)) <<< ((nI 8) &&& 31)) ||| (v &&& (nI 255)))))) wo = some (.inl (ct 1, 64, .inl (upd (Y.2.1) (((Y.2.2.1) / 4) % 16) ((((Y.2.1) (((Y.2.2.1) / 4) % 16)) <<< ((nI 8) &&& 31)) ||| (v &&& (nI 255)))))) := hp_us
  obtain ⟨M1, eM1⟩ : ∃ z, z = hp_up M wo (.inl (ct 1, 64, .inl (upd (Y.2.1) (((Y.2.2.1) / 4) % 16) ((((Y.2.1) (((Y.2.2.1) / 4) % 16)) <<< ((nI 8) &&& 31)) ||| (v &&& (nI 255)))))) := ⟨_, rfl⟩
  rw [← eM1] at hM f_su f_wo f_sh
  refine lv_aload_n hx hb d_SH_feed_31 rfl (lv_at hl 1 rfl) ?_
  refine lv_dup hx hb d_SH_feed_32 rfl ?_
  refine hp_get S hK hM i_SH f_sh rfl 2 (by decide) mf_SH_18 (fun _ h9 => h9) rfl d_SH_feed_33 ?_
  refine lv_iconst (v := nI 1) hx hb d_SH_feed_36 rfl ?_
  refine nb_iadd hx hb d_SH_feed_37 ?_
  refine hp_put (ty := .int) (fs' := [.ref su, .ref wo, .int (nI ((Y.2.2.1) + 1)), .long Y.2.2.2]) S hK hM hS i_SH t_SH to_SH n_SH f_sh rfl 2 (by decide) mf_SH_18 (fun _ h9 => h9) rfl (by decide +kernel) rfl rfl (by simp) rfl d_SH_feed_38 (fun H locs hM hS => ?_)
  have f_su := hp_k (e := (.inr (2, [.ref su, .ref wo, .int (nI ((Y.2.2.1) + 1)), .long Y.2.2.2]))) (hp_ne f_su f_sh (by simp)) f_su
  have f_wo := hp_k (e := (.inr (2, [.ref su, .ref wo, .int (nI ((Y.2.2.1) + 1)), .long Y.2.2.2]))) (hp_ne f_wo f_sh (by simp)) f_wo
  have f_sh : hp_up M1 sh (.inr (2, [.ref su, .ref wo, .int (nI ((Y.2.2.1) + 1)), .long Y.2.2.2])) sh = some (.inr (2, [.ref su, .ref wo, .int (nI ((Y.2.2.1) + 1)), .long Y.2.2.2])) := hp_us
  obtain ⟨M2, eM2⟩ : ∃ z, z = hp_up M1 sh (.inr (2, [.ref su, .ref wo, .int (nI ((Y.2.2.1) + 1)), .long Y.2.2.2])) := ⟨_, rfl⟩
  rw [← eM2] at hM f_su f_wo f_sh
  refine lv_aload_n hx hb d_SH_feed_41 rfl (lv_at hl 1 rfl) ?_
  refine lv_dup hx hb d_SH_feed_42 rfl ?_
  refine hp_get S hK hM i_SH f_sh rfl 3 (by decide) mf_SH_22 (fun _ h9 => h9) rfl d_SH_feed_43 ?_
  refine lv_lconst (v := 1) hx hb d_SH_feed_46 (by decide) ?_
  refine lv_ladd hx hb d_SH_feed_47 ?_
  refine hp_put (ty := .long) (fs' := [.ref su, .ref wo, .int (nI ((Y.2.2.1) + 1)), .long ((Y.2.2.2) + 1)]) S hK hM hS i_SH t_SH to_SH n_SH f_sh rfl 3 (by decide) mf_SH_22 (fun _ h9 => h9) rfl (by decide +kernel) rfl rfl (by simp) rfl d_SH_feed_48 (fun H locs hM hS => ?_)
  have f_su := hp_k (e := (.inr (2, [.ref su, .ref wo, .int (nI ((Y.2.2.1) + 1)), .long ((Y.2.2.2) + 1)]))) (hp_ne f_su f_sh (by simp)) f_su
  have f_wo := hp_k (e := (.inr (2, [.ref su, .ref wo, .int (nI ((Y.2.2.1) + 1)), .long ((Y.2.2.2) + 1)]))) (hp_ne f_wo f_sh (by simp)) f_wo
  have f_sh : hp_up M2 sh (.inr (2, [.ref su, .ref wo, .int (nI ((Y.2.2.1) + 1)), .long ((Y.2.2.2) + 1)])) sh = some (.inr (2, [.ref su, .ref wo, .int (nI ((Y.2.2.1) + 1)), .long ((Y.2.2.2) + 1)])) := hp_us
  obtain ⟨M3, eM3⟩ : ∃ z, z = hp_up M2 sh (.inr (2, [.ref su, .ref wo, .int (nI ((Y.2.2.1) + 1)), .long ((Y.2.2.2) + 1)])) := ⟨_, rfl⟩
  rw [← eM3] at hM f_su f_wo f_sh
  have hX : M3 = shM ct M sh su wo (fd0 v Y) := by rw [eM3, eM2, eM1, hp_uu]; unfold shM fd0; rw [hp_same hsh.1]; rfl
  rw [hX] at hM
  obtain ⟨X, eX⟩ : ∃ z : ShT, z = fd0 v Y := ⟨_, rfl⟩
  rw [← eX] at hM
  have hXf : X.2.2.1 = Y.2.2.1 + 1 := by rw [eX]; rfl
  have hshX := shM_ok hsh (X := X) (by omega)
  obtain ⟨f_su, f_wo, f_sh, -⟩ := id hshX
  refine lv_aload_n hx hb d_SH_feed_51 rfl (lv_at hl 1 rfl) ?_
  refine hp_get S hK hM i_SH f_sh rfl 2 (by decide) mf_SH_18 (fun _ h9 => h9) rfl d_SH_feed_52 ?_
  refine lv_bipush (v := nI 64) hx hb d_SH_feed_55 rfl ?_
  refine nb_lt (tgt := 73) hx hb d_SH_feed_57 (by decide) (by omega) (by omega) (fun h64 => ?_) (fun h64 => ?_)
  · exact hp_vret S hret hlk hM hS (by rw [eX]; unfold feedS; rw [if_pos (by omega)]) d_SH_feed_73
  · refine lv_aload_n hx hb d_SH_feed_60 rfl (lv_at hl 1 rfl) ?_
    refine hp_callv (go_V S hZ hK hM hS hA hz (c_SH_spreadWords l D ct Z hZ _ _ sh su wo X hshX) mc_SH_spreadWords mz_SH ml_SH_33 mi_SH_spreadWords mx_SH_spreadWords hd_SH_spreadWords rfl ⟨by decide, by decide⟩ f_sh rfl rfl hl.1 rfl (Nat.le_of_ble_eq_true rfl) d_SH_feed_61 ⟨by decide, by decide⟩) hM hS hA (fun M9 H locs h9 hM hS => ?_)
    rw [h9, shM_uu] at hM
    obtain ⟨U, eU⟩ : ∃ z : ShT, z = (X.1, spw X.2.1 48, X.2.2.1, X.2.2.2) := ⟨_, rfl⟩
    rw [← eU] at hM
    have hUf : U.2.2.1 = Y.2.2.1 + 1 := by rw [eU]; exact hXf
    have hshX := shM_ok hsh (X := U) (by omega)
    obtain ⟨f_su, f_wo, f_sh, -⟩ := id hshX
    refine lv_aload_n hx hb d_SH_feed_64 rfl (lv_at hl 1 rfl) ?_
    refine hp_callv (go_V S hZ hK hM hS hA hz (c_SH_mixBlock l D ct Z hZ _ _ tk hzk sh su wo U hshX) mc_SH_mixBlock mz_SH ml_SH_36 mi_SH_mixBlock mx_SH_mixBlock hd_SH_mixBlock rfl ⟨by decide, by decide⟩ f_sh rfl rfl hl.1 rfl (Nat.le_of_ble_eq_true rfl) d_SH_feed_65 ⟨by decide, by decide⟩) hM hS hA (fun M9 H locs h9 hM hS => ?_)
    rw [h9, shM_uu] at hM
    obtain ⟨T, eT⟩ : ∃ z : ShT, z = (adds (mixn U.2.1 U.1 64) U.1, U.2.1, U.2.2.1, U.2.2.2) := ⟨_, rfl⟩
    rw [← eT] at hM
    have hTf : T.2.2.1 = Y.2.2.1 + 1 := by rw [eT]; exact hUf
    have hshX := shM_ok hsh (X := T) (by omega)
    obtain ⟨f_su, f_wo, f_sh, -⟩ := id hshX
    refine lv_aload_n hx hb d_SH_feed_68 rfl (lv_at hl 1 rfl) ?_
    refine lv_iconst (v := nI 0) hx hb d_SH_feed_69 rfl ?_
    refine hp_put (ty := .int) (fs' := [.ref su, .ref wo, .int (nI 0), .long T.2.2.2]) S hK hM hS i_SH t_SH to_SH n_SH f_sh rfl 2 (by decide) mf_SH_18 (fun _ h9 => h9) rfl (by decide +kernel) rfl rfl (by simp) rfl d_SH_feed_70 (fun H locs hM hS => ?_)
    have f_su := hp_k (e := (.inr (2, [.ref su, .ref wo, .int (nI 0), .long T.2.2.2]))) (hp_ne f_su f_sh (by simp)) f_su
    have f_wo := hp_k (e := (.inr (2, [.ref su, .ref wo, .int (nI 0), .long T.2.2.2]))) (hp_ne f_wo f_sh (by simp)) f_wo
    have f_sh : hp_up (shM ct M sh su wo T) sh (.inr (2, [.ref su, .ref wo, .int (nI 0), .long T.2.2.2])) sh = some (.inr (2, [.ref su, .ref wo, .int (nI 0), .long T.2.2.2])) := hp_us
    obtain ⟨M4, eM4⟩ : ∃ z, z = hp_up (shM ct M sh su wo T) sh (.inr (2, [.ref su, .ref wo, .int (nI 0), .long T.2.2.2])) := ⟨_, rfl⟩
    rw [← eM4] at hM f_su f_wo f_sh
    exact hp_vret S hret hlk hM hS (by rw [eM4, shM_sh hshX, shM_uu, eT, eU, eX]; unfold feedS; rw [if_neg (by omega)]; rfl) d_SH_feed_73
theorem feedL_s {Y : ShT} {x : List Nat} {j : Nat} (h : j < x.length) : feedL Y (x.take (j + 1)) = feedS (nI (x.getD j 0)) (feedL Y (x.take j)) := by
  unfold feedL
  rw [List.take_succ, List.foldl_append, List.getElem?_eq_getElem h, List.getD_eq_getElem?_getD, List.getElem?_eq_getElem h]
  rfl
theorem feedL_lt {Y : ShT} (h : Y.2.2.1 < 64) : ∀ l : List Nat, (feedL Y l).2.2.1 < 64 := by
  intro l
  induction l generalizing Y with
  | nil => exact h
  | cons k l ih => exact ih (Y := feedS (nI k) Y) feedS_lt
set_option maxHeartbeats 4000000 in
set_option maxRecDepth 100000 in
/-- characters are fed -/
theorem c_SH_feedAll (l : Launch) (D : va_G) (ct : Nat → ClassId) (Z : hp_Z) (hZ : hp_Zok Z) (M : hp_M) (sz : Nat) (tk : Nat) (hzk : zK Z tk) (sh su wo : Nat) (Y : ShT) (hsh : shOk ct M sh su wo Y) (hlt : Y.2.2.1 < 64) (t : Nat) (x : List Nat) (hL : x.length ≤ 4000) (hc_x : ∀ i, x.getD i 0 < 65536) (f_t : M t = some (.inl (ct 0, x.length, .inl (tx x)))) : Mv l y_SH_feedAll b_SH_feedAll 3 none 3 76 0 0 [.ref sh, .ref t] D ct Z M sz (fun M1 => M1 = shM ct M sh su wo (feedL Y x)) := by
  refine hp_start (by decide) (Nat.le_of_ble_eq_true rfl) (fun p e s m below meth c ls S hret hlk hnm hsz hK hM hS hA hz hl => ?_)
  have hx := S.1
  have hb := S.2.1
  have hl : lv_has ls 3 [(0, .ref sh), (1, .ref t)] := hl
  obtain ⟨f_su, f_wo, f_sh, hfl⟩ := id hsh
  have nt_su : t ≠ su := (hp_ne f_t f_su (fun q9 => ct_ne hK (i := 0) (j := 1) rfl rfl (by decide) (congrArg Prod.fst (Sum.inl.inj q9))))
  have nt_wo : t ≠ wo := (hp_ne f_t f_wo (fun q9 => ct_ne hK (i := 0) (j := 1) rfl rfl (by decide) (congrArg Prod.fst (Sum.inl.inj q9))))
  have nt_sh : t ≠ sh := (hp_ne f_t f_sh (by simp))
  have f0_t := f_t
  refine lv_iconst (v := nI 0) hx hb d_SH_feedAll_0 rfl ?_
  refine lv_istore_n (lv' := [(2, .int (nI 0)), (0, .ref sh), (1, .ref t)]) hx hb d_SH_feedAll_1 rfl hl (by decide) rfl (fun ls hl => ?_)
  replace hl : lv_has ls 3 [(0, .ref sh), (1, .ref t), (2, .int (nI 0))] := lv_sub hl [1, 2, 0] rfl
  obtain ⟨j, e9j⟩ : ∃ z : Nat, z = 0 := ⟨_, rfl⟩
  obtain ⟨X, e9X⟩ : ∃ z : ShT, z = Y := ⟨_, rfl⟩
  replace hl : lv_has ls 3 [(0, .ref sh), (1, .ref t), (2, .int (nI j))] := by subst e9j e9X; exact hl
  obtain ⟨H, e9H⟩ : ∃ z : Heap, z = s.heap := ⟨_, rfl⟩
  replace hM : hp_H D ccl (hp_A M sz) M H := by rw [e9H]; exact hM
  replace hS : va_S (hp_A M sz) s.heap H [] := by rw [e9H]; exact hS
  rw [← e9H]
  clear e9H
  obtain ⟨locs, e9L⟩ : ∃ z : List Loc, z = [] := ⟨_, rfl⟩
  replace hS : va_S (hp_A M sz) s.heap H locs := by rw [e9L]; exact hS
  rw [← e9L]
  clear e9L
  replace hM : hp_H D ccl (hp_A M sz) (shM ct M sh su wo X) H := by rw [e9X, shM_self hsh]; exact hM
  have hX : X = feedL Y (x.take j) := by subst e9j e9X; rfl
  have hXl : X.2.2.1 < 64 := by subst e9j e9X; exact hlt
  obtain ⟨fu, hn⟩ : ∃ fu : Nat, j + fu = x.length := ⟨x.length - j, by omega⟩
  clear e9j e9X
  induction fu generalizing j X H locs ls with
  | zero =>
    have hn : j = x.length := by omega
    have hshX := shM_ok hsh (X := X) (Nat.le_of_lt hXl)
    obtain ⟨f_su, f_wo, f_sh, -⟩ := id hshX
    have f_t := shM_k (ct := ct) (X := X) f0_t nt_su nt_wo nt_sh
    refine lv_iload_n hx hb d_SH_feedAll_2 rfl (lv_at hl 2 rfl) ?_
    refine lv_aload_n hx hb d_SH_feedAll_3 rfl (lv_at hl 1 rfl) ?_
    refine hp_alen S hK hM 0 f_t rfl d_SH_feedAll_4 ?_
    refine nb_ge (tgt := 21) hx hb d_SH_feedAll_5 (by decide) (by omega) (by omega) (fun h1 => ?_) (fun h1 => ?_)
    · exact hp_vret S hret hlk hM hS (by rw [hX, hn, List.take_length]) d_SH_feedAll_21
    · exact absurd hn (by omega)
  | succ fu ih =>
    have hshX := shM_ok hsh (X := X) (Nat.le_of_lt hXl)
    obtain ⟨f_su, f_wo, f_sh, -⟩ := id hshX
    have f_t := shM_k (ct := ct) (X := X) f0_t nt_su nt_wo nt_sh
    refine lv_iload_n hx hb d_SH_feedAll_2 rfl (lv_at hl 2 rfl) ?_
    refine lv_aload_n hx hb d_SH_feedAll_3 rfl (lv_at hl 1 rfl) ?_
    refine hp_alen S hK hM 0 f_t rfl d_SH_feedAll_4 ?_
    refine nb_ge (tgt := 21) hx hb d_SH_feedAll_5 (by decide) (by omega) (by omega) (fun h2 => ?_) (fun h2 => ?_)
    · exact absurd hn (by omega)
    · refine lv_aload_n hx hb d_SH_feedAll_8 rfl (lv_at hl 0 rfl) ?_
      refine lv_aload_n hx hb d_SH_feedAll_9 rfl (lv_at hl 1 rfl) ?_
      refine lv_iload_n hx hb d_SH_feedAll_10 rfl (lv_at hl 2 rfl) ?_
      refine hp_cald S hK hM 0 f_t rfl j rfl (by omega) (by omega) d_SH_feedAll_11 ?_
      refine hp_callv (go_V S hZ hK hM hS hA hz (c_SH_feed l D ct Z hZ _ _ tk hzk sh su wo X hshX hXl (nI (x.getD j 0))) mc_SH_feed mz_SH ml_SH_29 mi_SH_feed mx_SH_feed hd_SH_feed rfl ⟨by decide, by decide⟩ f_sh rfl rfl hl.1 rfl (Nat.le_of_ble_eq_true rfl) d_SH_feedAll_12 ⟨by decide, by decide⟩) hM hS hA (fun M9 H locs h9 hM hS => ?_)
      rw [h9, shM_uu] at hM
      refine lv_iinc (v := nI (j + 1)) (lv' := [(2, .int (nI (j + 1))), (0, .ref sh), (1, .ref t)]) hx hb d_SH_feedAll_15 hl (k := 2) rfl (nI_add j 1) (by decide) rfl (fun ls hl => ?_)
      refine lv_goto (tgt := 2) hx hb d_SH_feedAll_18 (by decide) ?_
      exact ih (ls := ls) (hl := lv_sub hl [1, 2, 0] rfl) (j := j + 1) (hn := by omega) (X := feedS (nI (x.getD j 0)) X) (hX := by rw [hX, feedL_s (by omega)]) (hXl := feedS_lt) (H := H) (locs := locs) (hM := hM) (hS := hS)
/-- bytes of 0, till 56 of a block are there -/
def zer : Nat → ShT → ShT
  | 0, Y => Y
  | n + 1, Y => if Y.2.2.1 = 56 then Y else zer n (feedS (nI 0) Y)
def lby (b : Int64) (s : Nat) : Int32 := ((Int64.toUInt64 b >>> ((Int32.toInt64 (nI s)).toUInt64 &&& Int64.toUInt64 63)).toInt64 &&& 255).toInt32
/-- the eight bytes of a number, from the k-th on -/
def len8 (b : Int64) : Nat → ShT → ShT
  | 0, Y => Y
  | k + 1, Y => len8 b k (feedS (lby b (8 * k)) Y)
def endS (Y : ShT) : ShT := len8 (Y.2.2.2 * 8) 8 (zer 64 (feedS (nI 128) Y))
theorem iinc_m8 (x : Int32) : x + Int32.ofInt (-8) = x - nI 8 := by
  rw [Int32.sub_eq_add_neg]
  rfl
set_option maxHeartbeats 4000000 in
set_option maxRecDepth 100000 in
/-- the end of the bytes -/
theorem c_SH_end (l : Launch) (D : va_G) (ct : Nat → ClassId) (Z : hp_Z) (hZ : hp_Zok Z) (M : hp_M) (sz : Nat) (tk : Nat) (hzk : zK Z tk) (sh su wo : Nat) (Y : ShT) (hsh : shOk ct M sh su wo Y) (hlt : Y.2.2.1 < 64) : Mv l y_SH_end b_SH_end 4 none 3 76 0 0 [.ref sh] D ct Z M sz (fun M1 => M1 = shM ct M sh su wo (endS Y)) := by
  refine hp_start (by decide) (Nat.le_of_ble_eq_true rfl) (fun p e s m below meth c ls S hret hlk hnm hsz hK hM hS hA hz hl => ?_)
  have hx := S.1
  have hb := S.2.1
  have hl : lv_has ls 4 [(0, .ref sh)] := hl
  obtain ⟨f_su, f_wo, f_sh, hfl⟩ := id hsh
  refine lv_aload_n hx hb d_SH_end_0 rfl (lv_at hl 0 rfl) ?_
  refine hp_get S hK hM i_SH f_sh rfl 3 (by decide) mf_SH_22 (fun _ h9 => h9) rfl d_SH_end_1 ?_
  refine lv_ldc2 hx hb S.2.2.2.1 (S.2.2.2.2 _ mq_SH_39) d_SH_end_4 ?_
  refine lv_lmul hx hb d_SH_end_7 ?_
  refine lv_lstore_n (lv' := [(1, .long ((Y.2.2.2) * 8)), (0, .ref sh)]) hx hb d_SH_end_8 rfl hl (by decide) rfl (fun ls hl => ?_)
  refine lv_aload_n hx hb d_SH_end_9 rfl (lv_at hl 1 rfl) ?_
  refine lv_sipush (v := nI 128) hx hb d_SH_end_10 rfl ?_
  refine hp_callv (go_V S hZ hK hM hS hA hz (c_SH_feed l D ct Z hZ _ _ tk hzk sh su wo Y hsh hlt (nI 128)) mc_SH_feed mz_SH ml_SH_29 mi_SH_feed mx_SH_feed hd_SH_feed rfl ⟨by decide, by decide⟩ f_sh rfl rfl hl.1 rfl (Nat.le_of_ble_eq_true rfl) d_SH_end_13 ⟨by decide, by decide⟩) hM hS hA (fun M9 H locs h9 hM hS => ?_)
  rw [h9] at hM
  refine lv_iconst (v := nI 0) hx hb d_SH_end_16 rfl ?_
  refine lv_istore_n (lv' := [(3, .int (nI 0)), (1, .long ((Y.2.2.2) * 8)), (0, .ref sh)]) hx hb d_SH_end_17 rfl hl (by decide) rfl (fun ls hl => ?_)
  replace hl : lv_has ls 4 [(0, .ref sh), (1, .long ((Y.2.2.2) * 8)), (3, .int (nI 0))] := lv_sub hl [2, 1, 0] rfl
  obtain ⟨j, e9j⟩ : ∃ z : Nat, z = 0 := ⟨_, rfl⟩
  obtain ⟨X, e9X⟩ : ∃ z : ShT, z = feedS (nI 128) Y := ⟨_, rfl⟩
  replace hl : lv_has ls 4 [(0, .ref sh), (1, .long ((Y.2.2.2) * 8)), (3, .int (nI j))] := by subst e9j e9X; exact hl
  replace hM : hp_H D ccl (hp_A M sz) (shM ct M sh su wo X) H := by rw [e9X]; exact hM
  have hX : zer (64 - j) X = zer 64 (feedS (nI 128) Y) := by subst e9j e9X; rfl
  have hXl : X.2.2.1 < 64 := by subst e9j e9X; exact feedS_lt
  obtain ⟨fu, hn⟩ : ∃ fu : Nat, j + fu = 64 := ⟨64 - j, by omega⟩
  clear e9j e9X
  induction fu generalizing j X H locs ls with
  | zero =>
    have hn : j = 64 := by omega
    have hshX := shM_ok hsh (X := X) (Nat.le_of_lt hXl)
    obtain ⟨f_su, f_wo, f_sh, -⟩ := id hshX
    refine lv_iload_n hx hb d_SH_end_18 rfl (lv_at hl 2 rfl) ?_
    refine lv_bipush (v := nI 64) hx hb d_SH_end_19 rfl ?_
    refine nb_ge (tgt := 44) hx hb d_SH_end_21 (by decide) (by omega) (by omega) (fun h1 => ?_) (fun h1 => ?_)
    · have hE : endS Y = len8 (Y.2.2.2 * 8) 8 X := by unfold endS; rw [← hX, hn]; rfl
      replace hl : lv_has ls 4 [(0, .ref sh), (1, .long ((Y.2.2.2) * 8))] := lv_sub hl [0, 1] rfl
      refine lv_bipush (v := nI 56) hx hb d_SH_end_44 rfl ?_
      refine lv_istore_n (lv' := [(3, .int (nI 56)), (0, .ref sh), (1, .long ((Y.2.2.2) * 8))]) hx hb d_SH_end_46 rfl hl (by decide) rfl (fun ls hl => ?_)
      replace hl : lv_has ls 4 [(0, .ref sh), (1, .long ((Y.2.2.2) * 8)), (3, .int (nI 56))] := lv_sub hl [1, 2, 0] rfl
      clear hX
      obtain ⟨u, e9u⟩ : ∃ z : Nat, z = 8 := ⟨_, rfl⟩
      obtain ⟨T, e9T⟩ : ∃ z : ShT, z = X := ⟨_, rfl⟩
      replace hl : lv_has ls 4 [(0, .ref sh), (1, .long ((Y.2.2.2) * 8)), (3, .int (nI (8 * u) - nI 8))] := by subst e9u; exact hl
      replace hM : hp_H D ccl (hp_A M sz) (shM ct M sh su wo T) H := by rw [e9T]; exact hM
      have hTl : T.2.2.1 < 64 := by rw [e9T]; exact hXl
      have hT : endS Y = len8 (Y.2.2.2 * 8) u T := by rw [e9u, e9T]; exact hE
      have hu : u ≤ 8 := by omega
      clear e9u e9T
      induction u generalizing T H locs ls with
      | zero =>
        have hshX := shM_ok hsh (X := T) (Nat.le_of_lt hTl)
        obtain ⟨f_su, f_wo, f_sh, -⟩ := id hshX
        refine lv_iload_n hx hb d_SH_end_47 rfl (lv_at hl 2 rfl) ?_
        refine lv_if_lt (tgt := 69) hx hb d_SH_end_48 (by decide) (fun h2 => ?_) (fun h2 => ?_)
        · exact hp_vret S hret hlk hM hS (by rw [hT]; rfl) d_SH_end_69
        · exact absurd (by decide) h2
      | succ u ih =>
        have hshX := shM_ok hsh (X := T) (Nat.le_of_lt hTl)
        obtain ⟨f_su, f_wo, f_sh, -⟩ := id hshX
        replace hl : lv_has ls 4 [(0, .ref sh), (1, .long ((Y.2.2.2) * 8)), (3, .int (nI (8 * u)))] := by rw [show nI (8 * u) = nI (8 * (u + 1)) - nI 8 by rw [pk_sub (by omega)]; exact congrArg nI (by omega)]; exact hl
        refine lv_iload_n hx hb d_SH_end_47 rfl (lv_at hl 2 rfl) ?_
        refine nz_lt (tgt := 69) hx hb d_SH_end_48 (by decide) (by omega) (fun h3 => ?_) (fun h3 => ?_)
        · exact absurd h3 (fun q => q)
        · refine lv_aload_n hx hb d_SH_end_51 rfl (lv_at hl 0 rfl) ?_
          refine lv_lload_n hx hb d_SH_end_52 rfl (lv_at hl 1 rfl) ?_
          refine lv_iload_n hx hb d_SH_end_53 rfl (lv_at hl 2 rfl) ?_
          refine lv_lushr hx hb d_SH_end_54 rfl ?_
          refine lv_ldc2 hx hb S.2.2.2.1 (S.2.2.2.2 _ mq_SH_41) d_SH_end_55 ?_
          refine lv_land hx hb d_SH_end_58 ?_
          refine lv_l2i hx hb d_SH_end_59 rfl ?_
          refine hp_callv (go_V S hZ hK hM hS hA hz (c_SH_feed l D ct Z hZ _ _ tk hzk sh su wo T hshX hTl (lby (Y.2.2.2 * 8) (8 * u))) mc_SH_feed mz_SH ml_SH_29 mi_SH_feed mx_SH_feed hd_SH_feed rfl ⟨by decide, by decide⟩ f_sh rfl rfl hl.1 rfl (Nat.le_of_ble_eq_true rfl) d_SH_end_60 ⟨by decide, by decide⟩) hM hS hA (fun M9 H locs h9 hM hS => ?_)
          rw [h9, shM_uu] at hM
          refine lv_iinc (v := nI (8 * u) - nI 8) (lv' := [(3, .int (nI (8 * u) - nI 8)), (0, .ref sh), (1, .long ((Y.2.2.2) * 8))]) hx hb d_SH_end_63 hl (k := 2) rfl (iinc_m8 _) (by decide) rfl (fun ls hl => ?_)
          refine lv_goto (tgt := 47) hx hb d_SH_end_66 (by decide) ?_
          exact ih (T := feedS (lby (Y.2.2.2 * 8) (8 * u)) T) (H := H) (locs := locs) (ls := ls) (hl := lv_sub hl [1, 2, 0] rfl) (hM := hM) (hS := hS) (hTl := feedS_lt) (hT := hT) (hu := by omega)
    · exact absurd hn (by omega)
  | succ fu ih =>
    have hshX := shM_ok hsh (X := X) (Nat.le_of_lt hXl)
    obtain ⟨f_su, f_wo, f_sh, -⟩ := id hshX
    refine lv_iload_n hx hb d_SH_end_18 rfl (lv_at hl 2 rfl) ?_
    refine lv_bipush (v := nI 64) hx hb d_SH_end_19 rfl ?_
    refine nb_ge (tgt := 44) hx hb d_SH_end_21 (by decide) (by omega) (by omega) (fun h4 => ?_) (fun h4 => ?_)
    · exact absurd hn (by omega)
    · refine lv_aload_n hx hb d_SH_end_24 rfl (lv_at hl 0 rfl) ?_
      refine hp_get S hK hM i_SH f_sh rfl 2 (by decide) mf_SH_18 (fun _ h9 => h9) rfl d_SH_end_25 ?_
      refine lv_bipush (v := nI 56) hx hb d_SH_end_28 rfl ?_
      refine nb_eq (tgt := 44) hx hb d_SH_end_30 (by decide) (by omega) (by omega) (fun h56 => ?_) (fun h56 => ?_)
      · have hE : endS Y = len8 (Y.2.2.2 * 8) 8 X := by unfold endS; rw [← hX, show 64 - j = (63 - j) + 1 by omega]; unfold zer; rw [if_pos h56]
        replace hl : lv_has ls 4 [(0, .ref sh), (1, .long ((Y.2.2.2) * 8))] := lv_sub hl [0, 1] rfl
        refine lv_bipush (v := nI 56) hx hb d_SH_end_44 rfl ?_
        refine lv_istore_n (lv' := [(3, .int (nI 56)), (0, .ref sh), (1, .long ((Y.2.2.2) * 8))]) hx hb d_SH_end_46 rfl hl (by decide) rfl (fun ls hl => ?_)
        replace hl : lv_has ls 4 [(0, .ref sh), (1, .long ((Y.2.2.2) * 8)), (3, .int (nI 56))] := lv_sub hl [1, 2, 0] rfl
        clear hX
        obtain ⟨u, e9u⟩ : ∃ z : Nat, z = 8 := ⟨_, rfl⟩
        obtain ⟨T, e9T⟩ : ∃ z : ShT, z = X := ⟨_, rfl⟩
        replace hl : lv_has ls 4 [(0, .ref sh), (1, .long ((Y.2.2.2) * 8)), (3, .int (nI (8 * u) - nI 8))] := by subst e9u; exact hl
        replace hM : hp_H D ccl (hp_A M sz) (shM ct M sh su wo T) H := by rw [e9T]; exact hM
        have hTl : T.2.2.1 < 64 := by rw [e9T]; exact hXl
        have hT : endS Y = len8 (Y.2.2.2 * 8) u T := by rw [e9u, e9T]; exact hE
        have hu : u ≤ 8 := by omega
        clear e9u e9T
        induction u generalizing T H locs ls with
        | zero =>
          have hshX := shM_ok hsh (X := T) (Nat.le_of_lt hTl)
          obtain ⟨f_su, f_wo, f_sh, -⟩ := id hshX
          refine lv_iload_n hx hb d_SH_end_47 rfl (lv_at hl 2 rfl) ?_
          refine lv_if_lt (tgt := 69) hx hb d_SH_end_48 (by decide) (fun h5 => ?_) (fun h5 => ?_)
          · exact hp_vret S hret hlk hM hS (by rw [hT]; rfl) d_SH_end_69
          · exact absurd (by decide) h5
        | succ u ih =>
          have hshX := shM_ok hsh (X := T) (Nat.le_of_lt hTl)
          obtain ⟨f_su, f_wo, f_sh, -⟩ := id hshX
          replace hl : lv_has ls 4 [(0, .ref sh), (1, .long ((Y.2.2.2) * 8)), (3, .int (nI (8 * u)))] := by rw [show nI (8 * u) = nI (8 * (u + 1)) - nI 8 by rw [pk_sub (by omega)]; exact congrArg nI (by omega)]; exact hl
          refine lv_iload_n hx hb d_SH_end_47 rfl (lv_at hl 2 rfl) ?_
          refine nz_lt (tgt := 69) hx hb d_SH_end_48 (by decide) (by omega) (fun h6 => ?_) (fun h6 => ?_)
          · exact absurd h6 (fun q => q)
          · refine lv_aload_n hx hb d_SH_end_51 rfl (lv_at hl 0 rfl) ?_
            refine lv_lload_n hx hb d_SH_end_52 rfl (lv_at hl 1 rfl) ?_
            refine lv_iload_n hx hb d_SH_end_53 rfl (lv_at hl 2 rfl) ?_
            refine lv_lushr hx hb d_SH_end_54 rfl ?_
            refine lv_ldc2 hx hb S.2.2.2.1 (S.2.2.2.2 _ mq_SH_41) d_SH_end_55 ?_
            refine lv_land hx hb d_SH_end_58 ?_
            refine lv_l2i hx hb d_SH_end_59 rfl ?_
            refine hp_callv (go_V S hZ hK hM hS hA hz (c_SH_feed l D ct Z hZ _ _ tk hzk sh su wo T hshX hTl (lby (Y.2.2.2 * 8) (8 * u))) mc_SH_feed mz_SH ml_SH_29 mi_SH_feed mx_SH_feed hd_SH_feed rfl ⟨by decide, by decide⟩ f_sh rfl rfl hl.1 rfl (Nat.le_of_ble_eq_true rfl) d_SH_end_60 ⟨by decide, by decide⟩) hM hS hA (fun M9 H locs h9 hM hS => ?_)
            rw [h9, shM_uu] at hM
            refine lv_iinc (v := nI (8 * u) - nI 8) (lv' := [(3, .int (nI (8 * u) - nI 8)), (0, .ref sh), (1, .long ((Y.2.2.2) * 8))]) hx hb d_SH_end_63 hl (k := 2) rfl (iinc_m8 _) (by decide) rfl (fun ls hl => ?_)
            refine lv_goto (tgt := 47) hx hb d_SH_end_66 (by decide) ?_
            exact ih (T := feedS (lby (Y.2.2.2 * 8) (8 * u)) T) (H := H) (locs := locs) (ls := ls) (hl := lv_sub hl [1, 2, 0] rfl) (hM := hM) (hS := hS) (hTl := feedS_lt) (hT := hT) (hu := by omega)
      · refine lv_aload_n hx hb d_SH_end_33 rfl (lv_at hl 0 rfl) ?_
        refine lv_iconst (v := nI 0) hx hb d_SH_end_34 rfl ?_
        refine hp_callv (go_V S hZ hK hM hS hA hz (c_SH_feed l D ct Z hZ _ _ tk hzk sh su wo X hshX hXl (nI 0)) mc_SH_feed mz_SH ml_SH_29 mi_SH_feed mx_SH_feed hd_SH_feed rfl ⟨by decide, by decide⟩ f_sh rfl rfl hl.1 rfl (Nat.le_of_ble_eq_true rfl) d_SH_end_35 ⟨by decide, by decide⟩) hM hS hA (fun M9 H locs h9 hM hS => ?_)
        rw [h9, shM_uu] at hM
        refine lv_iinc (v := nI (j + 1)) (lv' := [(3, .int (nI (j + 1))), (0, .ref sh), (1, .long ((Y.2.2.2) * 8))]) hx hb d_SH_end_38 hl (k := 2) rfl (nI_add j 1) (by decide) rfl (fun ls hl => ?_)
        refine lv_goto (tgt := 18) hx hb d_SH_end_41 (by decide) ?_
        exact ih (ls := ls) (hl := lv_sub hl [1, 2, 0] rfl) (j := j + 1) (hn := by omega) (X := feedS (nI 0) X) (hX := by rw [← hX, show 64 - j = (64 - (j + 1)) + 1 by omega]; show _ = (if X.2.2.1 = 56 then X else _); rw [if_neg h56]) (hXl := feedS_lt) (H := H) (locs := locs) (hM := hM) (hS := hS)
end
section
/-- digits of sixteen -/
def hexC (d : Nat) : Nat := if d < 10 then 48 + d else 97 + d - 10
def hexF (s : Nat → Int32) (i : Nat) : Nat := hexC (nibN (s (i / 8)) (28 - 4 * (i % 8)))
set_option maxHeartbeats 4000000 in
set_option maxRecDepth 100000 in
/-- the sums as digits -/
theorem c_SH_writeDigits (l : Launch) (D : va_G) (ct : Nat → ClassId) (Z : hp_Z) (hZ : hp_Zok Z) (M : hp_M) (sz : Nat) (sh su wo : Nat) (Y : ShT) (hsh : shOk ct M sh su wo Y) (hg : Nat) (g0 : Nat → Nat) (f_hg : M hg = some (.inl (ct 0, 64, .inl (nf g0)))) : Mv l y_SH_writeDigits b_SH_writeDigits 4 none 0 0 0 0 [.ref sh, .ref hg] D ct Z M sz (fun M1 => M1 = hp_up M hg (.inl (ct 0, 64, .inl (nf (hexF Y.1))))) := by
  refine hp_start (by decide) (Nat.le_of_ble_eq_true rfl) (fun p e s m below meth c ls S hret hlk hnm hsz hK hM hS hA hz hl => ?_)
  have hx := S.1
  have hb := S.2.1
  have hl : lv_has ls 4 [(0, .ref sh), (1, .ref hg)] := hl
  obtain ⟨f_su, f_wo, f_sh, hfl⟩ := id hsh
  have f0_hg := f_hg
  refine lv_iconst (v := nI 0) hx hb d_SH_writeDigits_0 rfl ?_
  refine lv_istore_n (lv' := [(2, .int (nI 0)), (0, .ref sh), (1, .ref hg)]) hx hb d_SH_writeDigits_1 rfl hl (by decide) rfl (fun ls hl => ?_)
  replace hl : lv_has ls 4 [(0, .ref sh), (1, .ref hg), (2, .int (nI 0))] := lv_sub hl [1, 2, 0] rfl
  obtain ⟨j, e9j⟩ : ∃ z : Nat, z = 0 := ⟨_, rfl⟩
  obtain ⟨gq, e9gq⟩ : ∃ z : Nat → Nat, z = g0 := ⟨_, rfl⟩
  replace hl : lv_has ls 4 [(0, .ref sh), (1, .ref hg), (2, .int (nI j))] := by subst e9j e9gq; exact hl
  obtain ⟨H, e9H⟩ : ∃ z : Heap, z = s.heap := ⟨_, rfl⟩
  replace hM : hp_H D ccl (hp_A M sz) M H := by rw [e9H]; exact hM
  replace hS : va_S (hp_A M sz) s.heap H [] := by rw [e9H]; exact hS
  rw [← e9H]
  clear e9H
  obtain ⟨locs, e9L⟩ : ∃ z : List Loc, z = [] := ⟨_, rfl⟩
  replace hS : va_S (hp_A M sz) s.heap H locs := by rw [e9L]; exact hS
  rw [← e9L]
  clear e9L
  obtain ⟨N1, e9N1⟩ : ∃ z : hp_M, z = M := ⟨_, rfl⟩
  replace hM : hp_H D ccl (hp_A M sz) N1 H := by rw [e9N1]; exact hM
  replace f_su : N1 su = some (.inl (ct 1, 8, .inl (Y.1))) := by rw [e9N1]; exact f_su
  replace f_wo : N1 wo = some (.inl (ct 1, 64, .inl (Y.2.1))) := by rw [e9N1]; exact f_wo
  replace f_sh : N1 sh = some (.inr (2, [.ref su, .ref wo, .int (nI Y.2.2.1), .long Y.2.2.2])) := by rw [e9N1]; exact f_sh
  replace f_hg : N1 hg = some (.inl (ct 0, 64, .inl (nf g0))) := by rw [e9N1]; exact f_hg
  replace f_hg : N1 hg = some (.inl (ct 0, 64, .inl (nf gq))) := by subst e9j e9gq; exact f_hg
  have hN : N1 = hp_up M hg (.inl (ct 0, 64, .inl (nf gq))) := by subst e9j e9gq; rw [hp_same f0_hg]; exact e9N1
  have hgq : ∀ i, i < j → gq i = hexF Y.1 i := by subst e9j e9gq; intro i hi; omega
  obtain ⟨fu, hn⟩ : ∃ fu : Nat, j + fu = 64 := ⟨64 - j, by omega⟩
  clear e9j e9gq e9N1
  induction fu generalizing j gq H locs N1 ls with
  | zero =>
    have hn : j = 64 := by omega
    replace hM := hM.cong f_hg (g := nf (hexF Y.1)) (fun i hi => congrArg nI (hgq i (by omega)))
    rw [hN, hp_uu] at hM
    refine lv_iload_n hx hb d_SH_writeDigits_2 rfl (lv_at hl 2 rfl) ?_
    refine lv_bipush (v := nI 64) hx hb d_SH_writeDigits_3 rfl ?_
    refine nb_ge (tgt := 66) hx hb d_SH_writeDigits_5 (by decide) (by omega) (by omega) (fun h2 => ?_) (fun h2 => ?_)
    · exact hp_vret S hret hlk hM hS (rfl) d_SH_writeDigits_66
    · exact absurd hn (by omega)
  | succ fu ih =>
    refine lv_iload_n hx hb d_SH_writeDigits_2 rfl (lv_at hl 2 rfl) ?_
    refine lv_bipush (v := nI 64) hx hb d_SH_writeDigits_3 rfl ?_
    refine nb_ge (tgt := 66) hx hb d_SH_writeDigits_5 (by decide) (by omega) (by omega) (fun h3 => ?_) (fun h3 => ?_)
    · exact absurd hn (by omega)
    · refine lv_iload_n hx hb d_SH_writeDigits_8 rfl (lv_at hl 2 rfl) ?_
      refine lv_aload_n hx hb d_SH_writeDigits_9 rfl (lv_at hl 1 rfl) ?_
      refine hp_alen S hK hM 0 f_hg rfl d_SH_writeDigits_10 ?_
      refine nb_ge (tgt := 66) hx hb d_SH_writeDigits_11 (by decide) (by omega) (by omega) (fun h4 => ?_) (fun h4 => ?_)
      · exact absurd h4 (by omega)
      · refine lv_aload_n hx hb d_SH_writeDigits_14 rfl (lv_at hl 0 rfl) ?_
        refine hp_get S hK hM i_SH f_sh rfl 0 (by decide) mf_SH_9 (fun _ h9 => h9) rfl d_SH_writeDigits_15 ?_
        refine lv_iload_n hx hb d_SH_writeDigits_18 rfl (lv_at hl 2 rfl) ?_
        refine lv_iconst (v := nI 3) hx hb d_SH_writeDigits_19 rfl ?_
        refine lv_ishr hx hb d_SH_writeDigits_20 ?_
        rw [shr3 (by omega)]
        refine hp_iald S hK hM 1 f_su rfl (j / 8) rfl (by omega) (by omega) d_SH_writeDigits_21 ?_
        refine lv_bipush (v := nI 28) hx hb d_SH_writeDigits_22 rfl ?_
        refine lv_iconst (v := nI 4) hx hb d_SH_writeDigits_24 rfl ?_
        refine lv_iload_n hx hb d_SH_writeDigits_25 rfl (lv_at hl 2 rfl) ?_
        refine lv_bipush (v := nI 7) hx hb d_SH_writeDigits_26 rfl ?_
        refine lv_iand hx hb d_SH_writeDigits_28 ?_
        rw [and7 (by omega)]
        refine nb_imul hx hb d_SH_writeDigits_29 ?_
        refine nb_isub hx hb d_SH_writeDigits_30 (by omega) ?_
        refine lv_iushr hx hb d_SH_writeDigits_31 rfl ?_
        refine lv_bipush (v := nI 15) hx hb d_SH_writeDigits_32 rfl ?_
        refine lv_iand hx hb d_SH_writeDigits_34 ?_
        rw [nib_eq _ (by omega)]
        have hnb : nibN (Y.1 (j / 8)) (28 - 4 * (j % 8)) < 16 := Nat.mod_lt _ (by decide)
        obtain ⟨d, ed⟩ : ∃ z : Nat, z = nibN (Y.1 (j / 8)) (28 - 4 * (j % 8)) := ⟨_, rfl⟩
        rw [← ed] at hnb ⊢
        refine lv_istore_n (lv' := [(3, .int (nI d)), (0, .ref sh), (1, .ref hg), (2, .int (nI j))]) hx hb d_SH_writeDigits_35 rfl hl (by decide) rfl (fun ls hl => ?_)
        refine lv_aload_n hx hb d_SH_writeDigits_36 rfl (lv_at hl 2 rfl) ?_
        refine lv_iload_n hx hb d_SH_writeDigits_37 rfl (lv_at hl 3 rfl) ?_
        refine lv_iload_n hx hb d_SH_writeDigits_38 rfl (lv_at hl 0 rfl) ?_
        refine lv_bipush (v := nI 10) hx hb d_SH_writeDigits_39 rfl ?_
        refine nb_ge (tgt := 51) hx hb d_SH_writeDigits_41 (by decide) (by omega) (by omega) (fun h10 => ?_) (fun h10 => ?_)
        · refine lv_bipush (v := nI 97) hx hb d_SH_writeDigits_51 rfl ?_
          refine lv_iload_n hx hb d_SH_writeDigits_53 rfl (lv_at hl 0 rfl) ?_
          refine nb_iadd hx hb d_SH_writeDigits_54 ?_
          refine lv_bipush (v := nI 10) hx hb d_SH_writeDigits_55 rfl ?_
          refine nb_isub hx hb d_SH_writeDigits_57 (by omega) ?_
          refine lv_i2c hx hb d_SH_writeDigits_58 (i2c_nI (by omega)) ?_
          refine hp_cast S hK hM hS 0 f_hg rfl j rfl (by omega) (by omega) (nar_nI (by omega)) d_SH_writeDigits_59 (fun H locs hM hS => ?_)
          rw [nf_up] at hM
          have f_su := hp_k (e := (.inl (ct 0, 64, .inl (nf (va_up gq j ((97 + d) - 10)))))) (hp_ne f_su f_hg (fun q9 => ct_ne hK (i := 1) (j := 0) rfl rfl (by decide) (congrArg Prod.fst (Sum.inl.inj q9)))) f_su
          have f_wo := hp_k (e := (.inl (ct 0, 64, .inl (nf (va_up gq j ((97 + d) - 10)))))) (hp_ne f_wo f_hg (fun q9 => ct_ne hK (i := 1) (j := 0) rfl rfl (by decide) (congrArg Prod.fst (Sum.inl.inj q9)))) f_wo
          have f_sh := hp_k (e := (.inl (ct 0, 64, .inl (nf (va_up gq j ((97 + d) - 10)))))) (hp_ne f_sh f_hg (by simp)) f_sh
          have f_hg : hp_up N1 hg (.inl (ct 0, 64, .inl (nf (va_up gq j ((97 + d) - 10))))) hg = some (.inl (ct 0, 64, .inl (nf (va_up gq j ((97 + d) - 10))))) := hp_us
          obtain ⟨M5, eM5⟩ : ∃ z, z = hp_up N1 hg (.inl (ct 0, 64, .inl (nf (va_up gq j ((97 + d) - 10))))) := ⟨_, rfl⟩
          rw [← eM5] at hM f_su f_wo f_sh f_hg
          refine lv_iinc (v := nI (j + 1)) (lv' := [(2, .int (nI (j + 1))), (3, .int (nI d)), (0, .ref sh), (1, .ref hg)]) hx hb d_SH_writeDigits_60 hl (k := 3) rfl (nI_add j 1) (by decide) rfl (fun ls hl => ?_)
          refine lv_goto (tgt := 2) hx hb d_SH_writeDigits_63 (by decide) ?_
          exact ih (ls := ls) (hl := lv_sub hl [2, 3, 0] rfl) (j := j + 1) (hn := by omega) (gq := va_up gq j ((97 + d) - 10)) (hN := by rw [eM5, hN, hp_uu]) (hgq := lt_s (fun i hi => by rw [up_n (Nat.ne_of_lt hi)]; exact hgq i hi) (by rw [up_s]; unfold hexF hexC; rw [← ed]; first | rw [if_pos h10] | rw [if_neg (by omega)])) (H := H) (locs := locs) (hM := hM) (hS := hS) (N1 := M5) (f_su := f_su) (f_wo := f_wo) (f_sh := f_sh) (f_hg := f_hg)
        · refine lv_bipush (v := nI 48) hx hb d_SH_writeDigits_44 rfl ?_
          refine lv_iload_n hx hb d_SH_writeDigits_46 rfl (lv_at hl 0 rfl) ?_
          refine nb_iadd hx hb d_SH_writeDigits_47 ?_
          refine lv_goto (tgt := 58) hx hb d_SH_writeDigits_48 (by decide) ?_
          refine lv_i2c hx hb d_SH_writeDigits_58 (i2c_nI (by omega)) ?_
          refine hp_cast S hK hM hS 0 f_hg rfl j rfl (by omega) (by omega) (nar_nI (by omega)) d_SH_writeDigits_59 (fun H locs hM hS => ?_)
          rw [nf_up] at hM
          have f_su := hp_k (e := (.inl (ct 0, 64, .inl (nf (va_up gq j (48 + d)))))) (hp_ne f_su f_hg (fun q9 => ct_ne hK (i := 1) (j := 0) rfl rfl (by decide) (congrArg Prod.fst (Sum.inl.inj q9)))) f_su
          have f_wo := hp_k (e := (.inl (ct 0, 64, .inl (nf (va_up gq j (48 + d)))))) (hp_ne f_wo f_hg (fun q9 => ct_ne hK (i := 1) (j := 0) rfl rfl (by decide) (congrArg Prod.fst (Sum.inl.inj q9)))) f_wo
          have f_sh := hp_k (e := (.inl (ct 0, 64, .inl (nf (va_up gq j (48 + d)))))) (hp_ne f_sh f_hg (by simp)) f_sh
          have f_hg : hp_up N1 hg (.inl (ct 0, 64, .inl (nf (va_up gq j (48 + d))))) hg = some (.inl (ct 0, 64, .inl (nf (va_up gq j (48 + d))))) := hp_us
          obtain ⟨M6, eM6⟩ : ∃ z, z = hp_up N1 hg (.inl (ct 0, 64, .inl (nf (va_up gq j (48 + d))))) := ⟨_, rfl⟩
          rw [← eM6] at hM f_su f_wo f_sh f_hg
          refine lv_iinc (v := nI (j + 1)) (lv' := [(2, .int (nI (j + 1))), (3, .int (nI d)), (0, .ref sh), (1, .ref hg)]) hx hb d_SH_writeDigits_60 hl (k := 3) rfl (nI_add j 1) (by decide) rfl (fun ls hl => ?_)
          refine lv_goto (tgt := 2) hx hb d_SH_writeDigits_63 (by decide) ?_
          exact ih (ls := ls) (hl := lv_sub hl [2, 3, 0] rfl) (j := j + 1) (hn := by omega) (gq := va_up gq j (48 + d)) (hN := by rw [eM6, hN, hp_uu]) (hgq := lt_s (fun i hi => by rw [up_n (Nat.ne_of_lt hi)]; exact hgq i hi) (by rw [up_s]; unfold hexF hexC; rw [← ed]; first | rw [if_pos h10] | rw [if_neg (by omega)])) (H := H) (locs := locs) (hM := hM) (hS := hS) (N1 := M6) (f_su := f_su) (f_wo := f_wo) (f_sh := f_sh) (f_hg := f_hg)
end
section
/-! THE CLASS: its parts in a heaplet; questions that change nothing -/
abbrev xO (xt sh ac na al nl sc hg : Nat) : va_E := .inr (0, [.ref xt, .ref sh, .ref ac, .int (nI na), .ref al, .int (nI nl), .ref sc, .ref hg])
/-- the allowed names -/
def alP (ct : Nat → ClassId) (fz : Nat → Prop) (M : hp_M) (x : Nat) (Al : List (List Nat)) : Prop := ∃ (xt sh ac na al sc hg : Nat) (fl : Nat → Option Nat), M x = some (xO xt sh ac na al Al.length sc hg) ∧ M al = some (.inl (ct 3, 8, .inr (.inr (.inr (.inr fl))))) ∧ Al.length ≤ 8 ∧ ∀ i, i < Al.length → ∃ k, fl i = some k ∧ kyOk ct fz M k (Al.getD i [])
/-- an action's rows -/
def acP (ct : Nat → ClassId) (fz : Nat → Prop) (M : hp_M) (a : Nat) (rs : List RowT) : Prop := ∃ (oa : Nat) (f : Nat → Option Nat), M a = some (.inr (3, [.ref oa, .int (nI rs.length)])) ∧ M oa = some (.inl (ct 2, 24, .inr (.inr (.inr (.inr f))))) ∧ rs.length ≤ 24 ∧ rsOk ct fz M f rs
/-- the actions -/
def atP (ct : Nat → ClassId) (fz : Nat → Prop) (M : hp_M) (x : Nat) (As : List (List RowT)) : Prop := ∃ (xt sh ac al nl sc hg : Nat) (fa : Nat → Option Nat), M x = some (xO xt sh ac As.length al nl sc hg) ∧ M ac = some (.inl (ct 4, 12, .inr (.inr (.inr (.inr fa))))) ∧ As.length ≤ 12 ∧ ∀ i, i < As.length → ∃ a, fa i = some a ∧ acP ct fz M a (As.getD i [])
/-- objects of the class, actions and arrays of references stay too -/
def kp (ct : Nat → ClassId) (fz : Nat → Prop) (M M1 : hp_M) : Prop := stab ct fz M M1 ∧ (∀ (q k : Nat) (fs : List Value), k = 0 ∨ k = 3 → M q = some (.inr (k, fs)) → M1 q = some (.inr (k, fs))) ∧ ∀ (q : Nat) (c : ClassId) (n : Nat) (f : Nat → Option Nat), M q = some (.inl (c, n, .inr (.inr (.inr (.inr f))))) → M1 q = some (.inl (c, n, .inr (.inr (.inr (.inr f)))))
theorem alP.kp {ct : Nat → ClassId} {fz : Nat → Prop} {M M1 : hp_M} {x : Nat} {Al : List (List Nat)} (h : alP ct fz M x Al) (k : kp ct fz M M1) : alP ct fz M1 x Al := by
  obtain ⟨xt, sh, ac, na, al, sc, hg, fl, h1, h2, h3, h4⟩ := h
  exact ⟨xt, sh, ac, na, al, sc, hg, fl, k.2.1 _ _ _ (Or.inl rfl) h1, k.2.2 _ _ _ _ h2, h3, fun i hi => by obtain ⟨q, a1, a2⟩ := h4 i hi; exact ⟨q, a1, a2.st k.1⟩⟩
theorem acP.kp {ct : Nat → ClassId} {fz : Nat → Prop} {M M1 : hp_M} {a : Nat} {rs : List RowT} (h : acP ct fz M a rs) (k : kp ct fz M M1) : acP ct fz M1 a rs := by
  obtain ⟨oa, f, h1, h2, h3, h4⟩ := h
  exact ⟨oa, f, k.2.1 _ _ _ (Or.inr rfl) h1, k.2.2 _ _ _ _ h2, h3, h4.st k.1⟩
theorem atP.kp {ct : Nat → ClassId} {fz : Nat → Prop} {M M1 : hp_M} {x : Nat} {As : List (List RowT)} (h : atP ct fz M x As) (k : kp ct fz M M1) : atP ct fz M1 x As := by
  obtain ⟨xt, sh, ac, al, nl, sc, hg, fa, h1, h2, h3, h4⟩ := h
  exact ⟨xt, sh, ac, al, nl, sc, hg, fa, k.2.1 _ _ _ (Or.inl rfl) h1, k.2.2 _ _ _ _ h2, h3, fun i hi => by obtain ⟨q, a1, a2⟩ := h4 i hi; exact ⟨q, a1, a2.kp k⟩⟩
theorem kp_sh {ct : Nat → ClassId} {fz : Nat → Prop} {M : hp_M} {sh su wo : Nat} {Y X : ShT} (hne : ct 0 ≠ ct 1) (h : shOk ct M sh su wo Y) : kp ct fz M (shM ct M sh su wo X) := by
  obtain ⟨f1, f2, f3, -⟩ := h
  refine ⟨⟨fun q k fs hk h1 => ?_, fun q n f _ h1 => ?_⟩, fun q k fs hk h1 => ?_, fun q c n f h1 => ?_⟩
  · exact shM_k h1 (hp_ne h1 f1 (by simp)) (hp_ne h1 f2 (by simp)) (hp_ne h1 f3 (fun e => by have e8 := congrArg Prod.fst (Sum.inr.inj e); simp only at e8; omega))
  · exact shM_k h1 (hp_ne h1 f1 (fun e => hne (congrArg Prod.fst (Sum.inl.inj e)))) (hp_ne h1 f2 (fun e => hne (congrArg Prod.fst (Sum.inl.inj e)))) (hp_ne h1 f3 (by simp))
  · exact shM_k h1 (hp_ne h1 f1 (by simp)) (hp_ne h1 f2 (by simp)) (hp_ne h1 f3 (fun e => by have e8 := congrArg Prod.fst (Sum.inr.inj e); simp only at e8; omega))
  · exact shM_k h1 (hp_ne h1 f1 (by simp)) (hp_ne h1 f2 (by simp)) (hp_ne h1 f3 (by simp))
/-- a row counts -/
def cnts (Al : List (List Nat)) (R : RowT) : Prop := R.1 ≠ 2 ∨ ∃ i, i < Al.length ∧ Al.getD i [] = R.2.1
def cB (Al : List (List Nat)) (R : RowT) : Bool := decide (R.1 ≠ 2) || Al.contains R.2.1
theorem cnts_dec (Al : List (List Nat)) (R : RowT) : cnts Al R ↔ cB Al R = true := by
  unfold cnts cB
  rw [Bool.or_eq_true, decide_eq_true_iff, List.contains_iff_mem]
  constructor
  · intro h
    rcases h with h | ⟨i, h1, h2⟩
    · exact Or.inl h
    · right
      rw [← h2, List.getD_eq_getElem?_getD, List.getElem?_eq_getElem h1]
      exact List.getElem_mem h1
  · intro h
    rcases h with h | h
    · exact Or.inl h
    · right
      obtain ⟨i, h1, h2⟩ := List.mem_iff_getElem.mp h
      exact ⟨i, h1, by rw [List.getD_eq_getElem?_getD, List.getElem?_eq_getElem h1]; exact h2⟩
/-- the rows that count, in order -/
def cR (Al : List (List Nat)) (rs : List RowT) : List RowT := rs.filter (cB Al)
theorem getD_lt {α : Type} {x : List α} {i : Nat} {d : α} (h : i < x.length) : x.getD i d = x[i] := by
  rw [List.getD_eq_getElem?_getD, List.getElem?_eq_getElem h]
  rfl
theorem take_s {α : Type} {x : List α} {i : Nat} (d : α) (h : i < x.length) : x.take (i + 1) = x.take i ++ [x.getD i d] := by
  rw [List.take_succ, List.getElem?_eq_getElem h, getD_lt h]
  rfl
theorem cR_1 {Al : List (List Nat)} {rs : List RowT} {i : Nat} (h : i < rs.length) (hc : cnts Al (rs.getD i rw0)) : cR Al (rs.take (i + 1)) = cR Al (rs.take i) ++ [rs.getD i rw0] := by
  unfold cR
  rw [take_s rw0 h, List.filter_append, List.filter_cons_of_pos (p := cB Al) ((cnts_dec _ _).mp hc)]
  rfl
theorem cR_0 {Al : List (List Nat)} {rs : List RowT} {i : Nat} (h : rs.length ≤ i ∨ ¬ cnts Al (rs.getD i rw0)) : cR Al (rs.take (i + 1)) = cR Al (rs.take i) := by
  rcases Nat.lt_or_ge i rs.length with q | q
  · rcases h with h | h
    · omega
    · unfold cR
      rw [take_s rw0 q, List.filter_append, List.filter_cons_of_neg (p := cB Al) (fun z => h ((cnts_dec _ _).mpr z))]
      simp
  · rw [List.take_of_length_le (by omega), List.take_of_length_le q]
theorem cR_len {Al : List (List Nat)} {rs : List RowT} : (cR Al rs).length ≤ rs.length := List.length_filter_le _ _
/-- the STABLE TEXT of rows -/
def stA (rs : List RowT) : List Nat := (rs.map stT).flatten
theorem stA_1 (rs : List RowT) (R : RowT) : stA (rs ++ [R]) = stA rs ++ stT R := by
  unfold stA
  rw [List.map_append, List.flatten_append]
  simp
theorem d_AD_actionAt_0 : decode b_AD_actionAt 0 = .ok (.iload_n 1, 1) := by decide +kernel
theorem d_AD_actionAt_1 : decode b_AD_actionAt 1 = .ok (.ifCond .lt 11, 3) := by decide +kernel
theorem d_AD_actionAt_4 : decode b_AD_actionAt 4 = .ok (.iload_n 1, 1) := by decide +kernel
theorem d_AD_actionAt_5 : decode b_AD_actionAt 5 = .ok (.aload_n 0, 1) := by decide +kernel
theorem d_AD_actionAt_6 : decode b_AD_actionAt 6 = .ok (.getfield 29, 3) := by decide +kernel
theorem d_AD_actionAt_9 : decode b_AD_actionAt 9 = .ok (.if_icmp .lt 7, 3) := by decide +kernel
theorem d_AD_actionAt_12 : decode b_AD_actionAt 12 = .ok (.aconst_null, 1) := by decide +kernel
theorem d_AD_actionAt_13 : decode b_AD_actionAt 13 = .ok (.goto 9, 3) := by decide +kernel
theorem d_AD_actionAt_16 : decode b_AD_actionAt 16 = .ok (.aload_n 0, 1) := by decide +kernel
theorem d_AD_actionAt_17 : decode b_AD_actionAt 17 = .ok (.getfield 25, 3) := by decide +kernel
theorem d_AD_actionAt_20 : decode b_AD_actionAt 20 = .ok (.iload_n 1, 1) := by decide +kernel
theorem d_AD_actionAt_21 : decode b_AD_actionAt 21 = .ok (.aaload, 1) := by decide +kernel
theorem d_AD_actionAt_22 : decode b_AD_actionAt 22 = .ok (.areturn, 1) := by decide +kernel
theorem d_AD_isAllowed_0 : decode b_AD_isAllowed 0 = .ok (.iconst 0, 1) := by decide +kernel
theorem d_AD_isAllowed_1 : decode b_AD_isAllowed 1 = .ok (.istore_n 2, 1) := by decide +kernel
theorem d_AD_isAllowed_2 : decode b_AD_isAllowed 2 = .ok (.iload_n 2, 1) := by decide +kernel
theorem d_AD_isAllowed_3 : decode b_AD_isAllowed 3 = .ok (.aload_n 0, 1) := by decide +kernel
theorem d_AD_isAllowed_4 : decode b_AD_isAllowed 4 = .ok (.getfield 39, 3) := by decide +kernel
theorem d_AD_isAllowed_7 : decode b_AD_isAllowed 7 = .ok (.if_icmp .ge 24, 3) := by decide +kernel
theorem d_AD_isAllowed_10 : decode b_AD_isAllowed 10 = .ok (.aload_n 0, 1) := by decide +kernel
theorem d_AD_isAllowed_11 : decode b_AD_isAllowed 11 = .ok (.getfield 35, 3) := by decide +kernel
theorem d_AD_isAllowed_14 : decode b_AD_isAllowed 14 = .ok (.iload_n 2, 1) := by decide +kernel
theorem d_AD_isAllowed_15 : decode b_AD_isAllowed 15 = .ok (.aaload, 1) := by decide +kernel
theorem d_AD_isAllowed_16 : decode b_AD_isAllowed 16 = .ok (.aload_n 1, 1) := by decide +kernel
theorem d_AD_isAllowed_17 : decode b_AD_isAllowed 17 = .ok (.invokevirtual 190, 3) := by decide +kernel
theorem d_AD_isAllowed_20 : decode b_AD_isAllowed 20 = .ok (.ifCond .ne 5, 3) := by decide +kernel
theorem d_AD_isAllowed_23 : decode b_AD_isAllowed 23 = .ok (.iconst 1, 1) := by decide +kernel
theorem d_AD_isAllowed_24 : decode b_AD_isAllowed 24 = .ok (.ireturn, 1) := by decide +kernel
theorem d_AD_isAllowed_25 : decode b_AD_isAllowed 25 = .ok (.iinc 2 1, 3) := by decide +kernel
theorem d_AD_isAllowed_28 : decode b_AD_isAllowed 28 = .ok (.goto (-26), 3) := by decide +kernel
theorem d_AD_isAllowed_31 : decode b_AD_isAllowed 31 = .ok (.iconst 0, 1) := by decide +kernel
theorem d_AD_isAllowed_32 : decode b_AD_isAllowed 32 = .ok (.ireturn, 1) := by decide +kernel
theorem d_AD_counts_0 : decode b_AD_counts 0 = .ok (.aload_n 1, 1) := by decide +kernel
theorem d_AD_counts_1 : decode b_AD_counts 1 = .ok (.getfield 151, 3) := by decide +kernel
theorem d_AD_counts_4 : decode b_AD_counts 4 = .ok (.iconst 2, 1) := by decide +kernel
theorem d_AD_counts_5 : decode b_AD_counts 5 = .ok (.if_icmp .ne 14, 3) := by decide +kernel
theorem d_AD_counts_8 : decode b_AD_counts 8 = .ok (.aload_n 0, 1) := by decide +kernel
theorem d_AD_counts_9 : decode b_AD_counts 9 = .ok (.aload_n 1, 1) := by decide +kernel
theorem d_AD_counts_10 : decode b_AD_counts 10 = .ok (.getfield 194, 3) := by decide +kernel
theorem d_AD_counts_13 : decode b_AD_counts 13 = .ok (.invokevirtual 134, 3) := by decide +kernel
theorem d_AD_counts_16 : decode b_AD_counts 16 = .ok (.ifCond .eq 7, 3) := by decide +kernel
theorem d_AD_counts_19 : decode b_AD_counts 19 = .ok (.iconst 1, 1) := by decide +kernel
theorem d_AD_counts_20 : decode b_AD_counts 20 = .ok (.goto 4, 3) := by decide +kernel
theorem d_AD_counts_23 : decode b_AD_counts 23 = .ok (.iconst 0, 1) := by decide +kernel
theorem d_AD_counts_24 : decode b_AD_counts 24 = .ok (.ireturn, 1) := by decide +kernel
theorem d_AD_countingRowAt_0 : decode b_AD_countingRowAt 0 = .ok (.aload_n 1, 1) := by decide +kernel
theorem d_AD_countingRowAt_1 : decode b_AD_countingRowAt 1 = .ok (.iload_n 2, 1) := by decide +kernel
theorem d_AD_countingRowAt_2 : decode b_AD_countingRowAt 2 = .ok (.invokevirtual 198, 3) := by decide +kernel
theorem d_AD_countingRowAt_5 : decode b_AD_countingRowAt 5 = .ok (.astore_n 3, 1) := by decide +kernel
theorem d_AD_countingRowAt_6 : decode b_AD_countingRowAt 6 = .ok (.aload_n 3, 1) := by decide +kernel
theorem d_AD_countingRowAt_7 : decode b_AD_countingRowAt 7 = .ok (.ifnull 15, 3) := by decide +kernel
theorem d_AD_countingRowAt_10 : decode b_AD_countingRowAt 10 = .ok (.aload_n 0, 1) := by decide +kernel
theorem d_AD_countingRowAt_11 : decode b_AD_countingRowAt 11 = .ok (.aload_n 3, 1) := by decide +kernel
theorem d_AD_countingRowAt_12 : decode b_AD_countingRowAt 12 = .ok (.invokevirtual 202, 3) := by decide +kernel
theorem d_AD_countingRowAt_15 : decode b_AD_countingRowAt 15 = .ok (.ifCond .eq 7, 3) := by decide +kernel
theorem d_AD_countingRowAt_18 : decode b_AD_countingRowAt 18 = .ok (.aload_n 3, 1) := by decide +kernel
theorem d_AD_countingRowAt_19 : decode b_AD_countingRowAt 19 = .ok (.goto 4, 3) := by decide +kernel
theorem d_AD_countingRowAt_22 : decode b_AD_countingRowAt 22 = .ok (.aconst_null, 1) := by decide +kernel
theorem d_AD_countingRowAt_23 : decode b_AD_countingRowAt 23 = .ok (.areturn, 1) := by decide +kernel
theorem d_AD_rowInOrder_0 : decode b_AD_rowInOrder 0 = .ok (.iload_n 2, 1) := by decide +kernel
theorem d_AD_rowInOrder_1 : decode b_AD_rowInOrder 1 = .ok (.istore_n 3, 1) := by decide +kernel
theorem d_AD_rowInOrder_2 : decode b_AD_rowInOrder 2 = .ok (.iconst 0, 1) := by decide +kernel
theorem d_AD_rowInOrder_3 : decode b_AD_rowInOrder 3 = .ok (.istore 4, 2) := by decide +kernel
theorem d_AD_rowInOrder_5 : decode b_AD_rowInOrder 5 = .ok (.iload 4, 2) := by decide +kernel
theorem d_AD_rowInOrder_7 : decode b_AD_rowInOrder 7 = .ok (.bipush 24, 2) := by decide +kernel
theorem d_AD_rowInOrder_9 : decode b_AD_rowInOrder 9 = .ok (.if_icmp .ge 33, 3) := by decide +kernel
theorem d_AD_rowInOrder_12 : decode b_AD_rowInOrder 12 = .ok (.aload_n 0, 1) := by decide +kernel
theorem d_AD_rowInOrder_13 : decode b_AD_rowInOrder 13 = .ok (.aload_n 1, 1) := by decide +kernel
theorem d_AD_rowInOrder_14 : decode b_AD_rowInOrder 14 = .ok (.iload 4, 2) := by decide +kernel
theorem d_AD_rowInOrder_16 : decode b_AD_rowInOrder 16 = .ok (.invokevirtual 144, 3) := by decide +kernel
theorem d_AD_rowInOrder_19 : decode b_AD_rowInOrder 19 = .ok (.astore 5, 2) := by decide +kernel
theorem d_AD_rowInOrder_21 : decode b_AD_rowInOrder 21 = .ok (.aload 5, 2) := by decide +kernel
theorem d_AD_rowInOrder_23 : decode b_AD_rowInOrder 23 = .ok (.ifnull 13, 3) := by decide +kernel
theorem d_AD_rowInOrder_26 : decode b_AD_rowInOrder 26 = .ok (.iload_n 3, 1) := by decide +kernel
theorem d_AD_rowInOrder_27 : decode b_AD_rowInOrder 27 = .ok (.ifCond .ne 6, 3) := by decide +kernel
theorem d_AD_rowInOrder_30 : decode b_AD_rowInOrder 30 = .ok (.aload 5, 2) := by decide +kernel
theorem d_AD_rowInOrder_32 : decode b_AD_rowInOrder 32 = .ok (.areturn, 1) := by decide +kernel
theorem d_AD_rowInOrder_33 : decode b_AD_rowInOrder 33 = .ok (.iinc 3 (-1), 3) := by decide +kernel
theorem d_AD_rowInOrder_36 : decode b_AD_rowInOrder 36 = .ok (.iinc 4 1, 3) := by decide +kernel
theorem d_AD_rowInOrder_39 : decode b_AD_rowInOrder 39 = .ok (.goto (-34), 3) := by decide +kernel
theorem d_AD_rowInOrder_42 : decode b_AD_rowInOrder 42 = .ok (.aconst_null, 1) := by decide +kernel
theorem d_AD_rowInOrder_43 : decode b_AD_rowInOrder 43 = .ok (.areturn, 1) := by decide +kernel
theorem d_AD_rows_0 : decode b_AD_rows 0 = .ok (.aload_n 0, 1) := by decide +kernel
theorem d_AD_rows_1 : decode b_AD_rows 1 = .ok (.iload_n 1, 1) := by decide +kernel
theorem d_AD_rows_2 : decode b_AD_rows 2 = .ok (.invokevirtual 69, 3) := by decide +kernel
theorem d_AD_rows_5 : decode b_AD_rows 5 = .ok (.astore_n 2, 1) := by decide +kernel
theorem d_AD_rows_6 : decode b_AD_rows 6 = .ok (.aload_n 2, 1) := by decide +kernel
theorem d_AD_rows_7 : decode b_AD_rows 7 = .ok (.ifnonnull 5, 3) := by decide +kernel
theorem d_AD_rows_10 : decode b_AD_rows 10 = .ok (.iconst (-1), 1) := by decide +kernel
theorem d_AD_rows_11 : decode b_AD_rows 11 = .ok (.ireturn, 1) := by decide +kernel
theorem d_AD_rows_12 : decode b_AD_rows 12 = .ok (.iconst 0, 1) := by decide +kernel
theorem d_AD_rows_13 : decode b_AD_rows 13 = .ok (.istore_n 3, 1) := by decide +kernel
theorem d_AD_rows_14 : decode b_AD_rows 14 = .ok (.iconst 0, 1) := by decide +kernel
theorem d_AD_rows_15 : decode b_AD_rows 15 = .ok (.istore 4, 2) := by decide +kernel
theorem d_AD_rows_17 : decode b_AD_rows 17 = .ok (.iload 4, 2) := by decide +kernel
theorem d_AD_rows_19 : decode b_AD_rows 19 = .ok (.bipush 24, 2) := by decide +kernel
theorem d_AD_rows_21 : decode b_AD_rows 21 = .ok (.if_icmp .ge 22, 3) := by decide +kernel
theorem d_AD_rows_24 : decode b_AD_rows 24 = .ok (.aload_n 0, 1) := by decide +kernel
theorem d_AD_rows_25 : decode b_AD_rows 25 = .ok (.aload_n 2, 1) := by decide +kernel
theorem d_AD_rows_26 : decode b_AD_rows 26 = .ok (.iload 4, 2) := by decide +kernel
theorem d_AD_rows_28 : decode b_AD_rows 28 = .ok (.invokevirtual 144, 3) := by decide +kernel
theorem d_AD_rows_31 : decode b_AD_rows 31 = .ok (.ifnull 6, 3) := by decide +kernel
theorem d_AD_rows_34 : decode b_AD_rows 34 = .ok (.iinc 3 1, 3) := by decide +kernel
theorem d_AD_rows_37 : decode b_AD_rows 37 = .ok (.iinc 4 1, 3) := by decide +kernel
theorem d_AD_rows_40 : decode b_AD_rows 40 = .ok (.goto (-23), 3) := by decide +kernel
theorem d_AD_rows_43 : decode b_AD_rows 43 = .ok (.iload_n 3, 1) := by decide +kernel
theorem d_AD_rows_44 : decode b_AD_rows 44 = .ok (.ireturn, 1) := by decide +kernel
theorem d_AD_kind_0 : decode b_AD_kind 0 = .ok (.aload_n 0, 1) := by decide +kernel
theorem d_AD_kind_1 : decode b_AD_kind 1 = .ok (.iload_n 1, 1) := by decide +kernel
theorem d_AD_kind_2 : decode b_AD_kind 2 = .ok (.invokevirtual 69, 3) := by decide +kernel
theorem d_AD_kind_5 : decode b_AD_kind 5 = .ok (.astore_n 3, 1) := by decide +kernel
theorem d_AD_kind_6 : decode b_AD_kind 6 = .ok (.aload_n 3, 1) := by decide +kernel
theorem d_AD_kind_7 : decode b_AD_kind 7 = .ok (.ifnull 7, 3) := by decide +kernel
theorem d_AD_kind_10 : decode b_AD_kind 10 = .ok (.iload_n 2, 1) := by decide +kernel
theorem d_AD_kind_11 : decode b_AD_kind 11 = .ok (.ifCond .ge 5, 3) := by decide +kernel
theorem d_AD_kind_14 : decode b_AD_kind 14 = .ok (.iconst (-1), 1) := by decide +kernel
theorem d_AD_kind_15 : decode b_AD_kind 15 = .ok (.ireturn, 1) := by decide +kernel
theorem d_AD_kind_16 : decode b_AD_kind 16 = .ok (.aload_n 0, 1) := by decide +kernel
theorem d_AD_kind_17 : decode b_AD_kind 17 = .ok (.aload_n 3, 1) := by decide +kernel
theorem d_AD_kind_18 : decode b_AD_kind 18 = .ok (.iload_n 2, 1) := by decide +kernel
theorem d_AD_kind_19 : decode b_AD_kind 19 = .ok (.invokevirtual 148, 3) := by decide +kernel
theorem d_AD_kind_22 : decode b_AD_kind 22 = .ok (.astore 4, 2) := by decide +kernel
theorem d_AD_kind_24 : decode b_AD_kind 24 = .ok (.aload 4, 2) := by decide +kernel
theorem d_AD_kind_26 : decode b_AD_kind 26 = .ok (.ifnonnull 7, 3) := by decide +kernel
theorem d_AD_kind_29 : decode b_AD_kind 29 = .ok (.iconst (-1), 1) := by decide +kernel
theorem d_AD_kind_30 : decode b_AD_kind 30 = .ok (.goto 8, 3) := by decide +kernel
theorem d_AD_kind_33 : decode b_AD_kind 33 = .ok (.aload 4, 2) := by decide +kernel
theorem d_AD_kind_35 : decode b_AD_kind 35 = .ok (.getfield 151, 3) := by decide +kernel
theorem d_AD_kind_38 : decode b_AD_kind 38 = .ok (.ireturn, 1) := by decide +kernel
theorem d_AD_size_0 : decode b_AD_size 0 = .ok (.aload_n 0, 1) := by decide +kernel
theorem d_AD_size_1 : decode b_AD_size 1 = .ok (.iload_n 1, 1) := by decide +kernel
theorem d_AD_size_2 : decode b_AD_size 2 = .ok (.invokevirtual 69, 3) := by decide +kernel
theorem d_AD_size_5 : decode b_AD_size 5 = .ok (.astore_n 2, 1) := by decide +kernel
theorem d_AD_size_6 : decode b_AD_size 6 = .ok (.aload_n 2, 1) := by decide +kernel
theorem d_AD_size_7 : decode b_AD_size 7 = .ok (.ifnonnull 5, 3) := by decide +kernel
theorem d_AD_size_10 : decode b_AD_size 10 = .ok (.iconst (-1), 1) := by decide +kernel
theorem d_AD_size_11 : decode b_AD_size 11 = .ok (.ireturn, 1) := by decide +kernel
theorem d_AD_size_12 : decode b_AD_size 12 = .ok (.iconst 0, 1) := by decide +kernel
theorem d_AD_size_13 : decode b_AD_size 13 = .ok (.istore_n 3, 1) := by decide +kernel
theorem d_AD_size_14 : decode b_AD_size 14 = .ok (.iconst 0, 1) := by decide +kernel
theorem d_AD_size_15 : decode b_AD_size 15 = .ok (.istore 4, 2) := by decide +kernel
theorem d_AD_size_17 : decode b_AD_size 17 = .ok (.iload 4, 2) := by decide +kernel
theorem d_AD_size_19 : decode b_AD_size 19 = .ok (.bipush 24, 2) := by decide +kernel
theorem d_AD_size_21 : decode b_AD_size 21 = .ok (.if_icmp .ge 31, 3) := by decide +kernel
theorem d_AD_size_24 : decode b_AD_size 24 = .ok (.aload_n 0, 1) := by decide +kernel
theorem d_AD_size_25 : decode b_AD_size 25 = .ok (.aload_n 2, 1) := by decide +kernel
theorem d_AD_size_26 : decode b_AD_size 26 = .ok (.iload 4, 2) := by decide +kernel
theorem d_AD_size_28 : decode b_AD_size 28 = .ok (.invokevirtual 144, 3) := by decide +kernel
theorem d_AD_size_31 : decode b_AD_size 31 = .ok (.astore 5, 2) := by decide +kernel
theorem d_AD_size_33 : decode b_AD_size 33 = .ok (.aload 5, 2) := by decide +kernel
theorem d_AD_size_35 : decode b_AD_size 35 = .ok (.ifnull 11, 3) := by decide +kernel
theorem d_AD_size_38 : decode b_AD_size 38 = .ok (.iload_n 3, 1) := by decide +kernel
theorem d_AD_size_39 : decode b_AD_size 39 = .ok (.aload 5, 2) := by decide +kernel
theorem d_AD_size_41 : decode b_AD_size 41 = .ok (.invokevirtual 154, 3) := by decide +kernel
theorem d_AD_size_44 : decode b_AD_size 44 = .ok (.iadd, 1) := by decide +kernel
theorem d_AD_size_45 : decode b_AD_size 45 = .ok (.istore_n 3, 1) := by decide +kernel
theorem d_AD_size_46 : decode b_AD_size 46 = .ok (.iinc 4 1, 3) := by decide +kernel
theorem d_AD_size_49 : decode b_AD_size 49 = .ok (.goto (-32), 3) := by decide +kernel
theorem d_AD_size_52 : decode b_AD_size 52 = .ok (.iload_n 3, 1) := by decide +kernel
theorem d_AD_size_53 : decode b_AD_size 53 = .ok (.ireturn, 1) := by decide +kernel
theorem d_AD_character_0 : decode b_AD_character 0 = .ok (.aload_n 0, 1) := by decide +kernel
theorem d_AD_character_1 : decode b_AD_character 1 = .ok (.iload_n 1, 1) := by decide +kernel
theorem d_AD_character_2 : decode b_AD_character 2 = .ok (.invokevirtual 69, 3) := by decide +kernel
theorem d_AD_character_5 : decode b_AD_character 5 = .ok (.astore_n 3, 1) := by decide +kernel
theorem d_AD_character_6 : decode b_AD_character 6 = .ok (.aload_n 3, 1) := by decide +kernel
theorem d_AD_character_7 : decode b_AD_character 7 = .ok (.ifnull 7, 3) := by decide +kernel
theorem d_AD_character_10 : decode b_AD_character 10 = .ok (.iload_n 2, 1) := by decide +kernel
theorem d_AD_character_11 : decode b_AD_character 11 = .ok (.ifCond .ge 5, 3) := by decide +kernel
theorem d_AD_character_14 : decode b_AD_character 14 = .ok (.iconst (-1), 1) := by decide +kernel
theorem d_AD_character_15 : decode b_AD_character 15 = .ok (.ireturn, 1) := by decide +kernel
theorem d_AD_character_16 : decode b_AD_character 16 = .ok (.iload_n 2, 1) := by decide +kernel
theorem d_AD_character_17 : decode b_AD_character 17 = .ok (.istore 4, 2) := by decide +kernel
theorem d_AD_character_19 : decode b_AD_character 19 = .ok (.iconst 0, 1) := by decide +kernel
theorem d_AD_character_20 : decode b_AD_character 20 = .ok (.istore 5, 2) := by decide +kernel
theorem d_AD_character_22 : decode b_AD_character 22 = .ok (.iload 5, 2) := by decide +kernel
theorem d_AD_character_24 : decode b_AD_character 24 = .ok (.bipush 24, 2) := by decide +kernel
theorem d_AD_character_26 : decode b_AD_character 26 = .ok (.if_icmp .ge 51, 3) := by decide +kernel
theorem d_AD_character_29 : decode b_AD_character 29 = .ok (.aload_n 0, 1) := by decide +kernel
theorem d_AD_character_30 : decode b_AD_character 30 = .ok (.aload_n 3, 1) := by decide +kernel
theorem d_AD_character_31 : decode b_AD_character 31 = .ok (.iload 5, 2) := by decide +kernel
theorem d_AD_character_33 : decode b_AD_character 33 = .ok (.invokevirtual 144, 3) := by decide +kernel
theorem d_AD_character_36 : decode b_AD_character 36 = .ok (.astore 6, 2) := by decide +kernel
theorem d_AD_character_38 : decode b_AD_character 38 = .ok (.aload 6, 2) := by decide +kernel
theorem d_AD_character_40 : decode b_AD_character 40 = .ok (.ifnull 31, 3) := by decide +kernel
theorem d_AD_character_43 : decode b_AD_character 43 = .ok (.iload 4, 2) := by decide +kernel
theorem d_AD_character_45 : decode b_AD_character 45 = .ok (.aload 6, 2) := by decide +kernel
theorem d_AD_character_47 : decode b_AD_character 47 = .ok (.invokevirtual 154, 3) := by decide +kernel
theorem d_AD_character_50 : decode b_AD_character 50 = .ok (.if_icmp .ge 11, 3) := by decide +kernel
theorem d_AD_character_53 : decode b_AD_character 53 = .ok (.aload 6, 2) := by decide +kernel
theorem d_AD_character_55 : decode b_AD_character 55 = .ok (.iload 4, 2) := by decide +kernel
theorem d_AD_character_57 : decode b_AD_character 57 = .ok (.invokevirtual 158, 3) := by decide +kernel
theorem d_AD_character_60 : decode b_AD_character 60 = .ok (.ireturn, 1) := by decide +kernel
theorem d_AD_character_61 : decode b_AD_character 61 = .ok (.iload 4, 2) := by decide +kernel
theorem d_AD_character_63 : decode b_AD_character 63 = .ok (.aload 6, 2) := by decide +kernel
theorem d_AD_character_65 : decode b_AD_character 65 = .ok (.invokevirtual 154, 3) := by decide +kernel
theorem d_AD_character_68 : decode b_AD_character 68 = .ok (.isub, 1) := by decide +kernel
theorem d_AD_character_69 : decode b_AD_character 69 = .ok (.istore 4, 2) := by decide +kernel
theorem d_AD_character_71 : decode b_AD_character 71 = .ok (.iinc 5 1, 3) := by decide +kernel
theorem d_AD_character_74 : decode b_AD_character 74 = .ok (.goto (-52), 3) := by decide +kernel
theorem d_AD_character_77 : decode b_AD_character 77 = .ok (.iconst (-1), 1) := by decide +kernel
theorem d_AD_character_78 : decode b_AD_character 78 = .ok (.ireturn, 1) := by decide +kernel
theorem d_AD_differ_0 : decode b_AD_differ 0 = .ok (.aload_n 0, 1) := by decide +kernel
theorem d_AD_differ_1 : decode b_AD_differ 1 = .ok (.iload_n 1, 1) := by decide +kernel
theorem d_AD_differ_2 : decode b_AD_differ 2 = .ok (.invokevirtual 69, 3) := by decide +kernel
theorem d_AD_differ_5 : decode b_AD_differ 5 = .ok (.astore_n 3, 1) := by decide +kernel
theorem d_AD_differ_6 : decode b_AD_differ 6 = .ok (.aload_n 0, 1) := by decide +kernel
theorem d_AD_differ_7 : decode b_AD_differ 7 = .ok (.iload_n 2, 1) := by decide +kernel
theorem d_AD_differ_8 : decode b_AD_differ 8 = .ok (.invokevirtual 69, 3) := by decide +kernel
theorem d_AD_differ_11 : decode b_AD_differ 11 = .ok (.astore 4, 2) := by decide +kernel
theorem d_AD_differ_13 : decode b_AD_differ 13 = .ok (.aload_n 3, 1) := by decide +kernel
theorem d_AD_differ_14 : decode b_AD_differ 14 = .ok (.ifnull 8, 3) := by decide +kernel
theorem d_AD_differ_17 : decode b_AD_differ 17 = .ok (.aload 4, 2) := by decide +kernel
theorem d_AD_differ_19 : decode b_AD_differ 19 = .ok (.ifnonnull 5, 3) := by decide +kernel
theorem d_AD_differ_22 : decode b_AD_differ 22 = .ok (.iconst (-1), 1) := by decide +kernel
theorem d_AD_differ_23 : decode b_AD_differ 23 = .ok (.ireturn, 1) := by decide +kernel
theorem d_AD_differ_24 : decode b_AD_differ 24 = .ok (.iconst 0, 1) := by decide +kernel
theorem d_AD_differ_25 : decode b_AD_differ 25 = .ok (.istore 5, 2) := by decide +kernel
theorem d_AD_differ_27 : decode b_AD_differ 27 = .ok (.iload 5, 2) := by decide +kernel
theorem d_AD_differ_29 : decode b_AD_differ 29 = .ok (.bipush 24, 2) := by decide +kernel
theorem d_AD_differ_31 : decode b_AD_differ 31 = .ok (.if_icmp .ge 63, 3) := by decide +kernel
theorem d_AD_differ_34 : decode b_AD_differ 34 = .ok (.aload_n 0, 1) := by decide +kernel
theorem d_AD_differ_35 : decode b_AD_differ 35 = .ok (.aload_n 3, 1) := by decide +kernel
theorem d_AD_differ_36 : decode b_AD_differ 36 = .ok (.iload 5, 2) := by decide +kernel
theorem d_AD_differ_38 : decode b_AD_differ 38 = .ok (.invokevirtual 148, 3) := by decide +kernel
theorem d_AD_differ_41 : decode b_AD_differ 41 = .ok (.astore 6, 2) := by decide +kernel
theorem d_AD_differ_43 : decode b_AD_differ 43 = .ok (.aload_n 0, 1) := by decide +kernel
theorem d_AD_differ_44 : decode b_AD_differ 44 = .ok (.aload 4, 2) := by decide +kernel
theorem d_AD_differ_46 : decode b_AD_differ 46 = .ok (.iload 5, 2) := by decide +kernel
theorem d_AD_differ_48 : decode b_AD_differ 48 = .ok (.invokevirtual 148, 3) := by decide +kernel
theorem d_AD_differ_51 : decode b_AD_differ 51 = .ok (.astore 7, 2) := by decide +kernel
theorem d_AD_differ_53 : decode b_AD_differ 53 = .ok (.aload 6, 2) := by decide +kernel
theorem d_AD_differ_55 : decode b_AD_differ 55 = .ok (.ifnonnull 10, 3) := by decide +kernel
theorem d_AD_differ_58 : decode b_AD_differ 58 = .ok (.aload 7, 2) := by decide +kernel
theorem d_AD_differ_60 : decode b_AD_differ 60 = .ok (.ifnonnull 5, 3) := by decide +kernel
theorem d_AD_differ_63 : decode b_AD_differ 63 = .ok (.iconst (-1), 1) := by decide +kernel
theorem d_AD_differ_64 : decode b_AD_differ 64 = .ok (.ireturn, 1) := by decide +kernel
theorem d_AD_differ_65 : decode b_AD_differ 65 = .ok (.aload 6, 2) := by decide +kernel
theorem d_AD_differ_67 : decode b_AD_differ 67 = .ok (.ifnull 18, 3) := by decide +kernel
theorem d_AD_differ_70 : decode b_AD_differ 70 = .ok (.aload 7, 2) := by decide +kernel
theorem d_AD_differ_72 : decode b_AD_differ 72 = .ok (.ifnull 13, 3) := by decide +kernel
theorem d_AD_differ_75 : decode b_AD_differ 75 = .ok (.aload 6, 2) := by decide +kernel
theorem d_AD_differ_77 : decode b_AD_differ 77 = .ok (.aload 7, 2) := by decide +kernel
theorem d_AD_differ_79 : decode b_AD_differ 79 = .ok (.invokevirtual 178, 3) := by decide +kernel
theorem d_AD_differ_82 : decode b_AD_differ 82 = .ok (.ifCond .ne 6, 3) := by decide +kernel
theorem d_AD_differ_85 : decode b_AD_differ 85 = .ok (.iload 5, 2) := by decide +kernel
theorem d_AD_differ_87 : decode b_AD_differ 87 = .ok (.ireturn, 1) := by decide +kernel
theorem d_AD_differ_88 : decode b_AD_differ 88 = .ok (.iinc 5 1, 3) := by decide +kernel
theorem d_AD_differ_91 : decode b_AD_differ 91 = .ok (.goto (-64), 3) := by decide +kernel
theorem d_AD_differ_94 : decode b_AD_differ 94 = .ok (.iconst (-1), 1) := by decide +kernel
theorem d_AD_differ_95 : decode b_AD_differ 95 = .ok (.ireturn, 1) := by decide +kernel
theorem d_AD_constant_0 : decode b_AD_constant 0 = .ok (.iload_n 1, 1) := by decide +kernel
theorem d_AD_constant_1 : decode b_AD_constant 1 = .ok (.ifCond .lt 15, 3) := by decide +kernel
theorem d_AD_constant_4 : decode b_AD_constant 4 = .ok (.iload_n 1, 1) := by decide +kernel
theorem d_AD_constant_5 : decode b_AD_constant 5 = .ok (.bipush 64, 2) := by decide +kernel
theorem d_AD_constant_7 : decode b_AD_constant 7 = .ok (.if_icmp .ge 9, 3) := by decide +kernel
theorem d_AD_constant_10 : decode b_AD_constant 10 = .ok (.getstatic 181, 3) := by decide +kernel
theorem d_AD_constant_13 : decode b_AD_constant 13 = .ok (.iload_n 1, 1) := by decide +kernel
theorem d_AD_constant_14 : decode b_AD_constant 14 = .ok (.iaload, 1) := by decide +kernel
theorem d_AD_constant_15 : decode b_AD_constant 15 = .ok (.ireturn, 1) := by decide +kernel
theorem d_AD_constant_16 : decode b_AD_constant 16 = .ok (.iload_n 1, 1) := by decide +kernel
theorem d_AD_constant_17 : decode b_AD_constant 17 = .ok (.bipush 64, 2) := by decide +kernel
theorem d_AD_constant_19 : decode b_AD_constant 19 = .ok (.if_icmp .lt 18, 3) := by decide +kernel
theorem d_AD_constant_22 : decode b_AD_constant 22 = .ok (.iload_n 1, 1) := by decide +kernel
theorem d_AD_constant_23 : decode b_AD_constant 23 = .ok (.bipush 72, 2) := by decide +kernel
theorem d_AD_constant_25 : decode b_AD_constant 25 = .ok (.if_icmp .ge 12, 3) := by decide +kernel
theorem d_AD_constant_28 : decode b_AD_constant 28 = .ok (.getstatic 184, 3) := by decide +kernel
theorem d_AD_constant_31 : decode b_AD_constant 31 = .ok (.iload_n 1, 1) := by decide +kernel
theorem d_AD_constant_32 : decode b_AD_constant 32 = .ok (.bipush 64, 2) := by decide +kernel
theorem d_AD_constant_34 : decode b_AD_constant 34 = .ok (.isub, 1) := by decide +kernel
theorem d_AD_constant_35 : decode b_AD_constant 35 = .ok (.iaload, 1) := by decide +kernel
theorem d_AD_constant_36 : decode b_AD_constant 36 = .ok (.ireturn, 1) := by decide +kernel
theorem d_AD_constant_37 : decode b_AD_constant 37 = .ok (.iconst 0, 1) := by decide +kernel
theorem d_AD_constant_38 : decode b_AD_constant 38 = .ok (.ireturn, 1) := by decide +kernel
set_option maxHeartbeats 4000000 in
set_option maxRecDepth 100000 in
/-- an action by its number -/
theorem c_AD_actionAt (l : Launch) (D : va_G) (ct : Nat → ClassId) (Z : hp_Z) (hZ : hp_Zok Z) (M : hp_M) (sz : Nat) (fz : Nat → Prop) (x : Nat) (As : List (List RowT)) (hat : atP ct fz M x As) (k : Int32) : Mq l y_AD_actionAt b_AD_actionAt 2 (some (.object "ActionDigests$Action")) 0 0 0 0 [.ref x, .int k] D ct Z M sz (fun r M1 => M1 = M ∧ ((∃ j a, j < As.length ∧ k = nI j ∧ r = some a ∧ acP ct fz M a (As.getD j [])) ∨ ((∀ j, j < As.length → k ≠ nI j) ∧ r = none))) := by
  refine hp_start (by decide) (Nat.le_of_ble_eq_true rfl) (fun p e s m below meth c ls S hret hlk hnm hsz hK hM hS hA hz hl => ?_)
  have hx := S.1
  have hb := S.2.1
  have hl : lv_has ls 2 [(0, .ref x), (1, .int k)] := hl
  obtain ⟨xt, sh, ac, al, nl, sc, hg, fa, f_x, f_ac, hAs, hAc⟩ := id hat
  refine lv_iload_n hx hb d_AD_actionAt_0 rfl (lv_at hl 1 rfl) ?_
  refine lv_if_lt (tgt := 12) hx hb d_AD_actionAt_1 (by decide) (fun h0 => ?_) (fun h0 => ?_)
  · refine lv_null hx hb d_AD_actionAt_12 ?_
    refine lv_goto (tgt := 22) hx hb d_AD_actionAt_13 (by decide) ?_
    exact hp_aret (none) rfl S hret (Or.inl ⟨_, rfl⟩) hlk hM hS (⟨rfl, Or.inr ⟨fun j hj e => by subst e; first | exact nI_pos (by omega) h0 | exact h1 ((nI_ltI (by omega) (by omega)).mpr hj), rfl⟩⟩) d_AD_actionAt_22
  · refine lv_iload_n hx hb d_AD_actionAt_4 rfl (lv_at hl 1 rfl) ?_
    refine lv_aload_n hx hb d_AD_actionAt_5 rfl (lv_at hl 0 rfl) ?_
    refine hp_get S hK hM i_AD f_x rfl 3 (by decide) mf_AD_29 (fun _ h9 => h9) rfl d_AD_actionAt_6 ?_
    refine lv_icmp_lt (tgt := 16) hx hb d_AD_actionAt_9 (by decide) (fun h1 => ?_) (fun h1 => ?_)
    · refine lv_aload_n hx hb d_AD_actionAt_16 rfl (lv_at hl 0 rfl) ?_
      refine hp_get S hK hM i_AD f_x rfl 2 (by decide) mf_AD_25 (fun _ h9 => h9) rfl d_AD_actionAt_17 ?_
      refine lv_iload_n hx hb d_AD_actionAt_20 rfl (lv_at hl 1 rfl) ?_
      obtain ⟨j, hj, ej⟩ : ∃ j, j < As.length ∧ k = nI j := by
        obtain ⟨j, hj, ej⟩ := nI_of h0
        rw [ej] at h1
        exact ⟨j, (nI_ltI hj (by omega)).mp h1, ej⟩
      obtain ⟨a, hfa, ha⟩ := hAc j hj
      subst ej
      refine hp_aald S hK hM 4 f_ac rfl j rfl (by omega) (by decide) (congrArg va_rf hfa) d_AD_actionAt_21 ?_
      exact hp_aret (some a) rfl S hret (Or.inl ⟨_, rfl⟩) hlk hM hS (⟨rfl, Or.inl ⟨j, a, hj, rfl, rfl, ha⟩⟩) d_AD_actionAt_22
    · refine lv_null hx hb d_AD_actionAt_12 ?_
      refine lv_goto (tgt := 22) hx hb d_AD_actionAt_13 (by decide) ?_
      exact hp_aret (none) rfl S hret (Or.inl ⟨_, rfl⟩) hlk hM hS (⟨rfl, Or.inr ⟨fun j hj e => by subst e; first | exact nI_pos (by omega) h0 | exact h1 ((nI_ltI (by omega) (by omega)).mpr hj), rfl⟩⟩) d_AD_actionAt_22
set_option maxHeartbeats 4000000 in
set_option maxRecDepth 100000 in
/-- a name is allowed -/
theorem c_AD_isAllowed (l : Launch) (D : va_G) (ct : Nat → ClassId) (Z : hp_Z) (hZ : hp_Zok Z) (M : hp_M) (sz : Nat) (fz : Nat → Prop) (x : Nat) (Al : List (List Nat)) (hal : alP ct fz M x Al) (ky : Nat) (K : List Nat) (hky : kyOk ct fz M ky K) : Mi l y_AD_isAllowed b_AD_isAllowed 3 (some .boolean) 2 36 0 0 [.ref x, .ref ky] D ct Z M sz (fun r M1 => M1 = M ∧ bo r (∃ i, i < Al.length ∧ Al.getD i [] = K)) := by
  refine hp_start (by decide) (Nat.le_of_ble_eq_true rfl) (fun p e s m below meth c ls S hret hlk hnm hsz hK hM hS hA hz hl => ?_)
  have hx := S.1
  have hb := S.2.1
  have hl : lv_has ls 3 [(0, .ref x), (1, .ref ky)] := hl
  obtain ⟨xt, sh, ac, na, al, sc, hg, fl, f_x, f_al, hAl8, hAl⟩ := id hal
  refine lv_iconst (v := nI 0) hx hb d_AD_isAllowed_0 rfl ?_
  refine lv_istore_n (lv' := [(2, .int (nI 0)), (0, .ref x), (1, .ref ky)]) hx hb d_AD_isAllowed_1 rfl hl (by decide) rfl (fun ls hl => ?_)
  replace hl : lv_has ls 3 [(0, .ref x), (1, .ref ky), (2, .int (nI 0))] := lv_sub hl [1, 2, 0] rfl
  obtain ⟨j, e9j⟩ : ∃ z : Nat, z = 0 := ⟨_, rfl⟩
  replace hl : lv_has ls 3 [(0, .ref x), (1, .ref ky), (2, .int (nI j))] := by subst e9j; exact hl
  obtain ⟨H, e9H⟩ : ∃ z : Heap, z = s.heap := ⟨_, rfl⟩
  replace hM : hp_H D ccl (hp_A M sz) M H := by rw [e9H]; exact hM
  replace hS : va_S (hp_A M sz) s.heap H [] := by rw [e9H]; exact hS
  rw [← e9H]
  clear e9H
  obtain ⟨locs, e9L⟩ : ∃ z : List Loc, z = [] := ⟨_, rfl⟩
  replace hS : va_S (hp_A M sz) s.heap H locs := by rw [e9L]; exact hS
  rw [← e9L]
  clear e9L
  have hinv : ∀ i, i < j → Al.getD i [] ≠ K := by subst e9j; intro i hi; omega
  obtain ⟨fu, hn⟩ : ∃ fu : Nat, j + fu = Al.length := ⟨Al.length - j, by omega⟩
  clear e9j
  induction fu generalizing j H locs ls with
  | zero =>
    have hn : j = Al.length := by omega
    refine lv_iload_n hx hb d_AD_isAllowed_2 rfl (lv_at hl 2 rfl) ?_
    refine lv_aload_n hx hb d_AD_isAllowed_3 rfl (lv_at hl 0 rfl) ?_
    refine hp_get S hK hM i_AD f_x rfl 5 (by decide) mf_AD_39 (fun _ h9 => h9) rfl d_AD_isAllowed_4 ?_
    refine nb_ge (tgt := 31) hx hb d_AD_isAllowed_7 (by decide) (by omega) (by omega) (fun h1 => ?_) (fun h1 => ?_)
    · refine lv_iconst (v := nI 0) hx hb d_AD_isAllowed_31 rfl ?_
      exact hp_iret S hret hlk (rfl) hM hS (⟨rfl, bo_f (fun q => by obtain ⟨i, q1, q2⟩ := q; exact hinv i (by omega) q2)⟩) d_AD_isAllowed_32
    · exact absurd hn (by omega)
  | succ fu ih =>
    obtain ⟨q, hfq, hq⟩ := hAl j (by omega)
    obtain ⟨ca2, xa2, f_q, -⟩ := id hq
    refine lv_iload_n hx hb d_AD_isAllowed_2 rfl (lv_at hl 2 rfl) ?_
    refine lv_aload_n hx hb d_AD_isAllowed_3 rfl (lv_at hl 0 rfl) ?_
    refine hp_get S hK hM i_AD f_x rfl 5 (by decide) mf_AD_39 (fun _ h9 => h9) rfl d_AD_isAllowed_4 ?_
    refine nb_ge (tgt := 31) hx hb d_AD_isAllowed_7 (by decide) (by omega) (by omega) (fun h2 => ?_) (fun h2 => ?_)
    · exact absurd hn (by omega)
    · refine lv_aload_n hx hb d_AD_isAllowed_10 rfl (lv_at hl 0 rfl) ?_
      refine hp_get S hK hM i_AD f_x rfl 4 (by decide) mf_AD_35 (fun _ h9 => h9) rfl d_AD_isAllowed_11 ?_
      refine lv_iload_n hx hb d_AD_isAllowed_14 rfl (lv_at hl 2 rfl) ?_
      refine hp_aald S hK hM 3 f_al rfl j rfl (by omega) (by decide) (congrArg va_rf hfq) d_AD_isAllowed_15 ?_
      refine lv_aload_n hx hb d_AD_isAllowed_16 rfl (lv_at hl 1 rfl) ?_
      refine hp_calli (go_V S hZ hK hM hS hA hz (c_KY_compareWith l D ct Z hZ _ _ fz q ky (Al.getD j []) K hq hky) mc_KY_compareWith mz_KY ml_AD_190 mi_KY_compareWith mx_KY_compareWith hd_KY_compareWith rfl ⟨by decide, by decide⟩ f_q rfl rfl hl.1 rfl (Nat.le_of_ble_eq_true rfl) d_AD_isAllowed_17 ⟨by decide, by decide⟩) hM hS hA (fun r3 N4 H locs hr3 hM hS => ?_)
      rw [hr3.1] at hM
      replace hr3 := hr3.2
      refine lv_if_ne (tgt := 25) hx hb d_AD_isAllowed_20 (by decide) (fun hk2 => ?_) (fun hk2 => ?_)
      · refine lv_iinc (v := nI (j + 1)) (lv' := [(2, .int (nI (j + 1))), (0, .ref x), (1, .ref ky)]) hx hb d_AD_isAllowed_25 hl (k := 2) rfl (nI_add j 1) (by decide) rfl (fun ls hl => ?_)
        refine lv_goto (tgt := 2) hx hb d_AD_isAllowed_28 (by decide) ?_
        exact ih (ls := ls) (hl := lv_sub hl [1, 2, 0] rfl) (j := j + 1) (hn := by omega) (hinv := lt_s hinv (fun z => hk2 (hr3.1.mpr ((cmpK_0 _ _).mpr z)))) (H := H) (locs := locs) (hM := hM) (hS := hS)
      · refine lv_iconst (v := nI 1) hx hb d_AD_isAllowed_23 rfl ?_
        exact hp_iret S hret hlk (rfl) hM hS (⟨rfl, bo_t ⟨j, by omega, (cmpK_0 _ _).mp (hr3.1.mp hk2)⟩⟩) d_AD_isAllowed_24
set_option maxHeartbeats 4000000 in
set_option maxRecDepth 100000 in
/-- a row counts -/
theorem c_AD_counts (l : Launch) (D : va_G) (ct : Nat → ClassId) (Z : hp_Z) (hZ : hp_Zok Z) (M : hp_M) (sz : Nat) (fz : Nat → Prop) (x : Nat) (Al : List (List Nat)) (hal : alP ct fz M x Al) (a : Nat) (R : RowT) (hra : rwOk ct fz M a R) : Mi l y_AD_counts b_AD_counts 2 (some .boolean) 3 58 0 0 [.ref x, .ref a] D ct Z M sz (fun r M1 => M1 = M ∧ bo r (cnts Al R)) := by
  refine hp_start (by decide) (Nat.le_of_ble_eq_true rfl) (fun p e s m below meth c ls S hret hlk hnm hsz hK hM hS hA hz hl => ?_)
  have hx := S.1
  have hb := S.2.1
  have hl : lv_has ls 2 [(0, .ref x), (1, .ref a)] := hl
  obtain ⟨xt, sh, ac, na, al, sc, hg, fl, f_x, f_al, hAl8, hAl⟩ := id hal
  obtain ⟨ky, ba, f_a, hky, f_ba, hbl, hc_bd, hfb, hk7⟩ := hra
  refine lv_aload_n hx hb d_AD_counts_0 rfl (lv_at hl 1 rfl) ?_
  refine hp_get S hK hM i_RW f_a rfl 0 (by decide) mf_AD_151 (fun _ h9 => h9) rfl d_AD_counts_1 ?_
  refine lv_iconst (v := nI 2) hx hb d_AD_counts_4 rfl ?_
  refine nb_ne (tgt := 19) hx hb d_AD_counts_5 (by decide) (by omega) (by omega) (fun h2 => ?_) (fun h2 => ?_)
  · refine lv_iconst (v := nI 1) hx hb d_AD_counts_19 rfl ?_
    refine lv_goto (tgt := 24) hx hb d_AD_counts_20 (by decide) ?_
    exact hp_iret S hret hlk (rfl) hM hS (⟨rfl, by first | exact bo_t (Or.inl h2) | exact bo_t (Or.inr ha)⟩) d_AD_counts_24
  · refine lv_aload_n hx hb d_AD_counts_8 rfl (lv_at hl 0 rfl) ?_
    refine lv_aload_n hx hb d_AD_counts_9 rfl (lv_at hl 1 rfl) ?_
    refine hp_get S hK hM i_RW f_a rfl 1 (by decide) mf_AD_194 (fun _ h9 => h9) rfl d_AD_counts_10 ?_
    refine hp_calli (go_V S hZ hK hM hS hA hz (c_AD_isAllowed l D ct Z hZ _ _ fz x Al hal ky R.2.1 hky) mc_AD_isAllowed mz_AD ml_AD_134 mi_AD_isAllowed mx_AD_isAllowed hd_AD_isAllowed rfl ⟨by decide, by decide⟩ f_x rfl rfl hl.1 rfl (Nat.le_of_ble_eq_true rfl) d_AD_counts_13 ⟨by decide, by decide⟩) hM hS hA (fun r1 N2 H locs hr1 hM hS => ?_)
    rw [hr1.1] at hM
    replace hr1 := hr1.2
    refine nt_eq (tgt := 23) hx hb d_AD_counts_16 (by decide) hr1 (fun ha => ?_) (fun ha => ?_)
    · refine lv_iconst (v := nI 0) hx hb d_AD_counts_23 rfl ?_
      exact hp_iret S hret hlk (rfl) hM hS (⟨rfl, bo_f (fun q => q.elim (fun q => q h2) ha)⟩) d_AD_counts_24
    · refine lv_iconst (v := nI 1) hx hb d_AD_counts_19 rfl ?_
      refine lv_goto (tgt := 24) hx hb d_AD_counts_20 (by decide) ?_
      exact hp_iret S hret hlk (rfl) hM hS (⟨rfl, by first | exact bo_t (Or.inl h2) | exact bo_t (Or.inr ha)⟩) d_AD_counts_24
set_option maxHeartbeats 4000000 in
set_option maxRecDepth 100000 in
/-- a row at a place, if it counts -/
theorem c_AD_countingRowAt (l : Launch) (D : va_G) (ct : Nat → ClassId) (Z : hp_Z) (hZ : hp_Zok Z) (M : hp_M) (sz : Nat) (fz : Nat → Prop) (x : Nat) (Al : List (List Nat)) (hal : alP ct fz M x Al) (a : Nat) (rs : List RowT) (hac : acP ct fz M a rs) (i : Nat) (hi : i < 2 ^ 31) : Mq l y_AD_countingRowAt b_AD_countingRowAt 4 (some (.object "ActionDigests$Row")) 4 79 0 0 [.ref x, .ref a, .int (nI i)] D ct Z M sz (fun r M1 => M1 = M ∧ ((i < rs.length ∧ cnts Al (rs.getD i rw0) ∧ ∃ q, r = some q ∧ rwOk ct fz M q (rs.getD i rw0)) ∨ ((rs.length ≤ i ∨ ¬ cnts Al (rs.getD i rw0)) ∧ r = none))) := by
  refine hp_start (by decide) (Nat.le_of_ble_eq_true rfl) (fun p e s m below meth c ls S hret hlk hnm hsz hK hM hS hA hz hl => ?_)
  have hx := S.1
  have hb := S.2.1
  have hl : lv_has ls 4 [(0, .ref x), (1, .ref a), (2, .int (nI i))] := hl
  obtain ⟨xt, sh, ac, na, al, sc, hg, fl, f_x, f_al, hAl8, hAl⟩ := id hal
  obtain ⟨oa, f, f_a, f_oa, hn24, hrs⟩ := id hac
  refine lv_aload_n hx hb d_AD_countingRowAt_0 rfl (lv_at hl 1 rfl) ?_
  refine lv_iload_n hx hb d_AD_countingRowAt_1 rfl (lv_at hl 2 rfl) ?_
  refine hp_callq (go_V S hZ hK hM hS hA hz (c_AC_rowAt l D ct Z hZ _ _ fz a oa f rs hn24 f_a f_oa hrs i hi) mc_AC_rowAt mz_AC ml_AD_198 mi_AC_rowAt mx_AC_rowAt hd_AC_rowAt rfl ⟨by decide, by decide⟩ f_a rfl rfl hl.1 rfl (Nat.le_of_ble_eq_true rfl) d_AD_countingRowAt_2 ⟨by decide, by decide⟩) hM hS hA (fun r1 M9 H locs hr1 hM hS => ?_)
  rw [hr1.1] at hM
  replace hr1 := hr1.2
  rcases hr1 with ⟨hlt, q, e9r, hq⟩ | ⟨hge, e9r⟩
  · subst e9r
    refine lv_astore_n (lv' := [(3, .ref q), (0, .ref x), (1, .ref a), (2, .int (nI i))]) hx hb d_AD_countingRowAt_5 rfl hl (by decide) rfl (fun ls hl => ?_)
    refine lv_aload_n hx hb d_AD_countingRowAt_6 rfl (lv_at hl 0 rfl) ?_
    refine lv_ifnull hx hb d_AD_countingRowAt_7 ?_
    refine lv_aload_n hx hb d_AD_countingRowAt_10 rfl (lv_at hl 1 rfl) ?_
    refine lv_aload_n hx hb d_AD_countingRowAt_11 rfl (lv_at hl 0 rfl) ?_
    refine hp_calli (go_V S hZ hK hM hS hA hz (c_AD_counts l D ct Z hZ _ _ fz x Al hal q (rs.getD i rw0) hq) mc_AD_counts mz_AD ml_AD_202 mi_AD_counts mx_AD_counts hd_AD_counts rfl ⟨by decide, by decide⟩ f_x rfl rfl hl.1 rfl (Nat.le_of_ble_eq_true rfl) d_AD_countingRowAt_12 ⟨by decide, by decide⟩) hM hS hA (fun r2 N3 H locs hr2 hM hS => ?_)
    rw [hr2.1] at hM
    replace hr2 := hr2.2
    refine nt_eq (tgt := 22) hx hb d_AD_countingRowAt_15 (by decide) hr2 (fun hcn => ?_) (fun hcn => ?_)
    · refine lv_null hx hb d_AD_countingRowAt_22 ?_
      exact hp_aret (none) rfl S hret (Or.inl ⟨_, rfl⟩) hlk hM hS (⟨rfl, Or.inr ⟨by first | exact Or.inl hge | exact Or.inr hcn, rfl⟩⟩) d_AD_countingRowAt_23
    · refine lv_aload_n hx hb d_AD_countingRowAt_18 rfl (lv_at hl 0 rfl) ?_
      refine lv_goto (tgt := 23) hx hb d_AD_countingRowAt_19 (by decide) ?_
      exact hp_aret (some q) rfl S hret (Or.inl ⟨_, rfl⟩) hlk hM hS (⟨rfl, Or.inl ⟨hlt, hcn, q, rfl, hq⟩⟩) d_AD_countingRowAt_23
  · subst e9r
    refine lv_astore_nN (lv' := [(3, .null), (0, .ref x), (1, .ref a), (2, .int (nI i))]) hx hb d_AD_countingRowAt_5 rfl hl (by decide) rfl (fun ls hl => ?_)
    refine lv_aload_nN hx hb d_AD_countingRowAt_6 rfl (lv_at hl 0 rfl) ?_
    refine lv_ifnullN (tgt := 22) hx hb d_AD_countingRowAt_7 (by decide) ?_
    refine lv_null hx hb d_AD_countingRowAt_22 ?_
    exact hp_aret (none) rfl S hret (Or.inl ⟨_, rfl⟩) hlk hM hS (⟨rfl, Or.inr ⟨by first | exact Or.inl hge | exact Or.inr hcn, rfl⟩⟩) d_AD_countingRowAt_23
theorem cR_at {ct : Nat → ClassId} {fz : Nat → Prop} {M : hp_M} {Al : List (List Nat)} {rs : List RowT} {i k q : Nat} (h : i < rs.length) (hc : cnts Al (rs.getD i rw0)) (hk : k = (cR Al (rs.take i)).length) (hq : rwOk ct fz M q (rs.getD i rw0)) : k < (cR Al rs).length ∧ ∃ p, some q = some p ∧ rwOk ct fz M p ((cR Al rs).getD k rw0) := by
  have e : cR Al rs = cR Al (rs.take (i + 1)) ++ cR Al (rs.drop (i + 1)) := by
    unfold cR
    rw [← List.filter_append, List.take_append_drop]
  have hl : k < (cR Al (rs.take (i + 1))).length := by
    rw [cR_1 h hc, List.length_append, hk]
    exact Nat.lt_succ_self _
  constructor
  · rw [e, List.length_append]
    omega
  · refine ⟨q, rfl, ?_⟩
    rw [e, List.getD_eq_getElem?_getD, List.getElem?_append_left hl, cR_1 h hc, hk, List.getElem?_append_right (Nat.le_refl _), Nat.sub_self]
    exact hq
set_option maxHeartbeats 4000000 in
set_option maxRecDepth 100000 in
/-- the k-th row of those that count -/
theorem c_AD_rowInOrder (l : Launch) (D : va_G) (ct : Nat → ClassId) (Z : hp_Z) (hZ : hp_Zok Z) (M : hp_M) (sz : Nat) (fz : Nat → Prop) (x : Nat) (Al : List (List Nat)) (hal : alP ct fz M x Al) (a : Nat) (rs : List RowT) (hac : acP ct fz M a rs) (k : Nat) (hk : k < 2 ^ 31) : Mq l y_AD_rowInOrder b_AD_rowInOrder 6 (some (.object "ActionDigests$Row")) 5 102 0 0 [.ref x, .ref a, .int (nI k)] D ct Z M sz (fun r M1 => M1 = M ∧ ((k < (cR Al rs).length ∧ ∃ q, r = some q ∧ rwOk ct fz M q ((cR Al rs).getD k rw0)) ∨ ((cR Al rs).length ≤ k ∧ r = none))) := by
  refine hp_start (by decide) (Nat.le_of_ble_eq_true rfl) (fun p e s m below meth c ls S hret hlk hnm hsz hK hM hS hA hz hl => ?_)
  have hx := S.1
  have hb := S.2.1
  have hl : lv_has ls 6 [(0, .ref x), (1, .ref a), (2, .int (nI k))] := hl
  obtain ⟨xt, sh, ac, na, al, sc, hg, fl, f_x, f_al, hAl8, hAl⟩ := id hal
  have hn24 : rs.length ≤ 24 := by obtain ⟨_, _, -, -, h, -⟩ := id hac; exact h
  refine lv_iload_n hx hb d_AD_rowInOrder_0 rfl (lv_at hl 2 rfl) ?_
  refine lv_istore_n (lv' := [(3, .int (nI k)), (0, .ref x), (1, .ref a), (2, .int (nI k))]) hx hb d_AD_rowInOrder_1 rfl hl (by decide) rfl (fun ls hl => ?_)
  refine lv_iconst (v := nI 0) hx hb d_AD_rowInOrder_2 rfl ?_
  refine lv_istore (lv' := [(4, .int (nI 0)), (3, .int (nI k)), (0, .ref x), (1, .ref a), (2, .int (nI k))]) hx hb d_AD_rowInOrder_3 hl (by decide) rfl (fun ls hl => ?_)
  replace hl : lv_has ls 6 [(0, .ref x), (1, .ref a), (2, .int (nI k)), (3, .int (nI k)), (4, .int (nI 0))] := lv_sub hl [2, 3, 4, 1, 0] rfl
  obtain ⟨j, e9j⟩ : ∃ z : Nat, z = 0 := ⟨_, rfl⟩
  obtain ⟨lf, e9lf⟩ : ∃ z : Nat, z = k := ⟨_, rfl⟩
  replace hl : lv_has ls 6 [(0, .ref x), (1, .ref a), (2, .int (nI k)), (3, .int (nI lf)), (4, .int (nI j))] := by subst e9j e9lf; exact hl
  obtain ⟨H, e9H⟩ : ∃ z : Heap, z = s.heap := ⟨_, rfl⟩
  replace hM : hp_H D ccl (hp_A M sz) M H := by rw [e9H]; exact hM
  replace hS : va_S (hp_A M sz) s.heap H [] := by rw [e9H]; exact hS
  rw [← e9H]
  clear e9H
  obtain ⟨locs, e9L⟩ : ∃ z : List Loc, z = [] := ⟨_, rfl⟩
  replace hS : va_S (hp_A M sz) s.heap H locs := by rw [e9L]; exact hS
  rw [← e9L]
  clear e9L
  have hlf : k = lf + (cR Al (rs.take j)).length := by subst e9j e9lf; simp [cR]
  obtain ⟨fu, hn⟩ : ∃ fu : Nat, j + fu = 24 := ⟨24 - j, by omega⟩
  clear e9j e9lf
  induction fu generalizing j lf H locs ls with
  | zero =>
    have hn : j = 24 := by omega
    have htk : rs.take 24 = rs := List.take_of_length_le (by omega)
    rw [hn, htk] at hlf
    refine lv_iload hx hb d_AD_rowInOrder_5 (lv_at hl 4 rfl) ?_
    refine lv_bipush (v := nI 24) hx hb d_AD_rowInOrder_7 rfl ?_
    refine nb_ge (tgt := 42) hx hb d_AD_rowInOrder_9 (by decide) (by omega) (by omega) (fun h1 => ?_) (fun h1 => ?_)
    · refine lv_null hx hb d_AD_rowInOrder_42 ?_
      exact hp_aret (none) rfl S hret (Or.inl ⟨_, rfl⟩) hlk hM hS (⟨rfl, Or.inr ⟨by omega, rfl⟩⟩) d_AD_rowInOrder_43
    · exact absurd hn (by omega)
  | succ fu ih =>
    refine lv_iload hx hb d_AD_rowInOrder_5 (lv_at hl 4 rfl) ?_
    refine lv_bipush (v := nI 24) hx hb d_AD_rowInOrder_7 rfl ?_
    refine nb_ge (tgt := 42) hx hb d_AD_rowInOrder_9 (by decide) (by omega) (by omega) (fun h2 => ?_) (fun h2 => ?_)
    · exact absurd hn (by omega)
    · refine lv_aload_n hx hb d_AD_rowInOrder_12 rfl (lv_at hl 0 rfl) ?_
      refine lv_aload_n hx hb d_AD_rowInOrder_13 rfl (lv_at hl 1 rfl) ?_
      refine lv_iload hx hb d_AD_rowInOrder_14 (lv_at hl 4 rfl) ?_
      refine hp_callq (go_V S hZ hK hM hS hA hz (c_AD_countingRowAt l D ct Z hZ _ _ fz x Al hal a rs hac j (by omega)) mc_AD_countingRowAt mz_AD ml_AD_144 mi_AD_countingRowAt mx_AD_countingRowAt hd_AD_countingRowAt rfl ⟨by decide, by decide⟩ f_x rfl rfl hl.1 rfl (Nat.le_of_ble_eq_true rfl) d_AD_rowInOrder_16 ⟨by decide, by decide⟩) hM hS hA (fun r3 M9 H locs hr3 hM hS => ?_)
      rw [hr3.1] at hM
      replace hr3 := hr3.2
      rcases hr3 with ⟨hlt, hcn, q, e9r, hq⟩ | ⟨hno, e9r⟩
      · subst e9r
        refine lv_astore (lv' := [(5, .ref q), (0, .ref x), (1, .ref a), (2, .int (nI k)), (3, .int (nI lf)), (4, .int (nI j))]) hx hb d_AD_rowInOrder_19 hl (by decide) rfl (fun ls hl => ?_)
        refine lv_aload hx hb d_AD_rowInOrder_21 (lv_at hl 0 rfl) ?_
        refine lv_ifnull hx hb d_AD_rowInOrder_23 ?_
        refine lv_iload_n hx hb d_AD_rowInOrder_26 rfl (lv_at hl 4 rfl) ?_
        refine nz_ne (tgt := 33) hx hb d_AD_rowInOrder_27 (by decide) (by omega) (fun h0 => ?_) (fun h0 => ?_)
        · refine lv_iinc (v := nI (lf - 1)) (lv' := [(3, .int (nI (lf - 1))), (5, .ref q), (0, .ref x), (1, .ref a), (2, .int (nI k)), (4, .int (nI j))]) hx hb d_AD_rowInOrder_33 hl (k := 4) rfl (by rw [show lf = (lf - 1) + 1 by omega]; exact pk_m1 _) (by decide) rfl (fun ls hl => ?_)
          refine lv_iinc (v := nI (j + 1)) (lv' := [(4, .int (nI (j + 1))), (3, .int (nI (lf - 1))), (5, .ref q), (0, .ref x), (1, .ref a), (2, .int (nI k))]) hx hb d_AD_rowInOrder_36 hl (k := 5) rfl (nI_add j 1) (by decide) rfl (fun ls hl => ?_)
          refine lv_goto (tgt := 5) hx hb d_AD_rowInOrder_39 (by decide) ?_
          exact ih (ls := ls) (hl := lv_sub hl [3, 4, 5, 1, 0] rfl) (j := j + 1) (hn := by omega) (lf := lf - 1) (hlf := by rw [cR_1 hlt hcn, List.length_append]; show k = lf - 1 + (_ + 1); omega) (H := H) (locs := locs) (hM := hM) (hS := hS)
        · refine lv_aload hx hb d_AD_rowInOrder_30 (lv_at hl 0 rfl) ?_
          exact hp_aret (some q) rfl S hret (Or.inl ⟨_, rfl⟩) hlk hM hS (⟨rfl, Or.inl (cR_at hlt hcn (by omega) hq)⟩) d_AD_rowInOrder_32
      · subst e9r
        refine lv_astoreN (lv' := [(5, .null), (0, .ref x), (1, .ref a), (2, .int (nI k)), (3, .int (nI lf)), (4, .int (nI j))]) hx hb d_AD_rowInOrder_19 hl (by decide) rfl (fun ls hl => ?_)
        refine lv_aloadN hx hb d_AD_rowInOrder_21 (lv_at hl 0 rfl) ?_
        refine lv_ifnullN (tgt := 36) hx hb d_AD_rowInOrder_23 (by decide) ?_
        refine lv_iinc (v := nI (j + 1)) (lv' := [(4, .int (nI (j + 1))), (5, .null), (0, .ref x), (1, .ref a), (2, .int (nI k)), (3, .int (nI lf))]) hx hb d_AD_rowInOrder_36 hl (k := 5) rfl (nI_add j 1) (by decide) rfl (fun ls hl => ?_)
        refine lv_goto (tgt := 5) hx hb d_AD_rowInOrder_39 (by decide) ?_
        exact ih (ls := ls) (hl := lv_sub hl [2, 3, 4, 5, 0] rfl) (j := j + 1) (hn := by omega) (lf := lf) (hlf := by rw [cR_0 hno]; exact hlf) (H := H) (locs := locs) (hM := hM) (hS := hS)
end
section
/-- an answer that asks for an action -/
def onA (As : List (List RowT)) (k r : Int32) (P : List RowT → Int32 → Prop) (r0 : Int32) : Prop := (∃ j, j < As.length ∧ k = nI j ∧ P (As.getD j []) r) ∨ ((∀ j, j < As.length → k ≠ nI j) ∧ r = r0)
/-- .. and for a place in a list of n -/
def onK (n : Nat) (k r : Int32) (P : Nat → Int32 → Prop) (r0 : Int32) : Prop := (∃ j, j < n ∧ k = nI j ∧ P j r) ∨ ((∀ j, j < n → k ≠ nI j) ∧ r = r0)
theorem stA_len {rs : List RowT} : (stA (rs ++ [])).length = (stA rs).length := by rw [List.append_nil]
theorem stA_at {Al : List (List Nat)} {rs : List RowT} {i k lf : Nat} (h : i < rs.length) (hc : cnts Al (rs.getD i rw0)) (hk : k = lf + (stA (cR Al (rs.take i))).length) (hlf : lf < (stT (rs.getD i rw0)).length) : k < (stA (cR Al rs)).length ∧ (stA (cR Al rs)).getD k 0 = (stT (rs.getD i rw0)).getD lf 0 := by
  have e : stA (cR Al rs) = (stA (cR Al (rs.take i)) ++ stT (rs.getD i rw0)) ++ stA (cR Al (rs.drop (i + 1))) := by
    rw [← stA_1, ← cR_1 h hc]
    unfold stA cR
    rw [← List.flatten_append, ← List.map_append, ← List.filter_append, List.take_append_drop]
  rw [e]
  constructor
  · rw [List.length_append, List.length_append]
    omega
  · rw [List.getD_eq_getElem?_getD, List.getElem?_append_left (by rw [List.length_append]; omega), List.getElem?_append_right (by omega), List.getD_eq_getElem?_getD, show k - (stA (cR Al (rs.take i))).length = lf by omega]
    rfl
theorem stA_s {Al : List (List Nat)} {rs : List RowT} {i : Nat} (h : i < rs.length) (hc : cnts Al (rs.getD i rw0)) : (stA (cR Al (rs.take (i + 1)))).length = (stA (cR Al (rs.take i))).length + (stT (rs.getD i rw0)).length := by
  rw [cR_1 h hc, stA_1, List.length_append]
theorem rwOk.len {ct : Nat → ClassId} {fz : Nat → Prop} {M : hp_M} {a : Nat} {R : RowT} (h : rwOk ct fz M a R) : (stT R).length ≤ 108 := by
  obtain ⟨_, _, -, -, -, h, -⟩ := h
  show R.2.2.length + 1 + 1 + 1 ≤ 108
  omega
def like (R S : RowT) : Prop := R.1 = S.1 ∧ R.2.2 = S.2.2
/-- the first place in which two lists of rows differ -/
def dif (ra rb : List RowT) (r : Int32) : Prop := (∃ p, (∀ i, i < p → i < ra.length ∧ i < rb.length ∧ like (ra.getD i rw0) (rb.getD i rw0)) ∧ (p < ra.length ∨ p < rb.length) ∧ ¬ (p < ra.length ∧ p < rb.length ∧ like (ra.getD p rw0) (rb.getD p rw0)) ∧ r = nI p) ∨ (ra.length = rb.length ∧ (∀ i, i < ra.length → like (ra.getD i rw0) (rb.getD i rw0)) ∧ r = -1)
set_option maxHeartbeats 4000000 in
set_option maxRecDepth 100000 in
/-- how many rows count -/
theorem c_AD_rows (l : Launch) (D : va_G) (ct : Nat → ClassId) (Z : hp_Z) (hZ : hp_Zok Z) (M : hp_M) (sz : Nat) (fz : Nat → Prop) (x : Nat) (As : List (List RowT)) (Al : List (List Nat)) (hat : atP ct fz M x As) (hal : alP ct fz M x Al) (k : Int32) : Mi l y_AD_rows b_AD_rows 5 (some .int) 5 102 0 0 [.ref x, .int k] D ct Z M sz (fun r M1 => M1 = M ∧ onA As k r (fun rs r => r = nI (cR Al rs).length) (-1)) := by
  refine hp_start (by decide) (Nat.le_of_ble_eq_true rfl) (fun p e s m below meth c ls S hret hlk hnm hsz hK hM hS hA hz hl => ?_)
  have hx := S.1
  have hb := S.2.1
  have hl : lv_has ls 5 [(0, .ref x), (1, .int k)] := hl
  obtain ⟨xt, sh, ac, na, al, sc, hg, fl, f_x, f_al, hAl8, hAl⟩ := id hal
  refine lv_aload_n hx hb d_AD_rows_0 rfl (lv_at hl 0 rfl) ?_
  refine lv_iload_n hx hb d_AD_rows_1 rfl (lv_at hl 1 rfl) ?_
  refine hp_callq (go_V S hZ hK hM hS hA hz (c_AD_actionAt l D ct Z hZ _ _ fz x As hat k) mc_AD_actionAt mz_AD ml_AD_69 mi_AD_actionAt mx_AD_actionAt hd_AD_actionAt rfl ⟨by decide, by decide⟩ f_x rfl rfl hl.1 rfl (Nat.le_of_ble_eq_true rfl) d_AD_rows_2 ⟨by decide, by decide⟩) hM hS hA (fun r1 M9 H locs hr1 hM hS => ?_)
  rw [hr1.1] at hM
  replace hr1 := hr1.2
  rcases hr1 with ⟨j0, a, hj0, ek, e9r, hac0⟩ | ⟨hno0, e9r⟩
  · subst e9r
    subst ek
    have haca := hac0
    obtain ⟨oaa, foa, f_a, f_oaa, hn24a, hrsa⟩ := id haca
    refine lv_astore_n (lv' := [(2, .ref a), (0, .ref x), (1, .int (nI j0))]) hx hb d_AD_rows_5 rfl hl (by decide) rfl (fun ls hl => ?_)
    refine lv_aload_n hx hb d_AD_rows_6 rfl (lv_at hl 0 rfl) ?_
    refine lv_ifnonnull (tgt := 12) hx hb d_AD_rows_7 (by decide) ?_
    refine lv_iconst (v := nI 0) hx hb d_AD_rows_12 rfl ?_
    refine lv_istore_n (lv' := [(3, .int (nI 0)), (2, .ref a), (0, .ref x), (1, .int (nI j0))]) hx hb d_AD_rows_13 rfl hl (by decide) rfl (fun ls hl => ?_)
    refine lv_iconst (v := nI 0) hx hb d_AD_rows_14 rfl ?_
    refine lv_istore (lv' := [(4, .int (nI 0)), (3, .int (nI 0)), (2, .ref a), (0, .ref x), (1, .int (nI j0))]) hx hb d_AD_rows_15 hl (by decide) rfl (fun ls hl => ?_)
    replace hl : lv_has ls 5 [(0, .ref x), (2, .ref a), (3, .int (nI 0)), (4, .int (nI 0))] := lv_sub hl [3, 2, 1, 0] rfl
    obtain ⟨j, e9j⟩ : ∃ z : Nat, z = 0 := ⟨_, rfl⟩
    obtain ⟨c9, e9c9⟩ : ∃ z : Nat, z = 0 := ⟨_, rfl⟩
    replace hl : lv_has ls 5 [(0, .ref x), (2, .ref a), (3, .int (nI c9)), (4, .int (nI j))] := by subst e9j e9c9; exact hl
    have hc : c9 = (cR Al ((As.getD j0 []).take j)).length := by subst e9j e9c9; simp [cR]
    obtain ⟨fu, hn⟩ : ∃ fu : Nat, j + fu = 24 := ⟨24 - j, by omega⟩
    clear e9j e9c9
    induction fu generalizing j c9 H locs ls with
    | zero =>
      have hn : j = 24 := by omega
      rw [hn, List.take_of_length_le hn24a] at hc
      subst hc
      refine lv_iload hx hb d_AD_rows_17 (lv_at hl 3 rfl) ?_
      refine lv_bipush (v := nI 24) hx hb d_AD_rows_19 rfl ?_
      refine nb_ge (tgt := 43) hx hb d_AD_rows_21 (by decide) (by omega) (by omega) (fun h2 => ?_) (fun h2 => ?_)
      · refine lv_iload_n hx hb d_AD_rows_43 rfl (lv_at hl 2 rfl) ?_
        exact hp_iret S hret hlk (rfl) hM hS (⟨rfl, Or.inl ⟨j0, hj0, rfl, rfl⟩⟩) d_AD_rows_44
      · exact absurd hn (by omega)
    | succ fu ih =>
      refine lv_iload hx hb d_AD_rows_17 (lv_at hl 3 rfl) ?_
      refine lv_bipush (v := nI 24) hx hb d_AD_rows_19 rfl ?_
      refine nb_ge (tgt := 43) hx hb d_AD_rows_21 (by decide) (by omega) (by omega) (fun h3 => ?_) (fun h3 => ?_)
      · exact absurd hn (by omega)
      · refine lv_aload_n hx hb d_AD_rows_24 rfl (lv_at hl 0 rfl) ?_
        refine lv_aload_n hx hb d_AD_rows_25 rfl (lv_at hl 1 rfl) ?_
        refine lv_iload hx hb d_AD_rows_26 (lv_at hl 3 rfl) ?_
        refine hp_callq (go_V S hZ hK hM hS hA hz (c_AD_countingRowAt l D ct Z hZ _ _ fz x Al hal a (As.getD j0 []) haca j (by omega)) mc_AD_countingRowAt mz_AD ml_AD_144 mi_AD_countingRowAt mx_AD_countingRowAt hd_AD_countingRowAt rfl ⟨by decide, by decide⟩ f_x rfl rfl hl.1 rfl (Nat.le_of_ble_eq_true rfl) d_AD_rows_28 ⟨by decide, by decide⟩) hM hS hA (fun r4 M9 H locs hr4 hM hS => ?_)
        rw [hr4.1] at hM
        replace hr4 := hr4.2
        rcases hr4 with ⟨hlt, hcn, q, e9r, hq⟩ | ⟨hno, e9r⟩
        · subst e9r
          refine lv_ifnull hx hb d_AD_rows_31 ?_
          refine lv_iinc (v := nI (c9 + 1)) (lv' := [(3, .int (nI (c9 + 1))), (0, .ref x), (2, .ref a), (4, .int (nI j))]) hx hb d_AD_rows_34 hl (k := 2) rfl (nI_add c9 1) (by decide) rfl (fun ls hl => ?_)
          refine lv_iinc (v := nI (j + 1)) (lv' := [(4, .int (nI (j + 1))), (3, .int (nI (c9 + 1))), (0, .ref x), (2, .ref a)]) hx hb d_AD_rows_37 hl (k := 3) rfl (nI_add j 1) (by decide) rfl (fun ls hl => ?_)
          refine lv_goto (tgt := 17) hx hb d_AD_rows_40 (by decide) ?_
          exact ih (ls := ls) (hl := lv_sub hl [2, 3, 1, 0] rfl) (j := j + 1) (hn := by omega) (c9 := c9 + 1) (hc := by rw [cR_1 hlt hcn, List.length_append, hc]; rfl) (H := H) (locs := locs) (hM := hM) (hS := hS)
        · subst e9r
          refine lv_ifnullN (tgt := 37) hx hb d_AD_rows_31 (by decide) ?_
          refine lv_iinc (v := nI (j + 1)) (lv' := [(4, .int (nI (j + 1))), (0, .ref x), (2, .ref a), (3, .int (nI c9))]) hx hb d_AD_rows_37 hl (k := 3) rfl (nI_add j 1) (by decide) rfl (fun ls hl => ?_)
          refine lv_goto (tgt := 17) hx hb d_AD_rows_40 (by decide) ?_
          exact ih (ls := ls) (hl := lv_sub hl [1, 2, 3, 0] rfl) (j := j + 1) (hn := by omega) (c9 := c9) (hc := by rw [cR_0 hno]; exact hc) (H := H) (locs := locs) (hM := hM) (hS := hS)
  · subst e9r
    refine lv_astore_nN (lv' := [(2, .null), (0, .ref x), (1, .int k)]) hx hb d_AD_rows_5 rfl hl (by decide) rfl (fun ls hl => ?_)
    refine lv_aload_nN hx hb d_AD_rows_6 rfl (lv_at hl 0 rfl) ?_
    refine lv_ifnonnullN hx hb d_AD_rows_7 ?_
    refine lv_iconst (v := -1) hx hb d_AD_rows_10 (by decide) ?_
    exact hp_iret S hret hlk (rfl) hM hS (⟨rfl, Or.inr ⟨hno0, rfl⟩⟩) d_AD_rows_11
set_option maxHeartbeats 4000000 in
set_option maxRecDepth 100000 in
/-- how long the STABLE TEXT is -/
theorem c_AD_size (l : Launch) (D : va_G) (ct : Nat → ClassId) (Z : hp_Z) (hZ : hp_Zok Z) (M : hp_M) (sz : Nat) (fz : Nat → Prop) (x : Nat) (As : List (List RowT)) (Al : List (List Nat)) (hat : atP ct fz M x As) (hal : alP ct fz M x Al) (k : Int32) : Mi l y_AD_size b_AD_size 6 (some .int) 5 102 0 0 [.ref x, .int k] D ct Z M sz (fun r M1 => M1 = M ∧ onA As k r (fun rs r => r = nI (stA (cR Al rs)).length) (-1)) := by
  refine hp_start (by decide) (Nat.le_of_ble_eq_true rfl) (fun p e s m below meth c ls S hret hlk hnm hsz hK hM hS hA hz hl => ?_)
  have hx := S.1
  have hb := S.2.1
  have hl : lv_has ls 6 [(0, .ref x), (1, .int k)] := hl
  obtain ⟨xt, sh, ac, na, al, sc, hg, fl, f_x, f_al, hAl8, hAl⟩ := id hal
  refine lv_aload_n hx hb d_AD_size_0 rfl (lv_at hl 0 rfl) ?_
  refine lv_iload_n hx hb d_AD_size_1 rfl (lv_at hl 1 rfl) ?_
  refine hp_callq (go_V S hZ hK hM hS hA hz (c_AD_actionAt l D ct Z hZ _ _ fz x As hat k) mc_AD_actionAt mz_AD ml_AD_69 mi_AD_actionAt mx_AD_actionAt hd_AD_actionAt rfl ⟨by decide, by decide⟩ f_x rfl rfl hl.1 rfl (Nat.le_of_ble_eq_true rfl) d_AD_size_2 ⟨by decide, by decide⟩) hM hS hA (fun r1 M9 H locs hr1 hM hS => ?_)
  rw [hr1.1] at hM
  replace hr1 := hr1.2
  rcases hr1 with ⟨j0, a, hj0, ek, e9r, hac0⟩ | ⟨hno0, e9r⟩
  · subst e9r
    subst ek
    have haca := hac0
    obtain ⟨oaa, foa, f_a, f_oaa, hn24a, hrsa⟩ := id haca
    refine lv_astore_n (lv' := [(2, .ref a), (0, .ref x), (1, .int (nI j0))]) hx hb d_AD_size_5 rfl hl (by decide) rfl (fun ls hl => ?_)
    refine lv_aload_n hx hb d_AD_size_6 rfl (lv_at hl 0 rfl) ?_
    refine lv_ifnonnull (tgt := 12) hx hb d_AD_size_7 (by decide) ?_
    refine lv_iconst (v := nI 0) hx hb d_AD_size_12 rfl ?_
    refine lv_istore_n (lv' := [(3, .int (nI 0)), (2, .ref a), (0, .ref x), (1, .int (nI j0))]) hx hb d_AD_size_13 rfl hl (by decide) rfl (fun ls hl => ?_)
    refine lv_iconst (v := nI 0) hx hb d_AD_size_14 rfl ?_
    refine lv_istore (lv' := [(4, .int (nI 0)), (3, .int (nI 0)), (2, .ref a), (0, .ref x), (1, .int (nI j0))]) hx hb d_AD_size_15 hl (by decide) rfl (fun ls hl => ?_)
    replace hl : lv_has ls 6 [(0, .ref x), (2, .ref a), (3, .int (nI 0)), (4, .int (nI 0))] := lv_sub hl [3, 2, 1, 0] rfl
    obtain ⟨j, e9j⟩ : ∃ z : Nat, z = 0 := ⟨_, rfl⟩
    obtain ⟨c9, e9c9⟩ : ∃ z : Nat, z = 0 := ⟨_, rfl⟩
    replace hl : lv_has ls 6 [(0, .ref x), (2, .ref a), (3, .int (nI c9)), (4, .int (nI j))] := by subst e9j e9c9; exact hl
    have hc : c9 = (stA (cR Al ((As.getD j0 []).take j))).length := by subst e9j e9c9; simp [cR, stA]
    obtain ⟨fu, hn⟩ : ∃ fu : Nat, j + fu = 24 := ⟨24 - j, by omega⟩
    clear e9j e9c9
    induction fu generalizing j c9 H locs ls with
    | zero =>
      have hn : j = 24 := by omega
      rw [hn, List.take_of_length_le hn24a] at hc
      subst hc
      refine lv_iload hx hb d_AD_size_17 (lv_at hl 3 rfl) ?_
      refine lv_bipush (v := nI 24) hx hb d_AD_size_19 rfl ?_
      refine nb_ge (tgt := 52) hx hb d_AD_size_21 (by decide) (by omega) (by omega) (fun h2 => ?_) (fun h2 => ?_)
      · refine lv_iload_n hx hb d_AD_size_52 rfl (lv_at hl 2 rfl) ?_
        exact hp_iret S hret hlk (rfl) hM hS (⟨rfl, Or.inl ⟨j0, hj0, rfl, rfl⟩⟩) d_AD_size_53
      · exact absurd hn (by omega)
    | succ fu ih =>
      refine lv_iload hx hb d_AD_size_17 (lv_at hl 3 rfl) ?_
      refine lv_bipush (v := nI 24) hx hb d_AD_size_19 rfl ?_
      refine nb_ge (tgt := 52) hx hb d_AD_size_21 (by decide) (by omega) (by omega) (fun h3 => ?_) (fun h3 => ?_)
      · exact absurd hn (by omega)
      · refine lv_aload_n hx hb d_AD_size_24 rfl (lv_at hl 0 rfl) ?_
        refine lv_aload_n hx hb d_AD_size_25 rfl (lv_at hl 1 rfl) ?_
        refine lv_iload hx hb d_AD_size_26 (lv_at hl 3 rfl) ?_
        refine hp_callq (go_V S hZ hK hM hS hA hz (c_AD_countingRowAt l D ct Z hZ _ _ fz x Al hal a (As.getD j0 []) haca j (by omega)) mc_AD_countingRowAt mz_AD ml_AD_144 mi_AD_countingRowAt mx_AD_countingRowAt hd_AD_countingRowAt rfl ⟨by decide, by decide⟩ f_x rfl rfl hl.1 rfl (Nat.le_of_ble_eq_true rfl) d_AD_size_28 ⟨by decide, by decide⟩) hM hS hA (fun r4 M9 H locs hr4 hM hS => ?_)
        rw [hr4.1] at hM
        replace hr4 := hr4.2
        rcases hr4 with ⟨hlt, hcn, q, e9r, hq⟩ | ⟨hno, e9r⟩
        · subst e9r
          refine lv_astore (lv' := [(5, .ref q), (0, .ref x), (2, .ref a), (3, .int (nI c9)), (4, .int (nI j))]) hx hb d_AD_size_31 hl (by decide) rfl (fun ls hl => ?_)
          refine lv_aload hx hb d_AD_size_33 (lv_at hl 0 rfl) ?_
          refine lv_ifnull hx hb d_AD_size_35 ?_
          refine lv_iload_n hx hb d_AD_size_38 rfl (lv_at hl 3 rfl) ?_
          refine lv_aload hx hb d_AD_size_39 (lv_at hl 0 rfl) ?_
          obtain ⟨kyq, baq, f_q, -⟩ := id hq
          have hsl := hq.len
          refine hp_calli (go_V S hZ hK hM hS hA hz (c_RW_stableLength l D ct Z hZ _ _ fz q ((As.getD j0 []).getD j rw0) hq) mc_RW_stableLength mz_RW ml_AD_154 mi_RW_stableLength mx_RW_stableLength hd_RW_stableLength rfl ⟨by decide, by decide⟩ f_q rfl rfl hl.1 rfl (Nat.le_of_ble_eq_true rfl) d_AD_size_41 ⟨by decide, by decide⟩) hM hS hA (fun r5 N6 H locs hr5 hM hS => ?_)
          rw [hr5.1] at hM
          replace hr5 := hr5.2
          subst hr5
          refine nb_iadd hx hb d_AD_size_44 ?_
          refine lv_istore_n (lv' := [(3, .int (nI (c9 + ((stT ((As.getD j0 []).getD j rw0)).length)))), (5, .ref q), (0, .ref x), (2, .ref a), (4, .int (nI j))]) hx hb d_AD_size_45 rfl hl (by decide) rfl (fun ls hl => ?_)
          refine lv_iinc (v := nI (j + 1)) (lv' := [(4, .int (nI (j + 1))), (3, .int (nI (c9 + ((stT ((As.getD j0 []).getD j rw0)).length)))), (5, .ref q), (0, .ref x), (2, .ref a)]) hx hb d_AD_size_46 hl (k := 4) rfl (nI_add j 1) (by decide) rfl (fun ls hl => ?_)
          refine lv_goto (tgt := 17) hx hb d_AD_size_49 (by decide) ?_
          exact ih (ls := ls) (hl := lv_sub hl [3, 4, 1, 0] rfl) (j := j + 1) (hn := by omega) (c9 := c9 + ((stT ((As.getD j0 []).getD j rw0)).length)) (hc := by rw [stA_s hlt hcn, hc]) (H := H) (locs := locs) (hM := hM) (hS := hS)
        · subst e9r
          refine lv_astoreN (lv' := [(5, .null), (0, .ref x), (2, .ref a), (3, .int (nI c9)), (4, .int (nI j))]) hx hb d_AD_size_31 hl (by decide) rfl (fun ls hl => ?_)
          refine lv_aloadN hx hb d_AD_size_33 (lv_at hl 0 rfl) ?_
          refine lv_ifnullN (tgt := 46) hx hb d_AD_size_35 (by decide) ?_
          refine lv_iinc (v := nI (j + 1)) (lv' := [(4, .int (nI (j + 1))), (5, .null), (0, .ref x), (2, .ref a), (3, .int (nI c9))]) hx hb d_AD_size_46 hl (k := 4) rfl (nI_add j 1) (by decide) rfl (fun ls hl => ?_)
          refine lv_goto (tgt := 17) hx hb d_AD_size_49 (by decide) ?_
          exact ih (ls := ls) (hl := lv_sub hl [2, 3, 4, 0] rfl) (j := j + 1) (hn := by omega) (c9 := c9) (hc := by rw [cR_0 hno]; exact hc) (H := H) (locs := locs) (hM := hM) (hS := hS)
  · subst e9r
    refine lv_astore_nN (lv' := [(2, .null), (0, .ref x), (1, .int k)]) hx hb d_AD_size_5 rfl hl (by decide) rfl (fun ls hl => ?_)
    refine lv_aload_nN hx hb d_AD_size_6 rfl (lv_at hl 0 rfl) ?_
    refine lv_ifnonnullN hx hb d_AD_size_7 ?_
    refine lv_iconst (v := -1) hx hb d_AD_size_10 (by decide) ?_
    exact hp_iret S hret hlk (rfl) hM hS (⟨rfl, Or.inr ⟨hno0, rfl⟩⟩) d_AD_size_11
set_option maxHeartbeats 4000000 in
set_option maxRecDepth 100000 in
/-- the KIND of the k-th row -/
theorem c_AD_kind (l : Launch) (D : va_G) (ct : Nat → ClassId) (Z : hp_Z) (hZ : hp_Zok Z) (M : hp_M) (sz : Nat) (fz : Nat → Prop) (x : Nat) (As : List (List RowT)) (Al : List (List Nat)) (hat : atP ct fz M x As) (hal : alP ct fz M x Al) (k m9 : Int32) : Mi l y_AD_kind b_AD_kind 5 (some .int) 6 127 0 0 [.ref x, .int k, .int m9] D ct Z M sz (fun r M1 => M1 = M ∧ onA As k r (fun rs r => onK (cR Al rs).length m9 r (fun j r => r = nI ((cR Al rs).getD j rw0).1) (-1)) (-1)) := by
  refine hp_start (by decide) (Nat.le_of_ble_eq_true rfl) (fun p e s m below meth c ls S hret hlk hnm hsz hK hM hS hA hz hl => ?_)
  have hx := S.1
  have hb := S.2.1
  have hl : lv_has ls 5 [(0, .ref x), (1, .int k), (2, .int m9)] := hl
  obtain ⟨xt, sh, ac, na, al, sc, hg, fl, f_x, f_al, hAl8, hAl⟩ := id hal
  refine lv_aload_n hx hb d_AD_kind_0 rfl (lv_at hl 0 rfl) ?_
  refine lv_iload_n hx hb d_AD_kind_1 rfl (lv_at hl 1 rfl) ?_
  refine hp_callq (go_V S hZ hK hM hS hA hz (c_AD_actionAt l D ct Z hZ _ _ fz x As hat k) mc_AD_actionAt mz_AD ml_AD_69 mi_AD_actionAt mx_AD_actionAt hd_AD_actionAt rfl ⟨by decide, by decide⟩ f_x rfl rfl hl.1 rfl (Nat.le_of_ble_eq_true rfl) d_AD_kind_2 ⟨by decide, by decide⟩) hM hS hA (fun r1 M9 H locs hr1 hM hS => ?_)
  rw [hr1.1] at hM
  replace hr1 := hr1.2
  rcases hr1 with ⟨j0, a, hj0, ek, e9r, hac0⟩ | ⟨hno0, e9r⟩
  · subst e9r
    subst ek
    have haca := hac0
    obtain ⟨oaa, foa, f_a, f_oaa, hn24a, hrsa⟩ := id haca
    refine lv_astore_n (lv' := [(3, .ref a), (0, .ref x), (1, .int (nI j0)), (2, .int m9)]) hx hb d_AD_kind_5 rfl hl (by decide) rfl (fun ls hl => ?_)
    refine lv_aload_n hx hb d_AD_kind_6 rfl (lv_at hl 0 rfl) ?_
    refine lv_ifnull hx hb d_AD_kind_7 ?_
    refine lv_iload_n hx hb d_AD_kind_10 rfl (lv_at hl 3 rfl) ?_
    refine lv_if_ge (tgt := 16) hx hb d_AD_kind_11 (by decide) (fun hge => ?_) (fun hge => ?_)
    · obtain ⟨k2, hk2, ek2⟩ : ∃ j : Nat, j < 2 ^ 31 ∧ m9 = nI j := nI_of (Int32.not_lt.mpr hge)
      subst ek2
      refine lv_aload_n hx hb d_AD_kind_16 rfl (lv_at hl 1 rfl) ?_
      refine lv_aload_n hx hb d_AD_kind_17 rfl (lv_at hl 0 rfl) ?_
      refine lv_iload_n hx hb d_AD_kind_18 rfl (lv_at hl 3 rfl) ?_
      refine hp_callq (go_V S hZ hK hM hS hA hz (c_AD_rowInOrder l D ct Z hZ _ _ fz x Al hal a (As.getD j0 []) haca k2 (by omega)) mc_AD_rowInOrder mz_AD ml_AD_148 mi_AD_rowInOrder mx_AD_rowInOrder hd_AD_rowInOrder rfl ⟨by decide, by decide⟩ f_x rfl rfl hl.1 rfl (Nat.le_of_ble_eq_true rfl) d_AD_kind_19 ⟨by decide, by decide⟩) hM hS hA (fun r2 M9 H locs hr2 hM hS => ?_)
      rw [hr2.1] at hM
      replace hr2 := hr2.2
      rcases hr2 with ⟨hlt, q, e9r, hq⟩ | ⟨hno, e9r⟩
      · subst e9r
        obtain ⟨kyq, baq, f_q, -⟩ := id hq
        refine lv_astore (lv' := [(4, .ref q), (3, .ref a), (0, .ref x), (1, .int (nI j0)), (2, .int (nI k2))]) hx hb d_AD_kind_22 hl (by decide) rfl (fun ls hl => ?_)
        refine lv_aload hx hb d_AD_kind_24 (lv_at hl 0 rfl) ?_
        refine lv_ifnonnull (tgt := 33) hx hb d_AD_kind_26 (by decide) ?_
        refine lv_aload hx hb d_AD_kind_33 (lv_at hl 0 rfl) ?_
        refine hp_get S hK hM i_RW f_q rfl 0 (by decide) mf_AD_151 (fun _ h9 => h9) rfl d_AD_kind_35 ?_
        exact hp_iret S hret hlk rfl hM hS ⟨rfl, Or.inl ⟨j0, hj0, rfl, Or.inl ⟨k2, hlt, rfl, rfl⟩⟩⟩ d_AD_kind_38
      · subst e9r
        refine lv_astoreN (lv' := [(4, .null), (3, .ref a), (0, .ref x), (1, .int (nI j0)), (2, .int (nI k2))]) hx hb d_AD_kind_22 hl (by decide) rfl (fun ls hl => ?_)
        refine lv_aloadN hx hb d_AD_kind_24 (lv_at hl 0 rfl) ?_
        refine lv_ifnonnullN hx hb d_AD_kind_26 ?_
        refine lv_iconst (v := -1) hx hb d_AD_kind_29 (by decide) ?_
        refine lv_goto (tgt := 38) hx hb d_AD_kind_30 (by decide) ?_
        exact hp_iret S hret hlk rfl hM hS ⟨rfl, Or.inl ⟨j0, hj0, rfl, Or.inr ⟨fun j hj e => by have e2 := (nI_eq hk2 (Nat.lt_of_lt_of_le hj (Nat.le_trans cR_len (Nat.le_trans hn24a (by decide))))).mp e; omega, rfl⟩⟩⟩ d_AD_kind_38
    · refine lv_iconst (v := -1) hx hb d_AD_kind_14 (by decide) ?_
      exact hp_iret S hret hlk rfl hM hS ⟨rfl, Or.inl ⟨j0, hj0, rfl, Or.inr ⟨fun j hj e => hge (by rw [e]; exact nI_pos' (Nat.lt_of_lt_of_le hj (Nat.le_trans cR_len (Nat.le_trans hn24a (by decide))))), rfl⟩⟩⟩ d_AD_kind_15
  · subst e9r
    refine lv_astore_nN (lv' := [(3, .null), (0, .ref x), (1, .int k), (2, .int m9)]) hx hb d_AD_kind_5 rfl hl (by decide) rfl (fun ls hl => ?_)
    refine lv_aload_nN hx hb d_AD_kind_6 rfl (lv_at hl 0 rfl) ?_
    refine lv_ifnullN (tgt := 14) hx hb d_AD_kind_7 (by decide) ?_
    refine lv_iconst (v := -1) hx hb d_AD_kind_14 (by decide) ?_
    exact hp_iret S hret hlk rfl hM hS ⟨rfl, Or.inr ⟨hno0, rfl⟩⟩ d_AD_kind_15
theorem stA_small {ct : Nat → ClassId} {fz : Nat → Prop} {M : hp_M} {f : Nat → Option Nat} {Al : List (List Nat)} {rs : List RowT} (h : rsOk ct fz M f rs) : ∀ j, (stA (cR Al (rs.take j))).length ≤ 108 * j := by
  intro j
  induction j with
  | zero => simp [cR, stA]
  | succ j ih =>
    by_cases h1 : j < rs.length ∧ cnts Al (rs.getD j rw0)
    · obtain ⟨q, -, hq⟩ := h j h1.1
      have := hq.len
      rw [stA_s h1.1 h1.2]
      omega
    · rw [cR_0 (by rcases Nat.lt_or_ge j rs.length with z | z; exact Or.inr (fun y => h1 ⟨z, y⟩); exact Or.inl z)]
      omega
set_option maxHeartbeats 4000000 in
set_option maxRecDepth 100000 in
/-- a character of the STABLE TEXT -/
theorem c_AD_character (l : Launch) (D : va_G) (ct : Nat → ClassId) (Z : hp_Z) (hZ : hp_Zok Z) (M : hp_M) (sz : Nat) (fz : Nat → Prop) (x : Nat) (As : List (List RowT)) (Al : List (List Nat)) (hat : atP ct fz M x As) (hal : alP ct fz M x Al) (k m9 : Int32) : Mi l y_AD_character b_AD_character 7 (some .int) 5 102 0 0 [.ref x, .int k, .int m9] D ct Z M sz (fun r M1 => M1 = M ∧ onA As k r (fun rs r => onK (stA (cR Al rs)).length m9 r (fun j r => r = nI ((stA (cR Al rs)).getD j 0)) (-1)) (-1)) := by
  refine hp_start (by decide) (Nat.le_of_ble_eq_true rfl) (fun p e s m below meth c ls S hret hlk hnm hsz hK hM hS hA hz hl => ?_)
  have hx := S.1
  have hb := S.2.1
  have hl : lv_has ls 7 [(0, .ref x), (1, .int k), (2, .int m9)] := hl
  obtain ⟨xt, sh, ac, na, al, sc, hg, fl, f_x, f_al, hAl8, hAl⟩ := id hal
  refine lv_aload_n hx hb d_AD_character_0 rfl (lv_at hl 0 rfl) ?_
  refine lv_iload_n hx hb d_AD_character_1 rfl (lv_at hl 1 rfl) ?_
  refine hp_callq (go_V S hZ hK hM hS hA hz (c_AD_actionAt l D ct Z hZ _ _ fz x As hat k) mc_AD_actionAt mz_AD ml_AD_69 mi_AD_actionAt mx_AD_actionAt hd_AD_actionAt rfl ⟨by decide, by decide⟩ f_x rfl rfl hl.1 rfl (Nat.le_of_ble_eq_true rfl) d_AD_character_2 ⟨by decide, by decide⟩) hM hS hA (fun r1 M9 H locs hr1 hM hS => ?_)
  rw [hr1.1] at hM
  replace hr1 := hr1.2
  rcases hr1 with ⟨j0, a, hj0, ek, e9r, hac0⟩ | ⟨hno0, e9r⟩
  · subst e9r
    subst ek
    have haca := hac0
    obtain ⟨oaa, foa, f_a, f_oaa, hn24a, hrsa⟩ := id haca
    refine lv_astore_n (lv' := [(3, .ref a), (0, .ref x), (1, .int (nI j0)), (2, .int m9)]) hx hb d_AD_character_5 rfl hl (by decide) rfl (fun ls hl => ?_)
    refine lv_aload_n hx hb d_AD_character_6 rfl (lv_at hl 0 rfl) ?_
    refine lv_ifnull hx hb d_AD_character_7 ?_
    refine lv_iload_n hx hb d_AD_character_10 rfl (lv_at hl 3 rfl) ?_
    refine lv_if_ge (tgt := 16) hx hb d_AD_character_11 (by decide) (fun hge => ?_) (fun hge => ?_)
    · obtain ⟨k2, hk2, ek2⟩ : ∃ j : Nat, j < 2 ^ 31 ∧ m9 = nI j := nI_of (Int32.not_lt.mpr hge)
      subst ek2
      have hsm : (stA (cR Al (As.getD j0 []))).length ≤ 2592 := by have h := stA_small (Al := Al) hrsa 24; rw [List.take_of_length_le hn24a] at h; exact h
      refine lv_iload_n hx hb d_AD_character_16 rfl (lv_at hl 3 rfl) ?_
      refine lv_istore (lv' := [(4, .int (nI k2)), (3, .ref a), (0, .ref x), (1, .int (nI j0)), (2, .int (nI k2))]) hx hb d_AD_character_17 hl (by decide) rfl (fun ls hl => ?_)
      refine lv_iconst (v := nI 0) hx hb d_AD_character_19 rfl ?_
      refine lv_istore (lv' := [(5, .int (nI 0)), (4, .int (nI k2)), (3, .ref a), (0, .ref x), (1, .int (nI j0)), (2, .int (nI k2))]) hx hb d_AD_character_20 hl (by decide) rfl (fun ls hl => ?_)
      replace hl : lv_has ls 7 [(0, .ref x), (2, .int (nI k2)), (3, .ref a), (4, .int (nI k2)), (5, .int (nI 0))] := lv_sub hl [3, 5, 2, 1, 0] rfl
      obtain ⟨j, e9j⟩ : ∃ z : Nat, z = 0 := ⟨_, rfl⟩
      obtain ⟨lf, e9lf⟩ : ∃ z : Nat, z = k2 := ⟨_, rfl⟩
      replace hl : lv_has ls 7 [(0, .ref x), (2, .int (nI k2)), (3, .ref a), (4, .int (nI lf)), (5, .int (nI j))] := by subst e9j e9lf; exact hl
      have hc : k2 = lf + (stA (cR Al ((As.getD j0 []).take j))).length := by subst e9j e9lf; simp [cR, stA]
      have hlf : lf < 2 ^ 31 := by subst e9j e9lf; exact hk2
      obtain ⟨fu, hn⟩ : ∃ fu : Nat, j + fu = 24 := ⟨24 - j, by omega⟩
      clear e9j e9lf
      induction fu generalizing j lf H locs ls with
      | zero =>
        have hn : j = 24 := by omega
        rw [hn, List.take_of_length_le hn24a] at hc
        refine lv_iload hx hb d_AD_character_22 (lv_at hl 4 rfl) ?_
        refine lv_bipush (v := nI 24) hx hb d_AD_character_24 rfl ?_
        refine nb_ge (tgt := 77) hx hb d_AD_character_26 (by decide) (by omega) (by omega) (fun h2 => ?_) (fun h2 => ?_)
        · refine lv_iconst (v := -1) hx hb d_AD_character_77 (by decide) ?_
          exact hp_iret S hret hlk (rfl) hM hS (⟨rfl, Or.inl ⟨j0, hj0, rfl, Or.inr ⟨fun j hj e => by have e2 := (nI_eq hk2 (by omega)).mp e; omega, rfl⟩⟩⟩) d_AD_character_78
        · exact absurd hn (by omega)
      | succ fu ih =>
        refine lv_iload hx hb d_AD_character_22 (lv_at hl 4 rfl) ?_
        refine lv_bipush (v := nI 24) hx hb d_AD_character_24 rfl ?_
        refine nb_ge (tgt := 77) hx hb d_AD_character_26 (by decide) (by omega) (by omega) (fun h3 => ?_) (fun h3 => ?_)
        · exact absurd hn (by omega)
        · refine lv_aload_n hx hb d_AD_character_29 rfl (lv_at hl 0 rfl) ?_
          refine lv_aload_n hx hb d_AD_character_30 rfl (lv_at hl 2 rfl) ?_
          refine lv_iload hx hb d_AD_character_31 (lv_at hl 4 rfl) ?_
          refine hp_callq (go_V S hZ hK hM hS hA hz (c_AD_countingRowAt l D ct Z hZ _ _ fz x Al hal a (As.getD j0 []) haca j (by omega)) mc_AD_countingRowAt mz_AD ml_AD_144 mi_AD_countingRowAt mx_AD_countingRowAt hd_AD_countingRowAt rfl ⟨by decide, by decide⟩ f_x rfl rfl hl.1 rfl (Nat.le_of_ble_eq_true rfl) d_AD_character_33 ⟨by decide, by decide⟩) hM hS hA (fun r4 M9 H locs hr4 hM hS => ?_)
          rw [hr4.1] at hM
          replace hr4 := hr4.2
          rcases hr4 with ⟨hlt, hcn, q, e9r, hq⟩ | ⟨hno, e9r⟩
          · subst e9r
            refine lv_astore (lv' := [(6, .ref q), (0, .ref x), (2, .int (nI k2)), (3, .ref a), (4, .int (nI lf)), (5, .int (nI j))]) hx hb d_AD_character_36 hl (by decide) rfl (fun ls hl => ?_)
            refine lv_aload hx hb d_AD_character_38 (lv_at hl 0 rfl) ?_
            refine lv_ifnull hx hb d_AD_character_40 ?_
            refine lv_iload hx hb d_AD_character_43 (lv_at hl 4 rfl) ?_
            refine lv_aload hx hb d_AD_character_45 (lv_at hl 0 rfl) ?_
            obtain ⟨kyq, baq, f_q, -⟩ := id hq
            have hsl := hq.len
            refine hp_calli (go_V S hZ hK hM hS hA hz (c_RW_stableLength l D ct Z hZ _ _ fz q ((As.getD j0 []).getD j rw0) hq) mc_RW_stableLength mz_RW ml_AD_154 mi_RW_stableLength mx_RW_stableLength hd_RW_stableLength rfl ⟨by decide, by decide⟩ f_q rfl rfl hl.1 rfl (Nat.le_of_ble_eq_true rfl) d_AD_character_47 ⟨by decide, by decide⟩) hM hS hA (fun r5 N6 H locs hr5 hM hS => ?_)
            rw [hr5.1] at hM
            replace hr5 := hr5.2
            subst hr5
            refine nb_ge (tgt := 61) hx hb d_AD_character_50 (by decide) (by omega) (by omega) (fun hin => ?_) (fun hin => ?_)
            · refine lv_iload hx hb d_AD_character_61 (lv_at hl 4 rfl) ?_
              refine lv_aload hx hb d_AD_character_63 (lv_at hl 0 rfl) ?_
              refine hp_calli (go_V S hZ hK hM hS hA hz (c_RW_stableLength l D ct Z hZ _ _ fz q ((As.getD j0 []).getD j rw0) hq) mc_RW_stableLength mz_RW ml_AD_154 mi_RW_stableLength mx_RW_stableLength hd_RW_stableLength rfl ⟨by decide, by decide⟩ f_q rfl rfl hl.1 rfl (Nat.le_of_ble_eq_true rfl) d_AD_character_65 ⟨by decide, by decide⟩) hM hS hA (fun r7 N8 H locs hr7 hM hS => ?_)
              rw [hr7.1] at hM
              replace hr7 := hr7.2
              subst hr7
              refine nb_isub hx hb d_AD_character_68 (by omega) ?_
              refine lv_istore (lv' := [(4, .int (nI (lf - ((stT ((As.getD j0 []).getD j rw0)).length)))), (6, .ref q), (0, .ref x), (2, .int (nI k2)), (3, .ref a), (5, .int (nI j))]) hx hb d_AD_character_69 hl (by decide) rfl (fun ls hl => ?_)
              refine lv_iinc (v := nI (j + 1)) (lv' := [(5, .int (nI (j + 1))), (4, .int (nI (lf - ((stT ((As.getD j0 []).getD j rw0)).length)))), (6, .ref q), (0, .ref x), (2, .int (nI k2)), (3, .ref a)]) hx hb d_AD_character_71 hl (k := 5) rfl (nI_add j 1) (by decide) rfl (fun ls hl => ?_)
              refine lv_goto (tgt := 22) hx hb d_AD_character_74 (by decide) ?_
              exact ih (ls := ls) (hl := lv_sub hl [3, 4, 5, 1, 0] rfl) (j := j + 1) (hn := by omega) (lf := lf - ((stT ((As.getD j0 []).getD j rw0)).length)) (hc := by rw [stA_s hlt hcn]; omega) (hlf := by omega) (H := H) (locs := locs) (hM := hM) (hS := hS)
            · refine lv_aload hx hb d_AD_character_53 (lv_at hl 0 rfl) ?_
              refine lv_iload hx hb d_AD_character_55 (lv_at hl 4 rfl) ?_
              refine hp_calli (go_V S hZ hK hM hS hA hz (c_RW_stableCharacter l D ct Z hZ _ _ fz q ((As.getD j0 []).getD j rw0) hq lf hin) mc_RW_stableCharacter mz_RW ml_AD_158 mi_RW_stableCharacter mx_RW_stableCharacter hd_RW_stableCharacter rfl ⟨by decide, by decide⟩ f_q rfl rfl hl.1 rfl (Nat.le_of_ble_eq_true rfl) d_AD_character_57 ⟨by decide, by decide⟩) hM hS hA (fun r9 N10 H locs hr9 hM hS => ?_)
              rw [hr9.1] at hM
              replace hr9 := hr9.2
              subst hr9
              exact hp_iret S hret hlk (rfl) hM hS (⟨rfl, Or.inl ⟨j0, hj0, rfl, Or.inl ⟨k2, (stA_at hlt hcn hc hin).1, rfl, congrArg nI (stA_at hlt hcn hc hin).2.symm⟩⟩⟩) d_AD_character_60
          · subst e9r
            refine lv_astoreN (lv' := [(6, .null), (0, .ref x), (2, .int (nI k2)), (3, .ref a), (4, .int (nI lf)), (5, .int (nI j))]) hx hb d_AD_character_36 hl (by decide) rfl (fun ls hl => ?_)
            refine lv_aloadN hx hb d_AD_character_38 (lv_at hl 0 rfl) ?_
            refine lv_ifnullN (tgt := 71) hx hb d_AD_character_40 (by decide) ?_
            refine lv_iinc (v := nI (j + 1)) (lv' := [(5, .int (nI (j + 1))), (6, .null), (0, .ref x), (2, .int (nI k2)), (3, .ref a), (4, .int (nI lf))]) hx hb d_AD_character_71 hl (k := 5) rfl (nI_add j 1) (by decide) rfl (fun ls hl => ?_)
            refine lv_goto (tgt := 22) hx hb d_AD_character_74 (by decide) ?_
            exact ih (ls := ls) (hl := lv_sub hl [2, 3, 4, 5, 0] rfl) (j := j + 1) (hn := by omega) (lf := lf) (hc := by rw [cR_0 hno]; exact hc) (hlf := hlf) (H := H) (locs := locs) (hM := hM) (hS := hS)
    · refine lv_iconst (v := -1) hx hb d_AD_character_14 (by decide) ?_
      exact hp_iret S hret hlk rfl hM hS ⟨rfl, Or.inl ⟨j0, hj0, rfl, Or.inr ⟨fun j hj e => hge (by rw [e]; exact nI_pos' (by have h := stA_small (Al := Al) hrsa 24; rw [List.take_of_length_le hn24a] at h; omega)), rfl⟩⟩⟩ d_AD_character_15
  · subst e9r
    refine lv_astore_nN (lv' := [(3, .null), (0, .ref x), (1, .int k), (2, .int m9)]) hx hb d_AD_character_5 rfl hl (by decide) rfl (fun ls hl => ?_)
    refine lv_aload_nN hx hb d_AD_character_6 rfl (lv_at hl 0 rfl) ?_
    refine lv_ifnullN (tgt := 14) hx hb d_AD_character_7 (by decide) ?_
    refine lv_iconst (v := -1) hx hb d_AD_character_14 (by decide) ?_
    exact hp_iret S hret hlk rfl hM hS ⟨rfl, Or.inr ⟨hno0, rfl⟩⟩ d_AD_character_15
end
section
theorem d_AD_feedRow_0 : decode b_AD_feedRow 0 = .ok (.aload_n 1, 1) := by decide +kernel
theorem d_AD_feedRow_1 : decode b_AD_feedRow 1 = .ok (.invokevirtual 154, 3) := by decide +kernel
theorem d_AD_feedRow_4 : decode b_AD_feedRow 4 = .ok (.istore_n 2, 1) := by decide +kernel
theorem d_AD_feedRow_5 : decode b_AD_feedRow 5 = .ok (.iconst 0, 1) := by decide +kernel
theorem d_AD_feedRow_6 : decode b_AD_feedRow 6 = .ok (.istore_n 3, 1) := by decide +kernel
theorem d_AD_feedRow_7 : decode b_AD_feedRow 7 = .ok (.iload_n 3, 1) := by decide +kernel
theorem d_AD_feedRow_8 : decode b_AD_feedRow 8 = .ok (.iload_n 2, 1) := by decide +kernel
theorem d_AD_feedRow_9 : decode b_AD_feedRow 9 = .ok (.if_icmp .ge 21, 3) := by decide +kernel
theorem d_AD_feedRow_12 : decode b_AD_feedRow 12 = .ok (.aload_n 0, 1) := by decide +kernel
theorem d_AD_feedRow_13 : decode b_AD_feedRow 13 = .ok (.getfield 19, 3) := by decide +kernel
theorem d_AD_feedRow_16 : decode b_AD_feedRow 16 = .ok (.aload_n 1, 1) := by decide +kernel
theorem d_AD_feedRow_17 : decode b_AD_feedRow 17 = .ok (.iload_n 3, 1) := by decide +kernel
theorem d_AD_feedRow_18 : decode b_AD_feedRow 18 = .ok (.invokevirtual 158, 3) := by decide +kernel
theorem d_AD_feedRow_21 : decode b_AD_feedRow 21 = .ok (.invokevirtual 205, 3) := by decide +kernel
theorem d_AD_feedRow_24 : decode b_AD_feedRow 24 = .ok (.iinc 3 1, 3) := by decide +kernel
theorem d_AD_feedRow_27 : decode b_AD_feedRow 27 = .ok (.goto (-20), 3) := by decide +kernel
theorem d_AD_feedRow_30 : decode b_AD_feedRow 30 = .ok (.return_, 1) := by decide +kernel
theorem d_AD_digest_0 : decode b_AD_digest 0 = .ok (.aload_n 0, 1) := by decide +kernel
theorem d_AD_digest_1 : decode b_AD_digest 1 = .ok (.iload_n 1, 1) := by decide +kernel
theorem d_AD_digest_2 : decode b_AD_digest 2 = .ok (.invokevirtual 69, 3) := by decide +kernel
theorem d_AD_digest_5 : decode b_AD_digest 5 = .ok (.astore_n 3, 1) := by decide +kernel
theorem d_AD_digest_6 : decode b_AD_digest 6 = .ok (.aload_n 3, 1) := by decide +kernel
theorem d_AD_digest_7 : decode b_AD_digest 7 = .ok (.ifnull 13, 3) := by decide +kernel
theorem d_AD_digest_10 : decode b_AD_digest 10 = .ok (.iload_n 2, 1) := by decide +kernel
theorem d_AD_digest_11 : decode b_AD_digest 11 = .ok (.ifCond .lt 9, 3) := by decide +kernel
theorem d_AD_digest_14 : decode b_AD_digest 14 = .ok (.iload_n 2, 1) := by decide +kernel
theorem d_AD_digest_15 : decode b_AD_digest 15 = .ok (.bipush 8, 2) := by decide +kernel
theorem d_AD_digest_17 : decode b_AD_digest 17 = .ok (.if_icmp .lt 5, 3) := by decide +kernel
theorem d_AD_digest_20 : decode b_AD_digest 20 = .ok (.iconst 0, 1) := by decide +kernel
theorem d_AD_digest_21 : decode b_AD_digest 21 = .ok (.ireturn, 1) := by decide +kernel
theorem d_AD_digest_22 : decode b_AD_digest 22 = .ok (.aload_n 0, 1) := by decide +kernel
theorem d_AD_digest_23 : decode b_AD_digest 23 = .ok (.getfield 19, 3) := by decide +kernel
theorem d_AD_digest_26 : decode b_AD_digest 26 = .ok (.invokevirtual 162, 3) := by decide +kernel
theorem d_AD_digest_29 : decode b_AD_digest 29 = .ok (.aload_n 0, 1) := by decide +kernel
theorem d_AD_digest_30 : decode b_AD_digest 30 = .ok (.getfield 19, 3) := by decide +kernel
theorem d_AD_digest_33 : decode b_AD_digest 33 = .ok (.aload_n 0, 1) := by decide +kernel
theorem d_AD_digest_34 : decode b_AD_digest 34 = .ok (.getfield 42, 3) := by decide +kernel
theorem d_AD_digest_37 : decode b_AD_digest 37 = .ok (.invokevirtual 165, 3) := by decide +kernel
theorem d_AD_digest_40 : decode b_AD_digest 40 = .ok (.iconst 0, 1) := by decide +kernel
theorem d_AD_digest_41 : decode b_AD_digest 41 = .ok (.istore 4, 2) := by decide +kernel
theorem d_AD_digest_43 : decode b_AD_digest 43 = .ok (.iload 4, 2) := by decide +kernel
theorem d_AD_digest_45 : decode b_AD_digest 45 = .ok (.bipush 24, 2) := by decide +kernel
theorem d_AD_digest_47 : decode b_AD_digest 47 = .ok (.if_icmp .ge 29, 3) := by decide +kernel
theorem d_AD_digest_50 : decode b_AD_digest 50 = .ok (.aload_n 0, 1) := by decide +kernel
theorem d_AD_digest_51 : decode b_AD_digest 51 = .ok (.aload_n 3, 1) := by decide +kernel
theorem d_AD_digest_52 : decode b_AD_digest 52 = .ok (.iload 4, 2) := by decide +kernel
theorem d_AD_digest_54 : decode b_AD_digest 54 = .ok (.invokevirtual 144, 3) := by decide +kernel
theorem d_AD_digest_57 : decode b_AD_digest 57 = .ok (.astore 5, 2) := by decide +kernel
theorem d_AD_digest_59 : decode b_AD_digest 59 = .ok (.aload 5, 2) := by decide +kernel
theorem d_AD_digest_61 : decode b_AD_digest 61 = .ok (.ifnull 9, 3) := by decide +kernel
theorem d_AD_digest_64 : decode b_AD_digest 64 = .ok (.aload_n 0, 1) := by decide +kernel
theorem d_AD_digest_65 : decode b_AD_digest 65 = .ok (.aload 5, 2) := by decide +kernel
theorem d_AD_digest_67 : decode b_AD_digest 67 = .ok (.invokevirtual 168, 3) := by decide +kernel
theorem d_AD_digest_70 : decode b_AD_digest 70 = .ok (.iinc 4 1, 3) := by decide +kernel
theorem d_AD_digest_73 : decode b_AD_digest 73 = .ok (.goto (-30), 3) := by decide +kernel
theorem d_AD_digest_76 : decode b_AD_digest 76 = .ok (.aload_n 0, 1) := by decide +kernel
theorem d_AD_digest_77 : decode b_AD_digest 77 = .ok (.getfield 19, 3) := by decide +kernel
theorem d_AD_digest_80 : decode b_AD_digest 80 = .ok (.invokevirtual 171, 3) := by decide +kernel
theorem d_AD_digest_83 : decode b_AD_digest 83 = .ok (.aload_n 0, 1) := by decide +kernel
theorem d_AD_digest_84 : decode b_AD_digest 84 = .ok (.getfield 19, 3) := by decide +kernel
theorem d_AD_digest_87 : decode b_AD_digest 87 = .ok (.getfield 174, 3) := by decide +kernel
theorem d_AD_digest_90 : decode b_AD_digest 90 = .ok (.iload_n 2, 1) := by decide +kernel
theorem d_AD_digest_91 : decode b_AD_digest 91 = .ok (.iaload, 1) := by decide +kernel
theorem d_AD_digest_92 : decode b_AD_digest 92 = .ok (.ireturn, 1) := by decide +kernel
theorem d_AD_holdContent_0 : decode b_AD_holdContent 0 = .ok (.aload_n 0, 1) := by decide +kernel
theorem d_AD_holdContent_1 : decode b_AD_holdContent 1 = .ok (.getfield 19, 3) := by decide +kernel
theorem d_AD_holdContent_4 : decode b_AD_holdContent 4 = .ok (.invokevirtual 162, 3) := by decide +kernel
theorem d_AD_holdContent_7 : decode b_AD_holdContent 7 = .ok (.aload_n 0, 1) := by decide +kernel
theorem d_AD_holdContent_8 : decode b_AD_holdContent 8 = .ok (.getfield 19, 3) := by decide +kernel
theorem d_AD_holdContent_11 : decode b_AD_holdContent 11 = .ok (.aload_n 1, 1) := by decide +kernel
theorem d_AD_holdContent_12 : decode b_AD_holdContent 12 = .ok (.invokevirtual 165, 3) := by decide +kernel
theorem d_AD_holdContent_15 : decode b_AD_holdContent 15 = .ok (.aload_n 0, 1) := by decide +kernel
theorem d_AD_holdContent_16 : decode b_AD_holdContent 16 = .ok (.getfield 19, 3) := by decide +kernel
theorem d_AD_holdContent_19 : decode b_AD_holdContent 19 = .ok (.invokevirtual 171, 3) := by decide +kernel
theorem d_AD_holdContent_22 : decode b_AD_holdContent 22 = .ok (.aload_n 0, 1) := by decide +kernel
theorem d_AD_holdContent_23 : decode b_AD_holdContent 23 = .ok (.getfield 19, 3) := by decide +kernel
theorem d_AD_holdContent_26 : decode b_AD_holdContent 26 = .ok (.aload_n 0, 1) := by decide +kernel
theorem d_AD_holdContent_27 : decode b_AD_holdContent 27 = .ok (.getfield 46, 3) := by decide +kernel
theorem d_AD_holdContent_30 : decode b_AD_holdContent 30 = .ok (.invokevirtual 187, 3) := by decide +kernel
theorem d_AD_holdContent_33 : decode b_AD_holdContent 33 = .ok (.return_, 1) := by decide +kernel
theorem d_AD_bodyOf_0 : decode b_AD_bodyOf 0 = .ok (.iload_n 2, 1) := by decide +kernel
theorem d_AD_bodyOf_1 : decode b_AD_bodyOf 1 = .ok (.iconst 1, 1) := by decide +kernel
theorem d_AD_bodyOf_2 : decode b_AD_bodyOf 2 = .ok (.if_icmp .eq 10, 3) := by decide +kernel
theorem d_AD_bodyOf_5 : decode b_AD_bodyOf 5 = .ok (.iload_n 2, 1) := by decide +kernel
theorem d_AD_bodyOf_6 : decode b_AD_bodyOf 6 = .ok (.iconst 3, 1) := by decide +kernel
theorem d_AD_bodyOf_7 : decode b_AD_bodyOf 7 = .ok (.if_icmp .eq 5, 3) := by decide +kernel
theorem d_AD_bodyOf_10 : decode b_AD_bodyOf 10 = .ok (.aload_n 1, 1) := by decide +kernel
theorem d_AD_bodyOf_11 : decode b_AD_bodyOf 11 = .ok (.areturn, 1) := by decide +kernel
theorem d_AD_bodyOf_12 : decode b_AD_bodyOf 12 = .ok (.aload_n 1, 1) := by decide +kernel
theorem d_AD_bodyOf_13 : decode b_AD_bodyOf 13 = .ok (.arraylength, 1) := by decide +kernel
theorem d_AD_bodyOf_14 : decode b_AD_bodyOf 14 = .ok (.iconst 1, 1) := by decide +kernel
theorem d_AD_bodyOf_15 : decode b_AD_bodyOf 15 = .ok (.iadd, 1) := by decide +kernel
theorem d_AD_bodyOf_16 : decode b_AD_bodyOf 16 = .ok (.bipush 64, 2) := by decide +kernel
theorem d_AD_bodyOf_18 : decode b_AD_bodyOf 18 = .ok (.iadd, 1) := by decide +kernel
theorem d_AD_bodyOf_19 : decode b_AD_bodyOf 19 = .ok (.newarray .char, 2) := by decide +kernel
theorem d_AD_bodyOf_21 : decode b_AD_bodyOf 21 = .ok (.astore_n 3, 1) := by decide +kernel
theorem d_AD_bodyOf_22 : decode b_AD_bodyOf 22 = .ok (.iconst 0, 1) := by decide +kernel
theorem d_AD_bodyOf_23 : decode b_AD_bodyOf 23 = .ok (.istore 4, 2) := by decide +kernel
theorem d_AD_bodyOf_25 : decode b_AD_bodyOf 25 = .ok (.iload 4, 2) := by decide +kernel
theorem d_AD_bodyOf_27 : decode b_AD_bodyOf 27 = .ok (.aload_n 1, 1) := by decide +kernel
theorem d_AD_bodyOf_28 : decode b_AD_bodyOf 28 = .ok (.arraylength, 1) := by decide +kernel
theorem d_AD_bodyOf_29 : decode b_AD_bodyOf 29 = .ok (.if_icmp .ge 17, 3) := by decide +kernel
theorem d_AD_bodyOf_32 : decode b_AD_bodyOf 32 = .ok (.aload_n 3, 1) := by decide +kernel
theorem d_AD_bodyOf_33 : decode b_AD_bodyOf 33 = .ok (.iload 4, 2) := by decide +kernel
theorem d_AD_bodyOf_35 : decode b_AD_bodyOf 35 = .ok (.aload_n 1, 1) := by decide +kernel
theorem d_AD_bodyOf_36 : decode b_AD_bodyOf 36 = .ok (.iload 4, 2) := by decide +kernel
theorem d_AD_bodyOf_38 : decode b_AD_bodyOf 38 = .ok (.caload, 1) := by decide +kernel
theorem d_AD_bodyOf_39 : decode b_AD_bodyOf 39 = .ok (.castore, 1) := by decide +kernel
theorem d_AD_bodyOf_40 : decode b_AD_bodyOf 40 = .ok (.iinc 4 1, 3) := by decide +kernel
theorem d_AD_bodyOf_43 : decode b_AD_bodyOf 43 = .ok (.goto (-18), 3) := by decide +kernel
theorem d_AD_bodyOf_46 : decode b_AD_bodyOf 46 = .ok (.iconst 0, 1) := by decide +kernel
theorem d_AD_bodyOf_47 : decode b_AD_bodyOf 47 = .ok (.istore 4, 2) := by decide +kernel
theorem d_AD_bodyOf_49 : decode b_AD_bodyOf 49 = .ok (.iload 4, 2) := by decide +kernel
theorem d_AD_bodyOf_51 : decode b_AD_bodyOf 51 = .ok (.bipush 64, 2) := by decide +kernel
theorem d_AD_bodyOf_53 : decode b_AD_bodyOf 53 = .ok (.if_icmp .ge 25, 3) := by decide +kernel
theorem d_AD_bodyOf_56 : decode b_AD_bodyOf 56 = .ok (.aload_n 3, 1) := by decide +kernel
theorem d_AD_bodyOf_57 : decode b_AD_bodyOf 57 = .ok (.aload_n 1, 1) := by decide +kernel
theorem d_AD_bodyOf_58 : decode b_AD_bodyOf 58 = .ok (.arraylength, 1) := by decide +kernel
theorem d_AD_bodyOf_59 : decode b_AD_bodyOf 59 = .ok (.iconst 1, 1) := by decide +kernel
theorem d_AD_bodyOf_60 : decode b_AD_bodyOf 60 = .ok (.iadd, 1) := by decide +kernel
theorem d_AD_bodyOf_61 : decode b_AD_bodyOf 61 = .ok (.iload 4, 2) := by decide +kernel
theorem d_AD_bodyOf_63 : decode b_AD_bodyOf 63 = .ok (.iadd, 1) := by decide +kernel
theorem d_AD_bodyOf_64 : decode b_AD_bodyOf 64 = .ok (.aload_n 0, 1) := by decide +kernel
theorem d_AD_bodyOf_65 : decode b_AD_bodyOf 65 = .ok (.getfield 46, 3) := by decide +kernel
theorem d_AD_bodyOf_68 : decode b_AD_bodyOf 68 = .ok (.iload 4, 2) := by decide +kernel
theorem d_AD_bodyOf_70 : decode b_AD_bodyOf 70 = .ok (.caload, 1) := by decide +kernel
theorem d_AD_bodyOf_71 : decode b_AD_bodyOf 71 = .ok (.castore, 1) := by decide +kernel
theorem d_AD_bodyOf_72 : decode b_AD_bodyOf 72 = .ok (.iinc 4 1, 3) := by decide +kernel
theorem d_AD_bodyOf_75 : decode b_AD_bodyOf 75 = .ok (.goto (-26), 3) := by decide +kernel
theorem d_AD_bodyOf_78 : decode b_AD_bodyOf 78 = .ok (.aload_n 3, 1) := by decide +kernel
theorem d_AD_bodyOf_79 : decode b_AD_bodyOf 79 = .ok (.areturn, 1) := by decide +kernel
theorem d_AD_editionDigits_0 : decode b_AD_editionDigits 0 = .ok (.bipush 8, 2) := by decide +kernel
theorem d_AD_editionDigits_2 : decode b_AD_editionDigits 2 = .ok (.newarray .char, 2) := by decide +kernel
theorem d_AD_editionDigits_4 : decode b_AD_editionDigits 4 = .ok (.astore_n 1, 1) := by decide +kernel
theorem d_AD_editionDigits_5 : decode b_AD_editionDigits 5 = .ok (.iload_n 0, 1) := by decide +kernel
theorem d_AD_editionDigits_6 : decode b_AD_editionDigits 6 = .ok (.istore_n 2, 1) := by decide +kernel
theorem d_AD_editionDigits_7 : decode b_AD_editionDigits 7 = .ok (.bipush 7, 2) := by decide +kernel
theorem d_AD_editionDigits_9 : decode b_AD_editionDigits 9 = .ok (.istore_n 3, 1) := by decide +kernel
theorem d_AD_editionDigits_10 : decode b_AD_editionDigits 10 = .ok (.iload_n 3, 1) := by decide +kernel
theorem d_AD_editionDigits_11 : decode b_AD_editionDigits 11 = .ok (.ifCond .lt 25, 3) := by decide +kernel
theorem d_AD_editionDigits_14 : decode b_AD_editionDigits 14 = .ok (.aload_n 1, 1) := by decide +kernel
theorem d_AD_editionDigits_15 : decode b_AD_editionDigits 15 = .ok (.iload_n 3, 1) := by decide +kernel
theorem d_AD_editionDigits_16 : decode b_AD_editionDigits 16 = .ok (.bipush 48, 2) := by decide +kernel
theorem d_AD_editionDigits_18 : decode b_AD_editionDigits 18 = .ok (.iload_n 2, 1) := by decide +kernel
theorem d_AD_editionDigits_19 : decode b_AD_editionDigits 19 = .ok (.bipush 10, 2) := by decide +kernel
theorem d_AD_editionDigits_21 : decode b_AD_editionDigits 21 = .ok (.irem, 1) := by decide +kernel
theorem d_AD_editionDigits_22 : decode b_AD_editionDigits 22 = .ok (.iadd, 1) := by decide +kernel
theorem d_AD_editionDigits_23 : decode b_AD_editionDigits 23 = .ok (.i2c, 1) := by decide +kernel
theorem d_AD_editionDigits_24 : decode b_AD_editionDigits 24 = .ok (.castore, 1) := by decide +kernel
theorem d_AD_editionDigits_25 : decode b_AD_editionDigits 25 = .ok (.iload_n 2, 1) := by decide +kernel
theorem d_AD_editionDigits_26 : decode b_AD_editionDigits 26 = .ok (.bipush 10, 2) := by decide +kernel
theorem d_AD_editionDigits_28 : decode b_AD_editionDigits 28 = .ok (.idiv, 1) := by decide +kernel
theorem d_AD_editionDigits_29 : decode b_AD_editionDigits 29 = .ok (.istore_n 2, 1) := by decide +kernel
theorem d_AD_editionDigits_30 : decode b_AD_editionDigits 30 = .ok (.iinc 3 (-1), 3) := by decide +kernel
theorem d_AD_editionDigits_33 : decode b_AD_editionDigits 33 = .ok (.goto (-23), 3) := by decide +kernel
theorem d_AD_editionDigits_36 : decode b_AD_editionDigits 36 = .ok (.aload_n 1, 1) := by decide +kernel
theorem d_AD_editionDigits_37 : decode b_AD_editionDigits 37 = .ok (.areturn, 1) := by decide +kernel
set_option maxHeartbeats 4000000 in
set_option maxRecDepth 100000 in
/-- the first place in which two actions differ -/
theorem c_AD_differ (l : Launch) (D : va_G) (ct : Nat → ClassId) (Z : hp_Z) (hZ : hp_Zok Z) (M : hp_M) (sz : Nat) (fz : Nat → Prop) (x : Nat) (As : List (List RowT)) (Al : List (List Nat)) (hat : atP ct fz M x As) (hal : alP ct fz M x Al) (k k3 : Int32) : Mi l y_AD_differ b_AD_differ 8 (some .int) 6 127 0 0 [.ref x, .int k, .int k3] D ct Z M sz (fun r M1 => M1 = M ∧ ((∃ j j3, j < As.length ∧ j3 < As.length ∧ k = nI j ∧ k3 = nI j3 ∧ dif (cR Al (As.getD j [])) (cR Al (As.getD j3 [])) r) ∨ (((∀ j, j < As.length → k ≠ nI j) ∨ (∀ j, j < As.length → k3 ≠ nI j)) ∧ r = -1))) := by
  refine hp_start (by decide) (Nat.le_of_ble_eq_true rfl) (fun p e s m below meth c ls S hret hlk hnm hsz hK hM hS hA hz hl => ?_)
  have hx := S.1
  have hb := S.2.1
  have hl : lv_has ls 8 [(0, .ref x), (1, .int k), (2, .int k3)] := hl
  obtain ⟨xt, sh, ac, na, al, sc, hg, fl, f_x, f_al, hAl8, hAl⟩ := id hal
  refine lv_aload_n hx hb d_AD_differ_0 rfl (lv_at hl 0 rfl) ?_
  refine lv_iload_n hx hb d_AD_differ_1 rfl (lv_at hl 1 rfl) ?_
  refine hp_callq (go_V S hZ hK hM hS hA hz (c_AD_actionAt l D ct Z hZ _ _ fz x As hat k) mc_AD_actionAt mz_AD ml_AD_69 mi_AD_actionAt mx_AD_actionAt hd_AD_actionAt rfl ⟨by decide, by decide⟩ f_x rfl rfl hl.1 rfl (Nat.le_of_ble_eq_true rfl) d_AD_differ_2 ⟨by decide, by decide⟩) hM hS hA (fun r1 M9 H locs hr1 hM hS => ?_)
  rw [hr1.1] at hM
  replace hr1 := hr1.2
  rcases hr1 with ⟨j0, a, hj0, ek, e9r, hac0⟩ | ⟨hno0, e9r⟩
  · subst e9r
    subst ek
    have haca := hac0
    obtain ⟨oaa, foa, f_a, f_oaa, hn24a, hrsa⟩ := id haca
    refine lv_astore_n (lv' := [(3, .ref a), (0, .ref x), (1, .int (nI j0)), (2, .int k3)]) hx hb d_AD_differ_5 rfl hl (by decide) rfl (fun ls hl => ?_)
    refine lv_aload_n hx hb d_AD_differ_6 rfl (lv_at hl 1 rfl) ?_
    refine lv_iload_n hx hb d_AD_differ_7 rfl (lv_at hl 3 rfl) ?_
    refine hp_callq (go_V S hZ hK hM hS hA hz (c_AD_actionAt l D ct Z hZ _ _ fz x As hat k3) mc_AD_actionAt mz_AD ml_AD_69 mi_AD_actionAt mx_AD_actionAt hd_AD_actionAt rfl ⟨by decide, by decide⟩ f_x rfl rfl hl.1 rfl (Nat.le_of_ble_eq_true rfl) d_AD_differ_8 ⟨by decide, by decide⟩) hM hS hA (fun r2 M9 H locs hr2 hM hS => ?_)
    rw [hr2.1] at hM
    replace hr2 := hr2.2
    rcases hr2 with ⟨j3, a3, hj3, ek3, e9r, hac3⟩ | ⟨hno3, e9r⟩
    · subst e9r
      subst ek3
      have haca3 := hac3
      obtain ⟨oaa3, foa3, f_a3, f_oaa3, hn24a3, hrsa3⟩ := id haca3
      refine lv_astore (lv' := [(4, .ref a3), (3, .ref a), (0, .ref x), (1, .int (nI j0)), (2, .int (nI j3))]) hx hb d_AD_differ_11 hl (by decide) rfl (fun ls hl => ?_)
      refine lv_aload_n hx hb d_AD_differ_13 rfl (lv_at hl 1 rfl) ?_
      refine lv_ifnull hx hb d_AD_differ_14 ?_
      refine lv_aload hx hb d_AD_differ_17 (lv_at hl 0 rfl) ?_
      refine lv_ifnonnull (tgt := 24) hx hb d_AD_differ_19 (by decide) ?_
      refine lv_iconst (v := nI 0) hx hb d_AD_differ_24 rfl ?_
      refine lv_istore (lv' := [(5, .int (nI 0)), (4, .ref a3), (3, .ref a), (0, .ref x), (1, .int (nI j0)), (2, .int (nI j3))]) hx hb d_AD_differ_25 hl (by decide) rfl (fun ls hl => ?_)
      have hla := Nat.le_trans (cR_len (Al := Al)) hn24a
      have hla3 := Nat.le_trans (cR_len (Al := Al)) hn24a3
      replace hl : lv_has ls 8 [(0, .ref x), (3, .ref a), (4, .ref a3), (5, .int (nI 0))] := lv_sub hl [3, 2, 1, 0] rfl
      obtain ⟨j, e9j⟩ : ∃ z : Nat, z = 0 := ⟨_, rfl⟩
      replace hl : lv_has ls 8 [(0, .ref x), (3, .ref a), (4, .ref a3), (5, .int (nI j))] := by subst e9j; exact hl
      have hinv : ∀ i, i < j → i < (cR Al (As.getD j0 [])).length ∧ i < (cR Al (As.getD j3 [])).length ∧ like ((cR Al (As.getD j0 [])).getD i rw0) ((cR Al (As.getD j3 [])).getD i rw0) := by subst e9j; intro i hi; omega
      obtain ⟨fu, hn⟩ : ∃ fu : Nat, j + fu = 24 := ⟨24 - j, by omega⟩
      clear e9j
      induction fu generalizing j H locs ls with
      | zero =>
        have hn : j = 24 := by omega
        have z1 := hinv 23 (by omega)
        refine lv_iload hx hb d_AD_differ_27 (lv_at hl 3 rfl) ?_
        refine lv_bipush (v := nI 24) hx hb d_AD_differ_29 rfl ?_
        refine nb_ge (tgt := 94) hx hb d_AD_differ_31 (by decide) (by omega) (by omega) (fun h3 => ?_) (fun h3 => ?_)
        · refine lv_iconst (v := -1) hx hb d_AD_differ_94 (by decide) ?_
          exact hp_iret S hret hlk (rfl) hM hS (⟨rfl, Or.inl ⟨j0, j3, hj0, hj3, rfl, rfl, Or.inr ⟨by omega, fun i hi => (hinv i (by omega)).2.2, rfl⟩⟩⟩) d_AD_differ_95
        · exact absurd hn (by omega)
      | succ fu ih =>
        refine lv_iload hx hb d_AD_differ_27 (lv_at hl 3 rfl) ?_
        refine lv_bipush (v := nI 24) hx hb d_AD_differ_29 rfl ?_
        refine nb_ge (tgt := 94) hx hb d_AD_differ_31 (by decide) (by omega) (by omega) (fun h4 => ?_) (fun h4 => ?_)
        · exact absurd hn (by omega)
        · refine lv_aload_n hx hb d_AD_differ_34 rfl (lv_at hl 0 rfl) ?_
          refine lv_aload_n hx hb d_AD_differ_35 rfl (lv_at hl 1 rfl) ?_
          refine lv_iload hx hb d_AD_differ_36 (lv_at hl 3 rfl) ?_
          refine hp_callq (go_V S hZ hK hM hS hA hz (c_AD_rowInOrder l D ct Z hZ _ _ fz x Al hal a (As.getD j0 []) haca j (by omega)) mc_AD_rowInOrder mz_AD ml_AD_148 mi_AD_rowInOrder mx_AD_rowInOrder hd_AD_rowInOrder rfl ⟨by decide, by decide⟩ f_x rfl rfl hl.1 rfl (Nat.le_of_ble_eq_true rfl) d_AD_differ_38 ⟨by decide, by decide⟩) hM hS hA (fun r5 M9 H locs hr5 hM hS => ?_)
          rw [hr5.1] at hM
          replace hr5 := hr5.2
          rcases hr5 with ⟨hlt, q, e9r, hq⟩ | ⟨hnl, e9r⟩
          · subst e9r
            obtain ⟨kyq, baq, f_q, -⟩ := id hq
            refine lv_astore (lv' := [(6, .ref q), (0, .ref x), (3, .ref a), (4, .ref a3), (5, .int (nI j))]) hx hb d_AD_differ_41 hl (by decide) rfl (fun ls hl => ?_)
            refine lv_aload_n hx hb d_AD_differ_43 rfl (lv_at hl 1 rfl) ?_
            refine lv_aload hx hb d_AD_differ_44 (lv_at hl 3 rfl) ?_
            refine lv_iload hx hb d_AD_differ_46 (lv_at hl 4 rfl) ?_
            refine hp_callq (go_V S hZ hK hM hS hA hz (c_AD_rowInOrder l D ct Z hZ _ _ fz x Al hal a3 (As.getD j3 []) haca3 j (by omega)) mc_AD_rowInOrder mz_AD ml_AD_148 mi_AD_rowInOrder mx_AD_rowInOrder hd_AD_rowInOrder rfl ⟨by decide, by decide⟩ f_x rfl rfl hl.1 rfl (Nat.le_of_ble_eq_true rfl) d_AD_differ_48 ⟨by decide, by decide⟩) hM hS hA (fun r6 M9 H locs hr6 hM hS => ?_)
            rw [hr6.1] at hM
            replace hr6 := hr6.2
            rcases hr6 with ⟨hlt3, q3, e9r, hq3⟩ | ⟨hnl3, e9r⟩
            · subst e9r
              obtain ⟨kyq3, baq3, f_q3, -⟩ := id hq3
              refine lv_astore (lv' := [(7, .ref q3), (6, .ref q), (0, .ref x), (3, .ref a), (4, .ref a3), (5, .int (nI j))]) hx hb d_AD_differ_51 hl (by decide) rfl (fun ls hl => ?_)
              refine lv_aload hx hb d_AD_differ_53 (lv_at hl 1 rfl) ?_
              refine lv_ifnonnull (tgt := 65) hx hb d_AD_differ_55 (by decide) ?_
              refine lv_aload hx hb d_AD_differ_65 (lv_at hl 1 rfl) ?_
              refine lv_ifnull hx hb d_AD_differ_67 ?_
              refine lv_aload hx hb d_AD_differ_70 (lv_at hl 0 rfl) ?_
              refine lv_ifnull hx hb d_AD_differ_72 ?_
              refine lv_aload hx hb d_AD_differ_75 (lv_at hl 1 rfl) ?_
              refine lv_aload hx hb d_AD_differ_77 (lv_at hl 0 rfl) ?_
              refine hp_calli (go_V S hZ hK hM hS hA hz (c_RW_isLike l D ct Z hZ _ _ fz q q3 ((cR Al (As.getD j0 [])).getD j rw0) ((cR Al (As.getD j3 [])).getD j rw0) hq hq3) mc_RW_isLike mz_RW ml_AD_178 mi_RW_isLike mx_RW_isLike hd_RW_isLike rfl ⟨by decide, by decide⟩ f_q rfl rfl hl.1 rfl (Nat.le_of_ble_eq_true rfl) d_AD_differ_79 ⟨by decide, by decide⟩) hM hS hA (fun r7 N8 H locs hr7 hM hS => ?_)
              rw [hr7.1] at hM
              replace hr7 := hr7.2
              refine nt_ne (tgt := 88) hx hb d_AD_differ_82 (by decide) hr7 (fun hlk9 => ?_) (fun hlk9 => ?_)
              · refine lv_iinc (v := nI (j + 1)) (lv' := [(5, .int (nI (j + 1))), (7, .ref q3), (6, .ref q), (0, .ref x), (3, .ref a), (4, .ref a3)]) hx hb d_AD_differ_88 hl (k := 5) rfl (nI_add j 1) (by decide) rfl (fun ls hl => ?_)
                refine lv_goto (tgt := 27) hx hb d_AD_differ_91 (by decide) ?_
                exact ih (ls := ls) (hl := lv_sub hl [3, 4, 5, 0] rfl) (j := j + 1) (hn := by omega) (hinv := lt_s hinv ⟨hlt, hlt3, hlk9⟩) (H := H) (locs := locs) (hM := hM) (hS := hS)
              · refine lv_iload hx hb d_AD_differ_85 (lv_at hl 5 rfl) ?_
                exact hp_iret S hret hlk rfl hM hS ⟨rfl, Or.inl ⟨j0, j3, hj0, hj3, rfl, rfl, Or.inl ⟨j, hinv, by omega, fun z => by first | omega | exact hlk9 z.2.2, rfl⟩⟩⟩ d_AD_differ_87
            · subst e9r
              refine lv_astoreN (lv' := [(7, .null), (6, .ref q), (0, .ref x), (3, .ref a), (4, .ref a3), (5, .int (nI j))]) hx hb d_AD_differ_51 hl (by decide) rfl (fun ls hl => ?_)
              refine lv_aload hx hb d_AD_differ_53 (lv_at hl 1 rfl) ?_
              refine lv_ifnonnull (tgt := 65) hx hb d_AD_differ_55 (by decide) ?_
              refine lv_aload hx hb d_AD_differ_65 (lv_at hl 1 rfl) ?_
              refine lv_ifnull hx hb d_AD_differ_67 ?_
              refine lv_aloadN hx hb d_AD_differ_70 (lv_at hl 0 rfl) ?_
              refine lv_ifnullN (tgt := 85) hx hb d_AD_differ_72 (by decide) ?_
              refine lv_iload hx hb d_AD_differ_85 (lv_at hl 5 rfl) ?_
              exact hp_iret S hret hlk rfl hM hS ⟨rfl, Or.inl ⟨j0, j3, hj0, hj3, rfl, rfl, Or.inl ⟨j, hinv, by omega, fun z => by first | omega | exact hlk9 z.2.2, rfl⟩⟩⟩ d_AD_differ_87
          · subst e9r
            refine lv_astoreN (lv' := [(6, .null), (0, .ref x), (3, .ref a), (4, .ref a3), (5, .int (nI j))]) hx hb d_AD_differ_41 hl (by decide) rfl (fun ls hl => ?_)
            refine lv_aload_n hx hb d_AD_differ_43 rfl (lv_at hl 1 rfl) ?_
            refine lv_aload hx hb d_AD_differ_44 (lv_at hl 3 rfl) ?_
            refine lv_iload hx hb d_AD_differ_46 (lv_at hl 4 rfl) ?_
            refine hp_callq (go_V S hZ hK hM hS hA hz (c_AD_rowInOrder l D ct Z hZ _ _ fz x Al hal a3 (As.getD j3 []) haca3 j (by omega)) mc_AD_rowInOrder mz_AD ml_AD_148 mi_AD_rowInOrder mx_AD_rowInOrder hd_AD_rowInOrder rfl ⟨by decide, by decide⟩ f_x rfl rfl hl.1 rfl (Nat.le_of_ble_eq_true rfl) d_AD_differ_48 ⟨by decide, by decide⟩) hM hS hA (fun r9 M9 H locs hr9 hM hS => ?_)
            rw [hr9.1] at hM
            replace hr9 := hr9.2
            rcases hr9 with ⟨hlt3, q3, e9r, hq3⟩ | ⟨hnl3, e9r⟩
            · subst e9r
              obtain ⟨kyq3, baq3, f_q3, -⟩ := id hq3
              refine lv_astore (lv' := [(7, .ref q3), (6, .null), (0, .ref x), (3, .ref a), (4, .ref a3), (5, .int (nI j))]) hx hb d_AD_differ_51 hl (by decide) rfl (fun ls hl => ?_)
              refine lv_aloadN hx hb d_AD_differ_53 (lv_at hl 1 rfl) ?_
              refine lv_ifnonnullN hx hb d_AD_differ_55 ?_
              refine lv_aload hx hb d_AD_differ_58 (lv_at hl 0 rfl) ?_
              refine lv_ifnonnull (tgt := 65) hx hb d_AD_differ_60 (by decide) ?_
              refine lv_aloadN hx hb d_AD_differ_65 (lv_at hl 1 rfl) ?_
              refine lv_ifnullN (tgt := 85) hx hb d_AD_differ_67 (by decide) ?_
              refine lv_iload hx hb d_AD_differ_85 (lv_at hl 5 rfl) ?_
              exact hp_iret S hret hlk rfl hM hS ⟨rfl, Or.inl ⟨j0, j3, hj0, hj3, rfl, rfl, Or.inl ⟨j, hinv, by omega, fun z => by first | omega | exact hlk9 z.2.2, rfl⟩⟩⟩ d_AD_differ_87
            · subst e9r
              refine lv_astoreN (lv' := [(7, .null), (6, .null), (0, .ref x), (3, .ref a), (4, .ref a3), (5, .int (nI j))]) hx hb d_AD_differ_51 hl (by decide) rfl (fun ls hl => ?_)
              refine lv_aloadN hx hb d_AD_differ_53 (lv_at hl 1 rfl) ?_
              refine lv_ifnonnullN hx hb d_AD_differ_55 ?_
              refine lv_aloadN hx hb d_AD_differ_58 (lv_at hl 0 rfl) ?_
              refine lv_ifnonnullN hx hb d_AD_differ_60 ?_
              refine lv_iconst (v := -1) hx hb d_AD_differ_63 (by decide) ?_
              have z2 : (cR Al (As.getD j0 [])).length = j := by rcases Nat.eq_zero_or_pos j with z | z; omega; (have := hinv (j - 1) (by omega); omega)
              have z3 : (cR Al (As.getD j3 [])).length = j := by rcases Nat.eq_zero_or_pos j with z | z; omega; (have := hinv (j - 1) (by omega); omega)
              exact hp_iret S hret hlk rfl hM hS ⟨rfl, Or.inl ⟨j0, j3, hj0, hj3, rfl, rfl, Or.inr ⟨by omega, fun i hi => (hinv i (by omega)).2.2, rfl⟩⟩⟩ d_AD_differ_64
    · subst e9r
      refine lv_astoreN (lv' := [(4, .null), (3, .ref a), (0, .ref x), (1, .int (nI j0)), (2, .int k3)]) hx hb d_AD_differ_11 hl (by decide) rfl (fun ls hl => ?_)
      refine lv_aload_n hx hb d_AD_differ_13 rfl (lv_at hl 1 rfl) ?_
      refine lv_ifnull hx hb d_AD_differ_14 ?_
      refine lv_aloadN hx hb d_AD_differ_17 (lv_at hl 0 rfl) ?_
      refine lv_ifnonnullN hx hb d_AD_differ_19 ?_
      refine lv_iconst (v := -1) hx hb d_AD_differ_22 (by decide) ?_
      exact hp_iret S hret hlk (rfl) hM hS (⟨rfl, Or.inr ⟨by first | exact Or.inl hno0 | exact Or.inr hno3, rfl⟩⟩) d_AD_differ_23
  · subst e9r
    refine lv_astore_nN (lv' := [(3, .null), (0, .ref x), (1, .int k), (2, .int k3)]) hx hb d_AD_differ_5 rfl hl (by decide) rfl (fun ls hl => ?_)
    refine lv_aload_n hx hb d_AD_differ_6 rfl (lv_at hl 1 rfl) ?_
    refine lv_iload_n hx hb d_AD_differ_7 rfl (lv_at hl 3 rfl) ?_
    refine hp_callq (go_V S hZ hK hM hS hA hz (c_AD_actionAt l D ct Z hZ _ _ fz x As hat k3) mc_AD_actionAt mz_AD ml_AD_69 mi_AD_actionAt mx_AD_actionAt hd_AD_actionAt rfl ⟨by decide, by decide⟩ f_x rfl rfl hl.1 rfl (Nat.le_of_ble_eq_true rfl) d_AD_differ_8 ⟨by decide, by decide⟩) hM hS hA (fun r10 M9 H locs hr10 hM hS => ?_)
    rw [hr10.1] at hM
    replace hr10 := hr10.2
    rcases hr10 with ⟨j3, a3, hj3, ek3, e9r, hac3⟩ | ⟨hno3, e9r⟩
    · subst e9r
      subst ek3
      have haca3 := hac3
      obtain ⟨oaa3, foa3, f_a3, f_oaa3, hn24a3, hrsa3⟩ := id haca3
      refine lv_astore (lv' := [(4, .ref a3), (3, .null), (0, .ref x), (1, .int k), (2, .int (nI j3))]) hx hb d_AD_differ_11 hl (by decide) rfl (fun ls hl => ?_)
      refine lv_aload_nN hx hb d_AD_differ_13 rfl (lv_at hl 1 rfl) ?_
      refine lv_ifnullN (tgt := 22) hx hb d_AD_differ_14 (by decide) ?_
      refine lv_iconst (v := -1) hx hb d_AD_differ_22 (by decide) ?_
      exact hp_iret S hret hlk (rfl) hM hS (⟨rfl, Or.inr ⟨by first | exact Or.inl hno0 | exact Or.inr hno3, rfl⟩⟩) d_AD_differ_23
    · subst e9r
      refine lv_astoreN (lv' := [(4, .null), (3, .null), (0, .ref x), (1, .int k), (2, .int k3)]) hx hb d_AD_differ_11 hl (by decide) rfl (fun ls hl => ?_)
      refine lv_aload_nN hx hb d_AD_differ_13 rfl (lv_at hl 1 rfl) ?_
      refine lv_ifnullN (tgt := 22) hx hb d_AD_differ_14 (by decide) ?_
      refine lv_iconst (v := -1) hx hb d_AD_differ_22 (by decide) ?_
      exact hp_iret S hret hlk (rfl) hM hS (⟨rfl, Or.inr ⟨by first | exact Or.inl hno0 | exact Or.inr hno3, rfl⟩⟩) d_AD_differ_23
set_option maxHeartbeats 4000000 in
set_option maxRecDepth 100000 in
/-- K(t), H(t - 64) -/
theorem c_AD_constant (l : Launch) (D : va_G) (ct : Nat → ClassId) (Z : hp_Z) (hZ : hp_Zok Z) (M : hp_M) (sz : Nat) (tk th : Nat) (hzk : zK Z tk) (hzh : zH Z th) (x : Nat) (k : Int32) : Mi l y_AD_constant b_AD_constant 2 (some .int) 0 0 0 0 [.ref x, .int k] D ct Z M sz (fun r M1 => M1 = M ∧ ((∃ j, j < 64 ∧ k = nI j ∧ r = kF j) ∨ (∃ j, j < 8 ∧ k = nI (64 + j) ∧ r = hF j) ∨ ((∀ j, j < 72 → k ≠ nI j) ∧ r = nI 0))) := by
  refine hp_start (by decide) (Nat.le_of_ble_eq_true rfl) (fun p e s m below meth c ls S hret hlk hnm hsz hK hM hS hA hz hl => ?_)
  have hx := S.1
  have hb := S.2.1
  have hl : lv_has ls 2 [(0, .ref x), (1, .int k)] := hl
  rcases pk_ix k (n := 72) (by decide) with hlow | hhigh | ⟨j, hj, ej⟩
  · have hno : ∀ j, j < 72 → k ≠ nI j := fun j hj e => by rw [e] at hlow; exact nI_pos (by omega) hlow
    refine lv_iload_n hx hb d_AD_constant_0 rfl (lv_at hl 1 rfl) ?_
    refine lv_if_lt (tgt := 16) hx hb d_AD_constant_1 (by decide) (fun h1 => ?_) (fun h1 => ?_)
    · refine lv_iload_n hx hb d_AD_constant_16 rfl (lv_at hl 1 rfl) ?_
      refine lv_bipush (v := nI 64) hx hb d_AD_constant_17 rfl ?_
      refine lv_icmp_lt (tgt := 37) hx hb d_AD_constant_19 (by decide) (fun h2 => ?_) (fun h2 => ?_)
      · refine lv_iconst (v := nI 0) hx hb d_AD_constant_37 rfl ?_
        exact hp_iret S hret hlk (rfl) hM hS (⟨rfl, Or.inr (Or.inr ⟨hno, rfl⟩)⟩) d_AD_constant_38
      · exact absurd (Int32.lt_trans hlow (by decide)) h2
    · exact absurd hlow h1
  · have hno : ∀ j, j < 72 → k ≠ nI j := fun j hj e => by rw [e] at hhigh; exact absurd ((nI_leI (by decide) (by omega)).mp hhigh) (by omega)
    have hp : ¬ k < 0 := fun q => absurd (Int32.lt_of_le_of_lt hhigh q) (by decide)
    refine lv_iload_n hx hb d_AD_constant_0 rfl (lv_at hl 1 rfl) ?_
    refine lv_if_lt (tgt := 16) hx hb d_AD_constant_1 (by decide) (fun h3 => ?_) (fun h3 => ?_)
    · exact absurd h3 hp
    · refine lv_iload_n hx hb d_AD_constant_4 rfl (lv_at hl 1 rfl) ?_
      refine lv_bipush (v := nI 64) hx hb d_AD_constant_5 rfl ?_
      refine lv_icmp_ge (tgt := 16) hx hb d_AD_constant_7 (by decide) (fun h4 => ?_) (fun h4 => ?_)
      · refine lv_iload_n hx hb d_AD_constant_16 rfl (lv_at hl 1 rfl) ?_
        refine lv_bipush (v := nI 64) hx hb d_AD_constant_17 rfl ?_
        refine lv_icmp_lt (tgt := 37) hx hb d_AD_constant_19 (by decide) (fun h5 => ?_) (fun h5 => ?_)
        · exact absurd (Int32.le_trans (show nI 64 ≤ nI 72 by decide) hhigh) (Int32.not_le.mpr h5)
        · refine lv_iload_n hx hb d_AD_constant_22 rfl (lv_at hl 1 rfl) ?_
          refine lv_bipush (v := nI 72) hx hb d_AD_constant_23 rfl ?_
          refine lv_icmp_ge (tgt := 37) hx hb d_AD_constant_25 (by decide) (fun h6 => ?_) (fun h6 => ?_)
          · refine lv_iconst (v := nI 0) hx hb d_AD_constant_37 rfl ?_
            exact hp_iret S hret hlk (rfl) hM hS (⟨rfl, Or.inr (Or.inr ⟨hno, rfl⟩)⟩) d_AD_constant_38
          · exact absurd hhigh h6
      · exact absurd (Int32.le_trans (show nI 64 ≤ nI 72 by decide) hhigh) h4
  · subst ej
    refine lv_iload_n hx hb d_AD_constant_0 rfl (lv_at hl 1 rfl) ?_
    refine nz_lt (tgt := 16) hx hb d_AD_constant_1 (by decide) (by omega) (fun h7 => ?_) (fun h7 => ?_)
    · exact absurd h7 (fun q => q)
    · refine lv_iload_n hx hb d_AD_constant_4 rfl (lv_at hl 1 rfl) ?_
      refine lv_bipush (v := nI 64) hx hb d_AD_constant_5 rfl ?_
      refine nb_ge (tgt := 16) hx hb d_AD_constant_7 (by decide) (by omega) (by omega) (fun h8 => ?_) (fun h8 => ?_)
      · refine lv_iload_n hx hb d_AD_constant_16 rfl (lv_at hl 1 rfl) ?_
        refine lv_bipush (v := nI 64) hx hb d_AD_constant_17 rfl ?_
        refine nb_lt (tgt := 37) hx hb d_AD_constant_19 (by decide) (by omega) (by omega) (fun h9 => ?_) (fun h9 => ?_)
        · exact absurd h9 (by omega)
        · refine lv_iload_n hx hb d_AD_constant_22 rfl (lv_at hl 1 rfl) ?_
          refine lv_bipush (v := nI 72) hx hb d_AD_constant_23 rfl ?_
          refine nb_ge (tgt := 37) hx hb d_AD_constant_25 (by decide) (by omega) (by omega) (fun h10 => ?_) (fun h10 => ?_)
          · exact absurd h10 (by omega)
          · refine va_gets hx hb (hzh _ _ _ hz).1 hS S.2.2.2.1 (S.2.2.2.2 _ mf_AD_184) (fun _ h9 => h9) d_AD_constant_28 ?_
            refine lv_iload_n hx hb d_AD_constant_31 rfl (lv_at hl 1 rfl) ?_
            refine lv_bipush (v := nI 64) hx hb d_AD_constant_32 rfl ?_
            refine nb_isub hx hb d_AD_constant_34 (by omega) ?_
            refine va_ti hx hb (hzh _ _ _ hz).2.1 hS (vp_in_nI (show j - 64 < 8 by omega) (by decide)) (v := .int (hF (j - 64))) (by show Value.int (hF (nI (j - 64)).toNatClampNeg) = _; rw [nI_clamp (by omega)]) d_AD_constant_35 ?_
            exact hp_iret S hret hlk (rfl) hM hS (⟨rfl, Or.inr (Or.inl ⟨j - 64, by omega, congrArg nI (by omega), rfl⟩)⟩) d_AD_constant_36
      · refine va_gets hx hb (hzk _ _ _ hz).1 hS S.2.2.2.1 (S.2.2.2.2 _ mf_AD_181) (fun _ h9 => h9) d_AD_constant_10 ?_
        refine lv_iload_n hx hb d_AD_constant_13 rfl (lv_at hl 1 rfl) ?_
        refine va_ti hx hb (hzk _ _ _ hz).2.1 hS (vp_in_nI (show j < 64 by omega) (by decide)) (v := .int (kF j)) (by show Value.int (kF (nI j).toNatClampNeg) = _; rw [nI_clamp (by omega)]) d_AD_constant_14 ?_
        exact hp_iret S hret hlk (rfl) hM hS (⟨rfl, Or.inl ⟨j, by omega, rfl, rfl⟩⟩) d_AD_constant_15
theorem ct01 {D : va_G} {ct : Nat → ClassId} {s : State} (hK : va_K D ccl (tys ct) s) : ct 0 ≠ ct 1 := ct_ne hK (i := 0) (j := 1) rfl rfl (by decide)
theorem xO_sh {ct : Nat → ClassId} {M : hp_M} {x xt sh ac na al nl sc hg su wo : Nat} {Y X : ShT} (h : shOk ct M sh su wo Y) (f : M x = some (xO xt sh ac na al nl sc hg)) : shM ct M sh su wo X x = some (xO xt sh ac na al nl sc hg) := shM_k f (hp_ne f h.1 (by simp)) (hp_ne f h.2.1 (by simp)) (hp_ne f h.2.2.1 (by simp))
set_option maxHeartbeats 4000000 in
set_option maxRecDepth 100000 in
/-- a row is fed -/
theorem c_AD_feedRow (l : Launch) (D : va_G) (ct : Nat → ClassId) (Z : hp_Z) (hZ : hp_Zok Z) (M : hp_M) (sz : Nat) (tk : Nat) (hzk : zK Z tk) (fz : Nat → Prop) (x : Nat) (xt sh ac na al nl sc hg : Nat) (f_x : M x = some (xO xt sh ac na al nl sc hg)) (su wo : Nat) (Y : ShT) (hsh : shOk ct M sh su wo Y) (hlt : Y.2.2.1 < 64) (a : Nat) (R : RowT) (hra : rwOk ct fz M a R) : Mv l y_AD_feedRow b_AD_feedRow 4 none 3 76 0 0 [.ref x, .ref a] D ct Z M sz (fun M1 => M1 = shM ct M sh su wo (feedL Y (stT R))) := by
  refine hp_start (by decide) (Nat.le_of_ble_eq_true rfl) (fun p e s m below meth c ls S hret hlk hnm hsz hK hM hS hA hz hl => ?_)
  have hx := S.1
  have hb := S.2.1
  have hl : lv_has ls 4 [(0, .ref x), (1, .ref a)] := hl
  obtain ⟨kya, baa, f_a, -⟩ := id hra
  have hrl := hra.len
  have f0_x := f_x
  refine lv_aload_n hx hb d_AD_feedRow_0 rfl (lv_at hl 1 rfl) ?_
  refine hp_calli (go_V S hZ hK hM hS hA hz (c_RW_stableLength l D ct Z hZ _ _ fz a R hra) mc_RW_stableLength mz_RW ml_AD_154 mi_RW_stableLength mx_RW_stableLength hd_RW_stableLength rfl ⟨by decide, by decide⟩ f_a rfl rfl hl.1 rfl (Nat.le_of_ble_eq_true rfl) d_AD_feedRow_1 ⟨by decide, by decide⟩) hM hS hA (fun r1 N2 H locs hr1 hM hS => ?_)
  rw [hr1.1] at hM
  replace hr1 := hr1.2
  subst hr1
  refine lv_istore_n (lv' := [(2, .int (nI ((stT R).length))), (0, .ref x), (1, .ref a)]) hx hb d_AD_feedRow_4 rfl hl (by decide) rfl (fun ls hl => ?_)
  refine lv_iconst (v := nI 0) hx hb d_AD_feedRow_5 rfl ?_
  refine lv_istore_n (lv' := [(3, .int (nI 0)), (2, .int (nI ((stT R).length))), (0, .ref x), (1, .ref a)]) hx hb d_AD_feedRow_6 rfl hl (by decide) rfl (fun ls hl => ?_)
  replace hl : lv_has ls 4 [(0, .ref x), (1, .ref a), (2, .int (nI ((stT R).length))), (3, .int (nI 0))] := lv_sub hl [2, 3, 1, 0] rfl
  obtain ⟨j, e9j⟩ : ∃ z : Nat, z = 0 := ⟨_, rfl⟩
  obtain ⟨X, e9X⟩ : ∃ z : ShT, z = Y := ⟨_, rfl⟩
  replace hl : lv_has ls 4 [(0, .ref x), (1, .ref a), (2, .int (nI ((stT R).length))), (3, .int (nI j))] := by subst e9j e9X; exact hl
  replace hM : hp_H D ccl (hp_A M sz) (shM ct M sh su wo X) H := by rw [e9X, shM_self hsh]; exact hM
  have hX : X = feedL Y ((stT R).take j) := by subst e9j e9X; rfl
  have hXl : X.2.2.1 < 64 := by subst e9j e9X; exact hlt
  obtain ⟨fu, hn⟩ : ∃ fu : Nat, j + fu = (stT R).length := ⟨(stT R).length - j, by omega⟩
  clear e9j e9X
  induction fu generalizing j X H locs ls with
  | zero =>
    have hn : j = (stT R).length := by omega
    have hshX := shM_ok hsh (X := X) (Nat.le_of_lt hXl)
    obtain ⟨f_su, f_wo, f_sh, -⟩ := id hshX
    have f_x := xO_sh (X := X) hsh f0_x
    have hra1 := hra.st (kp_sh (fz := fz) (X := X) (ct01 hK) hsh).1
    obtain ⟨ky1, ba1, f_a, -⟩ := id hra1
    refine lv_iload_n hx hb d_AD_feedRow_7 rfl (lv_at hl 3 rfl) ?_
    refine lv_iload_n hx hb d_AD_feedRow_8 rfl (lv_at hl 2 rfl) ?_
    refine nb_ge (tgt := 30) hx hb d_AD_feedRow_9 (by decide) (by omega) (by omega) (fun h3 => ?_) (fun h3 => ?_)
    · exact hp_vret S hret hlk hM hS (by rw [hX, hn, List.take_length]) d_AD_feedRow_30
    · exact absurd hn (by omega)
  | succ fu ih =>
    have hshX := shM_ok hsh (X := X) (Nat.le_of_lt hXl)
    obtain ⟨f_su, f_wo, f_sh, -⟩ := id hshX
    have f_x := xO_sh (X := X) hsh f0_x
    have hra1 := hra.st (kp_sh (fz := fz) (X := X) (ct01 hK) hsh).1
    obtain ⟨ky1, ba1, f_a, -⟩ := id hra1
    refine lv_iload_n hx hb d_AD_feedRow_7 rfl (lv_at hl 3 rfl) ?_
    refine lv_iload_n hx hb d_AD_feedRow_8 rfl (lv_at hl 2 rfl) ?_
    refine nb_ge (tgt := 30) hx hb d_AD_feedRow_9 (by decide) (by omega) (by omega) (fun h4 => ?_) (fun h4 => ?_)
    · exact absurd hn (by omega)
    · refine lv_aload_n hx hb d_AD_feedRow_12 rfl (lv_at hl 0 rfl) ?_
      refine hp_get S hK hM i_AD f_x rfl 1 (by decide) mf_AD_19 (fun _ h9 => h9) rfl d_AD_feedRow_13 ?_
      refine lv_aload_n hx hb d_AD_feedRow_16 rfl (lv_at hl 1 rfl) ?_
      refine lv_iload_n hx hb d_AD_feedRow_17 rfl (lv_at hl 3 rfl) ?_
      refine hp_calli (go_V S hZ hK hM hS hA hz (c_RW_stableCharacter l D ct Z hZ _ _ fz a R hra1 j (by omega)) mc_RW_stableCharacter mz_RW ml_AD_158 mi_RW_stableCharacter mx_RW_stableCharacter hd_RW_stableCharacter rfl ⟨by decide, by decide⟩ f_a rfl rfl hl.1 rfl (Nat.le_of_ble_eq_true rfl) d_AD_feedRow_18 ⟨by decide, by decide⟩) hM hS hA (fun r5 N6 H locs hr5 hM hS => ?_)
      rw [hr5.1] at hM
      replace hr5 := hr5.2
      subst hr5
      refine hp_callv (go_V S hZ hK hM hS hA hz (c_SH_feed l D ct Z hZ _ _ tk hzk sh su wo X hshX hXl (nI ((stT R).getD j 0))) mc_SH_feed mz_SH ml_AD_205 mi_SH_feed mx_SH_feed hd_SH_feed rfl ⟨by decide, by decide⟩ f_sh rfl rfl hl.1 rfl (Nat.le_of_ble_eq_true rfl) d_AD_feedRow_21 ⟨by decide, by decide⟩) hM hS hA (fun M9 H locs h9 hM hS => ?_)
      rw [h9, shM_uu] at hM
      refine lv_iinc (v := nI (j + 1)) (lv' := [(3, .int (nI (j + 1))), (0, .ref x), (1, .ref a), (2, .int (nI ((stT R).length)))]) hx hb d_AD_feedRow_24 hl (k := 3) rfl (nI_add j 1) (by decide) rfl (fun ls hl => ?_)
      refine lv_goto (tgt := 7) hx hb d_AD_feedRow_27 (by decide) ?_
      exact ih (ls := ls) (hl := lv_sub hl [1, 2, 3, 0] rfl) (j := j + 1) (hn := by omega) (X := feedS (nI ((stT R).getD j 0)) X) (hX := by rw [hX, feedL_s (by omega)]) (hXl := feedS_lt) (H := H) (locs := locs) (hM := hM) (hS := hS)
end
section
theorem zer_lt : ∀ (n : Nat) {Y : ShT}, Y.2.2.1 < 64 → (zer n Y).2.2.1 < 64
  | 0, _, h => h
  | n + 1, Y, h => by
    show (if Y.2.2.1 = 56 then Y else zer n (feedS (nI 0) Y)).2.2.1 < 64
    by_cases q : Y.2.2.1 = 56
    · rw [if_pos q]; exact h
    · rw [if_neg q]; exact zer_lt n feedS_lt
theorem len8_lt : ∀ (b : Int64) (n : Nat) {Y : ShT}, Y.2.2.1 < 64 → (len8 b n Y).2.2.1 < 64
  | _, 0, _, h => h
  | b, n + 1, Y, _ => len8_lt b n (Y := feedS (lby b (8 * n)) Y) feedS_lt
theorem endS_lt {Y : ShT} : (endS Y).2.2.1 < 64 := by
  unfold endS
  exact len8_lt (Y.2.2.2 * 8) 8 (Y := zer 64 (feedS (nI 128) Y)) (zer_lt 64 (Y := feedS (nI 128) Y) feedS_lt)
theorem feedL_app {Y : ShT} {a b : List Nat} : feedL Y (a ++ b) = feedL (feedL Y a) b := List.foldl_append
/-- the sums over bytes, by a Sha whose words hold w -/
def dgW (w : Nat → Int32) (l : List Nat) : Nat → Int32 := (endS (feedL (hF, w, 0, 0) l)).1
set_option maxHeartbeats 4000000 in
set_option maxRecDepth 100000 in
/-- a part of the DIGEST -/
theorem c_AD_digest (l : Launch) (D : va_G) (ct : Nat → ClassId) (Z : hp_Z) (hZ : hp_Zok Z) (M : hp_M) (sz : Nat) (tk th : Nat) (hzk : zK Z tk) (hzh : zH Z th) (As : List (List RowT)) (Al : List (List Nat)) (fz : Nat → Prop) (x : Nat) (xt sh ac na al nl sc hg : Nat) (f_x : M x = some (xO xt sh ac na al nl sc hg)) (su wo : Nat) (Y : ShT) (hsh : shOk ct M sh su wo Y) (hat : atP ct fz M x As) (hal : alP ct fz M x Al) (sal : List Nat) (hL : sal.length ≤ 4000) (hc_sal : ∀ i, sal.getD i 0 < 65536) (f_sc : M sc = some (.inl (ct 0, sal.length, .inl (tx sal)))) (hfsc : fz sc) (k m9 : Int32) : Mi l y_AD_digest b_AD_digest 6 (some .int) 5 102 0 0 [.ref x, .int k, .int m9] D ct Z M sz (fun r M1 => (∃ X : ShT, M1 = shM ct M sh su wo X ∧ X.2.2.1 ≤ 64) ∧ onA As k r (fun rs r => onK 8 m9 r (fun j r => r = dgW Y.2.1 (sal ++ stA (cR Al rs)) j) (nI 0)) (nI 0)) := by
  refine hp_start (by decide) (Nat.le_of_ble_eq_true rfl) (fun p e s m below meth c ls S hret hlk hnm hsz hK hM hS hA hz hl => ?_)
  have hx := S.1
  have hb := S.2.1
  have hl : lv_has ls 6 [(0, .ref x), (1, .int k), (2, .int m9)] := hl
  obtain ⟨f_su, f_wo, f_sh, hfl⟩ := id hsh
  have f0_x := f_x
  refine lv_aload_n hx hb d_AD_digest_0 rfl (lv_at hl 0 rfl) ?_
  refine lv_iload_n hx hb d_AD_digest_1 rfl (lv_at hl 1 rfl) ?_
  refine hp_callq (go_V S hZ hK hM hS hA hz (c_AD_actionAt l D ct Z hZ _ _ fz x As hat k) mc_AD_actionAt mz_AD ml_AD_69 mi_AD_actionAt mx_AD_actionAt hd_AD_actionAt rfl ⟨by decide, by decide⟩ f_x rfl rfl hl.1 rfl (Nat.le_of_ble_eq_true rfl) d_AD_digest_2 ⟨by decide, by decide⟩) hM hS hA (fun r1 M9 H locs hr1 hM hS => ?_)
  rw [hr1.1] at hM
  replace hr1 := hr1.2
  rcases hr1 with ⟨j0, a, hj0, ek, e9r, hac0⟩ | ⟨hno0, e9r⟩
  · subst e9r
    subst ek
    have haca := hac0
    obtain ⟨oaa, foa, f_a, f_oaa, hn24a, hrsa⟩ := id haca
    refine lv_astore_n (lv' := [(3, .ref a), (0, .ref x), (1, .int (nI j0)), (2, .int m9)]) hx hb d_AD_digest_5 rfl hl (by decide) rfl (fun ls hl => ?_)
    refine lv_aload_n hx hb d_AD_digest_6 rfl (lv_at hl 0 rfl) ?_
    refine lv_ifnull hx hb d_AD_digest_7 ?_
    refine lv_iload_n hx hb d_AD_digest_10 rfl (lv_at hl 3 rfl) ?_
    refine lv_if_lt (tgt := 20) hx hb d_AD_digest_11 (by decide) (fun hlo => ?_) (fun hlo => ?_)
    · refine lv_iconst (v := nI 0) hx hb d_AD_digest_20 rfl ?_
      exact hp_iret S hret hlk rfl hM hS ⟨⟨Y, (shM_self hsh).symm, hfl⟩, Or.inl ⟨j0, hj0, rfl, Or.inr ⟨fun j hj e => by subst e; first | exact nI_pos (by omega) hlo | exact hhi ((nI_ltI (by omega) (by decide)).mpr hj), rfl⟩⟩⟩ d_AD_digest_21
    · refine lv_iload_n hx hb d_AD_digest_14 rfl (lv_at hl 3 rfl) ?_
      refine lv_bipush (v := nI 8) hx hb d_AD_digest_15 rfl ?_
      refine lv_icmp_lt (tgt := 22) hx hb d_AD_digest_17 (by decide) (fun hhi => ?_) (fun hhi => ?_)
      · obtain ⟨k2, hk2, ek2⟩ : ∃ j, j < 8 ∧ m9 = nI j := by
          obtain ⟨j, hj, ej⟩ := nI_of hlo
          rw [ej] at hhi
          exact ⟨j, (nI_ltI hj (by decide)).mp hhi, ej⟩
        subst ek2
        refine lv_aload_n hx hb d_AD_digest_22 rfl (lv_at hl 1 rfl) ?_
        refine hp_get S hK hM i_AD f_x rfl 1 (by decide) mf_AD_19 (fun _ h9 => h9) rfl d_AD_digest_23 ?_
        refine hp_callv (go_V S hZ hK hM hS hA hz (c_SH_begin l D ct Z hZ _ _ th hzh sh su wo Y hsh) mc_SH_begin mz_SH ml_AD_162 mi_SH_begin mx_SH_begin hd_SH_begin rfl ⟨by decide, by decide⟩ f_sh rfl rfl hl.1 rfl (Nat.le_of_ble_eq_true rfl) d_AD_digest_26 ⟨by decide, by decide⟩) hM hS hA (fun M9 H locs h9 hM hS => ?_)
        rw [h9] at hM
        obtain ⟨U, eU⟩ : ∃ z : ShT, z = (hF, Y.2.1, 0, 0) := ⟨_, rfl⟩
        rw [← eU] at hM
        have hUl : U.2.2.1 < 64 := by rw [eU]; exact (by decide : 0 < 64)
        have hshX := shM_ok hsh (X := U) (Nat.le_of_lt hUl)
        obtain ⟨f_su, f_wo, f_sh, -⟩ := id hshX
        have f_x := xO_sh (X := U) hsh f0_x
        refine lv_aload_n hx hb d_AD_digest_29 rfl (lv_at hl 1 rfl) ?_
        refine hp_get S hK hM i_AD f_x rfl 1 (by decide) mf_AD_19 (fun _ h9 => h9) rfl d_AD_digest_30 ?_
        refine lv_aload_n hx hb d_AD_digest_33 rfl (lv_at hl 1 rfl) ?_
        refine hp_get S hK hM i_AD f_x rfl 6 (by decide) mf_AD_42 (fun _ h9 => h9) rfl d_AD_digest_34 ?_
        have f_sc1 := (kp_sh (fz := fz) (X := U) (ct01 hK) hsh).1.2 _ _ _ hfsc f_sc
        refine hp_callv (go_V S hZ hK hM hS hA hz (c_SH_feedAll l D ct Z hZ _ _ tk hzk sh su wo U hshX hUl sc sal hL hc_sal f_sc1) mc_SH_feedAll mz_SH ml_AD_165 mi_SH_feedAll mx_SH_feedAll hd_SH_feedAll rfl ⟨by decide, by decide⟩ f_sh rfl rfl hl.1 rfl (Nat.le_of_ble_eq_true rfl) d_AD_digest_37 ⟨by decide, by decide⟩) hM hS hA (fun M9 H locs h9 hM hS => ?_)
        rw [h9, shM_uu] at hM
        obtain ⟨V, eV⟩ : ∃ z : ShT, z = feedL U sal := ⟨_, rfl⟩
        rw [← eV] at hM
        have hVl : V.2.2.1 < 64 := by rw [eV]; exact feedL_lt hUl _
        have hshX := shM_ok hsh (X := V) (Nat.le_of_lt hVl)
        obtain ⟨f_su, f_wo, f_sh, -⟩ := id hshX
        have f_x := xO_sh (X := V) hsh f0_x
        refine lv_iconst (v := nI 0) hx hb d_AD_digest_40 rfl ?_
        refine lv_istore (lv' := [(4, .int (nI 0)), (3, .ref a), (0, .ref x), (1, .int (nI j0)), (2, .int (nI k2))]) hx hb d_AD_digest_41 hl (by decide) rfl (fun ls hl => ?_)
        replace hl : lv_has ls 6 [(0, .ref x), (2, .int (nI k2)), (3, .ref a), (4, .int (nI 0))] := lv_sub hl [2, 4, 1, 0] rfl
        obtain ⟨j, e9j⟩ : ∃ z : Nat, z = 0 := ⟨_, rfl⟩
        obtain ⟨X, e9X⟩ : ∃ z : ShT, z = V := ⟨_, rfl⟩
        replace hl : lv_has ls 6 [(0, .ref x), (2, .int (nI k2)), (3, .ref a), (4, .int (nI j))] := by subst e9j e9X; exact hl
        replace hM : hp_H D ccl (hp_A M sz) (shM ct M sh su wo X) H := by rw [e9X]; exact hM
        have hX : X = feedL U (sal ++ stA (cR Al ((As.getD j0 []).take j))) := by subst e9j e9X; rw [eV]; simp [cR, stA]
        have hXl : X.2.2.1 < 64 := by subst e9j e9X; exact hVl
        obtain ⟨fu, hn⟩ : ∃ fu : Nat, j + fu = 24 := ⟨24 - j, by omega⟩
        clear e9j e9X
        induction fu generalizing j X H locs ls with
        | zero =>
          have hn : j = 24 := by omega
          have hshX := shM_ok hsh (X := X) (Nat.le_of_lt hXl)
          obtain ⟨f_su, f_wo, f_sh, -⟩ := id hshX
          have f_x := xO_sh (X := X) hsh f0_x
          have hkp := kp_sh (fz := fz) (X := X) (ct01 hK) hsh
          have hal1 := hal.kp hkp
          have hac1 := haca.kp hkp
          obtain ⟨oa1, fo1, f_a, -⟩ := id hac1
          rw [hn, List.take_of_length_le hn24a] at hX
          refine lv_iload hx hb d_AD_digest_43 (lv_at hl 3 rfl) ?_
          refine lv_bipush (v := nI 24) hx hb d_AD_digest_45 rfl ?_
          refine nb_ge (tgt := 76) hx hb d_AD_digest_47 (by decide) (by omega) (by omega) (fun h2 => ?_) (fun h2 => ?_)
          · refine lv_aload_n hx hb d_AD_digest_76 rfl (lv_at hl 0 rfl) ?_
            refine hp_get S hK hM i_AD f_x rfl 1 (by decide) mf_AD_19 (fun _ h9 => h9) rfl d_AD_digest_77 ?_
            refine hp_callv (go_V S hZ hK hM hS hA hz (c_SH_end l D ct Z hZ _ _ tk hzk sh su wo X hshX hXl) mc_SH_end mz_SH ml_AD_171 mi_SH_end mx_SH_end hd_SH_end rfl ⟨by decide, by decide⟩ f_sh rfl rfl hl.1 rfl (Nat.le_of_ble_eq_true rfl) d_AD_digest_80 ⟨by decide, by decide⟩) hM hS hA (fun M9 H locs h9 hM hS => ?_)
            rw [h9, shM_uu] at hM
            obtain ⟨T, eT⟩ : ∃ z : ShT, z = endS X := ⟨_, rfl⟩
            rw [← eT] at hM
            have hTl : T.2.2.1 < 64 := by rw [eT]; exact endS_lt
            have hshX := shM_ok hsh (X := T) (Nat.le_of_lt hTl)
            obtain ⟨f_su, f_wo, f_sh, -⟩ := id hshX
            have f_x := xO_sh (X := T) hsh f0_x
            refine lv_aload_n hx hb d_AD_digest_83 rfl (lv_at hl 0 rfl) ?_
            refine hp_get S hK hM i_AD f_x rfl 1 (by decide) mf_AD_19 (fun _ h9 => h9) rfl d_AD_digest_84 ?_
            refine hp_get S hK hM i_SH f_sh rfl 0 (by decide) mf_AD_174 (fun _ h9 => h9) rfl d_AD_digest_87 ?_
            refine lv_iload_n hx hb d_AD_digest_90 rfl (lv_at hl 1 rfl) ?_
            refine hp_iald S hK hM 1 f_su rfl k2 rfl (by omega) (by omega) d_AD_digest_91 ?_
            exact hp_iret S hret hlk (rfl) hM hS (⟨⟨T, rfl, Nat.le_of_lt hTl⟩, Or.inl ⟨j0, hj0, rfl, Or.inl ⟨k2, hk2, rfl, by rw [eT, hX, eU]; unfold dgW; rfl⟩⟩⟩) d_AD_digest_92
          · exact absurd hn (by omega)
        | succ fu ih =>
          have hshX := shM_ok hsh (X := X) (Nat.le_of_lt hXl)
          obtain ⟨f_su, f_wo, f_sh, -⟩ := id hshX
          have f_x := xO_sh (X := X) hsh f0_x
          have hkp := kp_sh (fz := fz) (X := X) (ct01 hK) hsh
          have hal1 := hal.kp hkp
          have hac1 := haca.kp hkp
          obtain ⟨oa1, fo1, f_a, -⟩ := id hac1
          refine lv_iload hx hb d_AD_digest_43 (lv_at hl 3 rfl) ?_
          refine lv_bipush (v := nI 24) hx hb d_AD_digest_45 rfl ?_
          refine nb_ge (tgt := 76) hx hb d_AD_digest_47 (by decide) (by omega) (by omega) (fun h3 => ?_) (fun h3 => ?_)
          · exact absurd hn (by omega)
          · refine lv_aload_n hx hb d_AD_digest_50 rfl (lv_at hl 0 rfl) ?_
            refine lv_aload_n hx hb d_AD_digest_51 rfl (lv_at hl 2 rfl) ?_
            refine lv_iload hx hb d_AD_digest_52 (lv_at hl 3 rfl) ?_
            refine hp_callq (go_V S hZ hK hM hS hA hz (c_AD_countingRowAt l D ct Z hZ _ _ fz x Al hal1 a (As.getD j0 []) hac1 j (by omega)) mc_AD_countingRowAt mz_AD ml_AD_144 mi_AD_countingRowAt mx_AD_countingRowAt hd_AD_countingRowAt rfl ⟨by decide, by decide⟩ f_x rfl rfl hl.1 rfl (Nat.le_of_ble_eq_true rfl) d_AD_digest_54 ⟨by decide, by decide⟩) hM hS hA (fun r4 M9 H locs hr4 hM hS => ?_)
            rw [hr4.1] at hM
            replace hr4 := hr4.2
            rcases hr4 with ⟨hlt, hcn, q, e9r, hq⟩ | ⟨hno, e9r⟩
            · subst e9r
              refine lv_astore (lv' := [(5, .ref q), (0, .ref x), (2, .int (nI k2)), (3, .ref a), (4, .int (nI j))]) hx hb d_AD_digest_57 hl (by decide) rfl (fun ls hl => ?_)
              refine lv_aload hx hb d_AD_digest_59 (lv_at hl 0 rfl) ?_
              refine lv_ifnull hx hb d_AD_digest_61 ?_
              refine lv_aload_n hx hb d_AD_digest_64 rfl (lv_at hl 1 rfl) ?_
              refine lv_aload hx hb d_AD_digest_65 (lv_at hl 0 rfl) ?_
              refine hp_callv (go_V S hZ hK hM hS hA hz (c_AD_feedRow l D ct Z hZ _ _ tk hzk fz x xt sh ac na al nl sc hg f_x su wo X hshX hXl q ((As.getD j0 []).getD j rw0) hq) mc_AD_feedRow mz_AD ml_AD_168 mi_AD_feedRow mx_AD_feedRow hd_AD_feedRow rfl ⟨by decide, by decide⟩ f_x rfl rfl hl.1 rfl (Nat.le_of_ble_eq_true rfl) d_AD_digest_67 ⟨by decide, by decide⟩) hM hS hA (fun M9 H locs h9 hM hS => ?_)
              rw [h9, shM_uu] at hM
              refine lv_iinc (v := nI (j + 1)) (lv' := [(4, .int (nI (j + 1))), (5, .ref q), (0, .ref x), (2, .int (nI k2)), (3, .ref a)]) hx hb d_AD_digest_70 hl (k := 4) rfl (nI_add j 1) (by decide) rfl (fun ls hl => ?_)
              refine lv_goto (tgt := 43) hx hb d_AD_digest_73 (by decide) ?_
              exact ih (ls := ls) (hl := lv_sub hl [2, 3, 4, 0] rfl) (j := j + 1) (hn := by omega) (X := feedL X (stT ((As.getD j0 []).getD j rw0))) (hX := by rw [cR_1 hlt hcn, stA_1, ← List.append_assoc, feedL_app, hX]) (hXl := feedL_lt hXl _) (H := H) (locs := locs) (hM := hM) (hS := hS)
            · subst e9r
              refine lv_astoreN (lv' := [(5, .null), (0, .ref x), (2, .int (nI k2)), (3, .ref a), (4, .int (nI j))]) hx hb d_AD_digest_57 hl (by decide) rfl (fun ls hl => ?_)
              refine lv_aloadN hx hb d_AD_digest_59 (lv_at hl 0 rfl) ?_
              refine lv_ifnullN (tgt := 70) hx hb d_AD_digest_61 (by decide) ?_
              refine lv_iinc (v := nI (j + 1)) (lv' := [(4, .int (nI (j + 1))), (5, .null), (0, .ref x), (2, .int (nI k2)), (3, .ref a)]) hx hb d_AD_digest_70 hl (k := 4) rfl (nI_add j 1) (by decide) rfl (fun ls hl => ?_)
              refine lv_goto (tgt := 43) hx hb d_AD_digest_73 (by decide) ?_
              exact ih (ls := ls) (hl := lv_sub hl [2, 3, 4, 0] rfl) (j := j + 1) (hn := by omega) (X := X) (hX := by rw [cR_0 hno]; exact hX) (hXl := hXl) (H := H) (locs := locs) (hM := hM) (hS := hS)
      · refine lv_iconst (v := nI 0) hx hb d_AD_digest_20 rfl ?_
        exact hp_iret S hret hlk rfl hM hS ⟨⟨Y, (shM_self hsh).symm, hfl⟩, Or.inl ⟨j0, hj0, rfl, Or.inr ⟨fun j hj e => by subst e; first | exact nI_pos (by omega) hlo | exact hhi ((nI_ltI (by omega) (by decide)).mpr hj), rfl⟩⟩⟩ d_AD_digest_21
  · subst e9r
    refine lv_astore_nN (lv' := [(3, .null), (0, .ref x), (1, .int k), (2, .int m9)]) hx hb d_AD_digest_5 rfl hl (by decide) rfl (fun ls hl => ?_)
    refine lv_aload_nN hx hb d_AD_digest_6 rfl (lv_at hl 0 rfl) ?_
    refine lv_ifnullN (tgt := 20) hx hb d_AD_digest_7 (by decide) ?_
    refine lv_iconst (v := nI 0) hx hb d_AD_digest_20 rfl ?_
    exact hp_iret S hret hlk rfl hM hS ⟨⟨Y, (shM_self hsh).symm, hfl⟩, Or.inr ⟨hno0, rfl⟩⟩ d_AD_digest_21
set_option maxHeartbeats 4000000 in
set_option maxRecDepth 100000 in
/-- a content is held -/
theorem c_AD_holdContent (l : Launch) (D : va_G) (ct : Nat → ClassId) (Z : hp_Z) (hZ : hp_Zok Z) (M : hp_M) (sz : Nat) (tk th : Nat) (hzk : zK Z tk) (hzh : zH Z th) (fz : Nat → Prop) (x : Nat) (xt sh ac na al nl sc hg : Nat) (f_x : M x = some (xO xt sh ac na al nl sc hg)) (su wo : Nat) (Y : ShT) (hsh : shOk ct M sh su wo Y) (hgc : List Nat) (f_hg : M hg = some (.inl (ct 0, 64, .inl (tx hgc)))) (t : Nat) (cn : List Nat) (hL : cn.length ≤ 4000) (hc_cn : ∀ i, cn.getD i 0 < 65536) (f_t : M t = some (.inl (ct 0, cn.length, .inl (tx cn)))) : Mv l y_AD_holdContent b_AD_holdContent 2 none 4 99 0 0 [.ref x, .ref t] D ct Z M sz (fun M1 => ∃ X : ShT, X.2.2.1 ≤ 64 ∧ M1 = hp_up (shM ct M sh su wo X) hg (.inl (ct 0, 64, .inl (nf (hexF (dgW Y.2.1 cn)))))) := by
  refine hp_start (by decide) (Nat.le_of_ble_eq_true rfl) (fun p e s m below meth c ls S hret hlk hnm hsz hK hM hS hA hz hl => ?_)
  have hx := S.1
  have hb := S.2.1
  have hl : lv_has ls 2 [(0, .ref x), (1, .ref t)] := hl
  obtain ⟨f_su, f_wo, f_sh, hfl⟩ := id hsh
  have f0_x := f_x
  have nt_su : t ≠ su := (hp_ne f_t f_su (fun q9 => ct_ne hK (i := 0) (j := 1) rfl rfl (by decide) (congrArg Prod.fst (Sum.inl.inj q9))))
  have ng_su : hg ≠ su := (hp_ne f_hg f_su (fun q9 => ct_ne hK (i := 0) (j := 1) rfl rfl (by decide) (congrArg Prod.fst (Sum.inl.inj q9))))
  have nt_wo : t ≠ wo := (hp_ne f_t f_wo (fun q9 => ct_ne hK (i := 0) (j := 1) rfl rfl (by decide) (congrArg Prod.fst (Sum.inl.inj q9))))
  have ng_wo : hg ≠ wo := (hp_ne f_hg f_wo (fun q9 => ct_ne hK (i := 0) (j := 1) rfl rfl (by decide) (congrArg Prod.fst (Sum.inl.inj q9))))
  have nt_sh : t ≠ sh := (hp_ne f_t f_sh (by simp))
  have ng_sh : hg ≠ sh := (hp_ne f_hg f_sh (by simp))
  refine lv_aload_n hx hb d_AD_holdContent_0 rfl (lv_at hl 0 rfl) ?_
  refine hp_get S hK hM i_AD f_x rfl 1 (by decide) mf_AD_19 (fun _ h9 => h9) rfl d_AD_holdContent_1 ?_
  refine hp_callv (go_V S hZ hK hM hS hA hz (c_SH_begin l D ct Z hZ _ _ th hzh sh su wo Y hsh) mc_SH_begin mz_SH ml_AD_162 mi_SH_begin mx_SH_begin hd_SH_begin rfl ⟨by decide, by decide⟩ f_sh rfl rfl hl.1 rfl (Nat.le_of_ble_eq_true rfl) d_AD_holdContent_4 ⟨by decide, by decide⟩) hM hS hA (fun M9 H locs h9 hM hS => ?_)
  rw [h9] at hM
  obtain ⟨U, eU⟩ : ∃ z : ShT, z = (hF, Y.2.1, 0, 0) := ⟨_, rfl⟩
  rw [← eU] at hM
  have hUl : U.2.2.1 < 64 := by rw [eU]; exact (by decide : 0 < 64)
  have hshX := shM_ok hsh (X := U) (Nat.le_of_lt hUl)
  obtain ⟨f_su, f_wo, f_sh, -⟩ := id hshX
  have f_x := xO_sh (X := U) hsh f0_x
  refine lv_aload_n hx hb d_AD_holdContent_7 rfl (lv_at hl 0 rfl) ?_
  refine hp_get S hK hM i_AD f_x rfl 1 (by decide) mf_AD_19 (fun _ h9 => h9) rfl d_AD_holdContent_8 ?_
  refine lv_aload_n hx hb d_AD_holdContent_11 rfl (lv_at hl 1 rfl) ?_
  have f_t1 := shM_k (ct := ct) (X := U) f_t nt_su nt_wo nt_sh
  refine hp_callv (go_V S hZ hK hM hS hA hz (c_SH_feedAll l D ct Z hZ _ _ tk hzk sh su wo U hshX hUl t cn hL hc_cn f_t1) mc_SH_feedAll mz_SH ml_AD_165 mi_SH_feedAll mx_SH_feedAll hd_SH_feedAll rfl ⟨by decide, by decide⟩ f_sh rfl rfl hl.1 rfl (Nat.le_of_ble_eq_true rfl) d_AD_holdContent_12 ⟨by decide, by decide⟩) hM hS hA (fun M9 H locs h9 hM hS => ?_)
  rw [h9, shM_uu] at hM
  obtain ⟨V, eV⟩ : ∃ z : ShT, z = feedL U cn := ⟨_, rfl⟩
  rw [← eV] at hM
  have hVl : V.2.2.1 < 64 := by rw [eV]; exact feedL_lt hUl _
  have hshX := shM_ok hsh (X := V) (Nat.le_of_lt hVl)
  obtain ⟨f_su, f_wo, f_sh, -⟩ := id hshX
  have f_x := xO_sh (X := V) hsh f0_x
  refine lv_aload_n hx hb d_AD_holdContent_15 rfl (lv_at hl 0 rfl) ?_
  refine hp_get S hK hM i_AD f_x rfl 1 (by decide) mf_AD_19 (fun _ h9 => h9) rfl d_AD_holdContent_16 ?_
  refine hp_callv (go_V S hZ hK hM hS hA hz (c_SH_end l D ct Z hZ _ _ tk hzk sh su wo V hshX hVl) mc_SH_end mz_SH ml_AD_171 mi_SH_end mx_SH_end hd_SH_end rfl ⟨by decide, by decide⟩ f_sh rfl rfl hl.1 rfl (Nat.le_of_ble_eq_true rfl) d_AD_holdContent_19 ⟨by decide, by decide⟩) hM hS hA (fun M9 H locs h9 hM hS => ?_)
  rw [h9, shM_uu] at hM
  obtain ⟨T, eT⟩ : ∃ z : ShT, z = endS V := ⟨_, rfl⟩
  rw [← eT] at hM
  have hTl : T.2.2.1 < 64 := by rw [eT]; exact endS_lt
  have hshX := shM_ok hsh (X := T) (Nat.le_of_lt hTl)
  obtain ⟨f_su, f_wo, f_sh, -⟩ := id hshX
  have f_x := xO_sh (X := T) hsh f0_x
  have f_hg1 : shM ct M sh su wo T hg = some (.inl (ct 0, 64, .inl (nf (fun i => hgc.getD i 0)))) := shM_k (ct := ct) (X := T) f_hg ng_su ng_wo ng_sh
  refine lv_aload_n hx hb d_AD_holdContent_22 rfl (lv_at hl 0 rfl) ?_
  refine hp_get S hK hM i_AD f_x rfl 1 (by decide) mf_AD_19 (fun _ h9 => h9) rfl d_AD_holdContent_23 ?_
  refine lv_aload_n hx hb d_AD_holdContent_26 rfl (lv_at hl 0 rfl) ?_
  refine hp_get S hK hM i_AD f_x rfl 7 (by decide) mf_AD_46 (fun _ h9 => h9) rfl d_AD_holdContent_27 ?_
  refine hp_callv (go_V S hZ hK hM hS hA hz (c_SH_writeDigits l D ct Z hZ _ _ sh su wo T hshX hg (fun i => hgc.getD i 0) f_hg1) mc_SH_writeDigits mz_SH ml_AD_187 mi_SH_writeDigits mx_SH_writeDigits hd_SH_writeDigits rfl ⟨by decide, by decide⟩ f_sh rfl rfl hl.1 rfl (Nat.le_of_ble_eq_true rfl) d_AD_holdContent_30 ⟨by decide, by decide⟩) hM hS hA (fun M9 H locs h9 hM hS => ?_)
  rw [h9] at hM
  exact hp_vret S hret hlk hM hS (⟨T, Nat.le_of_lt hTl, by rw [eT, eV, eU]; unfold dgW; rfl⟩) d_AD_holdContent_33
end
section
theorem body_at {a b : List Nat} {i : Nat} (hb : b.length = 64) (hi : i < a.length + 1 + 64) : (if i < a.length then a.getD i 0 else if a.length < i ∧ i < a.length + 1 + 64 then b.getD (i - a.length - 1) 0 else 0) = (a ++ 0 :: b).getD i 0 := by
  rw [List.getD_eq_getElem?_getD (l := a ++ 0 :: b)]
  by_cases h1 : i < a.length
  · rw [if_pos h1, List.getElem?_append_left h1, List.getD_eq_getElem?_getD]
  · rw [if_neg h1, List.getElem?_append_right (by omega)]
    by_cases h2 : a.length < i
    · rw [if_pos ⟨h2, hi⟩, show i - a.length = (i - a.length - 1) + 1 by omega, List.getElem?_cons_succ, List.getD_eq_getElem?_getD]
      congr 2
    · rw [if_neg (by omega), show i - a.length = 0 by omega]
      rfl
def edL (n : Nat) : List Nat := (List.range 8).map (fun i => 48 + n / 10 ^ (7 - i) % 10)
theorem edL_at {n i : Nat} (h : i < 8) : (edL n).getD i 0 = 48 + n / 10 ^ (7 - i) % 10 := by
  unfold edL
  rw [List.getD_eq_getElem?_getD, List.getElem?_map, List.getElem?_range h]
  rfl
theorem iinc_m1 (x : Int32) : x + Int32.ofInt (-1) = x - nI 1 := by
  rw [Int32.sub_eq_add_neg]
  rfl
set_option maxHeartbeats 4000000 in
set_option maxRecDepth 100000 in
/-- what follows the length in the STABLE TEXT -/
theorem c_AD_bodyOf (l : Launch) (D : va_G) (ct : Nat → ClassId) (Z : hp_Z) (hZ : hp_Zok Z) (M : hp_M) (sz : Nat) (x : Nat) (xt sh ac na al nl sc hg : Nat) (f_x : M x = some (xO xt sh ac na al nl sc hg)) (hd : List Nat) (hdl : hd.length = 64) (hc_hd : ∀ i, hd.getD i 0 < 65536) (f_hg : M hg = some (.inl (ct 0, 64, .inl (tx hd)))) (t : Nat) (tn : List Nat) (hL : tn.length ≤ 64) (hc_tn : ∀ i, tn.getD i 0 < 65536) (f_t : M t = some (.inl (ct 0, tn.length, .inl (tx tn)))) (k : Nat) (hk : k < 2 ^ 31) : Mq l y_AD_bodyOf b_AD_bodyOf 5 (some (.array .char)) 0 0 1 129 [.ref x, .ref t, .int (nI k)] D ct Z M sz (fun r M1 => ((k = 1 ∨ k = 3) ∧ ∃ q, r = some q ∧ M q = none ∧ M1 = hp_up M q (.inl (ct 0, (tn ++ 0 :: hd).length, .inl (tx (tn ++ 0 :: hd))))) ∨ (¬ (k = 1 ∨ k = 3) ∧ r = some t ∧ M1 = M)) := by
  refine hp_start (by decide) (Nat.le_of_ble_eq_true rfl) (fun p e s m below meth c ls S hret hlk hnm hsz hK hM hS hA hz hl => ?_)
  have hx := S.1
  have hb := S.2.1
  have hl : lv_has ls 5 [(0, .ref x), (1, .ref t), (2, .int (nI k))] := hl
  have f0_x := f_x
  have f0_hg := f_hg
  have f0_t := f_t
  refine lv_iload_n hx hb d_AD_bodyOf_0 rfl (lv_at hl 2 rfl) ?_
  refine lv_iconst (v := nI 1) hx hb d_AD_bodyOf_1 rfl ?_
  refine nb_eq (tgt := 12) hx hb d_AD_bodyOf_2 (by decide) (by omega) (by omega) (fun h1 => ?_) (fun h1 => ?_)
  · refine lv_aload_n hx hb d_AD_bodyOf_12 rfl (lv_at hl 1 rfl) ?_
    refine hp_alen S hK hM 0 f_t rfl d_AD_bodyOf_13 ?_
    refine lv_iconst (v := nI 1) hx hb d_AD_bodyOf_14 rfl ?_
    refine nb_iadd hx hb d_AD_bodyOf_15 ?_
    refine lv_bipush (v := nI 64) hx hb d_AD_bodyOf_16 rfl ?_
    refine nb_iadd hx hb d_AD_bodyOf_18 ?_
    refine hp_newi S hK hM hS hA (atype := .char) rfl ma_char 0 rfl rfl (by decide) (((tn.length) + 1) + 64) rfl (by omega) (by decide) (by show 0 + ((tn.length) + 1) + 64 ≤ 129; omega) d_AD_bodyOf_19 (fun q H hq_q hM hS => ?_)
    refine W.widen (k := 1) (n := 129) (by omega) (by omega) ?_
    rw [nf_0] at hM
    have ne_x_q : x ≠ q := hp_nn f_x hq_q
    have f_x := hp_k (e := (.inl (ct 0, ((tn.length) + 1) + 64, .inl (nf (fun _ => 0))))) ne_x_q f_x
    have ne_hg_q : hg ≠ q := hp_nn f_hg hq_q
    have f_hg := hp_k (e := (.inl (ct 0, ((tn.length) + 1) + 64, .inl (nf (fun _ => 0))))) ne_hg_q f_hg
    have ne_t_q : t ≠ q := hp_nn f_t hq_q
    have f_t := hp_k (e := (.inl (ct 0, ((tn.length) + 1) + 64, .inl (nf (fun _ => 0))))) ne_t_q f_t
    have f_q : hp_up M q (.inl (ct 0, ((tn.length) + 1) + 64, .inl (nf (fun _ => 0)))) q = some (.inl (ct 0, ((tn.length) + 1) + 64, .inl (nf (fun _ => 0)))) := hp_us
    obtain ⟨M2, eM2⟩ : ∃ z, z = hp_up M q (.inl (ct 0, ((tn.length) + 1) + 64, .inl (nf (fun _ => 0)))) := ⟨_, rfl⟩
    rw [← eM2] at hM f_x f_hg f_t f_q
    refine lv_astore_n (lv' := [(3, .ref q), (0, .ref x), (1, .ref t), (2, .int (nI k))]) hx hb d_AD_bodyOf_21 rfl hl (by decide) rfl (fun ls hl => ?_)
    refine lv_iconst (v := nI 0) hx hb d_AD_bodyOf_22 rfl ?_
    refine lv_istore (lv' := [(4, .int (nI 0)), (3, .ref q), (0, .ref x), (1, .ref t), (2, .int (nI k))]) hx hb d_AD_bodyOf_23 hl (by decide) rfl (fun ls hl => ?_)
    have h13 : k = 1 ∨ k = 3 := by omega
    replace hl : lv_has ls 5 [(0, .ref x), (1, .ref t), (3, .ref q), (4, .int (nI 0))] := lv_sub hl [2, 3, 1, 0] rfl
    obtain ⟨j, e9j⟩ : ∃ z : Nat, z = 0 := ⟨_, rfl⟩
    obtain ⟨gq, e9gq⟩ : ∃ z : Nat → Nat, z = fun _ => 0 := ⟨_, rfl⟩
    replace hl : lv_has ls 5 [(0, .ref x), (1, .ref t), (3, .ref q), (4, .int (nI j))] := by subst e9j e9gq; exact hl
    obtain ⟨locs, e9L⟩ : ∃ z : List Loc, z = [] := ⟨_, rfl⟩
    replace hS : va_S (hp_A M sz) s.heap H locs := by rw [e9L]; exact hS
    rw [← e9L]
    clear e9L
    obtain ⟨N3, e9N3⟩ : ∃ z : hp_M, z = M2 := ⟨_, rfl⟩
    replace hM : hp_H D ccl (hp_A M sz) N3 H := by rw [e9N3]; exact hM
    replace f_x : N3 x = some (.inr (0, [.ref xt, .ref sh, .ref ac, .int (nI na), .ref al, .int (nI nl), .ref sc, .ref hg])) := by rw [e9N3]; exact f_x
    replace f_hg : N3 hg = some (.inl (ct 0, 64, .inl (tx hd))) := by rw [e9N3]; exact f_hg
    replace f_t : N3 t = some (.inl (ct 0, tn.length, .inl (tx tn))) := by rw [e9N3]; exact f_t
    replace f_q : N3 q = some (.inl (ct 0, ((tn.length) + 1) + 64, .inl (nf (fun _ => 0)))) := by rw [e9N3]; exact f_q
    replace f_q : N3 q = some (.inl (ct 0, (tn.length + 1) + 64, .inl (nf gq))) := by subst e9j e9gq; exact f_q
    have hN : N3 = hp_up M q (.inl (ct 0, (tn.length + 1) + 64, .inl (nf gq))) := by subst e9j e9gq; exact e9N3.trans eM2
    have hgq : ∀ i, gq i = if i < j then tn.getD i 0 else 0 := by subst e9j e9gq; intro i; rw [if_neg (Nat.not_lt_zero i)]
    obtain ⟨fu, hn⟩ : ∃ fu : Nat, j + fu = tn.length := ⟨tn.length - j, by omega⟩
    clear e9j e9gq e9N3
    induction fu generalizing j gq H locs N3 ls with
    | zero =>
      have hn : j = tn.length := by omega
      subst hn
      refine lv_iload hx hb d_AD_bodyOf_25 (lv_at hl 3 rfl) ?_
      refine lv_aload_n hx hb d_AD_bodyOf_27 rfl (lv_at hl 1 rfl) ?_
      refine hp_alen S hK hM 0 f_t rfl d_AD_bodyOf_28 ?_
      refine nb_ge (tgt := 46) hx hb d_AD_bodyOf_29 (by decide) (by omega) (by omega) (fun h4 => ?_) (fun h4 => ?_)
      · refine lv_iconst (v := nI 0) hx hb d_AD_bodyOf_46 rfl ?_
        refine lv_istore (lv' := [(4, .int (nI 0)), (0, .ref x), (1, .ref t), (3, .ref q)]) hx hb d_AD_bodyOf_47 hl (by decide) rfl (fun ls hl => ?_)
        replace hl : lv_has ls 5 [(0, .ref x), (1, .ref t), (3, .ref q), (4, .int (nI 0))] := lv_sub hl [1, 2, 3, 0] rfl
        obtain ⟨i2, e9i2⟩ : ∃ z : Nat, z = 0 := ⟨_, rfl⟩
        obtain ⟨g2, e9g2⟩ : ∃ z : Nat → Nat, z = gq := ⟨_, rfl⟩
        replace hl : lv_has ls 5 [(0, .ref x), (1, .ref t), (3, .ref q), (4, .int (nI i2))] := by subst e9i2 e9g2; exact hl
        obtain ⟨N5, e9N5⟩ : ∃ z : hp_M, z = N3 := ⟨_, rfl⟩
        replace hM : hp_H D ccl (hp_A M sz) N5 H := by rw [e9N5]; exact hM
        replace f_x : N5 x = some (.inr (0, [.ref xt, .ref sh, .ref ac, .int (nI na), .ref al, .int (nI nl), .ref sc, .ref hg])) := by rw [e9N5]; exact f_x
        replace f_hg : N5 hg = some (.inl (ct 0, 64, .inl (tx hd))) := by rw [e9N5]; exact f_hg
        replace f_t : N5 t = some (.inl (ct 0, tn.length, .inl (tx tn))) := by rw [e9N5]; exact f_t
        replace f_q : N5 q = some (.inl (ct 0, (tn.length + 1) + 64, .inl (nf gq))) := by rw [e9N5]; exact f_q
        replace f_q : N5 q = some (.inl (ct 0, (tn.length + 1) + 64, .inl (nf g2))) := by subst e9i2 e9g2; exact f_q
        have hN2 : N5 = hp_up M q (.inl (ct 0, (tn.length + 1) + 64, .inl (nf g2))) := by subst e9i2 e9g2; exact e9N5.trans hN
        have hg2 : ∀ i, g2 i = if i < tn.length then tn.getD i 0 else if tn.length < i ∧ i < tn.length + 1 + i2 then hd.getD (i - tn.length - 1) 0 else 0 := by subst e9i2 e9g2; intro i; rw [hgq i]; by_cases z : i < tn.length; (rw [if_pos z, if_pos z]); (rw [if_neg z, if_neg z, if_neg (by omega)])
        obtain ⟨fu, hn⟩ : ∃ fu : Nat, i2 + fu = 64 := ⟨64 - i2, by omega⟩
        clear e9i2 e9g2 e9N5
        induction fu generalizing i2 g2 H locs N5 ls with
        | zero =>
          have hn : i2 = 64 := by omega
          subst hn
          have hlen : (tn ++ 0 :: hd).length = tn.length + 1 + 64 := by rw [List.length_append, List.length_cons, hdl]
          replace hM := hM.cong f_q (g := tx (tn ++ 0 :: hd)) (fun i hi => congrArg nI ((hg2 i).trans (body_at hdl hi)))
          rw [hN2, hp_uu] at hM
          refine lv_iload hx hb d_AD_bodyOf_49 (lv_at hl 3 rfl) ?_
          refine lv_bipush (v := nI 64) hx hb d_AD_bodyOf_51 rfl ?_
          refine nb_ge (tgt := 78) hx hb d_AD_bodyOf_53 (by decide) (by omega) (by omega) (fun h6 => ?_) (fun h6 => ?_)
          · refine lv_aload_n hx hb d_AD_bodyOf_78 rfl (lv_at hl 2 rfl) ?_
            exact hp_aret (some q) rfl S hret (Or.inr ⟨_, rfl⟩) hlk hM hS (Or.inl ⟨h13, q, rfl, hq_q, by rw [hlen]⟩) d_AD_bodyOf_79
          · exact absurd hn (by omega)
        | succ fu ih =>
          refine lv_iload hx hb d_AD_bodyOf_49 (lv_at hl 3 rfl) ?_
          refine lv_bipush (v := nI 64) hx hb d_AD_bodyOf_51 rfl ?_
          refine nb_ge (tgt := 78) hx hb d_AD_bodyOf_53 (by decide) (by omega) (by omega) (fun h7 => ?_) (fun h7 => ?_)
          · exact absurd hn (by omega)
          · refine lv_aload_n hx hb d_AD_bodyOf_56 rfl (lv_at hl 2 rfl) ?_
            refine lv_aload_n hx hb d_AD_bodyOf_57 rfl (lv_at hl 1 rfl) ?_
            refine hp_alen S hK hM 0 f_t rfl d_AD_bodyOf_58 ?_
            refine lv_iconst (v := nI 1) hx hb d_AD_bodyOf_59 rfl ?_
            refine nb_iadd hx hb d_AD_bodyOf_60 ?_
            refine lv_iload hx hb d_AD_bodyOf_61 (lv_at hl 3 rfl) ?_
            refine nb_iadd hx hb d_AD_bodyOf_63 ?_
            refine lv_aload_n hx hb d_AD_bodyOf_64 rfl (lv_at hl 0 rfl) ?_
            refine hp_get S hK hM i_AD f_x rfl 7 (by decide) mf_AD_46 (fun _ h9 => h9) rfl d_AD_bodyOf_65 ?_
            refine lv_iload hx hb d_AD_bodyOf_68 (lv_at hl 3 rfl) ?_
            refine hp_cald S hK hM 0 f_hg rfl i2 rfl (by omega) (by omega) d_AD_bodyOf_70 ?_
            refine hp_cast S hK hM hS 0 f_q rfl (((tn.length) + 1) + i2) rfl (by omega) (by omega) (nar_nI (hc_hd _)) d_AD_bodyOf_71 (fun H locs hM hS => ?_)
            rw [nf_up] at hM
            have f_x := hp_k (e := (.inl (ct 0, (tn.length + 1) + 64, .inl (nf (va_up g2 (((tn.length) + 1) + i2) (hd.getD i2 0)))))) ne_x_q f_x
            have f_hg := hp_k (e := (.inl (ct 0, (tn.length + 1) + 64, .inl (nf (va_up g2 (((tn.length) + 1) + i2) (hd.getD i2 0)))))) ne_hg_q f_hg
            have f_t := hp_k (e := (.inl (ct 0, (tn.length + 1) + 64, .inl (nf (va_up g2 (((tn.length) + 1) + i2) (hd.getD i2 0)))))) ne_t_q f_t
            have f_q : hp_up N5 q (.inl (ct 0, (tn.length + 1) + 64, .inl (nf (va_up g2 (((tn.length) + 1) + i2) (hd.getD i2 0))))) q = some (.inl (ct 0, (tn.length + 1) + 64, .inl (nf (va_up g2 (((tn.length) + 1) + i2) (hd.getD i2 0))))) := hp_us
            obtain ⟨M8, eM8⟩ : ∃ z, z = hp_up N5 q (.inl (ct 0, (tn.length + 1) + 64, .inl (nf (va_up g2 (((tn.length) + 1) + i2) (hd.getD i2 0))))) := ⟨_, rfl⟩
            rw [← eM8] at hM f_x f_hg f_t f_q
            refine lv_iinc (v := nI (i2 + 1)) (lv' := [(4, .int (nI (i2 + 1))), (0, .ref x), (1, .ref t), (3, .ref q)]) hx hb d_AD_bodyOf_72 hl (k := 3) rfl (nI_add i2 1) (by decide) rfl (fun ls hl => ?_)
            refine lv_goto (tgt := 49) hx hb d_AD_bodyOf_75 (by decide) ?_
            exact ih (ls := ls) (hl := lv_sub hl [1, 2, 3, 0] rfl) (i2 := i2 + 1) (hn := by omega) (g2 := va_up g2 ((tn.length + 1) + i2) (hd.getD i2 0)) (hN2 := by rw [eM8, hN2, hp_uu]) (hg2 := fun i => by by_cases z : i = tn.length + 1 + i2; (rw [z, up_s, if_neg (by omega), if_pos (by omega)]; congr 1; omega); (rw [up_n z, hg2 i]; by_cases y : i < tn.length; (rw [if_pos y, if_pos y]); (rw [if_neg y, if_neg y]; by_cases u : tn.length < i ∧ i < tn.length + 1 + i2; (rw [if_pos u, if_pos (by omega)]); (rw [if_neg u, if_neg (by omega)])))) (H := H) (locs := locs) (hM := hM) (hS := hS) (N5 := M8) (f_x := f_x) (f_hg := f_hg) (f_t := f_t) (f_q := f_q)
      · exact absurd hn (by omega)
    | succ fu ih =>
      refine lv_iload hx hb d_AD_bodyOf_25 (lv_at hl 3 rfl) ?_
      refine lv_aload_n hx hb d_AD_bodyOf_27 rfl (lv_at hl 1 rfl) ?_
      refine hp_alen S hK hM 0 f_t rfl d_AD_bodyOf_28 ?_
      refine nb_ge (tgt := 46) hx hb d_AD_bodyOf_29 (by decide) (by omega) (by omega) (fun h9 => ?_) (fun h9 => ?_)
      · exact absurd hn (by omega)
      · refine lv_aload_n hx hb d_AD_bodyOf_32 rfl (lv_at hl 2 rfl) ?_
        refine lv_iload hx hb d_AD_bodyOf_33 (lv_at hl 3 rfl) ?_
        refine lv_aload_n hx hb d_AD_bodyOf_35 rfl (lv_at hl 1 rfl) ?_
        refine lv_iload hx hb d_AD_bodyOf_36 (lv_at hl 3 rfl) ?_
        refine hp_cald S hK hM 0 f_t rfl j rfl (by omega) (by omega) d_AD_bodyOf_38 ?_
        refine hp_cast S hK hM hS 0 f_q rfl j rfl (by omega) (by omega) (nar_nI (hc_tn _)) d_AD_bodyOf_39 (fun H locs hM hS => ?_)
        rw [nf_up] at hM
        have f_x := hp_k (e := (.inl (ct 0, (tn.length + 1) + 64, .inl (nf (va_up gq j (tn.getD j 0)))))) ne_x_q f_x
        have f_hg := hp_k (e := (.inl (ct 0, (tn.length + 1) + 64, .inl (nf (va_up gq j (tn.getD j 0)))))) ne_hg_q f_hg
        have f_t := hp_k (e := (.inl (ct 0, (tn.length + 1) + 64, .inl (nf (va_up gq j (tn.getD j 0)))))) ne_t_q f_t
        have f_q : hp_up N3 q (.inl (ct 0, (tn.length + 1) + 64, .inl (nf (va_up gq j (tn.getD j 0))))) q = some (.inl (ct 0, (tn.length + 1) + 64, .inl (nf (va_up gq j (tn.getD j 0))))) := hp_us
        obtain ⟨M10, eM10⟩ : ∃ z, z = hp_up N3 q (.inl (ct 0, (tn.length + 1) + 64, .inl (nf (va_up gq j (tn.getD j 0))))) := ⟨_, rfl⟩
        rw [← eM10] at hM f_x f_hg f_t f_q
        refine lv_iinc (v := nI (j + 1)) (lv' := [(4, .int (nI (j + 1))), (0, .ref x), (1, .ref t), (3, .ref q)]) hx hb d_AD_bodyOf_40 hl (k := 3) rfl (nI_add j 1) (by decide) rfl (fun ls hl => ?_)
        refine lv_goto (tgt := 25) hx hb d_AD_bodyOf_43 (by decide) ?_
        exact ih (ls := ls) (hl := lv_sub hl [1, 2, 3, 0] rfl) (j := j + 1) (hn := by omega) (gq := va_up gq j (tn.getD j 0)) (hN := by rw [eM10, hN, hp_uu]) (hgq := fun i => by by_cases z : i = j; (rw [z, up_s, if_pos (Nat.lt_succ_self j)]); (rw [up_n z, hgq i]; by_cases y : i < j; (rw [if_pos y, if_pos (by omega)]); (rw [if_neg y, if_neg (by omega)]))) (H := H) (locs := locs) (hM := hM) (hS := hS) (N3 := M10) (f_x := f_x) (f_hg := f_hg) (f_t := f_t) (f_q := f_q)
  · refine lv_iload_n hx hb d_AD_bodyOf_5 rfl (lv_at hl 2 rfl) ?_
    refine lv_iconst (v := nI 3) hx hb d_AD_bodyOf_6 rfl ?_
    refine nb_eq (tgt := 12) hx hb d_AD_bodyOf_7 (by decide) (by omega) (by omega) (fun h11 => ?_) (fun h11 => ?_)
    · refine lv_aload_n hx hb d_AD_bodyOf_12 rfl (lv_at hl 1 rfl) ?_
      refine hp_alen S hK hM 0 f_t rfl d_AD_bodyOf_13 ?_
      refine lv_iconst (v := nI 1) hx hb d_AD_bodyOf_14 rfl ?_
      refine nb_iadd hx hb d_AD_bodyOf_15 ?_
      refine lv_bipush (v := nI 64) hx hb d_AD_bodyOf_16 rfl ?_
      refine nb_iadd hx hb d_AD_bodyOf_18 ?_
      refine hp_newi S hK hM hS hA (atype := .char) rfl ma_char 0 rfl rfl (by decide) (((tn.length) + 1) + 64) rfl (by omega) (by decide) (by show 0 + ((tn.length) + 1) + 64 ≤ 129; omega) d_AD_bodyOf_19 (fun q H hq_q hM hS => ?_)
      refine W.widen (k := 1) (n := 129) (by omega) (by omega) ?_
      rw [nf_0] at hM
      have ne_x_q : x ≠ q := hp_nn f_x hq_q
      have f_x := hp_k (e := (.inl (ct 0, ((tn.length) + 1) + 64, .inl (nf (fun _ => 0))))) ne_x_q f_x
      have ne_hg_q : hg ≠ q := hp_nn f_hg hq_q
      have f_hg := hp_k (e := (.inl (ct 0, ((tn.length) + 1) + 64, .inl (nf (fun _ => 0))))) ne_hg_q f_hg
      have ne_t_q : t ≠ q := hp_nn f_t hq_q
      have f_t := hp_k (e := (.inl (ct 0, ((tn.length) + 1) + 64, .inl (nf (fun _ => 0))))) ne_t_q f_t
      have f_q : hp_up M q (.inl (ct 0, ((tn.length) + 1) + 64, .inl (nf (fun _ => 0)))) q = some (.inl (ct 0, ((tn.length) + 1) + 64, .inl (nf (fun _ => 0)))) := hp_us
      obtain ⟨M12, eM12⟩ : ∃ z, z = hp_up M q (.inl (ct 0, ((tn.length) + 1) + 64, .inl (nf (fun _ => 0)))) := ⟨_, rfl⟩
      rw [← eM12] at hM f_x f_hg f_t f_q
      refine lv_astore_n (lv' := [(3, .ref q), (0, .ref x), (1, .ref t), (2, .int (nI k))]) hx hb d_AD_bodyOf_21 rfl hl (by decide) rfl (fun ls hl => ?_)
      refine lv_iconst (v := nI 0) hx hb d_AD_bodyOf_22 rfl ?_
      refine lv_istore (lv' := [(4, .int (nI 0)), (3, .ref q), (0, .ref x), (1, .ref t), (2, .int (nI k))]) hx hb d_AD_bodyOf_23 hl (by decide) rfl (fun ls hl => ?_)
      have h13 : k = 1 ∨ k = 3 := by omega
      replace hl : lv_has ls 5 [(0, .ref x), (1, .ref t), (3, .ref q), (4, .int (nI 0))] := lv_sub hl [2, 3, 1, 0] rfl
      obtain ⟨j, e9j⟩ : ∃ z : Nat, z = 0 := ⟨_, rfl⟩
      obtain ⟨gq, e9gq⟩ : ∃ z : Nat → Nat, z = fun _ => 0 := ⟨_, rfl⟩
      replace hl : lv_has ls 5 [(0, .ref x), (1, .ref t), (3, .ref q), (4, .int (nI j))] := by subst e9j e9gq; exact hl
      obtain ⟨locs, e9L⟩ : ∃ z : List Loc, z = [] := ⟨_, rfl⟩
      replace hS : va_S (hp_A M sz) s.heap H locs := by rw [e9L]; exact hS
      rw [← e9L]
      clear e9L
      obtain ⟨N13, e9N13⟩ : ∃ z : hp_M, z = M12 := ⟨_, rfl⟩
      replace hM : hp_H D ccl (hp_A M sz) N13 H := by rw [e9N13]; exact hM
      replace f_x : N13 x = some (.inr (0, [.ref xt, .ref sh, .ref ac, .int (nI na), .ref al, .int (nI nl), .ref sc, .ref hg])) := by rw [e9N13]; exact f_x
      replace f_hg : N13 hg = some (.inl (ct 0, 64, .inl (tx hd))) := by rw [e9N13]; exact f_hg
      replace f_t : N13 t = some (.inl (ct 0, tn.length, .inl (tx tn))) := by rw [e9N13]; exact f_t
      replace f_q : N13 q = some (.inl (ct 0, ((tn.length) + 1) + 64, .inl (nf (fun _ => 0)))) := by rw [e9N13]; exact f_q
      replace f_q : N13 q = some (.inl (ct 0, (tn.length + 1) + 64, .inl (nf gq))) := by subst e9j e9gq; exact f_q
      have hN : N13 = hp_up M q (.inl (ct 0, (tn.length + 1) + 64, .inl (nf gq))) := by subst e9j e9gq; exact e9N13.trans eM12
      have hgq : ∀ i, gq i = if i < j then tn.getD i 0 else 0 := by subst e9j e9gq; intro i; rw [if_neg (Nat.not_lt_zero i)]
      obtain ⟨fu, hn⟩ : ∃ fu : Nat, j + fu = tn.length := ⟨tn.length - j, by omega⟩
      clear e9j e9gq e9N13
      induction fu generalizing j gq H locs N13 ls with
      | zero =>
        have hn : j = tn.length := by omega
        subst hn
        refine lv_iload hx hb d_AD_bodyOf_25 (lv_at hl 3 rfl) ?_
        refine lv_aload_n hx hb d_AD_bodyOf_27 rfl (lv_at hl 1 rfl) ?_
        refine hp_alen S hK hM 0 f_t rfl d_AD_bodyOf_28 ?_
        refine nb_ge (tgt := 46) hx hb d_AD_bodyOf_29 (by decide) (by omega) (by omega) (fun h14 => ?_) (fun h14 => ?_)
        · refine lv_iconst (v := nI 0) hx hb d_AD_bodyOf_46 rfl ?_
          refine lv_istore (lv' := [(4, .int (nI 0)), (0, .ref x), (1, .ref t), (3, .ref q)]) hx hb d_AD_bodyOf_47 hl (by decide) rfl (fun ls hl => ?_)
          replace hl : lv_has ls 5 [(0, .ref x), (1, .ref t), (3, .ref q), (4, .int (nI 0))] := lv_sub hl [1, 2, 3, 0] rfl
          obtain ⟨i2, e9i2⟩ : ∃ z : Nat, z = 0 := ⟨_, rfl⟩
          obtain ⟨g2, e9g2⟩ : ∃ z : Nat → Nat, z = gq := ⟨_, rfl⟩
          replace hl : lv_has ls 5 [(0, .ref x), (1, .ref t), (3, .ref q), (4, .int (nI i2))] := by subst e9i2 e9g2; exact hl
          obtain ⟨N15, e9N15⟩ : ∃ z : hp_M, z = N13 := ⟨_, rfl⟩
          replace hM : hp_H D ccl (hp_A M sz) N15 H := by rw [e9N15]; exact hM
          replace f_x : N15 x = some (.inr (0, [.ref xt, .ref sh, .ref ac, .int (nI na), .ref al, .int (nI nl), .ref sc, .ref hg])) := by rw [e9N15]; exact f_x
          replace f_hg : N15 hg = some (.inl (ct 0, 64, .inl (tx hd))) := by rw [e9N15]; exact f_hg
          replace f_t : N15 t = some (.inl (ct 0, tn.length, .inl (tx tn))) := by rw [e9N15]; exact f_t
          replace f_q : N15 q = some (.inl (ct 0, (tn.length + 1) + 64, .inl (nf gq))) := by rw [e9N15]; exact f_q
          replace f_q : N15 q = some (.inl (ct 0, (tn.length + 1) + 64, .inl (nf g2))) := by subst e9i2 e9g2; exact f_q
          have hN2 : N15 = hp_up M q (.inl (ct 0, (tn.length + 1) + 64, .inl (nf g2))) := by subst e9i2 e9g2; exact e9N15.trans hN
          have hg2 : ∀ i, g2 i = if i < tn.length then tn.getD i 0 else if tn.length < i ∧ i < tn.length + 1 + i2 then hd.getD (i - tn.length - 1) 0 else 0 := by subst e9i2 e9g2; intro i; rw [hgq i]; by_cases z : i < tn.length; (rw [if_pos z, if_pos z]); (rw [if_neg z, if_neg z, if_neg (by omega)])
          obtain ⟨fu, hn⟩ : ∃ fu : Nat, i2 + fu = 64 := ⟨64 - i2, by omega⟩
          clear e9i2 e9g2 e9N15
          induction fu generalizing i2 g2 H locs N15 ls with
          | zero =>
            have hn : i2 = 64 := by omega
            subst hn
            have hlen : (tn ++ 0 :: hd).length = tn.length + 1 + 64 := by rw [List.length_append, List.length_cons, hdl]
            replace hM := hM.cong f_q (g := tx (tn ++ 0 :: hd)) (fun i hi => congrArg nI ((hg2 i).trans (body_at hdl hi)))
            rw [hN2, hp_uu] at hM
            refine lv_iload hx hb d_AD_bodyOf_49 (lv_at hl 3 rfl) ?_
            refine lv_bipush (v := nI 64) hx hb d_AD_bodyOf_51 rfl ?_
            refine nb_ge (tgt := 78) hx hb d_AD_bodyOf_53 (by decide) (by omega) (by omega) (fun h16 => ?_) (fun h16 => ?_)
            · refine lv_aload_n hx hb d_AD_bodyOf_78 rfl (lv_at hl 2 rfl) ?_
              exact hp_aret (some q) rfl S hret (Or.inr ⟨_, rfl⟩) hlk hM hS (Or.inl ⟨h13, q, rfl, hq_q, by rw [hlen]⟩) d_AD_bodyOf_79
            · exact absurd hn (by omega)
          | succ fu ih =>
            refine lv_iload hx hb d_AD_bodyOf_49 (lv_at hl 3 rfl) ?_
            refine lv_bipush (v := nI 64) hx hb d_AD_bodyOf_51 rfl ?_
            refine nb_ge (tgt := 78) hx hb d_AD_bodyOf_53 (by decide) (by omega) (by omega) (fun h17 => ?_) (fun h17 => ?_)
            · exact absurd hn (by omega)
            · refine lv_aload_n hx hb d_AD_bodyOf_56 rfl (lv_at hl 2 rfl) ?_
              refine lv_aload_n hx hb d_AD_bodyOf_57 rfl (lv_at hl 1 rfl) ?_
              refine hp_alen S hK hM 0 f_t rfl d_AD_bodyOf_58 ?_
              refine lv_iconst (v := nI 1) hx hb d_AD_bodyOf_59 rfl ?_
              refine nb_iadd hx hb d_AD_bodyOf_60 ?_
              refine lv_iload hx hb d_AD_bodyOf_61 (lv_at hl 3 rfl) ?_
              refine nb_iadd hx hb d_AD_bodyOf_63 ?_
              refine lv_aload_n hx hb d_AD_bodyOf_64 rfl (lv_at hl 0 rfl) ?_
              refine hp_get S hK hM i_AD f_x rfl 7 (by decide) mf_AD_46 (fun _ h9 => h9) rfl d_AD_bodyOf_65 ?_
              refine lv_iload hx hb d_AD_bodyOf_68 (lv_at hl 3 rfl) ?_
              refine hp_cald S hK hM 0 f_hg rfl i2 rfl (by omega) (by omega) d_AD_bodyOf_70 ?_
              refine hp_cast S hK hM hS 0 f_q rfl (((tn.length) + 1) + i2) rfl (by omega) (by omega) (nar_nI (hc_hd _)) d_AD_bodyOf_71 (fun H locs hM hS => ?_)
              rw [nf_up] at hM
              have f_x := hp_k (e := (.inl (ct 0, (tn.length + 1) + 64, .inl (nf (va_up g2 (((tn.length) + 1) + i2) (hd.getD i2 0)))))) ne_x_q f_x
              have f_hg := hp_k (e := (.inl (ct 0, (tn.length + 1) + 64, .inl (nf (va_up g2 (((tn.length) + 1) + i2) (hd.getD i2 0)))))) ne_hg_q f_hg
              have f_t := hp_k (e := (.inl (ct 0, (tn.length + 1) + 64, .inl (nf (va_up g2 (((tn.length) + 1) + i2) (hd.getD i2 0)))))) ne_t_q f_t
              have f_q : hp_up N15 q (.inl (ct 0, (tn.length + 1) + 64, .inl (nf (va_up g2 (((tn.length) + 1) + i2) (hd.getD i2 0))))) q = some (.inl (ct 0, (tn.length + 1) + 64, .inl (nf (va_up g2 (((tn.length) + 1) + i2) (hd.getD i2 0))))) := hp_us
              obtain ⟨M18, eM18⟩ : ∃ z, z = hp_up N15 q (.inl (ct 0, (tn.length + 1) + 64, .inl (nf (va_up g2 (((tn.length) + 1) + i2) (hd.getD i2 0))))) := ⟨_, rfl⟩
              rw [← eM18] at hM f_x f_hg f_t f_q
              refine lv_iinc (v := nI (i2 + 1)) (lv' := [(4, .int (nI (i2 + 1))), (0, .ref x), (1, .ref t), (3, .ref q)]) hx hb d_AD_bodyOf_72 hl (k := 3) rfl (nI_add i2 1) (by decide) rfl (fun ls hl => ?_)
              refine lv_goto (tgt := 49) hx hb d_AD_bodyOf_75 (by decide) ?_
              exact ih (ls := ls) (hl := lv_sub hl [1, 2, 3, 0] rfl) (i2 := i2 + 1) (hn := by omega) (g2 := va_up g2 ((tn.length + 1) + i2) (hd.getD i2 0)) (hN2 := by rw [eM18, hN2, hp_uu]) (hg2 := fun i => by by_cases z : i = tn.length + 1 + i2; (rw [z, up_s, if_neg (by omega), if_pos (by omega)]; congr 1; omega); (rw [up_n z, hg2 i]; by_cases y : i < tn.length; (rw [if_pos y, if_pos y]); (rw [if_neg y, if_neg y]; by_cases u : tn.length < i ∧ i < tn.length + 1 + i2; (rw [if_pos u, if_pos (by omega)]); (rw [if_neg u, if_neg (by omega)])))) (H := H) (locs := locs) (hM := hM) (hS := hS) (N15 := M18) (f_x := f_x) (f_hg := f_hg) (f_t := f_t) (f_q := f_q)
        · exact absurd hn (by omega)
      | succ fu ih =>
        refine lv_iload hx hb d_AD_bodyOf_25 (lv_at hl 3 rfl) ?_
        refine lv_aload_n hx hb d_AD_bodyOf_27 rfl (lv_at hl 1 rfl) ?_
        refine hp_alen S hK hM 0 f_t rfl d_AD_bodyOf_28 ?_
        refine nb_ge (tgt := 46) hx hb d_AD_bodyOf_29 (by decide) (by omega) (by omega) (fun h19 => ?_) (fun h19 => ?_)
        · exact absurd hn (by omega)
        · refine lv_aload_n hx hb d_AD_bodyOf_32 rfl (lv_at hl 2 rfl) ?_
          refine lv_iload hx hb d_AD_bodyOf_33 (lv_at hl 3 rfl) ?_
          refine lv_aload_n hx hb d_AD_bodyOf_35 rfl (lv_at hl 1 rfl) ?_
          refine lv_iload hx hb d_AD_bodyOf_36 (lv_at hl 3 rfl) ?_
          refine hp_cald S hK hM 0 f_t rfl j rfl (by omega) (by omega) d_AD_bodyOf_38 ?_
          refine hp_cast S hK hM hS 0 f_q rfl j rfl (by omega) (by omega) (nar_nI (hc_tn _)) d_AD_bodyOf_39 (fun H locs hM hS => ?_)
          rw [nf_up] at hM
          have f_x := hp_k (e := (.inl (ct 0, (tn.length + 1) + 64, .inl (nf (va_up gq j (tn.getD j 0)))))) ne_x_q f_x
          have f_hg := hp_k (e := (.inl (ct 0, (tn.length + 1) + 64, .inl (nf (va_up gq j (tn.getD j 0)))))) ne_hg_q f_hg
          have f_t := hp_k (e := (.inl (ct 0, (tn.length + 1) + 64, .inl (nf (va_up gq j (tn.getD j 0)))))) ne_t_q f_t
          have f_q : hp_up N13 q (.inl (ct 0, (tn.length + 1) + 64, .inl (nf (va_up gq j (tn.getD j 0))))) q = some (.inl (ct 0, (tn.length + 1) + 64, .inl (nf (va_up gq j (tn.getD j 0))))) := hp_us
          obtain ⟨M20, eM20⟩ : ∃ z, z = hp_up N13 q (.inl (ct 0, (tn.length + 1) + 64, .inl (nf (va_up gq j (tn.getD j 0))))) := ⟨_, rfl⟩
          rw [← eM20] at hM f_x f_hg f_t f_q
          refine lv_iinc (v := nI (j + 1)) (lv' := [(4, .int (nI (j + 1))), (0, .ref x), (1, .ref t), (3, .ref q)]) hx hb d_AD_bodyOf_40 hl (k := 3) rfl (nI_add j 1) (by decide) rfl (fun ls hl => ?_)
          refine lv_goto (tgt := 25) hx hb d_AD_bodyOf_43 (by decide) ?_
          exact ih (ls := ls) (hl := lv_sub hl [1, 2, 3, 0] rfl) (j := j + 1) (hn := by omega) (gq := va_up gq j (tn.getD j 0)) (hN := by rw [eM20, hN, hp_uu]) (hgq := fun i => by by_cases z : i = j; (rw [z, up_s, if_pos (Nat.lt_succ_self j)]); (rw [up_n z, hgq i]; by_cases y : i < j; (rw [if_pos y, if_pos (by omega)]); (rw [if_neg y, if_neg (by omega)]))) (H := H) (locs := locs) (hM := hM) (hS := hS) (N13 := M20) (f_x := f_x) (f_hg := f_hg) (f_t := f_t) (f_q := f_q)
    · refine lv_aload_n hx hb d_AD_bodyOf_10 rfl (lv_at hl 1 rfl) ?_
      refine W.widen (k := 1) (n := 129) (by decide) (by decide) ?_
      exact hp_aret (some t) rfl S hret (Or.inr ⟨_, rfl⟩) hlk hM hS (Or.inr ⟨by omega, rfl, rfl⟩) d_AD_bodyOf_11
set_option maxHeartbeats 4000000 in
set_option maxRecDepth 100000 in
/-- eight digits -/
theorem c_AD_editionDigits (l : Launch) (D : va_G) (ct : Nat → ClassId) (Z : hp_Z) (hZ : hp_Zok Z) (M : hp_M) (sz : Nat) (n : Nat) (hn8 : n ≤ 99999999) : Mq l y_AD_editionDigits b_AD_editionDigits 4 (some (.array .char)) 0 0 1 8 [.int (nI n)] D ct Z M sz (fun r M1 => ∃ q, r = some q ∧ M q = none ∧ M1 = hp_up M q (.inl (ct 0, (edL n).length, .inl (tx (edL n))))) := by
  refine hp_start (by decide) (Nat.le_of_ble_eq_true rfl) (fun p e s m below meth c ls S hret hlk hnm hsz hK hM hS hA hz hl => ?_)
  have hx := S.1
  have hb := S.2.1
  have hl : lv_has ls 4 [(0, .int (nI n))] := hl
  refine lv_bipush (v := nI 8) hx hb d_AD_editionDigits_0 rfl ?_
  refine hp_newi S hK hM hS hA (atype := .char) rfl ma_char 0 rfl rfl (by decide) 8 rfl (by omega) (by decide) (by decide) d_AD_editionDigits_2 (fun q H hq_q hM hS => ?_)
  refine W.widen (k := 1) (n := 8) (by omega) (by omega) ?_
  rw [nf_0] at hM
  have f_q : hp_up M q (.inl (ct 0, 8, .inl (nf (fun _ => 0)))) q = some (.inl (ct 0, 8, .inl (nf (fun _ => 0)))) := hp_us
  obtain ⟨M1, eM1⟩ : ∃ z, z = hp_up M q (.inl (ct 0, 8, .inl (nf (fun _ => 0)))) := ⟨_, rfl⟩
  rw [← eM1] at hM f_q
  refine lv_astore_n (lv' := [(1, .ref q), (0, .int (nI n))]) hx hb d_AD_editionDigits_4 rfl hl (by decide) rfl (fun ls hl => ?_)
  refine lv_iload_n hx hb d_AD_editionDigits_5 rfl (lv_at hl 1 rfl) ?_
  refine lv_istore_n (lv' := [(2, .int (nI n)), (1, .ref q), (0, .int (nI n))]) hx hb d_AD_editionDigits_6 rfl hl (by decide) rfl (fun ls hl => ?_)
  refine lv_bipush (v := nI 7) hx hb d_AD_editionDigits_7 rfl ?_
  refine lv_istore_n (lv' := [(3, .int (nI 7)), (2, .int (nI n)), (1, .ref q), (0, .int (nI n))]) hx hb d_AD_editionDigits_9 rfl hl (by decide) rfl (fun ls hl => ?_)
  replace hl : lv_has ls 4 [(1, .ref q), (2, .int (nI n)), (3, .int (nI 7))] := lv_sub hl [2, 1, 0] rfl
  obtain ⟨locs, e9L⟩ : ∃ z : List Loc, z = [] := ⟨_, rfl⟩
  replace hS : va_S (hp_A M sz) s.heap H locs := by rw [e9L]; exact hS
  rw [← e9L]
  clear e9L
  obtain ⟨u, e9u⟩ : ∃ z : Nat, z = 8 := ⟨_, rfl⟩
  obtain ⟨lf, e9f⟩ : ∃ z : Nat, z = n := ⟨_, rfl⟩
  obtain ⟨gq, e9g⟩ : ∃ z : Nat → Nat, z = fun _ => 0 := ⟨_, rfl⟩
  replace hl : lv_has ls 4 [(1, .ref q), (2, .int (nI lf)), (3, .int (nI u - nI 1))] := by subst e9u e9f; exact hl
  obtain ⟨N, e9N⟩ : ∃ z : hp_M, z = M1 := ⟨_, rfl⟩
  replace hM : hp_H D ccl (hp_A M sz) N H := by rw [e9N]; exact hM
  replace f_q : N q = some (.inl (ct 0, 8, .inl (nf gq))) := by rw [e9N, e9g]; exact f_q
  have hN : N = hp_up M q (.inl (ct 0, 8, .inl (nf gq))) := by rw [e9N, e9g]; exact eM1
  have hu : u ≤ 8 := by omega
  have hlf : lf = n / 10 ^ (8 - u) := by rw [e9u, e9f]; simp
  have hgq : ∀ k, u ≤ k → k < 8 → gq k = 48 + n / 10 ^ (7 - k) % 10 := fun k h1 h2 => by omega
  have hlb : lf ≤ 99999999 := by omega
  clear e9u e9f e9g e9N
  induction u generalizing lf gq N H locs ls with
  | zero =>
    replace hM := hM.cong f_q (g := tx (edL n)) (fun i hi => congrArg nI ((hgq i (Nat.zero_le i) hi).trans (edL_at hi).symm))
    rw [hN, hp_uu] at hM
    refine lv_iload_n hx hb d_AD_editionDigits_10 rfl (lv_at hl 2 rfl) ?_
    refine lv_if_lt (tgt := 36) hx hb d_AD_editionDigits_11 (by decide) (fun h2 => ?_) (fun h2 => ?_)
    · refine lv_aload_n hx hb d_AD_editionDigits_36 rfl (lv_at hl 0 rfl) ?_
      exact hp_aret (some q) rfl S hret (Or.inr ⟨_, rfl⟩) hlk hM hS (⟨q, rfl, hq_q, rfl⟩) d_AD_editionDigits_37
    · exact absurd (by decide) h2
  | succ u ih =>
    replace hl : lv_has ls 4 [(1, .ref q), (2, .int (nI lf)), (3, .int (nI u))] := by rw [show nI u = nI (u + 1) - nI 1 by rw [pk_sub (by omega)]; rfl]; exact hl
    refine lv_iload_n hx hb d_AD_editionDigits_10 rfl (lv_at hl 2 rfl) ?_
    refine nz_lt (tgt := 36) hx hb d_AD_editionDigits_11 (by decide) (by omega) (fun h3 => ?_) (fun h3 => ?_)
    · exact absurd h3 (fun q => q)
    · refine lv_aload_n hx hb d_AD_editionDigits_14 rfl (lv_at hl 0 rfl) ?_
      refine lv_iload_n hx hb d_AD_editionDigits_15 rfl (lv_at hl 2 rfl) ?_
      refine lv_bipush (v := nI 48) hx hb d_AD_editionDigits_16 rfl ?_
      refine lv_iload_n hx hb d_AD_editionDigits_18 rfl (lv_at hl 1 rfl) ?_
      refine lv_bipush (v := nI 10) hx hb d_AD_editionDigits_19 rfl ?_
      refine nb_irem hx hb d_AD_editionDigits_21 (by omega) (by omega) (by omega) ?_
      refine nb_iadd hx hb d_AD_editionDigits_22 ?_
      refine lv_i2c hx hb d_AD_editionDigits_23 (i2c_nI (by omega)) ?_
      refine hp_cast S hK hM hS 0 f_q rfl u rfl (by omega) (by omega) (nar_nI (by omega)) d_AD_editionDigits_24 (fun H locs hM hS => ?_)
      rw [nf_up] at hM
      have f_q : hp_up N q (.inl (ct 0, 8, .inl (nf (va_up gq u (48 + (lf % 10)))))) q = some (.inl (ct 0, 8, .inl (nf (va_up gq u (48 + (lf % 10)))))) := hp_us
      obtain ⟨M4, eM4⟩ : ∃ z, z = hp_up N q (.inl (ct 0, 8, .inl (nf (va_up gq u (48 + (lf % 10)))))) := ⟨_, rfl⟩
      rw [← eM4] at hM f_q
      refine lv_iload_n hx hb d_AD_editionDigits_25 rfl (lv_at hl 1 rfl) ?_
      refine lv_bipush (v := nI 10) hx hb d_AD_editionDigits_26 rfl ?_
      refine nb_idiv hx hb d_AD_editionDigits_28 (by omega) (by omega) (by omega) ?_
      refine lv_istore_n (lv' := [(2, .int (nI (lf / 10))), (1, .ref q), (3, .int (nI u))]) hx hb d_AD_editionDigits_29 rfl hl (by decide) rfl (fun ls hl => ?_)
      refine lv_iinc (v := nI u - nI 1) (lv' := [(3, .int (nI u - nI 1)), (2, .int (nI (lf / 10))), (1, .ref q)]) hx hb d_AD_editionDigits_30 hl (k := 2) rfl (iinc_m1 _) (by decide) rfl (fun ls hl => ?_)
      refine lv_goto (tgt := 10) hx hb d_AD_editionDigits_33 (by decide) ?_
      exact ih (lf := lf / 10) (gq := va_up gq u (48 + lf % 10)) (N := M4) (H := H) (locs := locs) (ls := ls) (hl := lv_sub hl [2, 1, 0] rfl) (hM := hM) (hS := hS) (f_q := f_q) (hN := by rw [eM4, hN, hp_uu]) (hu := by omega) (hlf := by rw [hlf, Nat.div_div_eq_div_mul, ← Nat.pow_succ]; congr 2; omega) (hgq := fun k h1 h2 => by by_cases z : k = u; (rw [z, up_s, hlf]; congr 3; congr 1; omega); (rw [up_n z]; exact hgq k (by omega) h2)) (hlb := by omega)
end
section
/-! THE CLASS'S WORLD: one object with all that hangs on it -/
abbrev fzc (ch hg : Nat) : Nat → Prop := fun q => q ≠ ch ∧ q ≠ hg
/-- Keys, Rows, frozen characters, actions and arrays of references stay -/
def kq (ct : Nat → ClassId) (fz : Nat → Prop) (M M1 : hp_M) : Prop := stab ct fz M M1 ∧ (∀ (q : Nat) (fs : List Value), M q = some (.inr (3, fs)) → M1 q = some (.inr (3, fs))) ∧ ∀ (q : Nat) (c : ClassId) (n : Nat) (f : Nat → Option Nat), M q = some (.inl (c, n, .inr (.inr (.inr (.inr f))))) → M1 q = some (.inl (c, n, .inr (.inr (.inr (.inr f)))))
theorem kq.tr {ct : Nat → ClassId} {fz : Nat → Prop} {M M1 M2 : hp_M} (h : kq ct fz M M1) (g : kq ct fz M1 M2) : kq ct fz M M2 := ⟨h.1.tr g.1, fun q fs h1 => g.2.1 q fs (h.2.1 q fs h1), fun q c n f h1 => g.2.2 q c n f (h.2.2 q c n f h1)⟩
theorem kq_rf {ct : Nat → ClassId} {fz : Nat → Prop} {M : hp_M} : kq ct fz M M := ⟨stab_rf, fun _ _ h => h, fun _ _ _ _ h => h⟩
theorem kq_sh {ct : Nat → ClassId} {fz : Nat → Prop} {M : hp_M} {sh su wo : Nat} {Y X : ShT} (hne : ct 0 ≠ ct 1) (h : shOk ct M sh su wo Y) : kq ct fz M (shM ct M sh su wo X) := by
  have k := kp_sh (fz := fz) (X := X) hne h
  exact ⟨k.1, fun q fs h1 => k.2.1 q 3 fs (Or.inr rfl) h1, k.2.2⟩
theorem kq_c {ct : Nat → ClassId} {fz : Nat → Prop} {M : hp_M} {a n : Nat} {f : Nat → Int32} {E : va_E} (h : M a = some (.inl (ct 0, n, .inl f))) (hne : ¬ fz a) : kq ct fz M (hp_up M a E) :=
  ⟨stab_c h hne, fun q fs h1 => hp_k (hp_ne h1 h (by simp)) h1, fun q c n f h1 => hp_k (hp_ne h1 h (by simp)) h1⟩
theorem kq_o {ct : Nat → ClassId} {fz : Nat → Prop} {M : hp_M} {a k : Nat} {fs : List Value} {E : va_E} (h : M a = some (.inr (k, fs))) (hk : k ≠ 4 ∧ k ≠ 5 ∧ k ≠ 3) : kq ct fz M (hp_up M a E) :=
  ⟨stab_o h ⟨hk.1, hk.2.1⟩, fun q fs2 h1 => hp_k (hp_ne h1 h (fun e9 => by have e8 := congrArg Prod.fst (Sum.inr.inj e9); simp only at e8; omega)) h1, fun q c n f h1 => hp_k (hp_ne h1 h (by simp)) h1⟩
theorem kq_n {ct : Nat → ClassId} {fz : Nat → Prop} {M : hp_M} {a : Nat} {E : va_E} (h : M a = none) : kq ct fz M (hp_up M a E) :=
  ⟨stab_n h, fun q fs h1 => hp_k (hp_nn h1 h) h1, fun q c n f h1 => hp_k (hp_nn h1 h) h1⟩
def txP (ct : Nat → ClassId) (M : hp_M) (xt ch : Nat) (T : List Nat) : Prop := ∃ g : Nat → Nat, M xt = some (.inr (1, [.ref ch, .int (nI T.length)])) ∧ M ch = some (.inl (ct 0, 64, .inl (nf g))) ∧ (∀ i, i < T.length → g i = T.getD i 0) ∧ (∀ i, g i < 65536) ∧ T.length ≤ 64
def acsP (ct : Nat → ClassId) (fz : Nat → Prop) (M : hp_M) (ac : Nat) (As : List (List RowT)) : Prop := ∃ (fa : Nat → Option Nat) (ao oo : Nat → Nat) (rf : Nat → Nat → Option Nat), M ac = some (.inl (ct 4, 12, .inr (.inr (.inr (.inr fa))))) ∧ As.length ≤ 12 ∧ (∀ i, i < As.length → fa i = some (ao i) ∧ M (ao i) = some (.inr (3, [.ref (oo i), .int (nI (As.getD i []).length)])) ∧ M (oo i) = some (.inl (ct 2, 24, .inr (.inr (.inr (.inr (rf i)))))) ∧ (As.getD i []).length ≤ 24 ∧ rsOk ct fz M (rf i) (As.getD i [])) ∧ ∀ i j, i < As.length → j < As.length → (ao i = ao j ∨ oo i = oo j) → i = j
def alsP (ct : Nat → ClassId) (fz : Nat → Prop) (M : hp_M) (al : Nat) (Al : List (List Nat)) : Prop := ∃ fl : Nat → Option Nat, M al = some (.inl (ct 3, 8, .inr (.inr (.inr (.inr fl))))) ∧ Al.length ≤ 8 ∧ ∀ i, i < Al.length → ∃ k, fl i = some k ∧ kyOk ct fz M k (Al.getD i [])
theorem acsP.kq {ct : Nat → ClassId} {fz : Nat → Prop} {M M1 : hp_M} {ac : Nat} {As : List (List RowT)} (h : acsP ct fz M ac As) (k : kq ct fz M M1) : acsP ct fz M1 ac As := by
  obtain ⟨fa, ao, oo, rf, h1, h2, h3, h4⟩ := h
  exact ⟨fa, ao, oo, rf, k.2.2 _ _ _ _ h1, h2, fun i hi => by obtain ⟨a1, a2, a3, a4, a5⟩ := h3 i hi; exact ⟨a1, k.2.1 _ _ a2, k.2.2 _ _ _ _ a3, a4, a5.st k.1⟩, h4⟩
theorem alsP.kq {ct : Nat → ClassId} {fz : Nat → Prop} {M M1 : hp_M} {al : Nat} {Al : List (List Nat)} (h : alsP ct fz M al Al) (k : kq ct fz M M1) : alsP ct fz M1 al Al := by
  obtain ⟨fl, h1, h2, h3⟩ := h
  exact ⟨fl, k.2.2 _ _ _ _ h1, h2, fun i hi => by obtain ⟨q, a1, a2⟩ := h3 i hi; exact ⟨q, a1, a2.st k.1⟩⟩
/-- TEXT, the actions' rows, the allowed names, the salt, the held digest's characters -/
def adW (ct : Nat → ClassId) (M : hp_M) (x xt ch sh su wo ac al sc hg : Nat) (T : List Nat) (Y : ShT) (As : List (List RowT)) (Al : List (List Nat)) (sa hd : List Nat) : Prop :=
  M x = some (xO xt sh ac As.length al Al.length sc hg) ∧ txP ct M xt ch T ∧ shOk ct M sh su wo Y ∧ acsP ct (fzc ch hg) M ac As ∧ alsP ct (fzc ch hg) M al Al ∧ (M sc = some (.inl (ct 0, sa.length, .inl (tx sa))) ∧ sa.length ≤ 16 ∧ (∀ i, sa.getD i 0 < 65536) ∧ fzc ch hg sc) ∧ (M hg = some (.inl (ct 0, 64, .inl (tx hd))) ∧ hd.length = 64 ∧ ∀ i, hd.getD i 0 < 65536) ∧ ch ≠ hg
theorem adW.atP {ct : Nat → ClassId} {M : hp_M} {x xt ch sh su wo ac al sc hg : Nat} {T : List Nat} {Y : ShT} {As : List (List RowT)} {Al : List (List Nat)} {sa hd : List Nat} (h : adW ct M x xt ch sh su wo ac al sc hg T Y As Al sa hd) : atP ct (fzc ch hg) M x As ∧ alP ct (fzc ch hg) M x Al := by
  obtain ⟨h1, -, -, ⟨fa, ao, oo, rf, a1, a2, a3, -⟩, ⟨fl, b1, b2, b3⟩, -⟩ := h
  exact ⟨⟨_, _, _, _, _, _, _, fa, h1, a1, a2, fun i hi => by obtain ⟨c1, c2, c3, c4, c5⟩ := a3 i hi; exact ⟨_, c1, _, _, c2, c3, c4, c5⟩⟩, ⟨_, _, _, _, _, _, _, fl, h1, b1, b2, b3⟩⟩
theorem shOk.k {ct : Nat → ClassId} {M : hp_M} {sh su wo a : Nat} {Y : ShT} {E : va_E} (h : shOk ct M sh su wo Y) (h1 : su ≠ a) (h2 : wo ≠ a) (h3 : sh ≠ a) : shOk ct (hp_up M a E) sh su wo Y := ⟨hp_k h1 h.1, hp_k h2 h.2.1, hp_k h3 h.2.2.1, h.2.2.2⟩
/-- TEXT becomes another -/
theorem adW.text {ct : Nat → ClassId} {M : hp_M} {x xt ch sh su wo ac al sc hg : Nat} {T : List Nat} {Y : ShT} {As : List (List RowT)} {Al : List (List Nat)} {sa hd : List Nat} (h : adW ct M x xt ch sh su wo ac al sc hg T Y As Al sa hd) (hne : ct 0 ≠ ct 1) (g : Nat → Nat) (T1 : List Nat) (h1 : ∀ i, i < T1.length → g i = T1.getD i 0) (h2 : ∀ i, g i < 65536) (h3 : T1.length ≤ 64) : adW ct (hp_up (hp_up M ch (.inl (ct 0, 64, .inl (nf g)))) xt (.inr (1, [.ref ch, .int (nI T1.length)]))) x xt ch sh su wo ac al sc hg T1 Y As Al sa hd := by
  obtain ⟨a1, ⟨g0, b1, b2, b3, b4, b5⟩, c, d, e, ⟨f1, f2, f3, f4⟩, ⟨k1, k2, k3⟩, n⟩ := h
  have e1 := hp_ne a1 b1 (by simp)
  have e2 := hp_ne a1 b2 (by simp)
  have e3 := hp_ne b2 b1 (by simp)
  have i1 : ∀ (q n : Nat) (f : Nat → Int32), M q = some (.inl (ct 1, n, .inl f)) → q ≠ ch := fun q n f hq => hp_ne hq b2 (fun z => hne (congrArg Prod.fst (Sum.inl.inj z)).symm)
  have i2 : ∀ (q n : Nat) (f : Nat → Int32), M q = some (.inl (ct 1, n, .inl f)) → q ≠ xt := fun q n f hq => hp_ne hq b1 (by simp)
  have kk : kq ct (fzc ch hg) M (hp_up (hp_up M ch (.inl (ct 0, 64, .inl (nf g)))) xt (.inr (1, [.ref ch, .int (nI T1.length)]))) := (kq_c b2 (fun z => z.1 rfl)).tr (kq_o (hp_k (Ne.symm e3) b1) (by decide))
  refine ⟨hp_k e1 (hp_k e2 a1), ⟨g, hp_us, hp_k e3 hp_us, h1, h2, h3⟩, (c.k (i1 _ _ _ c.1) (i1 _ _ _ c.2.1) (hp_ne c.2.2.1 b2 (by simp))).k (i2 _ _ _ c.1) (i2 _ _ _ c.2.1) (hp_ne c.2.2.1 b1 (by simp)), d.kq kk, e.kq kk, ⟨hp_k (hp_ne f1 b1 (by simp)) (hp_k f4.1 f1), f2, f3, f4⟩, ⟨hp_k (hp_ne k1 b1 (by simp)) (hp_k (Ne.symm n) k1), k2, k3⟩, n⟩
/-- a new cell beside -/
theorem adW.new {ct : Nat → ClassId} {M : hp_M} {x xt ch sh su wo ac al sc hg : Nat} {T : List Nat} {Y : ShT} {As : List (List RowT)} {Al : List (List Nat)} {sa hd : List Nat} (h : adW ct M x xt ch sh su wo ac al sc hg T Y As Al sa hd) {q : Nat} {E : va_E} (hq : M q = none) : adW ct (hp_up M q E) x xt ch sh su wo ac al sc hg T Y As Al sa hd ∧ fzc ch hg q := by
  obtain ⟨a1, ⟨g0, b1, b2, b3, b4, b5⟩, c, d, e, ⟨f1, f2, f3, f4⟩, ⟨k1, k2, k3⟩, n⟩ := h
  exact ⟨⟨hp_k (hp_nn a1 hq) a1, ⟨g0, hp_k (hp_nn b1 hq) b1, hp_k (hp_nn b2 hq) b2, b3, b4, b5⟩, c.k (hp_nn c.1 hq) (hp_nn c.2.1 hq) (hp_nn c.2.2.1 hq), d.kq (kq_n hq), e.kq (kq_n hq), ⟨hp_k (hp_nn f1 hq) f1, f2, f3, f4⟩, ⟨hp_k (hp_nn k1 hq) k1, k2, k3⟩, n⟩, ⟨fun z => hp_nn b2 hq z.symm, fun z => hp_nn k1 hq z.symm⟩⟩
/-- the Sha moves -/
theorem adW.sha {ct : Nat → ClassId} {M : hp_M} {x xt ch sh su wo ac al sc hg : Nat} {T : List Nat} {Y : ShT} {As : List (List RowT)} {Al : List (List Nat)} {sa hd : List Nat} (h : adW ct M x xt ch sh su wo ac al sc hg T Y As Al sa hd) (hne : ct 0 ≠ ct 1) {X : ShT} (hX : X.2.2.1 ≤ 64) : adW ct (shM ct M sh su wo X) x xt ch sh su wo ac al sc hg T X As Al sa hd := by
  obtain ⟨a1, ⟨g0, b1, b2, b3, b4, b5⟩, c, d, e, ⟨f1, f2, f3, f4⟩, ⟨k1, k2, k3⟩, n⟩ := h
  have kc : ∀ (q n : Nat) (f : Nat → Int32), M q = some (.inl (ct 0, n, .inl f)) → shM ct M sh su wo X q = some (.inl (ct 0, n, .inl f)) := fun q n f hq => shM_k hq (hp_ne hq c.1 (fun z => hne (congrArg Prod.fst (Sum.inl.inj z)))) (hp_ne hq c.2.1 (fun z => hne (congrArg Prod.fst (Sum.inl.inj z)))) (hp_ne hq c.2.2.1 (by simp))
  have kk : kq ct (fzc ch hg) M (shM ct M sh su wo X) := kq_sh hne c
  exact ⟨xO_sh c a1, ⟨g0, shM_k b1 (hp_ne b1 c.1 (by simp)) (hp_ne b1 c.2.1 (by simp)) (hp_ne b1 c.2.2.1 (by simp)), kc _ _ _ b2, b3, b4, b5⟩, shM_ok c hX, d.kq kk, e.kq kk, ⟨kc _ _ _ f1, f2, f3, f4⟩, ⟨kc _ _ _ k1, k2, k3⟩, n⟩
/-- another content is held -/
theorem adW.held {ct : Nat → ClassId} {M : hp_M} {x xt ch sh su wo ac al sc hg : Nat} {T : List Nat} {Y : ShT} {As : List (List RowT)} {Al : List (List Nat)} {sa hd : List Nat} (h : adW ct M x xt ch sh su wo ac al sc hg T Y As Al sa hd) (hne : ct 0 ≠ ct 1) {h2 : List Nat} (hl : h2.length = 64) (hc : ∀ i, h2.getD i 0 < 65536) : adW ct (hp_up M hg (.inl (ct 0, 64, .inl (tx h2)))) x xt ch sh su wo ac al sc hg T Y As Al sa h2 := by
  obtain ⟨a1, ⟨g0, b1, b2, b3, b4, b5⟩, c, d, e, ⟨f1, f2, f3, f4⟩, ⟨k1, k2, k3⟩, n⟩ := h
  have kk : kq ct (fzc ch hg) M (hp_up M hg (.inl (ct 0, 64, .inl (tx h2)))) := kq_c k1 (fun z => z.2 rfl)
  have i1 : ∀ (q n : Nat) (f : Nat → Int32), M q = some (.inl (ct 1, n, .inl f)) → q ≠ hg := fun q n f hq => hp_ne hq k1 (fun z => hne (congrArg Prod.fst (Sum.inl.inj z)).symm)
  exact ⟨hp_k (hp_ne a1 k1 (by simp)) a1, ⟨g0, hp_k (hp_ne b1 k1 (by simp)) b1, hp_k n b2, b3, b4, b5⟩, c.k (i1 _ _ _ c.1) (i1 _ _ _ c.2.1) (hp_ne c.2.2.1 k1 (by simp)), d.kq kk, e.kq kk, ⟨hp_k f4.2 f1, f2, f3, f4⟩, ⟨hp_us, hl, hc⟩, n⟩
/-- the digits of a digest -/
def hexL (s : Nat → Int32) : List Nat := (List.range 64).map (hexF s)
theorem hexL_len {s : Nat → Int32} : (hexL s).length = 64 := by unfold hexL; rw [List.length_map, List.length_range]
theorem hexL_at {s : Nat → Int32} {i : Nat} (h : i < 64) : (hexL s).getD i 0 = hexF s i := by
  unfold hexL
  rw [List.getD_eq_getElem?_getD, List.getElem?_map, List.getElem?_range h]
  rfl
theorem hexF_lt {s : Nat → Int32} {i : Nat} : hexF s i < 128 := by
  unfold hexF hexC
  have h : nibN (s (i / 8)) (28 - 4 * (i % 8)) < 16 := Nat.mod_lt _ (by decide)
  by_cases q : nibN (s (i / 8)) (28 - 4 * (i % 8)) < 10
  · rw [if_pos q]; omega
  · rw [if_neg q]; omega
theorem hexL_lt {s : Nat → Int32} (i : Nat) : (hexL s).getD i 0 < 128 := by
  rcases Nat.lt_or_ge i 64 with h | h
  · rw [hexL_at h]; exact hexF_lt
  · rw [List.getD_eq_getElem?_getD, List.getElem?_eq_none (by rw [hexL_len]; exact h)]; decide
theorem d_AD_type_0 : decode b_AD_type 0 = .ok (.aload_n 0, 1) := by decide +kernel
theorem d_AD_type_1 : decode b_AD_type 1 = .ok (.getfield 10, 3) := by decide +kernel
theorem d_AD_type_4 : decode b_AD_type 4 = .ok (.iload_n 1, 1) := by decide +kernel
theorem d_AD_type_5 : decode b_AD_type 5 = .ok (.invokevirtual 53, 3) := by decide +kernel
theorem d_AD_type_8 : decode b_AD_type 8 = .ok (.ireturn, 1) := by decide +kernel
theorem d_AD_hold_0 : decode b_AD_hold 0 = .ok (.aload_n 0, 1) := by decide +kernel
theorem d_AD_hold_1 : decode b_AD_hold 1 = .ok (.aload_n 0, 1) := by decide +kernel
theorem d_AD_hold_2 : decode b_AD_hold 2 = .ok (.getfield 10, 3) := by decide +kernel
theorem d_AD_hold_5 : decode b_AD_hold 5 = .ok (.invokevirtual 65, 3) := by decide +kernel
theorem d_AD_hold_8 : decode b_AD_hold 8 = .ok (.invokevirtual 49, 3) := by decide +kernel
theorem d_AD_hold_11 : decode b_AD_hold 11 = .ok (.return_, 1) := by decide +kernel
set_option maxHeartbeats 4000000 in
set_option maxRecDepth 100000 in
/-- type(c) -/
theorem c_AD_type (l : Launch) (D : va_G) (ct : Nat → ClassId) (Z : hp_Z) (hZ : hp_Zok Z) (M : hp_M) (sz : Nat) (x xt ch sh su wo ac al sc hg : Nat) (T : List Nat) (Y : ShT) (As : List (List RowT)) (Al : List (List Nat)) (sa hd : List Nat) (hw : adW ct M x xt ch sh su wo ac al sc hg T Y As Al sa hd) (k : Nat) (hk : k < 65536) : Mi l y_AD_type b_AD_type 2 (some .boolean) 1 21 0 0 [.ref x, .int (nI k)] D ct Z M sz (fun r M1 => ((32 ≤ k ∧ k ≤ 126 ∧ T.length < 64) ∧ r = nI 1 ∧ adW ct M1 x xt ch sh su wo ac al sc hg (T ++ [k]) Y As Al sa hd) ∨ (¬ (32 ≤ k ∧ k ≤ 126 ∧ T.length < 64) ∧ r = nI 0 ∧ M1 = M)) := by
  refine hp_start (by decide) (Nat.le_of_ble_eq_true rfl) (fun p e s m below meth c ls S hret hlk hnm hsz hK hM hS hA hz hl => ?_)
  have hx := S.1
  have hb := S.2.1
  have hl : lv_has ls 2 [(0, .ref x), (1, .int (nI k))] := hl
  obtain ⟨f_x, ⟨g0, f_xt, f_ch, hg0, hgb, hT⟩, hsh, hacs, hals, ⟨f_sc, hsal, hc_sa, hfsc⟩, ⟨f_hg, hdl, hc_hd⟩, hchg⟩ := id hw
  refine lv_aload_n hx hb d_AD_type_0 rfl (lv_at hl 0 rfl) ?_
  refine hp_get S hK hM i_AD f_x rfl 0 (by decide) mf_AD_10 (fun _ h9 => h9) rfl d_AD_type_1 ?_
  refine lv_iload_n hx hb d_AD_type_4 rfl (lv_at hl 1 rfl) ?_
  refine hp_calli (go_V S hZ hK hM hS hA hz (c_TX_append l D ct Z hZ _ _ xt ch T.length g0 hT f_xt f_ch k hk) mc_TX_append mz_TX ml_AD_53 mi_TX_append mx_TX_append hd_TX_append rfl ⟨by decide, by decide⟩ f_xt rfl rfl hl.1 rfl (Nat.le_of_ble_eq_true rfl) d_AD_type_5 ⟨by decide, by decide⟩) hM hS hA (fun r M9 H locs h9 hM hS => ?_)
  rcases h9 with ⟨h1, rfl, rfl⟩ | ⟨h1, rfl, rfl⟩
  · refine hp_iret S hret hlk rfl hM hS (Or.inl ⟨h1, rfl, ?_⟩) d_AD_type_8
    have h2 := hw.text (ct01 hK) (va_up g0 T.length k) (T ++ [k]) (fun i hi => ?_) (fun i => ?_) (by rw [List.length_append]; show T.length + 1 ≤ 64; omega)
    · rw [List.length_append] at h2; exact h2
    · by_cases z : i = T.length
      · rw [z, up_s, List.getD_eq_getElem?_getD, List.getElem?_append_right (Nat.le_refl _), Nat.sub_self]; rfl
      · rw [List.length_append] at hi; have hi : i < T.length + 1 := hi; rw [up_n z, hg0 i (by omega), List.getD_eq_getElem?_getD, List.getD_eq_getElem?_getD, List.getElem?_append_left (by omega)]
    · by_cases z : i = T.length
      · rw [z, up_s]; exact hk
      · rw [up_n z]; exact hgb i
  · exact hp_iret S hret hlk rfl hM hS (Or.inr ⟨h1, rfl, rfl⟩) d_AD_type_8
/-- TEXT is taken: a new array q holds it, TEXT is empty -/
theorem adW.take {ct : Nat → ClassId} {M : hp_M} {x xt ch sh su wo ac al sc hg : Nat} {T : List Nat} {Y : ShT} {As : List (List RowT)} {Al : List (List Nat)} {sa hd : List Nat} (h : adW ct M x xt ch sh su wo ac al sc hg T Y As Al sa hd) (hne : ct 0 ≠ ct 1) {q : Nat} (hq : M q = none) : adW ct (hp_up (hp_up M q (.inl (ct 0, T.length, .inl (tx T)))) xt (.inr (1, [.ref ch, .int (nI 0)]))) x xt ch sh su wo ac al sc hg [] Y As Al sa hd ∧ fzc ch hg q ∧ hp_up (hp_up M q (.inl (ct 0, T.length, .inl (tx T)))) xt (.inr (1, [.ref ch, .int (nI 0)])) q = some (.inl (ct 0, T.length, .inl (tx T))) := by
  obtain ⟨g1, b1, b2, b3, b4, b5⟩ := h.2.1
  have h1 := h.new (E := .inl (ct 0, T.length, .inl (tx T))) hq
  have h2 := h1.1.text hne g1 [] (fun i hi => absurd hi (Nat.not_lt_zero i)) b4 (by decide)
  rw [hp_same (hp_k (hp_nn b2 hq) b2)] at h2
  exact ⟨h2, h1.2, hp_k (Ne.symm (hp_nn b1 hq)) hp_us⟩
theorem take_cong {D : va_G} {ct : Nat → ClassId} {A : Nat → Prop} {M : hp_M} {H : Heap} {q xt : Nat} {T : List Nat} {g : Nat → Nat} {E : va_E} (hqx : q ≠ xt) (h : hp_H D ccl A (hp_up (hp_up M q (.inl (ct 0, T.length, .inl (nf g)))) xt E) H) (hg : ∀ i, i < T.length → g i = T.getD i 0) : hp_H D ccl A (hp_up (hp_up M q (.inl (ct 0, T.length, .inl (tx T)))) xt E) H := by
  have h1 := h.cong (a := q) (g := tx T) (hp_k hqx hp_us) (fun i hi => congrArg nI (hg i hi))
  rw [hp_uc (Ne.symm hqx), hp_uu] at h1
  exact h1
set_option maxHeartbeats 4000000 in
set_option maxRecDepth 100000 in
/-- hold() -/
theorem c_AD_hold (l : Launch) (D : va_G) (ct : Nat → ClassId) (Z : hp_Z) (hZ : hp_Zok Z) (M : hp_M) (sz : Nat) (tk th : Nat) (hzk : zK Z tk) (hzh : zH Z th) (x xt ch sh su wo ac al sc hg : Nat) (T : List Nat) (Y : ShT) (As : List (List RowT)) (Al : List (List Nat)) (sa hd : List Nat) (hw : adW ct M x xt ch sh su wo ac al sc hg T Y As Al sa hd) (hcT : ∀ i, T.getD i 0 < 65536) : Mv l y_AD_hold b_AD_hold 1 none 5 120 1 64 [.ref x] D ct Z M sz (fun M1 => ∃ X : ShT, adW ct M1 x xt ch sh su wo ac al sc hg [] X As Al sa (hexL (dgW Y.2.1 T))) := by
  refine hp_start (by decide) (Nat.le_of_ble_eq_true rfl) (fun p e s m below meth c ls S hret hlk hnm hsz hK hM hS hA hz hl => ?_)
  have hx := S.1
  have hb := S.2.1
  have hl : lv_has ls 1 [(0, .ref x)] := hl
  obtain ⟨f_x, ⟨g0, f_xt, f_ch, hg0, hgb, hT⟩, hsh, hacs, hals, ⟨f_sc, hsal, hc_sa, hfsc⟩, ⟨f_hg, hdl, hc_hd⟩, hchg⟩ := id hw
  refine lv_aload_n hx hb d_AD_hold_0 rfl (lv_at hl 0 rfl) ?_
  refine lv_aload_n hx hb d_AD_hold_1 rfl (lv_at hl 0 rfl) ?_
  refine hp_get S hK hM i_AD f_x rfl 0 (by decide) mf_AD_10 (fun _ h9 => h9) rfl d_AD_hold_2 ?_
  refine hp_callq (go_V S hZ hK hM hS hA hz (c_TX_take l D ct Z hZ _ _ xt ch T.length g0 hT f_xt f_ch hgb) mc_TX_take mz_TX ml_AD_65 mi_TX_take mx_TX_take hd_TX_take rfl ⟨by decide, by decide⟩ f_xt rfl rfl hl.1 rfl (Nat.le_of_ble_eq_true rfl) d_AD_hold_5 ⟨by decide, by decide⟩) hM hS hA (fun r9 M9 H locs h9 hM hS => ?_)
  obtain ⟨q, rfl, hqn, rfl⟩ := h9
  replace hM := take_cong (Ne.symm (hp_nn f_xt hqn)) hM hg0
  obtain ⟨hw2, hfq, f_q⟩ := hw.take (ct01 hK) hqn
  obtain ⟨M2, eM2⟩ : ∃ z, z = hp_up (hp_up M q (.inl (ct 0, T.length, .inl (tx T)))) xt (.inr (1, [.ref ch, .int (nI 0)])) := ⟨_, rfl⟩
  rw [← eM2] at hM hw2 f_q
  obtain ⟨f_x, ⟨g2, f_xt, f_ch, -, hgb2, -⟩, hsh, hacs, hals, ⟨f_sc, hsal, hc_sa, hfsc⟩, ⟨f_hg, hdl, hc_hd⟩, hchg⟩ := id hw2
  refine hp_callv (go_V S hZ hK hM hS hA hz (c_AD_holdContent l D ct Z hZ _ _ tk th hzk hzh (fzc ch hg) x xt sh ac As.length al Al.length sc hg f_x su wo Y hsh hd f_hg q T (by omega) hcT f_q) mc_AD_holdContent mz_AD ml_AD_49 mi_AD_holdContent mx_AD_holdContent hd_AD_holdContent rfl ⟨by decide, by decide⟩ f_x rfl rfl hl.1 rfl (Nat.le_of_ble_eq_true rfl) d_AD_hold_8 ⟨by decide, by decide⟩) hM hS hA (fun M9 H locs h9 hM hS => ?_)
  obtain ⟨X, hX, rfl⟩ := h9
  have hw3 := hw2.sha (ct01 hK) hX
  have f_hg3 := hw3.2.2.2.2.2.2.1.1
  replace hM := hM.cong (a := hg) (g := tx (hexL (dgW Y.2.1 T))) hp_us (fun i hi => congrArg nI (hexL_at hi).symm)
  rw [hp_uu] at hM
  exact hp_vret S hret hlk hM hS ⟨X, hw3.held (ct01 hK) hexL_len (fun i => Nat.lt_trans (hexL_lt i) (by decide))⟩ d_AD_hold_11
end
section
theorem d_AD_init_0 : decode b_AD_init 0 = .ok (.aload_n 0, 1) := by decide +kernel
theorem d_AD_init_1 : decode b_AD_init 1 = .ok (.invokespecial 1, 3) := by decide +kernel
theorem d_AD_init_4 : decode b_AD_init 4 = .ok (.aload_n 0, 1) := by decide +kernel
theorem d_AD_init_5 : decode b_AD_init 5 = .ok (.new 7, 3) := by decide +kernel
theorem d_AD_init_8 : decode b_AD_init 8 = .ok (.dup, 1) := by decide +kernel
theorem d_AD_init_9 : decode b_AD_init 9 = .ok (.invokespecial 9, 3) := by decide +kernel
theorem d_AD_init_12 : decode b_AD_init 12 = .ok (.putfield 10, 3) := by decide +kernel
theorem d_AD_init_15 : decode b_AD_init 15 = .ok (.aload_n 0, 1) := by decide +kernel
theorem d_AD_init_16 : decode b_AD_init 16 = .ok (.new 16, 3) := by decide +kernel
theorem d_AD_init_19 : decode b_AD_init 19 = .ok (.dup, 1) := by decide +kernel
theorem d_AD_init_20 : decode b_AD_init 20 = .ok (.invokespecial 18, 3) := by decide +kernel
theorem d_AD_init_23 : decode b_AD_init 23 = .ok (.putfield 19, 3) := by decide +kernel
theorem d_AD_init_26 : decode b_AD_init 26 = .ok (.aload_n 0, 1) := by decide +kernel
theorem d_AD_init_27 : decode b_AD_init 27 = .ok (.bipush 12, 2) := by decide +kernel
theorem d_AD_init_29 : decode b_AD_init 29 = .ok (.anewarray 23, 3) := by decide +kernel
theorem d_AD_init_32 : decode b_AD_init 32 = .ok (.putfield 25, 3) := by decide +kernel
theorem d_AD_init_35 : decode b_AD_init 35 = .ok (.aload_n 0, 1) := by decide +kernel
theorem d_AD_init_36 : decode b_AD_init 36 = .ok (.iconst 0, 1) := by decide +kernel
theorem d_AD_init_37 : decode b_AD_init 37 = .ok (.putfield 29, 3) := by decide +kernel
theorem d_AD_init_40 : decode b_AD_init 40 = .ok (.aload_n 0, 1) := by decide +kernel
theorem d_AD_init_41 : decode b_AD_init 41 = .ok (.bipush 8, 2) := by decide +kernel
theorem d_AD_init_43 : decode b_AD_init 43 = .ok (.anewarray 33, 3) := by decide +kernel
theorem d_AD_init_46 : decode b_AD_init 46 = .ok (.putfield 35, 3) := by decide +kernel
theorem d_AD_init_49 : decode b_AD_init 49 = .ok (.aload_n 0, 1) := by decide +kernel
theorem d_AD_init_50 : decode b_AD_init 50 = .ok (.iconst 0, 1) := by decide +kernel
theorem d_AD_init_51 : decode b_AD_init 51 = .ok (.putfield 39, 3) := by decide +kernel
theorem d_AD_init_54 : decode b_AD_init 54 = .ok (.aload_n 0, 1) := by decide +kernel
theorem d_AD_init_55 : decode b_AD_init 55 = .ok (.iconst 0, 1) := by decide +kernel
theorem d_AD_init_56 : decode b_AD_init 56 = .ok (.newarray .char, 2) := by decide +kernel
theorem d_AD_init_58 : decode b_AD_init 58 = .ok (.putfield 42, 3) := by decide +kernel
theorem d_AD_init_61 : decode b_AD_init 61 = .ok (.aload_n 0, 1) := by decide +kernel
theorem d_AD_init_62 : decode b_AD_init 62 = .ok (.bipush 64, 2) := by decide +kernel
theorem d_AD_init_64 : decode b_AD_init 64 = .ok (.newarray .char, 2) := by decide +kernel
theorem d_AD_init_66 : decode b_AD_init 66 = .ok (.putfield 46, 3) := by decide +kernel
theorem d_AD_init_69 : decode b_AD_init 69 = .ok (.aload_n 0, 1) := by decide +kernel
theorem d_AD_init_70 : decode b_AD_init 70 = .ok (.iconst 0, 1) := by decide +kernel
theorem d_AD_init_71 : decode b_AD_init 71 = .ok (.newarray .char, 2) := by decide +kernel
theorem d_AD_init_73 : decode b_AD_init 73 = .ok (.invokevirtual 49, 3) := by decide +kernel
theorem d_AD_init_76 : decode b_AD_init 76 = .ok (.return_, 1) := by decide +kernel
/-- what the constructors of nest mates and arrays of own objects ask of the tables -/
def zN (Z : hp_Z) : Prop := ∀ (A : Nat → Prop) (U : State) (H : Heap), Z A U H → va_Nw (.methodLinkNest "ActionDigests" 9 y_TX_init "ActionDigests") U ∧ va_Nw (.methodLinkNest "ActionDigests" 18 y_SH_init "ActionDigests") U ∧ va_AO "ActionDigests$Action" U ∧ va_AO "ActionDigests$Key" U ∧ va_AO "ActionDigests$Row" U
theorem rep_at (i : Nat) : (List.replicate 64 0).getD i 0 = 0 := by
  rw [List.getD_eq_getElem?_getD, List.getElem?_replicate]
  by_cases h : i < 64
  · rw [if_pos h]; rfl
  · rw [if_neg h]; rfl
theorem tx_rep : tx (List.replicate 64 0) = nf (fun _ => 0) := by
  funext i
  unfold tx nf
  rw [rep_at]
set_option maxHeartbeats 4000000 in
set_option maxRecDepth 100000 in
/-- a new object -/
theorem c_AD_init (l : Launch) (D : va_G) (ct : Nat → ClassId) (Z : hp_Z) (hZ : hp_Zok Z) (M : hp_M) (sz : Nat) (tk th : Nat) (hzk : zK Z tk) (hzh : zH Z th) (hzn : zN Z) (x : Nat) (f_x : M x = some (.inr (0, [.null, .null, .null, .int (nI 0), .null, .int (nI 0), .null, .null]))) : Mv l y_AD_init b_AD_init 1 none 5 120 10 226 [.ref x] D ct Z M sz (fun M1 => ∃ (xt ch sh su wo ac al sc hg : Nat) (X : ShT), adW ct M1 x xt ch sh su wo ac al sc hg [] X [] [] [] (hexL (dgW (nf (fun _ => 0)) []))) := by
  refine hp_start (by decide) (Nat.le_of_ble_eq_true rfl) (fun p e s m below meth c ls S hret hlk hnm hsz hK hM hS hA hz hl => ?_)
  have hx := S.1
  have hb := S.2.1
  have hl : lv_has ls 1 [(0, .ref x)] := hl
  refine lv_aload_n hx hb d_AD_init_0 rfl (lv_at hl 0 rfl) ?_
  refine W.objInit hx hb S.2.2.2.1 (S.2.2.2.2 _ ml_AD_1) (S.2.2.2.2 _ mi_OB_init) (S.2.2.2.2 _ mc_OB_init) rfl (by rw [S.2.2.1]; exact hl.1) rfl d_AD_init_1 (by decide) (Nat.le_of_ble_eq_true rfl) ?_
  refine W.eq (g2 := F0 m 4 ls []) rfl ?_
  refine lv_aload_n hx hb d_AD_init_4 rfl (lv_at hl 0 rfl) ?_
  refine hp_new (ci := 1) (fs := [.null, .int (nI 0)]) S hK hM hS hA i_TX t_TX to_TX mk_AD_7 mt_TX mz_TX rfl (fun j hj => by rcases (show j = 0 ∨ j = 1 by omega) with rfl | rfl <;> rfl) (by decide) (by decide) d_AD_init_5 (fun xt H hq_xt hM hS => ?_)
  refine W.widen (k := 1) (n := 2) (by omega) (by omega) ?_
  have ne_x_xt : x ≠ xt := hp_nn f_x hq_xt
  have f_x := hp_k (e := (.inr (1, [.null, .int (nI 0)]))) ne_x_xt f_x
  have f_xt : hp_up M xt (.inr (1, [.null, .int (nI 0)])) xt = some (.inr (1, [.null, .int (nI 0)])) := hp_us
  obtain ⟨M1, eM1⟩ : ∃ z, z = hp_up M xt (.inr (1, [.null, .int (nI 0)])) := ⟨_, rfl⟩
  rw [← eM1] at hM f_x f_xt
  refine lv_dup hx hb d_AD_init_8 rfl ?_
  refine hp_callv (go_IN S hZ hK hM hS hA hz (c_TX_init l D ct Z hZ _ _ xt f_xt) mc_TX_init mz_TX ((hzn _ _ _ hz).1) mi_TX_init rfl hd_TX_init rfl ⟨by decide, by decide⟩ hl.1 rfl (Nat.le_of_ble_eq_true rfl) d_AD_init_9 ⟨by decide, by decide⟩) hM hS hA (fun M9 H locs h9 hM hS => ?_)
  obtain ⟨ch, hchn, e9⟩ := h9
  rw [e9] at hM
  have ne_x_ch : x ≠ ch := hp_nn f_x hchn
  have f_x := hp_k (e := (.inl (ct 0, 64, .inl (nf (fun _ => 0))))) ne_x_ch f_x
  have ne_xt_ch : xt ≠ ch := hp_nn f_xt hchn
  have f_xt := hp_k (e := (.inl (ct 0, 64, .inl (nf (fun _ => 0))))) ne_xt_ch f_xt
  have f_ch : hp_up M1 ch (.inl (ct 0, 64, .inl (nf (fun _ => 0)))) ch = some (.inl (ct 0, 64, .inl (nf (fun _ => 0)))) := hp_us
  obtain ⟨M2, eM2⟩ : ∃ z, z = hp_up M1 ch (.inl (ct 0, 64, .inl (nf (fun _ => 0)))) := ⟨_, rfl⟩
  rw [← eM2] at hM f_x f_xt f_ch
  have f_x := hp_k (e := (.inr (1, [.ref ch, .int (nI 0)]))) ne_x_xt f_x
  have f_ch := hp_k (e := (.inr (1, [.ref ch, .int (nI 0)]))) (Ne.symm ne_xt_ch) f_ch
  have f_xt : hp_up M2 xt (.inr (1, [.ref ch, .int (nI 0)])) xt = some (.inr (1, [.ref ch, .int (nI 0)])) := hp_us
  obtain ⟨M3, eM3⟩ : ∃ z, z = hp_up M2 xt (.inr (1, [.ref ch, .int (nI 0)])) := ⟨_, rfl⟩
  rw [← eM3] at hM f_x f_xt f_ch
  refine hp_putF (ty := (.object "ActionDigests$Text")) (fs' := [.ref xt, .null, .null, .int (nI 0), .null, .int (nI 0), .null, .null]) S hK hM hS i_AD t_AD to_AD n_AD f_x rfl 0 (by decide) mf_AD_10 (fun _ h9 => h9) rfl hnm rfl (by decide +kernel) rfl rfl (by simp) rfl d_AD_init_12 (fun H locs hM hS => ?_)
  have f_xt := hp_k (e := (.inr (0, [.ref xt, .null, .null, .int (nI 0), .null, .int (nI 0), .null, .null]))) (Ne.symm ne_x_xt) f_xt
  have f_ch := hp_k (e := (.inr (0, [.ref xt, .null, .null, .int (nI 0), .null, .int (nI 0), .null, .null]))) (Ne.symm ne_x_ch) f_ch
  have f_x : hp_up M3 x (.inr (0, [.ref xt, .null, .null, .int (nI 0), .null, .int (nI 0), .null, .null])) x = some (.inr (0, [.ref xt, .null, .null, .int (nI 0), .null, .int (nI 0), .null, .null])) := hp_us
  obtain ⟨M4, eM4⟩ : ∃ z, z = hp_up M3 x (.inr (0, [.ref xt, .null, .null, .int (nI 0), .null, .int (nI 0), .null, .null])) := ⟨_, rfl⟩
  rw [← eM4] at hM f_x f_xt f_ch
  refine lv_aload_n hx hb d_AD_init_15 rfl (lv_at hl 0 rfl) ?_
  refine hp_new (ci := 2) (fs := [.null, .null, .int (nI 0), .long 0]) S hK hM hS hA i_SH t_SH to_SH mk_AD_16 mt_SH mz_SH rfl (fun j hj => by rcases (show j = 0 ∨ j = 1 ∨ j = 2 ∨ j = 3 by omega) with rfl | rfl | rfl | rfl <;> rfl) (by decide) (by decide) d_AD_init_16 (fun sh H hq_sh hM hS => ?_)
  refine W.widen (k := 3) (n := 70) (by omega) (by omega) ?_
  have ne_x_sh : x ≠ sh := hp_nn f_x hq_sh
  have f_x := hp_k (e := (.inr (2, [.null, .null, .int (nI 0), .long 0]))) ne_x_sh f_x
  have ne_xt_sh : xt ≠ sh := hp_nn f_xt hq_sh
  have f_xt := hp_k (e := (.inr (2, [.null, .null, .int (nI 0), .long 0]))) ne_xt_sh f_xt
  have ne_ch_sh : ch ≠ sh := hp_nn f_ch hq_sh
  have f_ch := hp_k (e := (.inr (2, [.null, .null, .int (nI 0), .long 0]))) ne_ch_sh f_ch
  have f_sh : hp_up M4 sh (.inr (2, [.null, .null, .int (nI 0), .long 0])) sh = some (.inr (2, [.null, .null, .int (nI 0), .long 0])) := hp_us
  obtain ⟨M5, eM5⟩ : ∃ z, z = hp_up M4 sh (.inr (2, [.null, .null, .int (nI 0), .long 0])) := ⟨_, rfl⟩
  rw [← eM5] at hM f_x f_xt f_ch f_sh
  refine lv_dup hx hb d_AD_init_19 rfl ?_
  refine hp_callv (go_IN S hZ hK hM hS hA hz (c_SH_init l D ct Z hZ _ _ sh f_sh) mc_SH_init mz_SH ((hzn _ _ _ hz).2.1) mi_SH_init rfl hd_SH_init rfl ⟨by decide, by decide⟩ hl.1 rfl (Nat.le_of_ble_eq_true rfl) d_AD_init_20 ⟨by decide, by decide⟩) hM hS hA (fun M9 H locs h9 hM hS => ?_)
  obtain ⟨su, wo, hsun, hwon, hsw, e9⟩ := h9
  rw [e9] at hM
  unfold shM at hM
  have ne_x_su : x ≠ su := hp_nn f_x hsun
  have f_x := hp_k (e := (.inl (ct 1, 8, .inl (nf (fun _ => 0))))) ne_x_su f_x
  have ne_xt_su : xt ≠ su := hp_nn f_xt hsun
  have f_xt := hp_k (e := (.inl (ct 1, 8, .inl (nf (fun _ => 0))))) ne_xt_su f_xt
  have ne_ch_su : ch ≠ su := hp_nn f_ch hsun
  have f_ch := hp_k (e := (.inl (ct 1, 8, .inl (nf (fun _ => 0))))) ne_ch_su f_ch
  have ne_sh_su : sh ≠ su := hp_nn f_sh hsun
  have f_sh := hp_k (e := (.inl (ct 1, 8, .inl (nf (fun _ => 0))))) ne_sh_su f_sh
  have f_su : hp_up M5 su (.inl (ct 1, 8, .inl (nf (fun _ => 0)))) su = some (.inl (ct 1, 8, .inl (nf (fun _ => 0)))) := hp_us
  obtain ⟨M6, eM6⟩ : ∃ z, z = hp_up M5 su (.inl (ct 1, 8, .inl (nf (fun _ => 0)))) := ⟨_, rfl⟩
  rw [← eM6] at hM f_x f_xt f_ch f_sh f_su
  have hwon1 : M6 wo = none := by rw [eM6, hp_un (Ne.symm hsw)]; exact hwon
  have ne_x_wo : x ≠ wo := hp_nn f_x hwon1
  have f_x := hp_k (e := (.inl (ct 1, 64, .inl (nf (fun _ => 0))))) ne_x_wo f_x
  have ne_xt_wo : xt ≠ wo := hp_nn f_xt hwon1
  have f_xt := hp_k (e := (.inl (ct 1, 64, .inl (nf (fun _ => 0))))) ne_xt_wo f_xt
  have ne_ch_wo : ch ≠ wo := hp_nn f_ch hwon1
  have f_ch := hp_k (e := (.inl (ct 1, 64, .inl (nf (fun _ => 0))))) ne_ch_wo f_ch
  have ne_sh_wo : sh ≠ wo := hp_nn f_sh hwon1
  have f_sh := hp_k (e := (.inl (ct 1, 64, .inl (nf (fun _ => 0))))) ne_sh_wo f_sh
  have ne_su_wo : su ≠ wo := hp_nn f_su hwon1
  have f_su := hp_k (e := (.inl (ct 1, 64, .inl (nf (fun _ => 0))))) ne_su_wo f_su
  have f_wo : hp_up M6 wo (.inl (ct 1, 64, .inl (nf (fun _ => 0)))) wo = some (.inl (ct 1, 64, .inl (nf (fun _ => 0)))) := hp_us
  obtain ⟨M7, eM7⟩ : ∃ z, z = hp_up M6 wo (.inl (ct 1, 64, .inl (nf (fun _ => 0)))) := ⟨_, rfl⟩
  rw [← eM7] at hM f_x f_xt f_ch f_sh f_su f_wo
  have f_x := hp_k (e := (.inr (2, [.ref su, .ref wo, .int (nI 0), .long 0]))) ne_x_sh f_x
  have f_xt := hp_k (e := (.inr (2, [.ref su, .ref wo, .int (nI 0), .long 0]))) ne_xt_sh f_xt
  have f_ch := hp_k (e := (.inr (2, [.ref su, .ref wo, .int (nI 0), .long 0]))) ne_ch_sh f_ch
  have f_su := hp_k (e := (.inr (2, [.ref su, .ref wo, .int (nI 0), .long 0]))) (Ne.symm ne_sh_su) f_su
  have f_wo := hp_k (e := (.inr (2, [.ref su, .ref wo, .int (nI 0), .long 0]))) (Ne.symm ne_sh_wo) f_wo
  have f_sh : hp_up M7 sh (.inr (2, [.ref su, .ref wo, .int (nI 0), .long 0])) sh = some (.inr (2, [.ref su, .ref wo, .int (nI 0), .long 0])) := hp_us
  obtain ⟨M8, eM8⟩ : ∃ z, z = hp_up M7 sh (.inr (2, [.ref su, .ref wo, .int (nI 0), .long 0])) := ⟨_, rfl⟩
  rw [← eM8] at hM f_x f_xt f_ch f_sh f_su f_wo
  refine hp_putF (ty := (.object "ActionDigests$Sha")) (fs' := [.ref xt, .ref sh, .null, .int (nI 0), .null, .int (nI 0), .null, .null]) S hK hM hS i_AD t_AD to_AD n_AD f_x rfl 1 (by decide) mf_AD_19 (fun _ h9 => h9) rfl hnm rfl (by decide +kernel) rfl rfl (by simp) rfl d_AD_init_23 (fun H locs hM hS => ?_)
  have f_xt := hp_k (e := (.inr (0, [.ref xt, .ref sh, .null, .int (nI 0), .null, .int (nI 0), .null, .null]))) (Ne.symm ne_x_xt) f_xt
  have f_ch := hp_k (e := (.inr (0, [.ref xt, .ref sh, .null, .int (nI 0), .null, .int (nI 0), .null, .null]))) (Ne.symm ne_x_ch) f_ch
  have f_sh := hp_k (e := (.inr (0, [.ref xt, .ref sh, .null, .int (nI 0), .null, .int (nI 0), .null, .null]))) (Ne.symm ne_x_sh) f_sh
  have f_su := hp_k (e := (.inr (0, [.ref xt, .ref sh, .null, .int (nI 0), .null, .int (nI 0), .null, .null]))) (Ne.symm ne_x_su) f_su
  have f_wo := hp_k (e := (.inr (0, [.ref xt, .ref sh, .null, .int (nI 0), .null, .int (nI 0), .null, .null]))) (Ne.symm ne_x_wo) f_wo
  have f_x : hp_up M8 x (.inr (0, [.ref xt, .ref sh, .null, .int (nI 0), .null, .int (nI 0), .null, .null])) x = some (.inr (0, [.ref xt, .ref sh, .null, .int (nI 0), .null, .int (nI 0), .null, .null])) := hp_us
  obtain ⟨M9, eM9⟩ : ∃ z, z = hp_up M8 x (.inr (0, [.ref xt, .ref sh, .null, .int (nI 0), .null, .int (nI 0), .null, .null])) := ⟨_, rfl⟩
  rw [← eM9] at hM f_x f_xt f_ch f_sh f_su f_wo
  refine lv_aload_n hx hb d_AD_init_26 rfl (lv_at hl 0 rfl) ?_
  refine lv_bipush (v := nI 12) hx hb d_AD_init_27 rfl ?_
  refine hp_newq S hK hM hS hA mk_AD_23 ((hzn _ _ _ hz).2.2.1) 4 rfl 12 rfl (by decide) (by decide) (by decide) d_AD_init_29 (fun ac H hq_ac hM hS => ?_)
  refine W.widen (k := 6) (n := 154) (by omega) (by omega) ?_
  have ne_x_ac : x ≠ ac := hp_nn f_x hq_ac
  have f_x := hp_k (e := (.inl (ct 4, 12, .inr (.inr (.inr (.inr (fun _ => none))))))) ne_x_ac f_x
  have ne_xt_ac : xt ≠ ac := hp_nn f_xt hq_ac
  have f_xt := hp_k (e := (.inl (ct 4, 12, .inr (.inr (.inr (.inr (fun _ => none))))))) ne_xt_ac f_xt
  have ne_ch_ac : ch ≠ ac := hp_nn f_ch hq_ac
  have f_ch := hp_k (e := (.inl (ct 4, 12, .inr (.inr (.inr (.inr (fun _ => none))))))) ne_ch_ac f_ch
  have ne_sh_ac : sh ≠ ac := hp_nn f_sh hq_ac
  have f_sh := hp_k (e := (.inl (ct 4, 12, .inr (.inr (.inr (.inr (fun _ => none))))))) ne_sh_ac f_sh
  have ne_su_ac : su ≠ ac := hp_nn f_su hq_ac
  have f_su := hp_k (e := (.inl (ct 4, 12, .inr (.inr (.inr (.inr (fun _ => none))))))) ne_su_ac f_su
  have ne_wo_ac : wo ≠ ac := hp_nn f_wo hq_ac
  have f_wo := hp_k (e := (.inl (ct 4, 12, .inr (.inr (.inr (.inr (fun _ => none))))))) ne_wo_ac f_wo
  have f_ac : hp_up M9 ac (.inl (ct 4, 12, .inr (.inr (.inr (.inr (fun _ => none)))))) ac = some (.inl (ct 4, 12, .inr (.inr (.inr (.inr (fun _ => none)))))) := hp_us
  obtain ⟨M10, eM10⟩ : ∃ z, z = hp_up M9 ac (.inl (ct 4, 12, .inr (.inr (.inr (.inr (fun _ => none)))))) := ⟨_, rfl⟩
  rw [← eM10] at hM f_x f_xt f_ch f_sh f_su f_wo f_ac
  refine hp_putF (ty := (.array (.object "ActionDigests$Action"))) (fs' := [.ref xt, .ref sh, .ref ac, .int (nI 0), .null, .int (nI 0), .null, .null]) S hK hM hS i_AD t_AD to_AD n_AD f_x rfl 2 (by decide) mf_AD_25 (fun _ h9 => h9) rfl hnm rfl (by decide +kernel) rfl rfl (by simp) rfl d_AD_init_32 (fun H locs hM hS => ?_)
  have f_xt := hp_k (e := (.inr (0, [.ref xt, .ref sh, .ref ac, .int (nI 0), .null, .int (nI 0), .null, .null]))) (Ne.symm ne_x_xt) f_xt
  have f_ch := hp_k (e := (.inr (0, [.ref xt, .ref sh, .ref ac, .int (nI 0), .null, .int (nI 0), .null, .null]))) (Ne.symm ne_x_ch) f_ch
  have f_sh := hp_k (e := (.inr (0, [.ref xt, .ref sh, .ref ac, .int (nI 0), .null, .int (nI 0), .null, .null]))) (Ne.symm ne_x_sh) f_sh
  have f_su := hp_k (e := (.inr (0, [.ref xt, .ref sh, .ref ac, .int (nI 0), .null, .int (nI 0), .null, .null]))) (Ne.symm ne_x_su) f_su
  have f_wo := hp_k (e := (.inr (0, [.ref xt, .ref sh, .ref ac, .int (nI 0), .null, .int (nI 0), .null, .null]))) (Ne.symm ne_x_wo) f_wo
  have f_ac := hp_k (e := (.inr (0, [.ref xt, .ref sh, .ref ac, .int (nI 0), .null, .int (nI 0), .null, .null]))) (Ne.symm ne_x_ac) f_ac
  have f_x : hp_up M10 x (.inr (0, [.ref xt, .ref sh, .ref ac, .int (nI 0), .null, .int (nI 0), .null, .null])) x = some (.inr (0, [.ref xt, .ref sh, .ref ac, .int (nI 0), .null, .int (nI 0), .null, .null])) := hp_us
  obtain ⟨M11, eM11⟩ : ∃ z, z = hp_up M10 x (.inr (0, [.ref xt, .ref sh, .ref ac, .int (nI 0), .null, .int (nI 0), .null, .null])) := ⟨_, rfl⟩
  rw [← eM11] at hM f_x f_xt f_ch f_sh f_su f_wo f_ac
  refine lv_aload_n hx hb d_AD_init_35 rfl (lv_at hl 0 rfl) ?_
  refine lv_iconst (v := nI 0) hx hb d_AD_init_36 rfl ?_
  refine hp_put (ty := .int) (fs' := [.ref xt, .ref sh, .ref ac, .int (nI 0), .null, .int (nI 0), .null, .null]) S hK hM hS i_AD t_AD to_AD n_AD f_x rfl 3 (by decide) mf_AD_29 (fun _ h9 => h9) rfl (by decide +kernel) rfl rfl (by simp) rfl d_AD_init_37 (fun H locs hM hS => ?_)
  have f_xt := hp_k (e := (.inr (0, [.ref xt, .ref sh, .ref ac, .int (nI 0), .null, .int (nI 0), .null, .null]))) (Ne.symm ne_x_xt) f_xt
  have f_ch := hp_k (e := (.inr (0, [.ref xt, .ref sh, .ref ac, .int (nI 0), .null, .int (nI 0), .null, .null]))) (Ne.symm ne_x_ch) f_ch
  have f_sh := hp_k (e := (.inr (0, [.ref xt, .ref sh, .ref ac, .int (nI 0), .null, .int (nI 0), .null, .null]))) (Ne.symm ne_x_sh) f_sh
  have f_su := hp_k (e := (.inr (0, [.ref xt, .ref sh, .ref ac, .int (nI 0), .null, .int (nI 0), .null, .null]))) (Ne.symm ne_x_su) f_su
  have f_wo := hp_k (e := (.inr (0, [.ref xt, .ref sh, .ref ac, .int (nI 0), .null, .int (nI 0), .null, .null]))) (Ne.symm ne_x_wo) f_wo
  have f_ac := hp_k (e := (.inr (0, [.ref xt, .ref sh, .ref ac, .int (nI 0), .null, .int (nI 0), .null, .null]))) (Ne.symm ne_x_ac) f_ac
  have f_x : hp_up M11 x (.inr (0, [.ref xt, .ref sh, .ref ac, .int (nI 0), .null, .int (nI 0), .null, .null])) x = some (.inr (0, [.ref xt, .ref sh, .ref ac, .int (nI 0), .null, .int (nI 0), .null, .null])) := hp_us
  obtain ⟨M12, eM12⟩ : ∃ z, z = hp_up M11 x (.inr (0, [.ref xt, .ref sh, .ref ac, .int (nI 0), .null, .int (nI 0), .null, .null])) := ⟨_, rfl⟩
  rw [← eM12] at hM f_x f_xt f_ch f_sh f_su f_wo f_ac
  refine lv_aload_n hx hb d_AD_init_40 rfl (lv_at hl 0 rfl) ?_
  refine lv_bipush (v := nI 8) hx hb d_AD_init_41 rfl ?_
  refine hp_newq S hK hM hS hA mk_AD_33 ((hzn _ _ _ hz).2.2.2.1) 3 rfl 8 rfl (by decide) (by decide) (by decide) d_AD_init_43 (fun al H hq_al hM hS => ?_)
  refine W.widen (k := 7) (n := 162) (by omega) (by omega) ?_
  have ne_x_al : x ≠ al := hp_nn f_x hq_al
  have f_x := hp_k (e := (.inl (ct 3, 8, .inr (.inr (.inr (.inr (fun _ => none))))))) ne_x_al f_x
  have ne_xt_al : xt ≠ al := hp_nn f_xt hq_al
  have f_xt := hp_k (e := (.inl (ct 3, 8, .inr (.inr (.inr (.inr (fun _ => none))))))) ne_xt_al f_xt
  have ne_ch_al : ch ≠ al := hp_nn f_ch hq_al
  have f_ch := hp_k (e := (.inl (ct 3, 8, .inr (.inr (.inr (.inr (fun _ => none))))))) ne_ch_al f_ch
  have ne_sh_al : sh ≠ al := hp_nn f_sh hq_al
  have f_sh := hp_k (e := (.inl (ct 3, 8, .inr (.inr (.inr (.inr (fun _ => none))))))) ne_sh_al f_sh
  have ne_su_al : su ≠ al := hp_nn f_su hq_al
  have f_su := hp_k (e := (.inl (ct 3, 8, .inr (.inr (.inr (.inr (fun _ => none))))))) ne_su_al f_su
  have ne_wo_al : wo ≠ al := hp_nn f_wo hq_al
  have f_wo := hp_k (e := (.inl (ct 3, 8, .inr (.inr (.inr (.inr (fun _ => none))))))) ne_wo_al f_wo
  have ne_ac_al : ac ≠ al := hp_nn f_ac hq_al
  have f_ac := hp_k (e := (.inl (ct 3, 8, .inr (.inr (.inr (.inr (fun _ => none))))))) ne_ac_al f_ac
  have f_al : hp_up M12 al (.inl (ct 3, 8, .inr (.inr (.inr (.inr (fun _ => none)))))) al = some (.inl (ct 3, 8, .inr (.inr (.inr (.inr (fun _ => none)))))) := hp_us
  obtain ⟨M13, eM13⟩ : ∃ z, z = hp_up M12 al (.inl (ct 3, 8, .inr (.inr (.inr (.inr (fun _ => none)))))) := ⟨_, rfl⟩
  rw [← eM13] at hM f_x f_xt f_ch f_sh f_su f_wo f_ac f_al
  refine hp_putF (ty := (.array (.object "ActionDigests$Key"))) (fs' := [.ref xt, .ref sh, .ref ac, .int (nI 0), .ref al, .int (nI 0), .null, .null]) S hK hM hS i_AD t_AD to_AD n_AD f_x rfl 4 (by decide) mf_AD_35 (fun _ h9 => h9) rfl hnm rfl (by decide +kernel) rfl rfl (by simp) rfl d_AD_init_46 (fun H locs hM hS => ?_)
  have f_xt := hp_k (e := (.inr (0, [.ref xt, .ref sh, .ref ac, .int (nI 0), .ref al, .int (nI 0), .null, .null]))) (Ne.symm ne_x_xt) f_xt
  have f_ch := hp_k (e := (.inr (0, [.ref xt, .ref sh, .ref ac, .int (nI 0), .ref al, .int (nI 0), .null, .null]))) (Ne.symm ne_x_ch) f_ch
  have f_sh := hp_k (e := (.inr (0, [.ref xt, .ref sh, .ref ac, .int (nI 0), .ref al, .int (nI 0), .null, .null]))) (Ne.symm ne_x_sh) f_sh
  have f_su := hp_k (e := (.inr (0, [.ref xt, .ref sh, .ref ac, .int (nI 0), .ref al, .int (nI 0), .null, .null]))) (Ne.symm ne_x_su) f_su
  have f_wo := hp_k (e := (.inr (0, [.ref xt, .ref sh, .ref ac, .int (nI 0), .ref al, .int (nI 0), .null, .null]))) (Ne.symm ne_x_wo) f_wo
  have f_ac := hp_k (e := (.inr (0, [.ref xt, .ref sh, .ref ac, .int (nI 0), .ref al, .int (nI 0), .null, .null]))) (Ne.symm ne_x_ac) f_ac
  have f_al := hp_k (e := (.inr (0, [.ref xt, .ref sh, .ref ac, .int (nI 0), .ref al, .int (nI 0), .null, .null]))) (Ne.symm ne_x_al) f_al
  have f_x : hp_up M13 x (.inr (0, [.ref xt, .ref sh, .ref ac, .int (nI 0), .ref al, .int (nI 0), .null, .null])) x = some (.inr (0, [.ref xt, .ref sh, .ref ac, .int (nI 0), .ref al, .int (nI 0), .null, .null])) := hp_us
  obtain ⟨M14, eM14⟩ : ∃ z, z = hp_up M13 x (.inr (0, [.ref xt, .ref sh, .ref ac, .int (nI 0), .ref al, .int (nI 0), .null, .null])) := ⟨_, rfl⟩
  rw [← eM14] at hM f_x f_xt f_ch f_sh f_su f_wo f_ac f_al
  refine lv_aload_n hx hb d_AD_init_49 rfl (lv_at hl 0 rfl) ?_
  refine lv_iconst (v := nI 0) hx hb d_AD_init_50 rfl ?_
  refine hp_put (ty := .int) (fs' := [.ref xt, .ref sh, .ref ac, .int (nI 0), .ref al, .int (nI 0), .null, .null]) S hK hM hS i_AD t_AD to_AD n_AD f_x rfl 5 (by decide) mf_AD_39 (fun _ h9 => h9) rfl (by decide +kernel) rfl rfl (by simp) rfl d_AD_init_51 (fun H locs hM hS => ?_)
  have f_xt := hp_k (e := (.inr (0, [.ref xt, .ref sh, .ref ac, .int (nI 0), .ref al, .int (nI 0), .null, .null]))) (Ne.symm ne_x_xt) f_xt
  have f_ch := hp_k (e := (.inr (0, [.ref xt, .ref sh, .ref ac, .int (nI 0), .ref al, .int (nI 0), .null, .null]))) (Ne.symm ne_x_ch) f_ch
  have f_sh := hp_k (e := (.inr (0, [.ref xt, .ref sh, .ref ac, .int (nI 0), .ref al, .int (nI 0), .null, .null]))) (Ne.symm ne_x_sh) f_sh
  have f_su := hp_k (e := (.inr (0, [.ref xt, .ref sh, .ref ac, .int (nI 0), .ref al, .int (nI 0), .null, .null]))) (Ne.symm ne_x_su) f_su
  have f_wo := hp_k (e := (.inr (0, [.ref xt, .ref sh, .ref ac, .int (nI 0), .ref al, .int (nI 0), .null, .null]))) (Ne.symm ne_x_wo) f_wo
  have f_ac := hp_k (e := (.inr (0, [.ref xt, .ref sh, .ref ac, .int (nI 0), .ref al, .int (nI 0), .null, .null]))) (Ne.symm ne_x_ac) f_ac
  have f_al := hp_k (e := (.inr (0, [.ref xt, .ref sh, .ref ac, .int (nI 0), .ref al, .int (nI 0), .null, .null]))) (Ne.symm ne_x_al) f_al
  have f_x : hp_up M14 x (.inr (0, [.ref xt, .ref sh, .ref ac, .int (nI 0), .ref al, .int (nI 0), .null, .null])) x = some (.inr (0, [.ref xt, .ref sh, .ref ac, .int (nI 0), .ref al, .int (nI 0), .null, .null])) := hp_us
  obtain ⟨M15, eM15⟩ : ∃ z, z = hp_up M14 x (.inr (0, [.ref xt, .ref sh, .ref ac, .int (nI 0), .ref al, .int (nI 0), .null, .null])) := ⟨_, rfl⟩
  rw [← eM15] at hM f_x f_xt f_ch f_sh f_su f_wo f_ac f_al
  refine lv_aload_n hx hb d_AD_init_54 rfl (lv_at hl 0 rfl) ?_
  refine lv_iconst (v := nI 0) hx hb d_AD_init_55 rfl ?_
  refine hp_newi S hK hM hS hA (atype := .char) rfl ma_char 0 rfl rfl (by decide) 0 rfl (by omega) (by decide) (by decide) d_AD_init_56 (fun sc H hq_sc hM hS => ?_)
  refine W.widen (k := 8) (n := 162) (by omega) (by omega) ?_
  rw [nf_0] at hM
  have ne_x_sc : x ≠ sc := hp_nn f_x hq_sc
  have f_x := hp_k (e := (.inl (ct 0, 0, .inl (nf (fun _ => 0))))) ne_x_sc f_x
  have ne_xt_sc : xt ≠ sc := hp_nn f_xt hq_sc
  have f_xt := hp_k (e := (.inl (ct 0, 0, .inl (nf (fun _ => 0))))) ne_xt_sc f_xt
  have ne_ch_sc : ch ≠ sc := hp_nn f_ch hq_sc
  have f_ch := hp_k (e := (.inl (ct 0, 0, .inl (nf (fun _ => 0))))) ne_ch_sc f_ch
  have ne_sh_sc : sh ≠ sc := hp_nn f_sh hq_sc
  have f_sh := hp_k (e := (.inl (ct 0, 0, .inl (nf (fun _ => 0))))) ne_sh_sc f_sh
  have ne_su_sc : su ≠ sc := hp_nn f_su hq_sc
  have f_su := hp_k (e := (.inl (ct 0, 0, .inl (nf (fun _ => 0))))) ne_su_sc f_su
  have ne_wo_sc : wo ≠ sc := hp_nn f_wo hq_sc
  have f_wo := hp_k (e := (.inl (ct 0, 0, .inl (nf (fun _ => 0))))) ne_wo_sc f_wo
  have ne_ac_sc : ac ≠ sc := hp_nn f_ac hq_sc
  have f_ac := hp_k (e := (.inl (ct 0, 0, .inl (nf (fun _ => 0))))) ne_ac_sc f_ac
  have ne_al_sc : al ≠ sc := hp_nn f_al hq_sc
  have f_al := hp_k (e := (.inl (ct 0, 0, .inl (nf (fun _ => 0))))) ne_al_sc f_al
  have f_sc : hp_up M15 sc (.inl (ct 0, 0, .inl (nf (fun _ => 0)))) sc = some (.inl (ct 0, 0, .inl (nf (fun _ => 0)))) := hp_us
  obtain ⟨M16, eM16⟩ : ∃ z, z = hp_up M15 sc (.inl (ct 0, 0, .inl (nf (fun _ => 0)))) := ⟨_, rfl⟩
  rw [← eM16] at hM f_x f_xt f_ch f_sh f_su f_wo f_ac f_al f_sc
  refine hp_put (ty := (.array .char)) (fs' := [.ref xt, .ref sh, .ref ac, .int (nI 0), .ref al, .int (nI 0), .ref sc, .null]) S hK hM hS i_AD t_AD to_AD n_AD f_x rfl 6 (by decide) mf_AD_42 (fun _ h9 => h9) rfl (by decide +kernel) rfl rfl (by simp) rfl d_AD_init_58 (fun H locs hM hS => ?_)
  have f_xt := hp_k (e := (.inr (0, [.ref xt, .ref sh, .ref ac, .int (nI 0), .ref al, .int (nI 0), .ref sc, .null]))) (Ne.symm ne_x_xt) f_xt
  have f_ch := hp_k (e := (.inr (0, [.ref xt, .ref sh, .ref ac, .int (nI 0), .ref al, .int (nI 0), .ref sc, .null]))) (Ne.symm ne_x_ch) f_ch
  have f_sh := hp_k (e := (.inr (0, [.ref xt, .ref sh, .ref ac, .int (nI 0), .ref al, .int (nI 0), .ref sc, .null]))) (Ne.symm ne_x_sh) f_sh
  have f_su := hp_k (e := (.inr (0, [.ref xt, .ref sh, .ref ac, .int (nI 0), .ref al, .int (nI 0), .ref sc, .null]))) (Ne.symm ne_x_su) f_su
  have f_wo := hp_k (e := (.inr (0, [.ref xt, .ref sh, .ref ac, .int (nI 0), .ref al, .int (nI 0), .ref sc, .null]))) (Ne.symm ne_x_wo) f_wo
  have f_ac := hp_k (e := (.inr (0, [.ref xt, .ref sh, .ref ac, .int (nI 0), .ref al, .int (nI 0), .ref sc, .null]))) (Ne.symm ne_x_ac) f_ac
  have f_al := hp_k (e := (.inr (0, [.ref xt, .ref sh, .ref ac, .int (nI 0), .ref al, .int (nI 0), .ref sc, .null]))) (Ne.symm ne_x_al) f_al
  have f_sc := hp_k (e := (.inr (0, [.ref xt, .ref sh, .ref ac, .int (nI 0), .ref al, .int (nI 0), .ref sc, .null]))) (Ne.symm ne_x_sc) f_sc
  have f_x : hp_up M16 x (.inr (0, [.ref xt, .ref sh, .ref ac, .int (nI 0), .ref al, .int (nI 0), .ref sc, .null])) x = some (.inr (0, [.ref xt, .ref sh, .ref ac, .int (nI 0), .ref al, .int (nI 0), .ref sc, .null])) := hp_us
  obtain ⟨M17, eM17⟩ : ∃ z, z = hp_up M16 x (.inr (0, [.ref xt, .ref sh, .ref ac, .int (nI 0), .ref al, .int (nI 0), .ref sc, .null])) := ⟨_, rfl⟩
  rw [← eM17] at hM f_x f_xt f_ch f_sh f_su f_wo f_ac f_al f_sc
  refine lv_aload_n hx hb d_AD_init_61 rfl (lv_at hl 0 rfl) ?_
  refine lv_bipush (v := nI 64) hx hb d_AD_init_62 rfl ?_
  refine hp_newi S hK hM hS hA (atype := .char) rfl ma_char 0 rfl rfl (by decide) 64 rfl (by omega) (by decide) (by decide) d_AD_init_64 (fun hg H hq_hg hM hS => ?_)
  refine W.widen (k := 9) (n := 226) (by omega) (by omega) ?_
  rw [nf_0] at hM
  have ne_x_hg : x ≠ hg := hp_nn f_x hq_hg
  have f_x := hp_k (e := (.inl (ct 0, 64, .inl (nf (fun _ => 0))))) ne_x_hg f_x
  have ne_xt_hg : xt ≠ hg := hp_nn f_xt hq_hg
  have f_xt := hp_k (e := (.inl (ct 0, 64, .inl (nf (fun _ => 0))))) ne_xt_hg f_xt
  have ne_ch_hg : ch ≠ hg := hp_nn f_ch hq_hg
  have f_ch := hp_k (e := (.inl (ct 0, 64, .inl (nf (fun _ => 0))))) ne_ch_hg f_ch
  have ne_sh_hg : sh ≠ hg := hp_nn f_sh hq_hg
  have f_sh := hp_k (e := (.inl (ct 0, 64, .inl (nf (fun _ => 0))))) ne_sh_hg f_sh
  have ne_su_hg : su ≠ hg := hp_nn f_su hq_hg
  have f_su := hp_k (e := (.inl (ct 0, 64, .inl (nf (fun _ => 0))))) ne_su_hg f_su
  have ne_wo_hg : wo ≠ hg := hp_nn f_wo hq_hg
  have f_wo := hp_k (e := (.inl (ct 0, 64, .inl (nf (fun _ => 0))))) ne_wo_hg f_wo
  have ne_ac_hg : ac ≠ hg := hp_nn f_ac hq_hg
  have f_ac := hp_k (e := (.inl (ct 0, 64, .inl (nf (fun _ => 0))))) ne_ac_hg f_ac
  have ne_al_hg : al ≠ hg := hp_nn f_al hq_hg
  have f_al := hp_k (e := (.inl (ct 0, 64, .inl (nf (fun _ => 0))))) ne_al_hg f_al
  have ne_sc_hg : sc ≠ hg := hp_nn f_sc hq_hg
  have f_sc := hp_k (e := (.inl (ct 0, 64, .inl (nf (fun _ => 0))))) ne_sc_hg f_sc
  have f_hg : hp_up M17 hg (.inl (ct 0, 64, .inl (nf (fun _ => 0)))) hg = some (.inl (ct 0, 64, .inl (nf (fun _ => 0)))) := hp_us
  obtain ⟨M18, eM18⟩ : ∃ z, z = hp_up M17 hg (.inl (ct 0, 64, .inl (nf (fun _ => 0)))) := ⟨_, rfl⟩
  rw [← eM18] at hM f_x f_xt f_ch f_sh f_su f_wo f_ac f_al f_sc f_hg
  refine hp_putF (ty := (.array .char)) (fs' := [.ref xt, .ref sh, .ref ac, .int (nI 0), .ref al, .int (nI 0), .ref sc, .ref hg]) S hK hM hS i_AD t_AD to_AD n_AD f_x rfl 7 (by decide) mf_AD_46 (fun _ h9 => h9) rfl hnm rfl (by decide +kernel) rfl rfl (by simp) rfl d_AD_init_66 (fun H locs hM hS => ?_)
  have f_xt := hp_k (e := (.inr (0, [.ref xt, .ref sh, .ref ac, .int (nI 0), .ref al, .int (nI 0), .ref sc, .ref hg]))) (Ne.symm ne_x_xt) f_xt
  have f_ch := hp_k (e := (.inr (0, [.ref xt, .ref sh, .ref ac, .int (nI 0), .ref al, .int (nI 0), .ref sc, .ref hg]))) (Ne.symm ne_x_ch) f_ch
  have f_sh := hp_k (e := (.inr (0, [.ref xt, .ref sh, .ref ac, .int (nI 0), .ref al, .int (nI 0), .ref sc, .ref hg]))) (Ne.symm ne_x_sh) f_sh
  have f_su := hp_k (e := (.inr (0, [.ref xt, .ref sh, .ref ac, .int (nI 0), .ref al, .int (nI 0), .ref sc, .ref hg]))) (Ne.symm ne_x_su) f_su
  have f_wo := hp_k (e := (.inr (0, [.ref xt, .ref sh, .ref ac, .int (nI 0), .ref al, .int (nI 0), .ref sc, .ref hg]))) (Ne.symm ne_x_wo) f_wo
  have f_ac := hp_k (e := (.inr (0, [.ref xt, .ref sh, .ref ac, .int (nI 0), .ref al, .int (nI 0), .ref sc, .ref hg]))) (Ne.symm ne_x_ac) f_ac
  have f_al := hp_k (e := (.inr (0, [.ref xt, .ref sh, .ref ac, .int (nI 0), .ref al, .int (nI 0), .ref sc, .ref hg]))) (Ne.symm ne_x_al) f_al
  have f_sc := hp_k (e := (.inr (0, [.ref xt, .ref sh, .ref ac, .int (nI 0), .ref al, .int (nI 0), .ref sc, .ref hg]))) (Ne.symm ne_x_sc) f_sc
  have f_hg := hp_k (e := (.inr (0, [.ref xt, .ref sh, .ref ac, .int (nI 0), .ref al, .int (nI 0), .ref sc, .ref hg]))) (Ne.symm ne_x_hg) f_hg
  have f_x : hp_up M18 x (.inr (0, [.ref xt, .ref sh, .ref ac, .int (nI 0), .ref al, .int (nI 0), .ref sc, .ref hg])) x = some (.inr (0, [.ref xt, .ref sh, .ref ac, .int (nI 0), .ref al, .int (nI 0), .ref sc, .ref hg])) := hp_us
  obtain ⟨M19, eM19⟩ : ∃ z, z = hp_up M18 x (.inr (0, [.ref xt, .ref sh, .ref ac, .int (nI 0), .ref al, .int (nI 0), .ref sc, .ref hg])) := ⟨_, rfl⟩
  rw [← eM19] at hM f_x f_xt f_ch f_sh f_su f_wo f_ac f_al f_sc f_hg
  refine lv_aload_n hx hb d_AD_init_69 rfl (lv_at hl 0 rfl) ?_
  refine lv_iconst (v := nI 0) hx hb d_AD_init_70 rfl ?_
  refine hp_newi S hK hM hS hA (atype := .char) rfl ma_char 0 rfl rfl (by decide) 0 rfl (by omega) (by decide) (by decide) d_AD_init_71 (fun tc H hq_tc hM hS => ?_)
  refine W.widen (k := 10) (n := 226) (by omega) (by omega) ?_
  rw [nf_0] at hM
  have ne_x_tc : x ≠ tc := hp_nn f_x hq_tc
  have f_x := hp_k (e := (.inl (ct 0, 0, .inl (nf (fun _ => 0))))) ne_x_tc f_x
  have ne_xt_tc : xt ≠ tc := hp_nn f_xt hq_tc
  have f_xt := hp_k (e := (.inl (ct 0, 0, .inl (nf (fun _ => 0))))) ne_xt_tc f_xt
  have ne_ch_tc : ch ≠ tc := hp_nn f_ch hq_tc
  have f_ch := hp_k (e := (.inl (ct 0, 0, .inl (nf (fun _ => 0))))) ne_ch_tc f_ch
  have ne_sh_tc : sh ≠ tc := hp_nn f_sh hq_tc
  have f_sh := hp_k (e := (.inl (ct 0, 0, .inl (nf (fun _ => 0))))) ne_sh_tc f_sh
  have ne_su_tc : su ≠ tc := hp_nn f_su hq_tc
  have f_su := hp_k (e := (.inl (ct 0, 0, .inl (nf (fun _ => 0))))) ne_su_tc f_su
  have ne_wo_tc : wo ≠ tc := hp_nn f_wo hq_tc
  have f_wo := hp_k (e := (.inl (ct 0, 0, .inl (nf (fun _ => 0))))) ne_wo_tc f_wo
  have ne_ac_tc : ac ≠ tc := hp_nn f_ac hq_tc
  have f_ac := hp_k (e := (.inl (ct 0, 0, .inl (nf (fun _ => 0))))) ne_ac_tc f_ac
  have ne_al_tc : al ≠ tc := hp_nn f_al hq_tc
  have f_al := hp_k (e := (.inl (ct 0, 0, .inl (nf (fun _ => 0))))) ne_al_tc f_al
  have ne_sc_tc : sc ≠ tc := hp_nn f_sc hq_tc
  have f_sc := hp_k (e := (.inl (ct 0, 0, .inl (nf (fun _ => 0))))) ne_sc_tc f_sc
  have ne_hg_tc : hg ≠ tc := hp_nn f_hg hq_tc
  have f_hg := hp_k (e := (.inl (ct 0, 0, .inl (nf (fun _ => 0))))) ne_hg_tc f_hg
  have f_tc : hp_up M19 tc (.inl (ct 0, 0, .inl (nf (fun _ => 0)))) tc = some (.inl (ct 0, 0, .inl (nf (fun _ => 0)))) := hp_us
  obtain ⟨M20, eM20⟩ : ∃ z, z = hp_up M19 tc (.inl (ct 0, 0, .inl (nf (fun _ => 0)))) := ⟨_, rfl⟩
  rw [← eM20] at hM f_x f_xt f_ch f_sh f_su f_wo f_ac f_al f_sc f_hg f_tc
  have hsh : shOk ct M20 sh su wo (nf (fun _ => 0), nf (fun _ => 0), 0, 0) := ⟨f_su, f_wo, f_sh, by decide⟩
  have hw0 : adW ct M20 x xt ch sh su wo ac al sc hg [] (nf (fun _ => 0), nf (fun _ => 0), 0, 0) [] [] [] (List.replicate 64 0) := ⟨f_x, ⟨fun _ => 0, f_xt, f_ch, fun i hi => absurd hi (Nat.not_lt_zero i), fun _ => (by decide : (0 : Nat) < 65536), by decide⟩, hsh, ⟨fun _ => none, fun _ => 0, fun _ => 0, fun _ _ => none, f_ac, by decide, fun i hi => absurd hi (Nat.not_lt_zero i), fun i j hi => absurd hi (Nat.not_lt_zero i)⟩, ⟨fun _ => none, f_al, by decide, fun i hi => absurd hi (Nat.not_lt_zero i)⟩, ⟨f_sc, by decide, fun i => by simp, ⟨Ne.symm ne_ch_sc, ne_sc_hg⟩⟩, ⟨by rw [tx_rep]; exact f_hg, by simp, fun i => by rw [rep_at]; decide⟩, ne_ch_hg⟩
  refine hp_callv (go_V S hZ hK hM hS hA hz (c_AD_holdContent l D ct Z hZ _ _ tk th hzk hzh (fzc ch hg) x xt sh ac 0 al 0 sc hg f_x su wo _ hsh [] f_hg tc [] (by decide) (fun i => by show ([] : List Nat).getD i 0 < 65536; simp) f_tc) mc_AD_holdContent mz_AD ml_AD_49 mi_AD_holdContent mx_AD_holdContent hd_AD_holdContent rfl ⟨by decide, by decide⟩ f_x rfl rfl hl.1 rfl (Nat.le_of_ble_eq_true rfl) d_AD_init_73 ⟨by decide, by decide⟩) hM hS hA (fun M9 H locs h9 hM hS => ?_)
  obtain ⟨X, hX, rfl⟩ := h9
  have hw3 := hw0.sha (ct01 hK) hX
  replace hM := hM.cong (a := hg) (g := tx (hexL (dgW (nf (fun _ => 0)) []))) hp_us (fun i hi => congrArg nI (hexL_at hi).symm)
  rw [hp_uu] at hM
  exact hp_vret S hret hlk hM hS ⟨xt, ch, sh, su, wo, ac, al, sc, hg, X, hw3.held (ct01 hK) hexL_len (fun i => Nat.lt_trans (hexL_lt i) (by decide))⟩ d_AD_init_76
end
section
/-! ===== BEGIN words of one list among another's, by their places ===== -/
theorem goodIn_r {big : List Cond} (ws : List Cond) (ps : List Nat) (hp : ws = ps.filterMap (fun i => big[i]?)) (h : ws.all goodWord = true) : GoodIn big ws := by
  intro w hw
  have h1 := List.all_eq_true.mp h w hw
  rw [hp] at hw
  obtain ⟨i, -, hi⟩ := List.mem_filterMap.mp hw
  have hm : w ∈ big := by first | exact List.mem_of_getElem? hi | exact List.getElem?_mem hi
  exact ⟨hm, good_of_word h1⟩
theorem goodIn_app {big a b : List Cond} (ha : GoodIn big a) (hb : GoodIn big b) : GoodIn big (a ++ b) := fun w h => (List.mem_append.mp h).elim (ha w) (hb w)
theorem goodIn_ca {big a b : List Cond} {c : Cond} (ha : GoodIn big (c :: a)) (hb : GoodIn big b) : GoodIn big (c :: (a ++ b)) := fun w h => (List.mem_cons.mp h).elim (fun e => ha w (List.mem_cons.mpr (Or.inl e))) (fun h => (List.mem_append.mp h).elim (fun h => ha w (List.mem_cons.mpr (Or.inr h))) (hb w))
theorem goodIn_sub {big ws : List Cond} (hm : ∀ w ∈ ws, w ∈ big) (h : ws.all goodWord = true) : GoodIn big ws := fun w hw => ⟨hm w hw, good_of_word (List.all_eq_true.mp h w hw)⟩
/-! ===== END ===== -/

/-! ===== BEGIN exceptions that leave a method, and their catching by the caller (launches without stack traces) ===== -/
section VXA
/-! The laws vx_back, vx_callV, vx_callS, vx_callSW, vx_throw0, vx_throwS follow proofs of the library, with one case more: JvmDerived/Free/Laws.lean (Back.of_free), Shelf42/LK1.lean (callV, callS), Shelf/KitTraced.lean (throwNew0V, throwNewS). -/
/-- where a method has thrown q: the class by its name, the cell, what was written, the world -/
def vx_T (XC : String → State → State → Prop) (st : State) (q : Addr) (t : State) (mc ms : Nat) (free : Addr → Prop) : Prop :=
  ∃ (E : String) (ce : Cell) (L : List Loc), XC E st t ∧ t.heap[q]? = some ce ∧ ce.vm = .none ∧ st.vm.findClass E = some ce.cls ∧ st.WarmedH t.vm ∧ st.sameButNew ({ t with vm := st.vm } : State) L mc ms ∧ ∀ z ∈ L, free z.base
def vx_Q (Qc : Array Value → State → Outcome → State → Prop) (XC : String → State → State → Prop) (mc ms : Nat) (free : Addr → Prop) : Array Value → State → Outcome → State → Prop := fun a st o t =>
  (Qc a st o t ∧ ∃ L, FrameEnd st o t L mc ms ∧ ∀ q ∈ L, free q.base) ∨ ∃ q, o = .threw q ∧ vx_T XC st q t mc ms free
/-- a callee that returns or throws -/
def vx_Met (l : Launch) (y : MethodName) (ws : List Cond) (rm : Room) (Pc : Array Value → State → Prop) (Qc : Array Value → State → Outcome → State → Prop) (XC : String → State → State → Prop) (mc ms : Nat) (free : Addr → Prop) : Prop :=
  MetFree l y (headSpec ws rm) Pc (fun _ _ _ _ _ => True) (vx_Q Qc XC mc ms free)
def vx_Post (XC : String → State → State → Prop) (mc ms : Nat) (free : Addr → Prop) : Pt → Array Value → Addr → Pt → Prop := fun A a q B =>
  ∃ (g : JFrame) (mk : MethodId) (t : State) (L : List Loc) (E : String) (ce : Cell), B.U.heap = t.heap ∧ B.U.vm = t.vm ∧ XC E (A.U.calling g mk a) t ∧ t.heap[q]? = some ce ∧ ce.vm = .none ∧ A.U.vm.findClass E = some ce.cls ∧ B.locs = A.locs ++ L ∧ (∀ z ∈ L, free z.base) ∧ B.cells = A.cells + mc ∧ B.slots = A.slots + ms
def vx_Back (l : Launch) (R : Room) (p : Program) (e : Env) (below : List Frame) (s : State) (sargs : Array Value) (y : MethodName) (len W9 : Nat)
    (Pre : Pt → Array Value → Prop) (Post : Pt → Array Value → Option Value → Pt → Prop) (PostX : Pt → Array Value → Addr → Pt → Prop) : Prop :=
  ∀ (m : MethodId) (meth : Method) (c : Code) (A : Pt) (g : JFrame) (ig : Instr) (mk : MethodId) (a : Array Value),
    Stand p l e R s m sargs below meth c A.U A.locs A.cells A.slots → g.method = m → g.locals.size = c.maxLocals → decode c.code g.pc = .ok (ig, len) →
    2 * g.monitorRoom + (g.stack.map fun v => v.category).sum ≤ W9 → A.U.methodNamed? y = some mk → Pre A a →
    (∃ (v : Option Value) (B : Pt), Stand p l e R s m sargs below meth c B.U B.locs B.cells B.slots ∧ Post A a v B ∧
      Steps p.tables e below (doInvoke e (A.U.setTop g) [] mk a).1 (B.U.setTop { g with pc := g.pc + len, stack := v.toList ++ g.stack })) ∨
    (∃ (q : Addr) (B : Pt), Stand p l e R s m sargs below meth c B.U B.locs B.cells B.slots ∧ PostX A a q B ∧
      Steps p.tables e below (doInvoke e (A.U.setTop g) [] mk a).1 ((B.U.setTop g).pushFrame (.throwing q)))
section Payer
variable {l : Launch} {R : Room} {p : Program} {e : Env} {below : List Frame} {s : State} {sargs : Array Value} {y : MethodName} {len W9 : Nat}
theorem vx_back {ws : List Cond} {rm : Room} {Pc : Array Value → State → Prop} {Qc : Array Value → State → Outcome → State → Prop} {XC : String → State → State → Prop} {mc ms : Nat} {free : Addr → Prop} {bytes : ByteArray} {maxL : Nat} {ret : Option FieldType}
    (hM : vx_Met l y ws rm Pc Qc XC mc ms free) (hblind : FrameBlind Pc) (hrc : rm.cells = mc) (hrs : rm.slots = ms)
    (hframes : rm.frames + 1 ≤ R.frames) (hlocals : W9 + (maxL + 11) + rm.locals ≤ R.locals)
    (hws : ∀ w ∈ ws, ∀ a' U, s.WarmedH U.vm → w.before a' U = true) (hcode : Cond.code y bytes maxL ret ∈ ws) (hinit : ∀ a' U, s.WarmedH U.vm → (Cond.initialized y.cls).before a' U = true) :
    vx_Back l R p e below s sargs y len W9 (PreOf R mc ms Pc) (PostOf Qc mc ms free) (vx_Post XC mc ms free) := by
  intro m meth c A g ig mk a X hg hsize hdg hW hn hp
  have h1 : (headSpec ws rm).pre.before a A.U = true := atoms_intro fun w hw => hws w hw _ _ X.warmed
  have h2 : (Cond.code y bytes maxL ret).before a A.U = true := hws _ hcode _ _ X.warmed
  have h3 : (Cond.initialized y.cls).before a A.U = true := hinit _ _ X.warmed
  have h4 : A.cells + (headSpec ws rm).room.cells ≤ R.cells := by rw [show (headSpec ws rm).room.cells = mc from hrc]; exact hp.1
  have h5 : A.slots + (headSpec ws rm).room.slots ≤ R.slots := by rw [show (headSpec ws rm).room.slots = ms from hrs]; exact hp.2.1
  have hPc : Pc a (A.U.calling g mk a) := hblind _ _ _ _ hp.2.2
  obtain ⟨U, Ls, c0, s0⟩ := A
  dsimp only [Pt.U, Pt.locs, Pt.cells, Pt.slots] at h1 h2 h3 h4 h5 X hn hPc ⊢
  obtain ⟨methY, cY, hmY, hcY, -, hlY, -, -, -, -⟩ := Cond.code_spec hn h2
  obtain ⟨kY, hkY, -⟩ := className_of_methodNamed hn
  have hinitY : kY.init = .initialized := Cond.initialized_spec (findClass_of_methodNamed hn) hkY h3
  have h : At U g.method c below := by rw [hg]; exact X.here
  have hlocals9 : W9 + (maxL + 11) + (headSpec ws rm).room.locals ≤ R.locals := hlocals
  have happ : (headSpec ws rm).appliesLoose y e.platform (U.calling g mk a) = true :=
    Spec.appliesLoose_calling (g := g) h hdg hn hkY hinitY
      (X.room_calling (g := g) (R' := (headSpec ws rm).room) hsize hmY hcY hframes (by rw [hlY]; omega) h4 h5) h1
  obtain ⟨mid, hmid⟩ := h.above
  have hfr : (U.setTop g).frames = (.java g :: mid) ++ below := by rw [State.frames_setTop' g h.top, hmid]; rfl
  obtain ⟨o, s₂, hsteps, -, hend, hq⟩ := Steps.callFree hM p X.admits X.cas X.clock (acts := []) hfr happ hPc trivial
  have hq' : vx_Q Qc XC mc ms free a (U.calling g mk a) o s₂ := hq
  rw [State.frames_setTop' g h.top] at hend
  obtain ⟨g₀, hg0⟩ := Option.isSome_iff_exists.mp h.top
  obtain ⟨r, hr⟩ := State.topJava?_eq_some.mp hg0
  have hr' : (({ U with heap := s₂.heap, slotsUsed := s₂.slotsUsed } : State).setVm s₂.vm).frames = .java g₀ :: r := hr
  rcases hq' with ⟨hqc, L, hfe, hL⟩ | ⟨q, rfl, E, ce, L, hx, hce, hcv, hcl, hW₂, hsm, hL⟩
  · obtain ⟨⟨v, rfl⟩, hW₂, e2, q2, q3, q4, q5, q6⟩ := id hfe
    have e3 : s₂ = ({ (U.calling g mk a).setFrames s₂.frames with heap := s₂.heap, slotsUsed := s₂.slotsUsed } : State).setVm s₂.vm := by
      have : s₂ = ({ s₂ with vm := (U.calling g mk a).vm } : State).setVm s₂.vm := rfl
      rw [e2] at this
      exact this
    obtain ⟨c₂, i₂, len₂, hc₂, hd₂, hf₂⟩ := hend
    have hW' : U.WarmedH s₂.vm := hW₂
    have hcc : c₂ = c := by
      have h1 : s₂.code? g.method = U.code? g.method := by
        rw [State.code?_eq, State.code?_eq, hW'.alike.method?]
      exact Option.some.inj (hc₂.symm.trans (h1.trans h.code))
    subst hcc
    have hlen : len₂ = len := by rw [hdg] at hd₂; cases hd₂; rfl
    subst hlen
    have hs₂ : s₂ = (({ U with heap := s₂.heap, slotsUsed := s₂.slotsUsed } : State).setVm s₂.vm).setTop { g with pc := g.pc + len₂, stack := v.toList ++ g.stack } := by
      refine e3.trans ?_
      rw [hf₂, State.calling_eq h.top, State.setFrames_setFrames, State.setTop_of_frames _ hr', hr]
      rfl
    have hsame : U.sameButNew ({ U with heap := s₂.heap, slotsUsed := s₂.slotsUsed } : State) L mc ms := by
      refine ⟨?_, q2, q3, q4, q5, q6⟩
      obtain ⟨t, ht, -⟩ := State.frames_cons hr
      show ({ U with heap := s₂.heap, slotsUsed := s₂.slotsUsed } : State) = { U.setFrames U.frames with heap := s₂.heap, slotsUsed := s₂.slotsUsed }
      rw [State.setFrames_self ht]
    subst hg
    refine Or.inl ⟨v, ⟨(({ U with heap := s₂.heap, slotsUsed := s₂.slotsUsed } : State).setVm s₂.vm), Ls ++ L, c0 + mc, s0 + ms⟩,
      ⟨X.admits, X.cas, X.clock, X.frames, X.room, X.hears, X.method, X.code, (X.here.setHeapUsed s₂.heap s₂.slotsUsed).setVm hW'.alike, X.tail, State.WarmedH.trans X.warmed hW', X.limits, X.bytes, X.same.trans (hsame.setVm s.vm)⟩,
      ⟨g, mk, s₂, L, rfl, rfl, hqc, rfl, hL, rfl, rfl⟩, ?_⟩
    show Steps p.tables e below _ ((({ U with heap := s₂.heap, slotsUsed := s₂.slotsUsed } : State).setVm s₂.vm).setTop { g with pc := g.pc + len₂, stack := v.toList ++ g.stack })
    rw [← hs₂]
    exact hsteps
  · obtain ⟨e2, q2, q3, q4, q5, q6⟩ := id hsm
    have e3 : s₂ = ({ (U.calling g mk a).setFrames s₂.frames with heap := s₂.heap, slotsUsed := s₂.slotsUsed } : State).setVm s₂.vm := by
      have : s₂ = ({ s₂ with vm := (U.calling g mk a).vm } : State).setVm s₂.vm := rfl
      rw [e2] at this
      exact this
    have hf₂ : s₂.frames = .throwing q :: .java g :: U.frames.tail := hend
    have hW' : U.WarmedH s₂.vm := hW₂
    have hs₂ : s₂ = ((({ U with heap := s₂.heap, slotsUsed := s₂.slotsUsed } : State).setVm s₂.vm).setTop g).pushFrame (.throwing q) := by
      refine e3.trans ?_
      rw [hf₂, State.calling_eq h.top, State.setFrames_setFrames, State.pushFrame, State.frames_setTop _ hr', State.setTop_of_frames _ hr', State.setFrames_setFrames, hr]
      rfl
    have hsame : U.sameButNew ({ U with heap := s₂.heap, slotsUsed := s₂.slotsUsed } : State) L mc ms := by
      refine ⟨?_, q2, q3, q4, q5, q6⟩
      obtain ⟨t, ht, -⟩ := State.frames_cons hr
      show ({ U with heap := s₂.heap, slotsUsed := s₂.slotsUsed } : State) = { U.setFrames U.frames with heap := s₂.heap, slotsUsed := s₂.slotsUsed }
      rw [State.setFrames_self ht]
    subst hg
    refine Or.inr ⟨q, ⟨(({ U with heap := s₂.heap, slotsUsed := s₂.slotsUsed } : State).setVm s₂.vm), Ls ++ L, c0 + mc, s0 + ms⟩,
      ⟨X.admits, X.cas, X.clock, X.frames, X.room, X.hears, X.method, X.code, (X.here.setHeapUsed s₂.heap s₂.slotsUsed).setVm hW'.alike, X.tail, State.WarmedH.trans X.warmed hW', X.limits, X.bytes, X.same.trans (hsame.setVm s.vm)⟩,
      ⟨g, mk, s₂, L, E, ce, rfl, rfl, hx, hce, hcv, hcl, rfl, hL, rfl, rfl⟩, ?_⟩
    show Steps p.tables e below _ (((({ U with heap := s₂.heap, slotsUsed := s₂.slotsUsed } : State).setVm s₂.vm).setTop g).pushFrame (.throwing q))
    rw [← hs₂]
    exact hsteps
end Payer
section Calls
variable {p : Program} {l : Launch} {e : Env} {R : Room} {s : State} {m : MethodId} {args : Array Value} {below : List Frame} {meth : Method} {c : Code} {T : State} {locs : List Loc} {cells slots : Nat}
theorem vx_callV (X : Stand p l e R s m args below meth c T locs cells slots) (hexec : p.tables.exec = Jvm.exec) {own C : String} {index : Nat} {y : MethodName} {bytes : ByteArray} {maxL : Nat} {ret : Option FieldType}
    (hown : s.vm.findClass own = some m.cls) (hlink : (Cond.methodLink own index y).before args s = true) (hinst : (Cond.instanceMethod y).before args s = true) (hsel : (Cond.selects C y y).before args s = true)
    (hcode : (Cond.code y bytes maxL ret).before args s = true) (hy : y.cls ≠ "java/lang/invoke/MethodHandle" ∧ y.cls ≠ "java/lang/invoke/VarHandle")
    {W9 : Nat} {Pre : Pt → Array Value → Prop} {Post : Pt → Array Value → Option Value → Pt → Prop} {PostX : Pt → Array Value → Addr → Pt → Prop} (hK : vx_Back l R p e below s args y 3 W9 Pre Post PostX)
    {b : Addr} {cellB : Cell} (hcell : T.heap[b]? = some cellB) (hobj : cellB.vm.isStatics = false) (hcls : s.vm.findClass C = some cellB.cls)
    {g : JFrame} (hg : g.method = m) (hsize : g.locals.size = c.maxLocals) {argsL rest : List Value} (hlen : ∀ sig, parseMethodDescriptor y.desc = some sig → argsL.length = sig.parameters.length)
    (hstack : g.stack = argsL.reverse ++ .ref b :: rest) (hW : 2 * g.monitorRoom + (rest.map fun v => v.category).sum ≤ W9) (hdg : decode c.code g.pc = .ok (.invokevirtual index, 3))
    (hpre : ∀ vm₁, s.WarmedH vm₁ → Pre ⟨T.setVm vm₁, locs, cells, slots⟩ (Value.ref b :: argsL).toArray) :
    (∃ (v : Option Value) (vm₁ : Vm) (B : Pt), s.WarmedH vm₁ ∧ Stand p l e R s m args below meth c B.U B.locs B.cells B.slots ∧ Post ⟨T.setVm vm₁, locs, cells, slots⟩ (Value.ref b :: argsL).toArray v B ∧
      ∀ target, Steps p.tables e below (B.U.setTop { g with pc := g.pc + 3, stack := v.toList ++ rest }) target → Steps p.tables e below (T.setTop g) target) ∨
    (∃ (q : Addr) (vm₁ : Vm) (B : Pt), s.WarmedH vm₁ ∧ Stand p l e R s m args below meth c B.U B.locs B.cells B.slots ∧ PostX ⟨T.setVm vm₁, locs, cells, slots⟩ (Value.ref b :: argsL).toArray q B ∧
      Steps p.tables e below (T.setTop g) ((B.U.setTop { g with stack := rest }).pushFrame (.throwing q))) := by
  obtain ⟨mk, methM, hnamed, hmethM, hstM, habM⟩ := Cond.instanceMethod_spec hinst
  obtain ⟨methM', cM, hmethM', -, -, -, -, -, -, hsigM⟩ := Cond.code_spec hnamed hcode
  cases hmethM.symm.trans hmethM'
  obtain ⟨c2, r2, m2, q1, q2, q3, q4, kP, hkP, hkPi⟩ := Cond.selects_spec hsel
  cases hcls.symm.trans q1
  cases (State.methodFound?_of_named hnamed hy).symm.trans q2
  cases hnamed.symm.trans q3
  have hselP : selectMethod e.platform s.vm cellB.cls mk = .method mk := by rw [Launch.admits_selectMethod X.admits]; exact q4
  obtain ⟨vm₁, X₁, hstep₁⟩ := X.invokevirtual hexec hown hlink hnamed hmethM hstM hkP hkPi hy (a := b) (cell := cellB) hcell
    (fun z h => by rw [h] at hobj; cases hobj) hselP hmethM habM hkP hkPi (g := g) hg (argsL := argsL) (rest := rest) (hlen _ hsigM) hstack hdg
  rcases hK m meth c ⟨T.setVm vm₁, locs, cells, slots⟩ { g with stack := rest } (.invokevirtual index) mk (Value.ref b :: argsL).toArray X₁ hg hsize hdg hW (X₁.named hnamed) (hpre vm₁ X₁.warmed) with ⟨v, B, X', hpost, hsteps⟩ | ⟨q, B, X', hpost, hsteps⟩
  · exact Or.inl ⟨v, vm₁, B, X₁.warmed, X', hpost, fun target h => hstep₁ _ fun acts => by rw [doInvoke_state]; exact hsteps.trans h⟩
  · exact Or.inr ⟨q, vm₁, B, X₁.warmed, X', hpost, hstep₁ _ fun acts => by rw [doInvoke_state]; exact hsteps⟩
theorem vx_callS (X : Stand p l e R s m args below meth c T locs cells slots) (hexec : p.tables.exec = Jvm.exec) {own : String} {index : Nat} {y : MethodName} {bytes : ByteArray} {maxL : Nat} {ret : Option FieldType}
    (hown : s.vm.findClass own = some m.cls) (hlink : (Cond.methodLink own index y).before args s = true) (hstat : (Cond.static y).before args s = true) (hinit : (Cond.initialized y.cls).before args s = true)
    (hcode : (Cond.code y bytes maxL ret).before args s = true) (hy : y.cls ≠ "java/lang/invoke/MethodHandle" ∧ y.cls ≠ "java/lang/invoke/VarHandle")
    {W9 : Nat} {Pre : Pt → Array Value → Prop} {Post : Pt → Array Value → Option Value → Pt → Prop} {PostX : Pt → Array Value → Addr → Pt → Prop} (hK : vx_Back l R p e below s args y 3 W9 Pre Post PostX)
    {g : JFrame} (hg : g.method = m) (hsize : g.locals.size = c.maxLocals) {argsL rest : List Value} (hlen : ∀ sig, parseMethodDescriptor y.desc = some sig → argsL.length = sig.parameters.length)
    (hstack : g.stack = argsL.reverse ++ rest) (hW : 2 * g.monitorRoom + (rest.map fun v => v.category).sum ≤ W9) (hdg : decode c.code g.pc = .ok (.invokestatic index, 3))
    (hpre : ∀ vm₁, s.WarmedH vm₁ → Pre ⟨T.setVm vm₁, locs, cells, slots⟩ argsL.toArray) :
    (∃ (v : Option Value) (vm₁ : Vm) (B : Pt), s.WarmedH vm₁ ∧ Stand p l e R s m args below meth c B.U B.locs B.cells B.slots ∧ Post ⟨T.setVm vm₁, locs, cells, slots⟩ argsL.toArray v B ∧
      ∀ target, Steps p.tables e below (B.U.setTop { g with pc := g.pc + 3, stack := v.toList ++ rest }) target → Steps p.tables e below (T.setTop g) target) ∨
    (∃ (q : Addr) (vm₁ : Vm) (B : Pt), s.WarmedH vm₁ ∧ Stand p l e R s m args below meth c B.U B.locs B.cells B.slots ∧ PostX ⟨T.setVm vm₁, locs, cells, slots⟩ argsL.toArray q B ∧
      Steps p.tables e below (T.setTop g) ((B.U.setTop { g with stack := rest }).pushFrame (.throwing q))) := by
  obtain ⟨mk, hnamed⟩ := Cond.code_named hcode
  obtain ⟨methM, cM, hmethM, -, -, -, -, -, -, hsigM⟩ := Cond.code_spec hnamed hcode
  have hstatic : methM.isStatic = true := Cond.static_spec hnamed hmethM hstat
  obtain ⟨kP, hkP, -⟩ := className_of_methodNamed hnamed
  have hinitP : kP.init = .initialized := Cond.initialized_spec (findClass_of_methodNamed hnamed) hkP hinit
  obtain ⟨vm₁, X₁, hstep₁⟩ := X.invokestatic hexec hown hlink hnamed hmethM hstatic hkP hinitP hy (g := g) hg (argsL := argsL) (rest := rest) (hlen _ hsigM) hstack hdg
  rcases hK m meth c ⟨T.setVm vm₁, locs, cells, slots⟩ { g with stack := rest } (.invokestatic index) mk argsL.toArray X₁ hg hsize hdg hW (X₁.named hnamed) (hpre vm₁ X₁.warmed) with ⟨v, B, X', hpost, hsteps⟩ | ⟨q, B, X', hpost, hsteps⟩
  · exact Or.inl ⟨v, vm₁, B, X₁.warmed, X', hpost, fun target h => hstep₁ _ fun acts => by rw [doInvoke_state]; exact hsteps.trans h⟩
  · exact Or.inr ⟨q, vm₁, B, X₁.warmed, X', hpost, hstep₁ _ fun acts => by rw [doInvoke_state]; exact hsteps⟩
end Calls
theorem vx_cls {s : State} {T : State} {vm₁ : Vm} {E : String} {k : ClassId} (hW : s.WarmedH vm₁) (h : (T.setVm vm₁).vm.findClass E = some k) : s.vm.findClass E = some k := by
  have h1 : vm₁.findClass E = some k := h
  rw [hW.alike.findClass] at h1
  exact h1
/-- the method's frame g, with q thrown over it -/
def vx_W (p : Program) (l : Launch) (e : Env) (R : Room) (s : State) (m : MethodId) (args : Array Value) (below : List Frame) (meth : Method) (c : Code) (H : Heap) (locs : List Loc) (cells slots : Nat) (Q : State → Prop) (g : JFrame) (q : Addr) : Prop :=
  ∀ T : State, T.heap = H → Stand p l e R s m args below meth c T locs cells slots → ∃ t, Steps p.tables e below ((T.setTop g).pushFrame (.throwing q)) t ∧ Q t
def vx_Run (p : Program) (l : Launch) (e : Env) (R : Room) (s : State) (m : MethodId) (args : Array Value) (below : List Frame) (meth : Method) (c : Code) (H : Heap) (locs : List Loc) (cells slots mc ms : Nat) (g : JFrame) (rest : List Value) (Qa : State → Outcome → State → Prop) (XC : String → State → State → Prop) (free : Addr → Prop) : Prop :=
  ∀ T : State, T.heap = H → Stand p l e R s m args below meth c T locs cells slots →
    (∃ (v : Option Value) (st₀ t T' : State) (L : List Loc), st₀.heap = H ∧ Stand p l e R s m args below meth c T' (locs ++ L) (cells + mc) (slots + ms) ∧ (∀ q ∈ L, free q.base) ∧ T'.heap = t.heap ∧ T'.vm = t.vm ∧ Qa st₀ (.returned v) t ∧
      Goes p e below T g T' { g with pc := g.pc + 3, stack := v.toList ++ rest }) ∨
    (∃ (q : Addr) (st₀ t T' : State) (L : List Loc) (E : String) (ce : Cell), st₀.heap = H ∧ Stand p l e R s m args below meth c T' (locs ++ L) (cells + mc) (slots + ms) ∧ (∀ z ∈ L, free z.base) ∧ T'.heap = t.heap ∧ T'.vm = t.vm ∧ XC E st₀ t ∧ t.heap[q]? = some ce ∧ ce.vm = .none ∧ s.vm.findClass E = some ce.cls ∧
      Steps p.tables e below (T.setTop g) ((T'.setTop { g with stack := rest }).pushFrame (.throwing q)))
def vx_X {S : Type} (px : S → Prop) (B : String → S → State → Prop) (A : Nat → Prop) : String → State → State → Prop := fun E st t => ∃ u : S, px u ∧ B E u t ∧ va_F A st t
section Runs
variable {p : Program} {l : Launch} {e : Env} {R : Room} {s : State} {m : MethodId} {args : Array Value} {below : List Frame} {meth : Method} {c : Code} {H : Heap} {locs : List Loc} {cells slots : Nat}
variable {y : MethodName} {bytes cc : ByteArray} {maxL nL mc ms n index : Nat} {ret : Option FieldType} {ws : List Cond} {rm : Room} {Pc : Array Value → State → Prop} {Qc : Array Value → State → Outcome → State → Prop} {XC : String → State → State → Prop} {free : Addr → Prop} {Ts : List Cond} {own C : String} {b : Addr} {As rest : List Value} {g : JFrame}
theorem vx_callBack (cb : CallB R s args own index y bytes maxL ret ws rm mc ms n) (hM : vx_Met l y ws rm Pc Qc XC mc ms free) (hbl : FrameBlind Pc) : vx_Back l R p e below s args y 3 8 (PreOf R mc ms Pc) (PostOf Qc mc ms free) (vx_Post XC mc ms free) := by
  obtain ⟨hrc, hrs, hfr, hlo, hws, hcw, -, hini, -⟩ := cb
  exact vx_back (bytes := bytes) (maxL := maxL) (ret := ret) hM hbl hrc hrs hfr hlo hws hcw (fun a' U hW => word_at hW (Or.inl (by first | rfl | simp [Cond.onTables, Cond.keeps, Cond.steady])) hini)
theorem vx_runV (S : CallFix p m c cc nL s args Ts own) (hM : vx_Met l y ws rm Pc Qc XC mc ms free) (cw : CallW R s args own C index y bytes maxL ret ws rm mc ms n) (hp : PreV s H C b Pc As)
    (hg : g.method = m) (hn : As.length = n) (hsize : g.locals.size = nL) (hstack : g.stack = As.reverse ++ .ref b :: rest) (hW : 2 * g.monitorRoom + (rest.map fun v => v.category).sum ≤ 8) (hdg : decode cc g.pc = .ok (.invokevirtual index, 3)) (hf : cells + mc ≤ R.cells ∧ slots + ms ≤ R.slots) :
    vx_Run p l e R s m args below meth c H locs cells slots mc ms g rest (Qc (Value.ref b :: As).toArray) XC free := by
  have hK : vx_Back l R p e below s args y 3 8 (PreOf R mc ms Pc) (PostOf Qc mc ms free) (vx_Post XC mc ms free) := vx_callBack cw.1 hM hp.1
  obtain ⟨⟨-, -, -, -, -, -, hcode, -, hy, hlen, hl⟩, hin, hse⟩ := cw
  obtain ⟨hx, hb, hml, ho, -⟩ := S
  obtain ⟨-, ⟨cellB, hcB, hoB, hclB⟩, hPc⟩ := hp
  intro T hT X
  rcases vx_callV X hx (C := C) (bytes := bytes) (maxL := maxL) (ret := ret) ho hl hin hse hcode hy hK (by rw [hT]; exact hcB) hoB hclB hg (hsize.trans hml.symm) (argsL := As) (rest := rest) (fun sig h => hn.trans (hlen sig h)) hstack hW (by rw [hb]; exact hdg)
    (fun vm₁ hW₁ => ⟨hf.1, hf.2, hPc (T.setVm vm₁) hT hW₁⟩) with ⟨v, vm₁, ⟨U', l2, c2, s2⟩, hW₁, X', ⟨g', mk, t, L, e1, e2, hq, h1, hL, h2, h3⟩, st⟩ | ⟨q, vm₁, ⟨U', l2, c2, s2⟩, hW₁, X', ⟨g', mk, t, L, E, ce, e1, e2, hq, hce, hcv, hcl, h1, hL, h2, h3⟩, st⟩
  · dsimp only [Pt.U, Pt.locs, Pt.cells, Pt.slots] at X' e1 e2 h1 h2 h3 st
    subst h1; subst h2; subst h3
    exact Or.inl ⟨v, (T.setVm vm₁).calling g' mk (Value.ref b :: As).toArray, t, U', L, hT, X', hL, e1, e2, hq, st⟩
  · dsimp only [Pt.U, Pt.locs, Pt.cells, Pt.slots] at X' e1 e2 h1 h2 h3 st hcl
    subst h1; subst h2; subst h3
    exact Or.inr ⟨q, (T.setVm vm₁).calling g' mk (Value.ref b :: As).toArray, t, U', L, E, ce, hT, X', hL, e1, e2, hq, hce, hcv, vx_cls hW₁ hcl, st⟩
theorem vx_runS (S : CallFix p m c cc nL s args Ts own) (hM : vx_Met l y ws rm Pc Qc XC mc ms free) (cw : CallB R s args own index y bytes maxL ret ws rm mc ms n ∧ (Cond.static y).before args s = true) (hp : PreS s H Pc As)
    (hg : g.method = m) (hn : As.length = n) (hsize : g.locals.size = nL) (hstack : g.stack = As.reverse ++ rest) (hW : 2 * g.monitorRoom + (rest.map fun v => v.category).sum ≤ 8) (hdg : decode cc g.pc = .ok (.invokestatic index, 3)) (hf : cells + mc ≤ R.cells ∧ slots + ms ≤ R.slots) :
    vx_Run p l e R s m args below meth c H locs cells slots mc ms g rest (Qc As.toArray) XC free := by
  have hK : vx_Back l R p e below s args y 3 8 (PreOf R mc ms Pc) (PostOf Qc mc ms free) (vx_Post XC mc ms free) := vx_callBack cw.1 hM hp.1
  obtain ⟨⟨-, -, -, -, -, -, hcode, hini, hy, hlen, hl⟩, hstt⟩ := cw
  obtain ⟨hx, hb, hml, ho, -⟩ := S
  intro T hT X
  rcases vx_callS X hx (bytes := bytes) (maxL := maxL) (ret := ret) ho hl hstt hini hcode hy hK hg (hsize.trans hml.symm) (argsL := As) (rest := rest) (fun sig h => hn.trans (hlen sig h)) hstack hW (by rw [hb]; exact hdg)
    (fun vm₁ hW₁ => ⟨hf.1, hf.2, hp.2 (T.setVm vm₁) hT hW₁⟩) with ⟨v, vm₁, ⟨U', l2, c2, s2⟩, hW₁, X', ⟨g', mk, t, L, e1, e2, hq, h1, hL, h2, h3⟩, st⟩ | ⟨q, vm₁, ⟨U', l2, c2, s2⟩, hW₁, X', ⟨g', mk, t, L, E, ce, e1, e2, hq, hce, hcv, hcl, h1, hL, h2, h3⟩, st⟩
  · dsimp only [Pt.U, Pt.locs, Pt.cells, Pt.slots] at X' e1 e2 h1 h2 h3 st
    subst h1; subst h2; subst h3
    exact Or.inl ⟨v, (T.setVm vm₁).calling g' mk As.toArray, t, U', L, hT, X', hL, e1, e2, hq, st⟩
  · dsimp only [Pt.U, Pt.locs, Pt.cells, Pt.slots] at X' e1 e2 h1 h2 h3 st hcl
    subst h1; subst h2; subst h3
    exact Or.inr ⟨q, (T.setVm vm₁).calling g' mk As.toArray, t, U', L, E, ce, hT, X', hL, e1, e2, hq, hce, hcv, vx_cls hW₁ hcl, st⟩
end Runs
section Rows
variable {p : Program} {l : Launch} {e : Env} {R : Room} {s : State} {m : MethodId} {args : Array Value} {below : List Frame} {meth : Method} {c : Code} {H : Heap} {locs : List Loc} {cells slots : Nat} {Q : State → Prop}
variable {mc ms : Nat} {free : Addr → Prop} {A0 A1 : Nat → Prop} {H0 : Heap} {a : Array Value} {pc : Nat} {ls : Array Slot} {st0 rest : List Value}
theorem vx_keep {st₀ t T' : State} {L : List Loc} (h0 : st₀.heap = H) (e1 : T'.heap = t.heap) (hS : va_S A0 H0 H locs) (hA : ∀ q, q < H.size → A1 q → A0 q) (hf : ∀ q, free q → A0 q) (hL : ∀ q ∈ L, free q.base) (hF : va_F A1 st₀ t) :
    H.size ≤ T'.heap.size ∧ (∀ q : Nat, q < H.size → ¬ A1 q → T'.heap[q]? = H[q]?) ∧ va_S A0 H0 T'.heap (locs ++ L) := by
  obtain ⟨hz, hk⟩ := hF
  rw [h0] at hz hk
  exact ⟨by rw [e1]; exact hz, fun q h1 h2 => by rw [e1]; exact hk q h1 h2,
    ⟨Nat.le_trans hS.1 (by rw [e1]; exact hz), fun q h1 h2 => by rw [e1, hk q (Nat.lt_of_lt_of_le h1 hS.1) (fun z => h2 (hA q (Nat.lt_of_lt_of_le h1 hS.1) z))]; exact hS.2.1 q h1 h2, fun q hq => by
      rcases List.mem_append.mp hq with h | h
      · exact hS.2.2 q h
      · exact hf _ (hL q h)⟩⟩
theorem vx_calli {S SX : Type} {post : Int32 → S → Prop} {px : SX → Prop} {B : S → State → Prop} {BX : String → SX → State → Prop} {AX : Nat → Prop} (hr : vx_Run p l e R s m args below meth c H locs cells slots mc ms (F0 m pc ls st0) rest (va_Qi post B A1 a) (vx_X px BX AX) free) (hS : va_S A0 H0 H locs) (hA : ∀ q, q < H.size → A1 q → A0 q) (hf : ∀ q, free q → A0 q) (hAX : ∀ q, q < H.size → AX q → A0 q)
    (kx : ∀ (E : String) (ce : Cell) (q9 : Addr) (u : SX) (t : State) (H1 : Heap) (locs1 : List Loc), t.heap = H1 → s.vm.Alike t.vm → px u → BX E u t → H.size ≤ H1.size → (∀ q : Nat, q < H.size → ¬ AX q → H1[q]? = H[q]?) → va_S A0 H0 H1 locs1 → H1[q9]? = some ce → ce.vm = .none → s.vm.findClass E = some ce.cls → vx_W p l e R s m args below meth c H1 locs1 (cells + mc) (slots + ms) Q (F0 m pc ls rest) q9)
    (kk : ∀ (r : Int32) (u : S) (t : State) (H1 : Heap) (locs1 : List Loc), t.heap = H1 → s.vm.Alike t.vm → post r u → B u t → H.size ≤ H1.size → (∀ q : Nat, q < H.size → ¬ A1 q → H1[q]? = H[q]?) → va_S A0 H0 H1 locs1 → W p l e R s m args below meth c H1 locs1 (cells + mc) (slots + ms) Q (F0 m (pc + 3) ls (.int r :: rest))) : W p l e R s m args below meth c H locs cells slots Q (F0 m pc ls st0) := by
  intro T hT X
  rcases hr T hT X with ⟨v, st₀, t, T', L, h0, X', hL, e1, e2, ⟨⟨r, u, hv, hp, hb⟩, hF⟩, st⟩ | ⟨q, st₀, t, T', L, E, ce, h0, X', hL, e1, e2, ⟨u, hp, hb, hF⟩, hce, hcv, hcl, st⟩
  · cases hv
    obtain ⟨k1, k2, k3⟩ := vx_keep h0 e1 hS hA hf hL hF
    obtain ⟨t2, a1, b1⟩ := kk r u t T'.heap (locs ++ L) e1.symm (by rw [← e2]; exact X'.warmed.alike) hp hb k1 k2 k3 T' rfl X'
    exact ⟨t2, st t2 a1, b1⟩
  · obtain ⟨k1, k2, k3⟩ := vx_keep h0 e1 hS hAX hf hL hF
    obtain ⟨t2, a1, b1⟩ := kx E ce q u t T'.heap (locs ++ L) e1.symm (by rw [← e2]; exact X'.warmed.alike) hp hb k1 k2 k3 (by rw [e1]; exact hce) hcv hcl T' rfl X'
    exact ⟨t2, st.trans a1, b1⟩
theorem vx_calll {S SX : Type} {post : Int64 → S → Prop} {px : SX → Prop} {B : S → State → Prop} {BX : String → SX → State → Prop} {AX : Nat → Prop} (hr : vx_Run p l e R s m args below meth c H locs cells slots mc ms (F0 m pc ls st0) rest (va_Ql post B A1 a) (vx_X px BX AX) free) (hS : va_S A0 H0 H locs) (hA : ∀ q, q < H.size → A1 q → A0 q) (hf : ∀ q, free q → A0 q) (hAX : ∀ q, q < H.size → AX q → A0 q)
    (kx : ∀ (E : String) (ce : Cell) (q9 : Addr) (u : SX) (t : State) (H1 : Heap) (locs1 : List Loc), t.heap = H1 → s.vm.Alike t.vm → px u → BX E u t → H.size ≤ H1.size → (∀ q : Nat, q < H.size → ¬ AX q → H1[q]? = H[q]?) → va_S A0 H0 H1 locs1 → H1[q9]? = some ce → ce.vm = .none → s.vm.findClass E = some ce.cls → vx_W p l e R s m args below meth c H1 locs1 (cells + mc) (slots + ms) Q (F0 m pc ls rest) q9)
    (kk : ∀ (r : Int64) (u : S) (t : State) (H1 : Heap) (locs1 : List Loc), t.heap = H1 → s.vm.Alike t.vm → post r u → B u t → H.size ≤ H1.size → (∀ q : Nat, q < H.size → ¬ A1 q → H1[q]? = H[q]?) → va_S A0 H0 H1 locs1 → W p l e R s m args below meth c H1 locs1 (cells + mc) (slots + ms) Q (F0 m (pc + 3) ls (.long r :: rest))) : W p l e R s m args below meth c H locs cells slots Q (F0 m pc ls st0) := by
  intro T hT X
  rcases hr T hT X with ⟨v, st₀, t, T', L, h0, X', hL, e1, e2, ⟨⟨r, u, hv, hp, hb⟩, hF⟩, st⟩ | ⟨q, st₀, t, T', L, E, ce, h0, X', hL, e1, e2, ⟨u, hp, hb, hF⟩, hce, hcv, hcl, st⟩
  · cases hv
    obtain ⟨k1, k2, k3⟩ := vx_keep h0 e1 hS hA hf hL hF
    obtain ⟨t2, a1, b1⟩ := kk r u t T'.heap (locs ++ L) e1.symm (by rw [← e2]; exact X'.warmed.alike) hp hb k1 k2 k3 T' rfl X'
    exact ⟨t2, st t2 a1, b1⟩
  · obtain ⟨k1, k2, k3⟩ := vx_keep h0 e1 hS hAX hf hL hF
    obtain ⟨t2, a1, b1⟩ := kx E ce q u t T'.heap (locs ++ L) e1.symm (by rw [← e2]; exact X'.warmed.alike) hp hb k1 k2 k3 (by rw [e1]; exact hce) hcv hcl T' rfl X'
    exact ⟨t2, st.trans a1, b1⟩
theorem vx_callf {S SX : Type} {post : UInt32 → S → Prop} {px : SX → Prop} {B : S → State → Prop} {BX : String → SX → State → Prop} {AX : Nat → Prop} (hr : vx_Run p l e R s m args below meth c H locs cells slots mc ms (F0 m pc ls st0) rest (va_Qf post B A1 a) (vx_X px BX AX) free) (hS : va_S A0 H0 H locs) (hA : ∀ q, q < H.size → A1 q → A0 q) (hf : ∀ q, free q → A0 q) (hAX : ∀ q, q < H.size → AX q → A0 q)
    (kx : ∀ (E : String) (ce : Cell) (q9 : Addr) (u : SX) (t : State) (H1 : Heap) (locs1 : List Loc), t.heap = H1 → s.vm.Alike t.vm → px u → BX E u t → H.size ≤ H1.size → (∀ q : Nat, q < H.size → ¬ AX q → H1[q]? = H[q]?) → va_S A0 H0 H1 locs1 → H1[q9]? = some ce → ce.vm = .none → s.vm.findClass E = some ce.cls → vx_W p l e R s m args below meth c H1 locs1 (cells + mc) (slots + ms) Q (F0 m pc ls rest) q9)
    (kk : ∀ (r : UInt32) (u : S) (t : State) (H1 : Heap) (locs1 : List Loc), t.heap = H1 → s.vm.Alike t.vm → post r u → B u t → H.size ≤ H1.size → (∀ q : Nat, q < H.size → ¬ A1 q → H1[q]? = H[q]?) → va_S A0 H0 H1 locs1 → W p l e R s m args below meth c H1 locs1 (cells + mc) (slots + ms) Q (F0 m (pc + 3) ls (.float r :: rest))) : W p l e R s m args below meth c H locs cells slots Q (F0 m pc ls st0) := by
  intro T hT X
  rcases hr T hT X with ⟨v, st₀, t, T', L, h0, X', hL, e1, e2, ⟨⟨r, u, hv, hp, hb⟩, hF⟩, st⟩ | ⟨q, st₀, t, T', L, E, ce, h0, X', hL, e1, e2, ⟨u, hp, hb, hF⟩, hce, hcv, hcl, st⟩
  · cases hv
    obtain ⟨k1, k2, k3⟩ := vx_keep h0 e1 hS hA hf hL hF
    obtain ⟨t2, a1, b1⟩ := kk r u t T'.heap (locs ++ L) e1.symm (by rw [← e2]; exact X'.warmed.alike) hp hb k1 k2 k3 T' rfl X'
    exact ⟨t2, st t2 a1, b1⟩
  · obtain ⟨k1, k2, k3⟩ := vx_keep h0 e1 hS hAX hf hL hF
    obtain ⟨t2, a1, b1⟩ := kx E ce q u t T'.heap (locs ++ L) e1.symm (by rw [← e2]; exact X'.warmed.alike) hp hb k1 k2 k3 (by rw [e1]; exact hce) hcv hcl T' rfl X'
    exact ⟨t2, st.trans a1, b1⟩
theorem vx_calld {S SX : Type} {post : UInt64 → S → Prop} {px : SX → Prop} {B : S → State → Prop} {BX : String → SX → State → Prop} {AX : Nat → Prop} (hr : vx_Run p l e R s m args below meth c H locs cells slots mc ms (F0 m pc ls st0) rest (va_Qd post B A1 a) (vx_X px BX AX) free) (hS : va_S A0 H0 H locs) (hA : ∀ q, q < H.size → A1 q → A0 q) (hf : ∀ q, free q → A0 q) (hAX : ∀ q, q < H.size → AX q → A0 q)
    (kx : ∀ (E : String) (ce : Cell) (q9 : Addr) (u : SX) (t : State) (H1 : Heap) (locs1 : List Loc), t.heap = H1 → s.vm.Alike t.vm → px u → BX E u t → H.size ≤ H1.size → (∀ q : Nat, q < H.size → ¬ AX q → H1[q]? = H[q]?) → va_S A0 H0 H1 locs1 → H1[q9]? = some ce → ce.vm = .none → s.vm.findClass E = some ce.cls → vx_W p l e R s m args below meth c H1 locs1 (cells + mc) (slots + ms) Q (F0 m pc ls rest) q9)
    (kk : ∀ (r : UInt64) (u : S) (t : State) (H1 : Heap) (locs1 : List Loc), t.heap = H1 → s.vm.Alike t.vm → post r u → B u t → H.size ≤ H1.size → (∀ q : Nat, q < H.size → ¬ A1 q → H1[q]? = H[q]?) → va_S A0 H0 H1 locs1 → W p l e R s m args below meth c H1 locs1 (cells + mc) (slots + ms) Q (F0 m (pc + 3) ls (.double r :: rest))) : W p l e R s m args below meth c H locs cells slots Q (F0 m pc ls st0) := by
  intro T hT X
  rcases hr T hT X with ⟨v, st₀, t, T', L, h0, X', hL, e1, e2, ⟨⟨r, u, hv, hp, hb⟩, hF⟩, st⟩ | ⟨q, st₀, t, T', L, E, ce, h0, X', hL, e1, e2, ⟨u, hp, hb, hF⟩, hce, hcv, hcl, st⟩
  · cases hv
    obtain ⟨k1, k2, k3⟩ := vx_keep h0 e1 hS hA hf hL hF
    obtain ⟨t2, a1, b1⟩ := kk r u t T'.heap (locs ++ L) e1.symm (by rw [← e2]; exact X'.warmed.alike) hp hb k1 k2 k3 T' rfl X'
    exact ⟨t2, st t2 a1, b1⟩
  · obtain ⟨k1, k2, k3⟩ := vx_keep h0 e1 hS hAX hf hL hF
    obtain ⟨t2, a1, b1⟩ := kx E ce q u t T'.heap (locs ++ L) e1.symm (by rw [← e2]; exact X'.warmed.alike) hp hb k1 k2 k3 (by rw [e1]; exact hce) hcv hcl T' rfl X'
    exact ⟨t2, st.trans a1, b1⟩
theorem vx_callv {S SX : Type} {post : S → Prop} {px : SX → Prop} {B : S → State → Prop} {BX : String → SX → State → Prop} {AX : Nat → Prop} (hr : vx_Run p l e R s m args below meth c H locs cells slots mc ms (F0 m pc ls st0) rest (va_Qv post B A1 a) (vx_X px BX AX) free) (hS : va_S A0 H0 H locs) (hA : ∀ q, q < H.size → A1 q → A0 q) (hf : ∀ q, free q → A0 q) (hAX : ∀ q, q < H.size → AX q → A0 q)
    (kx : ∀ (E : String) (ce : Cell) (q9 : Addr) (u : SX) (t : State) (H1 : Heap) (locs1 : List Loc), t.heap = H1 → s.vm.Alike t.vm → px u → BX E u t → H.size ≤ H1.size → (∀ q : Nat, q < H.size → ¬ AX q → H1[q]? = H[q]?) → va_S A0 H0 H1 locs1 → H1[q9]? = some ce → ce.vm = .none → s.vm.findClass E = some ce.cls → vx_W p l e R s m args below meth c H1 locs1 (cells + mc) (slots + ms) Q (F0 m pc ls rest) q9)
    (kk : ∀ (u : S) (t : State) (H1 : Heap) (locs1 : List Loc), t.heap = H1 → s.vm.Alike t.vm → post u → B u t → H.size ≤ H1.size → (∀ q : Nat, q < H.size → ¬ A1 q → H1[q]? = H[q]?) → va_S A0 H0 H1 locs1 → W p l e R s m args below meth c H1 locs1 (cells + mc) (slots + ms) Q (F0 m (pc + 3) ls (rest))) : W p l e R s m args below meth c H locs cells slots Q (F0 m pc ls st0) := by
  intro T hT X
  rcases hr T hT X with ⟨v, st₀, t, T', L, h0, X', hL, e1, e2, ⟨⟨u, hv, hp, hb⟩, hF⟩, st⟩ | ⟨q, st₀, t, T', L, E, ce, h0, X', hL, e1, e2, ⟨u, hp, hb, hF⟩, hce, hcv, hcl, st⟩
  · cases hv
    obtain ⟨k1, k2, k3⟩ := vx_keep h0 e1 hS hA hf hL hF
    obtain ⟨t2, a1, b1⟩ := kk u t T'.heap (locs ++ L) e1.symm (by rw [← e2]; exact X'.warmed.alike) hp hb k1 k2 k3 T' rfl X'
    exact ⟨t2, st t2 a1, b1⟩
  · obtain ⟨k1, k2, k3⟩ := vx_keep h0 e1 hS hAX hf hL hF
    obtain ⟨t2, a1, b1⟩ := kx E ce q u t T'.heap (locs ++ L) e1.symm (by rw [← e2]; exact X'.warmed.alike) hp hb k1 k2 k3 (by rw [e1]; exact hce) hcv hcl T' rfl X'
    exact ⟨t2, st.trans a1, b1⟩
/-- caught by the row x of this method's table; the rows ahead don't take it -/
theorem vx_catch {own name : String} {E : String} {ce : Cell} {q : Addr} (hown : s.vm.findClass own = some m.cls) (pre : List ExceptionTableEntry) (x : ExceptionTableEntry) (suf : List ExceptionTableEntry) (hsplit : c.exceptionTable.toList = pre ++ x :: suf)
    (hpass : ∀ z ∈ pre, covers z pc = false ∨ (z.catchType ≠ 0 ∧ ∃ nm : String, (Cond.classLink own z.catchType nm).before args s = true ∧ va_Nc E nm s)) (hx : covers x pc = true) (h0 : x.catchType ≠ 0)
    (hlink : (Cond.classLink own x.catchType name).before args s = true) (hcast : (Cond.castable E name).before args s = true) (hcell : H[q]? = some ce) (hv : ce.vm = .none) (hcl : s.vm.findClass E = some ce.cls)
    (kk : W p l e R s m args below meth c H locs cells slots Q (F0 m x.handlerPc ls [.ref q])) : vx_W p l e R s m args below meth c H locs cells slots Q (F0 m pc ls rest) q := by
  intro T hT X
  have hpl : e.platform.magicAccessors = ({} : Platform).magicAccessors := by rw [X.admits.platform]
  obtain ⟨c3, c4, hc3, hc4, hasg⟩ := Cond.castable_spec hcast
  cases Option.some.inj (hc3.symm.trans hcl)
  obtain ⟨c5, hc5, hcl5⟩ := Cond.classLink_spec hown hlink e.platform hpl
  cases Option.some.inj (hc4.symm.trans hc5)
  obtain ⟨vm', X', st⟩ := X.thenCaughtThrough q (g := F0 m pc ls rest) rfl (Steps.refl _) (by rw [hT]; exact hcell) (by rw [hv]; rfl) (by obtain ⟨k9, h9, -⟩ := Vm.findClass_spec hcl; exact ⟨k9, h9⟩) pre x suf hsplit
    (fun z hz => by
      rcases hpass z hz with h | ⟨hz0, nm, hl1, hn1⟩
      · exact Or.inl h
      · obtain ⟨c6, hc6, hcl6⟩ := Cond.classLink_spec hown hl1 e.platform hpl
        obtain ⟨a8, b8, h1, h2, h3⟩ := hn1
        cases Option.some.inj (h1.symm.trans hcl)
        cases Option.some.inj (h2.symm.trans hc6)
        exact Or.inr ⟨hz0, _, hcl6, h3⟩) hx (Or.inr ⟨h0, c4, hcl5, hasg⟩)
  obtain ⟨t, a1, b1⟩ := kk (T.setVm vm') hT X'
  exact ⟨t, st.trans a1, b1⟩
end Rows
section Ends
variable {p : Program} {l : Launch} {e : Env} {R : Room} {s : State} {m : MethodId} {args : Array Value} {below : List Frame} {meth : Method} {c : Code} {H : Heap} {locs : List Loc} {cells slots : Nat} {Q : State → Prop}
variable {mc ms : Nat} {free : Addr → Prop} {A0 A1 : Nat → Prop} {H0 : Heap} {a : Array Value} {ls : Array Slot} {st0 rest : List Value}
variable {Qc : Array Value → State → Outcome → State → Prop} {XC : String → State → State → Prop}
/-- what a body that may throw owes at its end -/
def vx_MQ (below : List Frame) (Qc : Array Value → State → Outcome → State → Prop) (XC : String → State → State → Prop) (a : Array Value) (s : State) (mc ms : Nat) (free : Addr → Prop) : State → Prop := fun t =>
  ∃ o, t.status = .running ∧ Ended t below o ∧ vx_Q Qc XC mc ms free a s o t
theorem vx_ret {g : JFrame} {mc ms : Nat} (k : W p l e R s m args below meth c H locs cells slots (MQ below Qc args s mc ms free) g) : W p l e R s m args below meth c H locs cells slots (vx_MQ below Qc XC args s mc ms free) g := by
  intro T hT X
  obtain ⟨t, a1, o, b1, b2, b3, b4⟩ := k T hT X
  exact ⟨t, a1, o, b1, b2, Or.inl ⟨b3, b4⟩⟩
/-- not caught here: it goes on to the caller -/
theorem vx_widen {g : JFrame} {q : Addr} {k n : Nat} (h1 : cells ≤ k) (h2 : slots ≤ n) (kk : vx_W p l e R s m args below meth c H locs k n Q g q) : vx_W p l e R s m args below meth c H locs cells slots Q g q := fun T hT X => kk T hT (stand_widen X h1 h2)
theorem vx_out {pc : Nat} {E : String} {ce : Cell} {q : Addr} {mc ms : Nat} (hout : ∀ x ∈ c.exceptionTable.toList, covers x pc = false) (hlocks : meth.locks = false) (hcell : H[q]? = some ce) (hv : ce.vm = .none) (hcl : s.vm.findClass E = some ce.cls)
    (hx : ∀ t : State, t.heap = H → s.vm.Alike t.vm → XC E s t) (hf : ∀ z ∈ locs, free z.base) (hc : cells ≤ mc) (hs : slots ≤ ms) :
    vx_W p l e R s m args below meth c H locs cells slots (vx_MQ below Qc XC args s mc ms free) (F0 m pc ls rest) q := by
  intro T hT X
  obtain ⟨st1, hrun, hend, hW, hsm⟩ := X.leaveThrown q (g := F0 m pc ls rest) rfl rfl rfl hout hlocks
  have hcell9 : (T.setFrames (.throwing q :: below)).heap[q]? = some ce := by
    show T.heap[q]? = some ce
    rw [hT]; exact hcell
  exact ⟨_, st1, .threw q, hrun, hend, Or.inr ⟨q, rfl, E, ce, locs, hx _ hT hW.alike, hcell9, hv, hcl, hW, hsm.mono hc hs, hf⟩⟩
theorem vx_frame {U : State} {k n : Nat} (h : s.sameButNew ({ U with vm := s.vm } : State) locs k n) : s.heap.size ≤ U.heap.size ∧ ∀ q : Nat, q < s.heap.size → (∀ z ∈ locs, z.base ≠ q) → U.heap[q]? = s.heap[q]? := by
  obtain ⟨-, h2, -, -, -, h6⟩ := h
  refine ⟨h2, fun q hq hz => ?_⟩
  obtain ⟨c9, e1, e2, e3, e4⟩ := h6 q _ (Array.getElem?_eq_getElem hq)
  have hs : c9.slots = (s.heap[q]).slots := Array.ext_getElem? fun i => e4 i fun hm => hz _ hm rfl
  have h9 : c9 = s.heap[q] := by
    rw [hs] at e2
    exact e2
  have e5 : U.heap[q]? = some c9 := e1
  rw [e5, h9, Array.getElem?_eq_getElem hq]
/-- the words of a throw but the four that speak of the heap -/
def vx_no (w : Cond) : Bool := decide (w ≠ .isRef (.static Bundle.tN "UNASSIGNED_STACK" Bundle.steD)) && decide (w ≠ .isRef (.static Bundle.tN "SUPPRESSED_SENTINEL" Bundle.listD)) && decide (w ≠ .laysStatic Bundle.tN "UNASSIGNED_STACK" Bundle.steD) && decide (w ≠ .laysStatic Bundle.tN "SUPPRESSED_SENTINEL" Bundle.listD)
def vx_at0 (own : String) (ic : Nat) (X : String) (names : List String) : List Cond := (Bundle.ownAtoms0 own ic X names).filter vx_no
def vx_atS (own : String) (ic : Nat) (X : String) (names : List String) : List Cond := (Bundle.ownAtoms own ic X names).filter vx_no
/-- a word that the tables alone decide, or a good one -/
def vx_ot (w : Cond) : Bool := w.onTables || goodWord w
theorem vx_ot_at {args a' : Array Value} {s U : State} {w : Cond} (hW : s.WarmedH U.vm) (hvm : s.vm = U.vm) (hg : vx_ot w = true) (h : w.before args s = true) : w.before a' U = true := by
  simp only [vx_ot, Bool.or_eq_true] at hg
  rcases hg with hg | hg
  · exact va_tabs hg hvm h
  · exact word_at hW (good_of_word hg) h
/-- a list's words: the good ones out of the method's own list, the others by premises of their own -/
theorem vx_hat {args : Array Value} {s : State} {L B : List Cond} (h1 : ∀ w ∈ L.filter goodWord, w.before args s = true) (h2 : ∀ w ∈ L.filter (fun w => !goodWord w), w ∈ B) (h3 : ∀ w ∈ B, w.before args s = true) : ∀ w ∈ L, w.before args s = true := by
  intro w hw
  by_cases g : goodWord w = true
  · exact h1 w (List.mem_filter.mpr ⟨hw, g⟩)
  · refine h3 w (h2 w (List.mem_filter.mpr ⟨hw, ?_⟩))
    show (!goodWord w) = true
    cases hgw : goodWord w
    · rfl
    · exact absurd hgw g
theorem vx_c {args : Array Value} {s : State} {w : Cond} {B : List Cond} (h : w.before args s = true) (t : ∀ w ∈ B, w.before args s = true) : ∀ w' ∈ w :: B, w'.before args s = true := fun w' h' => (List.mem_cons.mp h').elim (fun e => by rw [e]; exact h) (t w')
theorem vx_n {args : Array Value} {s : State} : ∀ w ∈ ([] : List Cond), w.before args s = true := fun _ h => nomatch h
theorem vx_own {args : Array Value} {s : State} {L : List Cond} (h1 : ∀ w ∈ L.filter vx_no, w.before args s = true)
    (hU : (Cond.isRef (.static Bundle.tN "UNASSIGNED_STACK" Bundle.steD)).before args s = true) (hN : (Cond.isRef (.static Bundle.tN "SUPPRESSED_SENTINEL" Bundle.listD)).before args s = true)
    (lU : (Cond.laysStatic Bundle.tN "UNASSIGNED_STACK" Bundle.steD).before args s = true) (lN : (Cond.laysStatic Bundle.tN "SUPPRESSED_SENTINEL" Bundle.listD).before args s = true) : ∀ w ∈ L, w.before args s = true := by
  intro w hw
  by_cases e1 : w = .isRef (.static Bundle.tN "UNASSIGNED_STACK" Bundle.steD)
  · rw [e1]; exact hU
  · by_cases e2 : w = .isRef (.static Bundle.tN "SUPPRESSED_SENTINEL" Bundle.listD)
    · rw [e2]; exact hN
    · by_cases e3 : w = .laysStatic Bundle.tN "UNASSIGNED_STACK" Bundle.steD
      · rw [e3]; exact lU
      · by_cases e4 : w = .laysStatic Bundle.tN "SUPPRESSED_SENTINEL" Bundle.listD
        · rw [e4]; exact lN
        · exact h1 w (List.mem_filter.mpr ⟨hw, by unfold vx_no; rw [decide_eq_true e1, decide_eq_true e2, decide_eq_true e3, decide_eq_true e4]; rfl⟩)
/-- where a static field lies, its class's statics cell in H -/
def vx_L (C n d : String) (A : Nat → Prop) (U : State) (H : Heap) : Prop := ∃ (c : ClassId) (k : Class) (i : Nat) (f : Field) (a : Nat) (cell : Cell), U.vm.findClass C = some c ∧ U.fieldFound? C n d = some (c, k, i, f) ∧ f.isStatic = true ∧ k.statics = some a ∧ H[a]? = some cell ∧ cell.vm.isStatics = true ∧ cell.cls = c ∧ f.slot < cell.slots.size ∧ k.staticTypes[f.slot]? = some f.type ∧ ¬ A a
theorem vx_L.moved {C n d : String} {A : Nat → Prop} {u U : State} {H : Heap} (hvm : u.vm.Alike U.vm) (h : vx_L C n d A u H) : vx_L C n d A U H := by
  obtain ⟨c, k, i, f, a, cell, h1, h2, h3, h4, h5, h6, h7, h8, h9, h10⟩ := h
  obtain ⟨k', hi', he⟩ := State.fieldFound?_setVm hvm h2
  exact ⟨c, k', i, f, a, cell, by rw [hvm.findClass]; exact h1, hi', h3, by rw [he]; exact h4, h5, h6, h7, h8, by rw [he]; exact h9, h10⟩
theorem vx_L.kept {C n d : String} {A : Nat → Prop} {U : State} {H H1 : Heap} (h : vx_L C n d A U H) (hq : ∀ a : Nat, a < H.size → ¬ A a → H1[a]? = H[a]?) : vx_L C n d A U H1 := by
  obtain ⟨c, k, i, f, a, cell, h1, h2, h3, h4, h5, h6, h7, h8, h9, h10⟩ := h
  exact ⟨c, k, i, f, a, cell, h1, h2, h3, h4, by rw [hq a (Array.getElem?_eq_some_iff.mp h5).1 h10]; exact h5, h6, h7, h8, h9, h10⟩
theorem vx_L.narrow {C n d : String} {A B : Nat → Prop} {U : State} {H : Heap} (h : vx_L C n d A U H) (hAB : ∀ q, B q → A q) : vx_L C n d B U H := by
  obtain ⟨c, k, i, f, a, cell, h1, h2, h3, h4, h5, h6, h7, h8, h9, h10⟩ := h
  exact ⟨c, k, i, f, a, cell, h1, h2, h3, h4, h5, h6, h7, h8, h9, fun z => h10 (hAB _ z)⟩
theorem vx_L.word {C n d : String} {A : Nat → Prop} {s : State} {args : Array Value} (h : vx_L C n d A s s.heap) : (Cond.laysStatic C n d).before args s = true := by
  obtain ⟨c, k, i, f, a, cell, h1, h2, h3, h4, h5, h6, h7, h8, h9, -⟩ := h
  show (Cond.laysStatic C n d).holds args s none s [] = true
  exact Cond.laysStatic_of h1 h2 h3 h4 h5 h6 h7 h8 h9
/-- .. and what it holds: null or some reference -/
def vx_Zq (C n d : String) (A : Nat → Prop) (U : State) (H : Heap) : Prop := va_Zq C n d A U H ∧ vx_L C n d A U H
theorem vx_Zq.moved {C n d : String} {A : Nat → Prop} {u U : State} {H : Heap} (hvm : u.vm.Alike U.vm) (h : vx_Zq C n d A u H) : vx_Zq C n d A U H := ⟨va_Zq.moved hvm h.1, vx_L.moved hvm h.2⟩
theorem vx_Zq.kept {C n d : String} {A : Nat → Prop} {U : State} {H H1 : Heap} (h : vx_Zq C n d A U H) (hq : ∀ a : Nat, a < H.size → ¬ A a → H1[a]? = H[a]?) : vx_Zq C n d A U H1 := ⟨va_Zq.kept h.1 hq, vx_L.kept h.2 hq⟩
theorem vx_Zq.narrow {C n d : String} {A B : Nat → Prop} {U : State} {H : Heap} (h : vx_Zq C n d A U H) (hAB : ∀ q, B q → A q) : vx_Zq C n d B U H := ⟨va_Zq.narrow h.1 hAB, vx_L.narrow h.2 hAB⟩
theorem vx_Zqof {args : Array Value} {s : State} {C n d : String} {A : Nat → Prop} (hl : (Cond.laysStatic C n d).before args s = true) (hini : (Cond.initialized C).before args s = true) (h : (Cond.isRef (.static C n d)).before args s = true) (hA : ∀ a : Nat, a < s.heap.size → ¬ A a) : vx_Zq C n d A s s.heap := by
  refine ⟨va_Zqof hl hini h hA, ?_⟩
  obtain ⟨c, k, i, f, a, cell, h1, h2, h3, h4, h5, h6, h7, h8, h9⟩ := Cond.laysStatic_spec hl
  exact ⟨c, k, i, f, a, cell, h1, h2, h3, h4, h5, h6, h7, h8, h9, hA a (Array.getElem?_eq_some_iff.mp h5).1⟩
theorem vx_isRef {C n d : String} {v : Value} {A : Nat → Prop} {s : State} {args : Array Value} (h : va_Z C n d v A s s.heap) (hv : v.isRef = true) : (Cond.isRef (.static C n d)).before args s = true := by
  obtain ⟨cf, kf, fi, f, a, cell, h1, h2, h3, h4, h5, h6, h7, -⟩ := h
  have he : (Term.static C n d).eval args s none [] s = some v := by
    simp [Term.eval, State.fieldNamed?, h1, h2, h4, h5, h6, h7]
  simp only [Cond.before, Cond.holds, Cond.value, he]
  cases v <;> simp_all [Value.isRef]
theorem vx_isRefq {C n d : String} {A : Nat → Prop} {s : State} {args : Array Value} (h : va_Zq C n d A s s.heap) : (Cond.isRef (.static C n d)).before args s = true := by
  rcases h with h | ⟨t, h⟩
  · exact vx_isRef h rfl
  · exact vx_isRef h rfl
/-- the same frame, seen from here: as if the method were called anew in this heap -/
theorem vx_rebase {T : State} (X : Stand p l e R s m args below meth c T locs cells slots) {R' : Room} (hf : R'.frames ≤ R.frames) (hl : R'.locals ≤ R.locals) (hc : cells + R'.cells ≤ R.cells) (hs : slots + R'.slots ≤ R.slots) :
    Stand p l e R' ((T.setVm s.vm).setFrames (.invoking m args :: below)) m args below meth c T [] 0 0 := by
  have htop : (T.setVm s.vm).topJava?.isSome := X.here.top
  have hF : ((T.setVm s.vm).setFrames (.invoking m args :: below)).frames = .invoking m args :: below := State.frames_setFrames _ (State.cur_lt_of_top htop)
  obtain ⟨g₀, hg0⟩ := Option.isSome_iff_exists.mp htop
  obtain ⟨r, hr⟩ := State.topJava?_eq_some.mp hg0
  have hl9 : e.platform.stackLimits (T.setVm s.vm).me = e.platform.stackLimits s.me := X.limits
  have hb9 : (T.setVm s.vm).me.stackBytes = s.me.stackBytes := X.bytes
  refine ⟨X.admits, X.cas, X.clock, hF, ?_, X.hears, X.method, X.code, X.here, X.tail, X.warmed, ?_, ?_, ?_⟩
  · have h := X.room
    have hU : ((T.setVm s.vm).setFrames (.invoking m args :: below)).localsInUse = s.localsInUse := by
      rw [State.localsInUse_invoking hF (meth := meth) (c := c) X.method X.code, State.localsInUse_invoking X.frames X.method X.code]
    simp only [State.hasRoom, Bool.and_eq_true, decide_eq_true_eq] at h ⊢
    obtain ⟨⟨⟨⟨h1, h2, h3, h4, h5, h6⟩, h7⟩, h8⟩, h9⟩ := h
    rw [X.frames, List.length_cons] at h2 h3
    have q1 := X.heapSize
    have q2 := X.used
    simp only [hF, hU, List.length_cons, State.stackLimits_setFrames, State.stackBytes_setFrames, hl9, hb9]
    refine ⟨⟨⟨⟨by omega, by omega, by omega, by omega, by omega, h6⟩, ?_⟩, ?_⟩, X.book⟩
    · show T.heap.size + R'.cells ≤ e.platform.maxCells
      omega
    · show T.slotsUsed + R'.slots ≤ e.platform.maxSlots
      omega
  · rw [State.stackLimits_setFrames]; rfl
  · rw [State.stackBytes_setFrames]; rfl
  · refine ⟨?_, Nat.le_refl _, Nat.le_refl _, ?_, ?_, fun a c9 h9 => ⟨c9, h9, rfl, rfl, fun _ _ => rfl⟩⟩
    · obtain ⟨t, ht, -⟩ := State.frames_cons hr
      show T.setVm s.vm = { ((T.setVm s.vm).setFrames (.invoking m args :: below)).setFrames (T.setVm s.vm).frames with heap := T.heap, slotsUsed := T.slotsUsed }
      rw [State.setFrames_setFrames, State.setFrames_self ht]
      rfl
    · show T.slotsUsed = T.slotsUsed + ((T.heap.toList.drop T.heap.size).map (·.slots.size)).sum
      rw [List.drop_eq_nil_of_le (Nat.le_of_eq Array.length_toList)]
      rfl
    · show ((T.heap.toList.drop T.heap.size).map (·.slots.size)).sum ≤ 0
      rw [List.drop_eq_nil_of_le (Nat.le_of_eq Array.length_toList)]
      exact Nat.le_refl _
/-- 'throw new E()': new; dup; invokespecial; athrow -/
theorem vx_throw0 {cc : ByteArray} {pc : Nat} (hexec : p.tables.exec = Jvm.exec) (hb : c.code = cc) (hl : l.stackTraces = false) {own cls : String} {names : List String} {ik ic mc ms : Nat} {A : Nat → Prop}
    (hown : s.vm.findClass own = some m.cls) (hcls : Bundle.fit cls = true) (hnames : ∀ n ∈ names, Bundle.fit n = true)
    (hk : (Cond.classLink own ik cls).before args s = true) (hini : (Cond.initialized cls).before args s = true) (hat : ∀ w ∈ vx_at0 own ic cls names, w.before args s = true)
    (hgood : ∀ w ∈ Cond.classLink own ik cls :: Cond.initialized cls :: vx_at0 own ic cls names, vx_ot w = true)
    (hU : vx_Zq Bundle.tN "UNASSIGNED_STACK" Bundle.steD A s s.heap) (hN : vx_Zq Bundle.tN "SUPPRESSED_SENTINEL" Bundle.listD A s s.heap) (hS : va_S A s.heap H locs) (hsize : ls.size = c.maxLocals)
    (d0 : decode cc pc = .ok (.new ik, 3)) (d3 : decode cc (pc + 3) = .ok (.dup, 1)) (d4 : decode cc (pc + 4) = .ok (.invokespecial ic, 3)) (d7 : decode cc (pc + 7) = .ok (.athrow, 1))
    (hout : ∀ x ∈ c.exceptionTable.toList, covers x (pc + 7) = false)
    (hRframes : names.length + 3 < R.frames) (hRlocals : (rest.map fun v => v.category).sum + (13 * (names.length + 1) + 42) ≤ R.locals) (hRcells : cells + 1 ≤ R.cells) (hRslots : slots + 6 ≤ R.slots) (hlocks : meth.locks = false)
    (hx : ∀ t : State, s.vm.Alike t.vm → H.size ≤ t.heap.size → (∀ q : Nat, q < H.size → t.heap[q]? = H[q]?) → XC cls s t)
    (hf : ∀ z ∈ locs, free z.base) (hc : cells + 1 ≤ mc) (hs : slots + 6 ≤ ms) :
    W p l e R s m args below meth c H locs cells slots (vx_MQ below Qc XC args s mc ms free) (F0 m pc ls rest) := by
  intro T hT X
  have htr : e.platform.stackTraces = false := (show e.platform.stackTraces = l.stackTraces by rw [X.admits.platform]).trans hl
  have Y := vx_rebase X (R' := { frames := R.frames, locals := R.locals, cells := 1, slots := 6 }) (Nat.le_refl _) (Nat.le_refl _) hRcells hRslots
  obtain ⟨s', hA⟩ : ∃ z, z = (T.setVm s.vm).setFrames (.invoking m args :: below) := ⟨_, rfl⟩
  rw [← hA] at Y
  have hvm : s'.vm = s.vm := by rw [hA]; rfl
  have hhp : s'.heap = H := by rw [hA]; exact hT
  have hW0 : s.WarmedH s'.vm := by rw [hvm]; exact State.WarmedH.refl s
  have hat' : ∀ w ∈ vx_at0 own ic cls names, w.before args s' = true := fun w hw => vx_ot_at hW0 hvm.symm (hgood w (List.mem_cons_of_mem _ (List.mem_cons_of_mem _ hw))) (hat w hw)
  have hk' : (Cond.classLink own ik cls).before args s' = true := vx_ot_at hW0 hvm.symm (hgood _ List.mem_cons_self) hk
  have hini' : (Cond.initialized cls).before args s' = true := vx_ot_at hW0 hvm.symm (hgood _ (List.mem_cons_of_mem _ List.mem_cons_self)) hini
  have hU' : vx_Zq Bundle.tN "UNASSIGNED_STACK" Bundle.steD A s' s'.heap := by rw [hhp]; exact vx_Zq.moved hW0.alike (hU.kept hS.2.1)
  have hN' : vx_Zq Bundle.tN "SUPPRESSED_SENTINEL" Bundle.listD A s' s'.heap := by rw [hhp]; exact vx_Zq.moved hW0.alike (hN.kept hS.2.1)
  have h : ∀ w ∈ Bundle.ownAtoms0 own ic cls names, w.before args s' = true := vx_own hat' (vx_isRefq hU'.1) (vx_isRefq hN'.1) hU'.2.word hN'.2.word
  have hown' : s'.vm.findClass own = some m.cls := by rw [hvm]; exact hown
  have hins : (Cond.instantiable cls 6).before args s' = true := h _ (by simp [Bundle.ownAtoms0])
  obtain ⟨vm₁, cX, kX, hfX, hkX, -, -, X₁, st1⟩ := Y.newCold hexec (own := own) (C := cls) (index := ik) (n := 6) hown' hk' hins hini'
    (g := F0 m pc ls rest) rfl (by rw [hb]; exact d0) (Nat.le_refl _) (Nat.le_refl _)
  generalize hT1 : (T.setVm vm₁).pushCell { cls := cX, slots := kX.instanceTypes.map defaultValue, vm := .none } = T1 at X₁ st1
  have hcat : (Value.ref T.heap.size).category = 1 := rfl
  have hcellA : T1.heap[T.heap.size]? = some (freshCell cX kX) := by rw [← hT1]; exact State.heap_pushCell_size _ _
  have d3' : decode c.code (pc + 3) = .ok (.dup, 1) := by rw [hb]; exact d3
  obtain ⟨U, hsteps, hrun, hend, hW, hsame, ce, hce, hO⟩ := X₁.ctorThrow0 hexec htr (own := own) (cls := cls) (names := names) (ic := ic) hown' hcls hnames h (fun x hx => nomatch hx) hfX hkX hcellA (by rw [hhp, hT]; exact Nat.le_refl _)
    (g := { method := m, pc := pc + 4, locals := ls, stack := .ref T.heap.size :: .ref T.heap.size :: rest, locked := none }) rfl hsize rfl rfl (rest := rest) rfl
    (by rw [hb]; exact d4) (by rw [hb]; exact d7) hout hRframes (by simp only [List.map_cons, List.sum_cons, hcat]; omega) hlocks
  obtain ⟨f1, f2⟩ := vx_frame hsame
  rw [hhp] at f1 f2
  have hWs : s.WarmedH U.vm := State.WarmedH.trans hW0 hW
  have hcl : s.vm.findClass cls = some ce.cls := by
    have h9 := hO.cls
    rw [hvm] at h9
    exact h9
  have hall : s.sameButNew ({ U with vm := s.vm } : State) locs mc ms := by
    subst hA
    obtain ⟨e1, e2⟩ := hsame
    rw [State.setFrames_setFrames] at e1
    have h2 : (T.setVm s.vm).sameButNew ({ U with vm := s.vm } : State) [] (0 + 1) (0 + 6) := ⟨e1, e2⟩
    have h3 := X.same.trans h2
    rw [List.append_nil] at h3
    exact h3.mono hc hs
  refine ⟨U, ?_, .threw T.heap.size, hrun, hend, Or.inr ⟨T.heap.size, rfl, cls, ce, locs, hx U hWs.alike f1 (fun q hq => f2 q hq (fun z hz => nomatch hz)), hce, hO.vm, hcl, hWs, hall, hf⟩⟩
  refine st1 _ ?_
  show Steps p.tables e below (T1.setTop { method := m, pc := pc + 3, locals := ls, stack := .ref T.heap.size :: rest, locked := none }) _
  jvm_step X₁.here [X₁.here.top, hexec, d3', Value.category]
  exact hsteps
/-- 'throw new E("text")': new; dup; ldc; invokespecial; athrow -/
theorem vx_throwS {cc : ByteArray} {pc : Nat} (hexec : p.tables.exec = Jvm.exec) (hb : c.code = cc) (hl : l.stackTraces = false) {own cls text : String} {names : List String} {ik is ic mc ms sa : Nat} {A : Nat → Prop}
    (hown : s.vm.findClass own = some m.cls) (hcls : Bundle.fit cls = true) (hnames : ∀ n ∈ names, Bundle.fit n = true)
    (hk : (Cond.classLink own ik cls).before args s = true) (hini : (Cond.initialized cls).before args s = true) (hstr : vk_R own is text sa s) (hat : ∀ w ∈ vx_atS own ic cls names, w.before args s = true)
    (hgood : ∀ w ∈ Cond.classLink own ik cls :: Cond.initialized cls :: vx_atS own ic cls names, vx_ot w = true)
    (hU : vx_Zq Bundle.tN "UNASSIGNED_STACK" Bundle.steD A s s.heap) (hN : vx_Zq Bundle.tN "SUPPRESSED_SENTINEL" Bundle.listD A s s.heap) (hS : va_S A s.heap H locs) (hsize : ls.size = c.maxLocals)
    (d0 : decode cc pc = .ok (.new ik, 3)) (d3 : decode cc (pc + 3) = .ok (.dup, 1)) (d4 : decode cc (pc + 4) = .ok (.ldc is, 2)) (d6 : decode cc (pc + 6) = .ok (.invokespecial ic, 3)) (d9 : decode cc (pc + 9) = .ok (.athrow, 1))
    (hout : ∀ x ∈ c.exceptionTable.toList, covers x (pc + 9) = false)
    (hRframes : names.length + 3 < R.frames) (hRlocals : (rest.map fun v => v.category).sum + (13 * (names.length + 1) + 43) ≤ R.locals) (hRcells : cells + 1 ≤ R.cells) (hRslots : slots + 6 ≤ R.slots) (hlocks : meth.locks = false)
    (hx : ∀ t : State, s.vm.Alike t.vm → H.size ≤ t.heap.size → (∀ q : Nat, q < H.size → t.heap[q]? = H[q]?) → XC cls s t)
    (hf : ∀ z ∈ locs, free z.base) (hc : cells + 1 ≤ mc) (hs : slots + 6 ≤ ms) :
    W p l e R s m args below meth c H locs cells slots (vx_MQ below Qc XC args s mc ms free) (F0 m pc ls rest) := by
  intro T hT X
  have htr : e.platform.stackTraces = false := (show e.platform.stackTraces = l.stackTraces by rw [X.admits.platform]).trans hl
  have Y := vx_rebase X (R' := { frames := R.frames, locals := R.locals, cells := 1, slots := 6 }) (Nat.le_refl _) (Nat.le_refl _) hRcells hRslots
  obtain ⟨s', hA⟩ : ∃ z, z = (T.setVm s.vm).setFrames (.invoking m args :: below) := ⟨_, rfl⟩
  rw [← hA] at Y
  have hvm : s'.vm = s.vm := by rw [hA]; rfl
  have hhp : s'.heap = H := by rw [hA]; exact hT
  have hW0 : s.WarmedH s'.vm := by rw [hvm]; exact State.WarmedH.refl s
  have hat' : ∀ w ∈ vx_atS own ic cls names, w.before args s' = true := fun w hw => vx_ot_at hW0 hvm.symm (hgood w (List.mem_cons_of_mem _ (List.mem_cons_of_mem _ hw))) (hat w hw)
  have hk' : (Cond.classLink own ik cls).before args s' = true := vx_ot_at hW0 hvm.symm (hgood _ List.mem_cons_self) hk
  have hini' : (Cond.initialized cls).before args s' = true := vx_ot_at hW0 hvm.symm (hgood _ (List.mem_cons_of_mem _ List.mem_cons_self)) hini
  have hU' : vx_Zq Bundle.tN "UNASSIGNED_STACK" Bundle.steD A s' s'.heap := by rw [hhp]; exact vx_Zq.moved hW0.alike (hU.kept hS.2.1)
  have hN' : vx_Zq Bundle.tN "SUPPRESSED_SENTINEL" Bundle.listD A s' s'.heap := by rw [hhp]; exact vx_Zq.moved hW0.alike (hN.kept hS.2.1)
  have h : ∀ w ∈ Bundle.ownAtoms own ic cls names, w.before args s' = true := vx_own hat' (vx_isRefq hU'.1) (vx_isRefq hN'.1) hU'.2.word hN'.2.word
  have hown' : s'.vm.findClass own = some m.cls := by rw [hvm]; exact hown
  have hins : (Cond.instantiable cls 6).before args s' = true := h _ (by simp [Bundle.ownAtoms])
  obtain ⟨vm₁, cX, kX, hfX, hkX, -, -, X₁, st1⟩ := Y.newCold hexec (own := own) (C := cls) (index := ik) (n := 6) hown' hk' hins hini'
    (g := F0 m pc ls rest) rfl (by rw [hb]; exact d0) (Nat.le_refl _) (Nat.le_refl _)
  generalize hT1 : (T.setVm vm₁).pushCell { cls := cX, slots := kX.instanceTypes.map defaultValue, vm := .none } = T1 at X₁ st1
  have hcat : (Value.ref T.heap.size).category = 1 := rfl
  have hcellA : T1.heap[T.heap.size]? = some (freshCell cX kX) := by rw [← hT1]; exact State.heap_pushCell_size _ _
  have d3' : decode c.code (pc + 3) = .ok (.dup, 1) := by rw [hb]; exact d3
  have d4' : decode c.code (pc + 4) = .ok (.ldc is, 2) := by rw [hb]; exact d4
  have hstr' : vk_R own is text sa s' := vk_R.warm hW0 hstr
  obtain ⟨U, hsteps, hrun, hend, hW, hsame, ce, hce, hO⟩ := X₁.ctorThrowS hexec htr (own := own) (cls := cls) (names := names) (ic := ic) hown' hcls hnames h (fun x hx => nomatch hx) hfX hkX hcellA (by rw [hhp, hT]; exact Nat.le_refl _) (msg := .ref sa) rfl
    (g := { method := m, pc := pc + 6, locals := ls, stack := .ref sa :: .ref T.heap.size :: .ref T.heap.size :: rest, locked := none }) rfl hsize rfl rfl (rest := rest) rfl
    (by rw [hb]; exact d6) (by rw [hb]; exact d9) hout hRframes (by simp only [List.map_cons, List.sum_cons, hcat]; omega) hlocks
  obtain ⟨f1, f2⟩ := vx_frame hsame
  rw [hhp] at f1 f2
  have hWs : s.WarmedH U.vm := State.WarmedH.trans hW0 hW
  have hcl : s.vm.findClass cls = some ce.cls := by
    have h9 := hO.cls
    rw [hvm] at h9
    exact h9
  have hall : s.sameButNew ({ U with vm := s.vm } : State) locs mc ms := by
    subst hA
    obtain ⟨e1, e2⟩ := hsame
    rw [State.setFrames_setFrames] at e1
    have h2 : (T.setVm s.vm).sameButNew ({ U with vm := s.vm } : State) [] (0 + 1) (0 + 6) := ⟨e1, e2⟩
    have h3 := X.same.trans h2
    rw [List.append_nil] at h3
    exact h3.mono hc hs
  refine ⟨U, ?_, .threw T.heap.size, hrun, hend, Or.inr ⟨T.heap.size, rfl, cls, ce, locs, hx U hWs.alike f1 (fun q hq => f2 q hq (fun z hz => nomatch hz)), hce, hO.vm, hcl, hWs, hall, hf⟩⟩
  refine st1 _ ?_
  show Steps p.tables e below (T1.setTop { method := m, pc := pc + 3, locals := ls, stack := .ref T.heap.size :: rest, locked := none }) _
  jvm_step X₁.here [X₁.here.top, hexec, d3', Value.category]
  exact X₁.ldcString hexec (own := own) (text := text) (index := is) (a := sa) hown' hstr'.1 hstr'.2
    (g := { method := m, pc := pc + 4, locals := ls, stack := .ref T.heap.size :: .ref T.heap.size :: rest, locked := none }) rfl d4' _ hsteps
/-- 'throw new E("text")', the text by a wide index -/
theorem vx_throwSW {cc : ByteArray} {pc : Nat} (hexec : p.tables.exec = Jvm.exec) (hb : c.code = cc) (hl : l.stackTraces = false) {own cls text : String} {names : List String} {ik is ic mc ms sa : Nat} {A : Nat → Prop}
    (hown : s.vm.findClass own = some m.cls) (hcls : Bundle.fit cls = true) (hnames : ∀ n ∈ names, Bundle.fit n = true)
    (hk : (Cond.classLink own ik cls).before args s = true) (hini : (Cond.initialized cls).before args s = true) (hstr : vk_R own is text sa s) (hat : ∀ w ∈ vx_atS own ic cls names, w.before args s = true)
    (hgood : ∀ w ∈ Cond.classLink own ik cls :: Cond.initialized cls :: vx_atS own ic cls names, vx_ot w = true)
    (hU : vx_Zq Bundle.tN "UNASSIGNED_STACK" Bundle.steD A s s.heap) (hN : vx_Zq Bundle.tN "SUPPRESSED_SENTINEL" Bundle.listD A s s.heap) (hS : va_S A s.heap H locs) (hsize : ls.size = c.maxLocals)
    (d0 : decode cc pc = .ok (.new ik, 3)) (d3 : decode cc (pc + 3) = .ok (.dup, 1)) (d4 : decode cc (pc + 4) = .ok (.ldc_w is, 3)) (d7 : decode cc (pc + 7) = .ok (.invokespecial ic, 3)) (d10 : decode cc (pc + 10) = .ok (.athrow, 1))
    (hout : ∀ x ∈ c.exceptionTable.toList, covers x (pc + 10) = false)
    (hRframes : names.length + 3 < R.frames) (hRlocals : (rest.map fun v => v.category).sum + (13 * (names.length + 1) + 43) ≤ R.locals) (hRcells : cells + 1 ≤ R.cells) (hRslots : slots + 6 ≤ R.slots) (hlocks : meth.locks = false)
    (hx : ∀ t : State, s.vm.Alike t.vm → H.size ≤ t.heap.size → (∀ q : Nat, q < H.size → t.heap[q]? = H[q]?) → XC cls s t)
    (hf : ∀ z ∈ locs, free z.base) (hc : cells + 1 ≤ mc) (hs : slots + 6 ≤ ms) :
    W p l e R s m args below meth c H locs cells slots (vx_MQ below Qc XC args s mc ms free) (F0 m pc ls rest) := by
  intro T hT X
  have htr : e.platform.stackTraces = false := (show e.platform.stackTraces = l.stackTraces by rw [X.admits.platform]).trans hl
  have Y := vx_rebase X (R' := { frames := R.frames, locals := R.locals, cells := 1, slots := 6 }) (Nat.le_refl _) (Nat.le_refl _) hRcells hRslots
  obtain ⟨s', hA⟩ : ∃ z, z = (T.setVm s.vm).setFrames (.invoking m args :: below) := ⟨_, rfl⟩
  rw [← hA] at Y
  have hvm : s'.vm = s.vm := by rw [hA]; rfl
  have hhp : s'.heap = H := by rw [hA]; exact hT
  have hW0 : s.WarmedH s'.vm := by rw [hvm]; exact State.WarmedH.refl s
  have hat' : ∀ w ∈ vx_atS own ic cls names, w.before args s' = true := fun w hw => vx_ot_at hW0 hvm.symm (hgood w (List.mem_cons_of_mem _ (List.mem_cons_of_mem _ hw))) (hat w hw)
  have hk' : (Cond.classLink own ik cls).before args s' = true := vx_ot_at hW0 hvm.symm (hgood _ List.mem_cons_self) hk
  have hini' : (Cond.initialized cls).before args s' = true := vx_ot_at hW0 hvm.symm (hgood _ (List.mem_cons_of_mem _ List.mem_cons_self)) hini
  have hU' : vx_Zq Bundle.tN "UNASSIGNED_STACK" Bundle.steD A s' s'.heap := by rw [hhp]; exact vx_Zq.moved hW0.alike (hU.kept hS.2.1)
  have hN' : vx_Zq Bundle.tN "SUPPRESSED_SENTINEL" Bundle.listD A s' s'.heap := by rw [hhp]; exact vx_Zq.moved hW0.alike (hN.kept hS.2.1)
  have h : ∀ w ∈ Bundle.ownAtoms own ic cls names, w.before args s' = true := vx_own hat' (vx_isRefq hU'.1) (vx_isRefq hN'.1) hU'.2.word hN'.2.word
  have hown' : s'.vm.findClass own = some m.cls := by rw [hvm]; exact hown
  have hins : (Cond.instantiable cls 6).before args s' = true := h _ (by simp [Bundle.ownAtoms])
  obtain ⟨vm₁, cX, kX, hfX, hkX, -, -, X₁, st1⟩ := Y.newCold hexec (own := own) (C := cls) (index := ik) (n := 6) hown' hk' hins hini'
    (g := F0 m pc ls rest) rfl (by rw [hb]; exact d0) (Nat.le_refl _) (Nat.le_refl _)
  generalize hT1 : (T.setVm vm₁).pushCell { cls := cX, slots := kX.instanceTypes.map defaultValue, vm := .none } = T1 at X₁ st1
  have hcat : (Value.ref T.heap.size).category = 1 := rfl
  have hcellA : T1.heap[T.heap.size]? = some (freshCell cX kX) := by rw [← hT1]; exact State.heap_pushCell_size _ _
  have d3' : decode c.code (pc + 3) = .ok (.dup, 1) := by rw [hb]; exact d3
  have d4' : decode c.code (pc + 4) = .ok (.ldc_w is, 3) := by rw [hb]; exact d4
  have hstr' : vk_R own is text sa s' := vk_R.warm hW0 hstr
  obtain ⟨U, hsteps, hrun, hend, hW, hsame, ce, hce, hO⟩ := X₁.ctorThrowS hexec htr (own := own) (cls := cls) (names := names) (ic := ic) hown' hcls hnames h (fun x hx => nomatch hx) hfX hkX hcellA (by rw [hhp, hT]; exact Nat.le_refl _) (msg := .ref sa) rfl
    (g := { method := m, pc := pc + 7, locals := ls, stack := .ref sa :: .ref T.heap.size :: .ref T.heap.size :: rest, locked := none }) rfl hsize rfl rfl (rest := rest) rfl
    (by rw [hb]; exact d7) (by rw [hb]; exact d10) hout hRframes (by simp only [List.map_cons, List.sum_cons, hcat]; omega) hlocks
  obtain ⟨f1, f2⟩ := vx_frame hsame
  rw [hhp] at f1 f2
  have hWs : s.WarmedH U.vm := State.WarmedH.trans hW0 hW
  have hcl : s.vm.findClass cls = some ce.cls := by
    have h9 := hO.cls
    rw [hvm] at h9
    exact h9
  have hall : s.sameButNew ({ U with vm := s.vm } : State) locs mc ms := by
    subst hA
    obtain ⟨e1, e2⟩ := hsame
    rw [State.setFrames_setFrames] at e1
    have h2 : (T.setVm s.vm).sameButNew ({ U with vm := s.vm } : State) [] (0 + 1) (0 + 6) := ⟨e1, e2⟩
    have h3 := X.same.trans h2
    rw [List.append_nil] at h3
    exact h3.mono hc hs
  refine ⟨U, ?_, .threw T.heap.size, hrun, hend, Or.inr ⟨T.heap.size, rfl, cls, ce, locs, hx U hWs.alike f1 (fun q hq => f2 q hq (fun z hz => nomatch hz)), hce, hO.vm, hcl, hWs, hall, hf⟩⟩
  refine st1 _ ?_
  show Steps p.tables e below (T1.setTop { method := m, pc := pc + 3, locals := ls, stack := .ref T.heap.size :: rest, locked := none }) _
  jvm_step X₁.here [X₁.here.top, hexec, d3', Value.category]
  exact X₁.ldcStringW hexec (own := own) (text := text) (index := is) (a := sa) hown' hstr'.1 hstr'.2
    (g := { method := m, pc := pc + 4, locals := ls, stack := .ref T.heap.size :: .ref T.heap.size :: rest, locked := none }) rfl d4' _ hsteps
end Ends
section Bodies
variable {l : Launch}
theorem vx_ofW {y : MethodName} {ws ws' : List Cond} {rm : Room} {Pc : Array Value → State → Prop} {Qc : Array Value → State → Outcome → State → Prop} {XC : String → State → State → Prop} {mc ms : Nat} {free : Addr → Prop} {cc : ByteArray} {maxL : Nat} {ret : Option FieldType}
    (hy : plainName y.cls = true) (hw : ws = Cond.code y cc maxL ret :: ws')
    (body : ∀ p e s m args below meth c s₁, BodyLoose p l y (headSpec ws rm) cc maxL ret e s m args below meth c s₁ → c.maxLocals = maxL → (∀ x ∈ c.exceptionTable.toList, False) → Pc args s →
      W p l e (headSpec ws rm).room s m args below meth c s.heap [] 0 0 (vx_MQ below Qc XC args s mc ms free) (entryFrame m args maxL)) : vx_Met l y ws rm Pc Qc XC mc ms free := by
  refine MetFree.of_bodyS (code := cc) (maxLocals := maxL) (ret := ret) hy ?_ ?_
  · intro args s m h hn
    obtain ⟨meth, c, h1, h2, h3, h4, h5, h6, -, -⟩ := Cond.code_spec hn (atoms_spec (ws := ws) h _ (by rw [hw]; exact List.mem_cons_self))
    exact ⟨meth, c, h1, h2, h3, h4, h5, h6⟩
  · intro p e s m args below meth c s₁ B hml hP _
    have hh0 : s₁.heap = s.heap := by rw [B.state]; rfl
    have ht : ∀ x ∈ c.exceptionTable.toList, False := by
      obtain ⟨meth9, c9, h1, h2, -, -, -, -, h7, -⟩ := Cond.code_spec B.named (atoms_spec (ws := ws) B.pre _ (by rw [hw]; exact List.mem_cons_self))
      cases Option.some.inj (h1.symm.trans B.method)
      cases Option.some.inj (h2.symm.trans (Stand.of_body B).code)
      intro x hx
      rw [Array.isEmpty_iff.mp h7] at hx
      cases hx
    obtain ⟨t, a1, o, b1, b2, b3⟩ := body p e s m args below meth c s₁ B hml ht hP s₁ hh0 (Stand.of_body B)
    exact ⟨t, o, a1, b1, b2, b3⟩
/-- the table of a body with handlers -/
theorem vx_table {p : Program} {x y : MethodName} {S : Spec} {cc bytes : ByteArray} {maxL maxL' : Nat} {ret ret' : Option FieldType} {e : Env} {s s₁ : State} {m : MethodId} {args : Array Value} {below : List Frame} {meth : Method} {c : Code} {hh : List (Nat × Nat × Nat × Nat)}
    (B : BodyLoose p l y S cc maxL ret e s m args below meth c s₁) (h : (Cond.codeWith y bytes maxL' ret' hh).before args s = true) : c.exceptionTable.toList = tableOf hh := by
  obtain ⟨m9, meth9, c9, hn9, h1, h2, -, -, h6, -⟩ := Cond.codeWith_spec h
  cases Option.some.inj (hn9.symm.trans B.named)
  cases Option.some.inj (h1.symm.trans B.method)
  cases Option.some.inj (h2.symm.trans (Stand.of_body B).code)
  rw [← h6, table_eq]
end Bodies
end VXA
/-! ===== END ===== -/
/-! ===== BEGIN a static call of a method with an exception table ===== -/
section VXS
variable {p : Program} {l : Launch} {e : Env} {R : Room} {s : State} {m : MethodId} {args : Array Value} {below : List Frame} {meth : Method} {c : Code} {T : State} {H : Heap} {locs : List Loc} {cells slots : Nat}
abbrev vx_CSW (R : Room) (s : State) (args : Array Value) (own : String) (index : Nat) (y : MethodName) (bytes : ByteArray) (maxL : Nat) (ret : Option FieldType) (hh : List (Nat × Nat × Nat × Nat)) (ws : List Cond) (rm : Room) (mc ms n : Nat) : Prop :=
  (rm.cells = mc ∧ rm.slots = ms ∧ rm.frames + 1 ≤ R.frames ∧ 8 + (maxL + 11) + rm.locals ≤ R.locals ∧ (∀ w ∈ ws, ∀ (a' : Array Value) (U : State), s.WarmedH U.vm → w.before a' U = true) ∧ Cond.codeWith y bytes maxL ret hh ∈ ws) ∧
  (Cond.codeWith y bytes maxL ret hh).before args s = true ∧ (Cond.initialized y.cls).before args s = true ∧ (y.cls ≠ "java/lang/invoke/MethodHandle" ∧ y.cls ≠ "java/lang/invoke/VarHandle") ∧
  (∀ sig, parseMethodDescriptor y.desc = some sig → n = sig.parameters.length) ∧ (Cond.methodLink own index y).before args s = true ∧ (Cond.static y).before args s = true
theorem vx_cwSW {own : String} {index maxL mc ms : Nat} {y : MethodName} {bytes : ByteArray} {ret : Option FieldType} {hh : List (Nat × Nat × Nat × Nat)} {Ts ws ws' : List Cond} {rm : Room} (n : Nat) (ht : ∀ w ∈ Ts, w.before args s = true) (hT : GoodIn Ts (va_wsS own index y ws)) (hw : ws = Cond.codeWith y bytes maxL ret hh :: ws') (hrc : rm.cells = mc) (hrs : rm.slots = ms)
    (hd : y.cls ≠ "java/lang/invoke/MethodHandle" ∧ y.cls ≠ "java/lang/invoke/VarHandle" ∧ (parseMethodDescriptor y.desc).map (fun d => d.parameters.length) = some n) (hR : rm.frames + 1 ≤ R.frames ∧ 8 + (maxL + 11) + rm.locals ≤ R.locals) :
    vx_CSW R s args own index y bytes maxL ret hh ws rm mc ms n := by
  have ok : ∀ w ∈ va_wsS own index y ws, w.before args s = true := fun w h => ht w (hT w h).1
  have hG : GoodIn Ts ws := fun w h => hT w (by unfold va_wsS; exact List.mem_append_right _ h)
  have hc : Cond.codeWith y bytes maxL ret hh ∈ ws := by rw [hw]; exact List.mem_cons_self
  refine ⟨⟨hrc, hrs, hR.1, hR.2, pay_in ht hG, hc⟩, ht _ (hG _ hc).1, ok _ (by simp [va_wsS]), ⟨hd.1, hd.2.1⟩, fun sig h => ?_, ok _ (by simp [va_wsS]), ok _ (by simp [va_wsS])⟩
  have h2 := hd.2.2
  rw [h] at h2
  exact (Option.some.inj h2).symm
theorem vx_callSW (X : Stand p l e R s m args below meth c T locs cells slots) (hexec : p.tables.exec = Jvm.exec) {own : String} {index : Nat} {y : MethodName} {bytes : ByteArray} {maxL : Nat} {ret : Option FieldType} {hh : List (Nat × Nat × Nat × Nat)}
    (hown : s.vm.findClass own = some m.cls) (hlink : (Cond.methodLink own index y).before args s = true) (hstat : (Cond.static y).before args s = true) (hinit : (Cond.initialized y.cls).before args s = true)
    (hcode : (Cond.codeWith y bytes maxL ret hh).before args s = true) (hy : y.cls ≠ "java/lang/invoke/MethodHandle" ∧ y.cls ≠ "java/lang/invoke/VarHandle")
    {W9 : Nat} {Pre : Pt → Array Value → Prop} {Post : Pt → Array Value → Option Value → Pt → Prop} (hK : Back l R p e below s args y 3 W9 Pre Post)
    {g : JFrame} (hg : g.method = m) (hsize : g.locals.size = c.maxLocals) {argsL rest : List Value} (hlen : ∀ sig, parseMethodDescriptor y.desc = some sig → argsL.length = sig.parameters.length)
    (hstack : g.stack = argsL.reverse ++ rest) (hW : 2 * g.monitorRoom + (rest.map fun v => v.category).sum ≤ W9) (hdg : decode c.code g.pc = .ok (.invokestatic index, 3))
    (hpre : ∀ vm₁, s.WarmedH vm₁ → Pre ⟨T.setVm vm₁, locs, cells, slots⟩ argsL.toArray) :
    ∃ (v : Option Value) (vm₁ : Vm) (B : Pt), s.WarmedH vm₁ ∧ Stand p l e R s m args below meth c B.U B.locs B.cells B.slots ∧ Post ⟨T.setVm vm₁, locs, cells, slots⟩ argsL.toArray v B ∧
      ∀ target, Steps p.tables e below (B.U.setTop { g with pc := g.pc + 3, stack := v.toList ++ rest }) target → Steps p.tables e below (T.setTop g) target := by
  obtain ⟨mk, methM, cM, hnamed, hmethM, -, -, -, -, -, -, hsigM⟩ := Cond.codeWith_spec hcode
  have hstatic : methM.isStatic = true := Cond.static_spec hnamed hmethM hstat
  obtain ⟨kP, hkP, -⟩ := className_of_methodNamed hnamed
  have hinitP : kP.init = .initialized := Cond.initialized_spec (findClass_of_methodNamed hnamed) hkP hinit
  obtain ⟨vm₁, X₁, hstep₁⟩ := X.invokestatic hexec hown hlink hnamed hmethM hstatic hkP hinitP hy (g := g) hg (argsL := argsL) (rest := rest) (hlen _ hsigM) hstack hdg
  obtain ⟨v, B, X', hpost, hsteps⟩ := hK m meth c ⟨T.setVm vm₁, locs, cells, slots⟩ { g with stack := rest } (.invokestatic index) mk argsL.toArray X₁ hg hsize hdg hW (X₁.named hnamed) (hpre vm₁ X₁.warmed)
  exact ⟨v, vm₁, B, X₁.warmed, X', hpost, fun target h => hstep₁ _ fun acts => by rw [doInvoke_state]; exact hsteps.trans h⟩
theorem vx_runSW {y : MethodName} {bytes cc : ByteArray} {maxL nL mc ms n index : Nat} {ret : Option FieldType} {hh : List (Nat × Nat × Nat × Nat)} {ws : List Cond} {rm : Room} {Pc : Array Value → State → Prop} {Qc : Array Value → State → Outcome → State → Prop} {free : Addr → Prop} {Ts : List Cond} {own : String} {As rest : List Value} {g : JFrame}
    (S : CallFix p m c cc nL s args Ts own) (hM : Met l y ws rm Pc Qc mc ms free) (cw : vx_CSW R s args own index y bytes maxL ret hh ws rm mc ms n) (hp : PreS s H Pc As)
    (hg : g.method = m) (hn : As.length = n) (hsize : g.locals.size = nL) (hstack : g.stack = As.reverse ++ rest) (hW : 2 * g.monitorRoom + (rest.map fun v => v.category).sum ≤ 8) (hdg : decode cc g.pc = .ok (.invokestatic index, 3)) (hf : cells + mc ≤ R.cells ∧ slots + ms ≤ R.slots) :
    va_Run p l e R s m args below meth c H locs cells slots mc ms g rest (Qc As.toArray) (free) := by
  obtain ⟨⟨hrc, hrs, hfr, hlo, hws, hcw⟩, hcode, hini, hy, hlen, hl, hstt⟩ := cw
  have hK : Back l R p e below s args y 3 8 (PreOf R mc ms Pc) (PostOf Qc mc ms free) := va_backW (hh := hh) (bytes := bytes) (maxL := maxL) (ret := ret) hM hp.1 hrc hrs hfr hlo hws hcw (fun a' U hW => word_at hW (Or.inl (by first | rfl | simp [Cond.onTables, Cond.keeps, Cond.steady])) hini)
  obtain ⟨hx, hb, hml, ho, -⟩ := S
  intro T hT X
  obtain ⟨v, vm₁, ⟨U', l2, c2, s2⟩, hW₁, X', ⟨g', mk, t, L, e1, e2, hq, h1, hL, h2, h3⟩, st⟩ := vx_callSW X hx (hh := hh) (bytes := bytes) (maxL := maxL) (ret := ret) ho hl hstt hini hcode hy hK hg (hsize.trans hml.symm) (argsL := As) (rest := rest) (fun sig h => hn.trans (hlen sig h)) hstack hW (by rw [hb]; exact hdg)
    (fun vm₁ hW₁ => ⟨hf.1, hf.2, hp.2 (T.setVm vm₁) hT hW₁⟩)
  dsimp only [Pt.U, Pt.locs, Pt.cells, Pt.slots] at X' e1 e2 h1 h2 h3 st
  subst h1; subst h2; subst h3
  exact ⟨v, (T.setVm vm₁).calling g' mk As.toArray, t, U', L, hT, X', hL, e1, e2, hq, st⟩
/-- not caught here, past rows that name other classes: it goes on to the caller -/
theorem vx_outP {p : Program} {l : Launch} {e : Env} {R : Room} {s : State} {m : MethodId} {args : Array Value} {below : List Frame} {meth : Method} {c : Code} {H : Heap} {locs : List Loc} {cells slots : Nat} {free : Addr → Prop} {ls : Array Slot} {rest : List Value} {Qc : Array Value → State → Outcome → State → Prop} {XC : String → State → State → Prop}
    {pc : Nat} {own E : String} {ce : Cell} {q : Addr} {mc ms : Nat} (hown : s.vm.findClass own = some m.cls) (hlocks : meth.locks = false)
    (hpass : ∀ z ∈ c.exceptionTable.toList, covers z pc = false ∨ (z.catchType ≠ 0 ∧ ∃ nm : String, (Cond.classLink own z.catchType nm).before args s = true ∧ va_Nc E nm s)) (hcell : H[q]? = some ce) (hv : ce.vm = .none) (hcl : s.vm.findClass E = some ce.cls)
    (hx : ∀ t : State, t.heap = H → s.vm.Alike t.vm → XC E s t) (hf : ∀ z ∈ locs, free z.base) (hc : cells ≤ mc) (hs : slots ≤ ms) :
    vx_W p l e R s m args below meth c H locs cells slots (vx_MQ below Qc XC args s mc ms free) (F0 m pc ls rest) q := by
  intro T hT X
  have hpl : e.platform.magicAccessors = ({} : Platform).magicAccessors := by rw [X.admits.platform]
  obtain ⟨vm', hW', X', st⟩ := X.outThrough hlocks q (g := F0 m pc ls rest) rfl rfl rfl (cell := ce) (by rw [hT]; exact hcell) (by rw [hv]; rfl)
    (by obtain ⟨k9, h9, -⟩ := Vm.findClass_spec hcl; exact ⟨k9, h9⟩) (fun z hz => by
      rcases hpass z hz with h | ⟨hz0, nm, hl1, hn1⟩
      · exact Or.inl h
      · obtain ⟨c6, hc6, hcl6⟩ := Cond.classLink_spec hown hl1 e.platform hpl
        obtain ⟨a8, b8, h1, h2, h3⟩ := hn1
        cases Option.some.inj (h1.symm.trans hcl)
        cases Option.some.inj (h2.symm.trans hc6)
        exact Or.inr ⟨hz0, _, hcl6, h3⟩)
  obtain ⟨g₀, hfr⟩ := X'.frames_eq
  have hcell9 : ((T.setVm vm').setFrames (.throwing q :: below)).heap[q]? = some ce := by
    show T.heap[q]? = some ce
    rw [hT]; exact hcell
  have hend : Ended ((T.setVm vm').setFrames (.throwing q :: below)) below (.threw q) := State.frames_setFrames _ (State.cur_lt_of_frames hfr)
  refine ⟨(T.setVm vm').setFrames (.throwing q :: below), ?_, .threw q, X'.here.running, hend, Or.inr ⟨q, rfl, E, ce, locs, hx _ hT (X'.ends _).1.alike, hcell9, hv, hcl, (X'.ends _).1, (X'.ends _).2.mono hc hs, hf⟩⟩
  rw [X.pushThrowing_eq]
  exact st
/-- a thing of a world lies in the heap -/
theorem vx_lt {D : va_G} {cl : List vw_C} {ws : va_W} {H1 : Heap} (h : va_P D cl ws H1) {k : Nat} {q : Nat × va_E} (hk : ws[k]? = some q) : q.1 < H1.size := (h k q hk).lt
end VXS
/-! ===== END ===== -/
/-! ===== BEGIN methods with a table of their own: called by a name, returning or throwing ===== -/
section VXH
/-! vx_backW, vx_callVX, vx_callSX, vx_callVW, vx_runVW, vx_runVX, vx_runSX, vx_ofWH follow the same proofs as their sisters above (Free/Laws.lean, Shelf42/LK1.lean); vx_outP calls Shelf42/NT130.lean (outThrough). -/
section
variable {l : Launch} {R : Room} {p : Program} {e : Env} {below : List Frame} {s : State} {sargs : Array Value} {y : MethodName} {len W9 : Nat}
theorem vx_backW {ws : List Cond} {rm : Room} {Pc : Array Value → State → Prop} {Qc : Array Value → State → Outcome → State → Prop} {XC : String → State → State → Prop} {mc ms : Nat} {free : Addr → Prop} {bytes : ByteArray} {maxL : Nat} {ret : Option FieldType} {hh : List (Nat × Nat × Nat × Nat)}
    (hM : vx_Met l y ws rm Pc Qc XC mc ms free) (hblind : FrameBlind Pc) (hrc : rm.cells = mc) (hrs : rm.slots = ms)
    (hframes : rm.frames + 1 ≤ R.frames) (hlocals : W9 + (maxL + 11) + rm.locals ≤ R.locals)
    (hws : ∀ w ∈ ws, ∀ a' U, s.WarmedH U.vm → w.before a' U = true) (hcode : Cond.codeWith y bytes maxL ret hh ∈ ws) (hinit : ∀ a' U, s.WarmedH U.vm → (Cond.initialized y.cls).before a' U = true) :
    vx_Back l R p e below s sargs y len W9 (PreOf R mc ms Pc) (PostOf Qc mc ms free) (vx_Post XC mc ms free) := by
  intro m meth c A g ig mk a X hg hsize hdg hW hn hp
  have h1 : (headSpec ws rm).pre.before a A.U = true := atoms_intro fun w hw => hws w hw _ _ X.warmed
  have h2 : (Cond.codeWith y bytes maxL ret hh).before a A.U = true := hws _ hcode _ _ X.warmed
  have h3 : (Cond.initialized y.cls).before a A.U = true := hinit _ _ X.warmed
  have h4 : A.cells + (headSpec ws rm).room.cells ≤ R.cells := by rw [show (headSpec ws rm).room.cells = mc from hrc]; exact hp.1
  have h5 : A.slots + (headSpec ws rm).room.slots ≤ R.slots := by rw [show (headSpec ws rm).room.slots = ms from hrs]; exact hp.2.1
  have hPc : Pc a (A.U.calling g mk a) := hblind _ _ _ _ hp.2.2
  obtain ⟨U, Ls, c0, s0⟩ := A
  dsimp only [Pt.U, Pt.locs, Pt.cells, Pt.slots] at h1 h2 h3 h4 h5 X hn hPc ⊢
  obtain ⟨m9, methY, cY, hn9, hmY, hcY, -, hlY, -⟩ := Cond.codeWith_spec h2
  cases Option.some.inj (hn9.symm.trans hn)
  obtain ⟨kY, hkY, -⟩ := className_of_methodNamed hn
  have hinitY : kY.init = .initialized := Cond.initialized_spec (findClass_of_methodNamed hn) hkY h3
  have h : At U g.method c below := by rw [hg]; exact X.here
  have hlocals9 : W9 + (maxL + 11) + (headSpec ws rm).room.locals ≤ R.locals := hlocals
  have happ : (headSpec ws rm).appliesLoose y e.platform (U.calling g mk a) = true :=
    Spec.appliesLoose_calling (g := g) h hdg hn hkY hinitY
      (X.room_calling (g := g) (R' := (headSpec ws rm).room) hsize hmY hcY hframes (by rw [hlY]; omega) h4 h5) h1
  obtain ⟨mid, hmid⟩ := h.above
  have hfr : (U.setTop g).frames = (.java g :: mid) ++ below := by rw [State.frames_setTop' g h.top, hmid]; rfl
  obtain ⟨o, s₂, hsteps, -, hend, hq⟩ := Steps.callFree hM p X.admits X.cas X.clock (acts := []) hfr happ hPc trivial
  have hq' : vx_Q Qc XC mc ms free a (U.calling g mk a) o s₂ := hq
  rw [State.frames_setTop' g h.top] at hend
  obtain ⟨g₀, hg0⟩ := Option.isSome_iff_exists.mp h.top
  obtain ⟨r, hr⟩ := State.topJava?_eq_some.mp hg0
  have hr' : (({ U with heap := s₂.heap, slotsUsed := s₂.slotsUsed } : State).setVm s₂.vm).frames = .java g₀ :: r := hr
  rcases hq' with ⟨hqc, L, hfe, hL⟩ | ⟨q, rfl, E, ce, L, hx, hce, hcv, hcl, hW₂, hsm, hL⟩
  · obtain ⟨⟨v, rfl⟩, hW₂, e2, q2, q3, q4, q5, q6⟩ := id hfe
    have e3 : s₂ = ({ (U.calling g mk a).setFrames s₂.frames with heap := s₂.heap, slotsUsed := s₂.slotsUsed } : State).setVm s₂.vm := by
      have : s₂ = ({ s₂ with vm := (U.calling g mk a).vm } : State).setVm s₂.vm := rfl
      rw [e2] at this
      exact this
    obtain ⟨c₂, i₂, len₂, hc₂, hd₂, hf₂⟩ := hend
    have hW' : U.WarmedH s₂.vm := hW₂
    have hcc : c₂ = c := by
      have h1 : s₂.code? g.method = U.code? g.method := by
        rw [State.code?_eq, State.code?_eq, hW'.alike.method?]
      exact Option.some.inj (hc₂.symm.trans (h1.trans h.code))
    subst hcc
    have hlen : len₂ = len := by rw [hdg] at hd₂; cases hd₂; rfl
    subst hlen
    have hs₂ : s₂ = (({ U with heap := s₂.heap, slotsUsed := s₂.slotsUsed } : State).setVm s₂.vm).setTop { g with pc := g.pc + len₂, stack := v.toList ++ g.stack } := by
      refine e3.trans ?_
      rw [hf₂, State.calling_eq h.top, State.setFrames_setFrames, State.setTop_of_frames _ hr', hr]
      rfl
    have hsame : U.sameButNew ({ U with heap := s₂.heap, slotsUsed := s₂.slotsUsed } : State) L mc ms := by
      refine ⟨?_, q2, q3, q4, q5, q6⟩
      obtain ⟨t, ht, -⟩ := State.frames_cons hr
      show ({ U with heap := s₂.heap, slotsUsed := s₂.slotsUsed } : State) = { U.setFrames U.frames with heap := s₂.heap, slotsUsed := s₂.slotsUsed }
      rw [State.setFrames_self ht]
    subst hg
    refine Or.inl ⟨v, ⟨(({ U with heap := s₂.heap, slotsUsed := s₂.slotsUsed } : State).setVm s₂.vm), Ls ++ L, c0 + mc, s0 + ms⟩,
      ⟨X.admits, X.cas, X.clock, X.frames, X.room, X.hears, X.method, X.code, (X.here.setHeapUsed s₂.heap s₂.slotsUsed).setVm hW'.alike, X.tail, State.WarmedH.trans X.warmed hW', X.limits, X.bytes, X.same.trans (hsame.setVm s.vm)⟩,
      ⟨g, mk, s₂, L, rfl, rfl, hqc, rfl, hL, rfl, rfl⟩, ?_⟩
    show Steps p.tables e below _ ((({ U with heap := s₂.heap, slotsUsed := s₂.slotsUsed } : State).setVm s₂.vm).setTop { g with pc := g.pc + len₂, stack := v.toList ++ g.stack })
    rw [← hs₂]
    exact hsteps
  · obtain ⟨e2, q2, q3, q4, q5, q6⟩ := id hsm
    have e3 : s₂ = ({ (U.calling g mk a).setFrames s₂.frames with heap := s₂.heap, slotsUsed := s₂.slotsUsed } : State).setVm s₂.vm := by
      have : s₂ = ({ s₂ with vm := (U.calling g mk a).vm } : State).setVm s₂.vm := rfl
      rw [e2] at this
      exact this
    have hf₂ : s₂.frames = .throwing q :: .java g :: U.frames.tail := hend
    have hW' : U.WarmedH s₂.vm := hW₂
    have hs₂ : s₂ = ((({ U with heap := s₂.heap, slotsUsed := s₂.slotsUsed } : State).setVm s₂.vm).setTop g).pushFrame (.throwing q) := by
      refine e3.trans ?_
      rw [hf₂, State.calling_eq h.top, State.setFrames_setFrames, State.pushFrame, State.frames_setTop _ hr', State.setTop_of_frames _ hr', State.setFrames_setFrames, hr]
      rfl
    have hsame : U.sameButNew ({ U with heap := s₂.heap, slotsUsed := s₂.slotsUsed } : State) L mc ms := by
      refine ⟨?_, q2, q3, q4, q5, q6⟩
      obtain ⟨t, ht, -⟩ := State.frames_cons hr
      show ({ U with heap := s₂.heap, slotsUsed := s₂.slotsUsed } : State) = { U.setFrames U.frames with heap := s₂.heap, slotsUsed := s₂.slotsUsed }
      rw [State.setFrames_self ht]
    subst hg
    refine Or.inr ⟨q, ⟨(({ U with heap := s₂.heap, slotsUsed := s₂.slotsUsed } : State).setVm s₂.vm), Ls ++ L, c0 + mc, s0 + ms⟩,
      ⟨X.admits, X.cas, X.clock, X.frames, X.room, X.hears, X.method, X.code, (X.here.setHeapUsed s₂.heap s₂.slotsUsed).setVm hW'.alike, X.tail, State.WarmedH.trans X.warmed hW', X.limits, X.bytes, X.same.trans (hsame.setVm s.vm)⟩,
      ⟨g, mk, s₂, L, E, ce, rfl, rfl, hx, hce, hcv, hcl, rfl, hL, rfl, rfl⟩, ?_⟩
    show Steps p.tables e below _ (((({ U with heap := s₂.heap, slotsUsed := s₂.slotsUsed } : State).setVm s₂.vm).setTop g).pushFrame (.throwing q))
    rw [← hs₂]
    exact hsteps
end
variable {p : Program} {l : Launch} {e : Env} {R : Room} {s : State} {m : MethodId} {args : Array Value} {below : List Frame} {meth : Method} {c : Code} {T : State} {H : Heap} {locs : List Loc} {cells slots : Nat}
theorem vx_callVX (X : Stand p l e R s m args below meth c T locs cells slots) (hexec : p.tables.exec = Jvm.exec) {own C : String} {index : Nat} {y : MethodName} {bytes : ByteArray} {maxL : Nat} {ret : Option FieldType} {hh : List (Nat × Nat × Nat × Nat)}
    (hown : s.vm.findClass own = some m.cls) (hlink : (Cond.methodLink own index y).before args s = true) (hinst : (Cond.instanceMethod y).before args s = true) (hsel : (Cond.selects C y y).before args s = true)
    (hcode : (Cond.codeWith y bytes maxL ret hh).before args s = true) (hy : y.cls ≠ "java/lang/invoke/MethodHandle" ∧ y.cls ≠ "java/lang/invoke/VarHandle")
    {W9 : Nat} {Pre : Pt → Array Value → Prop} {Post : Pt → Array Value → Option Value → Pt → Prop} {PostX : Pt → Array Value → Addr → Pt → Prop} (hK : vx_Back l R p e below s args y 3 W9 Pre Post PostX)
    {b : Addr} {cellB : Cell} (hcell : T.heap[b]? = some cellB) (hobj : cellB.vm.isStatics = false) (hcls : s.vm.findClass C = some cellB.cls)
    {g : JFrame} (hg : g.method = m) (hsize : g.locals.size = c.maxLocals) {argsL rest : List Value} (hlen : ∀ sig, parseMethodDescriptor y.desc = some sig → argsL.length = sig.parameters.length)
    (hstack : g.stack = argsL.reverse ++ .ref b :: rest) (hW : 2 * g.monitorRoom + (rest.map fun v => v.category).sum ≤ W9) (hdg : decode c.code g.pc = .ok (.invokevirtual index, 3))
    (hpre : ∀ vm₁, s.WarmedH vm₁ → Pre ⟨T.setVm vm₁, locs, cells, slots⟩ (Value.ref b :: argsL).toArray) :
    (∃ (v : Option Value) (vm₁ : Vm) (B : Pt), s.WarmedH vm₁ ∧ Stand p l e R s m args below meth c B.U B.locs B.cells B.slots ∧ Post ⟨T.setVm vm₁, locs, cells, slots⟩ (Value.ref b :: argsL).toArray v B ∧
      ∀ target, Steps p.tables e below (B.U.setTop { g with pc := g.pc + 3, stack := v.toList ++ rest }) target → Steps p.tables e below (T.setTop g) target) ∨
    (∃ (q : Addr) (vm₁ : Vm) (B : Pt), s.WarmedH vm₁ ∧ Stand p l e R s m args below meth c B.U B.locs B.cells B.slots ∧ PostX ⟨T.setVm vm₁, locs, cells, slots⟩ (Value.ref b :: argsL).toArray q B ∧
      Steps p.tables e below (T.setTop g) ((B.U.setTop { g with stack := rest }).pushFrame (.throwing q))) := by
  obtain ⟨mk, methM, hnamed, hmethM, hstM, habM⟩ := Cond.instanceMethod_spec hinst
  obtain ⟨m8, methM', cM, hn8, hmethM', -, -, -, -, -, -, hsigM⟩ := Cond.codeWith_spec hcode
  cases Option.some.inj (hn8.symm.trans hnamed)
  cases hmethM.symm.trans hmethM'
  obtain ⟨c2, r2, m2, q1, q2, q3, q4, kP, hkP, hkPi⟩ := Cond.selects_spec hsel
  cases hcls.symm.trans q1
  cases (State.methodFound?_of_named hnamed hy).symm.trans q2
  cases hnamed.symm.trans q3
  have hselP : selectMethod e.platform s.vm cellB.cls mk = .method mk := by rw [Launch.admits_selectMethod X.admits]; exact q4
  obtain ⟨vm₁, X₁, hstep₁⟩ := X.invokevirtual hexec hown hlink hnamed hmethM hstM hkP hkPi hy (a := b) (cell := cellB) hcell
    (fun z h => by rw [h] at hobj; cases hobj) hselP hmethM habM hkP hkPi (g := g) hg (argsL := argsL) (rest := rest) (hlen _ hsigM) hstack hdg
  rcases hK m meth c ⟨T.setVm vm₁, locs, cells, slots⟩ { g with stack := rest } (.invokevirtual index) mk (Value.ref b :: argsL).toArray X₁ hg hsize hdg hW (X₁.named hnamed) (hpre vm₁ X₁.warmed) with ⟨v, B, X', hpost, hsteps⟩ | ⟨q, B, X', hpost, hsteps⟩
  · exact Or.inl ⟨v, vm₁, B, X₁.warmed, X', hpost, fun target h => hstep₁ _ fun acts => by rw [doInvoke_state]; exact hsteps.trans h⟩
  · exact Or.inr ⟨q, vm₁, B, X₁.warmed, X', hpost, hstep₁ _ fun acts => by rw [doInvoke_state]; exact hsteps⟩
theorem vx_callSX (X : Stand p l e R s m args below meth c T locs cells slots) (hexec : p.tables.exec = Jvm.exec) {own : String} {index : Nat} {y : MethodName} {bytes : ByteArray} {maxL : Nat} {ret : Option FieldType} {hh : List (Nat × Nat × Nat × Nat)}
    (hown : s.vm.findClass own = some m.cls) (hlink : (Cond.methodLink own index y).before args s = true) (hstat : (Cond.static y).before args s = true) (hinit : (Cond.initialized y.cls).before args s = true)
    (hcode : (Cond.codeWith y bytes maxL ret hh).before args s = true) (hy : y.cls ≠ "java/lang/invoke/MethodHandle" ∧ y.cls ≠ "java/lang/invoke/VarHandle")
    {W9 : Nat} {Pre : Pt → Array Value → Prop} {Post : Pt → Array Value → Option Value → Pt → Prop} {PostX : Pt → Array Value → Addr → Pt → Prop} (hK : vx_Back l R p e below s args y 3 W9 Pre Post PostX)
    {g : JFrame} (hg : g.method = m) (hsize : g.locals.size = c.maxLocals) {argsL rest : List Value} (hlen : ∀ sig, parseMethodDescriptor y.desc = some sig → argsL.length = sig.parameters.length)
    (hstack : g.stack = argsL.reverse ++ rest) (hW : 2 * g.monitorRoom + (rest.map fun v => v.category).sum ≤ W9) (hdg : decode c.code g.pc = .ok (.invokestatic index, 3))
    (hpre : ∀ vm₁, s.WarmedH vm₁ → Pre ⟨T.setVm vm₁, locs, cells, slots⟩ argsL.toArray) :
    (∃ (v : Option Value) (vm₁ : Vm) (B : Pt), s.WarmedH vm₁ ∧ Stand p l e R s m args below meth c B.U B.locs B.cells B.slots ∧ Post ⟨T.setVm vm₁, locs, cells, slots⟩ argsL.toArray v B ∧
      ∀ target, Steps p.tables e below (B.U.setTop { g with pc := g.pc + 3, stack := v.toList ++ rest }) target → Steps p.tables e below (T.setTop g) target) ∨
    (∃ (q : Addr) (vm₁ : Vm) (B : Pt), s.WarmedH vm₁ ∧ Stand p l e R s m args below meth c B.U B.locs B.cells B.slots ∧ PostX ⟨T.setVm vm₁, locs, cells, slots⟩ argsL.toArray q B ∧
      Steps p.tables e below (T.setTop g) ((B.U.setTop { g with stack := rest }).pushFrame (.throwing q))) := by
  obtain ⟨mk, methM, cM, hnamed, hmethM, -, -, -, -, -, -, hsigM⟩ := Cond.codeWith_spec hcode
  have hstatic : methM.isStatic = true := Cond.static_spec hnamed hmethM hstat
  obtain ⟨kP, hkP, -⟩ := className_of_methodNamed hnamed
  have hinitP : kP.init = .initialized := Cond.initialized_spec (findClass_of_methodNamed hnamed) hkP hinit
  obtain ⟨vm₁, X₁, hstep₁⟩ := X.invokestatic hexec hown hlink hnamed hmethM hstatic hkP hinitP hy (g := g) hg (argsL := argsL) (rest := rest) (hlen _ hsigM) hstack hdg
  rcases hK m meth c ⟨T.setVm vm₁, locs, cells, slots⟩ { g with stack := rest } (.invokestatic index) mk argsL.toArray X₁ hg hsize hdg hW (X₁.named hnamed) (hpre vm₁ X₁.warmed) with ⟨v, B, X', hpost, hsteps⟩ | ⟨q, B, X', hpost, hsteps⟩
  · exact Or.inl ⟨v, vm₁, B, X₁.warmed, X', hpost, fun target h => hstep₁ _ fun acts => by rw [doInvoke_state]; exact hsteps.trans h⟩
  · exact Or.inr ⟨q, vm₁, B, X₁.warmed, X', hpost, hstep₁ _ fun acts => by rw [doInvoke_state]; exact hsteps⟩
theorem vx_callVW (X : Stand p l e R s m args below meth c T locs cells slots) (hexec : p.tables.exec = Jvm.exec) {own C : String} {index : Nat} {y : MethodName} {bytes : ByteArray} {maxL : Nat} {ret : Option FieldType} {hh : List (Nat × Nat × Nat × Nat)}
    (hown : s.vm.findClass own = some m.cls) (hlink : (Cond.methodLink own index y).before args s = true) (hinst : (Cond.instanceMethod y).before args s = true) (hsel : (Cond.selects C y y).before args s = true)
    (hcode : (Cond.codeWith y bytes maxL ret hh).before args s = true) (hy : y.cls ≠ "java/lang/invoke/MethodHandle" ∧ y.cls ≠ "java/lang/invoke/VarHandle")
    {W9 : Nat} {Pre : Pt → Array Value → Prop} {Post : Pt → Array Value → Option Value → Pt → Prop} (hK : Back l R p e below s args y 3 W9 Pre Post)
    {b : Addr} {cellB : Cell} (hcell : T.heap[b]? = some cellB) (hobj : cellB.vm.isStatics = false) (hcls : s.vm.findClass C = some cellB.cls)
    {g : JFrame} (hg : g.method = m) (hsize : g.locals.size = c.maxLocals) {argsL rest : List Value} (hlen : ∀ sig, parseMethodDescriptor y.desc = some sig → argsL.length = sig.parameters.length)
    (hstack : g.stack = argsL.reverse ++ .ref b :: rest) (hW : 2 * g.monitorRoom + (rest.map fun v => v.category).sum ≤ W9) (hdg : decode c.code g.pc = .ok (.invokevirtual index, 3))
    (hpre : ∀ vm₁, s.WarmedH vm₁ → Pre ⟨T.setVm vm₁, locs, cells, slots⟩ (Value.ref b :: argsL).toArray) :
    ∃ (v : Option Value) (vm₁ : Vm) (B : Pt), s.WarmedH vm₁ ∧ Stand p l e R s m args below meth c B.U B.locs B.cells B.slots ∧ Post ⟨T.setVm vm₁, locs, cells, slots⟩ (Value.ref b :: argsL).toArray v B ∧
      ∀ target, Steps p.tables e below (B.U.setTop { g with pc := g.pc + 3, stack := v.toList ++ rest }) target → Steps p.tables e below (T.setTop g) target := by
  obtain ⟨mk, methM, hnamed, hmethM, hstM, habM⟩ := Cond.instanceMethod_spec hinst
  obtain ⟨m8, methM', cM, hn8, hmethM', -, -, -, -, -, -, hsigM⟩ := Cond.codeWith_spec hcode
  cases Option.some.inj (hn8.symm.trans hnamed)
  cases hmethM.symm.trans hmethM'
  obtain ⟨c2, r2, m2, q1, q2, q3, q4, kP, hkP, hkPi⟩ := Cond.selects_spec hsel
  cases hcls.symm.trans q1
  cases (State.methodFound?_of_named hnamed hy).symm.trans q2
  cases hnamed.symm.trans q3
  have hselP : selectMethod e.platform s.vm cellB.cls mk = .method mk := by rw [Launch.admits_selectMethod X.admits]; exact q4
  obtain ⟨vm₁, X₁, hstep₁⟩ := X.invokevirtual hexec hown hlink hnamed hmethM hstM hkP hkPi hy (a := b) (cell := cellB) hcell
    (fun z h => by rw [h] at hobj; cases hobj) hselP hmethM habM hkP hkPi (g := g) hg (argsL := argsL) (rest := rest) (hlen _ hsigM) hstack hdg
  obtain ⟨v, B, X', hpost, hsteps⟩ := hK m meth c ⟨T.setVm vm₁, locs, cells, slots⟩ { g with stack := rest } (.invokevirtual index) mk (Value.ref b :: argsL).toArray X₁ hg hsize hdg hW (X₁.named hnamed) (hpre vm₁ X₁.warmed)
  exact ⟨v, vm₁, B, X₁.warmed, X', hpost, fun target h => hstep₁ _ fun acts => by rw [doInvoke_state]; exact hsteps.trans h⟩
abbrev vx_CVW (R : Room) (s : State) (args : Array Value) (own C : String) (index : Nat) (y : MethodName) (bytes : ByteArray) (maxL : Nat) (ret : Option FieldType) (hh : List (Nat × Nat × Nat × Nat)) (ws : List Cond) (rm : Room) (mc ms n : Nat) : Prop :=
  (rm.cells = mc ∧ rm.slots = ms ∧ rm.frames + 1 ≤ R.frames ∧ 8 + (maxL + 11) + rm.locals ≤ R.locals ∧ (∀ w ∈ ws, ∀ (a' : Array Value) (U : State), s.WarmedH U.vm → w.before a' U = true) ∧ Cond.codeWith y bytes maxL ret hh ∈ ws) ∧
  (Cond.codeWith y bytes maxL ret hh).before args s = true ∧ (Cond.initialized y.cls).before args s = true ∧ (y.cls ≠ "java/lang/invoke/MethodHandle" ∧ y.cls ≠ "java/lang/invoke/VarHandle") ∧
  (∀ sig, parseMethodDescriptor y.desc = some sig → n = sig.parameters.length) ∧ (Cond.methodLink own index y).before args s = true ∧ (Cond.instanceMethod y).before args s = true ∧ (Cond.selects C y y).before args s = true
theorem vx_cwVW {own C : String} {index maxL mc ms : Nat} {y : MethodName} {bytes : ByteArray} {ret : Option FieldType} {hh : List (Nat × Nat × Nat × Nat)} {Ts ws ws' : List Cond} {rm : Room} (n : Nat) (ht : ∀ w ∈ Ts, w.before args s = true) (hT : GoodIn Ts (wsV own index C y ws)) (hw : ws = Cond.codeWith y bytes maxL ret hh :: ws') (hrc : rm.cells = mc) (hrs : rm.slots = ms)
    (hd : y.cls = C ∧ y.cls ≠ "java/lang/invoke/MethodHandle" ∧ y.cls ≠ "java/lang/invoke/VarHandle" ∧ (parseMethodDescriptor y.desc).map (fun d => d.parameters.length) = some n) (hR : rm.frames + 1 ≤ R.frames ∧ 8 + (maxL + 11) + rm.locals ≤ R.locals) :
    vx_CVW R s args own C index y bytes maxL ret hh ws rm mc ms n := by
  obtain ⟨hC, hd⟩ := hd
  subst hC
  have ok : ∀ w ∈ wsV own index y.cls y ws, w.before args s = true := fun w h => ht w (hT w h).1
  have hG : GoodIn Ts ws := fun w h => hT w (by unfold wsV; exact List.mem_append_right _ h)
  have hc : Cond.codeWith y bytes maxL ret hh ∈ ws := by rw [hw]; exact List.mem_cons_self
  refine ⟨⟨hrc, hrs, hR.1, hR.2, pay_in ht hG, hc⟩, ht _ (hG _ hc).1, ok _ (by simp [wsV]), ⟨hd.1, hd.2.1⟩, fun sig h => ?_, ok _ (by simp [wsV]), ok _ (by simp [wsV]), ok _ (by simp [wsV])⟩
  have h2 := hd.2.2
  rw [h] at h2
  exact (Option.some.inj h2).symm
theorem vx_runVW {y : MethodName} {bytes cc : ByteArray} {maxL nL mc ms n index : Nat} {ret : Option FieldType} {hh : List (Nat × Nat × Nat × Nat)} {ws : List Cond} {rm : Room} {Pc : Array Value → State → Prop} {Qc : Array Value → State → Outcome → State → Prop} {free : Addr → Prop} {Ts : List Cond} {own C : String} {b : Addr} {As rest : List Value} {g : JFrame}
    (S : CallFix p m c cc nL s args Ts own) (hM : Met l y ws rm Pc Qc mc ms free) (cw : vx_CVW R s args own C index y bytes maxL ret hh ws rm mc ms n) (hp : PreV s H C b Pc As)
    (hg : g.method = m) (hn : As.length = n) (hsize : g.locals.size = nL) (hstack : g.stack = As.reverse ++ .ref b :: rest) (hW : 2 * g.monitorRoom + (rest.map fun v => v.category).sum ≤ 8) (hdg : decode cc g.pc = .ok (.invokevirtual index, 3)) (hf : cells + mc ≤ R.cells ∧ slots + ms ≤ R.slots) :
    va_Run p l e R s m args below meth c H locs cells slots mc ms g rest (Qc (Value.ref b :: As).toArray) free := by
  obtain ⟨⟨hrc, hrs, hfr, hlo, hws, hcw⟩, hcode, hini, hy, hlen, hl, hin, hse⟩ := cw
  have hK : Back l R p e below s args y 3 8 (PreOf R mc ms Pc) (PostOf Qc mc ms free) := va_backW (hh := hh) (bytes := bytes) (maxL := maxL) (ret := ret) hM hp.1 hrc hrs hfr hlo hws hcw (fun a' U hW => word_at hW (Or.inl (by first | rfl | simp [Cond.onTables, Cond.keeps, Cond.steady])) hini)
  obtain ⟨hx, hb, hml, ho, -⟩ := S
  obtain ⟨-, ⟨cellB, hcB, hoB, hclB⟩, hPc⟩ := hp
  intro T hT X
  obtain ⟨v, vm₁, ⟨U', l2, c2, s2⟩, hW₁, X', ⟨g', mk, t, L, e1, e2, hq, h1, hL, h2, h3⟩, st⟩ := vx_callVW X hx (C := C) (hh := hh) (bytes := bytes) (maxL := maxL) (ret := ret) ho hl hin hse hcode hy hK (by rw [hT]; exact hcB) hoB hclB hg (hsize.trans hml.symm) (argsL := As) (rest := rest) (fun sig h => hn.trans (hlen sig h)) hstack hW (by rw [hb]; exact hdg)
    (fun vm₁ hW₁ => ⟨hf.1, hf.2, hPc (T.setVm vm₁) hT hW₁⟩)
  dsimp only [Pt.U, Pt.locs, Pt.cells, Pt.slots] at X' e1 e2 h1 h2 h3 st
  subst h1; subst h2; subst h3
  exact ⟨v, (T.setVm vm₁).calling g' mk (Value.ref b :: As).toArray, t, U', L, hT, X', hL, e1, e2, hq, st⟩
section
variable {y : MethodName} {bytes cc : ByteArray} {maxL nL mc ms n index : Nat} {ret : Option FieldType} {ws : List Cond} {rm : Room} {Pc : Array Value → State → Prop} {Qc : Array Value → State → Outcome → State → Prop} {XC : String → State → State → Prop} {free : Addr → Prop} {Ts : List Cond} {own C : String} {b : Addr} {As rest : List Value} {g : JFrame}
theorem vx_runVX {hh : List (Nat × Nat × Nat × Nat)} (S : CallFix p m c cc nL s args Ts own) (hM : vx_Met l y ws rm Pc Qc XC mc ms free) (cw : vx_CVW R s args own C index y bytes maxL ret hh ws rm mc ms n) (hp : PreV s H C b Pc As)
    (hg : g.method = m) (hn : As.length = n) (hsize : g.locals.size = nL) (hstack : g.stack = As.reverse ++ .ref b :: rest) (hW : 2 * g.monitorRoom + (rest.map fun v => v.category).sum ≤ 8) (hdg : decode cc g.pc = .ok (.invokevirtual index, 3)) (hf : cells + mc ≤ R.cells ∧ slots + ms ≤ R.slots) :
    vx_Run p l e R s m args below meth c H locs cells slots mc ms g rest (Qc (Value.ref b :: As).toArray) XC free := by
  obtain ⟨⟨hrc, hrs, hfr, hlo, hws, hcw⟩, hcode, hini, hy, hlen, hl, hin, hse⟩ := cw
  have hK : vx_Back l R p e below s args y 3 8 (PreOf R mc ms Pc) (PostOf Qc mc ms free) (vx_Post XC mc ms free) := vx_backW (hh := hh) (bytes := bytes) (maxL := maxL) (ret := ret) hM hp.1 hrc hrs hfr hlo hws hcw (fun a' U hW => word_at hW (Or.inl (by first | rfl | simp [Cond.onTables, Cond.keeps, Cond.steady])) hini)
  obtain ⟨hx, hb, hml, ho, -⟩ := S
  obtain ⟨-, ⟨cellB, hcB, hoB, hclB⟩, hPc⟩ := hp
  intro T hT X
  rcases vx_callVX X hx (C := C) (hh := hh) (bytes := bytes) (maxL := maxL) (ret := ret) ho hl hin hse hcode hy hK (by rw [hT]; exact hcB) hoB hclB hg (hsize.trans hml.symm) (argsL := As) (rest := rest) (fun sig h => hn.trans (hlen sig h)) hstack hW (by rw [hb]; exact hdg)
    (fun vm₁ hW₁ => ⟨hf.1, hf.2, hPc (T.setVm vm₁) hT hW₁⟩) with ⟨v, vm₁, ⟨U', l2, c2, s2⟩, hW₁, X', ⟨g', mk, t, L, e1, e2, hq, h1, hL, h2, h3⟩, st⟩ | ⟨q, vm₁, ⟨U', l2, c2, s2⟩, hW₁, X', ⟨g', mk, t, L, E, ce, e1, e2, hq, hce, hcv, hcl, h1, hL, h2, h3⟩, st⟩
  · dsimp only [Pt.U, Pt.locs, Pt.cells, Pt.slots] at X' e1 e2 h1 h2 h3 st
    subst h1; subst h2; subst h3
    exact Or.inl ⟨v, (T.setVm vm₁).calling g' mk (Value.ref b :: As).toArray, t, U', L, hT, X', hL, e1, e2, hq, st⟩
  · dsimp only [Pt.U, Pt.locs, Pt.cells, Pt.slots] at X' e1 e2 h1 h2 h3 st hcl
    subst h1; subst h2; subst h3
    exact Or.inr ⟨q, (T.setVm vm₁).calling g' mk (Value.ref b :: As).toArray, t, U', L, E, ce, hT, X', hL, e1, e2, hq, hce, hcv, vx_cls hW₁ hcl, st⟩
theorem vx_runSX {hh : List (Nat × Nat × Nat × Nat)} (S : CallFix p m c cc nL s args Ts own) (hM : vx_Met l y ws rm Pc Qc XC mc ms free) (cw : vx_CSW R s args own index y bytes maxL ret hh ws rm mc ms n) (hp : PreS s H Pc As)
    (hg : g.method = m) (hn : As.length = n) (hsize : g.locals.size = nL) (hstack : g.stack = As.reverse ++ rest) (hW : 2 * g.monitorRoom + (rest.map fun v => v.category).sum ≤ 8) (hdg : decode cc g.pc = .ok (.invokestatic index, 3)) (hf : cells + mc ≤ R.cells ∧ slots + ms ≤ R.slots) :
    vx_Run p l e R s m args below meth c H locs cells slots mc ms g rest (Qc As.toArray) XC free := by
  obtain ⟨⟨hrc, hrs, hfr, hlo, hws, hcw⟩, hcode, hini, hy, hlen, hl, hstt⟩ := cw
  have hK : vx_Back l R p e below s args y 3 8 (PreOf R mc ms Pc) (PostOf Qc mc ms free) (vx_Post XC mc ms free) := vx_backW (hh := hh) (bytes := bytes) (maxL := maxL) (ret := ret) hM hp.1 hrc hrs hfr hlo hws hcw (fun a' U hW => word_at hW (Or.inl (by first | rfl | simp [Cond.onTables, Cond.keeps, Cond.steady])) hini)
  obtain ⟨hx, hb, hml, ho, -⟩ := S
  intro T hT X
  rcases vx_callSX X hx (hh := hh) (bytes := bytes) (maxL := maxL) (ret := ret) ho hl hstt hini hcode hy hK hg (hsize.trans hml.symm) (argsL := As) (rest := rest) (fun sig h => hn.trans (hlen sig h)) hstack hW (by rw [hb]; exact hdg)
    (fun vm₁ hW₁ => ⟨hf.1, hf.2, hp.2 (T.setVm vm₁) hT hW₁⟩) with ⟨v, vm₁, ⟨U', l2, c2, s2⟩, hW₁, X', ⟨g', mk, t, L, e1, e2, hq, h1, hL, h2, h3⟩, st⟩ | ⟨q, vm₁, ⟨U', l2, c2, s2⟩, hW₁, X', ⟨g', mk, t, L, E, ce, e1, e2, hq, hce, hcv, hcl, h1, hL, h2, h3⟩, st⟩
  · dsimp only [Pt.U, Pt.locs, Pt.cells, Pt.slots] at X' e1 e2 h1 h2 h3 st
    subst h1; subst h2; subst h3
    exact Or.inl ⟨v, (T.setVm vm₁).calling g' mk As.toArray, t, U', L, hT, X', hL, e1, e2, hq, st⟩
  · dsimp only [Pt.U, Pt.locs, Pt.cells, Pt.slots] at X' e1 e2 h1 h2 h3 st hcl
    subst h1; subst h2; subst h3
    exact Or.inr ⟨q, (T.setVm vm₁).calling g' mk As.toArray, t, U', L, E, ce, hT, X', hL, e1, e2, hq, hce, hcv, vx_cls hW₁ hcl, st⟩
end
end VXH
theorem vx_ofWH {l : Launch} {y : MethodName} {ws ws' : List Cond} {rm : Room} {Pc : Array Value → State → Prop} {Qc : Array Value → State → Outcome → State → Prop} {XC : String → State → State → Prop} {mc ms : Nat} {free : Addr → Prop} {cc : ByteArray} {maxL : Nat} {ret : Option FieldType} {hh : List (Nat × Nat × Nat × Nat)}
    (hy : plainName y.cls = true) (hw : ws = Cond.codeWith y cc maxL ret hh :: ws')
    (body : ∀ p e s m args below meth c s₁, BodyLoose p l y (headSpec ws rm) cc maxL ret e s m args below meth c s₁ → c.maxLocals = maxL → Pc args s →
      W p l e (headSpec ws rm).room s m args below meth c s.heap [] 0 0 (vx_MQ below Qc XC args s mc ms free) (entryFrame m args maxL)) : vx_Met l y ws rm Pc Qc XC mc ms free := by
  refine MetFree.of_bodyS (code := cc) (maxLocals := maxL) (ret := ret) hy ?_ ?_
  · intro args s m h hn
    obtain ⟨m9, meth, c, hn9, h1, h2, h3, h4, -, h5, h6, -⟩ := Cond.codeWith_spec (atoms_spec (ws := ws) h _ (by rw [hw]; exact List.mem_cons_self))
    cases hn.symm.trans hn9
    exact ⟨meth, c, h1, h2, h3, h4, h5, h6⟩
  · intro p e s m args below meth c s₁ B hml hP _
    have hh0 : s₁.heap = s.heap := by rw [B.state]; rfl
    obtain ⟨t, a1, o, b1, b2, b3⟩ := body p e s m args below meth c s₁ B hml hP s₁ hh0 (Stand.of_body B)
    exact ⟨t, o, a1, b1, b2, b3⟩
/-! ===== END ===== -/

/-! ===== BEGIN printed: names, fields, word lists, decode rows ===== -/
end
section
/-! THROWING: a contract with two posts -/
def hp_X (D : va_G) (M : hp_M) (sz : Nat) (pX : String → hp_M → Prop) : String → State → State → Prop := vx_X (fun _ : hp_M => True) (fun E M1 t => pX E M1 ∧ hp_B D ccl M sz M1 t) (hp_A M sz)
abbrev Xi (l : Launch) (y : MethodName) (b : ByteArray) (n : Nat) (ret : Option FieldType) (fr lo ce sl : Nat) (avs : List Value) (D : va_G) (ct : Nat → ClassId) (Z : hp_Z) (M : hp_M) (sz : Nat) (post : Int32 → hp_M → Prop) (pX : String → hp_M → Prop) : Prop :=
  vx_Met l y (Cond.code y b n ret :: tb) { frames := fr, cells := ce, slots := sl, locals := lo } (hp_Pc avs D ccl (tys ct) Z M sz) (va_Qi post (hp_B D ccl M sz) (hp_A M sz)) (hp_X D M sz pX) ce sl (hp_A M sz)
abbrev Xv (l : Launch) (y : MethodName) (b : ByteArray) (n : Nat) (ret : Option FieldType) (fr lo ce sl : Nat) (avs : List Value) (D : va_G) (ct : Nat → ClassId) (Z : hp_Z) (M : hp_M) (sz : Nat) (post : hp_M → Prop) (pX : String → hp_M → Prop) : Prop :=
  vx_Met l y (Cond.code y b n ret :: tb) { frames := fr, cells := ce, slots := sl, locals := lo } (hp_Pc avs D ccl (tys ct) Z M sz) (va_Qv post (hp_B D ccl M sz) (hp_A M sz)) (hp_X D M sz pX) ce sl (hp_A M sz)
theorem hp_startX {l : Launch} {y : MethodName} {rm : Room} {Qc : Array Value → State → Outcome → State → Prop} {XC : String → State → State → Prop} {mc ms sz : Nat} {free : Addr → Prop} {cc : ByteArray} {maxL : Nat} {ret : Option FieldType} {avs : List Value} {D : va_G} {ct : Nat → ClassId} {Z : hp_Z} {M : hp_M}
    (hy : plainName y.cls = true) (hlen : (lg_sl avs).length ≤ maxL)
    (body : ∀ (p : Program) (e : Env) (s : State) (m : MethodId) (below : List Frame) (meth : Method) (c : Code) (ls : Array Slot), CallFix p m c cc maxL s avs.toArray tb y.cls → meth.sig.returnType = ret → meth.locks = false → meth.name = y.name → s.heap.size = sz → va_K D ccl (tys ct) s → hp_H D ccl (hp_A M sz) M s.heap → va_S (hp_A M sz) s.heap s.heap [] → (∀ q, s.heap.size ≤ q → hp_A M sz q) → Z (hp_A M sz) s s.heap → lv_has ls maxL (lv_args 0 avs) → (∀ x ∈ c.exceptionTable.toList, False) →
      W p l e rm s m avs.toArray below meth c s.heap [] 0 0 (vx_MQ below Qc XC avs.toArray s mc ms free) (F0 m 0 ls [])) : vx_Met l y (Cond.code y cc maxL ret :: tb) rm (hp_Pc avs D ccl (tys ct) Z M sz) Qc XC mc ms free := by
  refine vx_ofW (cc := cc) (maxL := maxL) (ret := ret) hy rfl ?_
  intro p e s m args below meth c s₁ B hml hnx hv
  obtain ⟨rfl, hsz, hM, hK, hZ⟩ := hv
  have hts := atoms_spec (ws := Cond.code y cc maxL ret :: tb) B.pre
  have hown : s.vm.findClass y.cls = some m.cls := findClass_of_methodNamed B.named
  have hl := lv_entry avs (n := maxL) hlen
  rw [lg_entry_eq]
  exact body p e s m below meth c _ ⟨B.exec, B.bytes, hml, hown, fun w h => hts w (List.mem_cons_of_mem _ h)⟩ B.returns B.notSynchronized (name_of_methodNamed B.named B.method).1 hsz hK hM va_S.rf (fun q h => Or.inr (by rw [← hsz]; exact h)) hZ hl hnx
def xstr : List (Nat × String) := [(59, "there are 12 actions"), (75, "there is no such action"), (84, "there is no such kind, or the text is none of it"), (97, "the path or name is there for this kind"), (103, "there are 24 rows"), (119, "there is no such number"), (132, "the text is no name"), (138, "the name is allowed"), (140, "there are 8 allowed names"), (142, "the text has more than 16 characters")]
def xng : List Cond := [.declares ⟨"java/lang/Throwable", "<init>", "(Ljava/lang/String;)V"⟩, .declares ⟨"java/lang/RuntimeException", "<init>", "(Ljava/lang/String;)V"⟩, .declares ⟨"java/lang/Exception", "<init>", "(Ljava/lang/String;)V"⟩, .declares ⟨"java/lang/Throwable", "fillInStackTrace", "()Ljava/lang/Throwable;"⟩, .declares ⟨"java/lang/Throwable", "fillInStackTrace", "(I)Ljava/lang/Throwable;"⟩, .castable "java/lang/IllegalStateException" "java/lang/IllegalStateException", .castable "java/lang/IllegalArgumentException" "java/lang/IllegalArgumentException"]
/-- what a throw asks of the tables and statics -/
def zX (Z : hp_Z) : Prop := ∀ (A : Nat → Prop) (U : State) (H : Heap), Z A U H → (∀ q ∈ xstr, ∃ sa, vk_R "ActionDigests" q.1 q.2 sa U) ∧ (∀ w ∈ xng, va_Nw w U) ∧ vx_Zq Bundle.tN "UNASSIGNED_STACK" Bundle.steD A U H ∧ vx_Zq Bundle.tN "SUPPRESSED_SENTINEL" Bundle.listD A U H
theorem xng_t : ∀ w ∈ xng, w.onTables = true := by decide +kernel
theorem xg_IS : ∀ w ∈ (vx_atS "ActionDigests" 61 "java/lang/IllegalStateException" ["java/lang/RuntimeException", "java/lang/Exception"]).filter goodWord, w ∈ lw_tbl := by decide +kernel
theorem xn_IS : ∀ w ∈ (vx_atS "ActionDigests" 61 "java/lang/IllegalStateException" ["java/lang/RuntimeException", "java/lang/Exception"]).filter (fun w => !goodWord w), w ∈ xng := by decide +kernel
theorem xo_IS : ∀ w ∈ Cond.classLink "ActionDigests" 57 "java/lang/IllegalStateException" :: Cond.initialized "java/lang/IllegalStateException" :: vx_atS "ActionDigests" 61 "java/lang/IllegalStateException" ["java/lang/RuntimeException", "java/lang/Exception"], vx_ot w = true := by decide +kernel
theorem xg_IA : ∀ w ∈ (vx_atS "ActionDigests" 77 "java/lang/IllegalArgumentException" ["java/lang/RuntimeException", "java/lang/Exception"]).filter goodWord, w ∈ lw_tbl := by decide +kernel
theorem xn_IA : ∀ w ∈ (vx_atS "ActionDigests" 77 "java/lang/IllegalArgumentException" ["java/lang/RuntimeException", "java/lang/Exception"]).filter (fun w => !goodWord w), w ∈ xng := by decide +kernel
theorem xo_IA : ∀ w ∈ Cond.classLink "ActionDigests" 73 "java/lang/IllegalArgumentException" :: Cond.initialized "java/lang/IllegalArgumentException" :: vx_atS "ActionDigests" 77 "java/lang/IllegalArgumentException" ["java/lang/RuntimeException", "java/lang/Exception"], vx_ot w = true := by decide +kernel
section THROW
variable {p : Program} {l : Launch} {e : Env} {R : Room} {s : State} {m : MethodId} {args : Array Value} {below : List Frame} {meth : Method} {c : Code} {H : Heap} {locs : List Loc} {cells slots mc ms : Nat}
variable {cc : ByteArray} {pc nL : Nat} {ls : Array Slot} {rest : List Value} {D : va_G} {M M0 : hp_M} {sz : Nat} {Z : hp_Z} {pX : String → hp_M → Prop} {Qc : Array Value → State → Outcome → State → Prop}
theorem hp_hx {E : String} (hM : hp_H D ccl (hp_A M0 sz) M H) (hS : va_S (hp_A M0 sz) s.heap H locs) (hp : pX E M) (t : State) (h1 : H.size ≤ t.heap.size) (h2 : ∀ q : Nat, q < H.size → t.heap[q]? = H[q]?) : hp_X D M0 sz pX E s t :=
  ⟨M, trivial, ⟨hp, hM.kept (fun a ha => h2 a (hM.lt ha))⟩, Nat.le_trans hS.1 h1, fun q hq hn => (h2 q (Nat.lt_of_lt_of_le hq hS.1)).trans (hS.2.1 q hq hn)⟩
theorem hp_throwIS {is : Nat} {text : String} (S : CallFix p m c cc nL s args tb "ActionDigests") (hl : l.stackTraces = false) (hzx : zX Z) (hz : Z (hp_A M0 sz) s s.heap) (hM : hp_H D ccl (hp_A M0 sz) M H) (hS : va_S (hp_A M0 sz) s.heap H locs) (hsz : ls.size = nL) (hlk : meth.locks = false) (hnx : ∀ x ∈ c.exceptionTable.toList, False) (hstr : (is, text) ∈ xstr)
    (d0 : decode cc pc = .ok (.new 57, 3)) (d3 : decode cc (pc + 3) = .ok (.dup, 1)) (d4 : decode cc (pc + 4) = .ok (.ldc is, 2)) (d6 : decode cc (pc + 6) = .ok (.invokespecial 61, 3)) (d9 : decode cc (pc + 9) = .ok (.athrow, 1))
    (hR : 6 ≤ R.frames ∧ (rest.map fun v => v.category).sum + 82 ≤ R.locals) (hf : cells + 1 ≤ R.cells ∧ slots + 6 ≤ R.slots) (hc : cells + 1 ≤ mc) (hs : slots + 6 ≤ ms) (hp : pX "java/lang/IllegalStateException" M) :
    W p l e R s m args below meth c H locs cells slots (vx_MQ below Qc (hp_X D M0 sz pX) args s mc ms (hp_A M0 sz)) (F0 m pc ls rest) := by
  obtain ⟨hst, hng, hU, hN⟩ := hzx _ _ _ hz
  obtain ⟨sa, hsa⟩ := hst _ hstr
  exact vx_throwS S.1 S.2.1 hl (own := "ActionDigests") (cls := "java/lang/IllegalStateException") (text := text) (names := ["java/lang/RuntimeException", "java/lang/Exception"]) (ik := 57) (is := is) (ic := 61) (sa := sa) (A := hp_A M0 sz) S.2.2.2.1 (by decide +kernel) (by decide +kernel)
    (S.2.2.2.2 _ mk_AD_57) (S.2.2.2.2 _ mz_IS) hsa (vx_hat (fun w hw => S.2.2.2.2 w (List.mem_filter.mpr ⟨xg_IS w hw, (List.mem_filter.mp hw).2⟩)) xn_IS (fun w hw => va_Nw.use (xng_t w hw) (hng w hw))) xo_IS hU hN hS (hsz.trans S.2.2.1.symm) d0 d3 d4 d6 d9 (fun x hx => absurd (hnx x hx) id) (Nat.lt_of_lt_of_le (by decide) hR.1) hR.2 hf.1 hf.2 hlk (fun t _ h1 h2 => hp_hx hM hS hp t h1 h2) hS.2.2 hc hs
theorem hp_throwIA {is : Nat} {text : String} (S : CallFix p m c cc nL s args tb "ActionDigests") (hl : l.stackTraces = false) (hzx : zX Z) (hz : Z (hp_A M0 sz) s s.heap) (hM : hp_H D ccl (hp_A M0 sz) M H) (hS : va_S (hp_A M0 sz) s.heap H locs) (hsz : ls.size = nL) (hlk : meth.locks = false) (hnx : ∀ x ∈ c.exceptionTable.toList, False) (hstr : (is, text) ∈ xstr)
    (d0 : decode cc pc = .ok (.new 73, 3)) (d3 : decode cc (pc + 3) = .ok (.dup, 1)) (d4 : decode cc (pc + 4) = .ok (.ldc is, 2)) (d6 : decode cc (pc + 6) = .ok (.invokespecial 77, 3)) (d9 : decode cc (pc + 9) = .ok (.athrow, 1))
    (hR : 6 ≤ R.frames ∧ (rest.map fun v => v.category).sum + 82 ≤ R.locals) (hf : cells + 1 ≤ R.cells ∧ slots + 6 ≤ R.slots) (hc : cells + 1 ≤ mc) (hs : slots + 6 ≤ ms) (hp : pX "java/lang/IllegalArgumentException" M) :
    W p l e R s m args below meth c H locs cells slots (vx_MQ below Qc (hp_X D M0 sz pX) args s mc ms (hp_A M0 sz)) (F0 m pc ls rest) := by
  obtain ⟨hst, hng, hU, hN⟩ := hzx _ _ _ hz
  obtain ⟨sa, hsa⟩ := hst _ hstr
  exact vx_throwS S.1 S.2.1 hl (own := "ActionDigests") (cls := "java/lang/IllegalArgumentException") (text := text) (names := ["java/lang/RuntimeException", "java/lang/Exception"]) (ik := 73) (is := is) (ic := 77) (sa := sa) (A := hp_A M0 sz) S.2.2.2.1 (by decide +kernel) (by decide +kernel)
    (S.2.2.2.2 _ mk_AD_73) (S.2.2.2.2 _ mz_IA) hsa (vx_hat (fun w hw => S.2.2.2.2 w (List.mem_filter.mpr ⟨xg_IA w hw, (List.mem_filter.mp hw).2⟩)) xn_IA (fun w hw => va_Nw.use (xng_t w hw) (hng w hw))) xo_IA hU hN hS (hsz.trans S.2.2.1.symm) d0 d3 d4 d6 d9 (fun x hx => absurd (hnx x hx) id) (Nat.lt_of_lt_of_le (by decide) hR.1) hR.2 hf.1 hf.2 hlk (fun t _ h1 h2 => hp_hx hM hS hp t h1 h2) hS.2.2 hc hs
end THROW
end
section
/-! WRITES TO THE WORLD -/
/-- the world without its head and the actions -/
def adQ (ct : Nat → ClassId) (M : hp_M) (xt ch sh su wo al sc hg : Nat) (T : List Nat) (Y : ShT) (Al : List (List Nat)) (sa hd : List Nat) : Prop :=
  txP ct M xt ch T ∧ shOk ct M sh su wo Y ∧ alsP ct (fzc ch hg) M al Al ∧ (M sc = some (.inl (ct 0, sa.length, .inl (tx sa))) ∧ sa.length ≤ 16 ∧ (∀ i, sa.getD i 0 < 65536) ∧ fzc ch hg sc) ∧ (M hg = some (.inl (ct 0, 64, .inl (tx hd))) ∧ hd.length = 64 ∧ ∀ i, hd.getD i 0 < 65536) ∧ ch ≠ hg
theorem adW_iff {ct : Nat → ClassId} {M : hp_M} {x xt ch sh su wo ac al sc hg : Nat} {T : List Nat} {Y : ShT} {As : List (List RowT)} {Al : List (List Nat)} {sa hd : List Nat} : adW ct M x xt ch sh su wo ac al sc hg T Y As Al sa hd ↔ M x = some (xO xt sh ac As.length al Al.length sc hg) ∧ acsP ct (fzc ch hg) M ac As ∧ adQ ct M xt ch sh su wo al sc hg T Y Al sa hd :=
  ⟨fun ⟨a, b, c, d, e⟩ => ⟨a, d, b, c, e⟩, fun ⟨a, d, b, c, e⟩ => ⟨a, b, c, d, e⟩⟩
theorem adQ.ne_q {ct : Nat → ClassId} {M : hp_M} {xt ch sh su wo al sc hg : Nat} {T : List Nat} {Y : ShT} {Al : List (List Nat)} {sa hd : List Nat} (h : adQ ct M xt ch sh su wo al sc hg T Y Al sa hd) {a n : Nat} {cA : ClassId} {f : (Nat → Int64) ⊕ (Nat → UInt32) ⊕ (Nat → UInt64) ⊕ (Nat → Option Nat)} {E : va_E} (ha : M a = some (.inl (cA, n, .inr f))) (hn : n ≠ 8) : adQ ct (hp_up M a E) xt ch sh su wo al sc hg T Y Al sa hd := by
  obtain ⟨⟨g0, b1, b2, b3, b4, b5⟩, c, ⟨fl, e1, e2, e3⟩, ⟨f1, f2, f3, f4⟩, ⟨k1, k2, k3⟩, n0⟩ := h
  have st : stab ct (fzc ch hg) M (hp_up M a E) := stab_q ha
  refine ⟨⟨g0, hp_k (hp_ne b1 ha (by simp)) b1, hp_k (hp_ne b2 ha (by simp)) b2, b3, b4, b5⟩, c.k (hp_ne c.1 ha (by simp)) (hp_ne c.2.1 ha (by simp)) (hp_ne c.2.2.1 ha (by simp)), ⟨fl, hp_k (hp_ne e1 ha ?_) e1, e2, fun i hi => ?_⟩, ⟨hp_k (hp_ne f1 ha (by simp)) f1, f2, f3, f4⟩, ⟨hp_k (hp_ne k1 ha (by simp)) k1, k2, k3⟩, n0⟩
  · intro q
    exact hn (congrArg (fun z : ClassId × Nat × _ => z.2.1) (Sum.inl.inj q)).symm
  · obtain ⟨k, u1, u2⟩ := e3 i hi
    exact ⟨k, u1, u2.st st⟩
theorem adQ.ne_o {ct : Nat → ClassId} {M : hp_M} {xt ch sh su wo al sc hg : Nat} {T : List Nat} {Y : ShT} {Al : List (List Nat)} {sa hd : List Nat} (h : adQ ct M xt ch sh su wo al sc hg T Y Al sa hd) {a k : Nat} {fs : List Value} {E : va_E} (ha : M a = some (.inr (k, fs))) (hk : k = 0 ∨ k = 3) : adQ ct (hp_up M a E) xt ch sh su wo al sc hg T Y Al sa hd := by
  obtain ⟨⟨g0, b1, b2, b3, b4, b5⟩, c, ⟨fl, e1, e2, e3⟩, ⟨f1, f2, f3, f4⟩, ⟨k1, k2, k3⟩, n0⟩ := h
  have st : stab ct (fzc ch hg) M (hp_up M a E) := stab_o ha (by omega)
  have ko : ∀ (q j : Nat) (gs : List Value), M q = some (.inr (j, gs)) → j ≠ 0 → j ≠ 3 → q ≠ a := fun q j gs hq h0 h3 => hp_ne hq ha (fun z => by
    have h9 := congrArg Prod.fst (Sum.inr.inj z)
    have h9 : j = k := h9
    omega)
  refine ⟨⟨g0, hp_k (ko _ _ _ b1 (by decide) (by decide)) b1, hp_k (hp_ne b2 ha (by simp)) b2, b3, b4, b5⟩, c.k (hp_ne c.1 ha (by simp)) (hp_ne c.2.1 ha (by simp)) (ko _ _ _ c.2.2.1 (by decide) (by decide)), ⟨fl, hp_k (hp_ne e1 ha (by simp)) e1, e2, fun i hi => ?_⟩, ⟨hp_k (hp_ne f1 ha (by simp)) f1, f2, f3, f4⟩, ⟨hp_k (hp_ne k1 ha (by simp)) k1, k2, k3⟩, n0⟩
  obtain ⟨k9, u1, u2⟩ := e3 i hi
  exact ⟨k9, u1, u2.st st⟩
abbrev acsW (ct : Nat → ClassId) (fz : Nat → Prop) (M : hp_M) (ac : Nat) (As : List (List RowT)) (fa : Nat → Option Nat) (ao oo : Nat → Nat) (rf : Nat → Nat → Option Nat) : Prop := M ac = some (.inl (ct 4, 12, .inr (.inr (.inr (.inr fa))))) ∧ As.length ≤ 12 ∧ (∀ i, i < As.length → fa i = some (ao i) ∧ M (ao i) = some (.inr (3, [.ref (oo i), .int (nI (As.getD i []).length)])) ∧ M (oo i) = some (.inl (ct 2, 24, .inr (.inr (.inr (.inr (rf i)))))) ∧ (As.getD i []).length ≤ 24 ∧ rsOk ct fz M (rf i) (As.getD i [])) ∧ ∀ i j, i < As.length → j < As.length → (ao i = ao j ∨ oo i = oo j) → i = j
theorem getD_set {α : Type} {l : List α} {i j : Nat} {a d : α} (hj : j < l.length) : (l.set j a).getD i d = if i = j then a else l.getD i d := by
  rw [List.getD_eq_getElem?_getD, List.getD_eq_getElem?_getD]
  by_cases h : i = j
  · rw [h, if_pos rfl, List.getElem?_set_self hj]; rfl
  · rw [if_neg h, List.getElem?_set_ne (Ne.symm h)]
theorem getD_app {α : Type} {l : List α} {i : Nat} {a d : α} (hi : i ≤ l.length) : (l ++ [a]).getD i d = if i = l.length then a else l.getD i d := by
  rw [List.getD_eq_getElem?_getD, List.getD_eq_getElem?_getD]
  by_cases h : i = l.length
  · rw [h, if_pos rfl, List.getElem?_append_right (Nat.le_refl _), Nat.sub_self]; rfl
  · rw [if_neg h, List.getElem?_append_left (by omega)]
/-- another row array of one action -/
theorem adW.rows {ct : Nat → ClassId} {M : hp_M} {x xt ch sh su wo ac al sc hg : Nat} {T : List Nat} {Y : ShT} {As : List (List RowT)} {Al : List (List Nat)} {sa hd : List Nat} (h : adW ct M x xt ch sh su wo ac al sc hg T Y As Al sa hd) {fa : Nat → Option Nat} {ao oo : Nat → Nat} {rf : Nat → Nat → Option Nat} (hW : acsW ct (fzc ch hg) M ac As fa ao oo rf) {j : Nat} (hj : j < As.length) {f1 : Nat → Option Nat} {rs : List RowT} (hrs : rsOk ct (fzc ch hg) M f1 rs) (hl : rs.length ≤ 24) :
    adW ct (hp_up (hp_up M (oo j) (.inl (ct 2, 24, .inr (.inr (.inr (.inr f1)))))) (ao j) (.inr (3, [.ref (oo j), .int (nI rs.length)]))) x xt ch sh su wo ac al sc hg T Y (As.set j rs) Al sa hd := by
  obtain ⟨hx, -, hQ⟩ := adW_iff.mp h
  obtain ⟨w1, w2, w3, w4⟩ := hW
  obtain ⟨a1, a2, a3, a4, a5⟩ := w3 j hj
  have hne : ao j ≠ oo j := hp_ne a2 a3 (by simp)
  have a2' := hp_k (e := .inl (ct 2, 24, .inr (.inr (.inr (.inr f1))))) hne a2
  have st : stab ct (fzc ch hg) M (hp_up (hp_up M (oo j) (.inl (ct 2, 24, .inr (.inr (.inr (.inr f1)))))) (ao j) (.inr (3, [.ref (oo j), .int (nI rs.length)]))) := (stab_q a3).tr (stab_o a2' (by decide))
  refine adW_iff.mpr ⟨?_, ⟨fa, ao, oo, va_up rf j f1, ?_, ?_, fun i hi => ?_, ?_⟩, (hQ.ne_q a3 (by decide)).ne_o a2' (Or.inr rfl)⟩
  · rw [List.length_set]; exact hp_k (hp_ne hx a2 (by simp)) (hp_k (hp_ne hx a3 (by simp)) hx)
  · exact hp_k (hp_ne w1 a2 (by simp)) (hp_k (hp_ne w1 a3 (by simp)) w1)
  · rw [List.length_set]; exact w2
  · rw [List.length_set] at hi
    rw [getD_set hj]
    obtain ⟨c1, c2, c3, c4, c5⟩ := w3 i hi
    by_cases e : i = j
    · subst e
      rw [if_pos rfl, up_s]
      exact ⟨a1, hp_us, hp_k (Ne.symm hne) hp_us, hl, hrs.st st⟩
    · rw [if_neg e, up_n e]
      exact ⟨c1, hp_k (fun z => e (w4 i j hi hj (Or.inl z))) (hp_k (hp_ne c2 a3 (by simp)) c2), hp_k (hp_ne c3 a2 (by simp)) (hp_k (fun z => e (w4 i j hi hj (Or.inr z))) c3), c4, c5.st st⟩
  · intro i i' hi hi'
    rw [List.length_set] at hi hi'
    exact w4 i i' hi hi'
/-- a new action -/
theorem adW.act {ct : Nat → ClassId} {M : hp_M} {x xt ch sh su wo ac al sc hg : Nat} {T : List Nat} {Y : ShT} {As : List (List RowT)} {Al : List (List Nat)} {sa hd : List Nat} (h : adW ct M x xt ch sh su wo ac al sc hg T Y As Al sa hd) (hl : As.length < 12) {fa : Nat → Option Nat} (hfa : M ac = some (.inl (ct 4, 12, .inr (.inr (.inr (.inr fa)))))) {q oa : Nat} (hq : M q = none) (hoa : M oa = none) (hqo : q ≠ oa) :
    adW ct (hp_up (hp_up (hp_up (hp_up M q (.inr (3, [.ref oa, .int (nI 0)]))) oa (.inl (ct 2, 24, .inr (.inr (.inr (.inr (fun _ => none))))))) ac (.inl (ct 4, 12, .inr (.inr (.inr (.inr (va_up fa As.length (some q)))))))) x (xO xt sh ac (As.length + 1) al Al.length sc hg)) x xt ch sh su wo ac al sc hg T Y (As ++ [[]]) Al sa hd := by
  have h2 := ((h.new (E := .inr (3, [.ref oa, .int (nI 0)])) hq).1.new (q := oa) (E := .inl (ct 2, 24, .inr (.inr (.inr (.inr (fun _ => none)))))) (by rw [hp_un (Ne.symm hqo)]; exact hoa)).1
  obtain ⟨-, ⟨fa0, ao, oo, rf, v1, w2, w3, w4⟩, -⟩ := adW_iff.mp h
  have e0 : fa0 = fa := by
    rw [hfa] at v1
    have h9 := congrArg (fun z : ClassId × Nat × _ => z.2.2) (Sum.inl.inj (Option.some.inj v1))
    exact (Sum.inr.inj (Sum.inr.inj (Sum.inr.inj (Sum.inr.inj h9)))).symm
  subst e0
  have kk : kq ct (fzc ch hg) M (hp_up (hp_up M q (.inr (3, [.ref oa, .int (nI 0)]))) oa (.inl (ct 2, 24, .inr (.inr (.inr (.inr (fun _ => none))))))) := (kq_n hq).tr (kq_n (by rw [hp_un (Ne.symm hqo)]; exact hoa))
  obtain ⟨M2, eM2⟩ : ∃ z, z = hp_up (hp_up M q (.inr (3, [.ref oa, .int (nI 0)]))) oa (.inl (ct 2, 24, .inr (.inr (.inr (.inr (fun _ => none)))))) := ⟨_, rfl⟩
  have f_q : M2 q = some (.inr (3, [.ref oa, .int (nI 0)])) := by rw [eM2]; exact hp_k hqo hp_us
  have f_oa : M2 oa = some (.inl (ct 2, 24, .inr (.inr (.inr (.inr (fun _ => none)))))) := by rw [eM2]; exact hp_us
  rw [← eM2] at h2 kk ⊢
  obtain ⟨f_x, -, hQ⟩ := adW_iff.mp h2
  have f_ac : M2 ac = _ := kk.2.2 _ _ _ _ v1
  have f_x' := hp_k (e := .inl (ct 4, 12, .inr (.inr (.inr (.inr (va_up fa0 As.length (some q))))))) (hp_ne f_x f_ac (by simp)) f_x
  have st : stab ct (fzc ch hg) M2 (hp_up (hp_up M2 ac (.inl (ct 4, 12, .inr (.inr (.inr (.inr (va_up fa0 As.length (some q)))))))) x (xO xt sh ac (As.length + 1) al Al.length sc hg)) := (stab_q f_ac).tr (stab_o f_x' (by decide))
  have kO : ∀ (z : Nat) (fs : List Value), M2 z = some (.inr (3, fs)) → hp_up (hp_up M2 ac (.inl (ct 4, 12, .inr (.inr (.inr (.inr (va_up fa0 As.length (some q)))))))) x (xO xt sh ac (As.length + 1) al Al.length sc hg) z = some (.inr (3, fs)) := fun z fs hz => hp_k (hp_ne hz f_x (by simp)) (hp_k (hp_ne hz f_ac (by simp)) hz)
  have kA : ∀ (z : Nat) (f : Nat → Option Nat), M2 z = some (.inl (ct 2, 24, .inr (.inr (.inr (.inr f))))) → hp_up (hp_up M2 ac (.inl (ct 4, 12, .inr (.inr (.inr (.inr (va_up fa0 As.length (some q)))))))) x (xO xt sh ac (As.length + 1) al Al.length sc hg) z = some (.inl (ct 2, 24, .inr (.inr (.inr (.inr f))))) := fun z f hz => hp_k (hp_ne hz f_x (by simp)) (hp_k (hp_ne hz f_ac (by simp)) hz)
  refine adW_iff.mpr ⟨?_, ⟨va_up fa0 As.length (some q), va_up ao As.length q, va_up oo As.length oa, va_up rf As.length (fun _ => none), hp_k (Ne.symm (hp_ne f_x f_ac (by simp))) hp_us, ?_, fun i hi => ?_, ?_⟩, (hQ.ne_q f_ac (by decide)).ne_o f_x' (Or.inl rfl)⟩
  · rw [List.length_append]; exact hp_us
  · rw [List.length_append]; exact hl
  · have hi : i < As.length + 1 := by rw [List.length_append] at hi; exact hi
    rw [getD_app (Nat.le_of_lt_succ hi)]
    by_cases e : i = As.length
    · rw [if_pos e, e, up_s, up_s, up_s, up_s]
      exact ⟨rfl, kO _ _ f_q, kA _ _ f_oa, Nat.zero_le _, fun i hi => absurd hi (Nat.not_lt_zero i)⟩
    · rw [if_neg e, up_n e, up_n e, up_n e, up_n e]
      obtain ⟨c1, c2, c3, c4, c5⟩ := w3 i (by omega)
      exact ⟨c1, kO _ _ (kk.2.1 _ _ c2), kA _ _ (kk.2.2 _ _ _ _ c3), c4, (c5.st kk.1).st st⟩
  · intro i j hi hj
    have hi : i < As.length + 1 := by rw [List.length_append] at hi; exact hi
    have hj : j < As.length + 1 := by rw [List.length_append] at hj; exact hj
    have apart : ∀ i, i < As.length → ¬ (ao i = q ∨ oo i = oa) := fun i hi z => by
      obtain ⟨c1, c2, c3, -⟩ := w3 i hi
      rcases z with z | z
      · rw [z, hq] at c2; cases c2
      · rw [z, hoa] at c3; cases c3
    by_cases e : i = As.length
    · by_cases e2 : j = As.length
      · intro _; omega
      · rw [e, up_s, up_s, up_n e2, up_n e2]
        intro z
        exact absurd (z.imp Eq.symm Eq.symm) (apart j (by omega))
    · by_cases e2 : j = As.length
      · rw [e2, up_s, up_s, up_n e, up_n e]
        intro z
        exact absurd z (apart i (by omega))
      · rw [up_n e, up_n e, up_n e2, up_n e2]
        exact w4 i j (by omega) (by omega)
/-- another name is allowed -/
theorem adW.allow {ct : Nat → ClassId} {M : hp_M} {x xt ch sh su wo ac al sc hg : Nat} {T : List Nat} {Y : ShT} {As : List (List RowT)} {Al : List (List Nat)} {sa hd : List Nat} (h : adW ct M x xt ch sh su wo ac al sc hg T Y As Al sa hd) (hl : Al.length < 8) {fl : Nat → Option Nat} (hfl : M al = some (.inl (ct 3, 8, .inr (.inr (.inr (.inr fl)))))) {ky : Nat} {K : List Nat} (hky : kyOk ct (fzc ch hg) M ky K) :
    adW ct (hp_up (hp_up M al (.inl (ct 3, 8, .inr (.inr (.inr (.inr (va_up fl Al.length (some ky)))))))) x (xO xt sh ac As.length al (Al.length + 1) sc hg)) x xt ch sh su wo ac al sc hg T Y As (Al ++ [K]) sa hd := by
  obtain ⟨a1, ⟨g0, b1, b2, b3, b4, b5⟩, c, ⟨fa, ao, oo, rf, d1, d2, d3, d4⟩, ⟨fl0, e1, e2, e3⟩, ⟨f1, f2, f3, f4⟩, ⟨k1, k2, k3⟩, n⟩ := h
  have e0 : fl0 = fl := by
    rw [hfl] at e1
    have h9 := congrArg (fun z : ClassId × Nat × _ => z.2.2) (Sum.inl.inj (Option.some.inj e1))
    exact (Sum.inr.inj (Sum.inr.inj (Sum.inr.inj (Sum.inr.inj h9)))).symm
  subst e0
  have a1' := hp_k (e := .inl (ct 3, 8, .inr (.inr (.inr (.inr (va_up fl0 Al.length (some ky))))))) (hp_ne a1 e1 (by simp)) a1
  have st : stab ct (fzc ch hg) M (hp_up (hp_up M al (.inl (ct 3, 8, .inr (.inr (.inr (.inr (va_up fl0 Al.length (some ky)))))))) x (xO xt sh ac As.length al (Al.length + 1) sc hg)) := (stab_q e1).tr (stab_o a1' (by decide))
  have hK : ∀ (q : Nat) (E : va_E), M q = some E → q ≠ al → q ≠ x → hp_up (hp_up M al (.inl (ct 3, 8, .inr (.inr (.inr (.inr (va_up fl0 Al.length (some ky)))))))) x (xO xt sh ac As.length al (Al.length + 1) sc hg) q = some E := fun q E hq h1 h2 => hp_k h2 (hp_k h1 hq)
  refine ⟨?_, ⟨g0, hK _ _ b1 (hp_ne b1 e1 (by simp)) (hp_ne b1 a1 (by simp)), hK _ _ b2 (hp_ne b2 e1 (by simp)) (hp_ne b2 a1 (by simp)), b3, b4, b5⟩, (c.k (hp_ne c.1 e1 (by simp)) (hp_ne c.2.1 e1 (by simp)) (hp_ne c.2.2.1 e1 (by simp))).k (hp_ne c.1 a1 (by simp)) (hp_ne c.2.1 a1 (by simp)) (hp_ne c.2.2.1 a1 (by simp)), ⟨fa, ao, oo, rf, hK _ _ d1 (hp_ne d1 e1 (by simp)) (hp_ne d1 a1 (by simp)), d2, fun i hi => ?_, d4⟩, ⟨va_up fl0 Al.length (some ky), hp_k (Ne.symm (hp_ne a1 e1 (by simp))) hp_us, ?_, fun i hi => ?_⟩, ⟨hK _ _ f1 (hp_ne f1 e1 (by simp)) (hp_ne f1 a1 (by simp)), f2, f3, f4⟩, ⟨hK _ _ k1 (hp_ne k1 e1 (by simp)) (hp_ne k1 a1 (by simp)), k2, k3⟩, n⟩
  · rw [List.length_append]; exact hp_us
  · obtain ⟨c1, c2, c3, c4, c5⟩ := d3 i hi
    exact ⟨c1, hK _ _ c2 (hp_ne c2 e1 (by simp)) (hp_ne c2 a1 (by simp)), hK _ _ c3 (hp_ne c3 e1 (by simp)) (hp_ne c3 a1 (by simp)), c4, c5.st st⟩
  · rw [List.length_append]; exact hl
  · have hi : i < Al.length + 1 := by rw [List.length_append] at hi; exact hi
    rw [getD_app (Nat.le_of_lt_succ hi)]
    by_cases e : i = Al.length
    · rw [if_pos e, e, up_s]
      exact ⟨ky, rfl, hky.st st⟩
    · rw [if_neg e, up_n e]
      obtain ⟨k9, u1, u2⟩ := e3 i (by omega)
      exact ⟨k9, u1, u2.st st⟩
/-- another salt -/
theorem adW.salt {ct : Nat → ClassId} {M : hp_M} {x xt ch sh su wo ac al sc hg : Nat} {T : List Nat} {Y : ShT} {As : List (List RowT)} {Al : List (List Nat)} {sa hd : List Nat} (h : adW ct M x xt ch sh su wo ac al sc hg T Y As Al sa hd) {q : Nat} {K : List Nat} (hq : M q = some (.inl (ct 0, K.length, .inl (tx K)))) (hl : K.length ≤ 16) (hc : ∀ i, K.getD i 0 < 65536) (hf : fzc ch hg q) :
    adW ct (hp_up M x (xO xt sh ac As.length al Al.length q hg)) x xt ch sh su wo ac al q hg T Y As Al K hd := by
  obtain ⟨a1, ⟨g0, b1, b2, b3, b4, b5⟩, c, d, e, -, ⟨k1, k2, k3⟩, n⟩ := h
  have kk : kq ct (fzc ch hg) M (hp_up M x (xO xt sh ac As.length al Al.length q hg)) := kq_o a1 (by decide)
  exact ⟨hp_us, ⟨g0, hp_k (hp_ne b1 a1 (by simp)) b1, hp_k (hp_ne b2 a1 (by simp)) b2, b3, b4, b5⟩, c.k (hp_ne c.1 a1 (by simp)) (hp_ne c.2.1 a1 (by simp)) (hp_ne c.2.2.1 a1 (by simp)), d.kq kk, e.kq kk, ⟨hp_k (hp_ne hq a1 (by simp)) hq, hl, hc, hf⟩, ⟨hp_k (hp_ne k1 a1 (by simp)) k1, k2, k3⟩, n⟩
end
