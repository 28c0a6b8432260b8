section
-- ===== PART A: goes FIRST, ahead of the names: the tables' words, and 'selects' of the private methods out of them =====
/-- a private method of a class that the tables say can be made, by its rows of tables_1 -/
def lw_okq (q : MethodName × Nat) : Prop := (q.1.cls ≠ "java/lang/invoke/MethodHandle" ∧ q.1.cls ≠ "java/lang/invoke/VarHandle") ∧ Cond.instantiable q.1.cls q.2 ∈ tables_1 ∧ Cond.privateMethod q.1 ∈ tables_1 ∧ Cond.instanceMethod q.1 ∈ tables_1
theorem lw_p0 : lw_okq (⟨"MachineText", "printPart", "(I)V"⟩, 7) := ⟨⟨by decide +kernel, by decide +kernel⟩, List.mem_of_getElem? (i := 9) (by decide +kernel), List.mem_of_getElem? (i := 306) (by decide +kernel), List.mem_of_getElem? (i := 307) (by decide +kernel)⟩
theorem lw_p1 : lw_okq (⟨"MachineText", "printValue", "(CII)V"⟩, 7) := ⟨⟨by decide +kernel, by decide +kernel⟩, List.mem_of_getElem? (i := 9) (by decide +kernel), List.mem_of_getElem? (i := 316) (by decide +kernel), List.mem_of_getElem? (i := 317) (by decide +kernel)⟩
theorem lw_p2 : lw_okq (⟨"MachineTextModel", "readPart", "()V"⟩, 24) := ⟨⟨by decide +kernel, by decide +kernel⟩, List.mem_of_getElem? (i := 325) (by decide +kernel), List.mem_of_getElem? (i := 414) (by decide +kernel), List.mem_of_getElem? (i := 415) (by decide +kernel)⟩
theorem lw_p3 : lw_okq (⟨"MachineTextModel", "look", "()I"⟩, 24) := ⟨⟨by decide +kernel, by decide +kernel⟩, List.mem_of_getElem? (i := 325) (by decide +kernel), List.mem_of_getElem? (i := 418) (by decide +kernel), List.mem_of_getElem? (i := 419) (by decide +kernel)⟩
theorem lw_p4 : lw_okq (⟨"MachineTextModel", "mark", "(I)V"⟩, 24) := ⟨⟨by decide +kernel, by decide +kernel⟩, List.mem_of_getElem? (i := 325) (by decide +kernel), List.mem_of_getElem? (i := 425) (by decide +kernel), List.mem_of_getElem? (i := 426) (by decide +kernel)⟩
theorem lw_p5 : lw_okq (⟨"MachineTextModel", "number", "(II)I"⟩, 24) := ⟨⟨by decide +kernel, by decide +kernel⟩, List.mem_of_getElem? (i := 325) (by decide +kernel), List.mem_of_getElem? (i := 429) (by decide +kernel), List.mem_of_getElem? (i := 430) (by decide +kernel)⟩
theorem lw_p6 : lw_okq (⟨"MachineTextModel", "take", "(I)V"⟩, 24) := ⟨⟨by decide +kernel, by decide +kernel⟩, List.mem_of_getElem? (i := 325) (by decide +kernel), List.mem_of_getElem? (i := 433) (by decide +kernel), List.mem_of_getElem? (i := 434) (by decide +kernel)⟩
theorem lw_p7 : lw_okq (⟨"MachineTextModel", "way", "(I)V"⟩, 24) := ⟨⟨by decide +kernel, by decide +kernel⟩, List.mem_of_getElem? (i := 325) (by decide +kernel), List.mem_of_getElem? (i := 437) (by decide +kernel), List.mem_of_getElem? (i := 438) (by decide +kernel)⟩
theorem lw_p8 : lw_okq (⟨"MachineTextModel", "lay", "()V"⟩, 24) := ⟨⟨by decide +kernel, by decide +kernel⟩, List.mem_of_getElem? (i := 325) (by decide +kernel), List.mem_of_getElem? (i := 441) (by decide +kernel), List.mem_of_getElem? (i := 442) (by decide +kernel)⟩
theorem lw_p9 : lw_okq (⟨"MachineTextModel", "target", "(II)I"⟩, 24) := ⟨⟨by decide +kernel, by decide +kernel⟩, List.mem_of_getElem? (i := 325) (by decide +kernel), List.mem_of_getElem? (i := 445) (by decide +kernel), List.mem_of_getElem? (i := 446) (by decide +kernel)⟩
theorem lw_p10 : lw_okq (⟨"MachineTextModel", "find", "(I)I"⟩, 24) := ⟨⟨by decide +kernel, by decide +kernel⟩, List.mem_of_getElem? (i := 325) (by decide +kernel), List.mem_of_getElem? (i := 449) (by decide +kernel), List.mem_of_getElem? (i := 450) (by decide +kernel)⟩
theorem lw_p11 : lw_okq (⟨"MachineTextModel", "judge", "()V"⟩, 24) := ⟨⟨by decide +kernel, by decide +kernel⟩, List.mem_of_getElem? (i := 325) (by decide +kernel), List.mem_of_getElem? (i := 453) (by decide +kernel), List.mem_of_getElem? (i := 454) (by decide +kernel)⟩
theorem lw_p12 : lw_okq (⟨"MachineTextModel", "isWrong", "(III)Z"⟩, 24) := ⟨⟨by decide +kernel, by decide +kernel⟩, List.mem_of_getElem? (i := 325) (by decide +kernel), List.mem_of_getElem? (i := 457) (by decide +kernel), List.mem_of_getElem? (i := 458) (by decide +kernel)⟩
theorem lw_p13 : lw_okq (⟨"MachineTextModel", "gapOf", "(I)I"⟩, 24) := ⟨⟨by decide +kernel, by decide +kernel⟩, List.mem_of_getElem? (i := 325) (by decide +kernel), List.mem_of_getElem? (i := 461) (by decide +kernel), List.mem_of_getElem? (i := 462) (by decide +kernel)⟩
theorem lw_p14 : lw_okq (⟨"MachineTextModel", "through", "(I)J"⟩, 24) := ⟨⟨by decide +kernel, by decide +kernel⟩, List.mem_of_getElem? (i := 325) (by decide +kernel), List.mem_of_getElem? (i := 487) (by decide +kernel), List.mem_of_getElem? (i := 488) (by decide +kernel)⟩
theorem lw_p15 : lw_okq (⟨"MachineTextModel", "put", "(I)V"⟩, 24) := ⟨⟨by decide +kernel, by decide +kernel⟩, List.mem_of_getElem? (i := 325) (by decide +kernel), List.mem_of_getElem? (i := 508) (by decide +kernel), List.mem_of_getElem? (i := 509) (by decide +kernel)⟩
def lw_privs_1 : List (MethodName × Nat) := [(⟨"MachineText", "printPart", "(I)V"⟩, 7), (⟨"MachineText", "printValue", "(CII)V"⟩, 7), (⟨"MachineTextModel", "readPart", "()V"⟩, 24), (⟨"MachineTextModel", "look", "()I"⟩, 24), (⟨"MachineTextModel", "mark", "(I)V"⟩, 24), (⟨"MachineTextModel", "number", "(II)I"⟩, 24), (⟨"MachineTextModel", "take", "(I)V"⟩, 24), (⟨"MachineTextModel", "way", "(I)V"⟩, 24), (⟨"MachineTextModel", "lay", "()V"⟩, 24), (⟨"MachineTextModel", "target", "(II)I"⟩, 24), (⟨"MachineTextModel", "find", "(I)I"⟩, 24), (⟨"MachineTextModel", "judge", "()V"⟩, 24), (⟨"MachineTextModel", "isWrong", "(III)Z"⟩, 24), (⟨"MachineTextModel", "gapOf", "(I)I"⟩, 24), (⟨"MachineTextModel", "through", "(I)J"⟩, 24), (⟨"MachineTextModel", "put", "(I)V"⟩, 24)]
theorem lw_r1 : ∀ q ∈ lw_privs_1, lw_okq q := List.forall_mem_cons.mpr ⟨lw_p0, List.forall_mem_cons.mpr ⟨lw_p1, List.forall_mem_cons.mpr ⟨lw_p2, List.forall_mem_cons.mpr ⟨lw_p3, List.forall_mem_cons.mpr ⟨lw_p4, List.forall_mem_cons.mpr ⟨lw_p5, List.forall_mem_cons.mpr ⟨lw_p6, List.forall_mem_cons.mpr ⟨lw_p7, List.forall_mem_cons.mpr ⟨lw_p8, List.forall_mem_cons.mpr ⟨lw_p9, List.forall_mem_cons.mpr ⟨lw_p10, List.forall_mem_cons.mpr ⟨lw_p11, List.forall_mem_cons.mpr ⟨lw_p12, List.forall_mem_cons.mpr ⟨lw_p13, List.forall_mem_cons.mpr ⟨lw_p14, List.forall_mem_cons.mpr ⟨lw_p15, fun _ h => absurd h List.not_mem_nil⟩⟩⟩⟩⟩⟩⟩⟩⟩⟩⟩⟩⟩⟩⟩⟩
theorem lw_p16 : lw_okq (⟨"MachineTextModel", "putNumber", "(I)V"⟩, 24) := ⟨⟨by decide +kernel, by decide +kernel⟩, List.mem_of_getElem? (i := 325) (by decide +kernel), List.mem_of_getElem? (i := 512) (by decide +kernel), List.mem_of_getElem? (i := 513) (by decide +kernel)⟩
def lw_privs_2 : List (MethodName × Nat) := [(⟨"MachineTextModel", "putNumber", "(I)V"⟩, 24)]
theorem lw_r2 : ∀ q ∈ lw_privs_2, lw_okq q := List.forall_mem_cons.mpr ⟨lw_p16, fun _ h => absurd h List.not_mem_nil⟩
def lw_privs : List (MethodName × Nat) := lw_privs_1 ++ (lw_privs_2)
def lw_tbl : List Cond := k2_sels lw_privs ++ tables_1
theorem lw_privs_ok : ∀ q ∈ lw_privs, lw_okq q := by
  show ∀ q ∈ lw_privs_1 ++ (lw_privs_2), lw_okq q
  exact List.forall_mem_append.mpr ⟨lw_r1, lw_r2⟩
end
section
/-! names, field tables, words, decode rows: by program out of javap's listing and the Statement -/
def TB : List Cond := lw_tbl.filter goodWord
theorem tbm {w : Cond} (i : Nat) (h : lw_tbl[i]? = some w) (hg : goodWord w = true) : w ∈ TB := List.mem_filter.mpr ⟨List.mem_of_getElem? h, hg⟩
theorem TB_good : ∀ w ∈ TB, (w.onTables && w.keeps) = true ∨ ∃ ty, w = .arrayClass ty := fun w h => good_of_word (List.mem_filter.mp h).2
theorem TB_in : ∀ w ∈ TB, w ∈ lw_tbl := fun w h => (List.mem_filter.mp h).1
abbrev R_MT : String := "MachineText"
abbrev R_Tx : String := "MachineText$Text"
abbrev R_Mc : String := "MachineText$Machine"
abbrev R_Ps : String := "MachineText$Parser"
abbrev R_Pa : String := "MachineText$Paths"
abbrev R_Fl : String := "MachineText$FaultList"
abbrev R_Mo : String := "MachineTextModel"
abbrev R_Lw : String := "MachineTextLaw"
def F_MT : u_T := fun k => match k with
  | 0 => ("MachineText", "text", "LMachineText$Text;", true)
  | 1 => ("MachineText", "printed", "LMachineText$Text;", true)
  | 2 => ("MachineText", "parser", "LMachineText$Parser;", true)
  | 3 => ("MachineText", "paths", "LMachineText$Paths;", true)
  | 4 => ("MachineText", "faults", "LMachineText$FaultList;", true)
  | 5 => ("MachineText", "machine", "LMachineText$Machine;", false)
  | _ => ("MachineText", "spare", "LMachineText$Machine;", false)
def t_MT : Nat → FieldType := fun k => match k with
  | 0 => .object "MachineText$Text"
  | 1 => .object "MachineText$Text"
  | 2 => .object "MachineText$Parser"
  | 3 => .object "MachineText$Paths"
  | 4 => .object "MachineText$FaultList"
  | 5 => .object "MachineText$Machine"
  | _ => .object "MachineText$Machine"
def F_Tx : u_T := fun k => match k with
  | 0 => ("MachineText$Text", "characters", "[C", true)
  | _ => ("MachineText$Text", "length", "I", false)
def t_Tx : Nat → FieldType := fun k => match k with
  | 0 => .array .char
  | _ => .int
def F_Mc : u_T := fun k => match k with
  | 0 => ("MachineText$Machine", "columns", "[[I", true)
  | 1 => ("MachineText$Machine", "indexByName", "[I", true)
  | _ => ("MachineText$Machine", "count", "I", false)
def t_Mc : Nat → FieldType := fun k => match k with
  | 0 => .array (.array .int)
  | 1 => .array .int
  | _ => .int
def F_Ps : u_T := fun k => match k with
  | 0 => ("MachineText$Parser", "text", "LMachineText$Text;", true)
  | _ => ("MachineText$Parser", "place", "I", false)
def t_Ps : Nat → FieldType := fun k => match k with
  | 0 => .object "MachineText$Text"
  | _ => .int
def F_Pa : u_T := fun k => match k with
  | _ => ("MachineText$Paths", "times", "[[I", true)
def t_Pa : Nat → FieldType := fun k => match k with
  | _ => .array (.array .int)
def F_Fl : u_T := fun k => match k with
  | 0 => ("MachineText$FaultList", "columns", "[[I", true)
  | _ => ("MachineText$FaultList", "count", "I", false)
def t_Fl : Nat → FieldType := fun k => match k with
  | 0 => .array (.array .int)
  | _ => .int
def F_Mo : u_T := fun k => match k with
  | 0 => ("MachineTextModel", "text", "[I", true)
  | 1 => ("MachineTextModel", "size", "I", false)
  | 2 => ("MachineTextModel", "at", "I", false)
  | 3 => ("MachineTextModel", "wrong", "I", false)
  | 4 => ("MachineTextModel", "draft", "I", false)
  | 5 => ("MachineTextModel", "draftKind", "[I", true)
  | 6 => ("MachineTextModel", "draftName", "[I", true)
  | 7 => ("MachineTextModel", "draftNumber", "[I", true)
  | 8 => ("MachineTextModel", "draftSpeed", "[I", true)
  | 9 => ("MachineTextModel", "draftWays", "[I", true)
  | 10 => ("MachineTextModel", "parts", "I", false)
  | 11 => ("MachineTextModel", "kinds", "[I", true)
  | 12 => ("MachineTextModel", "names", "[I", true)
  | 13 => ("MachineTextModel", "numbers", "[I", true)
  | 14 => ("MachineTextModel", "speeds", "[I", true)
  | 15 => ("MachineTextModel", "ways", "[I", true)
  | 16 => ("MachineTextModel", "leads", "[Z", true)
  | 17 => ("MachineTextModel", "faults", "I", false)
  | 18 => ("MachineTextModel", "faultKind", "[I", true)
  | 19 => ("MachineTextModel", "faultName", "[I", true)
  | 20 => ("MachineTextModel", "faultWay", "[I", true)
  | 21 => ("MachineTextModel", "best", "[J", true)
  | 22 => ("MachineTextModel", "printed", "I", false)
  | _ => ("MachineTextModel", "print", "[I", true)
def t_Mo : Nat → FieldType := fun k => match k with
  | 0 => .array .int
  | 1 => .int
  | 2 => .int
  | 3 => .int
  | 4 => .int
  | 5 => .array .int
  | 6 => .array .int
  | 7 => .array .int
  | 8 => .array .int
  | 9 => .array .int
  | 10 => .int
  | 11 => .array .int
  | 12 => .array .int
  | 13 => .array .int
  | 14 => .array .int
  | 15 => .array .int
  | 16 => .array .boolean
  | 17 => .int
  | 18 => .array .int
  | 19 => .array .int
  | 20 => .array .int
  | 21 => .array .long
  | 22 => .int
  | _ => .array .int
abbrev vwCl : List vw_C := [(R_MT, F_MT, 7), (R_Tx, F_Tx, 2), (R_Mc, F_Mc, 3), (R_Ps, F_Ps, 2), (R_Pa, F_Pa, 1), (R_Fl, F_Fl, 2), (R_Mo, F_Mo, 24)]
theorem cl0_nm : ∀ a, a < 7 → ∀ b, b < 7 → a ≠ b → (F_MT a).2.1 ≠ (F_MT b).2.1 := by decide +kernel
theorem cl0_ty : ∀ k, k < 7 → parseFieldDescriptor (F_MT k).2.2.1 = some (t_MT k) := by decide +kernel
theorem cl0_in : ∀ w ∈ u_ws R_MT F_MT 7, w ∈ TB := by decide +kernel
theorem cl1_nm : ∀ a, a < 2 → ∀ b, b < 2 → a ≠ b → (F_Tx a).2.1 ≠ (F_Tx b).2.1 := by decide +kernel
theorem cl1_ty : ∀ k, k < 2 → parseFieldDescriptor (F_Tx k).2.2.1 = some (t_Tx k) := by decide +kernel
theorem cl1_in : ∀ w ∈ u_ws R_Tx F_Tx 2, w ∈ TB := by decide +kernel
theorem cl2_nm : ∀ a, a < 3 → ∀ b, b < 3 → a ≠ b → (F_Mc a).2.1 ≠ (F_Mc b).2.1 := by decide +kernel
theorem cl2_ty : ∀ k, k < 3 → parseFieldDescriptor (F_Mc k).2.2.1 = some (t_Mc k) := by decide +kernel
theorem cl2_in : ∀ w ∈ u_ws R_Mc F_Mc 3, w ∈ TB := by decide +kernel
theorem cl3_nm : ∀ a, a < 2 → ∀ b, b < 2 → a ≠ b → (F_Ps a).2.1 ≠ (F_Ps b).2.1 := by decide +kernel
theorem cl3_ty : ∀ k, k < 2 → parseFieldDescriptor (F_Ps k).2.2.1 = some (t_Ps k) := by decide +kernel
theorem cl3_in : ∀ w ∈ u_ws R_Ps F_Ps 2, w ∈ TB := by decide +kernel
theorem cl4_nm : ∀ a, a < 1 → ∀ b, b < 1 → a ≠ b → (F_Pa a).2.1 ≠ (F_Pa b).2.1 := by decide +kernel
theorem cl4_ty : ∀ k, k < 1 → parseFieldDescriptor (F_Pa k).2.2.1 = some (t_Pa k) := by decide +kernel
theorem cl4_in : ∀ w ∈ u_ws R_Pa F_Pa 1, w ∈ TB := by decide +kernel
theorem cl5_nm : ∀ a, a < 2 → ∀ b, b < 2 → a ≠ b → (F_Fl a).2.1 ≠ (F_Fl b).2.1 := by decide +kernel
theorem cl5_ty : ∀ k, k < 2 → parseFieldDescriptor (F_Fl k).2.2.1 = some (t_Fl k) := by decide +kernel
theorem cl5_in : ∀ w ∈ u_ws R_Fl F_Fl 2, w ∈ TB := by decide +kernel
theorem cl6_nm : ∀ a, a < 24 → ∀ b, b < 24 → a ≠ b → (F_Mo a).2.1 ≠ (F_Mo b).2.1 := by decide +kernel
theorem cl6_ty : ∀ k, k < 24 → parseFieldDescriptor (F_Mo k).2.2.1 = some (t_Mo k) := by decide +kernel
theorem cl6_in : ∀ w ∈ u_ws R_Mo F_Mo 24, w ∈ TB := by decide +kernel
def xY (y : MethodName) (bytes : ByteArray) (maxL : Nat) (ret : Option FieldType) (n : Nat) : Prop :=
  Cond.initialized y.cls ∈ TB ∧ Cond.code y bytes maxL ret ∈ TB ∧ (y.cls ≠ "java/lang/invoke/MethodHandle" ∧ y.cls ≠ "java/lang/invoke/VarHandle" ∧ (parseMethodDescriptor y.desc).map (fun d => d.parameters.length) = some n) ∧ maxL ≤ 21
theorem tb_h {w : Cond} (i : Nat) (h : (lw_tbl[i]?).map (fun x => decide (x = w)) = some true) (hg : goodWord w = true) : w ∈ TB := by
  cases hq : lw_tbl[i]? with
  | none => rw [hq] at h; cases h
  | some x =>
    rw [hq] at h
    have e : x = w := by simpa using h
    exact tbm i (by rw [hq, e]) hg
theorem wc_MT : Cond.initialized "MachineText" ∈ TB := tb_h 18 (by decide +kernel) (by decide +kernel)
theorem wc_Tx : Cond.initialized "MachineText$Text" ∈ TB := tb_h 19 (by decide +kernel) (by decide +kernel)
theorem wc_Mc : Cond.initialized "MachineText$Machine" ∈ TB := tb_h 23 (by decide +kernel) (by decide +kernel)
theorem wc_Ps : Cond.initialized "MachineText$Parser" ∈ TB := tb_h 20 (by decide +kernel) (by decide +kernel)
theorem wc_Pa : Cond.initialized "MachineText$Paths" ∈ TB := tb_h 21 (by decide +kernel) (by decide +kernel)
theorem wc_Fl : Cond.initialized "MachineText$FaultList" ∈ TB := tb_h 22 (by decide +kernel) (by decide +kernel)
theorem wc_Mo : Cond.initialized "MachineTextModel" ∈ TB := tb_h 24 (by decide +kernel) (by decide +kernel)
theorem wc_Lw : Cond.initialized "MachineTextLaw" ∈ TB := tb_h 17 (by decide +kernel) (by decide +kernel)
abbrev b_MT_init : ByteArray := prog_1_method_1_code
abbrev y_MT_init : MethodName := ⟨"MachineText", "<init>", "()V"⟩
theorem wb_MT_init : Cond.code y_MT_init b_MT_init 1 none ∈ TB := tb_h 29 (by decide +kernel) (by decide +kernel)
theorem wi_MT_init : Cond.instanceMethod y_MT_init ∈ TB := tb_h 28 (by decide +kernel) (by decide +kernel)
theorem wy_MT_init : xY y_MT_init b_MT_init 1 none 0 := ⟨wc_MT, wb_MT_init, by decide +kernel, by decide⟩
abbrev b_MT_sign : ByteArray := prog_1_method_2_code
abbrev y_MT_sign : MethodName := ⟨"MachineText", "sign", "(I)Z"⟩
theorem wb_MT_sign : Cond.code y_MT_sign b_MT_sign 2 (some .boolean) ∈ TB := tb_h 140 (by decide +kernel) (by decide +kernel)
theorem wi_MT_sign : Cond.instanceMethod y_MT_sign ∈ TB := tb_h 138 (by decide +kernel) (by decide +kernel)
theorem wsel_MT_sign : Cond.selects R_MT y_MT_sign y_MT_sign ∈ TB := tb_h 139 (by decide +kernel) (by decide +kernel)
theorem wy_MT_sign : xY y_MT_sign b_MT_sign 2 (some .boolean) 1 := ⟨wc_MT, wb_MT_sign, by decide +kernel, by decide⟩
abbrev b_MT_read : ByteArray := prog_1_method_3_code
abbrev y_MT_read : MethodName := ⟨"MachineText", "read", "()I"⟩
theorem wb_MT_read : Cond.code y_MT_read b_MT_read 3 (some .int) ∈ TB := tb_h 148 (by decide +kernel) (by decide +kernel)
theorem wi_MT_read : Cond.instanceMethod y_MT_read ∈ TB := tb_h 146 (by decide +kernel) (by decide +kernel)
theorem wsel_MT_read : Cond.selects R_MT y_MT_read y_MT_read ∈ TB := tb_h 147 (by decide +kernel) (by decide +kernel)
theorem wy_MT_read : xY y_MT_read b_MT_read 3 (some .int) 0 := ⟨wc_MT, wb_MT_read, by decide +kernel, by decide⟩
abbrev b_MT_part : ByteArray := prog_1_method_4_code
abbrev y_MT_part : MethodName := ⟨"MachineText", "part", "(II)I"⟩
theorem wb_MT_part : Cond.code y_MT_part b_MT_part 3 (some .int) ∈ TB := tb_h 284 (by decide +kernel) (by decide +kernel)
theorem wi_MT_part : Cond.instanceMethod y_MT_part ∈ TB := tb_h 282 (by decide +kernel) (by decide +kernel)
theorem wsel_MT_part : Cond.selects R_MT y_MT_part y_MT_part ∈ TB := tb_h 283 (by decide +kernel) (by decide +kernel)
theorem wy_MT_part : xY y_MT_part b_MT_part 3 (some .int) 2 := ⟨wc_MT, wb_MT_part, by decide +kernel, by decide⟩
abbrev b_MT_check : ByteArray := prog_1_method_5_code
abbrev y_MT_check : MethodName := ⟨"MachineText", "check", "()I"⟩
theorem wb_MT_check : Cond.code y_MT_check b_MT_check 1 (some .int) ∈ TB := tb_h 289 (by decide +kernel) (by decide +kernel)
theorem wi_MT_check : Cond.instanceMethod y_MT_check ∈ TB := tb_h 287 (by decide +kernel) (by decide +kernel)
theorem wsel_MT_check : Cond.selects R_MT y_MT_check y_MT_check ∈ TB := tb_h 288 (by decide +kernel) (by decide +kernel)
theorem wy_MT_check : xY y_MT_check b_MT_check 1 (some .int) 0 := ⟨wc_MT, wb_MT_check, by decide +kernel, by decide⟩
abbrev b_MT_fault : ByteArray := prog_1_method_6_code
abbrev y_MT_fault : MethodName := ⟨"MachineText", "fault", "(II)I"⟩
theorem wb_MT_fault : Cond.code y_MT_fault b_MT_fault 3 (some .int) ∈ TB := tb_h 293 (by decide +kernel) (by decide +kernel)
theorem wi_MT_fault : Cond.instanceMethod y_MT_fault ∈ TB := tb_h 291 (by decide +kernel) (by decide +kernel)
theorem wsel_MT_fault : Cond.selects R_MT y_MT_fault y_MT_fault ∈ TB := tb_h 292 (by decide +kernel) (by decide +kernel)
theorem wy_MT_fault : xY y_MT_fault b_MT_fault 3 (some .int) 2 := ⟨wc_MT, wb_MT_fault, by decide +kernel, by decide⟩
abbrev b_MT_reach : ByteArray := prog_1_method_7_code
abbrev y_MT_reach : MethodName := ⟨"MachineText", "reach", "(I)I"⟩
theorem wb_MT_reach : Cond.code y_MT_reach b_MT_reach 3 (some .int) ∈ TB := tb_h 301 (by decide +kernel) (by decide +kernel)
theorem wi_MT_reach : Cond.instanceMethod y_MT_reach ∈ TB := tb_h 299 (by decide +kernel) (by decide +kernel)
theorem wsel_MT_reach : Cond.selects R_MT y_MT_reach y_MT_reach ∈ TB := tb_h 300 (by decide +kernel) (by decide +kernel)
theorem wy_MT_reach : xY y_MT_reach b_MT_reach 3 (some .int) 1 := ⟨wc_MT, wb_MT_reach, by decide +kernel, by decide⟩
abbrev b_MT_time : ByteArray := prog_1_method_8_code
abbrev y_MT_time : MethodName := ⟨"MachineText", "time", "(II)J"⟩
theorem wb_MT_time : Cond.code y_MT_time b_MT_time 5 (some .long) ∈ TB := tb_h 307 (by decide +kernel) (by decide +kernel)
theorem wi_MT_time : Cond.instanceMethod y_MT_time ∈ TB := tb_h 305 (by decide +kernel) (by decide +kernel)
theorem wsel_MT_time : Cond.selects R_MT y_MT_time y_MT_time ∈ TB := tb_h 306 (by decide +kernel) (by decide +kernel)
theorem wy_MT_time : xY y_MT_time b_MT_time 5 (some .long) 2 := ⟨wc_MT, wb_MT_time, by decide +kernel, by decide⟩
abbrev b_MT_gap : ByteArray := prog_1_method_9_code
abbrev y_MT_gap : MethodName := ⟨"MachineText", "gap", "(I)I"⟩
theorem wb_MT_gap : Cond.code y_MT_gap b_MT_gap 3 (some .int) ∈ TB := tb_h 313 (by decide +kernel) (by decide +kernel)
theorem wi_MT_gap : Cond.instanceMethod y_MT_gap ∈ TB := tb_h 311 (by decide +kernel) (by decide +kernel)
theorem wsel_MT_gap : Cond.selects R_MT y_MT_gap y_MT_gap ∈ TB := tb_h 312 (by decide +kernel) (by decide +kernel)
theorem wy_MT_gap : xY y_MT_gap b_MT_gap 3 (some .int) 1 := ⟨wc_MT, wb_MT_gap, by decide +kernel, by decide⟩
abbrev b_MT_suffices : ByteArray := prog_1_method_10_code
abbrev y_MT_suffices : MethodName := ⟨"MachineText", "suffices", "(IJ)Z"⟩
theorem wb_MT_suffices : Cond.code y_MT_suffices b_MT_suffices 5 (some .boolean) ∈ TB := tb_h 317 (by decide +kernel) (by decide +kernel)
theorem wi_MT_suffices : Cond.instanceMethod y_MT_suffices ∈ TB := tb_h 315 (by decide +kernel) (by decide +kernel)
theorem wsel_MT_suffices : Cond.selects R_MT y_MT_suffices y_MT_suffices ∈ TB := tb_h 316 (by decide +kernel) (by decide +kernel)
theorem wy_MT_suffices : xY y_MT_suffices b_MT_suffices 5 (some .boolean) 2 := ⟨wc_MT, wb_MT_suffices, by decide +kernel, by decide⟩
abbrev b_MT_print : ByteArray := prog_1_method_11_code
abbrev y_MT_print : MethodName := ⟨"MachineText", "print", "()I"⟩
theorem wb_MT_print : Cond.code y_MT_print b_MT_print 2 (some .int) ∈ TB := tb_h 321 (by decide +kernel) (by decide +kernel)
theorem wi_MT_print : Cond.instanceMethod y_MT_print ∈ TB := tb_h 319 (by decide +kernel) (by decide +kernel)
theorem wsel_MT_print : Cond.selects R_MT y_MT_print y_MT_print ∈ TB := tb_h 320 (by decide +kernel) (by decide +kernel)
theorem wy_MT_print : xY y_MT_print b_MT_print 2 (some .int) 0 := ⟨wc_MT, wb_MT_print, by decide +kernel, by decide⟩
abbrev b_MT_at : ByteArray := prog_1_method_12_code
abbrev y_MT_at : MethodName := ⟨"MachineText", "at", "(I)I"⟩
theorem wb_MT_at : Cond.code y_MT_at b_MT_at 2 (some .int) ∈ TB := tb_h 339 (by decide +kernel) (by decide +kernel)
theorem wi_MT_at : Cond.instanceMethod y_MT_at ∈ TB := tb_h 337 (by decide +kernel) (by decide +kernel)
theorem wsel_MT_at : Cond.selects R_MT y_MT_at y_MT_at ∈ TB := tb_h 338 (by decide +kernel) (by decide +kernel)
theorem wy_MT_at : xY y_MT_at b_MT_at 2 (some .int) 1 := ⟨wc_MT, wb_MT_at, by decide +kernel, by decide⟩
abbrev b_MT_printPart : ByteArray := prog_1_method_13_code
abbrev y_MT_printPart : MethodName := ⟨"MachineText", "printPart", "(I)V"⟩
theorem wb_MT_printPart : Cond.code y_MT_printPart b_MT_printPart 3 none ∈ TB := tb_h 325 (by decide +kernel) (by decide +kernel)
theorem wi_MT_printPart : Cond.instanceMethod y_MT_printPart ∈ TB := tb_h 324 (by decide +kernel) (by decide +kernel)
theorem wsel_MT_printPart : Cond.selects R_MT y_MT_printPart y_MT_printPart ∈ TB := tb_h 0 (by decide +kernel) (by decide +kernel)
theorem wy_MT_printPart : xY y_MT_printPart b_MT_printPart 3 none 1 := ⟨wc_MT, wb_MT_printPart, by decide +kernel, by decide⟩
abbrev b_MT_printValue : ByteArray := prog_1_method_14_code
abbrev y_MT_printValue : MethodName := ⟨"MachineText", "printValue", "(CII)V"⟩
theorem wb_MT_printValue : Cond.code y_MT_printValue b_MT_printValue 5 none ∈ TB := tb_h 335 (by decide +kernel) (by decide +kernel)
theorem wi_MT_printValue : Cond.instanceMethod y_MT_printValue ∈ TB := tb_h 334 (by decide +kernel) (by decide +kernel)
theorem wsel_MT_printValue : Cond.selects R_MT y_MT_printValue y_MT_printValue ∈ TB := tb_h 1 (by decide +kernel) (by decide +kernel)
theorem wy_MT_printValue : xY y_MT_printValue b_MT_printValue 5 none 3 := ⟨wc_MT, wb_MT_printValue, by decide +kernel, by decide⟩
abbrev b_Tx_init : ByteArray := prog_6_method_1_code
abbrev y_Tx_init : MethodName := ⟨"MachineText$Text", "<init>", "()V"⟩
theorem wb_Tx_init : Cond.code y_Tx_init b_Tx_init 1 none ∈ TB := tb_h 37 (by decide +kernel) (by decide +kernel)
theorem wi_Tx_init : Cond.instanceMethod y_Tx_init ∈ TB := tb_h 36 (by decide +kernel) (by decide +kernel)
theorem wy_Tx_init : xY y_Tx_init b_Tx_init 1 none 0 := ⟨wc_Tx, wb_Tx_init, by decide +kernel, by decide⟩
abbrev b_Tx_clear : ByteArray := prog_6_method_2_code
abbrev y_Tx_clear : MethodName := ⟨"MachineText$Text", "clear", "()V"⟩
theorem wb_Tx_clear : Cond.code y_Tx_clear b_Tx_clear 1 none ∈ TB := tb_h 206 (by decide +kernel) (by decide +kernel)
theorem wi_Tx_clear : Cond.instanceMethod y_Tx_clear ∈ TB := tb_h 204 (by decide +kernel) (by decide +kernel)
theorem wsel_Tx_clear : Cond.selects R_Tx y_Tx_clear y_Tx_clear ∈ TB := tb_h 205 (by decide +kernel) (by decide +kernel)
theorem wy_Tx_clear : xY y_Tx_clear b_Tx_clear 1 none 0 := ⟨wc_Tx, wb_Tx_clear, by decide +kernel, by decide⟩
abbrev b_Tx_append : ByteArray := prog_6_method_3_code
abbrev y_Tx_append : MethodName := ⟨"MachineText$Text", "append", "(C)Z"⟩
theorem wb_Tx_append : Cond.code y_Tx_append b_Tx_append 2 (some .boolean) ∈ TB := tb_h 144 (by decide +kernel) (by decide +kernel)
theorem wi_Tx_append : Cond.instanceMethod y_Tx_append ∈ TB := tb_h 142 (by decide +kernel) (by decide +kernel)
theorem wsel_Tx_append : Cond.selects R_Tx y_Tx_append y_Tx_append ∈ TB := tb_h 143 (by decide +kernel) (by decide +kernel)
theorem wy_Tx_append : xY y_Tx_append b_Tx_append 2 (some .boolean) 1 := ⟨wc_Tx, wb_Tx_append, by decide +kernel, by decide⟩
abbrev b_Tx_appendNumber : ByteArray := prog_6_method_4_code
abbrev y_Tx_appendNumber : MethodName := ⟨"MachineText$Text", "appendNumber", "(I)V"⟩
theorem wb_Tx_appendNumber : Cond.code y_Tx_appendNumber b_Tx_appendNumber 3 none ∈ TB := tb_h 330 (by decide +kernel) (by decide +kernel)
theorem wi_Tx_appendNumber : Cond.instanceMethod y_Tx_appendNumber ∈ TB := tb_h 328 (by decide +kernel) (by decide +kernel)
theorem wsel_Tx_appendNumber : Cond.selects R_Tx y_Tx_appendNumber y_Tx_appendNumber ∈ TB := tb_h 329 (by decide +kernel) (by decide +kernel)
theorem wy_Tx_appendNumber : xY y_Tx_appendNumber b_Tx_appendNumber 3 none 1 := ⟨wc_Tx, wb_Tx_appendNumber, by decide +kernel, by decide⟩
abbrev b_Tx_characterAt : ByteArray := prog_6_method_5_code
abbrev y_Tx_characterAt : MethodName := ⟨"MachineText$Text", "characterAt", "(I)I"⟩
theorem wb_Tx_characterAt : Cond.code y_Tx_characterAt b_Tx_characterAt 2 (some .int) ∈ TB := tb_h 161 (by decide +kernel) (by decide +kernel)
theorem wi_Tx_characterAt : Cond.instanceMethod y_Tx_characterAt ∈ TB := tb_h 159 (by decide +kernel) (by decide +kernel)
theorem wsel_Tx_characterAt : Cond.selects R_Tx y_Tx_characterAt y_Tx_characterAt ∈ TB := tb_h 160 (by decide +kernel) (by decide +kernel)
theorem wy_Tx_characterAt : xY y_Tx_characterAt b_Tx_characterAt 2 (some .int) 1 := ⟨wc_Tx, wb_Tx_characterAt, by decide +kernel, by decide⟩
abbrev b_Mc_init : ByteArray := prog_3_method_1_code
abbrev y_Mc_init : MethodName := ⟨"MachineText$Machine", "<init>", "()V"⟩
theorem wb_Mc_init : Cond.code y_Mc_init b_Mc_init 1 none ∈ TB := tb_h 95 (by decide +kernel) (by decide +kernel)
theorem wi_Mc_init : Cond.instanceMethod y_Mc_init ∈ TB := tb_h 94 (by decide +kernel) (by decide +kernel)
theorem wy_Mc_init : xY y_Mc_init b_Mc_init 1 none 0 := ⟨wc_Mc, wb_Mc_init, by decide +kernel, by decide⟩
abbrev b_Mc_clear : ByteArray := prog_3_method_2_code
abbrev y_Mc_clear : MethodName := ⟨"MachineText$Machine", "clear", "()V"⟩
theorem wb_Mc_clear : Cond.code y_Mc_clear b_Mc_clear 2 none ∈ TB := tb_h 101 (by decide +kernel) (by decide +kernel)
theorem wi_Mc_clear : Cond.instanceMethod y_Mc_clear ∈ TB := tb_h 99 (by decide +kernel) (by decide +kernel)
theorem wsel_Mc_clear : Cond.selects R_Mc y_Mc_clear y_Mc_clear ∈ TB := tb_h 100 (by decide +kernel) (by decide +kernel)
theorem wy_Mc_clear : xY y_Mc_clear b_Mc_clear 2 none 0 := ⟨wc_Mc, wb_Mc_clear, by decide +kernel, by decide⟩
abbrev b_Mc_addPart : ByteArray := prog_3_method_3_code
abbrev y_Mc_addPart : MethodName := ⟨"MachineText$Machine", "addPart", "(II)V"⟩
theorem wb_Mc_addPart : Cond.code y_Mc_addPart b_Mc_addPart 4 none ∈ TB := tb_h 189 (by decide +kernel) (by decide +kernel)
theorem wi_Mc_addPart : Cond.instanceMethod y_Mc_addPart ∈ TB := tb_h 187 (by decide +kernel) (by decide +kernel)
theorem wsel_Mc_addPart : Cond.selects R_Mc y_Mc_addPart y_Mc_addPart ∈ TB := tb_h 188 (by decide +kernel) (by decide +kernel)
theorem wy_Mc_addPart : xY y_Mc_addPart b_Mc_addPart 4 none 2 := ⟨wc_Mc, wb_Mc_addPart, by decide +kernel, by decide⟩
abbrev b_Mc_setLatest : ByteArray := prog_3_method_4_code
abbrev y_Mc_setLatest : MethodName := ⟨"MachineText$Machine", "setLatest", "(II)V"⟩
theorem wb_Mc_setLatest : Cond.code y_Mc_setLatest b_Mc_setLatest 4 none ∈ TB := tb_h 193 (by decide +kernel) (by decide +kernel)
theorem wi_Mc_setLatest : Cond.instanceMethod y_Mc_setLatest ∈ TB := tb_h 191 (by decide +kernel) (by decide +kernel)
theorem wsel_Mc_setLatest : Cond.selects R_Mc y_Mc_setLatest y_Mc_setLatest ∈ TB := tb_h 192 (by decide +kernel) (by decide +kernel)
theorem wy_Mc_setLatest : xY y_Mc_setLatest b_Mc_setLatest 4 none 2 := ⟨wc_Mc, wb_Mc_setLatest, by decide +kernel, by decide⟩
abbrev b_Mc_value : ByteArray := prog_3_method_5_code
abbrev y_Mc_value : MethodName := ⟨"MachineText$Machine", "value", "(II)I"⟩
theorem wb_Mc_value : Cond.code y_Mc_value b_Mc_value 3 (some .int) ∈ TB := tb_h 222 (by decide +kernel) (by decide +kernel)
theorem wi_Mc_value : Cond.instanceMethod y_Mc_value ∈ TB := tb_h 220 (by decide +kernel) (by decide +kernel)
theorem wsel_Mc_value : Cond.selects R_Mc y_Mc_value y_Mc_value ∈ TB := tb_h 221 (by decide +kernel) (by decide +kernel)
theorem wy_Mc_value : xY y_Mc_value b_Mc_value 3 (some .int) 2 := ⟨wc_Mc, wb_Mc_value, by decide +kernel, by decide⟩
abbrev b_Mc_indexOf : ByteArray := prog_3_method_6_code
abbrev y_Mc_indexOf : MethodName := ⟨"MachineText$Machine", "indexOf", "(I)I"⟩
theorem wb_Mc_indexOf : Cond.code y_Mc_indexOf b_Mc_indexOf 2 (some .int) ∈ TB := tb_h 185 (by decide +kernel) (by decide +kernel)
theorem wi_Mc_indexOf : Cond.instanceMethod y_Mc_indexOf ∈ TB := tb_h 183 (by decide +kernel) (by decide +kernel)
theorem wsel_Mc_indexOf : Cond.selects R_Mc y_Mc_indexOf y_Mc_indexOf ∈ TB := tb_h 184 (by decide +kernel) (by decide +kernel)
theorem wy_Mc_indexOf : xY y_Mc_indexOf b_Mc_indexOf 2 (some .int) 1 := ⟨wc_Mc, wb_Mc_indexOf, by decide +kernel, by decide⟩
abbrev b_Mc_hasWay : ByteArray := prog_3_method_7_code
abbrev y_Mc_hasWay : MethodName := ⟨"MachineText$Machine", "hasWay", "(II)Z"⟩
theorem wb_Mc_hasWay : Cond.code y_Mc_hasWay b_Mc_hasWay 3 (some .boolean) ∈ TB := tb_h 251 (by decide +kernel) (by decide +kernel)
theorem wi_Mc_hasWay : Cond.instanceMethod y_Mc_hasWay ∈ TB := tb_h 249 (by decide +kernel) (by decide +kernel)
theorem wsel_Mc_hasWay : Cond.selects R_Mc y_Mc_hasWay y_Mc_hasWay ∈ TB := tb_h 250 (by decide +kernel) (by decide +kernel)
theorem wy_Mc_hasWay : xY y_Mc_hasWay b_Mc_hasWay 3 (some .boolean) 2 := ⟨wc_Mc, wb_Mc_hasWay, by decide +kernel, by decide⟩
abbrev b_Mc_goal : ByteArray := prog_3_method_8_code
abbrev y_Mc_goal : MethodName := ⟨"MachineText$Machine", "goal", "(II)I"⟩
theorem wb_Mc_goal : Cond.code y_Mc_goal b_Mc_goal 3 (some .int) ∈ TB := tb_h 218 (by decide +kernel) (by decide +kernel)
theorem wi_Mc_goal : Cond.instanceMethod y_Mc_goal ∈ TB := tb_h 216 (by decide +kernel) (by decide +kernel)
theorem wsel_Mc_goal : Cond.selects R_Mc y_Mc_goal y_Mc_goal ∈ TB := tb_h 217 (by decide +kernel) (by decide +kernel)
theorem wy_Mc_goal : xY y_Mc_goal b_Mc_goal 3 (some .int) 2 := ⟨wc_Mc, wb_Mc_goal, by decide +kernel, by decide⟩
abbrev b_Mc_timeThrough : ByteArray := prog_3_method_9_code
abbrev y_Mc_timeThrough : MethodName := ⟨"MachineText$Machine", "timeThrough", "(I)I"⟩
theorem wb_Mc_timeThrough : Cond.code y_Mc_timeThrough b_Mc_timeThrough 4 (some .int) ∈ TB := tb_h 227 (by decide +kernel) (by decide +kernel)
theorem wi_Mc_timeThrough : Cond.instanceMethod y_Mc_timeThrough ∈ TB := tb_h 225 (by decide +kernel) (by decide +kernel)
theorem wsel_Mc_timeThrough : Cond.selects R_Mc y_Mc_timeThrough y_Mc_timeThrough ∈ TB := tb_h 226 (by decide +kernel) (by decide +kernel)
theorem wy_Mc_timeThrough : xY y_Mc_timeThrough b_Mc_timeThrough 4 (some .int) 1 := ⟨wc_Mc, wb_Mc_timeThrough, by decide +kernel, by decide⟩
abbrev b_Ps_init : ByteArray := prog_4_method_1_code
abbrev y_Ps_init : MethodName := ⟨"MachineText$Parser", "<init>", "(LMachineText$Text;)V"⟩
theorem wb_Ps_init : Cond.code y_Ps_init b_Ps_init 2 none ∈ TB := tb_h 53 (by decide +kernel) (by decide +kernel)
theorem wi_Ps_init : Cond.instanceMethod y_Ps_init ∈ TB := tb_h 52 (by decide +kernel) (by decide +kernel)
theorem wy_Ps_init : xY y_Ps_init b_Ps_init 2 none 1 := ⟨wc_Ps, wb_Ps_init, by decide +kernel, by decide⟩
abbrev b_Ps_readParts : ByteArray := prog_4_method_2_code
abbrev y_Ps_readParts : MethodName := ⟨"MachineText$Parser", "readParts", "(LMachineText$Machine;)Z"⟩
theorem wb_Ps_readParts : Cond.code y_Ps_readParts b_Ps_readParts 4 (some .boolean) ∈ TB := tb_h 152 (by decide +kernel) (by decide +kernel)
theorem wi_Ps_readParts : Cond.instanceMethod y_Ps_readParts ∈ TB := tb_h 150 (by decide +kernel) (by decide +kernel)
theorem wsel_Ps_readParts : Cond.selects R_Ps y_Ps_readParts y_Ps_readParts ∈ TB := tb_h 151 (by decide +kernel) (by decide +kernel)
theorem wy_Ps_readParts : xY y_Ps_readParts b_Ps_readParts 4 (some .boolean) 1 := ⟨wc_Ps, wb_Ps_readParts, by decide +kernel, by decide⟩
abbrev b_Ps_readPart : ByteArray := prog_4_method_3_code
abbrev y_Ps_readPart : MethodName := ⟨"MachineText$Parser", "readPart", "(LMachineText$Machine;)Z"⟩
theorem wb_Ps_readPart : Cond.code y_Ps_readPart b_Ps_readPart 3 (some .boolean) ∈ TB := tb_h 157 (by decide +kernel) (by decide +kernel)
theorem wi_Ps_readPart : Cond.instanceMethod y_Ps_readPart ∈ TB := tb_h 155 (by decide +kernel) (by decide +kernel)
theorem wsel_Ps_readPart : Cond.selects R_Ps y_Ps_readPart y_Ps_readPart ∈ TB := tb_h 156 (by decide +kernel) (by decide +kernel)
theorem wy_Ps_readPart : xY y_Ps_readPart b_Ps_readPart 3 (some .boolean) 1 := ⟨wc_Ps, wb_Ps_readPart, by decide +kernel, by decide⟩
abbrev b_Ps_readNewName : ByteArray := prog_4_method_4_code
abbrev y_Ps_readNewName : MethodName := ⟨"MachineText$Parser", "readNewName", "(LMachineText$Machine;I)Z"⟩
theorem wb_Ps_readNewName : Cond.code y_Ps_readNewName b_Ps_readNewName 5 (some .boolean) ∈ TB := tb_h 174 (by decide +kernel) (by decide +kernel)
theorem wi_Ps_readNewName : Cond.instanceMethod y_Ps_readNewName ∈ TB := tb_h 172 (by decide +kernel) (by decide +kernel)
theorem wsel_Ps_readNewName : Cond.selects R_Ps y_Ps_readNewName y_Ps_readNewName ∈ TB := tb_h 173 (by decide +kernel) (by decide +kernel)
theorem wy_Ps_readNewName : xY y_Ps_readNewName b_Ps_readNewName 5 (some .boolean) 2 := ⟨wc_Ps, wb_Ps_readNewName, by decide +kernel, by decide⟩
abbrev b_Ps_readValue : ByteArray := prog_4_method_5_code
abbrev y_Ps_readValue : MethodName := ⟨"MachineText$Parser", "readValue", "(LMachineText$Machine;CIII)Z"⟩
theorem wb_Ps_readValue : Cond.code y_Ps_readValue b_Ps_readValue 7 (some .boolean) ∈ TB := tb_h 197 (by decide +kernel) (by decide +kernel)
theorem wi_Ps_readValue : Cond.instanceMethod y_Ps_readValue ∈ TB := tb_h 195 (by decide +kernel) (by decide +kernel)
theorem wsel_Ps_readValue : Cond.selects R_Ps y_Ps_readValue y_Ps_readValue ∈ TB := tb_h 196 (by decide +kernel) (by decide +kernel)
theorem wy_Ps_readValue : xY y_Ps_readValue b_Ps_readValue 7 (some .boolean) 5 := ⟨wc_Ps, wb_Ps_readValue, by decide +kernel, by decide⟩
abbrev b_Ps_readNumber : ByteArray := prog_4_method_6_code
abbrev y_Ps_readNumber : MethodName := ⟨"MachineText$Parser", "readNumber", "(II)I"⟩
theorem wb_Ps_readNumber : Cond.code y_Ps_readNumber b_Ps_readNumber 6 (some .int) ∈ TB := tb_h 178 (by decide +kernel) (by decide +kernel)
theorem wi_Ps_readNumber : Cond.instanceMethod y_Ps_readNumber ∈ TB := tb_h 176 (by decide +kernel) (by decide +kernel)
theorem wsel_Ps_readNumber : Cond.selects R_Ps y_Ps_readNumber y_Ps_readNumber ∈ TB := tb_h 177 (by decide +kernel) (by decide +kernel)
theorem wy_Ps_readNumber : xY y_Ps_readNumber b_Ps_readNumber 6 (some .int) 2 := ⟨wc_Ps, wb_Ps_readNumber, by decide +kernel, by decide⟩
abbrev b_Ps_skip : ByteArray := prog_4_method_7_code
abbrev y_Ps_skip : MethodName := ⟨"MachineText$Parser", "skip", "(C)Z"⟩
theorem wb_Ps_skip : Cond.code y_Ps_skip b_Ps_skip 2 (some .boolean) ∈ TB := tb_h 201 (by decide +kernel) (by decide +kernel)
theorem wi_Ps_skip : Cond.instanceMethod y_Ps_skip ∈ TB := tb_h 199 (by decide +kernel) (by decide +kernel)
theorem wsel_Ps_skip : Cond.selects R_Ps y_Ps_skip y_Ps_skip ∈ TB := tb_h 200 (by decide +kernel) (by decide +kernel)
theorem wy_Ps_skip : xY y_Ps_skip b_Ps_skip 2 (some .boolean) 1 := ⟨wc_Ps, wb_Ps_skip, by decide +kernel, by decide⟩
abbrev b_Ps_isDigit : ByteArray := prog_4_method_8_code
abbrev y_Ps_isDigit : MethodName := ⟨"MachineText$Parser", "isDigit", "(I)Z"⟩
theorem wb_Ps_isDigit : Cond.code y_Ps_isDigit b_Ps_isDigit 1 (some .boolean) ∈ TB := tb_h 181 (by decide +kernel) (by decide +kernel)
theorem wt_Ps_isDigit : Cond.static y_Ps_isDigit ∈ TB := tb_h 180 (by decide +kernel) (by decide +kernel)
theorem wy_Ps_isDigit : xY y_Ps_isDigit b_Ps_isDigit 1 (some .boolean) 1 := ⟨wc_Ps, wb_Ps_isDigit, by decide +kernel, by decide⟩
abbrev b_Ps_kindOf : ByteArray := prog_4_method_9_code
abbrev y_Ps_kindOf : MethodName := ⟨"MachineText$Parser", "kindOf", "(I)I"⟩
theorem wb_Ps_kindOf : Cond.code y_Ps_kindOf b_Ps_kindOf 2 (some .int) ∈ TB := tb_h 164 (by decide +kernel) (by decide +kernel)
theorem wt_Ps_kindOf : Cond.static y_Ps_kindOf ∈ TB := tb_h 163 (by decide +kernel) (by decide +kernel)
theorem wy_Ps_kindOf : xY y_Ps_kindOf b_Ps_kindOf 2 (some .int) 1 := ⟨wc_Ps, wb_Ps_kindOf, by decide +kernel, by decide⟩
abbrev b_Pa_init : ByteArray := prog_5_method_1_code
abbrev y_Pa_init : MethodName := ⟨"MachineText$Paths", "<init>", "()V"⟩
theorem wb_Pa_init : Cond.code y_Pa_init b_Pa_init 1 none ∈ TB := tb_h 67 (by decide +kernel) (by decide +kernel)
theorem wi_Pa_init : Cond.instanceMethod y_Pa_init ∈ TB := tb_h 66 (by decide +kernel) (by decide +kernel)
theorem wy_Pa_init : xY y_Pa_init b_Pa_init 1 none 0 := ⟨wc_Pa, wb_Pa_init, by decide +kernel, by decide⟩
abbrev b_Pa_follow : ByteArray := prog_5_method_2_code
abbrev y_Pa_follow : MethodName := ⟨"MachineText$Paths", "follow", "(LMachineText$Machine;)V"⟩
theorem wb_Pa_follow : Cond.code y_Pa_follow b_Pa_follow 4 none ∈ TB := tb_h 210 (by decide +kernel) (by decide +kernel)
theorem wi_Pa_follow : Cond.instanceMethod y_Pa_follow ∈ TB := tb_h 208 (by decide +kernel) (by decide +kernel)
theorem wsel_Pa_follow : Cond.selects R_Pa y_Pa_follow y_Pa_follow ∈ TB := tb_h 209 (by decide +kernel) (by decide +kernel)
theorem wy_Pa_follow : xY y_Pa_follow b_Pa_follow 4 none 1 := ⟨wc_Pa, wb_Pa_follow, by decide +kernel, by decide⟩
abbrev b_Pa_forget : ByteArray := prog_5_method_3_code
abbrev y_Pa_forget : MethodName := ⟨"MachineText$Paths", "forget", "()V"⟩
theorem wb_Pa_forget : Cond.code y_Pa_forget b_Pa_forget 3 none ∈ TB := tb_h 214 (by decide +kernel) (by decide +kernel)
theorem wi_Pa_forget : Cond.instanceMethod y_Pa_forget ∈ TB := tb_h 212 (by decide +kernel) (by decide +kernel)
theorem wsel_Pa_forget : Cond.selects R_Pa y_Pa_forget y_Pa_forget ∈ TB := tb_h 213 (by decide +kernel) (by decide +kernel)
theorem wy_Pa_forget : xY y_Pa_forget b_Pa_forget 3 none 0 := ⟨wc_Pa, wb_Pa_forget, by decide +kernel, by decide⟩
abbrev b_Pa_joinAt : ByteArray := prog_5_method_4_code
abbrev y_Pa_joinAt : MethodName := ⟨"MachineText$Paths", "joinAt", "(III)V"⟩
theorem wb_Pa_joinAt : Cond.code y_Pa_joinAt b_Pa_joinAt 7 none ∈ TB := tb_h 235 (by decide +kernel) (by decide +kernel)
theorem wi_Pa_joinAt : Cond.instanceMethod y_Pa_joinAt ∈ TB := tb_h 233 (by decide +kernel) (by decide +kernel)
theorem wsel_Pa_joinAt : Cond.selects R_Pa y_Pa_joinAt y_Pa_joinAt ∈ TB := tb_h 234 (by decide +kernel) (by decide +kernel)
theorem wy_Pa_joinAt : xY y_Pa_joinAt b_Pa_joinAt 7 none 3 := ⟨wc_Pa, wb_Pa_joinAt, by decide +kernel, by decide⟩
abbrev b_Pa_shorten : ByteArray := prog_5_method_5_code
abbrev y_Pa_shorten : MethodName := ⟨"MachineText$Paths", "shorten", "(III)V"⟩
theorem wb_Pa_shorten : Cond.code y_Pa_shorten b_Pa_shorten 4 none ∈ TB := tb_h 231 (by decide +kernel) (by decide +kernel)
theorem wi_Pa_shorten : Cond.instanceMethod y_Pa_shorten ∈ TB := tb_h 229 (by decide +kernel) (by decide +kernel)
theorem wsel_Pa_shorten : Cond.selects R_Pa y_Pa_shorten y_Pa_shorten ∈ TB := tb_h 230 (by decide +kernel) (by decide +kernel)
theorem wy_Pa_shorten : xY y_Pa_shorten b_Pa_shorten 4 none 3 := ⟨wc_Pa, wb_Pa_shorten, by decide +kernel, by decide⟩
abbrev b_Pa_leastTime : ByteArray := prog_5_method_6_code
abbrev y_Pa_leastTime : MethodName := ⟨"MachineText$Paths", "leastTime", "(II)I"⟩
theorem wb_Pa_leastTime : Cond.code y_Pa_leastTime b_Pa_leastTime 3 (some .int) ∈ TB := tb_h 239 (by decide +kernel) (by decide +kernel)
theorem wi_Pa_leastTime : Cond.instanceMethod y_Pa_leastTime ∈ TB := tb_h 237 (by decide +kernel) (by decide +kernel)
theorem wsel_Pa_leastTime : Cond.selects R_Pa y_Pa_leastTime y_Pa_leastTime ∈ TB := tb_h 238 (by decide +kernel) (by decide +kernel)
theorem wy_Pa_leastTime : xY y_Pa_leastTime b_Pa_leastTime 3 (some .int) 2 := ⟨wc_Pa, wb_Pa_leastTime, by decide +kernel, by decide⟩
abbrev b_Pa_leads : ByteArray := prog_5_method_7_code
abbrev y_Pa_leads : MethodName := ⟨"MachineText$Paths", "leads", "(II)Z"⟩
theorem wb_Pa_leads : Cond.code y_Pa_leads b_Pa_leads 3 (some .boolean) ∈ TB := tb_h 272 (by decide +kernel) (by decide +kernel)
theorem wi_Pa_leads : Cond.instanceMethod y_Pa_leads ∈ TB := tb_h 270 (by decide +kernel) (by decide +kernel)
theorem wsel_Pa_leads : Cond.selects R_Pa y_Pa_leads y_Pa_leads ∈ TB := tb_h 271 (by decide +kernel) (by decide +kernel)
theorem wy_Pa_leads : xY y_Pa_leads b_Pa_leads 3 (some .boolean) 2 := ⟨wc_Pa, wb_Pa_leads, by decide +kernel, by decide⟩
abbrev b_Pa_isReached : ByteArray := prog_5_method_8_code
abbrev y_Pa_isReached : MethodName := ⟨"MachineText$Paths", "isReached", "(LMachineText$Machine;I)Z"⟩
theorem wb_Pa_isReached : Cond.code y_Pa_isReached b_Pa_isReached 4 (some .boolean) ∈ TB := tb_h 280 (by decide +kernel) (by decide +kernel)
theorem wi_Pa_isReached : Cond.instanceMethod y_Pa_isReached ∈ TB := tb_h 278 (by decide +kernel) (by decide +kernel)
theorem wsel_Pa_isReached : Cond.selects R_Pa y_Pa_isReached y_Pa_isReached ∈ TB := tb_h 279 (by decide +kernel) (by decide +kernel)
theorem wy_Pa_isReached : xY y_Pa_isReached b_Pa_isReached 4 (some .boolean) 2 := ⟨wc_Pa, wb_Pa_isReached, by decide +kernel, by decide⟩
abbrev b_Pa_leastGap : ByteArray := prog_5_method_9_code
abbrev y_Pa_leastGap : MethodName := ⟨"MachineText$Paths", "leastGap", "(LMachineText$Machine;I)I"⟩
theorem wb_Pa_leastGap : Cond.code y_Pa_leastGap b_Pa_leastGap 6 (some .int) ∈ TB := tb_h 267 (by decide +kernel) (by decide +kernel)
theorem wi_Pa_leastGap : Cond.instanceMethod y_Pa_leastGap ∈ TB := tb_h 265 (by decide +kernel) (by decide +kernel)
theorem wsel_Pa_leastGap : Cond.selects R_Pa y_Pa_leastGap y_Pa_leastGap ∈ TB := tb_h 266 (by decide +kernel) (by decide +kernel)
theorem wy_Pa_leastGap : xY y_Pa_leastGap b_Pa_leastGap 6 (some .int) 2 := ⟨wc_Pa, wb_Pa_leastGap, by decide +kernel, by decide⟩
abbrev b_Fl_init : ByteArray := prog_2_method_1_code
abbrev y_Fl_init : MethodName := ⟨"MachineText$FaultList", "<init>", "()V"⟩
theorem wb_Fl_init : Cond.code y_Fl_init b_Fl_init 1 none ∈ TB := tb_h 80 (by decide +kernel) (by decide +kernel)
theorem wi_Fl_init : Cond.instanceMethod y_Fl_init ∈ TB := tb_h 79 (by decide +kernel) (by decide +kernel)
theorem wy_Fl_init : xY y_Fl_init b_Fl_init 1 none 0 := ⟨wc_Fl, wb_Fl_init, by decide +kernel, by decide⟩
abbrev b_Fl_find : ByteArray := prog_2_method_2_code
abbrev y_Fl_find : MethodName := ⟨"MachineText$FaultList", "find", "(LMachineText$Machine;LMachineText$Paths;)V"⟩
theorem wb_Fl_find : Cond.code y_Fl_find b_Fl_find 5 none ∈ TB := tb_h 243 (by decide +kernel) (by decide +kernel)
theorem wi_Fl_find : Cond.instanceMethod y_Fl_find ∈ TB := tb_h 241 (by decide +kernel) (by decide +kernel)
theorem wsel_Fl_find : Cond.selects R_Fl y_Fl_find y_Fl_find ∈ TB := tb_h 242 (by decide +kernel) (by decide +kernel)
theorem wy_Fl_find : xY y_Fl_find b_Fl_find 5 none 2 := ⟨wc_Fl, wb_Fl_find, by decide +kernel, by decide⟩
abbrev b_Fl_findWaysToNowhere : ByteArray := prog_2_method_3_code
abbrev y_Fl_findWaysToNowhere : MethodName := ⟨"MachineText$FaultList", "findWaysToNowhere", "(LMachineText$Machine;)V"⟩
theorem wb_Fl_findWaysToNowhere : Cond.code y_Fl_findWaysToNowhere b_Fl_findWaysToNowhere 4 none ∈ TB := tb_h 247 (by decide +kernel) (by decide +kernel)
theorem wi_Fl_findWaysToNowhere : Cond.instanceMethod y_Fl_findWaysToNowhere ∈ TB := tb_h 245 (by decide +kernel) (by decide +kernel)
theorem wsel_Fl_findWaysToNowhere : Cond.selects R_Fl y_Fl_findWaysToNowhere y_Fl_findWaysToNowhere ∈ TB := tb_h 246 (by decide +kernel) (by decide +kernel)
theorem wy_Fl_findWaysToNowhere : xY y_Fl_findWaysToNowhere b_Fl_findWaysToNowhere 4 none 1 := ⟨wc_Fl, wb_Fl_findWaysToNowhere, by decide +kernel, by decide⟩
abbrev b_Fl_isFaulty : ByteArray := prog_2_method_4_code
abbrev y_Fl_isFaulty : MethodName := ⟨"MachineText$FaultList", "isFaulty", "(ILMachineText$Machine;LMachineText$Paths;I)Z"⟩
theorem wb_Fl_isFaulty : Cond.code y_Fl_isFaulty b_Fl_isFaulty 5 (some .boolean) ∈ TB := tb_h 260 (by decide +kernel) (by decide +kernel)
theorem wt_Fl_isFaulty : Cond.static y_Fl_isFaulty ∈ TB := tb_h 259 (by decide +kernel) (by decide +kernel)
theorem wy_Fl_isFaulty : xY y_Fl_isFaulty b_Fl_isFaulty 5 (some .boolean) 4 := ⟨wc_Fl, wb_Fl_isFaulty, by decide +kernel, by decide⟩
abbrev b_Fl_isTooSlow : ByteArray := prog_2_method_5_code
abbrev y_Fl_isTooSlow : MethodName := ⟨"MachineText$FaultList", "isTooSlow", "(LMachineText$Machine;LMachineText$Paths;I)Z"⟩
theorem wb_Fl_isTooSlow : Cond.code y_Fl_isTooSlow b_Fl_isTooSlow 4 (some .boolean) ∈ TB := tb_h 263 (by decide +kernel) (by decide +kernel)
theorem wt_Fl_isTooSlow : Cond.static y_Fl_isTooSlow ∈ TB := tb_h 262 (by decide +kernel) (by decide +kernel)
theorem wy_Fl_isTooSlow : xY y_Fl_isTooSlow b_Fl_isTooSlow 4 (some .boolean) 3 := ⟨wc_Fl, wb_Fl_isTooSlow, by decide +kernel, by decide⟩
abbrev b_Fl_goesToGate : ByteArray := prog_2_method_6_code
abbrev y_Fl_goesToGate : MethodName := ⟨"MachineText$FaultList", "goesToGate", "(LMachineText$Machine;I)Z"⟩
theorem wb_Fl_goesToGate : Cond.code y_Fl_goesToGate b_Fl_goesToGate 3 (some .boolean) ∈ TB := tb_h 275 (by decide +kernel) (by decide +kernel)
theorem wt_Fl_goesToGate : Cond.static y_Fl_goesToGate ∈ TB := tb_h 274 (by decide +kernel) (by decide +kernel)
theorem wy_Fl_goesToGate : xY y_Fl_goesToGate b_Fl_goesToGate 3 (some .boolean) 2 := ⟨wc_Fl, wb_Fl_goesToGate, by decide +kernel, by decide⟩
abbrev b_Fl_add : ByteArray := prog_2_method_7_code
abbrev y_Fl_add : MethodName := ⟨"MachineText$FaultList", "add", "(III)V"⟩
theorem wb_Fl_add : Cond.code y_Fl_add b_Fl_add 4 none ∈ TB := tb_h 257 (by decide +kernel) (by decide +kernel)
theorem wi_Fl_add : Cond.instanceMethod y_Fl_add ∈ TB := tb_h 255 (by decide +kernel) (by decide +kernel)
theorem wsel_Fl_add : Cond.selects R_Fl y_Fl_add y_Fl_add ∈ TB := tb_h 256 (by decide +kernel) (by decide +kernel)
theorem wy_Fl_add : xY y_Fl_add b_Fl_add 4 none 3 := ⟨wc_Fl, wb_Fl_add, by decide +kernel, by decide⟩
abbrev b_Fl_value : ByteArray := prog_2_method_8_code
abbrev y_Fl_value : MethodName := ⟨"MachineText$FaultList", "value", "(II)I"⟩
theorem wb_Fl_value : Cond.code y_Fl_value b_Fl_value 3 (some .int) ∈ TB := tb_h 297 (by decide +kernel) (by decide +kernel)
theorem wi_Fl_value : Cond.instanceMethod y_Fl_value ∈ TB := tb_h 295 (by decide +kernel) (by decide +kernel)
theorem wsel_Fl_value : Cond.selects R_Fl y_Fl_value y_Fl_value ∈ TB := tb_h 296 (by decide +kernel) (by decide +kernel)
theorem wy_Fl_value : xY y_Fl_value b_Fl_value 3 (some .int) 2 := ⟨wc_Fl, wb_Fl_value, by decide +kernel, by decide⟩
abbrev b_Mo_init : ByteArray := prog_8_method_1_code
abbrev y_Mo_init : MethodName := ⟨"MachineTextModel", "<init>", "()V"⟩
theorem wb_Mo_init : Cond.code y_Mo_init b_Mo_init 1 none ∈ TB := tb_h 345 (by decide +kernel) (by decide +kernel)
theorem wi_Mo_init : Cond.instanceMethod y_Mo_init ∈ TB := tb_h 344 (by decide +kernel) (by decide +kernel)
theorem wy_Mo_init : xY y_Mo_init b_Mo_init 1 none 0 := ⟨wc_Mo, wb_Mo_init, by decide +kernel, by decide⟩
abbrev b_Mo_sign : ByteArray := prog_8_method_3_code
abbrev y_Mo_sign : MethodName := ⟨"MachineTextModel", "sign", "(I)Z"⟩
theorem wb_Mo_sign : Cond.code y_Mo_sign b_Mo_sign 2 (some .boolean) ∈ TB := tb_h 425 (by decide +kernel) (by decide +kernel)
theorem wi_Mo_sign : Cond.instanceMethod y_Mo_sign ∈ TB := tb_h 423 (by decide +kernel) (by decide +kernel)
theorem wsel_Mo_sign : Cond.selects R_Mo y_Mo_sign y_Mo_sign ∈ TB := tb_h 424 (by decide +kernel) (by decide +kernel)
theorem wy_Mo_sign : xY y_Mo_sign b_Mo_sign 2 (some .boolean) 1 := ⟨wc_Mo, wb_Mo_sign, by decide +kernel, by decide⟩
abbrev b_Mo_look : ByteArray := prog_8_method_4_code
abbrev y_Mo_look : MethodName := ⟨"MachineTextModel", "look", "()I"⟩
theorem wb_Mo_look : Cond.code y_Mo_look b_Mo_look 1 (some .int) ∈ TB := tb_h 437 (by decide +kernel) (by decide +kernel)
theorem wi_Mo_look : Cond.instanceMethod y_Mo_look ∈ TB := tb_h 436 (by decide +kernel) (by decide +kernel)
theorem wsel_Mo_look : Cond.selects R_Mo y_Mo_look y_Mo_look ∈ TB := tb_h 3 (by decide +kernel) (by decide +kernel)
theorem wy_Mo_look : xY y_Mo_look b_Mo_look 1 (some .int) 0 := ⟨wc_Mo, wb_Mo_look, by decide +kernel, by decide⟩
abbrev b_Mo_mark : ByteArray := prog_8_method_5_code
abbrev y_Mo_mark : MethodName := ⟨"MachineTextModel", "mark", "(I)V"⟩
theorem wb_Mo_mark : Cond.code y_Mo_mark b_Mo_mark 2 none ∈ TB := tb_h 444 (by decide +kernel) (by decide +kernel)
theorem wi_Mo_mark : Cond.instanceMethod y_Mo_mark ∈ TB := tb_h 443 (by decide +kernel) (by decide +kernel)
theorem wsel_Mo_mark : Cond.selects R_Mo y_Mo_mark y_Mo_mark ∈ TB := tb_h 4 (by decide +kernel) (by decide +kernel)
theorem wy_Mo_mark : xY y_Mo_mark b_Mo_mark 2 none 1 := ⟨wc_Mo, wb_Mo_mark, by decide +kernel, by decide⟩
abbrev b_Mo_take : ByteArray := prog_8_method_6_code
abbrev y_Mo_take : MethodName := ⟨"MachineTextModel", "take", "(I)V"⟩
theorem wb_Mo_take : Cond.code y_Mo_take b_Mo_take 2 none ∈ TB := tb_h 452 (by decide +kernel) (by decide +kernel)
theorem wi_Mo_take : Cond.instanceMethod y_Mo_take ∈ TB := tb_h 451 (by decide +kernel) (by decide +kernel)
theorem wsel_Mo_take : Cond.selects R_Mo y_Mo_take y_Mo_take ∈ TB := tb_h 6 (by decide +kernel) (by decide +kernel)
theorem wy_Mo_take : xY y_Mo_take b_Mo_take 2 none 1 := ⟨wc_Mo, wb_Mo_take, by decide +kernel, by decide⟩
abbrev b_Mo_number : ByteArray := prog_8_method_7_code
abbrev y_Mo_number : MethodName := ⟨"MachineTextModel", "number", "(II)I"⟩
theorem wb_Mo_number : Cond.code y_Mo_number b_Mo_number 5 (some .int) ∈ TB := tb_h 448 (by decide +kernel) (by decide +kernel)
theorem wi_Mo_number : Cond.instanceMethod y_Mo_number ∈ TB := tb_h 447 (by decide +kernel) (by decide +kernel)
theorem wsel_Mo_number : Cond.selects R_Mo y_Mo_number y_Mo_number ∈ TB := tb_h 5 (by decide +kernel) (by decide +kernel)
theorem wy_Mo_number : xY y_Mo_number b_Mo_number 5 (some .int) 2 := ⟨wc_Mo, wb_Mo_number, by decide +kernel, by decide⟩
abbrev b_Mo_way : ByteArray := prog_8_method_8_code
abbrev y_Mo_way : MethodName := ⟨"MachineTextModel", "way", "(I)V"⟩
theorem wb_Mo_way : Cond.code y_Mo_way b_Mo_way 2 none ∈ TB := tb_h 456 (by decide +kernel) (by decide +kernel)
theorem wi_Mo_way : Cond.instanceMethod y_Mo_way ∈ TB := tb_h 455 (by decide +kernel) (by decide +kernel)
theorem wsel_Mo_way : Cond.selects R_Mo y_Mo_way y_Mo_way ∈ TB := tb_h 7 (by decide +kernel) (by decide +kernel)
theorem wy_Mo_way : xY y_Mo_way b_Mo_way 2 none 1 := ⟨wc_Mo, wb_Mo_way, by decide +kernel, by decide⟩
abbrev b_Mo_kindOf : ByteArray := prog_8_method_9_code
abbrev y_Mo_kindOf : MethodName := ⟨"MachineTextModel", "kindOf", "(I)I"⟩
theorem wb_Mo_kindOf : Cond.code y_Mo_kindOf b_Mo_kindOf 1 (some .int) ∈ TB := tb_h 440 (by decide +kernel) (by decide +kernel)
theorem wt_Mo_kindOf : Cond.static y_Mo_kindOf ∈ TB := tb_h 439 (by decide +kernel) (by decide +kernel)
theorem wy_Mo_kindOf : xY y_Mo_kindOf b_Mo_kindOf 1 (some .int) 1 := ⟨wc_Mo, wb_Mo_kindOf, by decide +kernel, by decide⟩
abbrev b_Mo_readPart : ByteArray := prog_8_method_10_code
abbrev y_Mo_readPart : MethodName := ⟨"MachineTextModel", "readPart", "()V"⟩
theorem wb_Mo_readPart : Cond.code y_Mo_readPart b_Mo_readPart 5 none ∈ TB := tb_h 433 (by decide +kernel) (by decide +kernel)
theorem wi_Mo_readPart : Cond.instanceMethod y_Mo_readPart ∈ TB := tb_h 432 (by decide +kernel) (by decide +kernel)
theorem wsel_Mo_readPart : Cond.selects R_Mo y_Mo_readPart y_Mo_readPart ∈ TB := tb_h 2 (by decide +kernel) (by decide +kernel)
theorem wy_Mo_readPart : xY y_Mo_readPart b_Mo_readPart 5 none 0 := ⟨wc_Mo, wb_Mo_readPart, by decide +kernel, by decide⟩
abbrev b_Mo_read : ByteArray := prog_8_method_11_code
abbrev y_Mo_read : MethodName := ⟨"MachineTextModel", "read", "()I"⟩
theorem wb_Mo_read : Cond.code y_Mo_read b_Mo_read 3 (some .int) ∈ TB := tb_h 429 (by decide +kernel) (by decide +kernel)
theorem wi_Mo_read : Cond.instanceMethod y_Mo_read ∈ TB := tb_h 427 (by decide +kernel) (by decide +kernel)
theorem wsel_Mo_read : Cond.selects R_Mo y_Mo_read y_Mo_read ∈ TB := tb_h 428 (by decide +kernel) (by decide +kernel)
theorem wy_Mo_read : xY y_Mo_read b_Mo_read 3 (some .int) 0 := ⟨wc_Mo, wb_Mo_read, by decide +kernel, by decide⟩
abbrev b_Mo_find : ByteArray := prog_8_method_12_code
abbrev y_Mo_find : MethodName := ⟨"MachineTextModel", "find", "(I)I"⟩
theorem wb_Mo_find : Cond.code y_Mo_find b_Mo_find 3 (some .int) ∈ TB := tb_h 468 (by decide +kernel) (by decide +kernel)
theorem wi_Mo_find : Cond.instanceMethod y_Mo_find ∈ TB := tb_h 467 (by decide +kernel) (by decide +kernel)
theorem wsel_Mo_find : Cond.selects R_Mo y_Mo_find y_Mo_find ∈ TB := tb_h 10 (by decide +kernel) (by decide +kernel)
theorem wy_Mo_find : xY y_Mo_find b_Mo_find 3 (some .int) 1 := ⟨wc_Mo, wb_Mo_find, by decide +kernel, by decide⟩
abbrev b_Mo_target : ByteArray := prog_8_method_13_code
abbrev y_Mo_target : MethodName := ⟨"MachineTextModel", "target", "(II)I"⟩
theorem wb_Mo_target : Cond.code y_Mo_target b_Mo_target 3 (some .int) ∈ TB := tb_h 464 (by decide +kernel) (by decide +kernel)
theorem wi_Mo_target : Cond.instanceMethod y_Mo_target ∈ TB := tb_h 463 (by decide +kernel) (by decide +kernel)
theorem wsel_Mo_target : Cond.selects R_Mo y_Mo_target y_Mo_target ∈ TB := tb_h 9 (by decide +kernel) (by decide +kernel)
theorem wy_Mo_target : xY y_Mo_target b_Mo_target 3 (some .int) 2 := ⟨wc_Mo, wb_Mo_target, by decide +kernel, by decide⟩
abbrev b_Mo_lay : ByteArray := prog_8_method_14_code
abbrev y_Mo_lay : MethodName := ⟨"MachineTextModel", "lay", "()V"⟩
theorem wb_Mo_lay : Cond.code y_Mo_lay b_Mo_lay 4 none ∈ TB := tb_h 460 (by decide +kernel) (by decide +kernel)
theorem wi_Mo_lay : Cond.instanceMethod y_Mo_lay ∈ TB := tb_h 459 (by decide +kernel) (by decide +kernel)
theorem wsel_Mo_lay : Cond.selects R_Mo y_Mo_lay y_Mo_lay ∈ TB := tb_h 8 (by decide +kernel) (by decide +kernel)
theorem wy_Mo_lay : xY y_Mo_lay b_Mo_lay 4 none 0 := ⟨wc_Mo, wb_Mo_lay, by decide +kernel, by decide⟩
abbrev b_Mo_gapOf : ByteArray := prog_8_method_15_code
abbrev y_Mo_gapOf : MethodName := ⟨"MachineTextModel", "gapOf", "(I)I"⟩
theorem wb_Mo_gapOf : Cond.code y_Mo_gapOf b_Mo_gapOf 4 (some .int) ∈ TB := tb_h 480 (by decide +kernel) (by decide +kernel)
theorem wi_Mo_gapOf : Cond.instanceMethod y_Mo_gapOf ∈ TB := tb_h 479 (by decide +kernel) (by decide +kernel)
theorem wsel_Mo_gapOf : Cond.selects R_Mo y_Mo_gapOf y_Mo_gapOf ∈ TB := tb_h 13 (by decide +kernel) (by decide +kernel)
theorem wy_Mo_gapOf : xY y_Mo_gapOf b_Mo_gapOf 4 (some .int) 1 := ⟨wc_Mo, wb_Mo_gapOf, by decide +kernel, by decide⟩
abbrev b_Mo_isWrong : ByteArray := prog_8_method_16_code
abbrev y_Mo_isWrong : MethodName := ⟨"MachineTextModel", "isWrong", "(III)Z"⟩
theorem wb_Mo_isWrong : Cond.code y_Mo_isWrong b_Mo_isWrong 8 (some .boolean) ∈ TB := tb_h 476 (by decide +kernel) (by decide +kernel)
theorem wi_Mo_isWrong : Cond.instanceMethod y_Mo_isWrong ∈ TB := tb_h 475 (by decide +kernel) (by decide +kernel)
theorem wsel_Mo_isWrong : Cond.selects R_Mo y_Mo_isWrong y_Mo_isWrong ∈ TB := tb_h 12 (by decide +kernel) (by decide +kernel)
theorem wy_Mo_isWrong : xY y_Mo_isWrong b_Mo_isWrong 8 (some .boolean) 3 := ⟨wc_Mo, wb_Mo_isWrong, by decide +kernel, by decide⟩
abbrev b_Mo_judge : ByteArray := prog_8_method_17_code
abbrev y_Mo_judge : MethodName := ⟨"MachineTextModel", "judge", "()V"⟩
theorem wb_Mo_judge : Cond.code y_Mo_judge b_Mo_judge 4 none ∈ TB := tb_h 472 (by decide +kernel) (by decide +kernel)
theorem wi_Mo_judge : Cond.instanceMethod y_Mo_judge ∈ TB := tb_h 471 (by decide +kernel) (by decide +kernel)
theorem wsel_Mo_judge : Cond.selects R_Mo y_Mo_judge y_Mo_judge ∈ TB := tb_h 11 (by decide +kernel) (by decide +kernel)
theorem wy_Mo_judge : xY y_Mo_judge b_Mo_judge 4 none 0 := ⟨wc_Mo, wb_Mo_judge, by decide +kernel, by decide⟩
abbrev b_Mo_part : ByteArray := prog_8_method_18_code
abbrev y_Mo_part : MethodName := ⟨"MachineTextModel", "part", "(II)I"⟩
theorem wb_Mo_part : Cond.code y_Mo_part b_Mo_part 3 (some .int) ∈ TB := tb_h 484 (by decide +kernel) (by decide +kernel)
theorem wi_Mo_part : Cond.instanceMethod y_Mo_part ∈ TB := tb_h 482 (by decide +kernel) (by decide +kernel)
theorem wsel_Mo_part : Cond.selects R_Mo y_Mo_part y_Mo_part ∈ TB := tb_h 483 (by decide +kernel) (by decide +kernel)
theorem wy_Mo_part : xY y_Mo_part b_Mo_part 3 (some .int) 2 := ⟨wc_Mo, wb_Mo_part, by decide +kernel, by decide⟩
abbrev b_Mo_check : ByteArray := prog_8_method_19_code
abbrev y_Mo_check : MethodName := ⟨"MachineTextModel", "check", "()I"⟩
theorem wb_Mo_check : Cond.code y_Mo_check b_Mo_check 1 (some .int) ∈ TB := tb_h 488 (by decide +kernel) (by decide +kernel)
theorem wi_Mo_check : Cond.instanceMethod y_Mo_check ∈ TB := tb_h 486 (by decide +kernel) (by decide +kernel)
theorem wsel_Mo_check : Cond.selects R_Mo y_Mo_check y_Mo_check ∈ TB := tb_h 487 (by decide +kernel) (by decide +kernel)
theorem wy_Mo_check : xY y_Mo_check b_Mo_check 1 (some .int) 0 := ⟨wc_Mo, wb_Mo_check, by decide +kernel, by decide⟩
abbrev b_Mo_fault : ByteArray := prog_8_method_20_code
abbrev y_Mo_fault : MethodName := ⟨"MachineTextModel", "fault", "(II)I"⟩
theorem wb_Mo_fault : Cond.code y_Mo_fault b_Mo_fault 3 (some .int) ∈ TB := tb_h 492 (by decide +kernel) (by decide +kernel)
theorem wi_Mo_fault : Cond.instanceMethod y_Mo_fault ∈ TB := tb_h 490 (by decide +kernel) (by decide +kernel)
theorem wsel_Mo_fault : Cond.selects R_Mo y_Mo_fault y_Mo_fault ∈ TB := tb_h 491 (by decide +kernel) (by decide +kernel)
theorem wy_Mo_fault : xY y_Mo_fault b_Mo_fault 3 (some .int) 2 := ⟨wc_Mo, wb_Mo_fault, by decide +kernel, by decide⟩
abbrev b_Mo_reach : ByteArray := prog_8_method_21_code
abbrev y_Mo_reach : MethodName := ⟨"MachineTextModel", "reach", "(I)I"⟩
theorem wb_Mo_reach : Cond.code y_Mo_reach b_Mo_reach 3 (some .int) ∈ TB := tb_h 496 (by decide +kernel) (by decide +kernel)
theorem wi_Mo_reach : Cond.instanceMethod y_Mo_reach ∈ TB := tb_h 494 (by decide +kernel) (by decide +kernel)
theorem wsel_Mo_reach : Cond.selects R_Mo y_Mo_reach y_Mo_reach ∈ TB := tb_h 495 (by decide +kernel) (by decide +kernel)
theorem wy_Mo_reach : xY y_Mo_reach b_Mo_reach 3 (some .int) 1 := ⟨wc_Mo, wb_Mo_reach, by decide +kernel, by decide⟩
abbrev b_Mo_through : ByteArray := prog_8_method_22_code
abbrev y_Mo_through : MethodName := ⟨"MachineTextModel", "through", "(I)J"⟩
theorem wb_Mo_through : Cond.code y_Mo_through b_Mo_through 4 (some .long) ∈ TB := tb_h 506 (by decide +kernel) (by decide +kernel)
theorem wi_Mo_through : Cond.instanceMethod y_Mo_through ∈ TB := tb_h 505 (by decide +kernel) (by decide +kernel)
theorem wsel_Mo_through : Cond.selects R_Mo y_Mo_through y_Mo_through ∈ TB := tb_h 14 (by decide +kernel) (by decide +kernel)
theorem wy_Mo_through : xY y_Mo_through b_Mo_through 4 (some .long) 1 := ⟨wc_Mo, wb_Mo_through, by decide +kernel, by decide⟩
abbrev b_Mo_time : ByteArray := prog_8_method_23_code
abbrev y_Mo_time : MethodName := ⟨"MachineTextModel", "time", "(II)J"⟩
theorem wb_Mo_time : Cond.code y_Mo_time b_Mo_time 9 (some .long) ∈ TB := tb_h 500 (by decide +kernel) (by decide +kernel)
theorem wi_Mo_time : Cond.instanceMethod y_Mo_time ∈ TB := tb_h 498 (by decide +kernel) (by decide +kernel)
theorem wsel_Mo_time : Cond.selects R_Mo y_Mo_time y_Mo_time ∈ TB := tb_h 499 (by decide +kernel) (by decide +kernel)
theorem wy_Mo_time : xY y_Mo_time b_Mo_time 9 (some .long) 2 := ⟨wc_Mo, wb_Mo_time, by decide +kernel, by decide⟩
abbrev b_Mo_gap : ByteArray := prog_8_method_24_code
abbrev y_Mo_gap : MethodName := ⟨"MachineTextModel", "gap", "(I)I"⟩
theorem wb_Mo_gap : Cond.code y_Mo_gap b_Mo_gap 3 (some .int) ∈ TB := tb_h 512 (by decide +kernel) (by decide +kernel)
theorem wi_Mo_gap : Cond.instanceMethod y_Mo_gap ∈ TB := tb_h 510 (by decide +kernel) (by decide +kernel)
theorem wsel_Mo_gap : Cond.selects R_Mo y_Mo_gap y_Mo_gap ∈ TB := tb_h 511 (by decide +kernel) (by decide +kernel)
theorem wy_Mo_gap : xY y_Mo_gap b_Mo_gap 3 (some .int) 1 := ⟨wc_Mo, wb_Mo_gap, by decide +kernel, by decide⟩
abbrev b_Mo_suffices : ByteArray := prog_8_method_25_code
abbrev y_Mo_suffices : MethodName := ⟨"MachineTextModel", "suffices", "(IJ)Z"⟩
theorem wb_Mo_suffices : Cond.code y_Mo_suffices b_Mo_suffices 5 (some .boolean) ∈ TB := tb_h 516 (by decide +kernel) (by decide +kernel)
theorem wi_Mo_suffices : Cond.instanceMethod y_Mo_suffices ∈ TB := tb_h 514 (by decide +kernel) (by decide +kernel)
theorem wsel_Mo_suffices : Cond.selects R_Mo y_Mo_suffices y_Mo_suffices ∈ TB := tb_h 515 (by decide +kernel) (by decide +kernel)
theorem wy_Mo_suffices : xY y_Mo_suffices b_Mo_suffices 5 (some .boolean) 2 := ⟨wc_Mo, wb_Mo_suffices, by decide +kernel, by decide⟩
abbrev b_Mo_put : ByteArray := prog_8_method_26_code
abbrev y_Mo_put : MethodName := ⟨"MachineTextModel", "put", "(I)V"⟩
theorem wb_Mo_put : Cond.code y_Mo_put b_Mo_put 2 none ∈ TB := tb_h 527 (by decide +kernel) (by decide +kernel)
theorem wi_Mo_put : Cond.instanceMethod y_Mo_put ∈ TB := tb_h 526 (by decide +kernel) (by decide +kernel)
theorem wsel_Mo_put : Cond.selects R_Mo y_Mo_put y_Mo_put ∈ TB := tb_h 15 (by decide +kernel) (by decide +kernel)
theorem wy_Mo_put : xY y_Mo_put b_Mo_put 2 none 1 := ⟨wc_Mo, wb_Mo_put, by decide +kernel, by decide⟩
abbrev b_Mo_putNumber : ByteArray := prog_8_method_27_code
abbrev y_Mo_putNumber : MethodName := ⟨"MachineTextModel", "putNumber", "(I)V"⟩
theorem wb_Mo_putNumber : Cond.code y_Mo_putNumber b_Mo_putNumber 3 none ∈ TB := tb_h 531 (by decide +kernel) (by decide +kernel)
theorem wi_Mo_putNumber : Cond.instanceMethod y_Mo_putNumber ∈ TB := tb_h 530 (by decide +kernel) (by decide +kernel)
theorem wsel_Mo_putNumber : Cond.selects R_Mo y_Mo_putNumber y_Mo_putNumber ∈ TB := tb_h 16 (by decide +kernel) (by decide +kernel)
theorem wy_Mo_putNumber : xY y_Mo_putNumber b_Mo_putNumber 3 none 1 := ⟨wc_Mo, wb_Mo_putNumber, by decide +kernel, by decide⟩
abbrev b_Mo_letterOf : ByteArray := prog_8_method_28_code
abbrev y_Mo_letterOf : MethodName := ⟨"MachineTextModel", "letterOf", "(I)I"⟩
theorem wb_Mo_letterOf : Cond.code y_Mo_letterOf b_Mo_letterOf 1 (some .int) ∈ TB := tb_h 523 (by decide +kernel) (by decide +kernel)
theorem wt_Mo_letterOf : Cond.static y_Mo_letterOf ∈ TB := tb_h 522 (by decide +kernel) (by decide +kernel)
theorem wy_Mo_letterOf : xY y_Mo_letterOf b_Mo_letterOf 1 (some .int) 1 := ⟨wc_Mo, wb_Mo_letterOf, by decide +kernel, by decide⟩
abbrev b_Mo_print : ByteArray := prog_8_method_29_code
abbrev y_Mo_print : MethodName := ⟨"MachineTextModel", "print", "()I"⟩
theorem wb_Mo_print : Cond.code y_Mo_print b_Mo_print 2 (some .int) ∈ TB := tb_h 520 (by decide +kernel) (by decide +kernel)
theorem wi_Mo_print : Cond.instanceMethod y_Mo_print ∈ TB := tb_h 518 (by decide +kernel) (by decide +kernel)
theorem wsel_Mo_print : Cond.selects R_Mo y_Mo_print y_Mo_print ∈ TB := tb_h 519 (by decide +kernel) (by decide +kernel)
theorem wy_Mo_print : xY y_Mo_print b_Mo_print 2 (some .int) 0 := ⟨wc_Mo, wb_Mo_print, by decide +kernel, by decide⟩
abbrev b_Mo_at : ByteArray := prog_8_method_30_code
abbrev y_Mo_at : MethodName := ⟨"MachineTextModel", "at", "(I)I"⟩
theorem wb_Mo_at : Cond.code y_Mo_at b_Mo_at 2 (some .int) ∈ TB := tb_h 535 (by decide +kernel) (by decide +kernel)
theorem wi_Mo_at : Cond.instanceMethod y_Mo_at ∈ TB := tb_h 533 (by decide +kernel) (by decide +kernel)
theorem wsel_Mo_at : Cond.selects R_Mo y_Mo_at y_Mo_at ∈ TB := tb_h 534 (by decide +kernel) (by decide +kernel)
theorem wy_Mo_at : xY y_Mo_at b_Mo_at 2 (some .int) 1 := ⟨wc_Mo, wb_Mo_at, by decide +kernel, by decide⟩
theorem wn_MT : Cond.instantiable R_MT 7 ∈ TB := tb_h 26 (by decide +kernel) (by decide +kernel)
theorem wo_MT : Cond.methodLink R_MT 3 objectInit ∈ TB := tb_h 30 (by decide +kernel) (by decide +kernel)
theorem wk_MT_9 : Cond.classLink R_MT 9 "MachineText$Text" ∈ TB := tb_h 33 (by decide +kernel) (by decide +kernel)
theorem wm_MT_11 : Cond.methodLink R_MT 11 y_Tx_init ∈ TB := tb_h 35 (by decide +kernel) (by decide +kernel)
theorem wl_MT_11 : Cond.methodLink R_MT 11 y_Tx_init ∈ TB ∧ Cond.instanceMethod y_Tx_init ∈ TB ∧ y_Tx_init.name = "<init>" := ⟨wm_MT_11, wi_Tx_init, rfl⟩
theorem wf_MT_101 : Cond.fieldLink R_MT 101 "MachineText$Text" "length" "I" ∈ TB := tb_h 42 (by decide +kernel) (by decide +kernel)
theorem wk_MT_19 : Cond.classLink R_MT 19 "MachineText$Parser" ∈ TB := tb_h 49 (by decide +kernel) (by decide +kernel)
theorem wm_MT_21 : Cond.methodLink R_MT 21 y_Ps_init ∈ TB := tb_h 51 (by decide +kernel) (by decide +kernel)
theorem wl_MT_21 : Cond.methodLink R_MT 21 y_Ps_init ∈ TB ∧ Cond.instanceMethod y_Ps_init ∈ TB ∧ y_Ps_init.name = "<init>" := ⟨wm_MT_21, wi_Ps_init, rfl⟩
theorem wf_MT_63 : Cond.fieldLink R_MT 63 "MachineText$Parser" "place" "I" ∈ TB := tb_h 57 (by decide +kernel) (by decide +kernel)
theorem wk_MT_28 : Cond.classLink R_MT 28 "MachineText$Paths" ∈ TB := tb_h 63 (by decide +kernel) (by decide +kernel)
theorem wm_MT_30 : Cond.methodLink R_MT 30 y_Pa_init ∈ TB := tb_h 65 (by decide +kernel) (by decide +kernel)
theorem wl_MT_30 : Cond.methodLink R_MT 30 y_Pa_init ∈ TB ∧ Cond.instanceMethod y_Pa_init ∈ TB ∧ y_Pa_init.name = "<init>" := ⟨wm_MT_30, wi_Pa_init, rfl⟩
theorem wk_MT_35 : Cond.classLink R_MT 35 "MachineText$FaultList" ∈ TB := tb_h 76 (by decide +kernel) (by decide +kernel)
theorem wm_MT_37 : Cond.methodLink R_MT 37 y_Fl_init ∈ TB := tb_h 78 (by decide +kernel) (by decide +kernel)
theorem wl_MT_37 : Cond.methodLink R_MT 37 y_Fl_init ∈ TB ∧ Cond.instanceMethod y_Fl_init ∈ TB ∧ y_Fl_init.name = "<init>" := ⟨wm_MT_37, wi_Fl_init, rfl⟩
theorem wf_MT_82 : Cond.fieldLink R_MT 82 "MachineText$FaultList" "count" "I" ∈ TB := tb_h 85 (by decide +kernel) (by decide +kernel)
theorem wk_MT_42 : Cond.classLink R_MT 42 "MachineText$Machine" ∈ TB := tb_h 91 (by decide +kernel) (by decide +kernel)
theorem wm_MT_44 : Cond.methodLink R_MT 44 y_Mc_init ∈ TB := tb_h 93 (by decide +kernel) (by decide +kernel)
theorem wl_MT_44 : Cond.methodLink R_MT 44 y_Mc_init ∈ TB ∧ Cond.instanceMethod y_Mc_init ∈ TB ∧ y_Mc_init.name = "<init>" := ⟨wm_MT_44, wi_Mc_init, rfl⟩
theorem wf_MT_75 : Cond.fieldLink R_MT 75 "MachineText$Machine" "count" "I" ∈ TB := tb_h 107 (by decide +kernel) (by decide +kernel)
theorem wf_MT_12 : Cond.fieldLink R_MT 12 "MachineText" "text" "LMachineText$Text;" ∈ TB := tb_h 115 (by decide +kernel) (by decide +kernel)
theorem wf_MT_16 : Cond.fieldLink R_MT 16 "MachineText" "printed" "LMachineText$Text;" ∈ TB := tb_h 116 (by decide +kernel) (by decide +kernel)
theorem wf_MT_24 : Cond.fieldLink R_MT 24 "MachineText" "parser" "LMachineText$Parser;" ∈ TB := tb_h 117 (by decide +kernel) (by decide +kernel)
theorem wf_MT_31 : Cond.fieldLink R_MT 31 "MachineText" "paths" "LMachineText$Paths;" ∈ TB := tb_h 118 (by decide +kernel) (by decide +kernel)
theorem wf_MT_38 : Cond.fieldLink R_MT 38 "MachineText" "faults" "LMachineText$FaultList;" ∈ TB := tb_h 119 (by decide +kernel) (by decide +kernel)
theorem wf_MT_45 : Cond.fieldLink R_MT 45 "MachineText" "machine" "LMachineText$Machine;" ∈ TB := tb_h 120 (by decide +kernel) (by decide +kernel)
theorem wf_MT_49 : Cond.fieldLink R_MT 49 "MachineText" "spare" "LMachineText$Machine;" ∈ TB := tb_h 121 (by decide +kernel) (by decide +kernel)
theorem wm_MT_52 : Cond.methodLink R_MT 52 y_Tx_append ∈ TB := tb_h 141 (by decide +kernel) (by decide +kernel)
theorem wl_MT_52 : Cond.methodLink R_MT 52 y_Tx_append ∈ TB ∧ Cond.instanceMethod y_Tx_append ∈ TB ∧ Cond.selects R_Tx y_Tx_append y_Tx_append ∈ TB := ⟨wm_MT_52, wi_Tx_append, wsel_Tx_append⟩
theorem wm_MT_56 : Cond.methodLink R_MT 56 y_Ps_readParts ∈ TB := tb_h 149 (by decide +kernel) (by decide +kernel)
theorem wl_MT_56 : Cond.methodLink R_MT 56 y_Ps_readParts ∈ TB ∧ Cond.instanceMethod y_Ps_readParts ∈ TB ∧ Cond.selects R_Ps y_Ps_readParts y_Ps_readParts ∈ TB := ⟨wm_MT_56, wi_Ps_readParts, wsel_Ps_readParts⟩
theorem wm_MT_60 : Cond.methodLink R_MT 60 y_Tx_clear ∈ TB := tb_h 203 (by decide +kernel) (by decide +kernel)
theorem wl_MT_60 : Cond.methodLink R_MT 60 y_Tx_clear ∈ TB ∧ Cond.instanceMethod y_Tx_clear ∈ TB ∧ Cond.selects R_Tx y_Tx_clear y_Tx_clear ∈ TB := ⟨wm_MT_60, wi_Tx_clear, wsel_Tx_clear⟩
theorem wm_MT_67 : Cond.methodLink R_MT 67 y_Pa_follow ∈ TB := tb_h 207 (by decide +kernel) (by decide +kernel)
theorem wl_MT_67 : Cond.methodLink R_MT 67 y_Pa_follow ∈ TB ∧ Cond.instanceMethod y_Pa_follow ∈ TB ∧ Cond.selects R_Pa y_Pa_follow y_Pa_follow ∈ TB := ⟨wm_MT_67, wi_Pa_follow, wsel_Pa_follow⟩
theorem wm_MT_71 : Cond.methodLink R_MT 71 y_Fl_find ∈ TB := tb_h 240 (by decide +kernel) (by decide +kernel)
theorem wl_MT_71 : Cond.methodLink R_MT 71 y_Fl_find ∈ TB ∧ Cond.instanceMethod y_Fl_find ∈ TB ∧ Cond.selects R_Fl y_Fl_find y_Fl_find ∈ TB := ⟨wm_MT_71, wi_Fl_find, wsel_Fl_find⟩
theorem wm_MT_78 : Cond.methodLink R_MT 78 y_Mc_value ∈ TB := tb_h 285 (by decide +kernel) (by decide +kernel)
theorem wl_MT_78 : Cond.methodLink R_MT 78 y_Mc_value ∈ TB ∧ Cond.instanceMethod y_Mc_value ∈ TB ∧ Cond.selects R_Mc y_Mc_value y_Mc_value ∈ TB := ⟨wm_MT_78, wi_Mc_value, wsel_Mc_value⟩
theorem wm_MT_83 : Cond.methodLink R_MT 83 y_Fl_value ∈ TB := tb_h 294 (by decide +kernel) (by decide +kernel)
theorem wl_MT_83 : Cond.methodLink R_MT 83 y_Fl_value ∈ TB ∧ Cond.instanceMethod y_Fl_value ∈ TB ∧ Cond.selects R_Fl y_Fl_value y_Fl_value ∈ TB := ⟨wm_MT_83, wi_Fl_value, wsel_Fl_value⟩
theorem wm_MT_84 : Cond.methodLink R_MT 84 y_Mc_indexOf ∈ TB := tb_h 302 (by decide +kernel) (by decide +kernel)
theorem wl_MT_84 : Cond.methodLink R_MT 84 y_Mc_indexOf ∈ TB ∧ Cond.instanceMethod y_Mc_indexOf ∈ TB ∧ Cond.selects R_Mc y_Mc_indexOf y_Mc_indexOf ∈ TB := ⟨wm_MT_84, wi_Mc_indexOf, wsel_Mc_indexOf⟩
theorem wm_MT_88 : Cond.methodLink R_MT 88 y_Pa_leastGap ∈ TB := tb_h 303 (by decide +kernel) (by decide +kernel)
theorem wl_MT_88 : Cond.methodLink R_MT 88 y_Pa_leastGap ∈ TB ∧ Cond.instanceMethod y_Pa_leastGap ∈ TB ∧ Cond.selects R_Pa y_Pa_leastGap y_Pa_leastGap ∈ TB := ⟨wm_MT_88, wi_Pa_leastGap, wsel_Pa_leastGap⟩
theorem wk_MT_92 : Cond.constantLong R_MT 92 (-11) ∈ TB := tb_h 308 (by decide +kernel) (by decide +kernel)
theorem wm_MT_94 : Cond.methodLink R_MT 94 y_Pa_leastTime ∈ TB := tb_h 309 (by decide +kernel) (by decide +kernel)
theorem wl_MT_94 : Cond.methodLink R_MT 94 y_Pa_leastTime ∈ TB ∧ Cond.instanceMethod y_Pa_leastTime ∈ TB ∧ Cond.selects R_Pa y_Pa_leastTime y_Pa_leastTime ∈ TB := ⟨wm_MT_94, wi_Pa_leastTime, wsel_Pa_leastTime⟩
theorem wm_MT_97 : Cond.methodLink R_MT 97 y_MT_printPart ∈ TB := tb_h 322 (by decide +kernel) (by decide +kernel)
theorem wl_MT_97 : Cond.methodLink R_MT 97 y_MT_printPart ∈ TB ∧ Cond.instanceMethod y_MT_printPart ∈ TB ∧ Cond.selects R_MT y_MT_printPart y_MT_printPart ∈ TB := ⟨wm_MT_97, wi_MT_printPart, wsel_MT_printPart⟩
theorem wf_MT_107 : Cond.fieldLink R_MT 107 "MachineText" "LETTERS" "[C" ∈ TB := tb_h 326 (by decide +kernel) (by decide +kernel)
theorem wm_MT_111 : Cond.methodLink R_MT 111 y_Tx_appendNumber ∈ TB := tb_h 327 (by decide +kernel) (by decide +kernel)
theorem wl_MT_111 : Cond.methodLink R_MT 111 y_Tx_appendNumber ∈ TB ∧ Cond.instanceMethod y_Tx_appendNumber ∈ TB ∧ Cond.selects R_Tx y_Tx_appendNumber y_Tx_appendNumber ∈ TB := ⟨wm_MT_111, wi_Tx_appendNumber, wsel_Tx_appendNumber⟩
theorem wm_MT_114 : Cond.methodLink R_MT 114 y_MT_printValue ∈ TB := tb_h 332 (by decide +kernel) (by decide +kernel)
theorem wl_MT_114 : Cond.methodLink R_MT 114 y_MT_printValue ∈ TB ∧ Cond.instanceMethod y_MT_printValue ∈ TB ∧ Cond.selects R_MT y_MT_printValue y_MT_printValue ∈ TB := ⟨wm_MT_114, wi_MT_printValue, wsel_MT_printValue⟩
theorem wm_MT_104 : Cond.methodLink R_MT 104 y_Tx_characterAt ∈ TB := tb_h 340 (by decide +kernel) (by decide +kernel)
theorem wl_MT_104 : Cond.methodLink R_MT 104 y_Tx_characterAt ∈ TB ∧ Cond.instanceMethod y_Tx_characterAt ∈ TB ∧ Cond.selects R_Tx y_Tx_characterAt y_Tx_characterAt ∈ TB := ⟨wm_MT_104, wi_Tx_characterAt, wsel_Tx_characterAt⟩
theorem wn_Tx : Cond.instantiable R_Tx 2 ∈ TB := tb_h 34 (by decide +kernel) (by decide +kernel)
theorem wo_Tx : Cond.methodLink R_Tx 3 objectInit ∈ TB := tb_h 38 (by decide +kernel) (by decide +kernel)
theorem wf_Tx_9 : Cond.fieldLink R_Tx 9 "MachineText$Text" "characters" "[C" ∈ TB := tb_h 39 (by decide +kernel) (by decide +kernel)
theorem wf_Tx_15 : Cond.fieldLink R_Tx 15 "MachineText$Text" "length" "I" ∈ TB := tb_h 40 (by decide +kernel) (by decide +kernel)
theorem wm_Tx_19 : Cond.methodLink R_Tx 19 y_Tx_append ∈ TB := tb_h 331 (by decide +kernel) (by decide +kernel)
theorem wl_Tx_19 : Cond.methodLink R_Tx 19 y_Tx_append ∈ TB ∧ Cond.instanceMethod y_Tx_append ∈ TB ∧ Cond.selects R_Tx y_Tx_append y_Tx_append ∈ TB := ⟨wm_Tx_19, wi_Tx_append, wsel_Tx_append⟩
theorem wn_Mc : Cond.instantiable R_Mc 3 ∈ TB := tb_h 92 (by decide +kernel) (by decide +kernel)
theorem wo_Mc : Cond.methodLink R_Mc 3 objectInit ∈ TB := tb_h 96 (by decide +kernel) (by decide +kernel)
theorem wk_Mc_9 : Cond.classLink R_Mc 9 "[[I" ∈ TB := tb_h 97 (by decide +kernel) (by decide +kernel)
theorem wm_Mc_20 : Cond.methodLink R_Mc 20 y_Mc_clear ∈ TB := tb_h 98 (by decide +kernel) (by decide +kernel)
theorem wl_Mc_20 : Cond.methodLink R_Mc 20 y_Mc_clear ∈ TB ∧ Cond.instanceMethod y_Mc_clear ∈ TB ∧ Cond.selects R_Mc y_Mc_clear y_Mc_clear ∈ TB := ⟨wm_Mc_20, wi_Mc_clear, wsel_Mc_clear⟩
theorem wf_Mc_11 : Cond.fieldLink R_Mc 11 "MachineText$Machine" "columns" "[[I" ∈ TB := tb_h 102 (by decide +kernel) (by decide +kernel)
theorem wf_Mc_16 : Cond.fieldLink R_Mc 16 "MachineText$Machine" "indexByName" "[I" ∈ TB := tb_h 103 (by decide +kernel) (by decide +kernel)
theorem wf_Mc_23 : Cond.fieldLink R_Mc 23 "MachineText$Machine" "count" "I" ∈ TB := tb_h 104 (by decide +kernel) (by decide +kernel)
theorem wm_Mc_27 : Cond.methodLink R_Mc 27 y_Mc_setLatest ∈ TB := tb_h 190 (by decide +kernel) (by decide +kernel)
theorem wl_Mc_27 : Cond.methodLink R_Mc 27 y_Mc_setLatest ∈ TB ∧ Cond.instanceMethod y_Mc_setLatest ∈ TB ∧ Cond.selects R_Mc y_Mc_setLatest y_Mc_setLatest ∈ TB := ⟨wm_Mc_27, wi_Mc_setLatest, wsel_Mc_setLatest⟩
theorem wm_Mc_31 : Cond.methodLink R_Mc 31 y_Mc_value ∈ TB := tb_h 219 (by decide +kernel) (by decide +kernel)
theorem wl_Mc_31 : Cond.methodLink R_Mc 31 y_Mc_value ∈ TB ∧ Cond.instanceMethod y_Mc_value ∈ TB ∧ Cond.selects R_Mc y_Mc_value y_Mc_value ∈ TB := ⟨wm_Mc_31, wi_Mc_value, wsel_Mc_value⟩
theorem wm_Mc_35 : Cond.methodLink R_Mc 35 y_Mc_indexOf ∈ TB := tb_h 223 (by decide +kernel) (by decide +kernel)
theorem wl_Mc_35 : Cond.methodLink R_Mc 35 y_Mc_indexOf ∈ TB ∧ Cond.instanceMethod y_Mc_indexOf ∈ TB ∧ Cond.selects R_Mc y_Mc_indexOf y_Mc_indexOf ∈ TB := ⟨wm_Mc_35, wi_Mc_indexOf, wsel_Mc_indexOf⟩
theorem wf_Ps_28 : Cond.fieldLink R_Ps 28 "MachineText$Text" "length" "I" ∈ TB := tb_h 41 (by decide +kernel) (by decide +kernel)
theorem wn_Ps : Cond.instantiable R_Ps 2 ∈ TB := tb_h 50 (by decide +kernel) (by decide +kernel)
theorem wo_Ps : Cond.methodLink R_Ps 3 objectInit ∈ TB := tb_h 54 (by decide +kernel) (by decide +kernel)
theorem wf_Ps_9 : Cond.fieldLink R_Ps 9 "MachineText$Parser" "text" "LMachineText$Text;" ∈ TB := tb_h 55 (by decide +kernel) (by decide +kernel)
theorem wf_Ps_15 : Cond.fieldLink R_Ps 15 "MachineText$Parser" "place" "I" ∈ TB := tb_h 56 (by decide +kernel) (by decide +kernel)
theorem wm_Ps_19 : Cond.methodLink R_Ps 19 y_Mc_clear ∈ TB := tb_h 153 (by decide +kernel) (by decide +kernel)
theorem wl_Ps_19 : Cond.methodLink R_Ps 19 y_Mc_clear ∈ TB ∧ Cond.instanceMethod y_Mc_clear ∈ TB ∧ Cond.selects R_Mc y_Mc_clear y_Mc_clear ∈ TB := ⟨wm_Ps_19, wi_Mc_clear, wsel_Mc_clear⟩
theorem wm_Ps_24 : Cond.methodLink R_Ps 24 y_Ps_readPart ∈ TB := tb_h 154 (by decide +kernel) (by decide +kernel)
theorem wl_Ps_24 : Cond.methodLink R_Ps 24 y_Ps_readPart ∈ TB ∧ Cond.instanceMethod y_Ps_readPart ∈ TB ∧ Cond.selects R_Ps y_Ps_readPart y_Ps_readPart ∈ TB := ⟨wm_Ps_24, wi_Ps_readPart, wsel_Ps_readPart⟩
theorem wm_Ps_33 : Cond.methodLink R_Ps 33 y_Tx_characterAt ∈ TB := tb_h 158 (by decide +kernel) (by decide +kernel)
theorem wl_Ps_33 : Cond.methodLink R_Ps 33 y_Tx_characterAt ∈ TB ∧ Cond.instanceMethod y_Tx_characterAt ∈ TB ∧ Cond.selects R_Tx y_Tx_characterAt y_Tx_characterAt ∈ TB := ⟨wm_Ps_33, wi_Tx_characterAt, wsel_Tx_characterAt⟩
theorem wm_Ps_37 : Cond.methodLink R_Ps 37 y_Ps_kindOf ∈ TB := tb_h 162 (by decide +kernel) (by decide +kernel)
theorem wl_Ps_37 : Cond.methodLink R_Ps 37 y_Ps_kindOf ∈ TB ∧ Cond.static y_Ps_kindOf ∈ TB := ⟨wm_Ps_37, wt_Ps_kindOf⟩
theorem wm_Ps_47 : Cond.methodLink R_Ps 47 y_Ps_readNewName ∈ TB := tb_h 171 (by decide +kernel) (by decide +kernel)
theorem wl_Ps_47 : Cond.methodLink R_Ps 47 y_Ps_readNewName ∈ TB ∧ Cond.instanceMethod y_Ps_readNewName ∈ TB ∧ Cond.selects R_Ps y_Ps_readNewName y_Ps_readNewName ∈ TB := ⟨wm_Ps_47, wi_Ps_readNewName, wsel_Ps_readNewName⟩
theorem wm_Ps_59 : Cond.methodLink R_Ps 59 y_Ps_readNumber ∈ TB := tb_h 175 (by decide +kernel) (by decide +kernel)
theorem wl_Ps_59 : Cond.methodLink R_Ps 59 y_Ps_readNumber ∈ TB ∧ Cond.instanceMethod y_Ps_readNumber ∈ TB ∧ Cond.selects R_Ps y_Ps_readNumber y_Ps_readNumber ∈ TB := ⟨wm_Ps_59, wi_Ps_readNumber, wsel_Ps_readNumber⟩
theorem wm_Ps_73 : Cond.methodLink R_Ps 73 y_Ps_isDigit ∈ TB := tb_h 179 (by decide +kernel) (by decide +kernel)
theorem wl_Ps_73 : Cond.methodLink R_Ps 73 y_Ps_isDigit ∈ TB ∧ Cond.static y_Ps_isDigit ∈ TB := ⟨wm_Ps_73, wt_Ps_isDigit⟩
theorem wm_Ps_63 : Cond.methodLink R_Ps 63 y_Mc_indexOf ∈ TB := tb_h 182 (by decide +kernel) (by decide +kernel)
theorem wl_Ps_63 : Cond.methodLink R_Ps 63 y_Mc_indexOf ∈ TB ∧ Cond.instanceMethod y_Mc_indexOf ∈ TB ∧ Cond.selects R_Mc y_Mc_indexOf y_Mc_indexOf ∈ TB := ⟨wm_Ps_63, wi_Mc_indexOf, wsel_Mc_indexOf⟩
theorem wm_Ps_66 : Cond.methodLink R_Ps 66 y_Mc_addPart ∈ TB := tb_h 186 (by decide +kernel) (by decide +kernel)
theorem wl_Ps_66 : Cond.methodLink R_Ps 66 y_Mc_addPart ∈ TB ∧ Cond.instanceMethod y_Mc_addPart ∈ TB ∧ Cond.selects R_Mc y_Mc_addPart y_Mc_addPart ∈ TB := ⟨wm_Ps_66, wi_Mc_addPart, wsel_Mc_addPart⟩
theorem wm_Ps_51 : Cond.methodLink R_Ps 51 y_Ps_readValue ∈ TB := tb_h 194 (by decide +kernel) (by decide +kernel)
theorem wl_Ps_51 : Cond.methodLink R_Ps 51 y_Ps_readValue ∈ TB ∧ Cond.instanceMethod y_Ps_readValue ∈ TB ∧ Cond.selects R_Ps y_Ps_readValue y_Ps_readValue ∈ TB := ⟨wm_Ps_51, wi_Ps_readValue, wsel_Ps_readValue⟩
theorem wm_Ps_55 : Cond.methodLink R_Ps 55 y_Ps_skip ∈ TB := tb_h 198 (by decide +kernel) (by decide +kernel)
theorem wl_Ps_55 : Cond.methodLink R_Ps 55 y_Ps_skip ∈ TB ∧ Cond.instanceMethod y_Ps_skip ∈ TB ∧ Cond.selects R_Ps y_Ps_skip y_Ps_skip ∈ TB := ⟨wm_Ps_55, wi_Ps_skip, wsel_Ps_skip⟩
theorem wm_Ps_70 : Cond.methodLink R_Ps 70 y_Mc_setLatest ∈ TB := tb_h 202 (by decide +kernel) (by decide +kernel)
theorem wl_Ps_70 : Cond.methodLink R_Ps 70 y_Mc_setLatest ∈ TB ∧ Cond.instanceMethod y_Mc_setLatest ∈ TB ∧ Cond.selects R_Mc y_Mc_setLatest y_Mc_setLatest ∈ TB := ⟨wm_Ps_70, wi_Mc_setLatest, wsel_Mc_setLatest⟩
theorem wn_Pa : Cond.instantiable R_Pa 1 ∈ TB := tb_h 64 (by decide +kernel) (by decide +kernel)
theorem wo_Pa : Cond.methodLink R_Pa 3 objectInit ∈ TB := tb_h 68 (by decide +kernel) (by decide +kernel)
theorem wk_Pa_9 : Cond.classLink R_Pa 9 "[[I" ∈ TB := tb_h 69 (by decide +kernel) (by decide +kernel)
theorem wf_Pa_11 : Cond.fieldLink R_Pa 11 "MachineText$Paths" "times" "[[I" ∈ TB := tb_h 71 (by decide +kernel) (by decide +kernel)
theorem wf_Pa_19 : Cond.fieldLink R_Pa 19 "MachineText$Machine" "count" "I" ∈ TB := tb_h 105 (by decide +kernel) (by decide +kernel)
theorem wm_Pa_16 : Cond.methodLink R_Pa 16 y_Pa_forget ∈ TB := tb_h 211 (by decide +kernel) (by decide +kernel)
theorem wl_Pa_16 : Cond.methodLink R_Pa 16 y_Pa_forget ∈ TB ∧ Cond.instanceMethod y_Pa_forget ∈ TB ∧ Cond.selects R_Pa y_Pa_forget y_Pa_forget ∈ TB := ⟨wm_Pa_16, wi_Pa_forget, wsel_Pa_forget⟩
theorem wm_Pa_25 : Cond.methodLink R_Pa 25 y_Mc_goal ∈ TB := tb_h 215 (by decide +kernel) (by decide +kernel)
theorem wl_Pa_25 : Cond.methodLink R_Pa 25 y_Mc_goal ∈ TB ∧ Cond.instanceMethod y_Mc_goal ∈ TB ∧ Cond.selects R_Mc y_Mc_goal y_Mc_goal ∈ TB := ⟨wm_Pa_25, wi_Mc_goal, wsel_Mc_goal⟩
theorem wm_Pa_29 : Cond.methodLink R_Pa 29 y_Mc_timeThrough ∈ TB := tb_h 224 (by decide +kernel) (by decide +kernel)
theorem wl_Pa_29 : Cond.methodLink R_Pa 29 y_Mc_timeThrough ∈ TB ∧ Cond.instanceMethod y_Mc_timeThrough ∈ TB ∧ Cond.selects R_Mc y_Mc_timeThrough y_Mc_timeThrough ∈ TB := ⟨wm_Pa_29, wi_Mc_timeThrough, wsel_Mc_timeThrough⟩
theorem wm_Pa_33 : Cond.methodLink R_Pa 33 y_Pa_shorten ∈ TB := tb_h 228 (by decide +kernel) (by decide +kernel)
theorem wl_Pa_33 : Cond.methodLink R_Pa 33 y_Pa_shorten ∈ TB ∧ Cond.instanceMethod y_Pa_shorten ∈ TB ∧ Cond.selects R_Pa y_Pa_shorten y_Pa_shorten ∈ TB := ⟨wm_Pa_33, wi_Pa_shorten, wsel_Pa_shorten⟩
theorem wm_Pa_37 : Cond.methodLink R_Pa 37 y_Pa_joinAt ∈ TB := tb_h 232 (by decide +kernel) (by decide +kernel)
theorem wl_Pa_37 : Cond.methodLink R_Pa 37 y_Pa_joinAt ∈ TB ∧ Cond.instanceMethod y_Pa_joinAt ∈ TB ∧ Cond.selects R_Pa y_Pa_joinAt y_Pa_joinAt ∈ TB := ⟨wm_Pa_37, wi_Pa_joinAt, wsel_Pa_joinAt⟩
theorem wm_Pa_40 : Cond.methodLink R_Pa 40 y_Pa_leastTime ∈ TB := tb_h 236 (by decide +kernel) (by decide +kernel)
theorem wl_Pa_40 : Cond.methodLink R_Pa 40 y_Pa_leastTime ∈ TB ∧ Cond.instanceMethod y_Pa_leastTime ∈ TB ∧ Cond.selects R_Pa y_Pa_leastTime y_Pa_leastTime ∈ TB := ⟨wm_Pa_40, wi_Pa_leastTime, wsel_Pa_leastTime⟩
theorem wm_Pa_47 : Cond.methodLink R_Pa 47 y_Mc_value ∈ TB := tb_h 268 (by decide +kernel) (by decide +kernel)
theorem wl_Pa_47 : Cond.methodLink R_Pa 47 y_Mc_value ∈ TB ∧ Cond.instanceMethod y_Mc_value ∈ TB ∧ Cond.selects R_Mc y_Mc_value y_Mc_value ∈ TB := ⟨wm_Pa_47, wi_Mc_value, wsel_Mc_value⟩
theorem wm_Pa_43 : Cond.methodLink R_Pa 43 y_Pa_leads ∈ TB := tb_h 269 (by decide +kernel) (by decide +kernel)
theorem wl_Pa_43 : Cond.methodLink R_Pa 43 y_Pa_leads ∈ TB ∧ Cond.instanceMethod y_Pa_leads ∈ TB ∧ Cond.selects R_Pa y_Pa_leads y_Pa_leads ∈ TB := ⟨wm_Pa_43, wi_Pa_leads, wsel_Pa_leads⟩
theorem wn_Fl : Cond.instantiable R_Fl 2 ∈ TB := tb_h 77 (by decide +kernel) (by decide +kernel)
theorem wo_Fl : Cond.methodLink R_Fl 3 objectInit ∈ TB := tb_h 81 (by decide +kernel) (by decide +kernel)
theorem wk_Fl_9 : Cond.classLink R_Fl 9 "[[I" ∈ TB := tb_h 82 (by decide +kernel) (by decide +kernel)
theorem wf_Fl_11 : Cond.fieldLink R_Fl 11 "MachineText$FaultList" "columns" "[[I" ∈ TB := tb_h 83 (by decide +kernel) (by decide +kernel)
theorem wf_Fl_16 : Cond.fieldLink R_Fl 16 "MachineText$FaultList" "count" "I" ∈ TB := tb_h 84 (by decide +kernel) (by decide +kernel)
theorem wf_Fl_24 : Cond.fieldLink R_Fl 24 "MachineText$Machine" "count" "I" ∈ TB := tb_h 106 (by decide +kernel) (by decide +kernel)
theorem wm_Fl_20 : Cond.methodLink R_Fl 20 y_Fl_findWaysToNowhere ∈ TB := tb_h 244 (by decide +kernel) (by decide +kernel)
theorem wl_Fl_20 : Cond.methodLink R_Fl 20 y_Fl_findWaysToNowhere ∈ TB ∧ Cond.instanceMethod y_Fl_findWaysToNowhere ∈ TB ∧ Cond.selects R_Fl y_Fl_findWaysToNowhere y_Fl_findWaysToNowhere ∈ TB := ⟨wm_Fl_20, wi_Fl_findWaysToNowhere, wsel_Fl_findWaysToNowhere⟩
theorem wm_Fl_39 : Cond.methodLink R_Fl 39 y_Mc_hasWay ∈ TB := tb_h 248 (by decide +kernel) (by decide +kernel)
theorem wl_Fl_39 : Cond.methodLink R_Fl 39 y_Mc_hasWay ∈ TB ∧ Cond.instanceMethod y_Mc_hasWay ∈ TB ∧ Cond.selects R_Mc y_Mc_hasWay y_Mc_hasWay ∈ TB := ⟨wm_Fl_39, wi_Mc_hasWay, wsel_Mc_hasWay⟩
theorem wm_Fl_43 : Cond.methodLink R_Fl 43 y_Mc_goal ∈ TB := tb_h 252 (by decide +kernel) (by decide +kernel)
theorem wl_Fl_43 : Cond.methodLink R_Fl 43 y_Mc_goal ∈ TB ∧ Cond.instanceMethod y_Mc_goal ∈ TB ∧ Cond.selects R_Mc y_Mc_goal y_Mc_goal ∈ TB := ⟨wm_Fl_43, wi_Mc_goal, wsel_Mc_goal⟩
theorem wm_Fl_31 : Cond.methodLink R_Fl 31 y_Mc_value ∈ TB := tb_h 253 (by decide +kernel) (by decide +kernel)
theorem wl_Fl_31 : Cond.methodLink R_Fl 31 y_Mc_value ∈ TB ∧ Cond.instanceMethod y_Mc_value ∈ TB ∧ Cond.selects R_Mc y_Mc_value y_Mc_value ∈ TB := ⟨wm_Fl_31, wi_Mc_value, wsel_Mc_value⟩
theorem wm_Fl_35 : Cond.methodLink R_Fl 35 y_Fl_add ∈ TB := tb_h 254 (by decide +kernel) (by decide +kernel)
theorem wl_Fl_35 : Cond.methodLink R_Fl 35 y_Fl_add ∈ TB ∧ Cond.instanceMethod y_Fl_add ∈ TB ∧ Cond.selects R_Fl y_Fl_add y_Fl_add ∈ TB := ⟨wm_Fl_35, wi_Fl_add, wsel_Fl_add⟩
theorem wm_Fl_27 : Cond.methodLink R_Fl 27 y_Fl_isFaulty ∈ TB := tb_h 258 (by decide +kernel) (by decide +kernel)
theorem wl_Fl_27 : Cond.methodLink R_Fl 27 y_Fl_isFaulty ∈ TB ∧ Cond.static y_Fl_isFaulty ∈ TB := ⟨wm_Fl_27, wt_Fl_isFaulty⟩
theorem wm_Fl_46 : Cond.methodLink R_Fl 46 y_Fl_isTooSlow ∈ TB := tb_h 261 (by decide +kernel) (by decide +kernel)
theorem wl_Fl_46 : Cond.methodLink R_Fl 46 y_Fl_isTooSlow ∈ TB ∧ Cond.static y_Fl_isTooSlow ∈ TB := ⟨wm_Fl_46, wt_Fl_isTooSlow⟩
theorem wm_Fl_59 : Cond.methodLink R_Fl 59 y_Pa_leastGap ∈ TB := tb_h 264 (by decide +kernel) (by decide +kernel)
theorem wl_Fl_59 : Cond.methodLink R_Fl 59 y_Pa_leastGap ∈ TB ∧ Cond.instanceMethod y_Pa_leastGap ∈ TB ∧ Cond.selects R_Pa y_Pa_leastGap y_Pa_leastGap ∈ TB := ⟨wm_Fl_59, wi_Pa_leastGap, wsel_Pa_leastGap⟩
theorem wm_Fl_50 : Cond.methodLink R_Fl 50 y_Fl_goesToGate ∈ TB := tb_h 273 (by decide +kernel) (by decide +kernel)
theorem wl_Fl_50 : Cond.methodLink R_Fl 50 y_Fl_goesToGate ∈ TB ∧ Cond.static y_Fl_goesToGate ∈ TB := ⟨wm_Fl_50, wt_Fl_goesToGate⟩
theorem wm_Fl_54 : Cond.methodLink R_Fl 54 y_Pa_leads ∈ TB := tb_h 276 (by decide +kernel) (by decide +kernel)
theorem wl_Fl_54 : Cond.methodLink R_Fl 54 y_Pa_leads ∈ TB ∧ Cond.instanceMethod y_Pa_leads ∈ TB ∧ Cond.selects R_Pa y_Pa_leads y_Pa_leads ∈ TB := ⟨wm_Fl_54, wi_Pa_leads, wsel_Pa_leads⟩
theorem wm_Fl_63 : Cond.methodLink R_Fl 63 y_Pa_isReached ∈ TB := tb_h 277 (by decide +kernel) (by decide +kernel)
theorem wl_Fl_63 : Cond.methodLink R_Fl 63 y_Pa_isReached ∈ TB ∧ Cond.instanceMethod y_Pa_isReached ∈ TB ∧ Cond.selects R_Pa y_Pa_isReached y_Pa_isReached ∈ TB := ⟨wm_Fl_63, wi_Pa_isReached, wsel_Pa_isReached⟩
theorem wn_Mo : Cond.instantiable R_Mo 24 ∈ TB := tb_h 342 (by decide +kernel) (by decide +kernel)
theorem wo_Mo : Cond.methodLink R_Mo 1 objectInit ∈ TB := tb_h 346 (by decide +kernel) (by decide +kernel)
theorem wf_Mo_7 : Cond.fieldLink R_Mo 7 "MachineTextModel" "text" "[I" ∈ TB := tb_h 347 (by decide +kernel) (by decide +kernel)
theorem wf_Mo_63 : Cond.fieldLink R_Mo 63 "MachineTextModel" "size" "I" ∈ TB := tb_h 348 (by decide +kernel) (by decide +kernel)
theorem wf_Mo_67 : Cond.fieldLink R_Mo 67 "MachineTextModel" "at" "I" ∈ TB := tb_h 349 (by decide +kernel) (by decide +kernel)
theorem wf_Mo_70 : Cond.fieldLink R_Mo 70 "MachineTextModel" "wrong" "I" ∈ TB := tb_h 350 (by decide +kernel) (by decide +kernel)
theorem wf_Mo_81 : Cond.fieldLink R_Mo 81 "MachineTextModel" "draft" "I" ∈ TB := tb_h 351 (by decide +kernel) (by decide +kernel)
theorem wf_Mo_13 : Cond.fieldLink R_Mo 13 "MachineTextModel" "draftKind" "[I" ∈ TB := tb_h 352 (by decide +kernel) (by decide +kernel)
theorem wf_Mo_16 : Cond.fieldLink R_Mo 16 "MachineTextModel" "draftName" "[I" ∈ TB := tb_h 353 (by decide +kernel) (by decide +kernel)
theorem wf_Mo_19 : Cond.fieldLink R_Mo 19 "MachineTextModel" "draftNumber" "[I" ∈ TB := tb_h 354 (by decide +kernel) (by decide +kernel)
theorem wf_Mo_22 : Cond.fieldLink R_Mo 22 "MachineTextModel" "draftSpeed" "[I" ∈ TB := tb_h 355 (by decide +kernel) (by decide +kernel)
theorem wf_Mo_25 : Cond.fieldLink R_Mo 25 "MachineTextModel" "draftWays" "[I" ∈ TB := tb_h 356 (by decide +kernel) (by decide +kernel)
theorem wf_Mo_101 : Cond.fieldLink R_Mo 101 "MachineTextModel" "parts" "I" ∈ TB := tb_h 357 (by decide +kernel) (by decide +kernel)
theorem wf_Mo_28 : Cond.fieldLink R_Mo 28 "MachineTextModel" "kinds" "[I" ∈ TB := tb_h 358 (by decide +kernel) (by decide +kernel)
theorem wf_Mo_31 : Cond.fieldLink R_Mo 31 "MachineTextModel" "names" "[I" ∈ TB := tb_h 359 (by decide +kernel) (by decide +kernel)
theorem wf_Mo_34 : Cond.fieldLink R_Mo 34 "MachineTextModel" "numbers" "[I" ∈ TB := tb_h 360 (by decide +kernel) (by decide +kernel)
theorem wf_Mo_37 : Cond.fieldLink R_Mo 37 "MachineTextModel" "speeds" "[I" ∈ TB := tb_h 361 (by decide +kernel) (by decide +kernel)
theorem wf_Mo_40 : Cond.fieldLink R_Mo 40 "MachineTextModel" "ways" "[I" ∈ TB := tb_h 362 (by decide +kernel) (by decide +kernel)
theorem wf_Mo_43 : Cond.fieldLink R_Mo 43 "MachineTextModel" "leads" "[Z" ∈ TB := tb_h 363 (by decide +kernel) (by decide +kernel)
theorem wf_Mo_119 : Cond.fieldLink R_Mo 119 "MachineTextModel" "faults" "I" ∈ TB := tb_h 364 (by decide +kernel) (by decide +kernel)
theorem wf_Mo_47 : Cond.fieldLink R_Mo 47 "MachineTextModel" "faultKind" "[I" ∈ TB := tb_h 365 (by decide +kernel) (by decide +kernel)
theorem wf_Mo_50 : Cond.fieldLink R_Mo 50 "MachineTextModel" "faultName" "[I" ∈ TB := tb_h 366 (by decide +kernel) (by decide +kernel)
theorem wf_Mo_53 : Cond.fieldLink R_Mo 53 "MachineTextModel" "faultWay" "[I" ∈ TB := tb_h 367 (by decide +kernel) (by decide +kernel)
theorem wf_Mo_56 : Cond.fieldLink R_Mo 56 "MachineTextModel" "best" "[J" ∈ TB := tb_h 368 (by decide +kernel) (by decide +kernel)
theorem wf_Mo_138 : Cond.fieldLink R_Mo 138 "MachineTextModel" "printed" "I" ∈ TB := tb_h 369 (by decide +kernel) (by decide +kernel)
theorem wf_Mo_60 : Cond.fieldLink R_Mo 60 "MachineTextModel" "print" "[I" ∈ TB := tb_h 370 (by decide +kernel) (by decide +kernel)
theorem wm_Mo_98 : Cond.methodLink R_Mo 98 y_Mo_readPart ∈ TB := tb_h 430 (by decide +kernel) (by decide +kernel)
theorem wl_Mo_98 : Cond.methodLink R_Mo 98 y_Mo_readPart ∈ TB ∧ Cond.instanceMethod y_Mo_readPart ∈ TB ∧ Cond.selects R_Mo y_Mo_readPart y_Mo_readPart ∈ TB := ⟨wm_Mo_98, wi_Mo_readPart, wsel_Mo_readPart⟩
theorem wm_Mo_73 : Cond.methodLink R_Mo 73 y_Mo_look ∈ TB := tb_h 434 (by decide +kernel) (by decide +kernel)
theorem wl_Mo_73 : Cond.methodLink R_Mo 73 y_Mo_look ∈ TB ∧ Cond.instanceMethod y_Mo_look ∈ TB ∧ Cond.selects R_Mo y_Mo_look y_Mo_look ∈ TB := ⟨wm_Mo_73, wi_Mo_look, wsel_Mo_look⟩
theorem wm_Mo_88 : Cond.methodLink R_Mo 88 y_Mo_kindOf ∈ TB := tb_h 438 (by decide +kernel) (by decide +kernel)
theorem wl_Mo_88 : Cond.methodLink R_Mo 88 y_Mo_kindOf ∈ TB ∧ Cond.static y_Mo_kindOf ∈ TB := ⟨wm_Mo_88, wt_Mo_kindOf⟩
theorem wm_Mo_77 : Cond.methodLink R_Mo 77 y_Mo_mark ∈ TB := tb_h 441 (by decide +kernel) (by decide +kernel)
theorem wl_Mo_77 : Cond.methodLink R_Mo 77 y_Mo_mark ∈ TB ∧ Cond.instanceMethod y_Mo_mark ∈ TB ∧ Cond.selects R_Mo y_Mo_mark y_Mo_mark ∈ TB := ⟨wm_Mo_77, wi_Mo_mark, wsel_Mo_mark⟩
theorem wm_Mo_84 : Cond.methodLink R_Mo 84 y_Mo_number ∈ TB := tb_h 445 (by decide +kernel) (by decide +kernel)
theorem wl_Mo_84 : Cond.methodLink R_Mo 84 y_Mo_number ∈ TB ∧ Cond.instanceMethod y_Mo_number ∈ TB ∧ Cond.selects R_Mo y_Mo_number y_Mo_number ∈ TB := ⟨wm_Mo_84, wi_Mo_number, wsel_Mo_number⟩
theorem wm_Mo_92 : Cond.methodLink R_Mo 92 y_Mo_take ∈ TB := tb_h 449 (by decide +kernel) (by decide +kernel)
theorem wl_Mo_92 : Cond.methodLink R_Mo 92 y_Mo_take ∈ TB ∧ Cond.instanceMethod y_Mo_take ∈ TB ∧ Cond.selects R_Mo y_Mo_take y_Mo_take ∈ TB := ⟨wm_Mo_92, wi_Mo_take, wsel_Mo_take⟩
theorem wm_Mo_95 : Cond.methodLink R_Mo 95 y_Mo_way ∈ TB := tb_h 453 (by decide +kernel) (by decide +kernel)
theorem wl_Mo_95 : Cond.methodLink R_Mo 95 y_Mo_way ∈ TB ∧ Cond.instanceMethod y_Mo_way ∈ TB ∧ Cond.selects R_Mo y_Mo_way y_Mo_way ∈ TB := ⟨wm_Mo_95, wi_Mo_way, wsel_Mo_way⟩
theorem wm_Mo_104 : Cond.methodLink R_Mo 104 y_Mo_lay ∈ TB := tb_h 457 (by decide +kernel) (by decide +kernel)
theorem wl_Mo_104 : Cond.methodLink R_Mo 104 y_Mo_lay ∈ TB ∧ Cond.instanceMethod y_Mo_lay ∈ TB ∧ Cond.selects R_Mo y_Mo_lay y_Mo_lay ∈ TB := ⟨wm_Mo_104, wi_Mo_lay, wsel_Mo_lay⟩
theorem wm_Mo_113 : Cond.methodLink R_Mo 113 y_Mo_target ∈ TB := tb_h 461 (by decide +kernel) (by decide +kernel)
theorem wl_Mo_113 : Cond.methodLink R_Mo 113 y_Mo_target ∈ TB ∧ Cond.instanceMethod y_Mo_target ∈ TB ∧ Cond.selects R_Mo y_Mo_target y_Mo_target ∈ TB := ⟨wm_Mo_113, wi_Mo_target, wsel_Mo_target⟩
theorem wm_Mo_110 : Cond.methodLink R_Mo 110 y_Mo_find ∈ TB := tb_h 465 (by decide +kernel) (by decide +kernel)
theorem wl_Mo_110 : Cond.methodLink R_Mo 110 y_Mo_find ∈ TB ∧ Cond.instanceMethod y_Mo_find ∈ TB ∧ Cond.selects R_Mo y_Mo_find y_Mo_find ∈ TB := ⟨wm_Mo_110, wi_Mo_find, wsel_Mo_find⟩
theorem wm_Mo_107 : Cond.methodLink R_Mo 107 y_Mo_judge ∈ TB := tb_h 469 (by decide +kernel) (by decide +kernel)
theorem wl_Mo_107 : Cond.methodLink R_Mo 107 y_Mo_judge ∈ TB ∧ Cond.instanceMethod y_Mo_judge ∈ TB ∧ Cond.selects R_Mo y_Mo_judge y_Mo_judge ∈ TB := ⟨wm_Mo_107, wi_Mo_judge, wsel_Mo_judge⟩
theorem wm_Mo_122 : Cond.methodLink R_Mo 122 y_Mo_isWrong ∈ TB := tb_h 473 (by decide +kernel) (by decide +kernel)
theorem wl_Mo_122 : Cond.methodLink R_Mo 122 y_Mo_isWrong ∈ TB ∧ Cond.instanceMethod y_Mo_isWrong ∈ TB ∧ Cond.selects R_Mo y_Mo_isWrong y_Mo_isWrong ∈ TB := ⟨wm_Mo_122, wi_Mo_isWrong, wsel_Mo_isWrong⟩
theorem wm_Mo_116 : Cond.methodLink R_Mo 116 y_Mo_gapOf ∈ TB := tb_h 477 (by decide +kernel) (by decide +kernel)
theorem wl_Mo_116 : Cond.methodLink R_Mo 116 y_Mo_gapOf ∈ TB ∧ Cond.instanceMethod y_Mo_gapOf ∈ TB ∧ Cond.selects R_Mo y_Mo_gapOf y_Mo_gapOf ∈ TB := ⟨wm_Mo_116, wi_Mo_gapOf, wsel_Mo_gapOf⟩
theorem wk_Mo_128 : Cond.constantLong R_Mo 128 (-11) ∈ TB := tb_h 501 (by decide +kernel) (by decide +kernel)
theorem wk_Mo_130 : Cond.constantLong R_Mo 130 (9000000000000) ∈ TB := tb_h 502 (by decide +kernel) (by decide +kernel)
theorem wm_Mo_132 : Cond.methodLink R_Mo 132 y_Mo_through ∈ TB := tb_h 503 (by decide +kernel) (by decide +kernel)
theorem wl_Mo_132 : Cond.methodLink R_Mo 132 y_Mo_through ∈ TB ∧ Cond.instanceMethod y_Mo_through ∈ TB ∧ Cond.selects R_Mo y_Mo_through y_Mo_through ∈ TB := ⟨wm_Mo_132, wi_Mo_through, wsel_Mo_through⟩
theorem wk_Mo_126 : Cond.constantLong R_Mo 126 (1000) ∈ TB := tb_h 507 (by decide +kernel) (by decide +kernel)
theorem wk_Mo_136 : Cond.constantLong R_Mo 136 (-1) ∈ TB := tb_h 508 (by decide +kernel) (by decide +kernel)
theorem wm_Mo_144 : Cond.methodLink R_Mo 144 y_Mo_letterOf ∈ TB := tb_h 521 (by decide +kernel) (by decide +kernel)
theorem wl_Mo_144 : Cond.methodLink R_Mo 144 y_Mo_letterOf ∈ TB ∧ Cond.static y_Mo_letterOf ∈ TB := ⟨wm_Mo_144, wt_Mo_letterOf⟩
theorem wm_Mo_141 : Cond.methodLink R_Mo 141 y_Mo_put ∈ TB := tb_h 524 (by decide +kernel) (by decide +kernel)
theorem wl_Mo_141 : Cond.methodLink R_Mo 141 y_Mo_put ∈ TB ∧ Cond.instanceMethod y_Mo_put ∈ TB ∧ Cond.selects R_Mo y_Mo_put y_Mo_put ∈ TB := ⟨wm_Mo_141, wi_Mo_put, wsel_Mo_put⟩
theorem wm_Mo_147 : Cond.methodLink R_Mo 147 y_Mo_putNumber ∈ TB := tb_h 528 (by decide +kernel) (by decide +kernel)
theorem wl_Mo_147 : Cond.methodLink R_Mo 147 y_Mo_putNumber ∈ TB ∧ Cond.instanceMethod y_Mo_putNumber ∈ TB ∧ Cond.selects R_Mo y_Mo_putNumber y_Mo_putNumber ∈ TB := ⟨wm_Mo_147, wi_Mo_putNumber, wsel_Mo_putNumber⟩
theorem wk_Lw_7 : Cond.classLink R_Lw 7 "MachineText" ∈ TB := tb_h 25 (by decide +kernel) (by decide +kernel)
theorem wm_Lw_9 : Cond.methodLink R_Lw 9 y_MT_init ∈ TB := tb_h 27 (by decide +kernel) (by decide +kernel)
theorem wl_Lw_9 : Cond.methodLink R_Lw 9 y_MT_init ∈ TB ∧ Cond.instanceMethod y_MT_init ∈ TB ∧ y_MT_init.name = "<init>" := ⟨wm_Lw_9, wi_MT_init, rfl⟩
theorem wm_Lw_13 : Cond.methodLink R_Lw 13 y_MT_sign ∈ TB := tb_h 137 (by decide +kernel) (by decide +kernel)
theorem wl_Lw_13 : Cond.methodLink R_Lw 13 y_MT_sign ∈ TB ∧ Cond.instanceMethod y_MT_sign ∈ TB ∧ Cond.selects R_MT y_MT_sign y_MT_sign ∈ TB := ⟨wm_Lw_13, wi_MT_sign, wsel_MT_sign⟩
theorem wm_Lw_18 : Cond.methodLink R_Lw 18 y_MT_read ∈ TB := tb_h 145 (by decide +kernel) (by decide +kernel)
theorem wl_Lw_18 : Cond.methodLink R_Lw 18 y_MT_read ∈ TB ∧ Cond.instanceMethod y_MT_read ∈ TB ∧ Cond.selects R_MT y_MT_read y_MT_read ∈ TB := ⟨wm_Lw_18, wi_MT_read, wsel_MT_read⟩
theorem wm_Lw_23 : Cond.methodLink R_Lw 23 y_MT_part ∈ TB := tb_h 281 (by decide +kernel) (by decide +kernel)
theorem wl_Lw_23 : Cond.methodLink R_Lw 23 y_MT_part ∈ TB ∧ Cond.instanceMethod y_MT_part ∈ TB ∧ Cond.selects R_MT y_MT_part y_MT_part ∈ TB := ⟨wm_Lw_23, wi_MT_part, wsel_MT_part⟩
theorem wm_Lw_28 : Cond.methodLink R_Lw 28 y_MT_check ∈ TB := tb_h 286 (by decide +kernel) (by decide +kernel)
theorem wl_Lw_28 : Cond.methodLink R_Lw 28 y_MT_check ∈ TB ∧ Cond.instanceMethod y_MT_check ∈ TB ∧ Cond.selects R_MT y_MT_check y_MT_check ∈ TB := ⟨wm_Lw_28, wi_MT_check, wsel_MT_check⟩
theorem wm_Lw_32 : Cond.methodLink R_Lw 32 y_MT_fault ∈ TB := tb_h 290 (by decide +kernel) (by decide +kernel)
theorem wl_Lw_32 : Cond.methodLink R_Lw 32 y_MT_fault ∈ TB ∧ Cond.instanceMethod y_MT_fault ∈ TB ∧ Cond.selects R_MT y_MT_fault y_MT_fault ∈ TB := ⟨wm_Lw_32, wi_MT_fault, wsel_MT_fault⟩
theorem wm_Lw_36 : Cond.methodLink R_Lw 36 y_MT_reach ∈ TB := tb_h 298 (by decide +kernel) (by decide +kernel)
theorem wl_Lw_36 : Cond.methodLink R_Lw 36 y_MT_reach ∈ TB ∧ Cond.instanceMethod y_MT_reach ∈ TB ∧ Cond.selects R_MT y_MT_reach y_MT_reach ∈ TB := ⟨wm_Lw_36, wi_MT_reach, wsel_MT_reach⟩
theorem wm_Lw_41 : Cond.methodLink R_Lw 41 y_MT_time ∈ TB := tb_h 304 (by decide +kernel) (by decide +kernel)
theorem wl_Lw_41 : Cond.methodLink R_Lw 41 y_MT_time ∈ TB ∧ Cond.instanceMethod y_MT_time ∈ TB ∧ Cond.selects R_MT y_MT_time y_MT_time ∈ TB := ⟨wm_Lw_41, wi_MT_time, wsel_MT_time⟩
theorem wm_Lw_46 : Cond.methodLink R_Lw 46 y_MT_gap ∈ TB := tb_h 310 (by decide +kernel) (by decide +kernel)
theorem wl_Lw_46 : Cond.methodLink R_Lw 46 y_MT_gap ∈ TB ∧ Cond.instanceMethod y_MT_gap ∈ TB ∧ Cond.selects R_MT y_MT_gap y_MT_gap ∈ TB := ⟨wm_Lw_46, wi_MT_gap, wsel_MT_gap⟩
theorem wm_Lw_52 : Cond.methodLink R_Lw 52 y_MT_suffices ∈ TB := tb_h 314 (by decide +kernel) (by decide +kernel)
theorem wl_Lw_52 : Cond.methodLink R_Lw 52 y_MT_suffices ∈ TB ∧ Cond.instanceMethod y_MT_suffices ∈ TB ∧ Cond.selects R_MT y_MT_suffices y_MT_suffices ∈ TB := ⟨wm_Lw_52, wi_MT_suffices, wsel_MT_suffices⟩
theorem wm_Lw_57 : Cond.methodLink R_Lw 57 y_MT_print ∈ TB := tb_h 318 (by decide +kernel) (by decide +kernel)
theorem wl_Lw_57 : Cond.methodLink R_Lw 57 y_MT_print ∈ TB ∧ Cond.instanceMethod y_MT_print ∈ TB ∧ Cond.selects R_MT y_MT_print y_MT_print ∈ TB := ⟨wm_Lw_57, wi_MT_print, wsel_MT_print⟩
theorem wm_Lw_61 : Cond.methodLink R_Lw 61 y_MT_at ∈ TB := tb_h 336 (by decide +kernel) (by decide +kernel)
theorem wl_Lw_61 : Cond.methodLink R_Lw 61 y_MT_at ∈ TB ∧ Cond.instanceMethod y_MT_at ∈ TB ∧ Cond.selects R_MT y_MT_at y_MT_at ∈ TB := ⟨wm_Lw_61, wi_MT_at, wsel_MT_at⟩
theorem wk_Lw_10 : Cond.classLink R_Lw 10 "MachineTextModel" ∈ TB := tb_h 341 (by decide +kernel) (by decide +kernel)
theorem wm_Lw_12 : Cond.methodLink R_Lw 12 y_Mo_init ∈ TB := tb_h 343 (by decide +kernel) (by decide +kernel)
theorem wl_Lw_12 : Cond.methodLink R_Lw 12 y_Mo_init ∈ TB ∧ Cond.instanceMethod y_Mo_init ∈ TB ∧ y_Mo_init.name = "<init>" := ⟨wm_Lw_12, wi_Mo_init, rfl⟩
theorem wm_Lw_17 : Cond.methodLink R_Lw 17 y_Mo_sign ∈ TB := tb_h 422 (by decide +kernel) (by decide +kernel)
theorem wl_Lw_17 : Cond.methodLink R_Lw 17 y_Mo_sign ∈ TB ∧ Cond.instanceMethod y_Mo_sign ∈ TB ∧ Cond.selects R_Mo y_Mo_sign y_Mo_sign ∈ TB := ⟨wm_Lw_17, wi_Mo_sign, wsel_Mo_sign⟩
theorem wm_Lw_22 : Cond.methodLink R_Lw 22 y_Mo_read ∈ TB := tb_h 426 (by decide +kernel) (by decide +kernel)
theorem wl_Lw_22 : Cond.methodLink R_Lw 22 y_Mo_read ∈ TB ∧ Cond.instanceMethod y_Mo_read ∈ TB ∧ Cond.selects R_Mo y_Mo_read y_Mo_read ∈ TB := ⟨wm_Lw_22, wi_Mo_read, wsel_Mo_read⟩
theorem wm_Lw_27 : Cond.methodLink R_Lw 27 y_Mo_part ∈ TB := tb_h 481 (by decide +kernel) (by decide +kernel)
theorem wl_Lw_27 : Cond.methodLink R_Lw 27 y_Mo_part ∈ TB ∧ Cond.instanceMethod y_Mo_part ∈ TB ∧ Cond.selects R_Mo y_Mo_part y_Mo_part ∈ TB := ⟨wm_Lw_27, wi_Mo_part, wsel_Mo_part⟩
theorem wm_Lw_31 : Cond.methodLink R_Lw 31 y_Mo_check ∈ TB := tb_h 485 (by decide +kernel) (by decide +kernel)
theorem wl_Lw_31 : Cond.methodLink R_Lw 31 y_Mo_check ∈ TB ∧ Cond.instanceMethod y_Mo_check ∈ TB ∧ Cond.selects R_Mo y_Mo_check y_Mo_check ∈ TB := ⟨wm_Lw_31, wi_Mo_check, wsel_Mo_check⟩
theorem wm_Lw_35 : Cond.methodLink R_Lw 35 y_Mo_fault ∈ TB := tb_h 489 (by decide +kernel) (by decide +kernel)
theorem wl_Lw_35 : Cond.methodLink R_Lw 35 y_Mo_fault ∈ TB ∧ Cond.instanceMethod y_Mo_fault ∈ TB ∧ Cond.selects R_Mo y_Mo_fault y_Mo_fault ∈ TB := ⟨wm_Lw_35, wi_Mo_fault, wsel_Mo_fault⟩
theorem wm_Lw_40 : Cond.methodLink R_Lw 40 y_Mo_reach ∈ TB := tb_h 493 (by decide +kernel) (by decide +kernel)
theorem wl_Lw_40 : Cond.methodLink R_Lw 40 y_Mo_reach ∈ TB ∧ Cond.instanceMethod y_Mo_reach ∈ TB ∧ Cond.selects R_Mo y_Mo_reach y_Mo_reach ∈ TB := ⟨wm_Lw_40, wi_Mo_reach, wsel_Mo_reach⟩
theorem wm_Lw_45 : Cond.methodLink R_Lw 45 y_Mo_time ∈ TB := tb_h 497 (by decide +kernel) (by decide +kernel)
theorem wl_Lw_45 : Cond.methodLink R_Lw 45 y_Mo_time ∈ TB ∧ Cond.instanceMethod y_Mo_time ∈ TB ∧ Cond.selects R_Mo y_Mo_time y_Mo_time ∈ TB := ⟨wm_Lw_45, wi_Mo_time, wsel_Mo_time⟩
theorem wm_Lw_49 : Cond.methodLink R_Lw 49 y_Mo_gap ∈ TB := tb_h 509 (by decide +kernel) (by decide +kernel)
theorem wl_Lw_49 : Cond.methodLink R_Lw 49 y_Mo_gap ∈ TB ∧ Cond.instanceMethod y_Mo_gap ∈ TB ∧ Cond.selects R_Mo y_Mo_gap y_Mo_gap ∈ TB := ⟨wm_Lw_49, wi_Mo_gap, wsel_Mo_gap⟩
theorem wm_Lw_56 : Cond.methodLink R_Lw 56 y_Mo_suffices ∈ TB := tb_h 513 (by decide +kernel) (by decide +kernel)
theorem wl_Lw_56 : Cond.methodLink R_Lw 56 y_Mo_suffices ∈ TB ∧ Cond.instanceMethod y_Mo_suffices ∈ TB ∧ Cond.selects R_Mo y_Mo_suffices y_Mo_suffices ∈ TB := ⟨wm_Lw_56, wi_Mo_suffices, wsel_Mo_suffices⟩
theorem wm_Lw_60 : Cond.methodLink R_Lw 60 y_Mo_print ∈ TB := tb_h 517 (by decide +kernel) (by decide +kernel)
theorem wl_Lw_60 : Cond.methodLink R_Lw 60 y_Mo_print ∈ TB ∧ Cond.instanceMethod y_Mo_print ∈ TB ∧ Cond.selects R_Mo y_Mo_print y_Mo_print ∈ TB := ⟨wm_Lw_60, wi_Mo_print, wsel_Mo_print⟩
theorem wm_Lw_64 : Cond.methodLink R_Lw 64 y_Mo_at ∈ TB := tb_h 532 (by decide +kernel) (by decide +kernel)
theorem wl_Lw_64 : Cond.methodLink R_Lw 64 y_Mo_at ∈ TB ∧ Cond.instanceMethod y_Mo_at ∈ TB ∧ Cond.selects R_Mo y_Mo_at y_Mo_at ∈ TB := ⟨wm_Lw_64, wi_Mo_at, wsel_Mo_at⟩
theorem wk_Lw_50 : Cond.constantLong R_Lw 50 (4294967295) ∈ TB := tb_h 536 (by decide +kernel) (by decide +kernel)
theorem wa_char : Cond.arrayClass .char ∈ TB := tb_h 48 (by decide +kernel) (by decide +kernel)
theorem wa_int : Cond.arrayClass .int ∈ TB := tb_h 75 (by decide +kernel) (by decide +kernel)
theorem wa_boolean : Cond.arrayClass .boolean ∈ TB := tb_h 420 (by decide +kernel) (by decide +kernel)
theorem wa_long : Cond.arrayClass .long ∈ TB := tb_h 421 (by decide +kernel) (by decide +kernel)
-- object word 31 (.instanceMethod ⟨"java/lang/Object", "<init>", "()V"⟩)
-- object word 32 (.code ⟨"java/lang/Object", "<init>", "()V"⟩ object_method_1_code 1 none)
def xNest : List Cond := [Cond.fieldLinkNest "MachineText$Parser" 77 "MachineText" "LETTERS" "[C" "MachineText", Cond.fieldLinkNest "MachineText$Parser" 40 "MachineText" "LEAST_SIZES" "[I" "MachineText", Cond.fieldLinkNest "MachineText$Parser" 44 "MachineText" "MOST_SIZES" "[I" "MachineText"]
theorem xNest_on : ∀ w ∈ xNest, w.onTables = true := by decide +kernel
theorem xNest_tb : ∀ w ∈ xNest, w ∈ lw_tbl := by decide +kernel
theorem xNest_warm {s U : State} (hW : s.WarmedH U.vm) : ∀ w ∈ xNest, va_Nw w s → va_Nw w U := by
  intro w hw h
  simp only [xNest, List.mem_cons, List.not_mem_nil, or_false] at hw
  rcases hw with rfl | rfl | rfl <;> exact va_Nw.warmF hW h
end
section
theorem d_MT_init_0 : decode b_MT_init 0 = .ok (.aload_n 0, 1) := by decide +kernel
theorem d_MT_init_1 : decode b_MT_init 1 = .ok (.invokespecial 3, 3) := by decide +kernel
theorem d_MT_init_4 : decode b_MT_init 4 = .ok (.aload_n 0, 1) := by decide +kernel
theorem d_MT_init_5 : decode b_MT_init 5 = .ok (.new 9, 3) := by decide +kernel
theorem d_MT_init_8 : decode b_MT_init 8 = .ok (.dup, 1) := by decide +kernel
theorem d_MT_init_9 : decode b_MT_init 9 = .ok (.invokespecial 11, 3) := by decide +kernel
theorem d_MT_init_12 : decode b_MT_init 12 = .ok (.putfield 12, 3) := by decide +kernel
theorem d_MT_init_15 : decode b_MT_init 15 = .ok (.aload_n 0, 1) := by decide +kernel
theorem d_MT_init_16 : decode b_MT_init 16 = .ok (.new 9, 3) := by decide +kernel
theorem d_MT_init_19 : decode b_MT_init 19 = .ok (.dup, 1) := by decide +kernel
theorem d_MT_init_20 : decode b_MT_init 20 = .ok (.invokespecial 11, 3) := by decide +kernel
theorem d_MT_init_23 : decode b_MT_init 23 = .ok (.putfield 16, 3) := by decide +kernel
theorem d_MT_init_26 : decode b_MT_init 26 = .ok (.aload_n 0, 1) := by decide +kernel
theorem d_MT_init_27 : decode b_MT_init 27 = .ok (.new 19, 3) := by decide +kernel
theorem d_MT_init_30 : decode b_MT_init 30 = .ok (.dup, 1) := by decide +kernel
theorem d_MT_init_31 : decode b_MT_init 31 = .ok (.aload_n 0, 1) := by decide +kernel
theorem d_MT_init_32 : decode b_MT_init 32 = .ok (.getfield 12, 3) := by decide +kernel
theorem d_MT_init_35 : decode b_MT_init 35 = .ok (.invokespecial 21, 3) := by decide +kernel
theorem d_MT_init_38 : decode b_MT_init 38 = .ok (.putfield 24, 3) := by decide +kernel
theorem d_MT_init_41 : decode b_MT_init 41 = .ok (.aload_n 0, 1) := by decide +kernel
theorem d_MT_init_42 : decode b_MT_init 42 = .ok (.new 28, 3) := by decide +kernel
theorem d_MT_init_45 : decode b_MT_init 45 = .ok (.dup, 1) := by decide +kernel
theorem d_MT_init_46 : decode b_MT_init 46 = .ok (.invokespecial 30, 3) := by decide +kernel
theorem d_MT_init_49 : decode b_MT_init 49 = .ok (.putfield 31, 3) := by decide +kernel
theorem d_MT_init_52 : decode b_MT_init 52 = .ok (.aload_n 0, 1) := by decide +kernel
theorem d_MT_init_53 : decode b_MT_init 53 = .ok (.new 35, 3) := by decide +kernel
theorem d_MT_init_56 : decode b_MT_init 56 = .ok (.dup, 1) := by decide +kernel
theorem d_MT_init_57 : decode b_MT_init 57 = .ok (.invokespecial 37, 3) := by decide +kernel
theorem d_MT_init_60 : decode b_MT_init 60 = .ok (.putfield 38, 3) := by decide +kernel
theorem d_MT_init_63 : decode b_MT_init 63 = .ok (.aload_n 0, 1) := by decide +kernel
theorem d_MT_init_64 : decode b_MT_init 64 = .ok (.new 42, 3) := by decide +kernel
theorem d_MT_init_67 : decode b_MT_init 67 = .ok (.dup, 1) := by decide +kernel
theorem d_MT_init_68 : decode b_MT_init 68 = .ok (.invokespecial 44, 3) := by decide +kernel
theorem d_MT_init_71 : decode b_MT_init 71 = .ok (.putfield 45, 3) := by decide +kernel
theorem d_MT_init_74 : decode b_MT_init 74 = .ok (.aload_n 0, 1) := by decide +kernel
theorem d_MT_init_75 : decode b_MT_init 75 = .ok (.new 42, 3) := by decide +kernel
theorem d_MT_init_78 : decode b_MT_init 78 = .ok (.dup, 1) := by decide +kernel
theorem d_MT_init_79 : decode b_MT_init 79 = .ok (.invokespecial 44, 3) := by decide +kernel
theorem d_MT_init_82 : decode b_MT_init 82 = .ok (.putfield 49, 3) := by decide +kernel
theorem d_MT_init_85 : decode b_MT_init 85 = .ok (.return_, 1) := by decide +kernel
theorem d_MT_sign_0 : decode b_MT_sign 0 = .ok (.iload_n 1, 1) := by decide +kernel
theorem d_MT_sign_1 : decode b_MT_sign 1 = .ok (.bipush 32, 2) := by decide +kernel
theorem d_MT_sign_3 : decode b_MT_sign 3 = .ok (.if_icmp .lt 25, 3) := by decide +kernel
theorem d_MT_sign_6 : decode b_MT_sign 6 = .ok (.iload_n 1, 1) := by decide +kernel
theorem d_MT_sign_7 : decode b_MT_sign 7 = .ok (.bipush 126, 2) := by decide +kernel
theorem d_MT_sign_9 : decode b_MT_sign 9 = .ok (.if_icmp .gt 19, 3) := by decide +kernel
theorem d_MT_sign_12 : decode b_MT_sign 12 = .ok (.aload_n 0, 1) := by decide +kernel
theorem d_MT_sign_13 : decode b_MT_sign 13 = .ok (.getfield 12, 3) := by decide +kernel
theorem d_MT_sign_16 : decode b_MT_sign 16 = .ok (.iload_n 1, 1) := by decide +kernel
theorem d_MT_sign_17 : decode b_MT_sign 17 = .ok (.i2c, 1) := by decide +kernel
theorem d_MT_sign_18 : decode b_MT_sign 18 = .ok (.invokevirtual 52, 3) := by decide +kernel
theorem d_MT_sign_21 : decode b_MT_sign 21 = .ok (.ifCond .eq 7, 3) := by decide +kernel
theorem d_MT_sign_24 : decode b_MT_sign 24 = .ok (.iconst 1, 1) := by decide +kernel
theorem d_MT_sign_25 : decode b_MT_sign 25 = .ok (.goto 4, 3) := by decide +kernel
theorem d_MT_sign_28 : decode b_MT_sign 28 = .ok (.iconst 0, 1) := by decide +kernel
theorem d_MT_sign_29 : decode b_MT_sign 29 = .ok (.ireturn, 1) := by decide +kernel
theorem d_MT_read_0 : decode b_MT_read 0 = .ok (.aload_n 0, 1) := by decide +kernel
theorem d_MT_read_1 : decode b_MT_read 1 = .ok (.getfield 24, 3) := by decide +kernel
theorem d_MT_read_4 : decode b_MT_read 4 = .ok (.aload_n 0, 1) := by decide +kernel
theorem d_MT_read_5 : decode b_MT_read 5 = .ok (.getfield 49, 3) := by decide +kernel
theorem d_MT_read_8 : decode b_MT_read 8 = .ok (.invokevirtual 56, 3) := by decide +kernel
theorem d_MT_read_11 : decode b_MT_read 11 = .ok (.istore_n 1, 1) := by decide +kernel
theorem d_MT_read_12 : decode b_MT_read 12 = .ok (.aload_n 0, 1) := by decide +kernel
theorem d_MT_read_13 : decode b_MT_read 13 = .ok (.getfield 12, 3) := by decide +kernel
theorem d_MT_read_16 : decode b_MT_read 16 = .ok (.invokevirtual 60, 3) := by decide +kernel
theorem d_MT_read_19 : decode b_MT_read 19 = .ok (.iload_n 1, 1) := by decide +kernel
theorem d_MT_read_20 : decode b_MT_read 20 = .ok (.ifCond .ne 13, 3) := by decide +kernel
theorem d_MT_read_23 : decode b_MT_read 23 = .ok (.iconst (-1), 1) := by decide +kernel
theorem d_MT_read_24 : decode b_MT_read 24 = .ok (.aload_n 0, 1) := by decide +kernel
theorem d_MT_read_25 : decode b_MT_read 25 = .ok (.getfield 24, 3) := by decide +kernel
theorem d_MT_read_28 : decode b_MT_read 28 = .ok (.getfield 63, 3) := by decide +kernel
theorem d_MT_read_31 : decode b_MT_read 31 = .ok (.isub, 1) := by decide +kernel
theorem d_MT_read_32 : decode b_MT_read 32 = .ok (.ireturn, 1) := by decide +kernel
theorem d_MT_read_33 : decode b_MT_read 33 = .ok (.aload_n 0, 1) := by decide +kernel
theorem d_MT_read_34 : decode b_MT_read 34 = .ok (.getfield 45, 3) := by decide +kernel
theorem d_MT_read_37 : decode b_MT_read 37 = .ok (.astore_n 2, 1) := by decide +kernel
theorem d_MT_read_38 : decode b_MT_read 38 = .ok (.aload_n 0, 1) := by decide +kernel
theorem d_MT_read_39 : decode b_MT_read 39 = .ok (.aload_n 0, 1) := by decide +kernel
theorem d_MT_read_40 : decode b_MT_read 40 = .ok (.getfield 49, 3) := by decide +kernel
theorem d_MT_read_43 : decode b_MT_read 43 = .ok (.putfield 45, 3) := by decide +kernel
theorem d_MT_read_46 : decode b_MT_read 46 = .ok (.aload_n 0, 1) := by decide +kernel
theorem d_MT_read_47 : decode b_MT_read 47 = .ok (.aload_n 2, 1) := by decide +kernel
theorem d_MT_read_48 : decode b_MT_read 48 = .ok (.putfield 49, 3) := by decide +kernel
theorem d_MT_read_51 : decode b_MT_read 51 = .ok (.aload_n 0, 1) := by decide +kernel
theorem d_MT_read_52 : decode b_MT_read 52 = .ok (.getfield 31, 3) := by decide +kernel
theorem d_MT_read_55 : decode b_MT_read 55 = .ok (.aload_n 0, 1) := by decide +kernel
theorem d_MT_read_56 : decode b_MT_read 56 = .ok (.getfield 45, 3) := by decide +kernel
theorem d_MT_read_59 : decode b_MT_read 59 = .ok (.invokevirtual 67, 3) := by decide +kernel
theorem d_MT_read_62 : decode b_MT_read 62 = .ok (.aload_n 0, 1) := by decide +kernel
theorem d_MT_read_63 : decode b_MT_read 63 = .ok (.getfield 38, 3) := by decide +kernel
theorem d_MT_read_66 : decode b_MT_read 66 = .ok (.aload_n 0, 1) := by decide +kernel
theorem d_MT_read_67 : decode b_MT_read 67 = .ok (.getfield 45, 3) := by decide +kernel
theorem d_MT_read_70 : decode b_MT_read 70 = .ok (.aload_n 0, 1) := by decide +kernel
theorem d_MT_read_71 : decode b_MT_read 71 = .ok (.getfield 31, 3) := by decide +kernel
theorem d_MT_read_74 : decode b_MT_read 74 = .ok (.invokevirtual 71, 3) := by decide +kernel
theorem d_MT_read_77 : decode b_MT_read 77 = .ok (.aload_n 0, 1) := by decide +kernel
theorem d_MT_read_78 : decode b_MT_read 78 = .ok (.getfield 45, 3) := by decide +kernel
theorem d_MT_read_81 : decode b_MT_read 81 = .ok (.getfield 75, 3) := by decide +kernel
theorem d_MT_read_84 : decode b_MT_read 84 = .ok (.ireturn, 1) := by decide +kernel
theorem d_MT_part_0 : decode b_MT_part 0 = .ok (.iload_n 2, 1) := by decide +kernel
theorem d_MT_part_1 : decode b_MT_part 1 = .ok (.ifCond .lt 9, 3) := by decide +kernel
theorem d_MT_part_4 : decode b_MT_part 4 = .ok (.iload_n 2, 1) := by decide +kernel
theorem d_MT_part_5 : decode b_MT_part 5 = .ok (.bipush 6, 2) := by decide +kernel
theorem d_MT_part_7 : decode b_MT_part 7 = .ok (.if_icmp .lt 6, 3) := by decide +kernel
theorem d_MT_part_10 : decode b_MT_part 10 = .ok (.bipush (-12), 2) := by decide +kernel
theorem d_MT_part_12 : decode b_MT_part 12 = .ok (.ireturn, 1) := by decide +kernel
theorem d_MT_part_13 : decode b_MT_part 13 = .ok (.aload_n 0, 1) := by decide +kernel
theorem d_MT_part_14 : decode b_MT_part 14 = .ok (.getfield 45, 3) := by decide +kernel
theorem d_MT_part_17 : decode b_MT_part 17 = .ok (.iload_n 1, 1) := by decide +kernel
theorem d_MT_part_18 : decode b_MT_part 18 = .ok (.iload_n 2, 1) := by decide +kernel
theorem d_MT_part_19 : decode b_MT_part 19 = .ok (.invokevirtual 78, 3) := by decide +kernel
theorem d_MT_part_22 : decode b_MT_part 22 = .ok (.ireturn, 1) := by decide +kernel
theorem d_MT_check_0 : decode b_MT_check 0 = .ok (.aload_n 0, 1) := by decide +kernel
theorem d_MT_check_1 : decode b_MT_check 1 = .ok (.getfield 45, 3) := by decide +kernel
theorem d_MT_check_4 : decode b_MT_check 4 = .ok (.getfield 75, 3) := by decide +kernel
theorem d_MT_check_7 : decode b_MT_check 7 = .ok (.ifCond .ne 7, 3) := by decide +kernel
theorem d_MT_check_10 : decode b_MT_check 10 = .ok (.iconst (-1), 1) := by decide +kernel
theorem d_MT_check_11 : decode b_MT_check 11 = .ok (.goto 10, 3) := by decide +kernel
theorem d_MT_check_14 : decode b_MT_check 14 = .ok (.aload_n 0, 1) := by decide +kernel
theorem d_MT_check_15 : decode b_MT_check 15 = .ok (.getfield 38, 3) := by decide +kernel
theorem d_MT_check_18 : decode b_MT_check 18 = .ok (.getfield 82, 3) := by decide +kernel
theorem d_MT_check_21 : decode b_MT_check 21 = .ok (.ireturn, 1) := by decide +kernel
theorem d_MT_fault_0 : decode b_MT_fault 0 = .ok (.iload_n 2, 1) := by decide +kernel
theorem d_MT_fault_1 : decode b_MT_fault 1 = .ok (.ifCond .lt 8, 3) := by decide +kernel
theorem d_MT_fault_4 : decode b_MT_fault 4 = .ok (.iload_n 2, 1) := by decide +kernel
theorem d_MT_fault_5 : decode b_MT_fault 5 = .ok (.iconst 3, 1) := by decide +kernel
theorem d_MT_fault_6 : decode b_MT_fault 6 = .ok (.if_icmp .lt 6, 3) := by decide +kernel
theorem d_MT_fault_9 : decode b_MT_fault 9 = .ok (.bipush (-12), 2) := by decide +kernel
theorem d_MT_fault_11 : decode b_MT_fault 11 = .ok (.ireturn, 1) := by decide +kernel
theorem d_MT_fault_12 : decode b_MT_fault 12 = .ok (.aload_n 0, 1) := by decide +kernel
theorem d_MT_fault_13 : decode b_MT_fault 13 = .ok (.getfield 38, 3) := by decide +kernel
theorem d_MT_fault_16 : decode b_MT_fault 16 = .ok (.iload_n 1, 1) := by decide +kernel
theorem d_MT_fault_17 : decode b_MT_fault 17 = .ok (.iload_n 2, 1) := by decide +kernel
theorem d_MT_fault_18 : decode b_MT_fault 18 = .ok (.invokevirtual 83, 3) := by decide +kernel
theorem d_MT_fault_21 : decode b_MT_fault 21 = .ok (.ireturn, 1) := by decide +kernel
theorem d_MT_reach_0 : decode b_MT_reach 0 = .ok (.aload_n 0, 1) := by decide +kernel
theorem d_MT_reach_1 : decode b_MT_reach 1 = .ok (.getfield 45, 3) := by decide +kernel
theorem d_MT_reach_4 : decode b_MT_reach 4 = .ok (.iload_n 1, 1) := by decide +kernel
theorem d_MT_reach_5 : decode b_MT_reach 5 = .ok (.invokevirtual 84, 3) := by decide +kernel
theorem d_MT_reach_8 : decode b_MT_reach 8 = .ok (.istore_n 2, 1) := by decide +kernel
theorem d_MT_reach_9 : decode b_MT_reach 9 = .ok (.iload_n 2, 1) := by decide +kernel
theorem d_MT_reach_10 : decode b_MT_reach 10 = .ok (.iconst (-1), 1) := by decide +kernel
theorem d_MT_reach_11 : decode b_MT_reach 11 = .ok (.if_icmp .ne 6, 3) := by decide +kernel
theorem d_MT_reach_14 : decode b_MT_reach 14 = .ok (.bipush (-11), 2) := by decide +kernel
theorem d_MT_reach_16 : decode b_MT_reach 16 = .ok (.ireturn, 1) := by decide +kernel
theorem d_MT_reach_17 : decode b_MT_reach 17 = .ok (.aload_n 0, 1) := by decide +kernel
theorem d_MT_reach_18 : decode b_MT_reach 18 = .ok (.getfield 45, 3) := by decide +kernel
theorem d_MT_reach_21 : decode b_MT_reach 21 = .ok (.iload_n 2, 1) := by decide +kernel
theorem d_MT_reach_22 : decode b_MT_reach 22 = .ok (.iconst 0, 1) := by decide +kernel
theorem d_MT_reach_23 : decode b_MT_reach 23 = .ok (.invokevirtual 78, 3) := by decide +kernel
theorem d_MT_reach_26 : decode b_MT_reach 26 = .ok (.iconst 4, 1) := by decide +kernel
theorem d_MT_reach_27 : decode b_MT_reach 27 = .ok (.if_icmp .eq 6, 3) := by decide +kernel
theorem d_MT_reach_30 : decode b_MT_reach 30 = .ok (.bipush (-13), 2) := by decide +kernel
theorem d_MT_reach_32 : decode b_MT_reach 32 = .ok (.ireturn, 1) := by decide +kernel
theorem d_MT_reach_33 : decode b_MT_reach 33 = .ok (.aload_n 0, 1) := by decide +kernel
theorem d_MT_reach_34 : decode b_MT_reach 34 = .ok (.getfield 31, 3) := by decide +kernel
theorem d_MT_reach_37 : decode b_MT_reach 37 = .ok (.aload_n 0, 1) := by decide +kernel
theorem d_MT_reach_38 : decode b_MT_reach 38 = .ok (.getfield 45, 3) := by decide +kernel
theorem d_MT_reach_41 : decode b_MT_reach 41 = .ok (.iload_n 2, 1) := by decide +kernel
theorem d_MT_reach_42 : decode b_MT_reach 42 = .ok (.invokevirtual 88, 3) := by decide +kernel
theorem d_MT_reach_45 : decode b_MT_reach 45 = .ok (.iconst (-1), 1) := by decide +kernel
theorem d_MT_reach_46 : decode b_MT_reach 46 = .ok (.if_icmp .ne 7, 3) := by decide +kernel
theorem d_MT_reach_49 : decode b_MT_reach 49 = .ok (.iconst 0, 1) := by decide +kernel
theorem d_MT_reach_50 : decode b_MT_reach 50 = .ok (.goto 4, 3) := by decide +kernel
theorem d_MT_reach_53 : decode b_MT_reach 53 = .ok (.iconst 1, 1) := by decide +kernel
theorem d_MT_reach_54 : decode b_MT_reach 54 = .ok (.ireturn, 1) := by decide +kernel
theorem d_MT_time_0 : decode b_MT_time 0 = .ok (.aload_n 0, 1) := by decide +kernel
theorem d_MT_time_1 : decode b_MT_time 1 = .ok (.getfield 45, 3) := by decide +kernel
theorem d_MT_time_4 : decode b_MT_time 4 = .ok (.iload_n 1, 1) := by decide +kernel
theorem d_MT_time_5 : decode b_MT_time 5 = .ok (.invokevirtual 84, 3) := by decide +kernel
theorem d_MT_time_8 : decode b_MT_time 8 = .ok (.istore_n 3, 1) := by decide +kernel
theorem d_MT_time_9 : decode b_MT_time 9 = .ok (.aload_n 0, 1) := by decide +kernel
theorem d_MT_time_10 : decode b_MT_time 10 = .ok (.getfield 45, 3) := by decide +kernel
theorem d_MT_time_13 : decode b_MT_time 13 = .ok (.iload_n 2, 1) := by decide +kernel
theorem d_MT_time_14 : decode b_MT_time 14 = .ok (.invokevirtual 84, 3) := by decide +kernel
theorem d_MT_time_17 : decode b_MT_time 17 = .ok (.istore 4, 2) := by decide +kernel
theorem d_MT_time_19 : decode b_MT_time 19 = .ok (.iload_n 3, 1) := by decide +kernel
theorem d_MT_time_20 : decode b_MT_time 20 = .ok (.iconst (-1), 1) := by decide +kernel
theorem d_MT_time_21 : decode b_MT_time 21 = .ok (.if_icmp .eq 9, 3) := by decide +kernel
theorem d_MT_time_24 : decode b_MT_time 24 = .ok (.iload 4, 2) := by decide +kernel
theorem d_MT_time_26 : decode b_MT_time 26 = .ok (.iconst (-1), 1) := by decide +kernel
theorem d_MT_time_27 : decode b_MT_time 27 = .ok (.if_icmp .ne 7, 3) := by decide +kernel
theorem d_MT_time_30 : decode b_MT_time 30 = .ok (.ldc2_w 92, 3) := by decide +kernel
theorem d_MT_time_33 : decode b_MT_time 33 = .ok (.lreturn, 1) := by decide +kernel
theorem d_MT_time_34 : decode b_MT_time 34 = .ok (.iload_n 3, 1) := by decide +kernel
theorem d_MT_time_35 : decode b_MT_time 35 = .ok (.iload 4, 2) := by decide +kernel
theorem d_MT_time_37 : decode b_MT_time 37 = .ok (.if_icmp .ne 7, 3) := by decide +kernel
theorem d_MT_time_40 : decode b_MT_time 40 = .ok (.lconst 0, 1) := by decide +kernel
theorem d_MT_time_41 : decode b_MT_time 41 = .ok (.goto 14, 3) := by decide +kernel
theorem d_MT_time_44 : decode b_MT_time 44 = .ok (.aload_n 0, 1) := by decide +kernel
theorem d_MT_time_45 : decode b_MT_time 45 = .ok (.getfield 31, 3) := by decide +kernel
theorem d_MT_time_48 : decode b_MT_time 48 = .ok (.iload_n 3, 1) := by decide +kernel
theorem d_MT_time_49 : decode b_MT_time 49 = .ok (.iload 4, 2) := by decide +kernel
theorem d_MT_time_51 : decode b_MT_time 51 = .ok (.invokevirtual 94, 3) := by decide +kernel
theorem d_MT_time_54 : decode b_MT_time 54 = .ok (.i2l, 1) := by decide +kernel
theorem d_MT_time_55 : decode b_MT_time 55 = .ok (.lreturn, 1) := by decide +kernel
theorem d_MT_gap_0 : decode b_MT_gap 0 = .ok (.aload_n 0, 1) := by decide +kernel
theorem d_MT_gap_1 : decode b_MT_gap 1 = .ok (.getfield 45, 3) := by decide +kernel
theorem d_MT_gap_4 : decode b_MT_gap 4 = .ok (.iload_n 1, 1) := by decide +kernel
theorem d_MT_gap_5 : decode b_MT_gap 5 = .ok (.invokevirtual 84, 3) := by decide +kernel
theorem d_MT_gap_8 : decode b_MT_gap 8 = .ok (.istore_n 2, 1) := by decide +kernel
theorem d_MT_gap_9 : decode b_MT_gap 9 = .ok (.iload_n 2, 1) := by decide +kernel
theorem d_MT_gap_10 : decode b_MT_gap 10 = .ok (.iconst (-1), 1) := by decide +kernel
theorem d_MT_gap_11 : decode b_MT_gap 11 = .ok (.if_icmp .ne 8, 3) := by decide +kernel
theorem d_MT_gap_14 : decode b_MT_gap 14 = .ok (.bipush (-11), 2) := by decide +kernel
theorem d_MT_gap_16 : decode b_MT_gap 16 = .ok (.goto 15, 3) := by decide +kernel
theorem d_MT_gap_19 : decode b_MT_gap 19 = .ok (.aload_n 0, 1) := by decide +kernel
theorem d_MT_gap_20 : decode b_MT_gap 20 = .ok (.getfield 31, 3) := by decide +kernel
theorem d_MT_gap_23 : decode b_MT_gap 23 = .ok (.aload_n 0, 1) := by decide +kernel
theorem d_MT_gap_24 : decode b_MT_gap 24 = .ok (.getfield 45, 3) := by decide +kernel
theorem d_MT_gap_27 : decode b_MT_gap 27 = .ok (.iload_n 2, 1) := by decide +kernel
theorem d_MT_gap_28 : decode b_MT_gap 28 = .ok (.invokevirtual 88, 3) := by decide +kernel
theorem d_MT_gap_31 : decode b_MT_gap 31 = .ok (.ireturn, 1) := by decide +kernel
theorem d_MT_suffices_0 : decode b_MT_suffices 0 = .ok (.aload_n 0, 1) := by decide +kernel
theorem d_MT_suffices_1 : decode b_MT_suffices 1 = .ok (.getfield 45, 3) := by decide +kernel
theorem d_MT_suffices_4 : decode b_MT_suffices 4 = .ok (.iload_n 1, 1) := by decide +kernel
theorem d_MT_suffices_5 : decode b_MT_suffices 5 = .ok (.invokevirtual 84, 3) := by decide +kernel
theorem d_MT_suffices_8 : decode b_MT_suffices 8 = .ok (.istore 4, 2) := by decide +kernel
theorem d_MT_suffices_10 : decode b_MT_suffices 10 = .ok (.aload_n 0, 1) := by decide +kernel
theorem d_MT_suffices_11 : decode b_MT_suffices 11 = .ok (.getfield 45, 3) := by decide +kernel
theorem d_MT_suffices_14 : decode b_MT_suffices 14 = .ok (.iload 4, 2) := by decide +kernel
theorem d_MT_suffices_16 : decode b_MT_suffices 16 = .ok (.iconst 0, 1) := by decide +kernel
theorem d_MT_suffices_17 : decode b_MT_suffices 17 = .ok (.invokevirtual 78, 3) := by decide +kernel
theorem d_MT_suffices_20 : decode b_MT_suffices 20 = .ok (.iconst 3, 1) := by decide +kernel
theorem d_MT_suffices_21 : decode b_MT_suffices 21 = .ok (.if_icmp .ne 23, 3) := by decide +kernel
theorem d_MT_suffices_24 : decode b_MT_suffices 24 = .ok (.aload_n 0, 1) := by decide +kernel
theorem d_MT_suffices_25 : decode b_MT_suffices 25 = .ok (.getfield 45, 3) := by decide +kernel
theorem d_MT_suffices_28 : decode b_MT_suffices 28 = .ok (.iload 4, 2) := by decide +kernel
theorem d_MT_suffices_30 : decode b_MT_suffices 30 = .ok (.iconst 2, 1) := by decide +kernel
theorem d_MT_suffices_31 : decode b_MT_suffices 31 = .ok (.invokevirtual 78, 3) := by decide +kernel
theorem d_MT_suffices_34 : decode b_MT_suffices 34 = .ok (.i2l, 1) := by decide +kernel
theorem d_MT_suffices_35 : decode b_MT_suffices 35 = .ok (.lload_n 2, 1) := by decide +kernel
theorem d_MT_suffices_36 : decode b_MT_suffices 36 = .ok (.lcmp, 1) := by decide +kernel
theorem d_MT_suffices_37 : decode b_MT_suffices 37 = .ok (.ifCond .gt 7, 3) := by decide +kernel
theorem d_MT_suffices_40 : decode b_MT_suffices 40 = .ok (.iconst 1, 1) := by decide +kernel
theorem d_MT_suffices_41 : decode b_MT_suffices 41 = .ok (.goto 4, 3) := by decide +kernel
theorem d_MT_suffices_44 : decode b_MT_suffices 44 = .ok (.iconst 0, 1) := by decide +kernel
theorem d_MT_suffices_45 : decode b_MT_suffices 45 = .ok (.ireturn, 1) := by decide +kernel
theorem d_MT_print_0 : decode b_MT_print 0 = .ok (.aload_n 0, 1) := by decide +kernel
theorem d_MT_print_1 : decode b_MT_print 1 = .ok (.getfield 16, 3) := by decide +kernel
theorem d_MT_print_4 : decode b_MT_print 4 = .ok (.invokevirtual 60, 3) := by decide +kernel
theorem d_MT_print_7 : decode b_MT_print 7 = .ok (.iconst 0, 1) := by decide +kernel
theorem d_MT_print_8 : decode b_MT_print 8 = .ok (.istore_n 1, 1) := by decide +kernel
theorem d_MT_print_9 : decode b_MT_print 9 = .ok (.iload_n 1, 1) := by decide +kernel
theorem d_MT_print_10 : decode b_MT_print 10 = .ok (.aload_n 0, 1) := by decide +kernel
theorem d_MT_print_11 : decode b_MT_print 11 = .ok (.getfield 45, 3) := by decide +kernel
theorem d_MT_print_14 : decode b_MT_print 14 = .ok (.getfield 75, 3) := by decide +kernel
theorem d_MT_print_17 : decode b_MT_print 17 = .ok (.if_icmp .ge 14, 3) := by decide +kernel
theorem d_MT_print_20 : decode b_MT_print 20 = .ok (.aload_n 0, 1) := by decide +kernel
theorem d_MT_print_21 : decode b_MT_print 21 = .ok (.iload_n 1, 1) := by decide +kernel
theorem d_MT_print_22 : decode b_MT_print 22 = .ok (.invokevirtual 97, 3) := by decide +kernel
theorem d_MT_print_25 : decode b_MT_print 25 = .ok (.iinc 1 1, 3) := by decide +kernel
theorem d_MT_print_28 : decode b_MT_print 28 = .ok (.goto (-19), 3) := by decide +kernel
theorem d_MT_print_31 : decode b_MT_print 31 = .ok (.aload_n 0, 1) := by decide +kernel
theorem d_MT_print_32 : decode b_MT_print 32 = .ok (.getfield 16, 3) := by decide +kernel
theorem d_MT_print_35 : decode b_MT_print 35 = .ok (.getfield 101, 3) := by decide +kernel
theorem d_MT_print_38 : decode b_MT_print 38 = .ok (.ireturn, 1) := by decide +kernel
theorem d_MT_at_0 : decode b_MT_at 0 = .ok (.aload_n 0, 1) := by decide +kernel
theorem d_MT_at_1 : decode b_MT_at 1 = .ok (.getfield 16, 3) := by decide +kernel
theorem d_MT_at_4 : decode b_MT_at 4 = .ok (.iload_n 1, 1) := by decide +kernel
theorem d_MT_at_5 : decode b_MT_at 5 = .ok (.invokevirtual 104, 3) := by decide +kernel
theorem d_MT_at_8 : decode b_MT_at 8 = .ok (.ireturn, 1) := by decide +kernel
theorem d_MT_printPart_0 : decode b_MT_printPart 0 = .ok (.aload_n 0, 1) := by decide +kernel
theorem d_MT_printPart_1 : decode b_MT_printPart 1 = .ok (.getfield 45, 3) := by decide +kernel
theorem d_MT_printPart_4 : decode b_MT_printPart 4 = .ok (.iload_n 1, 1) := by decide +kernel
theorem d_MT_printPart_5 : decode b_MT_printPart 5 = .ok (.iconst 0, 1) := by decide +kernel
theorem d_MT_printPart_6 : decode b_MT_printPart 6 = .ok (.invokevirtual 78, 3) := by decide +kernel
theorem d_MT_printPart_9 : decode b_MT_printPart 9 = .ok (.istore_n 2, 1) := by decide +kernel
theorem d_MT_printPart_10 : decode b_MT_printPart 10 = .ok (.iload_n 2, 1) := by decide +kernel
theorem d_MT_printPart_11 : decode b_MT_printPart 11 = .ok (.ifCond .lt 11, 3) := by decide +kernel
theorem d_MT_printPart_14 : decode b_MT_printPart 14 = .ok (.iload_n 2, 1) := by decide +kernel
theorem d_MT_printPart_15 : decode b_MT_printPart 15 = .ok (.getstatic 107, 3) := by decide +kernel
theorem d_MT_printPart_18 : decode b_MT_printPart 18 = .ok (.arraylength, 1) := by decide +kernel
theorem d_MT_printPart_19 : decode b_MT_printPart 19 = .ok (.if_icmp .lt 4, 3) := by decide +kernel
theorem d_MT_printPart_22 : decode b_MT_printPart 22 = .ok (.return_, 1) := by decide +kernel
theorem d_MT_printPart_23 : decode b_MT_printPart 23 = .ok (.aload_n 0, 1) := by decide +kernel
theorem d_MT_printPart_24 : decode b_MT_printPart 24 = .ok (.getfield 16, 3) := by decide +kernel
theorem d_MT_printPart_27 : decode b_MT_printPart 27 = .ok (.getstatic 107, 3) := by decide +kernel
theorem d_MT_printPart_30 : decode b_MT_printPart 30 = .ok (.iload_n 2, 1) := by decide +kernel
theorem d_MT_printPart_31 : decode b_MT_printPart 31 = .ok (.caload, 1) := by decide +kernel
theorem d_MT_printPart_32 : decode b_MT_printPart 32 = .ok (.invokevirtual 52, 3) := by decide +kernel
theorem d_MT_printPart_35 : decode b_MT_printPart 35 = .ok (.pop, 1) := by decide +kernel
theorem d_MT_printPart_36 : decode b_MT_printPart 36 = .ok (.aload_n 0, 1) := by decide +kernel
theorem d_MT_printPart_37 : decode b_MT_printPart 37 = .ok (.getfield 16, 3) := by decide +kernel
theorem d_MT_printPart_40 : decode b_MT_printPart 40 = .ok (.aload_n 0, 1) := by decide +kernel
theorem d_MT_printPart_41 : decode b_MT_printPart 41 = .ok (.getfield 45, 3) := by decide +kernel
theorem d_MT_printPart_44 : decode b_MT_printPart 44 = .ok (.iload_n 1, 1) := by decide +kernel
theorem d_MT_printPart_45 : decode b_MT_printPart 45 = .ok (.iconst 1, 1) := by decide +kernel
theorem d_MT_printPart_46 : decode b_MT_printPart 46 = .ok (.invokevirtual 78, 3) := by decide +kernel
theorem d_MT_printPart_49 : decode b_MT_printPart 49 = .ok (.invokevirtual 111, 3) := by decide +kernel
theorem d_MT_printPart_52 : decode b_MT_printPart 52 = .ok (.aload_n 0, 1) := by decide +kernel
theorem d_MT_printPart_53 : decode b_MT_printPart 53 = .ok (.bipush 61, 2) := by decide +kernel
theorem d_MT_printPart_55 : decode b_MT_printPart 55 = .ok (.iload_n 1, 1) := by decide +kernel
theorem d_MT_printPart_56 : decode b_MT_printPart 56 = .ok (.iconst 2, 1) := by decide +kernel
theorem d_MT_printPart_57 : decode b_MT_printPart 57 = .ok (.invokevirtual 114, 3) := by decide +kernel
theorem d_MT_printPart_60 : decode b_MT_printPart 60 = .ok (.aload_n 0, 1) := by decide +kernel
theorem d_MT_printPart_61 : decode b_MT_printPart 61 = .ok (.bipush 44, 2) := by decide +kernel
theorem d_MT_printPart_63 : decode b_MT_printPart 63 = .ok (.iload_n 1, 1) := by decide +kernel
theorem d_MT_printPart_64 : decode b_MT_printPart 64 = .ok (.iconst 3, 1) := by decide +kernel
theorem d_MT_printPart_65 : decode b_MT_printPart 65 = .ok (.invokevirtual 114, 3) := by decide +kernel
theorem d_MT_printPart_68 : decode b_MT_printPart 68 = .ok (.aload_n 0, 1) := by decide +kernel
theorem d_MT_printPart_69 : decode b_MT_printPart 69 = .ok (.bipush 62, 2) := by decide +kernel
theorem d_MT_printPart_71 : decode b_MT_printPart 71 = .ok (.iload_n 1, 1) := by decide +kernel
theorem d_MT_printPart_72 : decode b_MT_printPart 72 = .ok (.iconst 4, 1) := by decide +kernel
theorem d_MT_printPart_73 : decode b_MT_printPart 73 = .ok (.invokevirtual 114, 3) := by decide +kernel
theorem d_MT_printPart_76 : decode b_MT_printPart 76 = .ok (.aload_n 0, 1) := by decide +kernel
theorem d_MT_printPart_77 : decode b_MT_printPart 77 = .ok (.bipush 44, 2) := by decide +kernel
theorem d_MT_printPart_79 : decode b_MT_printPart 79 = .ok (.iload_n 1, 1) := by decide +kernel
theorem d_MT_printPart_80 : decode b_MT_printPart 80 = .ok (.iconst 5, 1) := by decide +kernel
theorem d_MT_printPart_81 : decode b_MT_printPart 81 = .ok (.invokevirtual 114, 3) := by decide +kernel
theorem d_MT_printPart_84 : decode b_MT_printPart 84 = .ok (.aload_n 0, 1) := by decide +kernel
theorem d_MT_printPart_85 : decode b_MT_printPart 85 = .ok (.getfield 16, 3) := by decide +kernel
theorem d_MT_printPart_88 : decode b_MT_printPart 88 = .ok (.bipush 59, 2) := by decide +kernel
theorem d_MT_printPart_90 : decode b_MT_printPart 90 = .ok (.invokevirtual 52, 3) := by decide +kernel
theorem d_MT_printPart_93 : decode b_MT_printPart 93 = .ok (.pop, 1) := by decide +kernel
theorem d_MT_printPart_94 : decode b_MT_printPart 94 = .ok (.return_, 1) := by decide +kernel
theorem d_MT_printValue_0 : decode b_MT_printValue 0 = .ok (.aload_n 0, 1) := by decide +kernel
theorem d_MT_printValue_1 : decode b_MT_printValue 1 = .ok (.getfield 45, 3) := by decide +kernel
theorem d_MT_printValue_4 : decode b_MT_printValue 4 = .ok (.iload_n 2, 1) := by decide +kernel
theorem d_MT_printValue_5 : decode b_MT_printValue 5 = .ok (.iload_n 3, 1) := by decide +kernel
theorem d_MT_printValue_6 : decode b_MT_printValue 6 = .ok (.invokevirtual 78, 3) := by decide +kernel
theorem d_MT_printValue_9 : decode b_MT_printValue 9 = .ok (.istore 4, 2) := by decide +kernel
theorem d_MT_printValue_11 : decode b_MT_printValue 11 = .ok (.iload 4, 2) := by decide +kernel
theorem d_MT_printValue_13 : decode b_MT_printValue 13 = .ok (.iconst (-1), 1) := by decide +kernel
theorem d_MT_printValue_14 : decode b_MT_printValue 14 = .ok (.if_icmp .eq 21, 3) := by decide +kernel
theorem d_MT_printValue_17 : decode b_MT_printValue 17 = .ok (.aload_n 0, 1) := by decide +kernel
theorem d_MT_printValue_18 : decode b_MT_printValue 18 = .ok (.getfield 16, 3) := by decide +kernel
theorem d_MT_printValue_21 : decode b_MT_printValue 21 = .ok (.iload_n 1, 1) := by decide +kernel
theorem d_MT_printValue_22 : decode b_MT_printValue 22 = .ok (.invokevirtual 52, 3) := by decide +kernel
theorem d_MT_printValue_25 : decode b_MT_printValue 25 = .ok (.pop, 1) := by decide +kernel
theorem d_MT_printValue_26 : decode b_MT_printValue 26 = .ok (.aload_n 0, 1) := by decide +kernel
theorem d_MT_printValue_27 : decode b_MT_printValue 27 = .ok (.getfield 16, 3) := by decide +kernel
theorem d_MT_printValue_30 : decode b_MT_printValue 30 = .ok (.iload 4, 2) := by decide +kernel
theorem d_MT_printValue_32 : decode b_MT_printValue 32 = .ok (.invokevirtual 111, 3) := by decide +kernel
theorem d_MT_printValue_35 : decode b_MT_printValue 35 = .ok (.return_, 1) := by decide +kernel
theorem d_Tx_init_0 : decode b_Tx_init 0 = .ok (.aload_n 0, 1) := by decide +kernel
theorem d_Tx_init_1 : decode b_Tx_init 1 = .ok (.invokespecial 3, 3) := by decide +kernel
theorem d_Tx_init_4 : decode b_Tx_init 4 = .ok (.aload_n 0, 1) := by decide +kernel
theorem d_Tx_init_5 : decode b_Tx_init 5 = .ok (.sipush 300, 3) := by decide +kernel
theorem d_Tx_init_8 : decode b_Tx_init 8 = .ok (.newarray .char, 2) := by decide +kernel
theorem d_Tx_init_10 : decode b_Tx_init 10 = .ok (.putfield 9, 3) := by decide +kernel
theorem d_Tx_init_13 : decode b_Tx_init 13 = .ok (.aload_n 0, 1) := by decide +kernel
theorem d_Tx_init_14 : decode b_Tx_init 14 = .ok (.iconst 0, 1) := by decide +kernel
theorem d_Tx_init_15 : decode b_Tx_init 15 = .ok (.putfield 15, 3) := by decide +kernel
theorem d_Tx_init_18 : decode b_Tx_init 18 = .ok (.return_, 1) := by decide +kernel
theorem d_Tx_clear_0 : decode b_Tx_clear 0 = .ok (.aload_n 0, 1) := by decide +kernel
theorem d_Tx_clear_1 : decode b_Tx_clear 1 = .ok (.iconst 0, 1) := by decide +kernel
theorem d_Tx_clear_2 : decode b_Tx_clear 2 = .ok (.putfield 15, 3) := by decide +kernel
theorem d_Tx_clear_5 : decode b_Tx_clear 5 = .ok (.return_, 1) := by decide +kernel
theorem d_Tx_append_0 : decode b_Tx_append 0 = .ok (.aload_n 0, 1) := by decide +kernel
theorem d_Tx_append_1 : decode b_Tx_append 1 = .ok (.getfield 15, 3) := by decide +kernel
theorem d_Tx_append_4 : decode b_Tx_append 4 = .ok (.ifCond .lt 15, 3) := by decide +kernel
theorem d_Tx_append_7 : decode b_Tx_append 7 = .ok (.aload_n 0, 1) := by decide +kernel
theorem d_Tx_append_8 : decode b_Tx_append 8 = .ok (.getfield 15, 3) := by decide +kernel
theorem d_Tx_append_11 : decode b_Tx_append 11 = .ok (.aload_n 0, 1) := by decide +kernel
theorem d_Tx_append_12 : decode b_Tx_append 12 = .ok (.getfield 9, 3) := by decide +kernel
theorem d_Tx_append_15 : decode b_Tx_append 15 = .ok (.arraylength, 1) := by decide +kernel
theorem d_Tx_append_16 : decode b_Tx_append 16 = .ok (.if_icmp .lt 5, 3) := by decide +kernel
theorem d_Tx_append_19 : decode b_Tx_append 19 = .ok (.iconst 0, 1) := by decide +kernel
theorem d_Tx_append_20 : decode b_Tx_append 20 = .ok (.ireturn, 1) := by decide +kernel
theorem d_Tx_append_21 : decode b_Tx_append 21 = .ok (.aload_n 0, 1) := by decide +kernel
theorem d_Tx_append_22 : decode b_Tx_append 22 = .ok (.getfield 9, 3) := by decide +kernel
theorem d_Tx_append_25 : decode b_Tx_append 25 = .ok (.aload_n 0, 1) := by decide +kernel
theorem d_Tx_append_26 : decode b_Tx_append 26 = .ok (.getfield 15, 3) := by decide +kernel
theorem d_Tx_append_29 : decode b_Tx_append 29 = .ok (.iload_n 1, 1) := by decide +kernel
theorem d_Tx_append_30 : decode b_Tx_append 30 = .ok (.castore, 1) := by decide +kernel
theorem d_Tx_append_31 : decode b_Tx_append 31 = .ok (.aload_n 0, 1) := by decide +kernel
theorem d_Tx_append_32 : decode b_Tx_append 32 = .ok (.dup, 1) := by decide +kernel
theorem d_Tx_append_33 : decode b_Tx_append 33 = .ok (.getfield 15, 3) := by decide +kernel
theorem d_Tx_append_36 : decode b_Tx_append 36 = .ok (.iconst 1, 1) := by decide +kernel
theorem d_Tx_append_37 : decode b_Tx_append 37 = .ok (.iadd, 1) := by decide +kernel
theorem d_Tx_append_38 : decode b_Tx_append 38 = .ok (.putfield 15, 3) := by decide +kernel
theorem d_Tx_append_41 : decode b_Tx_append 41 = .ok (.iconst 1, 1) := by decide +kernel
theorem d_Tx_append_42 : decode b_Tx_append 42 = .ok (.ireturn, 1) := by decide +kernel
theorem d_Tx_appendNumber_0 : decode b_Tx_appendNumber 0 = .ok (.sipush 1000, 3) := by decide +kernel
theorem d_Tx_appendNumber_3 : decode b_Tx_appendNumber 3 = .ok (.istore_n 2, 1) := by decide +kernel
theorem d_Tx_appendNumber_4 : decode b_Tx_appendNumber 4 = .ok (.iload_n 2, 1) := by decide +kernel
theorem d_Tx_appendNumber_5 : decode b_Tx_appendNumber 5 = .ok (.iconst 1, 1) := by decide +kernel
theorem d_Tx_appendNumber_6 : decode b_Tx_appendNumber 6 = .ok (.if_icmp .lt 36, 3) := by decide +kernel
theorem d_Tx_appendNumber_9 : decode b_Tx_appendNumber 9 = .ok (.iload_n 1, 1) := by decide +kernel
theorem d_Tx_appendNumber_10 : decode b_Tx_appendNumber 10 = .ok (.iload_n 2, 1) := by decide +kernel
theorem d_Tx_appendNumber_11 : decode b_Tx_appendNumber 11 = .ok (.if_icmp .ge 8, 3) := by decide +kernel
theorem d_Tx_appendNumber_14 : decode b_Tx_appendNumber 14 = .ok (.iload_n 2, 1) := by decide +kernel
theorem d_Tx_appendNumber_15 : decode b_Tx_appendNumber 15 = .ok (.iconst 1, 1) := by decide +kernel
theorem d_Tx_appendNumber_16 : decode b_Tx_appendNumber 16 = .ok (.if_icmp .ne 18, 3) := by decide +kernel
theorem d_Tx_appendNumber_19 : decode b_Tx_appendNumber 19 = .ok (.aload_n 0, 1) := by decide +kernel
theorem d_Tx_appendNumber_20 : decode b_Tx_appendNumber 20 = .ok (.bipush 48, 2) := by decide +kernel
theorem d_Tx_appendNumber_22 : decode b_Tx_appendNumber 22 = .ok (.iload_n 1, 1) := by decide +kernel
theorem d_Tx_appendNumber_23 : decode b_Tx_appendNumber 23 = .ok (.iload_n 2, 1) := by decide +kernel
theorem d_Tx_appendNumber_24 : decode b_Tx_appendNumber 24 = .ok (.idiv, 1) := by decide +kernel
theorem d_Tx_appendNumber_25 : decode b_Tx_appendNumber 25 = .ok (.bipush 10, 2) := by decide +kernel
theorem d_Tx_appendNumber_27 : decode b_Tx_appendNumber 27 = .ok (.irem, 1) := by decide +kernel
theorem d_Tx_appendNumber_28 : decode b_Tx_appendNumber 28 = .ok (.iadd, 1) := by decide +kernel
theorem d_Tx_appendNumber_29 : decode b_Tx_appendNumber 29 = .ok (.i2c, 1) := by decide +kernel
theorem d_Tx_appendNumber_30 : decode b_Tx_appendNumber 30 = .ok (.invokevirtual 19, 3) := by decide +kernel
theorem d_Tx_appendNumber_33 : decode b_Tx_appendNumber 33 = .ok (.pop, 1) := by decide +kernel
theorem d_Tx_appendNumber_34 : decode b_Tx_appendNumber 34 = .ok (.iload_n 2, 1) := by decide +kernel
theorem d_Tx_appendNumber_35 : decode b_Tx_appendNumber 35 = .ok (.bipush 10, 2) := by decide +kernel
theorem d_Tx_appendNumber_37 : decode b_Tx_appendNumber 37 = .ok (.idiv, 1) := by decide +kernel
theorem d_Tx_appendNumber_38 : decode b_Tx_appendNumber 38 = .ok (.istore_n 2, 1) := by decide +kernel
theorem d_Tx_appendNumber_39 : decode b_Tx_appendNumber 39 = .ok (.goto (-35), 3) := by decide +kernel
theorem d_Tx_appendNumber_42 : decode b_Tx_appendNumber 42 = .ok (.return_, 1) := by decide +kernel
theorem d_Tx_characterAt_0 : decode b_Tx_characterAt 0 = .ok (.iload_n 1, 1) := by decide +kernel
theorem d_Tx_characterAt_1 : decode b_Tx_characterAt 1 = .ok (.ifCond .lt 20, 3) := by decide +kernel
theorem d_Tx_characterAt_4 : decode b_Tx_characterAt 4 = .ok (.iload_n 1, 1) := by decide +kernel
theorem d_Tx_characterAt_5 : decode b_Tx_characterAt 5 = .ok (.aload_n 0, 1) := by decide +kernel
theorem d_Tx_characterAt_6 : decode b_Tx_characterAt 6 = .ok (.getfield 15, 3) := by decide +kernel
theorem d_Tx_characterAt_9 : decode b_Tx_characterAt 9 = .ok (.if_icmp .ge 12, 3) := by decide +kernel
theorem d_Tx_characterAt_12 : decode b_Tx_characterAt 12 = .ok (.iload_n 1, 1) := by decide +kernel
theorem d_Tx_characterAt_13 : decode b_Tx_characterAt 13 = .ok (.aload_n 0, 1) := by decide +kernel
theorem d_Tx_characterAt_14 : decode b_Tx_characterAt 14 = .ok (.getfield 9, 3) := by decide +kernel
theorem d_Tx_characterAt_17 : decode b_Tx_characterAt 17 = .ok (.arraylength, 1) := by decide +kernel
theorem d_Tx_characterAt_18 : decode b_Tx_characterAt 18 = .ok (.if_icmp .lt 7, 3) := by decide +kernel
theorem d_Tx_characterAt_21 : decode b_Tx_characterAt 21 = .ok (.iconst (-1), 1) := by decide +kernel
theorem d_Tx_characterAt_22 : decode b_Tx_characterAt 22 = .ok (.goto 9, 3) := by decide +kernel
theorem d_Tx_characterAt_25 : decode b_Tx_characterAt 25 = .ok (.aload_n 0, 1) := by decide +kernel
theorem d_Tx_characterAt_26 : decode b_Tx_characterAt 26 = .ok (.getfield 9, 3) := by decide +kernel
theorem d_Tx_characterAt_29 : decode b_Tx_characterAt 29 = .ok (.iload_n 1, 1) := by decide +kernel
theorem d_Tx_characterAt_30 : decode b_Tx_characterAt 30 = .ok (.caload, 1) := by decide +kernel
theorem d_Tx_characterAt_31 : decode b_Tx_characterAt 31 = .ok (.ireturn, 1) := by decide +kernel
theorem d_Mc_init_0 : decode b_Mc_init 0 = .ok (.aload_n 0, 1) := by decide +kernel
theorem d_Mc_init_1 : decode b_Mc_init 1 = .ok (.invokespecial 3, 3) := by decide +kernel
theorem d_Mc_init_4 : decode b_Mc_init 4 = .ok (.aload_n 0, 1) := by decide +kernel
theorem d_Mc_init_5 : decode b_Mc_init 5 = .ok (.bipush 6, 2) := by decide +kernel
theorem d_Mc_init_7 : decode b_Mc_init 7 = .ok (.bipush 24, 2) := by decide +kernel
theorem d_Mc_init_9 : decode b_Mc_init 9 = .ok (.multianewarray 9 2, 4) := by decide +kernel
theorem d_Mc_init_13 : decode b_Mc_init 13 = .ok (.putfield 11, 3) := by decide +kernel
theorem d_Mc_init_16 : decode b_Mc_init 16 = .ok (.aload_n 0, 1) := by decide +kernel
theorem d_Mc_init_17 : decode b_Mc_init 17 = .ok (.bipush 30, 2) := by decide +kernel
theorem d_Mc_init_19 : decode b_Mc_init 19 = .ok (.newarray .int, 2) := by decide +kernel
theorem d_Mc_init_21 : decode b_Mc_init 21 = .ok (.putfield 16, 3) := by decide +kernel
theorem d_Mc_init_24 : decode b_Mc_init 24 = .ok (.aload_n 0, 1) := by decide +kernel
theorem d_Mc_init_25 : decode b_Mc_init 25 = .ok (.invokevirtual 20, 3) := by decide +kernel
theorem d_Mc_init_28 : decode b_Mc_init 28 = .ok (.return_, 1) := by decide +kernel
theorem d_Mc_clear_0 : decode b_Mc_clear 0 = .ok (.aload_n 0, 1) := by decide +kernel
theorem d_Mc_clear_1 : decode b_Mc_clear 1 = .ok (.iconst 0, 1) := by decide +kernel
theorem d_Mc_clear_2 : decode b_Mc_clear 2 = .ok (.putfield 23, 3) := by decide +kernel
theorem d_Mc_clear_5 : decode b_Mc_clear 5 = .ok (.iconst 0, 1) := by decide +kernel
theorem d_Mc_clear_6 : decode b_Mc_clear 6 = .ok (.istore_n 1, 1) := by decide +kernel
theorem d_Mc_clear_7 : decode b_Mc_clear 7 = .ok (.iload_n 1, 1) := by decide +kernel
theorem d_Mc_clear_8 : decode b_Mc_clear 8 = .ok (.aload_n 0, 1) := by decide +kernel
theorem d_Mc_clear_9 : decode b_Mc_clear 9 = .ok (.getfield 16, 3) := by decide +kernel
theorem d_Mc_clear_12 : decode b_Mc_clear 12 = .ok (.arraylength, 1) := by decide +kernel
theorem d_Mc_clear_13 : decode b_Mc_clear 13 = .ok (.if_icmp .ge 16, 3) := by decide +kernel
theorem d_Mc_clear_16 : decode b_Mc_clear 16 = .ok (.aload_n 0, 1) := by decide +kernel
theorem d_Mc_clear_17 : decode b_Mc_clear 17 = .ok (.getfield 16, 3) := by decide +kernel
theorem d_Mc_clear_20 : decode b_Mc_clear 20 = .ok (.iload_n 1, 1) := by decide +kernel
theorem d_Mc_clear_21 : decode b_Mc_clear 21 = .ok (.iconst (-1), 1) := by decide +kernel
theorem d_Mc_clear_22 : decode b_Mc_clear 22 = .ok (.iastore, 1) := by decide +kernel
theorem d_Mc_clear_23 : decode b_Mc_clear 23 = .ok (.iinc 1 1, 3) := by decide +kernel
theorem d_Mc_clear_26 : decode b_Mc_clear 26 = .ok (.goto (-19), 3) := by decide +kernel
theorem d_Mc_clear_29 : decode b_Mc_clear 29 = .ok (.return_, 1) := by decide +kernel
theorem d_Mc_addPart_0 : decode b_Mc_addPart 0 = .ok (.aload_n 0, 1) := by decide +kernel
theorem d_Mc_addPart_1 : decode b_Mc_addPart 1 = .ok (.getfield 23, 3) := by decide +kernel
theorem d_Mc_addPart_4 : decode b_Mc_addPart 4 = .ok (.ifCond .lt 25, 3) := by decide +kernel
theorem d_Mc_addPart_7 : decode b_Mc_addPart 7 = .ok (.aload_n 0, 1) := by decide +kernel
theorem d_Mc_addPart_8 : decode b_Mc_addPart 8 = .ok (.getfield 23, 3) := by decide +kernel
theorem d_Mc_addPart_11 : decode b_Mc_addPart 11 = .ok (.bipush 24, 2) := by decide +kernel
theorem d_Mc_addPart_13 : decode b_Mc_addPart 13 = .ok (.if_icmp .ge 16, 3) := by decide +kernel
theorem d_Mc_addPart_16 : decode b_Mc_addPart 16 = .ok (.iload_n 2, 1) := by decide +kernel
theorem d_Mc_addPart_17 : decode b_Mc_addPart 17 = .ok (.ifCond .lt 12, 3) := by decide +kernel
theorem d_Mc_addPart_20 : decode b_Mc_addPart 20 = .ok (.iload_n 2, 1) := by decide +kernel
theorem d_Mc_addPart_21 : decode b_Mc_addPart 21 = .ok (.aload_n 0, 1) := by decide +kernel
theorem d_Mc_addPart_22 : decode b_Mc_addPart 22 = .ok (.getfield 16, 3) := by decide +kernel
theorem d_Mc_addPart_25 : decode b_Mc_addPart 25 = .ok (.arraylength, 1) := by decide +kernel
theorem d_Mc_addPart_26 : decode b_Mc_addPart 26 = .ok (.if_icmp .lt 4, 3) := by decide +kernel
theorem d_Mc_addPart_29 : decode b_Mc_addPart 29 = .ok (.return_, 1) := by decide +kernel
theorem d_Mc_addPart_30 : decode b_Mc_addPart 30 = .ok (.aload_n 0, 1) := by decide +kernel
theorem d_Mc_addPart_31 : decode b_Mc_addPart 31 = .ok (.getfield 16, 3) := by decide +kernel
theorem d_Mc_addPart_34 : decode b_Mc_addPart 34 = .ok (.iload_n 2, 1) := by decide +kernel
theorem d_Mc_addPart_35 : decode b_Mc_addPart 35 = .ok (.aload_n 0, 1) := by decide +kernel
theorem d_Mc_addPart_36 : decode b_Mc_addPart 36 = .ok (.getfield 23, 3) := by decide +kernel
theorem d_Mc_addPart_39 : decode b_Mc_addPart 39 = .ok (.iastore, 1) := by decide +kernel
theorem d_Mc_addPart_40 : decode b_Mc_addPart 40 = .ok (.aload_n 0, 1) := by decide +kernel
theorem d_Mc_addPart_41 : decode b_Mc_addPart 41 = .ok (.dup, 1) := by decide +kernel
theorem d_Mc_addPart_42 : decode b_Mc_addPart 42 = .ok (.getfield 23, 3) := by decide +kernel
theorem d_Mc_addPart_45 : decode b_Mc_addPart 45 = .ok (.iconst 1, 1) := by decide +kernel
theorem d_Mc_addPart_46 : decode b_Mc_addPart 46 = .ok (.iadd, 1) := by decide +kernel
theorem d_Mc_addPart_47 : decode b_Mc_addPart 47 = .ok (.putfield 23, 3) := by decide +kernel
theorem d_Mc_addPart_50 : decode b_Mc_addPart 50 = .ok (.iconst 0, 1) := by decide +kernel
theorem d_Mc_addPart_51 : decode b_Mc_addPart 51 = .ok (.istore_n 3, 1) := by decide +kernel
theorem d_Mc_addPart_52 : decode b_Mc_addPart 52 = .ok (.iload_n 3, 1) := by decide +kernel
theorem d_Mc_addPart_53 : decode b_Mc_addPart 53 = .ok (.bipush 6, 2) := by decide +kernel
theorem d_Mc_addPart_55 : decode b_Mc_addPart 55 = .ok (.if_icmp .ge 15, 3) := by decide +kernel
theorem d_Mc_addPart_58 : decode b_Mc_addPart 58 = .ok (.aload_n 0, 1) := by decide +kernel
theorem d_Mc_addPart_59 : decode b_Mc_addPart 59 = .ok (.iload_n 3, 1) := by decide +kernel
theorem d_Mc_addPart_60 : decode b_Mc_addPart 60 = .ok (.iconst (-1), 1) := by decide +kernel
theorem d_Mc_addPart_61 : decode b_Mc_addPart 61 = .ok (.invokevirtual 27, 3) := by decide +kernel
theorem d_Mc_addPart_64 : decode b_Mc_addPart 64 = .ok (.iinc 3 1, 3) := by decide +kernel
theorem d_Mc_addPart_67 : decode b_Mc_addPart 67 = .ok (.goto (-15), 3) := by decide +kernel
theorem d_Mc_addPart_70 : decode b_Mc_addPart 70 = .ok (.aload_n 0, 1) := by decide +kernel
theorem d_Mc_addPart_71 : decode b_Mc_addPart 71 = .ok (.iconst 0, 1) := by decide +kernel
theorem d_Mc_addPart_72 : decode b_Mc_addPart 72 = .ok (.iload_n 1, 1) := by decide +kernel
theorem d_Mc_addPart_73 : decode b_Mc_addPart 73 = .ok (.invokevirtual 27, 3) := by decide +kernel
theorem d_Mc_addPart_76 : decode b_Mc_addPart 76 = .ok (.aload_n 0, 1) := by decide +kernel
theorem d_Mc_addPart_77 : decode b_Mc_addPart 77 = .ok (.iconst 1, 1) := by decide +kernel
theorem d_Mc_addPart_78 : decode b_Mc_addPart 78 = .ok (.iload_n 2, 1) := by decide +kernel
theorem d_Mc_addPart_79 : decode b_Mc_addPart 79 = .ok (.invokevirtual 27, 3) := by decide +kernel
theorem d_Mc_addPart_82 : decode b_Mc_addPart 82 = .ok (.return_, 1) := by decide +kernel
theorem d_Mc_setLatest_0 : decode b_Mc_setLatest 0 = .ok (.aload_n 0, 1) := by decide +kernel
theorem d_Mc_setLatest_1 : decode b_Mc_setLatest 1 = .ok (.getfield 23, 3) := by decide +kernel
theorem d_Mc_setLatest_4 : decode b_Mc_setLatest 4 = .ok (.iconst 1, 1) := by decide +kernel
theorem d_Mc_setLatest_5 : decode b_Mc_setLatest 5 = .ok (.isub, 1) := by decide +kernel
theorem d_Mc_setLatest_6 : decode b_Mc_setLatest 6 = .ok (.istore_n 3, 1) := by decide +kernel
theorem d_Mc_setLatest_7 : decode b_Mc_setLatest 7 = .ok (.iload_n 3, 1) := by decide +kernel
theorem d_Mc_setLatest_8 : decode b_Mc_setLatest 8 = .ok (.ifCond .lt 28, 3) := by decide +kernel
theorem d_Mc_setLatest_11 : decode b_Mc_setLatest 11 = .ok (.iload_n 3, 1) := by decide +kernel
theorem d_Mc_setLatest_12 : decode b_Mc_setLatest 12 = .ok (.bipush 24, 2) := by decide +kernel
theorem d_Mc_setLatest_14 : decode b_Mc_setLatest 14 = .ok (.if_icmp .ge 22, 3) := by decide +kernel
theorem d_Mc_setLatest_17 : decode b_Mc_setLatest 17 = .ok (.iload_n 1, 1) := by decide +kernel
theorem d_Mc_setLatest_18 : decode b_Mc_setLatest 18 = .ok (.ifCond .lt 18, 3) := by decide +kernel
theorem d_Mc_setLatest_21 : decode b_Mc_setLatest 21 = .ok (.iload_n 1, 1) := by decide +kernel
theorem d_Mc_setLatest_22 : decode b_Mc_setLatest 22 = .ok (.bipush 6, 2) := by decide +kernel
theorem d_Mc_setLatest_24 : decode b_Mc_setLatest 24 = .ok (.if_icmp .ge 12, 3) := by decide +kernel
theorem d_Mc_setLatest_27 : decode b_Mc_setLatest 27 = .ok (.aload_n 0, 1) := by decide +kernel
theorem d_Mc_setLatest_28 : decode b_Mc_setLatest 28 = .ok (.getfield 11, 3) := by decide +kernel
theorem d_Mc_setLatest_31 : decode b_Mc_setLatest 31 = .ok (.iload_n 1, 1) := by decide +kernel
theorem d_Mc_setLatest_32 : decode b_Mc_setLatest 32 = .ok (.aaload, 1) := by decide +kernel
theorem d_Mc_setLatest_33 : decode b_Mc_setLatest 33 = .ok (.iload_n 3, 1) := by decide +kernel
theorem d_Mc_setLatest_34 : decode b_Mc_setLatest 34 = .ok (.iload_n 2, 1) := by decide +kernel
theorem d_Mc_setLatest_35 : decode b_Mc_setLatest 35 = .ok (.iastore, 1) := by decide +kernel
theorem d_Mc_setLatest_36 : decode b_Mc_setLatest 36 = .ok (.return_, 1) := by decide +kernel
theorem d_Mc_value_0 : decode b_Mc_value 0 = .ok (.iload_n 1, 1) := by decide +kernel
theorem d_Mc_value_1 : decode b_Mc_value 1 = .ok (.ifCond .lt 27, 3) := by decide +kernel
theorem d_Mc_value_4 : decode b_Mc_value 4 = .ok (.iload_n 1, 1) := by decide +kernel
theorem d_Mc_value_5 : decode b_Mc_value 5 = .ok (.aload_n 0, 1) := by decide +kernel
theorem d_Mc_value_6 : decode b_Mc_value 6 = .ok (.getfield 23, 3) := by decide +kernel
theorem d_Mc_value_9 : decode b_Mc_value 9 = .ok (.if_icmp .ge 19, 3) := by decide +kernel
theorem d_Mc_value_12 : decode b_Mc_value 12 = .ok (.iload_n 1, 1) := by decide +kernel
theorem d_Mc_value_13 : decode b_Mc_value 13 = .ok (.bipush 24, 2) := by decide +kernel
theorem d_Mc_value_15 : decode b_Mc_value 15 = .ok (.if_icmp .ge 13, 3) := by decide +kernel
theorem d_Mc_value_18 : decode b_Mc_value 18 = .ok (.iload_n 2, 1) := by decide +kernel
theorem d_Mc_value_19 : decode b_Mc_value 19 = .ok (.ifCond .lt 9, 3) := by decide +kernel
theorem d_Mc_value_22 : decode b_Mc_value 22 = .ok (.iload_n 2, 1) := by decide +kernel
theorem d_Mc_value_23 : decode b_Mc_value 23 = .ok (.bipush 6, 2) := by decide +kernel
theorem d_Mc_value_25 : decode b_Mc_value 25 = .ok (.if_icmp .lt 5, 3) := by decide +kernel
theorem d_Mc_value_28 : decode b_Mc_value 28 = .ok (.iconst (-1), 1) := by decide +kernel
theorem d_Mc_value_29 : decode b_Mc_value 29 = .ok (.ireturn, 1) := by decide +kernel
theorem d_Mc_value_30 : decode b_Mc_value 30 = .ok (.aload_n 0, 1) := by decide +kernel
theorem d_Mc_value_31 : decode b_Mc_value 31 = .ok (.getfield 11, 3) := by decide +kernel
theorem d_Mc_value_34 : decode b_Mc_value 34 = .ok (.iload_n 2, 1) := by decide +kernel
theorem d_Mc_value_35 : decode b_Mc_value 35 = .ok (.aaload, 1) := by decide +kernel
theorem d_Mc_value_36 : decode b_Mc_value 36 = .ok (.iload_n 1, 1) := by decide +kernel
theorem d_Mc_value_37 : decode b_Mc_value 37 = .ok (.iaload, 1) := by decide +kernel
theorem d_Mc_value_38 : decode b_Mc_value 38 = .ok (.ireturn, 1) := by decide +kernel
theorem d_Mc_indexOf_0 : decode b_Mc_indexOf 0 = .ok (.iload_n 1, 1) := by decide +kernel
theorem d_Mc_indexOf_1 : decode b_Mc_indexOf 1 = .ok (.ifCond .lt 12, 3) := by decide +kernel
theorem d_Mc_indexOf_4 : decode b_Mc_indexOf 4 = .ok (.iload_n 1, 1) := by decide +kernel
theorem d_Mc_indexOf_5 : decode b_Mc_indexOf 5 = .ok (.aload_n 0, 1) := by decide +kernel
theorem d_Mc_indexOf_6 : decode b_Mc_indexOf 6 = .ok (.getfield 16, 3) := by decide +kernel
theorem d_Mc_indexOf_9 : decode b_Mc_indexOf 9 = .ok (.arraylength, 1) := by decide +kernel
theorem d_Mc_indexOf_10 : decode b_Mc_indexOf 10 = .ok (.if_icmp .lt 7, 3) := by decide +kernel
theorem d_Mc_indexOf_13 : decode b_Mc_indexOf 13 = .ok (.iconst (-1), 1) := by decide +kernel
theorem d_Mc_indexOf_14 : decode b_Mc_indexOf 14 = .ok (.goto 9, 3) := by decide +kernel
theorem d_Mc_indexOf_17 : decode b_Mc_indexOf 17 = .ok (.aload_n 0, 1) := by decide +kernel
theorem d_Mc_indexOf_18 : decode b_Mc_indexOf 18 = .ok (.getfield 16, 3) := by decide +kernel
theorem d_Mc_indexOf_21 : decode b_Mc_indexOf 21 = .ok (.iload_n 1, 1) := by decide +kernel
theorem d_Mc_indexOf_22 : decode b_Mc_indexOf 22 = .ok (.iaload, 1) := by decide +kernel
theorem d_Mc_indexOf_23 : decode b_Mc_indexOf 23 = .ok (.ireturn, 1) := by decide +kernel
theorem d_Mc_hasWay_0 : decode b_Mc_hasWay 0 = .ok (.aload_n 0, 1) := by decide +kernel
theorem d_Mc_hasWay_1 : decode b_Mc_hasWay 1 = .ok (.iload_n 1, 1) := by decide +kernel
theorem d_Mc_hasWay_2 : decode b_Mc_hasWay 2 = .ok (.iconst 4, 1) := by decide +kernel
theorem d_Mc_hasWay_3 : decode b_Mc_hasWay 3 = .ok (.iload_n 2, 1) := by decide +kernel
theorem d_Mc_hasWay_4 : decode b_Mc_hasWay 4 = .ok (.iadd, 1) := by decide +kernel
theorem d_Mc_hasWay_5 : decode b_Mc_hasWay 5 = .ok (.invokevirtual 31, 3) := by decide +kernel
theorem d_Mc_hasWay_8 : decode b_Mc_hasWay 8 = .ok (.iconst (-1), 1) := by decide +kernel
theorem d_Mc_hasWay_9 : decode b_Mc_hasWay 9 = .ok (.if_icmp .eq 7, 3) := by decide +kernel
theorem d_Mc_hasWay_12 : decode b_Mc_hasWay 12 = .ok (.iconst 1, 1) := by decide +kernel
theorem d_Mc_hasWay_13 : decode b_Mc_hasWay 13 = .ok (.goto 4, 3) := by decide +kernel
theorem d_Mc_hasWay_16 : decode b_Mc_hasWay 16 = .ok (.iconst 0, 1) := by decide +kernel
theorem d_Mc_hasWay_17 : decode b_Mc_hasWay 17 = .ok (.ireturn, 1) := by decide +kernel
theorem d_Mc_goal_0 : decode b_Mc_goal 0 = .ok (.aload_n 0, 1) := by decide +kernel
theorem d_Mc_goal_1 : decode b_Mc_goal 1 = .ok (.aload_n 0, 1) := by decide +kernel
theorem d_Mc_goal_2 : decode b_Mc_goal 2 = .ok (.iload_n 1, 1) := by decide +kernel
theorem d_Mc_goal_3 : decode b_Mc_goal 3 = .ok (.iconst 4, 1) := by decide +kernel
theorem d_Mc_goal_4 : decode b_Mc_goal 4 = .ok (.iload_n 2, 1) := by decide +kernel
theorem d_Mc_goal_5 : decode b_Mc_goal 5 = .ok (.iadd, 1) := by decide +kernel
theorem d_Mc_goal_6 : decode b_Mc_goal 6 = .ok (.invokevirtual 31, 3) := by decide +kernel
theorem d_Mc_goal_9 : decode b_Mc_goal 9 = .ok (.invokevirtual 35, 3) := by decide +kernel
theorem d_Mc_goal_12 : decode b_Mc_goal 12 = .ok (.ireturn, 1) := by decide +kernel
theorem d_Mc_timeThrough_0 : decode b_Mc_timeThrough 0 = .ok (.aload_n 0, 1) := by decide +kernel
theorem d_Mc_timeThrough_1 : decode b_Mc_timeThrough 1 = .ok (.iload_n 1, 1) := by decide +kernel
theorem d_Mc_timeThrough_2 : decode b_Mc_timeThrough 2 = .ok (.iconst 2, 1) := by decide +kernel
theorem d_Mc_timeThrough_3 : decode b_Mc_timeThrough 3 = .ok (.invokevirtual 31, 3) := by decide +kernel
theorem d_Mc_timeThrough_6 : decode b_Mc_timeThrough 6 = .ok (.istore_n 2, 1) := by decide +kernel
theorem d_Mc_timeThrough_7 : decode b_Mc_timeThrough 7 = .ok (.aload_n 0, 1) := by decide +kernel
theorem d_Mc_timeThrough_8 : decode b_Mc_timeThrough 8 = .ok (.iload_n 1, 1) := by decide +kernel
theorem d_Mc_timeThrough_9 : decode b_Mc_timeThrough 9 = .ok (.iconst 3, 1) := by decide +kernel
theorem d_Mc_timeThrough_10 : decode b_Mc_timeThrough 10 = .ok (.invokevirtual 31, 3) := by decide +kernel
theorem d_Mc_timeThrough_13 : decode b_Mc_timeThrough 13 = .ok (.istore_n 3, 1) := by decide +kernel
theorem d_Mc_timeThrough_14 : decode b_Mc_timeThrough 14 = .ok (.aload_n 0, 1) := by decide +kernel
theorem d_Mc_timeThrough_15 : decode b_Mc_timeThrough 15 = .ok (.iload_n 1, 1) := by decide +kernel
theorem d_Mc_timeThrough_16 : decode b_Mc_timeThrough 16 = .ok (.iconst 0, 1) := by decide +kernel
theorem d_Mc_timeThrough_17 : decode b_Mc_timeThrough 17 = .ok (.invokevirtual 31, 3) := by decide +kernel
theorem d_Mc_timeThrough_20 : decode b_Mc_timeThrough 20 = .ok (.iconst 1, 1) := by decide +kernel
theorem d_Mc_timeThrough_21 : decode b_Mc_timeThrough 21 = .ok (.if_icmp .ne 19, 3) := by decide +kernel
theorem d_Mc_timeThrough_24 : decode b_Mc_timeThrough 24 = .ok (.iload_n 3, 1) := by decide +kernel
theorem d_Mc_timeThrough_25 : decode b_Mc_timeThrough 25 = .ok (.ifCond .le 15, 3) := by decide +kernel
theorem d_Mc_timeThrough_28 : decode b_Mc_timeThrough 28 = .ok (.sipush 1000, 3) := by decide +kernel
theorem d_Mc_timeThrough_31 : decode b_Mc_timeThrough 31 = .ok (.iload_n 2, 1) := by decide +kernel
theorem d_Mc_timeThrough_32 : decode b_Mc_timeThrough 32 = .ok (.imul, 1) := by decide +kernel
theorem d_Mc_timeThrough_33 : decode b_Mc_timeThrough 33 = .ok (.iload_n 3, 1) := by decide +kernel
theorem d_Mc_timeThrough_34 : decode b_Mc_timeThrough 34 = .ok (.iadd, 1) := by decide +kernel
theorem d_Mc_timeThrough_35 : decode b_Mc_timeThrough 35 = .ok (.iconst 1, 1) := by decide +kernel
theorem d_Mc_timeThrough_36 : decode b_Mc_timeThrough 36 = .ok (.isub, 1) := by decide +kernel
theorem d_Mc_timeThrough_37 : decode b_Mc_timeThrough 37 = .ok (.iload_n 3, 1) := by decide +kernel
theorem d_Mc_timeThrough_38 : decode b_Mc_timeThrough 38 = .ok (.idiv, 1) := by decide +kernel
theorem d_Mc_timeThrough_39 : decode b_Mc_timeThrough 39 = .ok (.ireturn, 1) := by decide +kernel
theorem d_Mc_timeThrough_40 : decode b_Mc_timeThrough 40 = .ok (.aload_n 0, 1) := by decide +kernel
theorem d_Mc_timeThrough_41 : decode b_Mc_timeThrough 41 = .ok (.iload_n 1, 1) := by decide +kernel
theorem d_Mc_timeThrough_42 : decode b_Mc_timeThrough 42 = .ok (.iconst 0, 1) := by decide +kernel
theorem d_Mc_timeThrough_43 : decode b_Mc_timeThrough 43 = .ok (.invokevirtual 31, 3) := by decide +kernel
theorem d_Mc_timeThrough_46 : decode b_Mc_timeThrough 46 = .ok (.iconst 2, 1) := by decide +kernel
theorem d_Mc_timeThrough_47 : decode b_Mc_timeThrough 47 = .ok (.if_icmp .ne 7, 3) := by decide +kernel
theorem d_Mc_timeThrough_50 : decode b_Mc_timeThrough 50 = .ok (.iload_n 2, 1) := by decide +kernel
theorem d_Mc_timeThrough_51 : decode b_Mc_timeThrough 51 = .ok (.goto 4, 3) := by decide +kernel
theorem d_Mc_timeThrough_54 : decode b_Mc_timeThrough 54 = .ok (.iconst 0, 1) := by decide +kernel
theorem d_Mc_timeThrough_55 : decode b_Mc_timeThrough 55 = .ok (.ireturn, 1) := by decide +kernel
theorem d_Ps_init_0 : decode b_Ps_init 0 = .ok (.aload_n 0, 1) := by decide +kernel
theorem d_Ps_init_1 : decode b_Ps_init 1 = .ok (.invokespecial 3, 3) := by decide +kernel
theorem d_Ps_init_4 : decode b_Ps_init 4 = .ok (.aload_n 0, 1) := by decide +kernel
theorem d_Ps_init_5 : decode b_Ps_init 5 = .ok (.aload_n 1, 1) := by decide +kernel
theorem d_Ps_init_6 : decode b_Ps_init 6 = .ok (.putfield 9, 3) := by decide +kernel
theorem d_Ps_init_9 : decode b_Ps_init 9 = .ok (.aload_n 0, 1) := by decide +kernel
theorem d_Ps_init_10 : decode b_Ps_init 10 = .ok (.iconst 0, 1) := by decide +kernel
theorem d_Ps_init_11 : decode b_Ps_init 11 = .ok (.putfield 15, 3) := by decide +kernel
theorem d_Ps_init_14 : decode b_Ps_init 14 = .ok (.return_, 1) := by decide +kernel
theorem d_Ps_readParts_0 : decode b_Ps_readParts 0 = .ok (.aload_n 1, 1) := by decide +kernel
theorem d_Ps_readParts_1 : decode b_Ps_readParts 1 = .ok (.invokevirtual 19, 3) := by decide +kernel
theorem d_Ps_readParts_4 : decode b_Ps_readParts 4 = .ok (.aload_n 0, 1) := by decide +kernel
theorem d_Ps_readParts_5 : decode b_Ps_readParts 5 = .ok (.iconst 0, 1) := by decide +kernel
theorem d_Ps_readParts_6 : decode b_Ps_readParts 6 = .ok (.putfield 15, 3) := by decide +kernel
theorem d_Ps_readParts_9 : decode b_Ps_readParts 9 = .ok (.aload_n 0, 1) := by decide +kernel
theorem d_Ps_readParts_10 : decode b_Ps_readParts 10 = .ok (.aload_n 1, 1) := by decide +kernel
theorem d_Ps_readParts_11 : decode b_Ps_readParts 11 = .ok (.invokevirtual 24, 3) := by decide +kernel
theorem d_Ps_readParts_14 : decode b_Ps_readParts 14 = .ok (.istore_n 2, 1) := by decide +kernel
theorem d_Ps_readParts_15 : decode b_Ps_readParts 15 = .ok (.iconst 1, 1) := by decide +kernel
theorem d_Ps_readParts_16 : decode b_Ps_readParts 16 = .ok (.istore_n 3, 1) := by decide +kernel
theorem d_Ps_readParts_17 : decode b_Ps_readParts 17 = .ok (.iload_n 3, 1) := by decide +kernel
theorem d_Ps_readParts_18 : decode b_Ps_readParts 18 = .ok (.bipush 24, 2) := by decide +kernel
theorem d_Ps_readParts_20 : decode b_Ps_readParts 20 = .ok (.if_icmp .ge 33, 3) := by decide +kernel
theorem d_Ps_readParts_23 : decode b_Ps_readParts 23 = .ok (.iload_n 2, 1) := by decide +kernel
theorem d_Ps_readParts_24 : decode b_Ps_readParts 24 = .ok (.ifCond .eq 29, 3) := by decide +kernel
theorem d_Ps_readParts_27 : decode b_Ps_readParts 27 = .ok (.aload_n 0, 1) := by decide +kernel
theorem d_Ps_readParts_28 : decode b_Ps_readParts 28 = .ok (.getfield 15, 3) := by decide +kernel
theorem d_Ps_readParts_31 : decode b_Ps_readParts 31 = .ok (.aload_n 0, 1) := by decide +kernel
theorem d_Ps_readParts_32 : decode b_Ps_readParts 32 = .ok (.getfield 9, 3) := by decide +kernel
theorem d_Ps_readParts_35 : decode b_Ps_readParts 35 = .ok (.getfield 28, 3) := by decide +kernel
theorem d_Ps_readParts_38 : decode b_Ps_readParts 38 = .ok (.if_icmp .ge 15, 3) := by decide +kernel
theorem d_Ps_readParts_41 : decode b_Ps_readParts 41 = .ok (.aload_n 0, 1) := by decide +kernel
theorem d_Ps_readParts_42 : decode b_Ps_readParts 42 = .ok (.aload_n 1, 1) := by decide +kernel
theorem d_Ps_readParts_43 : decode b_Ps_readParts 43 = .ok (.invokevirtual 24, 3) := by decide +kernel
theorem d_Ps_readParts_46 : decode b_Ps_readParts 46 = .ok (.istore_n 2, 1) := by decide +kernel
theorem d_Ps_readParts_47 : decode b_Ps_readParts 47 = .ok (.iinc 3 1, 3) := by decide +kernel
theorem d_Ps_readParts_50 : decode b_Ps_readParts 50 = .ok (.goto (-33), 3) := by decide +kernel
theorem d_Ps_readParts_53 : decode b_Ps_readParts 53 = .ok (.iload_n 2, 1) := by decide +kernel
theorem d_Ps_readParts_54 : decode b_Ps_readParts 54 = .ok (.ifCond .eq 21, 3) := by decide +kernel
theorem d_Ps_readParts_57 : decode b_Ps_readParts 57 = .ok (.aload_n 0, 1) := by decide +kernel
theorem d_Ps_readParts_58 : decode b_Ps_readParts 58 = .ok (.getfield 15, 3) := by decide +kernel
theorem d_Ps_readParts_61 : decode b_Ps_readParts 61 = .ok (.aload_n 0, 1) := by decide +kernel
theorem d_Ps_readParts_62 : decode b_Ps_readParts 62 = .ok (.getfield 9, 3) := by decide +kernel
theorem d_Ps_readParts_65 : decode b_Ps_readParts 65 = .ok (.getfield 28, 3) := by decide +kernel
theorem d_Ps_readParts_68 : decode b_Ps_readParts 68 = .ok (.if_icmp .ne 7, 3) := by decide +kernel
theorem d_Ps_readParts_71 : decode b_Ps_readParts 71 = .ok (.iconst 1, 1) := by decide +kernel
theorem d_Ps_readParts_72 : decode b_Ps_readParts 72 = .ok (.goto 4, 3) := by decide +kernel
theorem d_Ps_readParts_75 : decode b_Ps_readParts 75 = .ok (.iconst 0, 1) := by decide +kernel
theorem d_Ps_readParts_76 : decode b_Ps_readParts 76 = .ok (.ireturn, 1) := by decide +kernel
theorem d_Ps_readPart_0 : decode b_Ps_readPart 0 = .ok (.aload_n 0, 1) := by decide +kernel
theorem d_Ps_readPart_1 : decode b_Ps_readPart 1 = .ok (.getfield 9, 3) := by decide +kernel
theorem d_Ps_readPart_4 : decode b_Ps_readPart 4 = .ok (.aload_n 0, 1) := by decide +kernel
theorem d_Ps_readPart_5 : decode b_Ps_readPart 5 = .ok (.getfield 15, 3) := by decide +kernel
theorem d_Ps_readPart_8 : decode b_Ps_readPart 8 = .ok (.invokevirtual 33, 3) := by decide +kernel
theorem d_Ps_readPart_11 : decode b_Ps_readPart 11 = .ok (.invokestatic 37, 3) := by decide +kernel
theorem d_Ps_readPart_14 : decode b_Ps_readPart 14 = .ok (.istore_n 2, 1) := by decide +kernel
theorem d_Ps_readPart_15 : decode b_Ps_readPart 15 = .ok (.iload_n 2, 1) := by decide +kernel
theorem d_Ps_readPart_16 : decode b_Ps_readPart 16 = .ok (.ifCond .lt 19, 3) := by decide +kernel
theorem d_Ps_readPart_19 : decode b_Ps_readPart 19 = .ok (.iload_n 2, 1) := by decide +kernel
theorem d_Ps_readPart_20 : decode b_Ps_readPart 20 = .ok (.getstatic 40, 3) := by decide +kernel
theorem d_Ps_readPart_23 : decode b_Ps_readPart 23 = .ok (.arraylength, 1) := by decide +kernel
theorem d_Ps_readPart_24 : decode b_Ps_readPart 24 = .ok (.if_icmp .ge 11, 3) := by decide +kernel
theorem d_Ps_readPart_27 : decode b_Ps_readPart 27 = .ok (.iload_n 2, 1) := by decide +kernel
theorem d_Ps_readPart_28 : decode b_Ps_readPart 28 = .ok (.getstatic 44, 3) := by decide +kernel
theorem d_Ps_readPart_31 : decode b_Ps_readPart 31 = .ok (.arraylength, 1) := by decide +kernel
theorem d_Ps_readPart_32 : decode b_Ps_readPart 32 = .ok (.if_icmp .lt 5, 3) := by decide +kernel
theorem d_Ps_readPart_35 : decode b_Ps_readPart 35 = .ok (.iconst 0, 1) := by decide +kernel
theorem d_Ps_readPart_36 : decode b_Ps_readPart 36 = .ok (.ireturn, 1) := by decide +kernel
theorem d_Ps_readPart_37 : decode b_Ps_readPart 37 = .ok (.aload_n 0, 1) := by decide +kernel
theorem d_Ps_readPart_38 : decode b_Ps_readPart 38 = .ok (.dup, 1) := by decide +kernel
theorem d_Ps_readPart_39 : decode b_Ps_readPart 39 = .ok (.getfield 15, 3) := by decide +kernel
theorem d_Ps_readPart_42 : decode b_Ps_readPart 42 = .ok (.iconst 1, 1) := by decide +kernel
theorem d_Ps_readPart_43 : decode b_Ps_readPart 43 = .ok (.iadd, 1) := by decide +kernel
theorem d_Ps_readPart_44 : decode b_Ps_readPart 44 = .ok (.putfield 15, 3) := by decide +kernel
theorem d_Ps_readPart_47 : decode b_Ps_readPart 47 = .ok (.aload_n 0, 1) := by decide +kernel
theorem d_Ps_readPart_48 : decode b_Ps_readPart 48 = .ok (.aload_n 1, 1) := by decide +kernel
theorem d_Ps_readPart_49 : decode b_Ps_readPart 49 = .ok (.iload_n 2, 1) := by decide +kernel
theorem d_Ps_readPart_50 : decode b_Ps_readPart 50 = .ok (.invokevirtual 47, 3) := by decide +kernel
theorem d_Ps_readPart_53 : decode b_Ps_readPart 53 = .ok (.ifCond .eq 95, 3) := by decide +kernel
theorem d_Ps_readPart_56 : decode b_Ps_readPart 56 = .ok (.aload_n 0, 1) := by decide +kernel
theorem d_Ps_readPart_57 : decode b_Ps_readPart 57 = .ok (.aload_n 1, 1) := by decide +kernel
theorem d_Ps_readPart_58 : decode b_Ps_readPart 58 = .ok (.bipush 61, 2) := by decide +kernel
theorem d_Ps_readPart_60 : decode b_Ps_readPart 60 = .ok (.iconst 2, 1) := by decide +kernel
theorem d_Ps_readPart_61 : decode b_Ps_readPart 61 = .ok (.getstatic 40, 3) := by decide +kernel
theorem d_Ps_readPart_64 : decode b_Ps_readPart 64 = .ok (.iload_n 2, 1) := by decide +kernel
theorem d_Ps_readPart_65 : decode b_Ps_readPart 65 = .ok (.iaload, 1) := by decide +kernel
theorem d_Ps_readPart_66 : decode b_Ps_readPart 66 = .ok (.getstatic 44, 3) := by decide +kernel
theorem d_Ps_readPart_69 : decode b_Ps_readPart 69 = .ok (.iload_n 2, 1) := by decide +kernel
theorem d_Ps_readPart_70 : decode b_Ps_readPart 70 = .ok (.iaload, 1) := by decide +kernel
theorem d_Ps_readPart_71 : decode b_Ps_readPart 71 = .ok (.invokevirtual 51, 3) := by decide +kernel
theorem d_Ps_readPart_74 : decode b_Ps_readPart 74 = .ok (.ifCond .eq 74, 3) := by decide +kernel
theorem d_Ps_readPart_77 : decode b_Ps_readPart 77 = .ok (.iload_n 2, 1) := by decide +kernel
theorem d_Ps_readPart_78 : decode b_Ps_readPart 78 = .ok (.iconst 1, 1) := by decide +kernel
theorem d_Ps_readPart_79 : decode b_Ps_readPart 79 = .ok (.if_icmp .ne 18, 3) := by decide +kernel
theorem d_Ps_readPart_82 : decode b_Ps_readPart 82 = .ok (.aload_n 0, 1) := by decide +kernel
theorem d_Ps_readPart_83 : decode b_Ps_readPart 83 = .ok (.aload_n 1, 1) := by decide +kernel
theorem d_Ps_readPart_84 : decode b_Ps_readPart 84 = .ok (.bipush 44, 2) := by decide +kernel
theorem d_Ps_readPart_86 : decode b_Ps_readPart 86 = .ok (.iconst 3, 1) := by decide +kernel
theorem d_Ps_readPart_87 : decode b_Ps_readPart 87 = .ok (.iconst 1, 1) := by decide +kernel
theorem d_Ps_readPart_88 : decode b_Ps_readPart 88 = .ok (.sipush 9999, 3) := by decide +kernel
theorem d_Ps_readPart_91 : decode b_Ps_readPart 91 = .ok (.invokevirtual 51, 3) := by decide +kernel
theorem d_Ps_readPart_94 : decode b_Ps_readPart 94 = .ok (.ifCond .eq 54, 3) := by decide +kernel
theorem d_Ps_readPart_97 : decode b_Ps_readPart 97 = .ok (.iload_n 2, 1) := by decide +kernel
theorem d_Ps_readPart_98 : decode b_Ps_readPart 98 = .ok (.iconst 4, 1) := by decide +kernel
theorem d_Ps_readPart_99 : decode b_Ps_readPart 99 = .ok (.if_icmp .eq 17, 3) := by decide +kernel
theorem d_Ps_readPart_102 : decode b_Ps_readPart 102 = .ok (.aload_n 0, 1) := by decide +kernel
theorem d_Ps_readPart_103 : decode b_Ps_readPart 103 = .ok (.aload_n 1, 1) := by decide +kernel
theorem d_Ps_readPart_104 : decode b_Ps_readPart 104 = .ok (.bipush 62, 2) := by decide +kernel
theorem d_Ps_readPart_106 : decode b_Ps_readPart 106 = .ok (.iconst 4, 1) := by decide +kernel
theorem d_Ps_readPart_107 : decode b_Ps_readPart 107 = .ok (.iconst 0, 1) := by decide +kernel
theorem d_Ps_readPart_108 : decode b_Ps_readPart 108 = .ok (.bipush 29, 2) := by decide +kernel
theorem d_Ps_readPart_110 : decode b_Ps_readPart 110 = .ok (.invokevirtual 51, 3) := by decide +kernel
theorem d_Ps_readPart_113 : decode b_Ps_readPart 113 = .ok (.ifCond .eq 35, 3) := by decide +kernel
theorem d_Ps_readPart_116 : decode b_Ps_readPart 116 = .ok (.iload_n 2, 1) := by decide +kernel
theorem d_Ps_readPart_117 : decode b_Ps_readPart 117 = .ok (.iconst 3, 1) := by decide +kernel
theorem d_Ps_readPart_118 : decode b_Ps_readPart 118 = .ok (.if_icmp .ne 17, 3) := by decide +kernel
theorem d_Ps_readPart_121 : decode b_Ps_readPart 121 = .ok (.aload_n 0, 1) := by decide +kernel
theorem d_Ps_readPart_122 : decode b_Ps_readPart 122 = .ok (.aload_n 1, 1) := by decide +kernel
theorem d_Ps_readPart_123 : decode b_Ps_readPart 123 = .ok (.bipush 44, 2) := by decide +kernel
theorem d_Ps_readPart_125 : decode b_Ps_readPart 125 = .ok (.iconst 5, 1) := by decide +kernel
theorem d_Ps_readPart_126 : decode b_Ps_readPart 126 = .ok (.iconst 0, 1) := by decide +kernel
theorem d_Ps_readPart_127 : decode b_Ps_readPart 127 = .ok (.bipush 29, 2) := by decide +kernel
theorem d_Ps_readPart_129 : decode b_Ps_readPart 129 = .ok (.invokevirtual 51, 3) := by decide +kernel
theorem d_Ps_readPart_132 : decode b_Ps_readPart 132 = .ok (.ifCond .eq 16, 3) := by decide +kernel
theorem d_Ps_readPart_135 : decode b_Ps_readPart 135 = .ok (.aload_n 0, 1) := by decide +kernel
theorem d_Ps_readPart_136 : decode b_Ps_readPart 136 = .ok (.bipush 59, 2) := by decide +kernel
theorem d_Ps_readPart_138 : decode b_Ps_readPart 138 = .ok (.invokevirtual 55, 3) := by decide +kernel
theorem d_Ps_readPart_141 : decode b_Ps_readPart 141 = .ok (.ifCond .eq 7, 3) := by decide +kernel
theorem d_Ps_readPart_144 : decode b_Ps_readPart 144 = .ok (.iconst 1, 1) := by decide +kernel
theorem d_Ps_readPart_145 : decode b_Ps_readPart 145 = .ok (.goto 4, 3) := by decide +kernel
theorem d_Ps_readPart_148 : decode b_Ps_readPart 148 = .ok (.iconst 0, 1) := by decide +kernel
theorem d_Ps_readPart_149 : decode b_Ps_readPart 149 = .ok (.ireturn, 1) := by decide +kernel
theorem d_Ps_readNewName_0 : decode b_Ps_readNewName 0 = .ok (.aload_n 0, 1) := by decide +kernel
theorem d_Ps_readNewName_1 : decode b_Ps_readNewName 1 = .ok (.getfield 15, 3) := by decide +kernel
theorem d_Ps_readNewName_4 : decode b_Ps_readNewName 4 = .ok (.istore_n 3, 1) := by decide +kernel
theorem d_Ps_readNewName_5 : decode b_Ps_readNewName 5 = .ok (.aload_n 0, 1) := by decide +kernel
theorem d_Ps_readNewName_6 : decode b_Ps_readNewName 6 = .ok (.iconst 0, 1) := by decide +kernel
theorem d_Ps_readNewName_7 : decode b_Ps_readNewName 7 = .ok (.bipush 29, 2) := by decide +kernel
theorem d_Ps_readNewName_9 : decode b_Ps_readNewName 9 = .ok (.invokevirtual 59, 3) := by decide +kernel
theorem d_Ps_readNewName_12 : decode b_Ps_readNewName 12 = .ok (.istore 4, 2) := by decide +kernel
theorem d_Ps_readNewName_14 : decode b_Ps_readNewName 14 = .ok (.iload 4, 2) := by decide +kernel
theorem d_Ps_readNewName_16 : decode b_Ps_readNewName 16 = .ok (.iconst (-1), 1) := by decide +kernel
theorem d_Ps_readNewName_17 : decode b_Ps_readNewName 17 = .ok (.if_icmp .ne 5, 3) := by decide +kernel
theorem d_Ps_readNewName_20 : decode b_Ps_readNewName 20 = .ok (.iconst 0, 1) := by decide +kernel
theorem d_Ps_readNewName_21 : decode b_Ps_readNewName 21 = .ok (.ireturn, 1) := by decide +kernel
theorem d_Ps_readNewName_22 : decode b_Ps_readNewName 22 = .ok (.aload_n 1, 1) := by decide +kernel
theorem d_Ps_readNewName_23 : decode b_Ps_readNewName 23 = .ok (.iload 4, 2) := by decide +kernel
theorem d_Ps_readNewName_25 : decode b_Ps_readNewName 25 = .ok (.invokevirtual 63, 3) := by decide +kernel
theorem d_Ps_readNewName_28 : decode b_Ps_readNewName 28 = .ok (.iconst (-1), 1) := by decide +kernel
theorem d_Ps_readNewName_29 : decode b_Ps_readNewName 29 = .ok (.if_icmp .eq 10, 3) := by decide +kernel
theorem d_Ps_readNewName_32 : decode b_Ps_readNewName 32 = .ok (.aload_n 0, 1) := by decide +kernel
theorem d_Ps_readNewName_33 : decode b_Ps_readNewName 33 = .ok (.iload_n 3, 1) := by decide +kernel
theorem d_Ps_readNewName_34 : decode b_Ps_readNewName 34 = .ok (.putfield 15, 3) := by decide +kernel
theorem d_Ps_readNewName_37 : decode b_Ps_readNewName 37 = .ok (.iconst 0, 1) := by decide +kernel
theorem d_Ps_readNewName_38 : decode b_Ps_readNewName 38 = .ok (.ireturn, 1) := by decide +kernel
theorem d_Ps_readNewName_39 : decode b_Ps_readNewName 39 = .ok (.aload_n 1, 1) := by decide +kernel
theorem d_Ps_readNewName_40 : decode b_Ps_readNewName 40 = .ok (.iload_n 2, 1) := by decide +kernel
theorem d_Ps_readNewName_41 : decode b_Ps_readNewName 41 = .ok (.iload 4, 2) := by decide +kernel
theorem d_Ps_readNewName_43 : decode b_Ps_readNewName 43 = .ok (.invokevirtual 66, 3) := by decide +kernel
theorem d_Ps_readNewName_46 : decode b_Ps_readNewName 46 = .ok (.iconst 1, 1) := by decide +kernel
theorem d_Ps_readNewName_47 : decode b_Ps_readNewName 47 = .ok (.ireturn, 1) := by decide +kernel
theorem d_Ps_readValue_0 : decode b_Ps_readValue 0 = .ok (.aload_n 0, 1) := by decide +kernel
theorem d_Ps_readValue_1 : decode b_Ps_readValue 1 = .ok (.iload_n 2, 1) := by decide +kernel
theorem d_Ps_readValue_2 : decode b_Ps_readValue 2 = .ok (.invokevirtual 55, 3) := by decide +kernel
theorem d_Ps_readValue_5 : decode b_Ps_readValue 5 = .ok (.ifCond .ne 5, 3) := by decide +kernel
theorem d_Ps_readValue_8 : decode b_Ps_readValue 8 = .ok (.iconst 0, 1) := by decide +kernel
theorem d_Ps_readValue_9 : decode b_Ps_readValue 9 = .ok (.ireturn, 1) := by decide +kernel
theorem d_Ps_readValue_10 : decode b_Ps_readValue 10 = .ok (.aload_n 0, 1) := by decide +kernel
theorem d_Ps_readValue_11 : decode b_Ps_readValue 11 = .ok (.iload 4, 2) := by decide +kernel
theorem d_Ps_readValue_13 : decode b_Ps_readValue 13 = .ok (.iload 5, 2) := by decide +kernel
theorem d_Ps_readValue_15 : decode b_Ps_readValue 15 = .ok (.invokevirtual 59, 3) := by decide +kernel
theorem d_Ps_readValue_18 : decode b_Ps_readValue 18 = .ok (.istore 6, 2) := by decide +kernel
theorem d_Ps_readValue_20 : decode b_Ps_readValue 20 = .ok (.iload 6, 2) := by decide +kernel
theorem d_Ps_readValue_22 : decode b_Ps_readValue 22 = .ok (.iconst (-1), 1) := by decide +kernel
theorem d_Ps_readValue_23 : decode b_Ps_readValue 23 = .ok (.if_icmp .ne 5, 3) := by decide +kernel
theorem d_Ps_readValue_26 : decode b_Ps_readValue 26 = .ok (.iconst 0, 1) := by decide +kernel
theorem d_Ps_readValue_27 : decode b_Ps_readValue 27 = .ok (.ireturn, 1) := by decide +kernel
theorem d_Ps_readValue_28 : decode b_Ps_readValue 28 = .ok (.aload_n 1, 1) := by decide +kernel
theorem d_Ps_readValue_29 : decode b_Ps_readValue 29 = .ok (.iload_n 3, 1) := by decide +kernel
theorem d_Ps_readValue_30 : decode b_Ps_readValue 30 = .ok (.iload 6, 2) := by decide +kernel
theorem d_Ps_readValue_32 : decode b_Ps_readValue 32 = .ok (.invokevirtual 70, 3) := by decide +kernel
theorem d_Ps_readValue_35 : decode b_Ps_readValue 35 = .ok (.iconst 1, 1) := by decide +kernel
theorem d_Ps_readValue_36 : decode b_Ps_readValue 36 = .ok (.ireturn, 1) := by decide +kernel
theorem d_Ps_readNumber_0 : decode b_Ps_readNumber 0 = .ok (.aload_n 0, 1) := by decide +kernel
theorem d_Ps_readNumber_1 : decode b_Ps_readNumber 1 = .ok (.getfield 15, 3) := by decide +kernel
theorem d_Ps_readNumber_4 : decode b_Ps_readNumber 4 = .ok (.istore_n 3, 1) := by decide +kernel
theorem d_Ps_readNumber_5 : decode b_Ps_readNumber 5 = .ok (.iconst 0, 1) := by decide +kernel
theorem d_Ps_readNumber_6 : decode b_Ps_readNumber 6 = .ok (.istore 4, 2) := by decide +kernel
theorem d_Ps_readNumber_8 : decode b_Ps_readNumber 8 = .ok (.iconst 0, 1) := by decide +kernel
theorem d_Ps_readNumber_9 : decode b_Ps_readNumber 9 = .ok (.istore 5, 2) := by decide +kernel
theorem d_Ps_readNumber_11 : decode b_Ps_readNumber 11 = .ok (.iload 5, 2) := by decide +kernel
theorem d_Ps_readNumber_13 : decode b_Ps_readNumber 13 = .ok (.iconst 4, 1) := by decide +kernel
theorem d_Ps_readNumber_14 : decode b_Ps_readNumber 14 = .ok (.if_icmp .ge 58, 3) := by decide +kernel
theorem d_Ps_readNumber_17 : decode b_Ps_readNumber 17 = .ok (.aload_n 0, 1) := by decide +kernel
theorem d_Ps_readNumber_18 : decode b_Ps_readNumber 18 = .ok (.getfield 9, 3) := by decide +kernel
theorem d_Ps_readNumber_21 : decode b_Ps_readNumber 21 = .ok (.aload_n 0, 1) := by decide +kernel
theorem d_Ps_readNumber_22 : decode b_Ps_readNumber 22 = .ok (.getfield 15, 3) := by decide +kernel
theorem d_Ps_readNumber_25 : decode b_Ps_readNumber 25 = .ok (.invokevirtual 33, 3) := by decide +kernel
theorem d_Ps_readNumber_28 : decode b_Ps_readNumber 28 = .ok (.invokestatic 73, 3) := by decide +kernel
theorem d_Ps_readNumber_31 : decode b_Ps_readNumber 31 = .ok (.ifCond .eq 41, 3) := by decide +kernel
theorem d_Ps_readNumber_34 : decode b_Ps_readNumber 34 = .ok (.iload 4, 2) := by decide +kernel
theorem d_Ps_readNumber_36 : decode b_Ps_readNumber 36 = .ok (.bipush 10, 2) := by decide +kernel
theorem d_Ps_readNumber_38 : decode b_Ps_readNumber 38 = .ok (.imul, 1) := by decide +kernel
theorem d_Ps_readNumber_39 : decode b_Ps_readNumber 39 = .ok (.aload_n 0, 1) := by decide +kernel
theorem d_Ps_readNumber_40 : decode b_Ps_readNumber 40 = .ok (.getfield 9, 3) := by decide +kernel
theorem d_Ps_readNumber_43 : decode b_Ps_readNumber 43 = .ok (.aload_n 0, 1) := by decide +kernel
theorem d_Ps_readNumber_44 : decode b_Ps_readNumber 44 = .ok (.getfield 15, 3) := by decide +kernel
theorem d_Ps_readNumber_47 : decode b_Ps_readNumber 47 = .ok (.invokevirtual 33, 3) := by decide +kernel
theorem d_Ps_readNumber_50 : decode b_Ps_readNumber 50 = .ok (.iadd, 1) := by decide +kernel
theorem d_Ps_readNumber_51 : decode b_Ps_readNumber 51 = .ok (.bipush 48, 2) := by decide +kernel
theorem d_Ps_readNumber_53 : decode b_Ps_readNumber 53 = .ok (.isub, 1) := by decide +kernel
theorem d_Ps_readNumber_54 : decode b_Ps_readNumber 54 = .ok (.istore 4, 2) := by decide +kernel
theorem d_Ps_readNumber_56 : decode b_Ps_readNumber 56 = .ok (.aload_n 0, 1) := by decide +kernel
theorem d_Ps_readNumber_57 : decode b_Ps_readNumber 57 = .ok (.dup, 1) := by decide +kernel
theorem d_Ps_readNumber_58 : decode b_Ps_readNumber 58 = .ok (.getfield 15, 3) := by decide +kernel
theorem d_Ps_readNumber_61 : decode b_Ps_readNumber 61 = .ok (.iconst 1, 1) := by decide +kernel
theorem d_Ps_readNumber_62 : decode b_Ps_readNumber 62 = .ok (.iadd, 1) := by decide +kernel
theorem d_Ps_readNumber_63 : decode b_Ps_readNumber 63 = .ok (.putfield 15, 3) := by decide +kernel
theorem d_Ps_readNumber_66 : decode b_Ps_readNumber 66 = .ok (.iinc 5 1, 3) := by decide +kernel
theorem d_Ps_readNumber_69 : decode b_Ps_readNumber 69 = .ok (.goto (-58), 3) := by decide +kernel
theorem d_Ps_readNumber_72 : decode b_Ps_readNumber 72 = .ok (.aload_n 0, 1) := by decide +kernel
theorem d_Ps_readNumber_73 : decode b_Ps_readNumber 73 = .ok (.getfield 15, 3) := by decide +kernel
theorem d_Ps_readNumber_76 : decode b_Ps_readNumber 76 = .ok (.iload_n 3, 1) := by decide +kernel
theorem d_Ps_readNumber_77 : decode b_Ps_readNumber 77 = .ok (.if_icmp .ne 5, 3) := by decide +kernel
theorem d_Ps_readNumber_80 : decode b_Ps_readNumber 80 = .ok (.iconst (-1), 1) := by decide +kernel
theorem d_Ps_readNumber_81 : decode b_Ps_readNumber 81 = .ok (.ireturn, 1) := by decide +kernel
theorem d_Ps_readNumber_82 : decode b_Ps_readNumber 82 = .ok (.iload 4, 2) := by decide +kernel
theorem d_Ps_readNumber_84 : decode b_Ps_readNumber 84 = .ok (.iload_n 1, 1) := by decide +kernel
theorem d_Ps_readNumber_85 : decode b_Ps_readNumber 85 = .ok (.if_icmp .lt 9, 3) := by decide +kernel
theorem d_Ps_readNumber_88 : decode b_Ps_readNumber 88 = .ok (.iload 4, 2) := by decide +kernel
theorem d_Ps_readNumber_90 : decode b_Ps_readNumber 90 = .ok (.iload_n 2, 1) := by decide +kernel
theorem d_Ps_readNumber_91 : decode b_Ps_readNumber 91 = .ok (.if_icmp .le 10, 3) := by decide +kernel
theorem d_Ps_readNumber_94 : decode b_Ps_readNumber 94 = .ok (.aload_n 0, 1) := by decide +kernel
theorem d_Ps_readNumber_95 : decode b_Ps_readNumber 95 = .ok (.iload_n 3, 1) := by decide +kernel
theorem d_Ps_readNumber_96 : decode b_Ps_readNumber 96 = .ok (.putfield 15, 3) := by decide +kernel
theorem d_Ps_readNumber_99 : decode b_Ps_readNumber 99 = .ok (.iconst (-1), 1) := by decide +kernel
theorem d_Ps_readNumber_100 : decode b_Ps_readNumber 100 = .ok (.ireturn, 1) := by decide +kernel
theorem d_Ps_readNumber_101 : decode b_Ps_readNumber 101 = .ok (.iload 4, 2) := by decide +kernel
theorem d_Ps_readNumber_103 : decode b_Ps_readNumber 103 = .ok (.ireturn, 1) := by decide +kernel
theorem d_Ps_skip_0 : decode b_Ps_skip 0 = .ok (.aload_n 0, 1) := by decide +kernel
theorem d_Ps_skip_1 : decode b_Ps_skip 1 = .ok (.getfield 9, 3) := by decide +kernel
theorem d_Ps_skip_4 : decode b_Ps_skip 4 = .ok (.aload_n 0, 1) := by decide +kernel
theorem d_Ps_skip_5 : decode b_Ps_skip 5 = .ok (.getfield 15, 3) := by decide +kernel
theorem d_Ps_skip_8 : decode b_Ps_skip 8 = .ok (.invokevirtual 33, 3) := by decide +kernel
theorem d_Ps_skip_11 : decode b_Ps_skip 11 = .ok (.iload_n 1, 1) := by decide +kernel
theorem d_Ps_skip_12 : decode b_Ps_skip 12 = .ok (.if_icmp .eq 5, 3) := by decide +kernel
theorem d_Ps_skip_15 : decode b_Ps_skip 15 = .ok (.iconst 0, 1) := by decide +kernel
theorem d_Ps_skip_16 : decode b_Ps_skip 16 = .ok (.ireturn, 1) := by decide +kernel
theorem d_Ps_skip_17 : decode b_Ps_skip 17 = .ok (.aload_n 0, 1) := by decide +kernel
theorem d_Ps_skip_18 : decode b_Ps_skip 18 = .ok (.dup, 1) := by decide +kernel
theorem d_Ps_skip_19 : decode b_Ps_skip 19 = .ok (.getfield 15, 3) := by decide +kernel
theorem d_Ps_skip_22 : decode b_Ps_skip 22 = .ok (.iconst 1, 1) := by decide +kernel
theorem d_Ps_skip_23 : decode b_Ps_skip 23 = .ok (.iadd, 1) := by decide +kernel
theorem d_Ps_skip_24 : decode b_Ps_skip 24 = .ok (.putfield 15, 3) := by decide +kernel
theorem d_Ps_skip_27 : decode b_Ps_skip 27 = .ok (.iconst 1, 1) := by decide +kernel
theorem d_Ps_skip_28 : decode b_Ps_skip 28 = .ok (.ireturn, 1) := by decide +kernel
theorem d_Ps_isDigit_0 : decode b_Ps_isDigit 0 = .ok (.iload_n 0, 1) := by decide +kernel
theorem d_Ps_isDigit_1 : decode b_Ps_isDigit 1 = .ok (.bipush 48, 2) := by decide +kernel
theorem d_Ps_isDigit_3 : decode b_Ps_isDigit 3 = .ok (.if_icmp .lt 13, 3) := by decide +kernel
theorem d_Ps_isDigit_6 : decode b_Ps_isDigit 6 = .ok (.iload_n 0, 1) := by decide +kernel
theorem d_Ps_isDigit_7 : decode b_Ps_isDigit 7 = .ok (.bipush 57, 2) := by decide +kernel
theorem d_Ps_isDigit_9 : decode b_Ps_isDigit 9 = .ok (.if_icmp .gt 7, 3) := by decide +kernel
theorem d_Ps_isDigit_12 : decode b_Ps_isDigit 12 = .ok (.iconst 1, 1) := by decide +kernel
theorem d_Ps_isDigit_13 : decode b_Ps_isDigit 13 = .ok (.goto 4, 3) := by decide +kernel
theorem d_Ps_isDigit_16 : decode b_Ps_isDigit 16 = .ok (.iconst 0, 1) := by decide +kernel
theorem d_Ps_isDigit_17 : decode b_Ps_isDigit 17 = .ok (.ireturn, 1) := by decide +kernel
theorem d_Ps_kindOf_0 : decode b_Ps_kindOf 0 = .ok (.iconst 0, 1) := by decide +kernel
theorem d_Ps_kindOf_1 : decode b_Ps_kindOf 1 = .ok (.istore_n 1, 1) := by decide +kernel
theorem d_Ps_kindOf_2 : decode b_Ps_kindOf 2 = .ok (.iload_n 1, 1) := by decide +kernel
theorem d_Ps_kindOf_3 : decode b_Ps_kindOf 3 = .ok (.getstatic 77, 3) := by decide +kernel
theorem d_Ps_kindOf_6 : decode b_Ps_kindOf 6 = .ok (.arraylength, 1) := by decide +kernel
theorem d_Ps_kindOf_7 : decode b_Ps_kindOf 7 = .ok (.if_icmp .ge 20, 3) := by decide +kernel
theorem d_Ps_kindOf_10 : decode b_Ps_kindOf 10 = .ok (.getstatic 77, 3) := by decide +kernel
theorem d_Ps_kindOf_13 : decode b_Ps_kindOf 13 = .ok (.iload_n 1, 1) := by decide +kernel
theorem d_Ps_kindOf_14 : decode b_Ps_kindOf 14 = .ok (.caload, 1) := by decide +kernel
theorem d_Ps_kindOf_15 : decode b_Ps_kindOf 15 = .ok (.iload_n 0, 1) := by decide +kernel
theorem d_Ps_kindOf_16 : decode b_Ps_kindOf 16 = .ok (.if_icmp .ne 5, 3) := by decide +kernel
theorem d_Ps_kindOf_19 : decode b_Ps_kindOf 19 = .ok (.iload_n 1, 1) := by decide +kernel
theorem d_Ps_kindOf_20 : decode b_Ps_kindOf 20 = .ok (.ireturn, 1) := by decide +kernel
theorem d_Ps_kindOf_21 : decode b_Ps_kindOf 21 = .ok (.iinc 1 1, 3) := by decide +kernel
theorem d_Ps_kindOf_24 : decode b_Ps_kindOf 24 = .ok (.goto (-22), 3) := by decide +kernel
theorem d_Ps_kindOf_27 : decode b_Ps_kindOf 27 = .ok (.iconst (-1), 1) := by decide +kernel
theorem d_Ps_kindOf_28 : decode b_Ps_kindOf 28 = .ok (.ireturn, 1) := by decide +kernel
theorem d_Pa_init_0 : decode b_Pa_init 0 = .ok (.aload_n 0, 1) := by decide +kernel
theorem d_Pa_init_1 : decode b_Pa_init 1 = .ok (.invokespecial 3, 3) := by decide +kernel
theorem d_Pa_init_4 : decode b_Pa_init 4 = .ok (.aload_n 0, 1) := by decide +kernel
theorem d_Pa_init_5 : decode b_Pa_init 5 = .ok (.bipush 24, 2) := by decide +kernel
theorem d_Pa_init_7 : decode b_Pa_init 7 = .ok (.bipush 24, 2) := by decide +kernel
theorem d_Pa_init_9 : decode b_Pa_init 9 = .ok (.multianewarray 9 2, 4) := by decide +kernel
theorem d_Pa_init_13 : decode b_Pa_init 13 = .ok (.putfield 11, 3) := by decide +kernel
theorem d_Pa_init_16 : decode b_Pa_init 16 = .ok (.return_, 1) := by decide +kernel
theorem d_Pa_follow_0 : decode b_Pa_follow 0 = .ok (.aload_n 0, 1) := by decide +kernel
theorem d_Pa_follow_1 : decode b_Pa_follow 1 = .ok (.invokevirtual 16, 3) := by decide +kernel
theorem d_Pa_follow_4 : decode b_Pa_follow 4 = .ok (.iconst 0, 1) := by decide +kernel
theorem d_Pa_follow_5 : decode b_Pa_follow 5 = .ok (.istore_n 2, 1) := by decide +kernel
theorem d_Pa_follow_6 : decode b_Pa_follow 6 = .ok (.iload_n 2, 1) := by decide +kernel
theorem d_Pa_follow_7 : decode b_Pa_follow 7 = .ok (.aload_n 1, 1) := by decide +kernel
theorem d_Pa_follow_8 : decode b_Pa_follow 8 = .ok (.getfield 19, 3) := by decide +kernel
theorem d_Pa_follow_11 : decode b_Pa_follow 11 = .ok (.if_icmp .ge 38, 3) := by decide +kernel
theorem d_Pa_follow_14 : decode b_Pa_follow 14 = .ok (.iconst 0, 1) := by decide +kernel
theorem d_Pa_follow_15 : decode b_Pa_follow 15 = .ok (.istore_n 3, 1) := by decide +kernel
theorem d_Pa_follow_16 : decode b_Pa_follow 16 = .ok (.iload_n 3, 1) := by decide +kernel
theorem d_Pa_follow_17 : decode b_Pa_follow 17 = .ok (.iconst 2, 1) := by decide +kernel
theorem d_Pa_follow_18 : decode b_Pa_follow 18 = .ok (.if_icmp .ge 25, 3) := by decide +kernel
theorem d_Pa_follow_21 : decode b_Pa_follow 21 = .ok (.aload_n 0, 1) := by decide +kernel
theorem d_Pa_follow_22 : decode b_Pa_follow 22 = .ok (.iload_n 2, 1) := by decide +kernel
theorem d_Pa_follow_23 : decode b_Pa_follow 23 = .ok (.aload_n 1, 1) := by decide +kernel
theorem d_Pa_follow_24 : decode b_Pa_follow 24 = .ok (.iload_n 2, 1) := by decide +kernel
theorem d_Pa_follow_25 : decode b_Pa_follow 25 = .ok (.iload_n 3, 1) := by decide +kernel
theorem d_Pa_follow_26 : decode b_Pa_follow 26 = .ok (.invokevirtual 25, 3) := by decide +kernel
theorem d_Pa_follow_29 : decode b_Pa_follow 29 = .ok (.aload_n 1, 1) := by decide +kernel
theorem d_Pa_follow_30 : decode b_Pa_follow 30 = .ok (.iload_n 2, 1) := by decide +kernel
theorem d_Pa_follow_31 : decode b_Pa_follow 31 = .ok (.invokevirtual 29, 3) := by decide +kernel
theorem d_Pa_follow_34 : decode b_Pa_follow 34 = .ok (.invokevirtual 33, 3) := by decide +kernel
theorem d_Pa_follow_37 : decode b_Pa_follow 37 = .ok (.iinc 3 1, 3) := by decide +kernel
theorem d_Pa_follow_40 : decode b_Pa_follow 40 = .ok (.goto (-24), 3) := by decide +kernel
theorem d_Pa_follow_43 : decode b_Pa_follow 43 = .ok (.iinc 2 1, 3) := by decide +kernel
theorem d_Pa_follow_46 : decode b_Pa_follow 46 = .ok (.goto (-40), 3) := by decide +kernel
theorem d_Pa_follow_49 : decode b_Pa_follow 49 = .ok (.iconst 0, 1) := by decide +kernel
theorem d_Pa_follow_50 : decode b_Pa_follow 50 = .ok (.istore_n 2, 1) := by decide +kernel
theorem d_Pa_follow_51 : decode b_Pa_follow 51 = .ok (.iload_n 2, 1) := by decide +kernel
theorem d_Pa_follow_52 : decode b_Pa_follow 52 = .ok (.aload_n 1, 1) := by decide +kernel
theorem d_Pa_follow_53 : decode b_Pa_follow 53 = .ok (.getfield 19, 3) := by decide +kernel
theorem d_Pa_follow_56 : decode b_Pa_follow 56 = .ok (.if_icmp .ge 35, 3) := by decide +kernel
theorem d_Pa_follow_59 : decode b_Pa_follow 59 = .ok (.iconst 0, 1) := by decide +kernel
theorem d_Pa_follow_60 : decode b_Pa_follow 60 = .ok (.istore_n 3, 1) := by decide +kernel
theorem d_Pa_follow_61 : decode b_Pa_follow 61 = .ok (.iload_n 3, 1) := by decide +kernel
theorem d_Pa_follow_62 : decode b_Pa_follow 62 = .ok (.aload_n 1, 1) := by decide +kernel
theorem d_Pa_follow_63 : decode b_Pa_follow 63 = .ok (.getfield 19, 3) := by decide +kernel
theorem d_Pa_follow_66 : decode b_Pa_follow 66 = .ok (.if_icmp .ge 19, 3) := by decide +kernel
theorem d_Pa_follow_69 : decode b_Pa_follow 69 = .ok (.aload_n 0, 1) := by decide +kernel
theorem d_Pa_follow_70 : decode b_Pa_follow 70 = .ok (.iload_n 2, 1) := by decide +kernel
theorem d_Pa_follow_71 : decode b_Pa_follow 71 = .ok (.iload_n 3, 1) := by decide +kernel
theorem d_Pa_follow_72 : decode b_Pa_follow 72 = .ok (.aload_n 1, 1) := by decide +kernel
theorem d_Pa_follow_73 : decode b_Pa_follow 73 = .ok (.getfield 19, 3) := by decide +kernel
theorem d_Pa_follow_76 : decode b_Pa_follow 76 = .ok (.invokevirtual 37, 3) := by decide +kernel
theorem d_Pa_follow_79 : decode b_Pa_follow 79 = .ok (.iinc 3 1, 3) := by decide +kernel
theorem d_Pa_follow_82 : decode b_Pa_follow 82 = .ok (.goto (-21), 3) := by decide +kernel
theorem d_Pa_follow_85 : decode b_Pa_follow 85 = .ok (.iinc 2 1, 3) := by decide +kernel
theorem d_Pa_follow_88 : decode b_Pa_follow 88 = .ok (.goto (-37), 3) := by decide +kernel
theorem d_Pa_follow_91 : decode b_Pa_follow 91 = .ok (.return_, 1) := by decide +kernel
theorem d_Pa_forget_0 : decode b_Pa_forget 0 = .ok (.iconst 0, 1) := by decide +kernel
theorem d_Pa_forget_1 : decode b_Pa_forget 1 = .ok (.istore_n 1, 1) := by decide +kernel
theorem d_Pa_forget_2 : decode b_Pa_forget 2 = .ok (.iload_n 1, 1) := by decide +kernel
theorem d_Pa_forget_3 : decode b_Pa_forget 3 = .ok (.bipush 24, 2) := by decide +kernel
theorem d_Pa_forget_5 : decode b_Pa_forget 5 = .ok (.if_icmp .ge 32, 3) := by decide +kernel
theorem d_Pa_forget_8 : decode b_Pa_forget 8 = .ok (.iconst 0, 1) := by decide +kernel
theorem d_Pa_forget_9 : decode b_Pa_forget 9 = .ok (.istore_n 2, 1) := by decide +kernel
theorem d_Pa_forget_10 : decode b_Pa_forget 10 = .ok (.iload_n 2, 1) := by decide +kernel
theorem d_Pa_forget_11 : decode b_Pa_forget 11 = .ok (.bipush 24, 2) := by decide +kernel
theorem d_Pa_forget_13 : decode b_Pa_forget 13 = .ok (.if_icmp .ge 18, 3) := by decide +kernel
theorem d_Pa_forget_16 : decode b_Pa_forget 16 = .ok (.aload_n 0, 1) := by decide +kernel
theorem d_Pa_forget_17 : decode b_Pa_forget 17 = .ok (.getfield 11, 3) := by decide +kernel
theorem d_Pa_forget_20 : decode b_Pa_forget 20 = .ok (.iload_n 1, 1) := by decide +kernel
theorem d_Pa_forget_21 : decode b_Pa_forget 21 = .ok (.aaload, 1) := by decide +kernel
theorem d_Pa_forget_22 : decode b_Pa_forget 22 = .ok (.iload_n 2, 1) := by decide +kernel
theorem d_Pa_forget_23 : decode b_Pa_forget 23 = .ok (.iconst (-1), 1) := by decide +kernel
theorem d_Pa_forget_24 : decode b_Pa_forget 24 = .ok (.iastore, 1) := by decide +kernel
theorem d_Pa_forget_25 : decode b_Pa_forget 25 = .ok (.iinc 2 1, 3) := by decide +kernel
theorem d_Pa_forget_28 : decode b_Pa_forget 28 = .ok (.goto (-18), 3) := by decide +kernel
theorem d_Pa_forget_31 : decode b_Pa_forget 31 = .ok (.iinc 1 1, 3) := by decide +kernel
theorem d_Pa_forget_34 : decode b_Pa_forget 34 = .ok (.goto (-32), 3) := by decide +kernel
theorem d_Pa_forget_37 : decode b_Pa_forget 37 = .ok (.return_, 1) := by decide +kernel
theorem d_Pa_joinAt_0 : decode b_Pa_joinAt 0 = .ok (.aload_n 0, 1) := by decide +kernel
theorem d_Pa_joinAt_1 : decode b_Pa_joinAt 1 = .ok (.iload_n 2, 1) := by decide +kernel
theorem d_Pa_joinAt_2 : decode b_Pa_joinAt 2 = .ok (.iload_n 1, 1) := by decide +kernel
theorem d_Pa_joinAt_3 : decode b_Pa_joinAt 3 = .ok (.invokevirtual 40, 3) := by decide +kernel
theorem d_Pa_joinAt_6 : decode b_Pa_joinAt 6 = .ok (.istore 4, 2) := by decide +kernel
theorem d_Pa_joinAt_8 : decode b_Pa_joinAt 8 = .ok (.iload 4, 2) := by decide +kernel
theorem d_Pa_joinAt_10 : decode b_Pa_joinAt 10 = .ok (.iconst (-1), 1) := by decide +kernel
theorem d_Pa_joinAt_11 : decode b_Pa_joinAt 11 = .ok (.if_icmp .ne 4, 3) := by decide +kernel
theorem d_Pa_joinAt_14 : decode b_Pa_joinAt 14 = .ok (.return_, 1) := by decide +kernel
theorem d_Pa_joinAt_15 : decode b_Pa_joinAt 15 = .ok (.iconst 0, 1) := by decide +kernel
theorem d_Pa_joinAt_16 : decode b_Pa_joinAt 16 = .ok (.istore 5, 2) := by decide +kernel
theorem d_Pa_joinAt_18 : decode b_Pa_joinAt 18 = .ok (.iload 5, 2) := by decide +kernel
theorem d_Pa_joinAt_20 : decode b_Pa_joinAt 20 = .ok (.iload_n 3, 1) := by decide +kernel
theorem d_Pa_joinAt_21 : decode b_Pa_joinAt 21 = .ok (.if_icmp .ge 36, 3) := by decide +kernel
theorem d_Pa_joinAt_24 : decode b_Pa_joinAt 24 = .ok (.aload_n 0, 1) := by decide +kernel
theorem d_Pa_joinAt_25 : decode b_Pa_joinAt 25 = .ok (.iload_n 1, 1) := by decide +kernel
theorem d_Pa_joinAt_26 : decode b_Pa_joinAt 26 = .ok (.iload 5, 2) := by decide +kernel
theorem d_Pa_joinAt_28 : decode b_Pa_joinAt 28 = .ok (.invokevirtual 40, 3) := by decide +kernel
theorem d_Pa_joinAt_31 : decode b_Pa_joinAt 31 = .ok (.istore 6, 2) := by decide +kernel
theorem d_Pa_joinAt_33 : decode b_Pa_joinAt 33 = .ok (.iload 6, 2) := by decide +kernel
theorem d_Pa_joinAt_35 : decode b_Pa_joinAt 35 = .ok (.iconst (-1), 1) := by decide +kernel
theorem d_Pa_joinAt_36 : decode b_Pa_joinAt 36 = .ok (.if_icmp .eq 15, 3) := by decide +kernel
theorem d_Pa_joinAt_39 : decode b_Pa_joinAt 39 = .ok (.aload_n 0, 1) := by decide +kernel
theorem d_Pa_joinAt_40 : decode b_Pa_joinAt 40 = .ok (.iload_n 2, 1) := by decide +kernel
theorem d_Pa_joinAt_41 : decode b_Pa_joinAt 41 = .ok (.iload 5, 2) := by decide +kernel
theorem d_Pa_joinAt_43 : decode b_Pa_joinAt 43 = .ok (.iload 4, 2) := by decide +kernel
theorem d_Pa_joinAt_45 : decode b_Pa_joinAt 45 = .ok (.iload 6, 2) := by decide +kernel
theorem d_Pa_joinAt_47 : decode b_Pa_joinAt 47 = .ok (.iadd, 1) := by decide +kernel
theorem d_Pa_joinAt_48 : decode b_Pa_joinAt 48 = .ok (.invokevirtual 33, 3) := by decide +kernel
theorem d_Pa_joinAt_51 : decode b_Pa_joinAt 51 = .ok (.iinc 5 1, 3) := by decide +kernel
theorem d_Pa_joinAt_54 : decode b_Pa_joinAt 54 = .ok (.goto (-36), 3) := by decide +kernel
theorem d_Pa_joinAt_57 : decode b_Pa_joinAt 57 = .ok (.return_, 1) := by decide +kernel
theorem d_Pa_shorten_0 : decode b_Pa_shorten 0 = .ok (.iload_n 1, 1) := by decide +kernel
theorem d_Pa_shorten_1 : decode b_Pa_shorten 1 = .ok (.ifCond .lt 19, 3) := by decide +kernel
theorem d_Pa_shorten_4 : decode b_Pa_shorten 4 = .ok (.iload_n 1, 1) := by decide +kernel
theorem d_Pa_shorten_5 : decode b_Pa_shorten 5 = .ok (.bipush 24, 2) := by decide +kernel
theorem d_Pa_shorten_7 : decode b_Pa_shorten 7 = .ok (.if_icmp .ge 13, 3) := by decide +kernel
theorem d_Pa_shorten_10 : decode b_Pa_shorten 10 = .ok (.iload_n 2, 1) := by decide +kernel
theorem d_Pa_shorten_11 : decode b_Pa_shorten 11 = .ok (.ifCond .lt 9, 3) := by decide +kernel
theorem d_Pa_shorten_14 : decode b_Pa_shorten 14 = .ok (.iload_n 2, 1) := by decide +kernel
theorem d_Pa_shorten_15 : decode b_Pa_shorten 15 = .ok (.bipush 24, 2) := by decide +kernel
theorem d_Pa_shorten_17 : decode b_Pa_shorten 17 = .ok (.if_icmp .lt 4, 3) := by decide +kernel
theorem d_Pa_shorten_20 : decode b_Pa_shorten 20 = .ok (.return_, 1) := by decide +kernel
theorem d_Pa_shorten_21 : decode b_Pa_shorten 21 = .ok (.aload_n 0, 1) := by decide +kernel
theorem d_Pa_shorten_22 : decode b_Pa_shorten 22 = .ok (.getfield 11, 3) := by decide +kernel
theorem d_Pa_shorten_25 : decode b_Pa_shorten 25 = .ok (.iload_n 1, 1) := by decide +kernel
theorem d_Pa_shorten_26 : decode b_Pa_shorten 26 = .ok (.aaload, 1) := by decide +kernel
theorem d_Pa_shorten_27 : decode b_Pa_shorten 27 = .ok (.iload_n 2, 1) := by decide +kernel
theorem d_Pa_shorten_28 : decode b_Pa_shorten 28 = .ok (.iaload, 1) := by decide +kernel
theorem d_Pa_shorten_29 : decode b_Pa_shorten 29 = .ok (.iconst (-1), 1) := by decide +kernel
theorem d_Pa_shorten_30 : decode b_Pa_shorten 30 = .ok (.if_icmp .eq 15, 3) := by decide +kernel
theorem d_Pa_shorten_33 : decode b_Pa_shorten 33 = .ok (.iload_n 3, 1) := by decide +kernel
theorem d_Pa_shorten_34 : decode b_Pa_shorten 34 = .ok (.aload_n 0, 1) := by decide +kernel
theorem d_Pa_shorten_35 : decode b_Pa_shorten 35 = .ok (.getfield 11, 3) := by decide +kernel
theorem d_Pa_shorten_38 : decode b_Pa_shorten 38 = .ok (.iload_n 1, 1) := by decide +kernel
theorem d_Pa_shorten_39 : decode b_Pa_shorten 39 = .ok (.aaload, 1) := by decide +kernel
theorem d_Pa_shorten_40 : decode b_Pa_shorten 40 = .ok (.iload_n 2, 1) := by decide +kernel
theorem d_Pa_shorten_41 : decode b_Pa_shorten 41 = .ok (.iaload, 1) := by decide +kernel
theorem d_Pa_shorten_42 : decode b_Pa_shorten 42 = .ok (.if_icmp .ge 12, 3) := by decide +kernel
theorem d_Pa_shorten_45 : decode b_Pa_shorten 45 = .ok (.aload_n 0, 1) := by decide +kernel
theorem d_Pa_shorten_46 : decode b_Pa_shorten 46 = .ok (.getfield 11, 3) := by decide +kernel
theorem d_Pa_shorten_49 : decode b_Pa_shorten 49 = .ok (.iload_n 1, 1) := by decide +kernel
theorem d_Pa_shorten_50 : decode b_Pa_shorten 50 = .ok (.aaload, 1) := by decide +kernel
theorem d_Pa_shorten_51 : decode b_Pa_shorten 51 = .ok (.iload_n 2, 1) := by decide +kernel
theorem d_Pa_shorten_52 : decode b_Pa_shorten 52 = .ok (.iload_n 3, 1) := by decide +kernel
theorem d_Pa_shorten_53 : decode b_Pa_shorten 53 = .ok (.iastore, 1) := by decide +kernel
theorem d_Pa_shorten_54 : decode b_Pa_shorten 54 = .ok (.return_, 1) := by decide +kernel
theorem d_Pa_leastTime_0 : decode b_Pa_leastTime 0 = .ok (.iload_n 1, 1) := by decide +kernel
theorem d_Pa_leastTime_1 : decode b_Pa_leastTime 1 = .ok (.ifCond .lt 19, 3) := by decide +kernel
theorem d_Pa_leastTime_4 : decode b_Pa_leastTime 4 = .ok (.iload_n 1, 1) := by decide +kernel
theorem d_Pa_leastTime_5 : decode b_Pa_leastTime 5 = .ok (.bipush 24, 2) := by decide +kernel
theorem d_Pa_leastTime_7 : decode b_Pa_leastTime 7 = .ok (.if_icmp .ge 13, 3) := by decide +kernel
theorem d_Pa_leastTime_10 : decode b_Pa_leastTime 10 = .ok (.iload_n 2, 1) := by decide +kernel
theorem d_Pa_leastTime_11 : decode b_Pa_leastTime 11 = .ok (.ifCond .lt 9, 3) := by decide +kernel
theorem d_Pa_leastTime_14 : decode b_Pa_leastTime 14 = .ok (.iload_n 2, 1) := by decide +kernel
theorem d_Pa_leastTime_15 : decode b_Pa_leastTime 15 = .ok (.bipush 24, 2) := by decide +kernel
theorem d_Pa_leastTime_17 : decode b_Pa_leastTime 17 = .ok (.if_icmp .lt 5, 3) := by decide +kernel
theorem d_Pa_leastTime_20 : decode b_Pa_leastTime 20 = .ok (.iconst (-1), 1) := by decide +kernel
theorem d_Pa_leastTime_21 : decode b_Pa_leastTime 21 = .ok (.ireturn, 1) := by decide +kernel
theorem d_Pa_leastTime_22 : decode b_Pa_leastTime 22 = .ok (.aload_n 0, 1) := by decide +kernel
theorem d_Pa_leastTime_23 : decode b_Pa_leastTime 23 = .ok (.getfield 11, 3) := by decide +kernel
theorem d_Pa_leastTime_26 : decode b_Pa_leastTime 26 = .ok (.iload_n 1, 1) := by decide +kernel
theorem d_Pa_leastTime_27 : decode b_Pa_leastTime 27 = .ok (.aaload, 1) := by decide +kernel
theorem d_Pa_leastTime_28 : decode b_Pa_leastTime 28 = .ok (.iload_n 2, 1) := by decide +kernel
theorem d_Pa_leastTime_29 : decode b_Pa_leastTime 29 = .ok (.iaload, 1) := by decide +kernel
theorem d_Pa_leastTime_30 : decode b_Pa_leastTime 30 = .ok (.ireturn, 1) := by decide +kernel
theorem d_Pa_leads_0 : decode b_Pa_leads 0 = .ok (.aload_n 0, 1) := by decide +kernel
theorem d_Pa_leads_1 : decode b_Pa_leads 1 = .ok (.iload_n 1, 1) := by decide +kernel
theorem d_Pa_leads_2 : decode b_Pa_leads 2 = .ok (.iload_n 2, 1) := by decide +kernel
theorem d_Pa_leads_3 : decode b_Pa_leads 3 = .ok (.invokevirtual 40, 3) := by decide +kernel
theorem d_Pa_leads_6 : decode b_Pa_leads 6 = .ok (.iconst (-1), 1) := by decide +kernel
theorem d_Pa_leads_7 : decode b_Pa_leads 7 = .ok (.if_icmp .eq 7, 3) := by decide +kernel
theorem d_Pa_leads_10 : decode b_Pa_leads 10 = .ok (.iconst 1, 1) := by decide +kernel
theorem d_Pa_leads_11 : decode b_Pa_leads 11 = .ok (.goto 4, 3) := by decide +kernel
theorem d_Pa_leads_14 : decode b_Pa_leads 14 = .ok (.iconst 0, 1) := by decide +kernel
theorem d_Pa_leads_15 : decode b_Pa_leads 15 = .ok (.ireturn, 1) := by decide +kernel
theorem d_Pa_isReached_0 : decode b_Pa_isReached 0 = .ok (.iconst 0, 1) := by decide +kernel
theorem d_Pa_isReached_1 : decode b_Pa_isReached 1 = .ok (.istore_n 3, 1) := by decide +kernel
theorem d_Pa_isReached_2 : decode b_Pa_isReached 2 = .ok (.iload_n 3, 1) := by decide +kernel
theorem d_Pa_isReached_3 : decode b_Pa_isReached 3 = .ok (.aload_n 1, 1) := by decide +kernel
theorem d_Pa_isReached_4 : decode b_Pa_isReached 4 = .ok (.getfield 19, 3) := by decide +kernel
theorem d_Pa_isReached_7 : decode b_Pa_isReached 7 = .ok (.if_icmp .ge 20, 3) := by decide +kernel
theorem d_Pa_isReached_10 : decode b_Pa_isReached 10 = .ok (.aload_n 0, 1) := by decide +kernel
theorem d_Pa_isReached_11 : decode b_Pa_isReached 11 = .ok (.iload_n 3, 1) := by decide +kernel
theorem d_Pa_isReached_12 : decode b_Pa_isReached 12 = .ok (.iload_n 2, 1) := by decide +kernel
theorem d_Pa_isReached_13 : decode b_Pa_isReached 13 = .ok (.invokevirtual 43, 3) := by decide +kernel
theorem d_Pa_isReached_16 : decode b_Pa_isReached 16 = .ok (.ifCond .eq 5, 3) := by decide +kernel
theorem d_Pa_isReached_19 : decode b_Pa_isReached 19 = .ok (.iconst 1, 1) := by decide +kernel
theorem d_Pa_isReached_20 : decode b_Pa_isReached 20 = .ok (.ireturn, 1) := by decide +kernel
theorem d_Pa_isReached_21 : decode b_Pa_isReached 21 = .ok (.iinc 3 1, 3) := by decide +kernel
theorem d_Pa_isReached_24 : decode b_Pa_isReached 24 = .ok (.goto (-22), 3) := by decide +kernel
theorem d_Pa_isReached_27 : decode b_Pa_isReached 27 = .ok (.iconst 0, 1) := by decide +kernel
theorem d_Pa_isReached_28 : decode b_Pa_isReached 28 = .ok (.ireturn, 1) := by decide +kernel
theorem d_Pa_leastGap_0 : decode b_Pa_leastGap 0 = .ok (.iconst (-1), 1) := by decide +kernel
theorem d_Pa_leastGap_1 : decode b_Pa_leastGap 1 = .ok (.istore_n 3, 1) := by decide +kernel
theorem d_Pa_leastGap_2 : decode b_Pa_leastGap 2 = .ok (.iconst 0, 1) := by decide +kernel
theorem d_Pa_leastGap_3 : decode b_Pa_leastGap 3 = .ok (.istore 4, 2) := by decide +kernel
theorem d_Pa_leastGap_5 : decode b_Pa_leastGap 5 = .ok (.iload 4, 2) := by decide +kernel
theorem d_Pa_leastGap_7 : decode b_Pa_leastGap 7 = .ok (.aload_n 1, 1) := by decide +kernel
theorem d_Pa_leastGap_8 : decode b_Pa_leastGap 8 = .ok (.getfield 19, 3) := by decide +kernel
theorem d_Pa_leastGap_11 : decode b_Pa_leastGap 11 = .ok (.if_icmp .ge 56, 3) := by decide +kernel
theorem d_Pa_leastGap_14 : decode b_Pa_leastGap 14 = .ok (.aload_n 1, 1) := by decide +kernel
theorem d_Pa_leastGap_15 : decode b_Pa_leastGap 15 = .ok (.iload 4, 2) := by decide +kernel
theorem d_Pa_leastGap_17 : decode b_Pa_leastGap 17 = .ok (.iconst 0, 1) := by decide +kernel
theorem d_Pa_leastGap_18 : decode b_Pa_leastGap 18 = .ok (.invokevirtual 47, 3) := by decide +kernel
theorem d_Pa_leastGap_21 : decode b_Pa_leastGap 21 = .ok (.ifCond .ne 40, 3) := by decide +kernel
theorem d_Pa_leastGap_24 : decode b_Pa_leastGap 24 = .ok (.aload_n 0, 1) := by decide +kernel
theorem d_Pa_leastGap_25 : decode b_Pa_leastGap 25 = .ok (.iload 4, 2) := by decide +kernel
theorem d_Pa_leastGap_27 : decode b_Pa_leastGap 27 = .ok (.iload_n 2, 1) := by decide +kernel
theorem d_Pa_leastGap_28 : decode b_Pa_leastGap 28 = .ok (.invokevirtual 43, 3) := by decide +kernel
theorem d_Pa_leastGap_31 : decode b_Pa_leastGap 31 = .ok (.ifCond .eq 30, 3) := by decide +kernel
theorem d_Pa_leastGap_34 : decode b_Pa_leastGap 34 = .ok (.aload_n 1, 1) := by decide +kernel
theorem d_Pa_leastGap_35 : decode b_Pa_leastGap 35 = .ok (.iload 4, 2) := by decide +kernel
theorem d_Pa_leastGap_37 : decode b_Pa_leastGap 37 = .ok (.iconst 2, 1) := by decide +kernel
theorem d_Pa_leastGap_38 : decode b_Pa_leastGap 38 = .ok (.invokevirtual 47, 3) := by decide +kernel
theorem d_Pa_leastGap_41 : decode b_Pa_leastGap 41 = .ok (.istore 5, 2) := by decide +kernel
theorem d_Pa_leastGap_43 : decode b_Pa_leastGap 43 = .ok (.iload_n 3, 1) := by decide +kernel
theorem d_Pa_leastGap_44 : decode b_Pa_leastGap 44 = .ok (.iconst (-1), 1) := by decide +kernel
theorem d_Pa_leastGap_45 : decode b_Pa_leastGap 45 = .ok (.if_icmp .eq 9, 3) := by decide +kernel
theorem d_Pa_leastGap_48 : decode b_Pa_leastGap 48 = .ok (.iload 5, 2) := by decide +kernel
theorem d_Pa_leastGap_50 : decode b_Pa_leastGap 50 = .ok (.iload_n 3, 1) := by decide +kernel
theorem d_Pa_leastGap_51 : decode b_Pa_leastGap 51 = .ok (.if_icmp .ge 8, 3) := by decide +kernel
theorem d_Pa_leastGap_54 : decode b_Pa_leastGap 54 = .ok (.iload 5, 2) := by decide +kernel
theorem d_Pa_leastGap_56 : decode b_Pa_leastGap 56 = .ok (.goto 4, 3) := by decide +kernel
theorem d_Pa_leastGap_59 : decode b_Pa_leastGap 59 = .ok (.iload_n 3, 1) := by decide +kernel
theorem d_Pa_leastGap_60 : decode b_Pa_leastGap 60 = .ok (.istore_n 3, 1) := by decide +kernel
theorem d_Pa_leastGap_61 : decode b_Pa_leastGap 61 = .ok (.iinc 4 1, 3) := by decide +kernel
theorem d_Pa_leastGap_64 : decode b_Pa_leastGap 64 = .ok (.goto (-59), 3) := by decide +kernel
theorem d_Pa_leastGap_67 : decode b_Pa_leastGap 67 = .ok (.iload_n 3, 1) := by decide +kernel
theorem d_Pa_leastGap_68 : decode b_Pa_leastGap 68 = .ok (.ireturn, 1) := by decide +kernel
theorem d_Fl_init_0 : decode b_Fl_init 0 = .ok (.aload_n 0, 1) := by decide +kernel
theorem d_Fl_init_1 : decode b_Fl_init 1 = .ok (.invokespecial 3, 3) := by decide +kernel
theorem d_Fl_init_4 : decode b_Fl_init 4 = .ok (.aload_n 0, 1) := by decide +kernel
theorem d_Fl_init_5 : decode b_Fl_init 5 = .ok (.iconst 3, 1) := by decide +kernel
theorem d_Fl_init_6 : decode b_Fl_init 6 = .ok (.sipush 168, 3) := by decide +kernel
theorem d_Fl_init_9 : decode b_Fl_init 9 = .ok (.multianewarray 9 2, 4) := by decide +kernel
theorem d_Fl_init_13 : decode b_Fl_init 13 = .ok (.putfield 11, 3) := by decide +kernel
theorem d_Fl_init_16 : decode b_Fl_init 16 = .ok (.aload_n 0, 1) := by decide +kernel
theorem d_Fl_init_17 : decode b_Fl_init 17 = .ok (.iconst 0, 1) := by decide +kernel
theorem d_Fl_init_18 : decode b_Fl_init 18 = .ok (.putfield 16, 3) := by decide +kernel
theorem d_Fl_init_21 : decode b_Fl_init 21 = .ok (.return_, 1) := by decide +kernel
theorem d_Fl_find_0 : decode b_Fl_find 0 = .ok (.aload_n 0, 1) := by decide +kernel
theorem d_Fl_find_1 : decode b_Fl_find 1 = .ok (.iconst 0, 1) := by decide +kernel
theorem d_Fl_find_2 : decode b_Fl_find 2 = .ok (.putfield 16, 3) := by decide +kernel
theorem d_Fl_find_5 : decode b_Fl_find 5 = .ok (.aload_n 0, 1) := by decide +kernel
theorem d_Fl_find_6 : decode b_Fl_find 6 = .ok (.aload_n 1, 1) := by decide +kernel
theorem d_Fl_find_7 : decode b_Fl_find 7 = .ok (.invokevirtual 20, 3) := by decide +kernel
theorem d_Fl_find_10 : decode b_Fl_find 10 = .ok (.iconst 2, 1) := by decide +kernel
theorem d_Fl_find_11 : decode b_Fl_find 11 = .ok (.istore_n 3, 1) := by decide +kernel
theorem d_Fl_find_12 : decode b_Fl_find 12 = .ok (.iload_n 3, 1) := by decide +kernel
theorem d_Fl_find_13 : decode b_Fl_find 13 = .ok (.bipush 6, 2) := by decide +kernel
theorem d_Fl_find_15 : decode b_Fl_find 15 = .ok (.if_icmp .gt 51, 3) := by decide +kernel
theorem d_Fl_find_18 : decode b_Fl_find 18 = .ok (.iconst 0, 1) := by decide +kernel
theorem d_Fl_find_19 : decode b_Fl_find 19 = .ok (.istore 4, 2) := by decide +kernel
theorem d_Fl_find_21 : decode b_Fl_find 21 = .ok (.iload 4, 2) := by decide +kernel
theorem d_Fl_find_23 : decode b_Fl_find 23 = .ok (.aload_n 1, 1) := by decide +kernel
theorem d_Fl_find_24 : decode b_Fl_find 24 = .ok (.getfield 24, 3) := by decide +kernel
theorem d_Fl_find_27 : decode b_Fl_find 27 = .ok (.if_icmp .ge 33, 3) := by decide +kernel
theorem d_Fl_find_30 : decode b_Fl_find 30 = .ok (.iload_n 3, 1) := by decide +kernel
theorem d_Fl_find_31 : decode b_Fl_find 31 = .ok (.aload_n 1, 1) := by decide +kernel
theorem d_Fl_find_32 : decode b_Fl_find 32 = .ok (.aload_n 2, 1) := by decide +kernel
theorem d_Fl_find_33 : decode b_Fl_find 33 = .ok (.iload 4, 2) := by decide +kernel
theorem d_Fl_find_35 : decode b_Fl_find 35 = .ok (.invokestatic 27, 3) := by decide +kernel
theorem d_Fl_find_38 : decode b_Fl_find 38 = .ok (.ifCond .eq 16, 3) := by decide +kernel
theorem d_Fl_find_41 : decode b_Fl_find 41 = .ok (.aload_n 0, 1) := by decide +kernel
theorem d_Fl_find_42 : decode b_Fl_find 42 = .ok (.iload_n 3, 1) := by decide +kernel
theorem d_Fl_find_43 : decode b_Fl_find 43 = .ok (.aload_n 1, 1) := by decide +kernel
theorem d_Fl_find_44 : decode b_Fl_find 44 = .ok (.iload 4, 2) := by decide +kernel
theorem d_Fl_find_46 : decode b_Fl_find 46 = .ok (.iconst 1, 1) := by decide +kernel
theorem d_Fl_find_47 : decode b_Fl_find 47 = .ok (.invokevirtual 31, 3) := by decide +kernel
theorem d_Fl_find_50 : decode b_Fl_find 50 = .ok (.iconst (-1), 1) := by decide +kernel
theorem d_Fl_find_51 : decode b_Fl_find 51 = .ok (.invokevirtual 35, 3) := by decide +kernel
theorem d_Fl_find_54 : decode b_Fl_find 54 = .ok (.iinc 4 1, 3) := by decide +kernel
theorem d_Fl_find_57 : decode b_Fl_find 57 = .ok (.goto (-36), 3) := by decide +kernel
theorem d_Fl_find_60 : decode b_Fl_find 60 = .ok (.iinc 3 1, 3) := by decide +kernel
theorem d_Fl_find_63 : decode b_Fl_find 63 = .ok (.goto (-51), 3) := by decide +kernel
theorem d_Fl_find_66 : decode b_Fl_find 66 = .ok (.return_, 1) := by decide +kernel
theorem d_Fl_findWaysToNowhere_0 : decode b_Fl_findWaysToNowhere 0 = .ok (.iconst 0, 1) := by decide +kernel
theorem d_Fl_findWaysToNowhere_1 : decode b_Fl_findWaysToNowhere 1 = .ok (.istore_n 2, 1) := by decide +kernel
theorem d_Fl_findWaysToNowhere_2 : decode b_Fl_findWaysToNowhere 2 = .ok (.iload_n 2, 1) := by decide +kernel
theorem d_Fl_findWaysToNowhere_3 : decode b_Fl_findWaysToNowhere 3 = .ok (.aload_n 1, 1) := by decide +kernel
theorem d_Fl_findWaysToNowhere_4 : decode b_Fl_findWaysToNowhere 4 = .ok (.getfield 24, 3) := by decide +kernel
theorem d_Fl_findWaysToNowhere_7 : decode b_Fl_findWaysToNowhere 7 = .ok (.if_icmp .ge 53, 3) := by decide +kernel
theorem d_Fl_findWaysToNowhere_10 : decode b_Fl_findWaysToNowhere 10 = .ok (.iconst 0, 1) := by decide +kernel
theorem d_Fl_findWaysToNowhere_11 : decode b_Fl_findWaysToNowhere 11 = .ok (.istore_n 3, 1) := by decide +kernel
theorem d_Fl_findWaysToNowhere_12 : decode b_Fl_findWaysToNowhere 12 = .ok (.iload_n 3, 1) := by decide +kernel
theorem d_Fl_findWaysToNowhere_13 : decode b_Fl_findWaysToNowhere 13 = .ok (.iconst 2, 1) := by decide +kernel
theorem d_Fl_findWaysToNowhere_14 : decode b_Fl_findWaysToNowhere 14 = .ok (.if_icmp .ge 40, 3) := by decide +kernel
theorem d_Fl_findWaysToNowhere_17 : decode b_Fl_findWaysToNowhere 17 = .ok (.aload_n 1, 1) := by decide +kernel
theorem d_Fl_findWaysToNowhere_18 : decode b_Fl_findWaysToNowhere 18 = .ok (.iload_n 2, 1) := by decide +kernel
theorem d_Fl_findWaysToNowhere_19 : decode b_Fl_findWaysToNowhere 19 = .ok (.iload_n 3, 1) := by decide +kernel
theorem d_Fl_findWaysToNowhere_20 : decode b_Fl_findWaysToNowhere 20 = .ok (.invokevirtual 39, 3) := by decide +kernel
theorem d_Fl_findWaysToNowhere_23 : decode b_Fl_findWaysToNowhere 23 = .ok (.ifCond .eq 25, 3) := by decide +kernel
theorem d_Fl_findWaysToNowhere_26 : decode b_Fl_findWaysToNowhere 26 = .ok (.aload_n 1, 1) := by decide +kernel
theorem d_Fl_findWaysToNowhere_27 : decode b_Fl_findWaysToNowhere 27 = .ok (.iload_n 2, 1) := by decide +kernel
theorem d_Fl_findWaysToNowhere_28 : decode b_Fl_findWaysToNowhere 28 = .ok (.iload_n 3, 1) := by decide +kernel
theorem d_Fl_findWaysToNowhere_29 : decode b_Fl_findWaysToNowhere 29 = .ok (.invokevirtual 43, 3) := by decide +kernel
theorem d_Fl_findWaysToNowhere_32 : decode b_Fl_findWaysToNowhere 32 = .ok (.iconst (-1), 1) := by decide +kernel
theorem d_Fl_findWaysToNowhere_33 : decode b_Fl_findWaysToNowhere 33 = .ok (.if_icmp .ne 15, 3) := by decide +kernel
theorem d_Fl_findWaysToNowhere_36 : decode b_Fl_findWaysToNowhere 36 = .ok (.aload_n 0, 1) := by decide +kernel
theorem d_Fl_findWaysToNowhere_37 : decode b_Fl_findWaysToNowhere 37 = .ok (.iconst 1, 1) := by decide +kernel
theorem d_Fl_findWaysToNowhere_38 : decode b_Fl_findWaysToNowhere 38 = .ok (.aload_n 1, 1) := by decide +kernel
theorem d_Fl_findWaysToNowhere_39 : decode b_Fl_findWaysToNowhere 39 = .ok (.iload_n 2, 1) := by decide +kernel
theorem d_Fl_findWaysToNowhere_40 : decode b_Fl_findWaysToNowhere 40 = .ok (.iconst 1, 1) := by decide +kernel
theorem d_Fl_findWaysToNowhere_41 : decode b_Fl_findWaysToNowhere 41 = .ok (.invokevirtual 31, 3) := by decide +kernel
theorem d_Fl_findWaysToNowhere_44 : decode b_Fl_findWaysToNowhere 44 = .ok (.iload_n 3, 1) := by decide +kernel
theorem d_Fl_findWaysToNowhere_45 : decode b_Fl_findWaysToNowhere 45 = .ok (.invokevirtual 35, 3) := by decide +kernel
theorem d_Fl_findWaysToNowhere_48 : decode b_Fl_findWaysToNowhere 48 = .ok (.iinc 3 1, 3) := by decide +kernel
theorem d_Fl_findWaysToNowhere_51 : decode b_Fl_findWaysToNowhere 51 = .ok (.goto (-39), 3) := by decide +kernel
theorem d_Fl_findWaysToNowhere_54 : decode b_Fl_findWaysToNowhere 54 = .ok (.iinc 2 1, 3) := by decide +kernel
theorem d_Fl_findWaysToNowhere_57 : decode b_Fl_findWaysToNowhere 57 = .ok (.goto (-55), 3) := by decide +kernel
theorem d_Fl_findWaysToNowhere_60 : decode b_Fl_findWaysToNowhere 60 = .ok (.return_, 1) := by decide +kernel
theorem d_Fl_isFaulty_0 : decode b_Fl_isFaulty 0 = .ok (.aload_n 1, 1) := by decide +kernel
theorem d_Fl_isFaulty_1 : decode b_Fl_isFaulty 1 = .ok (.iload_n 3, 1) := by decide +kernel
theorem d_Fl_isFaulty_2 : decode b_Fl_isFaulty 2 = .ok (.iconst 0, 1) := by decide +kernel
theorem d_Fl_isFaulty_3 : decode b_Fl_isFaulty 3 = .ok (.invokevirtual 31, 3) := by decide +kernel
theorem d_Fl_isFaulty_6 : decode b_Fl_isFaulty 6 = .ok (.istore 4, 2) := by decide +kernel
theorem d_Fl_isFaulty_8 : decode b_Fl_isFaulty 8 = .ok (.iload_n 0, 1) := by decide +kernel
theorem d_Fl_isFaulty_9 : decode b_Fl_isFaulty 9 = .ok (.tableswitch 125 2 6 #[35, 56, 76, 83, 105], 35) := by decide +kernel
theorem d_Fl_isFaulty_44 : decode b_Fl_isFaulty 44 = .ok (.iload 4, 2) := by decide +kernel
theorem d_Fl_isFaulty_46 : decode b_Fl_isFaulty 46 = .ok (.iconst 3, 1) := by decide +kernel
theorem d_Fl_isFaulty_47 : decode b_Fl_isFaulty 47 = .ok (.if_icmp .ne 16, 3) := by decide +kernel
theorem d_Fl_isFaulty_50 : decode b_Fl_isFaulty 50 = .ok (.aload_n 1, 1) := by decide +kernel
theorem d_Fl_isFaulty_51 : decode b_Fl_isFaulty 51 = .ok (.aload_n 2, 1) := by decide +kernel
theorem d_Fl_isFaulty_52 : decode b_Fl_isFaulty 52 = .ok (.iload_n 3, 1) := by decide +kernel
theorem d_Fl_isFaulty_53 : decode b_Fl_isFaulty 53 = .ok (.invokestatic 46, 3) := by decide +kernel
theorem d_Fl_isFaulty_56 : decode b_Fl_isFaulty 56 = .ok (.ifCond .eq 7, 3) := by decide +kernel
theorem d_Fl_isFaulty_59 : decode b_Fl_isFaulty 59 = .ok (.iconst 1, 1) := by decide +kernel
theorem d_Fl_isFaulty_60 : decode b_Fl_isFaulty 60 = .ok (.goto 4, 3) := by decide +kernel
theorem d_Fl_isFaulty_63 : decode b_Fl_isFaulty 63 = .ok (.iconst 0, 1) := by decide +kernel
theorem d_Fl_isFaulty_64 : decode b_Fl_isFaulty 64 = .ok (.ireturn, 1) := by decide +kernel
theorem d_Fl_isFaulty_65 : decode b_Fl_isFaulty 65 = .ok (.iload 4, 2) := by decide +kernel
theorem d_Fl_isFaulty_67 : decode b_Fl_isFaulty 67 = .ok (.iconst 3, 1) := by decide +kernel
theorem d_Fl_isFaulty_68 : decode b_Fl_isFaulty 68 = .ok (.if_icmp .ne 15, 3) := by decide +kernel
theorem d_Fl_isFaulty_71 : decode b_Fl_isFaulty 71 = .ok (.aload_n 1, 1) := by decide +kernel
theorem d_Fl_isFaulty_72 : decode b_Fl_isFaulty 72 = .ok (.iload_n 3, 1) := by decide +kernel
theorem d_Fl_isFaulty_73 : decode b_Fl_isFaulty 73 = .ok (.invokestatic 50, 3) := by decide +kernel
theorem d_Fl_isFaulty_76 : decode b_Fl_isFaulty 76 = .ok (.ifCond .eq 7, 3) := by decide +kernel
theorem d_Fl_isFaulty_79 : decode b_Fl_isFaulty 79 = .ok (.iconst 1, 1) := by decide +kernel
theorem d_Fl_isFaulty_80 : decode b_Fl_isFaulty 80 = .ok (.goto 4, 3) := by decide +kernel
theorem d_Fl_isFaulty_83 : decode b_Fl_isFaulty 83 = .ok (.iconst 0, 1) := by decide +kernel
theorem d_Fl_isFaulty_84 : decode b_Fl_isFaulty 84 = .ok (.ireturn, 1) := by decide +kernel
theorem d_Fl_isFaulty_85 : decode b_Fl_isFaulty 85 = .ok (.aload_n 2, 1) := by decide +kernel
theorem d_Fl_isFaulty_86 : decode b_Fl_isFaulty 86 = .ok (.iload_n 3, 1) := by decide +kernel
theorem d_Fl_isFaulty_87 : decode b_Fl_isFaulty 87 = .ok (.iload_n 3, 1) := by decide +kernel
theorem d_Fl_isFaulty_88 : decode b_Fl_isFaulty 88 = .ok (.invokevirtual 54, 3) := by decide +kernel
theorem d_Fl_isFaulty_91 : decode b_Fl_isFaulty 91 = .ok (.ireturn, 1) := by decide +kernel
theorem d_Fl_isFaulty_92 : decode b_Fl_isFaulty 92 = .ok (.iload 4, 2) := by decide +kernel
theorem d_Fl_isFaulty_94 : decode b_Fl_isFaulty 94 = .ok (.iconst 4, 1) := by decide +kernel
theorem d_Fl_isFaulty_95 : decode b_Fl_isFaulty 95 = .ok (.if_icmp .ne 17, 3) := by decide +kernel
theorem d_Fl_isFaulty_98 : decode b_Fl_isFaulty 98 = .ok (.aload_n 2, 1) := by decide +kernel
theorem d_Fl_isFaulty_99 : decode b_Fl_isFaulty 99 = .ok (.aload_n 1, 1) := by decide +kernel
theorem d_Fl_isFaulty_100 : decode b_Fl_isFaulty 100 = .ok (.iload_n 3, 1) := by decide +kernel
theorem d_Fl_isFaulty_101 : decode b_Fl_isFaulty 101 = .ok (.invokevirtual 59, 3) := by decide +kernel
theorem d_Fl_isFaulty_104 : decode b_Fl_isFaulty 104 = .ok (.iconst (-1), 1) := by decide +kernel
theorem d_Fl_isFaulty_105 : decode b_Fl_isFaulty 105 = .ok (.if_icmp .ne 7, 3) := by decide +kernel
theorem d_Fl_isFaulty_108 : decode b_Fl_isFaulty 108 = .ok (.iconst 1, 1) := by decide +kernel
theorem d_Fl_isFaulty_109 : decode b_Fl_isFaulty 109 = .ok (.goto 4, 3) := by decide +kernel
theorem d_Fl_isFaulty_112 : decode b_Fl_isFaulty 112 = .ok (.iconst 0, 1) := by decide +kernel
theorem d_Fl_isFaulty_113 : decode b_Fl_isFaulty 113 = .ok (.ireturn, 1) := by decide +kernel
theorem d_Fl_isFaulty_114 : decode b_Fl_isFaulty 114 = .ok (.iload 4, 2) := by decide +kernel
theorem d_Fl_isFaulty_116 : decode b_Fl_isFaulty 116 = .ok (.ifCond .ne 16, 3) := by decide +kernel
theorem d_Fl_isFaulty_119 : decode b_Fl_isFaulty 119 = .ok (.aload_n 2, 1) := by decide +kernel
theorem d_Fl_isFaulty_120 : decode b_Fl_isFaulty 120 = .ok (.aload_n 1, 1) := by decide +kernel
theorem d_Fl_isFaulty_121 : decode b_Fl_isFaulty 121 = .ok (.iload_n 3, 1) := by decide +kernel
theorem d_Fl_isFaulty_122 : decode b_Fl_isFaulty 122 = .ok (.invokevirtual 63, 3) := by decide +kernel
theorem d_Fl_isFaulty_125 : decode b_Fl_isFaulty 125 = .ok (.ifCond .eq 7, 3) := by decide +kernel
theorem d_Fl_isFaulty_128 : decode b_Fl_isFaulty 128 = .ok (.iconst 1, 1) := by decide +kernel
theorem d_Fl_isFaulty_129 : decode b_Fl_isFaulty 129 = .ok (.goto 4, 3) := by decide +kernel
theorem d_Fl_isFaulty_132 : decode b_Fl_isFaulty 132 = .ok (.iconst 0, 1) := by decide +kernel
theorem d_Fl_isFaulty_133 : decode b_Fl_isFaulty 133 = .ok (.ireturn, 1) := by decide +kernel
theorem d_Fl_isFaulty_134 : decode b_Fl_isFaulty 134 = .ok (.iconst 0, 1) := by decide +kernel
theorem d_Fl_isFaulty_135 : decode b_Fl_isFaulty 135 = .ok (.ireturn, 1) := by decide +kernel
theorem d_Fl_isTooSlow_0 : decode b_Fl_isTooSlow 0 = .ok (.aload_n 1, 1) := by decide +kernel
theorem d_Fl_isTooSlow_1 : decode b_Fl_isTooSlow 1 = .ok (.aload_n 0, 1) := by decide +kernel
theorem d_Fl_isTooSlow_2 : decode b_Fl_isTooSlow 2 = .ok (.iload_n 2, 1) := by decide +kernel
theorem d_Fl_isTooSlow_3 : decode b_Fl_isTooSlow 3 = .ok (.invokevirtual 59, 3) := by decide +kernel
theorem d_Fl_isTooSlow_6 : decode b_Fl_isTooSlow 6 = .ok (.istore_n 3, 1) := by decide +kernel
theorem d_Fl_isTooSlow_7 : decode b_Fl_isTooSlow 7 = .ok (.iload_n 3, 1) := by decide +kernel
theorem d_Fl_isTooSlow_8 : decode b_Fl_isTooSlow 8 = .ok (.iconst (-1), 1) := by decide +kernel
theorem d_Fl_isTooSlow_9 : decode b_Fl_isTooSlow 9 = .ok (.if_icmp .eq 17, 3) := by decide +kernel
theorem d_Fl_isTooSlow_12 : decode b_Fl_isTooSlow 12 = .ok (.aload_n 0, 1) := by decide +kernel
theorem d_Fl_isTooSlow_13 : decode b_Fl_isTooSlow 13 = .ok (.iload_n 2, 1) := by decide +kernel
theorem d_Fl_isTooSlow_14 : decode b_Fl_isTooSlow 14 = .ok (.iconst 2, 1) := by decide +kernel
theorem d_Fl_isTooSlow_15 : decode b_Fl_isTooSlow 15 = .ok (.invokevirtual 31, 3) := by decide +kernel
theorem d_Fl_isTooSlow_18 : decode b_Fl_isTooSlow 18 = .ok (.iload_n 3, 1) := by decide +kernel
theorem d_Fl_isTooSlow_19 : decode b_Fl_isTooSlow 19 = .ok (.if_icmp .le 7, 3) := by decide +kernel
theorem d_Fl_isTooSlow_22 : decode b_Fl_isTooSlow 22 = .ok (.iconst 1, 1) := by decide +kernel
theorem d_Fl_isTooSlow_23 : decode b_Fl_isTooSlow 23 = .ok (.goto 4, 3) := by decide +kernel
theorem d_Fl_isTooSlow_26 : decode b_Fl_isTooSlow 26 = .ok (.iconst 0, 1) := by decide +kernel
theorem d_Fl_isTooSlow_27 : decode b_Fl_isTooSlow 27 = .ok (.ireturn, 1) := by decide +kernel
theorem d_Fl_goesToGate_0 : decode b_Fl_goesToGate 0 = .ok (.iconst 0, 1) := by decide +kernel
theorem d_Fl_goesToGate_1 : decode b_Fl_goesToGate 1 = .ok (.istore_n 2, 1) := by decide +kernel
theorem d_Fl_goesToGate_2 : decode b_Fl_goesToGate 2 = .ok (.iload_n 2, 1) := by decide +kernel
theorem d_Fl_goesToGate_3 : decode b_Fl_goesToGate 3 = .ok (.iconst 2, 1) := by decide +kernel
theorem d_Fl_goesToGate_4 : decode b_Fl_goesToGate 4 = .ok (.if_icmp .ge 26, 3) := by decide +kernel
theorem d_Fl_goesToGate_7 : decode b_Fl_goesToGate 7 = .ok (.aload_n 0, 1) := by decide +kernel
theorem d_Fl_goesToGate_8 : decode b_Fl_goesToGate 8 = .ok (.aload_n 0, 1) := by decide +kernel
theorem d_Fl_goesToGate_9 : decode b_Fl_goesToGate 9 = .ok (.iload_n 1, 1) := by decide +kernel
theorem d_Fl_goesToGate_10 : decode b_Fl_goesToGate 10 = .ok (.iload_n 2, 1) := by decide +kernel
theorem d_Fl_goesToGate_11 : decode b_Fl_goesToGate 11 = .ok (.invokevirtual 43, 3) := by decide +kernel
theorem d_Fl_goesToGate_14 : decode b_Fl_goesToGate 14 = .ok (.iconst 0, 1) := by decide +kernel
theorem d_Fl_goesToGate_15 : decode b_Fl_goesToGate 15 = .ok (.invokevirtual 31, 3) := by decide +kernel
theorem d_Fl_goesToGate_18 : decode b_Fl_goesToGate 18 = .ok (.iconst 3, 1) := by decide +kernel
theorem d_Fl_goesToGate_19 : decode b_Fl_goesToGate 19 = .ok (.if_icmp .ne 5, 3) := by decide +kernel
theorem d_Fl_goesToGate_22 : decode b_Fl_goesToGate 22 = .ok (.iconst 1, 1) := by decide +kernel
theorem d_Fl_goesToGate_23 : decode b_Fl_goesToGate 23 = .ok (.ireturn, 1) := by decide +kernel
theorem d_Fl_goesToGate_24 : decode b_Fl_goesToGate 24 = .ok (.iinc 2 1, 3) := by decide +kernel
theorem d_Fl_goesToGate_27 : decode b_Fl_goesToGate 27 = .ok (.goto (-25), 3) := by decide +kernel
theorem d_Fl_goesToGate_30 : decode b_Fl_goesToGate 30 = .ok (.iconst 0, 1) := by decide +kernel
theorem d_Fl_goesToGate_31 : decode b_Fl_goesToGate 31 = .ok (.ireturn, 1) := by decide +kernel
theorem d_Fl_add_0 : decode b_Fl_add 0 = .ok (.aload_n 0, 1) := by decide +kernel
theorem d_Fl_add_1 : decode b_Fl_add 1 = .ok (.getfield 16, 3) := by decide +kernel
theorem d_Fl_add_4 : decode b_Fl_add 4 = .ok (.ifCond .lt 13, 3) := by decide +kernel
theorem d_Fl_add_7 : decode b_Fl_add 7 = .ok (.aload_n 0, 1) := by decide +kernel
theorem d_Fl_add_8 : decode b_Fl_add 8 = .ok (.getfield 16, 3) := by decide +kernel
theorem d_Fl_add_11 : decode b_Fl_add 11 = .ok (.sipush 168, 3) := by decide +kernel
theorem d_Fl_add_14 : decode b_Fl_add 14 = .ok (.if_icmp .lt 4, 3) := by decide +kernel
theorem d_Fl_add_17 : decode b_Fl_add 17 = .ok (.return_, 1) := by decide +kernel
theorem d_Fl_add_18 : decode b_Fl_add 18 = .ok (.aload_n 0, 1) := by decide +kernel
theorem d_Fl_add_19 : decode b_Fl_add 19 = .ok (.getfield 11, 3) := by decide +kernel
theorem d_Fl_add_22 : decode b_Fl_add 22 = .ok (.iconst 0, 1) := by decide +kernel
theorem d_Fl_add_23 : decode b_Fl_add 23 = .ok (.aaload, 1) := by decide +kernel
theorem d_Fl_add_24 : decode b_Fl_add 24 = .ok (.aload_n 0, 1) := by decide +kernel
theorem d_Fl_add_25 : decode b_Fl_add 25 = .ok (.getfield 16, 3) := by decide +kernel
theorem d_Fl_add_28 : decode b_Fl_add 28 = .ok (.iload_n 1, 1) := by decide +kernel
theorem d_Fl_add_29 : decode b_Fl_add 29 = .ok (.iastore, 1) := by decide +kernel
theorem d_Fl_add_30 : decode b_Fl_add 30 = .ok (.aload_n 0, 1) := by decide +kernel
theorem d_Fl_add_31 : decode b_Fl_add 31 = .ok (.getfield 11, 3) := by decide +kernel
theorem d_Fl_add_34 : decode b_Fl_add 34 = .ok (.iconst 1, 1) := by decide +kernel
theorem d_Fl_add_35 : decode b_Fl_add 35 = .ok (.aaload, 1) := by decide +kernel
theorem d_Fl_add_36 : decode b_Fl_add 36 = .ok (.aload_n 0, 1) := by decide +kernel
theorem d_Fl_add_37 : decode b_Fl_add 37 = .ok (.getfield 16, 3) := by decide +kernel
theorem d_Fl_add_40 : decode b_Fl_add 40 = .ok (.iload_n 2, 1) := by decide +kernel
theorem d_Fl_add_41 : decode b_Fl_add 41 = .ok (.iastore, 1) := by decide +kernel
theorem d_Fl_add_42 : decode b_Fl_add 42 = .ok (.aload_n 0, 1) := by decide +kernel
theorem d_Fl_add_43 : decode b_Fl_add 43 = .ok (.getfield 11, 3) := by decide +kernel
theorem d_Fl_add_46 : decode b_Fl_add 46 = .ok (.iconst 2, 1) := by decide +kernel
theorem d_Fl_add_47 : decode b_Fl_add 47 = .ok (.aaload, 1) := by decide +kernel
theorem d_Fl_add_48 : decode b_Fl_add 48 = .ok (.aload_n 0, 1) := by decide +kernel
theorem d_Fl_add_49 : decode b_Fl_add 49 = .ok (.getfield 16, 3) := by decide +kernel
theorem d_Fl_add_52 : decode b_Fl_add 52 = .ok (.iload_n 3, 1) := by decide +kernel
theorem d_Fl_add_53 : decode b_Fl_add 53 = .ok (.iastore, 1) := by decide +kernel
theorem d_Fl_add_54 : decode b_Fl_add 54 = .ok (.aload_n 0, 1) := by decide +kernel
theorem d_Fl_add_55 : decode b_Fl_add 55 = .ok (.dup, 1) := by decide +kernel
theorem d_Fl_add_56 : decode b_Fl_add 56 = .ok (.getfield 16, 3) := by decide +kernel
theorem d_Fl_add_59 : decode b_Fl_add 59 = .ok (.iconst 1, 1) := by decide +kernel
theorem d_Fl_add_60 : decode b_Fl_add 60 = .ok (.iadd, 1) := by decide +kernel
theorem d_Fl_add_61 : decode b_Fl_add 61 = .ok (.putfield 16, 3) := by decide +kernel
theorem d_Fl_add_64 : decode b_Fl_add 64 = .ok (.return_, 1) := by decide +kernel
theorem d_Fl_value_0 : decode b_Fl_value 0 = .ok (.iload_n 1, 1) := by decide +kernel
theorem d_Fl_value_1 : decode b_Fl_value 1 = .ok (.ifCond .lt 27, 3) := by decide +kernel
theorem d_Fl_value_4 : decode b_Fl_value 4 = .ok (.iload_n 1, 1) := by decide +kernel
theorem d_Fl_value_5 : decode b_Fl_value 5 = .ok (.aload_n 0, 1) := by decide +kernel
theorem d_Fl_value_6 : decode b_Fl_value 6 = .ok (.getfield 16, 3) := by decide +kernel
theorem d_Fl_value_9 : decode b_Fl_value 9 = .ok (.if_icmp .ge 19, 3) := by decide +kernel
theorem d_Fl_value_12 : decode b_Fl_value 12 = .ok (.iload_n 1, 1) := by decide +kernel
theorem d_Fl_value_13 : decode b_Fl_value 13 = .ok (.sipush 168, 3) := by decide +kernel
theorem d_Fl_value_16 : decode b_Fl_value 16 = .ok (.if_icmp .ge 12, 3) := by decide +kernel
theorem d_Fl_value_19 : decode b_Fl_value 19 = .ok (.iload_n 2, 1) := by decide +kernel
theorem d_Fl_value_20 : decode b_Fl_value 20 = .ok (.ifCond .lt 8, 3) := by decide +kernel
theorem d_Fl_value_23 : decode b_Fl_value 23 = .ok (.iload_n 2, 1) := by decide +kernel
theorem d_Fl_value_24 : decode b_Fl_value 24 = .ok (.iconst 3, 1) := by decide +kernel
theorem d_Fl_value_25 : decode b_Fl_value 25 = .ok (.if_icmp .lt 5, 3) := by decide +kernel
theorem d_Fl_value_28 : decode b_Fl_value 28 = .ok (.iconst (-1), 1) := by decide +kernel
theorem d_Fl_value_29 : decode b_Fl_value 29 = .ok (.ireturn, 1) := by decide +kernel
theorem d_Fl_value_30 : decode b_Fl_value 30 = .ok (.aload_n 0, 1) := by decide +kernel
theorem d_Fl_value_31 : decode b_Fl_value 31 = .ok (.getfield 11, 3) := by decide +kernel
theorem d_Fl_value_34 : decode b_Fl_value 34 = .ok (.iload_n 2, 1) := by decide +kernel
theorem d_Fl_value_35 : decode b_Fl_value 35 = .ok (.aaload, 1) := by decide +kernel
theorem d_Fl_value_36 : decode b_Fl_value 36 = .ok (.iload_n 1, 1) := by decide +kernel
theorem d_Fl_value_37 : decode b_Fl_value 37 = .ok (.iaload, 1) := by decide +kernel
theorem d_Fl_value_38 : decode b_Fl_value 38 = .ok (.ireturn, 1) := by decide +kernel
end
section
theorem d_Mo_init_0 : decode b_Mo_init 0 = .ok (.aload_n 0, 1) := by decide +kernel
theorem d_Mo_init_1 : decode b_Mo_init 1 = .ok (.invokespecial 1, 3) := by decide +kernel
theorem d_Mo_init_4 : decode b_Mo_init 4 = .ok (.aload_n 0, 1) := by decide +kernel
theorem d_Mo_init_5 : decode b_Mo_init 5 = .ok (.sipush 300, 3) := by decide +kernel
theorem d_Mo_init_8 : decode b_Mo_init 8 = .ok (.newarray .int, 2) := by decide +kernel
theorem d_Mo_init_10 : decode b_Mo_init 10 = .ok (.putfield 7, 3) := by decide +kernel
theorem d_Mo_init_13 : decode b_Mo_init 13 = .ok (.aload_n 0, 1) := by decide +kernel
theorem d_Mo_init_14 : decode b_Mo_init 14 = .ok (.bipush 24, 2) := by decide +kernel
theorem d_Mo_init_16 : decode b_Mo_init 16 = .ok (.newarray .int, 2) := by decide +kernel
theorem d_Mo_init_18 : decode b_Mo_init 18 = .ok (.putfield 13, 3) := by decide +kernel
theorem d_Mo_init_21 : decode b_Mo_init 21 = .ok (.aload_n 0, 1) := by decide +kernel
theorem d_Mo_init_22 : decode b_Mo_init 22 = .ok (.bipush 24, 2) := by decide +kernel
theorem d_Mo_init_24 : decode b_Mo_init 24 = .ok (.newarray .int, 2) := by decide +kernel
theorem d_Mo_init_26 : decode b_Mo_init 26 = .ok (.putfield 16, 3) := by decide +kernel
theorem d_Mo_init_29 : decode b_Mo_init 29 = .ok (.aload_n 0, 1) := by decide +kernel
theorem d_Mo_init_30 : decode b_Mo_init 30 = .ok (.bipush 24, 2) := by decide +kernel
theorem d_Mo_init_32 : decode b_Mo_init 32 = .ok (.newarray .int, 2) := by decide +kernel
theorem d_Mo_init_34 : decode b_Mo_init 34 = .ok (.putfield 19, 3) := by decide +kernel
theorem d_Mo_init_37 : decode b_Mo_init 37 = .ok (.aload_n 0, 1) := by decide +kernel
theorem d_Mo_init_38 : decode b_Mo_init 38 = .ok (.bipush 24, 2) := by decide +kernel
theorem d_Mo_init_40 : decode b_Mo_init 40 = .ok (.newarray .int, 2) := by decide +kernel
theorem d_Mo_init_42 : decode b_Mo_init 42 = .ok (.putfield 22, 3) := by decide +kernel
theorem d_Mo_init_45 : decode b_Mo_init 45 = .ok (.aload_n 0, 1) := by decide +kernel
theorem d_Mo_init_46 : decode b_Mo_init 46 = .ok (.bipush 48, 2) := by decide +kernel
theorem d_Mo_init_48 : decode b_Mo_init 48 = .ok (.newarray .int, 2) := by decide +kernel
theorem d_Mo_init_50 : decode b_Mo_init 50 = .ok (.putfield 25, 3) := by decide +kernel
theorem d_Mo_init_53 : decode b_Mo_init 53 = .ok (.aload_n 0, 1) := by decide +kernel
theorem d_Mo_init_54 : decode b_Mo_init 54 = .ok (.bipush 24, 2) := by decide +kernel
theorem d_Mo_init_56 : decode b_Mo_init 56 = .ok (.newarray .int, 2) := by decide +kernel
theorem d_Mo_init_58 : decode b_Mo_init 58 = .ok (.putfield 28, 3) := by decide +kernel
theorem d_Mo_init_61 : decode b_Mo_init 61 = .ok (.aload_n 0, 1) := by decide +kernel
theorem d_Mo_init_62 : decode b_Mo_init 62 = .ok (.bipush 24, 2) := by decide +kernel
theorem d_Mo_init_64 : decode b_Mo_init 64 = .ok (.newarray .int, 2) := by decide +kernel
theorem d_Mo_init_66 : decode b_Mo_init 66 = .ok (.putfield 31, 3) := by decide +kernel
theorem d_Mo_init_69 : decode b_Mo_init 69 = .ok (.aload_n 0, 1) := by decide +kernel
theorem d_Mo_init_70 : decode b_Mo_init 70 = .ok (.bipush 24, 2) := by decide +kernel
theorem d_Mo_init_72 : decode b_Mo_init 72 = .ok (.newarray .int, 2) := by decide +kernel
theorem d_Mo_init_74 : decode b_Mo_init 74 = .ok (.putfield 34, 3) := by decide +kernel
theorem d_Mo_init_77 : decode b_Mo_init 77 = .ok (.aload_n 0, 1) := by decide +kernel
theorem d_Mo_init_78 : decode b_Mo_init 78 = .ok (.bipush 24, 2) := by decide +kernel
theorem d_Mo_init_80 : decode b_Mo_init 80 = .ok (.newarray .int, 2) := by decide +kernel
theorem d_Mo_init_82 : decode b_Mo_init 82 = .ok (.putfield 37, 3) := by decide +kernel
theorem d_Mo_init_85 : decode b_Mo_init 85 = .ok (.aload_n 0, 1) := by decide +kernel
theorem d_Mo_init_86 : decode b_Mo_init 86 = .ok (.bipush 48, 2) := by decide +kernel
theorem d_Mo_init_88 : decode b_Mo_init 88 = .ok (.newarray .int, 2) := by decide +kernel
theorem d_Mo_init_90 : decode b_Mo_init 90 = .ok (.putfield 40, 3) := by decide +kernel
theorem d_Mo_init_93 : decode b_Mo_init 93 = .ok (.aload_n 0, 1) := by decide +kernel
theorem d_Mo_init_94 : decode b_Mo_init 94 = .ok (.sipush 576, 3) := by decide +kernel
theorem d_Mo_init_97 : decode b_Mo_init 97 = .ok (.newarray .boolean, 2) := by decide +kernel
theorem d_Mo_init_99 : decode b_Mo_init 99 = .ok (.putfield 43, 3) := by decide +kernel
theorem d_Mo_init_102 : decode b_Mo_init 102 = .ok (.aload_n 0, 1) := by decide +kernel
theorem d_Mo_init_103 : decode b_Mo_init 103 = .ok (.sipush 300, 3) := by decide +kernel
theorem d_Mo_init_106 : decode b_Mo_init 106 = .ok (.newarray .int, 2) := by decide +kernel
theorem d_Mo_init_108 : decode b_Mo_init 108 = .ok (.putfield 47, 3) := by decide +kernel
theorem d_Mo_init_111 : decode b_Mo_init 111 = .ok (.aload_n 0, 1) := by decide +kernel
theorem d_Mo_init_112 : decode b_Mo_init 112 = .ok (.sipush 300, 3) := by decide +kernel
theorem d_Mo_init_115 : decode b_Mo_init 115 = .ok (.newarray .int, 2) := by decide +kernel
theorem d_Mo_init_117 : decode b_Mo_init 117 = .ok (.putfield 50, 3) := by decide +kernel
theorem d_Mo_init_120 : decode b_Mo_init 120 = .ok (.aload_n 0, 1) := by decide +kernel
theorem d_Mo_init_121 : decode b_Mo_init 121 = .ok (.sipush 300, 3) := by decide +kernel
theorem d_Mo_init_124 : decode b_Mo_init 124 = .ok (.newarray .int, 2) := by decide +kernel
theorem d_Mo_init_126 : decode b_Mo_init 126 = .ok (.putfield 53, 3) := by decide +kernel
theorem d_Mo_init_129 : decode b_Mo_init 129 = .ok (.aload_n 0, 1) := by decide +kernel
theorem d_Mo_init_130 : decode b_Mo_init 130 = .ok (.bipush 24, 2) := by decide +kernel
theorem d_Mo_init_132 : decode b_Mo_init 132 = .ok (.newarray .long, 2) := by decide +kernel
theorem d_Mo_init_134 : decode b_Mo_init 134 = .ok (.putfield 56, 3) := by decide +kernel
theorem d_Mo_init_137 : decode b_Mo_init 137 = .ok (.aload_n 0, 1) := by decide +kernel
theorem d_Mo_init_138 : decode b_Mo_init 138 = .ok (.sipush 900, 3) := by decide +kernel
theorem d_Mo_init_141 : decode b_Mo_init 141 = .ok (.newarray .int, 2) := by decide +kernel
theorem d_Mo_init_143 : decode b_Mo_init 143 = .ok (.putfield 60, 3) := by decide +kernel
theorem d_Mo_init_146 : decode b_Mo_init 146 = .ok (.return_, 1) := by decide +kernel
theorem d_Mo_sign_0 : decode b_Mo_sign 0 = .ok (.aload_n 0, 1) := by decide +kernel
theorem d_Mo_sign_1 : decode b_Mo_sign 1 = .ok (.getfield 63, 3) := by decide +kernel
theorem d_Mo_sign_4 : decode b_Mo_sign 4 = .ok (.sipush 300, 3) := by decide +kernel
theorem d_Mo_sign_7 : decode b_Mo_sign 7 = .ok (.if_icmp .eq 15, 3) := by decide +kernel
theorem d_Mo_sign_10 : decode b_Mo_sign 10 = .ok (.iload_n 1, 1) := by decide +kernel
theorem d_Mo_sign_11 : decode b_Mo_sign 11 = .ok (.bipush 32, 2) := by decide +kernel
theorem d_Mo_sign_13 : decode b_Mo_sign 13 = .ok (.if_icmp .lt 9, 3) := by decide +kernel
theorem d_Mo_sign_16 : decode b_Mo_sign 16 = .ok (.iload_n 1, 1) := by decide +kernel
theorem d_Mo_sign_17 : decode b_Mo_sign 17 = .ok (.bipush 126, 2) := by decide +kernel
theorem d_Mo_sign_19 : decode b_Mo_sign 19 = .ok (.if_icmp .le 5, 3) := by decide +kernel
theorem d_Mo_sign_22 : decode b_Mo_sign 22 = .ok (.iconst 0, 1) := by decide +kernel
theorem d_Mo_sign_23 : decode b_Mo_sign 23 = .ok (.ireturn, 1) := by decide +kernel
theorem d_Mo_sign_24 : decode b_Mo_sign 24 = .ok (.aload_n 0, 1) := by decide +kernel
theorem d_Mo_sign_25 : decode b_Mo_sign 25 = .ok (.getfield 7, 3) := by decide +kernel
theorem d_Mo_sign_28 : decode b_Mo_sign 28 = .ok (.aload_n 0, 1) := by decide +kernel
theorem d_Mo_sign_29 : decode b_Mo_sign 29 = .ok (.getfield 63, 3) := by decide +kernel
theorem d_Mo_sign_32 : decode b_Mo_sign 32 = .ok (.iload_n 1, 1) := by decide +kernel
theorem d_Mo_sign_33 : decode b_Mo_sign 33 = .ok (.iastore, 1) := by decide +kernel
theorem d_Mo_sign_34 : decode b_Mo_sign 34 = .ok (.aload_n 0, 1) := by decide +kernel
theorem d_Mo_sign_35 : decode b_Mo_sign 35 = .ok (.dup, 1) := by decide +kernel
theorem d_Mo_sign_36 : decode b_Mo_sign 36 = .ok (.getfield 63, 3) := by decide +kernel
theorem d_Mo_sign_39 : decode b_Mo_sign 39 = .ok (.iconst 1, 1) := by decide +kernel
theorem d_Mo_sign_40 : decode b_Mo_sign 40 = .ok (.iadd, 1) := by decide +kernel
theorem d_Mo_sign_41 : decode b_Mo_sign 41 = .ok (.putfield 63, 3) := by decide +kernel
theorem d_Mo_sign_44 : decode b_Mo_sign 44 = .ok (.iconst 1, 1) := by decide +kernel
theorem d_Mo_sign_45 : decode b_Mo_sign 45 = .ok (.ireturn, 1) := by decide +kernel
theorem d_Mo_look_0 : decode b_Mo_look 0 = .ok (.aload_n 0, 1) := by decide +kernel
theorem d_Mo_look_1 : decode b_Mo_look 1 = .ok (.getfield 67, 3) := by decide +kernel
theorem d_Mo_look_4 : decode b_Mo_look 4 = .ok (.aload_n 0, 1) := by decide +kernel
theorem d_Mo_look_5 : decode b_Mo_look 5 = .ok (.getfield 63, 3) := by decide +kernel
theorem d_Mo_look_8 : decode b_Mo_look 8 = .ok (.if_icmp .ge 15, 3) := by decide +kernel
theorem d_Mo_look_11 : decode b_Mo_look 11 = .ok (.aload_n 0, 1) := by decide +kernel
theorem d_Mo_look_12 : decode b_Mo_look 12 = .ok (.getfield 7, 3) := by decide +kernel
theorem d_Mo_look_15 : decode b_Mo_look 15 = .ok (.aload_n 0, 1) := by decide +kernel
theorem d_Mo_look_16 : decode b_Mo_look 16 = .ok (.getfield 67, 3) := by decide +kernel
theorem d_Mo_look_19 : decode b_Mo_look 19 = .ok (.iaload, 1) := by decide +kernel
theorem d_Mo_look_20 : decode b_Mo_look 20 = .ok (.goto 4, 3) := by decide +kernel
theorem d_Mo_look_23 : decode b_Mo_look 23 = .ok (.iconst 0, 1) := by decide +kernel
theorem d_Mo_look_24 : decode b_Mo_look 24 = .ok (.ireturn, 1) := by decide +kernel
theorem d_Mo_mark_0 : decode b_Mo_mark 0 = .ok (.aload_n 0, 1) := by decide +kernel
theorem d_Mo_mark_1 : decode b_Mo_mark 1 = .ok (.aload_n 0, 1) := by decide +kernel
theorem d_Mo_mark_2 : decode b_Mo_mark 2 = .ok (.getfield 70, 3) := by decide +kernel
theorem d_Mo_mark_5 : decode b_Mo_mark 5 = .ok (.iconst (-1), 1) := by decide +kernel
theorem d_Mo_mark_6 : decode b_Mo_mark 6 = .ok (.if_icmp .ne 7, 3) := by decide +kernel
theorem d_Mo_mark_9 : decode b_Mo_mark 9 = .ok (.iload_n 1, 1) := by decide +kernel
theorem d_Mo_mark_10 : decode b_Mo_mark 10 = .ok (.goto 7, 3) := by decide +kernel
theorem d_Mo_mark_13 : decode b_Mo_mark 13 = .ok (.aload_n 0, 1) := by decide +kernel
theorem d_Mo_mark_14 : decode b_Mo_mark 14 = .ok (.getfield 70, 3) := by decide +kernel
theorem d_Mo_mark_17 : decode b_Mo_mark 17 = .ok (.putfield 70, 3) := by decide +kernel
theorem d_Mo_mark_20 : decode b_Mo_mark 20 = .ok (.return_, 1) := by decide +kernel
theorem d_Mo_take_0 : decode b_Mo_take 0 = .ok (.aload_n 0, 1) := by decide +kernel
theorem d_Mo_take_1 : decode b_Mo_take 1 = .ok (.getfield 70, 3) := by decide +kernel
theorem d_Mo_take_4 : decode b_Mo_take 4 = .ok (.iconst (-1), 1) := by decide +kernel
theorem d_Mo_take_5 : decode b_Mo_take 5 = .ok (.if_icmp .ne 24, 3) := by decide +kernel
theorem d_Mo_take_8 : decode b_Mo_take 8 = .ok (.aload_n 0, 1) := by decide +kernel
theorem d_Mo_take_9 : decode b_Mo_take 9 = .ok (.invokevirtual 73, 3) := by decide +kernel
theorem d_Mo_take_12 : decode b_Mo_take 12 = .ok (.iload_n 1, 1) := by decide +kernel
theorem d_Mo_take_13 : decode b_Mo_take 13 = .ok (.if_icmp .ne 16, 3) := by decide +kernel
theorem d_Mo_take_16 : decode b_Mo_take 16 = .ok (.aload_n 0, 1) := by decide +kernel
theorem d_Mo_take_17 : decode b_Mo_take 17 = .ok (.dup, 1) := by decide +kernel
theorem d_Mo_take_18 : decode b_Mo_take 18 = .ok (.getfield 67, 3) := by decide +kernel
theorem d_Mo_take_21 : decode b_Mo_take 21 = .ok (.iconst 1, 1) := by decide +kernel
theorem d_Mo_take_22 : decode b_Mo_take 22 = .ok (.iadd, 1) := by decide +kernel
theorem d_Mo_take_23 : decode b_Mo_take 23 = .ok (.putfield 67, 3) := by decide +kernel
theorem d_Mo_take_26 : decode b_Mo_take 26 = .ok (.goto 11, 3) := by decide +kernel
theorem d_Mo_take_29 : decode b_Mo_take 29 = .ok (.aload_n 0, 1) := by decide +kernel
theorem d_Mo_take_30 : decode b_Mo_take 30 = .ok (.aload_n 0, 1) := by decide +kernel
theorem d_Mo_take_31 : decode b_Mo_take 31 = .ok (.getfield 67, 3) := by decide +kernel
theorem d_Mo_take_34 : decode b_Mo_take 34 = .ok (.invokevirtual 77, 3) := by decide +kernel
theorem d_Mo_take_37 : decode b_Mo_take 37 = .ok (.return_, 1) := by decide +kernel
theorem d_Mo_number_0 : decode b_Mo_number 0 = .ok (.aload_n 0, 1) := by decide +kernel
theorem d_Mo_number_1 : decode b_Mo_number 1 = .ok (.getfield 67, 3) := by decide +kernel
theorem d_Mo_number_4 : decode b_Mo_number 4 = .ok (.istore_n 3, 1) := by decide +kernel
theorem d_Mo_number_5 : decode b_Mo_number 5 = .ok (.iconst 0, 1) := by decide +kernel
theorem d_Mo_number_6 : decode b_Mo_number 6 = .ok (.istore 4, 2) := by decide +kernel
theorem d_Mo_number_8 : decode b_Mo_number 8 = .ok (.aload_n 0, 1) := by decide +kernel
theorem d_Mo_number_9 : decode b_Mo_number 9 = .ok (.getfield 70, 3) := by decide +kernel
theorem d_Mo_number_12 : decode b_Mo_number 12 = .ok (.iconst (-1), 1) := by decide +kernel
theorem d_Mo_number_13 : decode b_Mo_number 13 = .ok (.if_icmp .ne 59, 3) := by decide +kernel
theorem d_Mo_number_16 : decode b_Mo_number 16 = .ok (.aload_n 0, 1) := by decide +kernel
theorem d_Mo_number_17 : decode b_Mo_number 17 = .ok (.getfield 67, 3) := by decide +kernel
theorem d_Mo_number_20 : decode b_Mo_number 20 = .ok (.iload_n 3, 1) := by decide +kernel
theorem d_Mo_number_21 : decode b_Mo_number 21 = .ok (.iconst 4, 1) := by decide +kernel
theorem d_Mo_number_22 : decode b_Mo_number 22 = .ok (.iadd, 1) := by decide +kernel
theorem d_Mo_number_23 : decode b_Mo_number 23 = .ok (.if_icmp .ge 49, 3) := by decide +kernel
theorem d_Mo_number_26 : decode b_Mo_number 26 = .ok (.aload_n 0, 1) := by decide +kernel
theorem d_Mo_number_27 : decode b_Mo_number 27 = .ok (.invokevirtual 73, 3) := by decide +kernel
theorem d_Mo_number_30 : decode b_Mo_number 30 = .ok (.bipush 48, 2) := by decide +kernel
theorem d_Mo_number_32 : decode b_Mo_number 32 = .ok (.if_icmp .lt 40, 3) := by decide +kernel
theorem d_Mo_number_35 : decode b_Mo_number 35 = .ok (.aload_n 0, 1) := by decide +kernel
theorem d_Mo_number_36 : decode b_Mo_number 36 = .ok (.invokevirtual 73, 3) := by decide +kernel
theorem d_Mo_number_39 : decode b_Mo_number 39 = .ok (.bipush 57, 2) := by decide +kernel
theorem d_Mo_number_41 : decode b_Mo_number 41 = .ok (.if_icmp .gt 31, 3) := by decide +kernel
theorem d_Mo_number_44 : decode b_Mo_number 44 = .ok (.bipush 10, 2) := by decide +kernel
theorem d_Mo_number_46 : decode b_Mo_number 46 = .ok (.iload 4, 2) := by decide +kernel
theorem d_Mo_number_48 : decode b_Mo_number 48 = .ok (.imul, 1) := by decide +kernel
theorem d_Mo_number_49 : decode b_Mo_number 49 = .ok (.aload_n 0, 1) := by decide +kernel
theorem d_Mo_number_50 : decode b_Mo_number 50 = .ok (.invokevirtual 73, 3) := by decide +kernel
theorem d_Mo_number_53 : decode b_Mo_number 53 = .ok (.iadd, 1) := by decide +kernel
theorem d_Mo_number_54 : decode b_Mo_number 54 = .ok (.bipush 48, 2) := by decide +kernel
theorem d_Mo_number_56 : decode b_Mo_number 56 = .ok (.isub, 1) := by decide +kernel
theorem d_Mo_number_57 : decode b_Mo_number 57 = .ok (.istore 4, 2) := by decide +kernel
theorem d_Mo_number_59 : decode b_Mo_number 59 = .ok (.aload_n 0, 1) := by decide +kernel
theorem d_Mo_number_60 : decode b_Mo_number 60 = .ok (.dup, 1) := by decide +kernel
theorem d_Mo_number_61 : decode b_Mo_number 61 = .ok (.getfield 67, 3) := by decide +kernel
theorem d_Mo_number_64 : decode b_Mo_number 64 = .ok (.iconst 1, 1) := by decide +kernel
theorem d_Mo_number_65 : decode b_Mo_number 65 = .ok (.iadd, 1) := by decide +kernel
theorem d_Mo_number_66 : decode b_Mo_number 66 = .ok (.putfield 67, 3) := by decide +kernel
theorem d_Mo_number_69 : decode b_Mo_number 69 = .ok (.goto (-61), 3) := by decide +kernel
theorem d_Mo_number_72 : decode b_Mo_number 72 = .ok (.aload_n 0, 1) := by decide +kernel
theorem d_Mo_number_73 : decode b_Mo_number 73 = .ok (.getfield 70, 3) := by decide +kernel
theorem d_Mo_number_76 : decode b_Mo_number 76 = .ok (.iconst (-1), 1) := by decide +kernel
theorem d_Mo_number_77 : decode b_Mo_number 77 = .ok (.if_icmp .ne 28, 3) := by decide +kernel
theorem d_Mo_number_80 : decode b_Mo_number 80 = .ok (.aload_n 0, 1) := by decide +kernel
theorem d_Mo_number_81 : decode b_Mo_number 81 = .ok (.getfield 67, 3) := by decide +kernel
theorem d_Mo_number_84 : decode b_Mo_number 84 = .ok (.iload_n 3, 1) := by decide +kernel
theorem d_Mo_number_85 : decode b_Mo_number 85 = .ok (.if_icmp .eq 15, 3) := by decide +kernel
theorem d_Mo_number_88 : decode b_Mo_number 88 = .ok (.iload 4, 2) := by decide +kernel
theorem d_Mo_number_90 : decode b_Mo_number 90 = .ok (.iload_n 1, 1) := by decide +kernel
theorem d_Mo_number_91 : decode b_Mo_number 91 = .ok (.if_icmp .lt 9, 3) := by decide +kernel
theorem d_Mo_number_94 : decode b_Mo_number 94 = .ok (.iload 4, 2) := by decide +kernel
theorem d_Mo_number_96 : decode b_Mo_number 96 = .ok (.iload_n 2, 1) := by decide +kernel
theorem d_Mo_number_97 : decode b_Mo_number 97 = .ok (.if_icmp .le 8, 3) := by decide +kernel
theorem d_Mo_number_100 : decode b_Mo_number 100 = .ok (.aload_n 0, 1) := by decide +kernel
theorem d_Mo_number_101 : decode b_Mo_number 101 = .ok (.iload_n 3, 1) := by decide +kernel
theorem d_Mo_number_102 : decode b_Mo_number 102 = .ok (.invokevirtual 77, 3) := by decide +kernel
theorem d_Mo_number_105 : decode b_Mo_number 105 = .ok (.iload 4, 2) := by decide +kernel
theorem d_Mo_number_107 : decode b_Mo_number 107 = .ok (.ireturn, 1) := by decide +kernel
theorem d_Mo_way_0 : decode b_Mo_way 0 = .ok (.aload_n 0, 1) := by decide +kernel
theorem d_Mo_way_1 : decode b_Mo_way 1 = .ok (.getfield 25, 3) := by decide +kernel
theorem d_Mo_way_4 : decode b_Mo_way 4 = .ok (.iconst 2, 1) := by decide +kernel
theorem d_Mo_way_5 : decode b_Mo_way 5 = .ok (.aload_n 0, 1) := by decide +kernel
theorem d_Mo_way_6 : decode b_Mo_way 6 = .ok (.getfield 81, 3) := by decide +kernel
theorem d_Mo_way_9 : decode b_Mo_way 9 = .ok (.imul, 1) := by decide +kernel
theorem d_Mo_way_10 : decode b_Mo_way 10 = .ok (.iload_n 1, 1) := by decide +kernel
theorem d_Mo_way_11 : decode b_Mo_way 11 = .ok (.iadd, 1) := by decide +kernel
theorem d_Mo_way_12 : decode b_Mo_way 12 = .ok (.aload_n 0, 1) := by decide +kernel
theorem d_Mo_way_13 : decode b_Mo_way 13 = .ok (.iconst 0, 1) := by decide +kernel
theorem d_Mo_way_14 : decode b_Mo_way 14 = .ok (.bipush 29, 2) := by decide +kernel
theorem d_Mo_way_16 : decode b_Mo_way 16 = .ok (.invokevirtual 84, 3) := by decide +kernel
theorem d_Mo_way_19 : decode b_Mo_way 19 = .ok (.iastore, 1) := by decide +kernel
theorem d_Mo_way_20 : decode b_Mo_way 20 = .ok (.return_, 1) := by decide +kernel
theorem d_Mo_kindOf_0 : decode b_Mo_kindOf 0 = .ok (.iload_n 0, 1) := by decide +kernel
theorem d_Mo_kindOf_1 : decode b_Mo_kindOf 1 = .ok (.bipush 70, 2) := by decide +kernel
theorem d_Mo_kindOf_3 : decode b_Mo_kindOf 3 = .ok (.if_icmp .ne 7, 3) := by decide +kernel
theorem d_Mo_kindOf_6 : decode b_Mo_kindOf 6 = .ok (.iconst 0, 1) := by decide +kernel
theorem d_Mo_kindOf_7 : decode b_Mo_kindOf 7 = .ok (.goto 44, 3) := by decide +kernel
theorem d_Mo_kindOf_10 : decode b_Mo_kindOf 10 = .ok (.iload_n 0, 1) := by decide +kernel
theorem d_Mo_kindOf_11 : decode b_Mo_kindOf 11 = .ok (.bipush 66, 2) := by decide +kernel
theorem d_Mo_kindOf_13 : decode b_Mo_kindOf 13 = .ok (.if_icmp .ne 7, 3) := by decide +kernel
theorem d_Mo_kindOf_16 : decode b_Mo_kindOf 16 = .ok (.iconst 1, 1) := by decide +kernel
theorem d_Mo_kindOf_17 : decode b_Mo_kindOf 17 = .ok (.goto 34, 3) := by decide +kernel
theorem d_Mo_kindOf_20 : decode b_Mo_kindOf 20 = .ok (.iload_n 0, 1) := by decide +kernel
theorem d_Mo_kindOf_21 : decode b_Mo_kindOf 21 = .ok (.bipush 82, 2) := by decide +kernel
theorem d_Mo_kindOf_23 : decode b_Mo_kindOf 23 = .ok (.if_icmp .ne 7, 3) := by decide +kernel
theorem d_Mo_kindOf_26 : decode b_Mo_kindOf 26 = .ok (.iconst 2, 1) := by decide +kernel
theorem d_Mo_kindOf_27 : decode b_Mo_kindOf 27 = .ok (.goto 24, 3) := by decide +kernel
theorem d_Mo_kindOf_30 : decode b_Mo_kindOf 30 = .ok (.iload_n 0, 1) := by decide +kernel
theorem d_Mo_kindOf_31 : decode b_Mo_kindOf 31 = .ok (.bipush 71, 2) := by decide +kernel
theorem d_Mo_kindOf_33 : decode b_Mo_kindOf 33 = .ok (.if_icmp .ne 7, 3) := by decide +kernel
theorem d_Mo_kindOf_36 : decode b_Mo_kindOf 36 = .ok (.iconst 3, 1) := by decide +kernel
theorem d_Mo_kindOf_37 : decode b_Mo_kindOf 37 = .ok (.goto 14, 3) := by decide +kernel
theorem d_Mo_kindOf_40 : decode b_Mo_kindOf 40 = .ok (.iload_n 0, 1) := by decide +kernel
theorem d_Mo_kindOf_41 : decode b_Mo_kindOf 41 = .ok (.bipush 83, 2) := by decide +kernel
theorem d_Mo_kindOf_43 : decode b_Mo_kindOf 43 = .ok (.if_icmp .ne 7, 3) := by decide +kernel
theorem d_Mo_kindOf_46 : decode b_Mo_kindOf 46 = .ok (.iconst 4, 1) := by decide +kernel
theorem d_Mo_kindOf_47 : decode b_Mo_kindOf 47 = .ok (.goto 4, 3) := by decide +kernel
theorem d_Mo_kindOf_50 : decode b_Mo_kindOf 50 = .ok (.iconst (-1), 1) := by decide +kernel
theorem d_Mo_kindOf_51 : decode b_Mo_kindOf 51 = .ok (.ireturn, 1) := by decide +kernel
theorem d_Mo_readPart_0 : decode b_Mo_readPart 0 = .ok (.aload_n 0, 1) := by decide +kernel
theorem d_Mo_readPart_1 : decode b_Mo_readPart 1 = .ok (.invokevirtual 73, 3) := by decide +kernel
theorem d_Mo_readPart_4 : decode b_Mo_readPart 4 = .ok (.invokestatic 88, 3) := by decide +kernel
theorem d_Mo_readPart_7 : decode b_Mo_readPart 7 = .ok (.istore_n 1, 1) := by decide +kernel
theorem d_Mo_readPart_8 : decode b_Mo_readPart 8 = .ok (.aload_n 0, 1) := by decide +kernel
theorem d_Mo_readPart_9 : decode b_Mo_readPart 9 = .ok (.getfield 81, 3) := by decide +kernel
theorem d_Mo_readPart_12 : decode b_Mo_readPart 12 = .ok (.bipush 24, 2) := by decide +kernel
theorem d_Mo_readPart_14 : decode b_Mo_readPart 14 = .ok (.if_icmp .eq 8, 3) := by decide +kernel
theorem d_Mo_readPart_17 : decode b_Mo_readPart 17 = .ok (.iload_n 1, 1) := by decide +kernel
theorem d_Mo_readPart_18 : decode b_Mo_readPart 18 = .ok (.iconst (-1), 1) := by decide +kernel
theorem d_Mo_readPart_19 : decode b_Mo_readPart 19 = .ok (.if_icmp .ne 12, 3) := by decide +kernel
theorem d_Mo_readPart_22 : decode b_Mo_readPart 22 = .ok (.aload_n 0, 1) := by decide +kernel
theorem d_Mo_readPart_23 : decode b_Mo_readPart 23 = .ok (.aload_n 0, 1) := by decide +kernel
theorem d_Mo_readPart_24 : decode b_Mo_readPart 24 = .ok (.getfield 67, 3) := by decide +kernel
theorem d_Mo_readPart_27 : decode b_Mo_readPart 27 = .ok (.invokevirtual 77, 3) := by decide +kernel
theorem d_Mo_readPart_30 : decode b_Mo_readPart 30 = .ok (.return_, 1) := by decide +kernel
theorem d_Mo_readPart_31 : decode b_Mo_readPart 31 = .ok (.aload_n 0, 1) := by decide +kernel
theorem d_Mo_readPart_32 : decode b_Mo_readPart 32 = .ok (.dup, 1) := by decide +kernel
theorem d_Mo_readPart_33 : decode b_Mo_readPart 33 = .ok (.getfield 67, 3) := by decide +kernel
theorem d_Mo_readPart_36 : decode b_Mo_readPart 36 = .ok (.iconst 1, 1) := by decide +kernel
theorem d_Mo_readPart_37 : decode b_Mo_readPart 37 = .ok (.iadd, 1) := by decide +kernel
theorem d_Mo_readPart_38 : decode b_Mo_readPart 38 = .ok (.putfield 67, 3) := by decide +kernel
theorem d_Mo_readPart_41 : decode b_Mo_readPart 41 = .ok (.aload_n 0, 1) := by decide +kernel
theorem d_Mo_readPart_42 : decode b_Mo_readPart 42 = .ok (.getfield 67, 3) := by decide +kernel
theorem d_Mo_readPart_45 : decode b_Mo_readPart 45 = .ok (.istore_n 2, 1) := by decide +kernel
theorem d_Mo_readPart_46 : decode b_Mo_readPart 46 = .ok (.aload_n 0, 1) := by decide +kernel
theorem d_Mo_readPart_47 : decode b_Mo_readPart 47 = .ok (.iconst 0, 1) := by decide +kernel
theorem d_Mo_readPart_48 : decode b_Mo_readPart 48 = .ok (.bipush 29, 2) := by decide +kernel
theorem d_Mo_readPart_50 : decode b_Mo_readPart 50 = .ok (.invokevirtual 84, 3) := by decide +kernel
theorem d_Mo_readPart_53 : decode b_Mo_readPart 53 = .ok (.istore_n 3, 1) := by decide +kernel
theorem d_Mo_readPart_54 : decode b_Mo_readPart 54 = .ok (.iconst 0, 1) := by decide +kernel
theorem d_Mo_readPart_55 : decode b_Mo_readPart 55 = .ok (.istore 4, 2) := by decide +kernel
theorem d_Mo_readPart_57 : decode b_Mo_readPart 57 = .ok (.iload 4, 2) := by decide +kernel
theorem d_Mo_readPart_59 : decode b_Mo_readPart 59 = .ok (.aload_n 0, 1) := by decide +kernel
theorem d_Mo_readPart_60 : decode b_Mo_readPart 60 = .ok (.getfield 81, 3) := by decide +kernel
theorem d_Mo_readPart_63 : decode b_Mo_readPart 63 = .ok (.if_icmp .ge 33, 3) := by decide +kernel
theorem d_Mo_readPart_66 : decode b_Mo_readPart 66 = .ok (.aload_n 0, 1) := by decide +kernel
theorem d_Mo_readPart_67 : decode b_Mo_readPart 67 = .ok (.getfield 70, 3) := by decide +kernel
theorem d_Mo_readPart_70 : decode b_Mo_readPart 70 = .ok (.iconst (-1), 1) := by decide +kernel
theorem d_Mo_readPart_71 : decode b_Mo_readPart 71 = .ok (.if_icmp .ne 19, 3) := by decide +kernel
theorem d_Mo_readPart_74 : decode b_Mo_readPart 74 = .ok (.aload_n 0, 1) := by decide +kernel
theorem d_Mo_readPart_75 : decode b_Mo_readPart 75 = .ok (.getfield 16, 3) := by decide +kernel
theorem d_Mo_readPart_78 : decode b_Mo_readPart 78 = .ok (.iload 4, 2) := by decide +kernel
theorem d_Mo_readPart_80 : decode b_Mo_readPart 80 = .ok (.iaload, 1) := by decide +kernel
theorem d_Mo_readPart_81 : decode b_Mo_readPart 81 = .ok (.iload_n 3, 1) := by decide +kernel
theorem d_Mo_readPart_82 : decode b_Mo_readPart 82 = .ok (.if_icmp .ne 8, 3) := by decide +kernel
theorem d_Mo_readPart_85 : decode b_Mo_readPart 85 = .ok (.aload_n 0, 1) := by decide +kernel
theorem d_Mo_readPart_86 : decode b_Mo_readPart 86 = .ok (.iload_n 2, 1) := by decide +kernel
theorem d_Mo_readPart_87 : decode b_Mo_readPart 87 = .ok (.invokevirtual 77, 3) := by decide +kernel
theorem d_Mo_readPart_90 : decode b_Mo_readPart 90 = .ok (.iinc 4 1, 3) := by decide +kernel
theorem d_Mo_readPart_93 : decode b_Mo_readPart 93 = .ok (.goto (-36), 3) := by decide +kernel
theorem d_Mo_readPart_96 : decode b_Mo_readPart 96 = .ok (.aload_n 0, 1) := by decide +kernel
theorem d_Mo_readPart_97 : decode b_Mo_readPart 97 = .ok (.bipush 61, 2) := by decide +kernel
theorem d_Mo_readPart_99 : decode b_Mo_readPart 99 = .ok (.invokevirtual 92, 3) := by decide +kernel
theorem d_Mo_readPart_102 : decode b_Mo_readPart 102 = .ok (.aload_n 0, 1) := by decide +kernel
theorem d_Mo_readPart_103 : decode b_Mo_readPart 103 = .ok (.getfield 13, 3) := by decide +kernel
theorem d_Mo_readPart_106 : decode b_Mo_readPart 106 = .ok (.aload_n 0, 1) := by decide +kernel
theorem d_Mo_readPart_107 : decode b_Mo_readPart 107 = .ok (.getfield 81, 3) := by decide +kernel
theorem d_Mo_readPart_110 : decode b_Mo_readPart 110 = .ok (.iload_n 1, 1) := by decide +kernel
theorem d_Mo_readPart_111 : decode b_Mo_readPart 111 = .ok (.iastore, 1) := by decide +kernel
theorem d_Mo_readPart_112 : decode b_Mo_readPart 112 = .ok (.aload_n 0, 1) := by decide +kernel
theorem d_Mo_readPart_113 : decode b_Mo_readPart 113 = .ok (.getfield 16, 3) := by decide +kernel
theorem d_Mo_readPart_116 : decode b_Mo_readPart 116 = .ok (.aload_n 0, 1) := by decide +kernel
theorem d_Mo_readPart_117 : decode b_Mo_readPart 117 = .ok (.getfield 81, 3) := by decide +kernel
theorem d_Mo_readPart_120 : decode b_Mo_readPart 120 = .ok (.iload_n 3, 1) := by decide +kernel
theorem d_Mo_readPart_121 : decode b_Mo_readPart 121 = .ok (.iastore, 1) := by decide +kernel
theorem d_Mo_readPart_122 : decode b_Mo_readPart 122 = .ok (.aload_n 0, 1) := by decide +kernel
theorem d_Mo_readPart_123 : decode b_Mo_readPart 123 = .ok (.getfield 19, 3) := by decide +kernel
theorem d_Mo_readPart_126 : decode b_Mo_readPart 126 = .ok (.aload_n 0, 1) := by decide +kernel
theorem d_Mo_readPart_127 : decode b_Mo_readPart 127 = .ok (.getfield 81, 3) := by decide +kernel
theorem d_Mo_readPart_130 : decode b_Mo_readPart 130 = .ok (.aload_n 0, 1) := by decide +kernel
theorem d_Mo_readPart_131 : decode b_Mo_readPart 131 = .ok (.iload_n 1, 1) := by decide +kernel
theorem d_Mo_readPart_132 : decode b_Mo_readPart 132 = .ok (.iconst 2, 1) := by decide +kernel
theorem d_Mo_readPart_133 : decode b_Mo_readPart 133 = .ok (.if_icmp .eq 8, 3) := by decide +kernel
theorem d_Mo_readPart_136 : decode b_Mo_readPart 136 = .ok (.iload_n 1, 1) := by decide +kernel
theorem d_Mo_readPart_137 : decode b_Mo_readPart 137 = .ok (.iconst 3, 1) := by decide +kernel
theorem d_Mo_readPart_138 : decode b_Mo_readPart 138 = .ok (.if_icmp .ne 7, 3) := by decide +kernel
theorem d_Mo_readPart_141 : decode b_Mo_readPart 141 = .ok (.iconst 0, 1) := by decide +kernel
theorem d_Mo_readPart_142 : decode b_Mo_readPart 142 = .ok (.goto 4, 3) := by decide +kernel
theorem d_Mo_readPart_145 : decode b_Mo_readPart 145 = .ok (.iconst 1, 1) := by decide +kernel
theorem d_Mo_readPart_146 : decode b_Mo_readPart 146 = .ok (.iload_n 1, 1) := by decide +kernel
theorem d_Mo_readPart_147 : decode b_Mo_readPart 147 = .ok (.iconst 4, 1) := by decide +kernel
theorem d_Mo_readPart_148 : decode b_Mo_readPart 148 = .ok (.if_icmp .ne 9, 3) := by decide +kernel
theorem d_Mo_readPart_151 : decode b_Mo_readPart 151 = .ok (.sipush 999, 3) := by decide +kernel
theorem d_Mo_readPart_154 : decode b_Mo_readPart 154 = .ok (.goto 6, 3) := by decide +kernel
theorem d_Mo_readPart_157 : decode b_Mo_readPart 157 = .ok (.sipush 9999, 3) := by decide +kernel
theorem d_Mo_readPart_160 : decode b_Mo_readPart 160 = .ok (.invokevirtual 84, 3) := by decide +kernel
theorem d_Mo_readPart_163 : decode b_Mo_readPart 163 = .ok (.iastore, 1) := by decide +kernel
theorem d_Mo_readPart_164 : decode b_Mo_readPart 164 = .ok (.aload_n 0, 1) := by decide +kernel
theorem d_Mo_readPart_165 : decode b_Mo_readPart 165 = .ok (.getfield 22, 3) := by decide +kernel
theorem d_Mo_readPart_168 : decode b_Mo_readPart 168 = .ok (.aload_n 0, 1) := by decide +kernel
theorem d_Mo_readPart_169 : decode b_Mo_readPart 169 = .ok (.getfield 81, 3) := by decide +kernel
theorem d_Mo_readPart_172 : decode b_Mo_readPart 172 = .ok (.iconst (-1), 1) := by decide +kernel
theorem d_Mo_readPart_173 : decode b_Mo_readPart 173 = .ok (.iastore, 1) := by decide +kernel
theorem d_Mo_readPart_174 : decode b_Mo_readPart 174 = .ok (.aload_n 0, 1) := by decide +kernel
theorem d_Mo_readPart_175 : decode b_Mo_readPart 175 = .ok (.getfield 25, 3) := by decide +kernel
theorem d_Mo_readPart_178 : decode b_Mo_readPart 178 = .ok (.iconst 2, 1) := by decide +kernel
theorem d_Mo_readPart_179 : decode b_Mo_readPart 179 = .ok (.aload_n 0, 1) := by decide +kernel
theorem d_Mo_readPart_180 : decode b_Mo_readPart 180 = .ok (.getfield 81, 3) := by decide +kernel
theorem d_Mo_readPart_183 : decode b_Mo_readPart 183 = .ok (.imul, 1) := by decide +kernel
theorem d_Mo_readPart_184 : decode b_Mo_readPart 184 = .ok (.iconst (-1), 1) := by decide +kernel
theorem d_Mo_readPart_185 : decode b_Mo_readPart 185 = .ok (.iastore, 1) := by decide +kernel
theorem d_Mo_readPart_186 : decode b_Mo_readPart 186 = .ok (.aload_n 0, 1) := by decide +kernel
theorem d_Mo_readPart_187 : decode b_Mo_readPart 187 = .ok (.getfield 25, 3) := by decide +kernel
theorem d_Mo_readPart_190 : decode b_Mo_readPart 190 = .ok (.iconst 2, 1) := by decide +kernel
theorem d_Mo_readPart_191 : decode b_Mo_readPart 191 = .ok (.aload_n 0, 1) := by decide +kernel
theorem d_Mo_readPart_192 : decode b_Mo_readPart 192 = .ok (.getfield 81, 3) := by decide +kernel
theorem d_Mo_readPart_195 : decode b_Mo_readPart 195 = .ok (.imul, 1) := by decide +kernel
theorem d_Mo_readPart_196 : decode b_Mo_readPart 196 = .ok (.iconst 1, 1) := by decide +kernel
theorem d_Mo_readPart_197 : decode b_Mo_readPart 197 = .ok (.iadd, 1) := by decide +kernel
theorem d_Mo_readPart_198 : decode b_Mo_readPart 198 = .ok (.iconst (-1), 1) := by decide +kernel
theorem d_Mo_readPart_199 : decode b_Mo_readPart 199 = .ok (.iastore, 1) := by decide +kernel
theorem d_Mo_readPart_200 : decode b_Mo_readPart 200 = .ok (.iload_n 1, 1) := by decide +kernel
theorem d_Mo_readPart_201 : decode b_Mo_readPart 201 = .ok (.iconst 1, 1) := by decide +kernel
theorem d_Mo_readPart_202 : decode b_Mo_readPart 202 = .ok (.if_icmp .ne 26, 3) := by decide +kernel
theorem d_Mo_readPart_205 : decode b_Mo_readPart 205 = .ok (.aload_n 0, 1) := by decide +kernel
theorem d_Mo_readPart_206 : decode b_Mo_readPart 206 = .ok (.bipush 44, 2) := by decide +kernel
theorem d_Mo_readPart_208 : decode b_Mo_readPart 208 = .ok (.invokevirtual 92, 3) := by decide +kernel
theorem d_Mo_readPart_211 : decode b_Mo_readPart 211 = .ok (.aload_n 0, 1) := by decide +kernel
theorem d_Mo_readPart_212 : decode b_Mo_readPart 212 = .ok (.getfield 22, 3) := by decide +kernel
theorem d_Mo_readPart_215 : decode b_Mo_readPart 215 = .ok (.aload_n 0, 1) := by decide +kernel
theorem d_Mo_readPart_216 : decode b_Mo_readPart 216 = .ok (.getfield 81, 3) := by decide +kernel
theorem d_Mo_readPart_219 : decode b_Mo_readPart 219 = .ok (.aload_n 0, 1) := by decide +kernel
theorem d_Mo_readPart_220 : decode b_Mo_readPart 220 = .ok (.iconst 1, 1) := by decide +kernel
theorem d_Mo_readPart_221 : decode b_Mo_readPart 221 = .ok (.sipush 9999, 3) := by decide +kernel
theorem d_Mo_readPart_224 : decode b_Mo_readPart 224 = .ok (.invokevirtual 84, 3) := by decide +kernel
theorem d_Mo_readPart_227 : decode b_Mo_readPart 227 = .ok (.iastore, 1) := by decide +kernel
theorem d_Mo_readPart_228 : decode b_Mo_readPart 228 = .ok (.iload_n 1, 1) := by decide +kernel
theorem d_Mo_readPart_229 : decode b_Mo_readPart 229 = .ok (.iconst 4, 1) := by decide +kernel
theorem d_Mo_readPart_230 : decode b_Mo_readPart 230 = .ok (.if_icmp .ge 14, 3) := by decide +kernel
theorem d_Mo_readPart_233 : decode b_Mo_readPart 233 = .ok (.aload_n 0, 1) := by decide +kernel
theorem d_Mo_readPart_234 : decode b_Mo_readPart 234 = .ok (.bipush 62, 2) := by decide +kernel
theorem d_Mo_readPart_236 : decode b_Mo_readPart 236 = .ok (.invokevirtual 92, 3) := by decide +kernel
theorem d_Mo_readPart_239 : decode b_Mo_readPart 239 = .ok (.aload_n 0, 1) := by decide +kernel
theorem d_Mo_readPart_240 : decode b_Mo_readPart 240 = .ok (.iconst 0, 1) := by decide +kernel
theorem d_Mo_readPart_241 : decode b_Mo_readPart 241 = .ok (.invokevirtual 95, 3) := by decide +kernel
theorem d_Mo_readPart_244 : decode b_Mo_readPart 244 = .ok (.iload_n 1, 1) := by decide +kernel
theorem d_Mo_readPart_245 : decode b_Mo_readPart 245 = .ok (.iconst 3, 1) := by decide +kernel
theorem d_Mo_readPart_246 : decode b_Mo_readPart 246 = .ok (.if_icmp .ne 14, 3) := by decide +kernel
theorem d_Mo_readPart_249 : decode b_Mo_readPart 249 = .ok (.aload_n 0, 1) := by decide +kernel
theorem d_Mo_readPart_250 : decode b_Mo_readPart 250 = .ok (.bipush 44, 2) := by decide +kernel
theorem d_Mo_readPart_252 : decode b_Mo_readPart 252 = .ok (.invokevirtual 92, 3) := by decide +kernel
theorem d_Mo_readPart_255 : decode b_Mo_readPart 255 = .ok (.aload_n 0, 1) := by decide +kernel
theorem d_Mo_readPart_256 : decode b_Mo_readPart 256 = .ok (.iconst 1, 1) := by decide +kernel
theorem d_Mo_readPart_257 : decode b_Mo_readPart 257 = .ok (.invokevirtual 95, 3) := by decide +kernel
theorem d_Mo_readPart_260 : decode b_Mo_readPart 260 = .ok (.aload_n 0, 1) := by decide +kernel
theorem d_Mo_readPart_261 : decode b_Mo_readPart 261 = .ok (.bipush 59, 2) := by decide +kernel
theorem d_Mo_readPart_263 : decode b_Mo_readPart 263 = .ok (.invokevirtual 92, 3) := by decide +kernel
theorem d_Mo_readPart_266 : decode b_Mo_readPart 266 = .ok (.aload_n 0, 1) := by decide +kernel
theorem d_Mo_readPart_267 : decode b_Mo_readPart 267 = .ok (.dup, 1) := by decide +kernel
theorem d_Mo_readPart_268 : decode b_Mo_readPart 268 = .ok (.getfield 81, 3) := by decide +kernel
theorem d_Mo_readPart_271 : decode b_Mo_readPart 271 = .ok (.iconst 1, 1) := by decide +kernel
theorem d_Mo_readPart_272 : decode b_Mo_readPart 272 = .ok (.iadd, 1) := by decide +kernel
theorem d_Mo_readPart_273 : decode b_Mo_readPart 273 = .ok (.putfield 81, 3) := by decide +kernel
theorem d_Mo_readPart_276 : decode b_Mo_readPart 276 = .ok (.return_, 1) := by decide +kernel
theorem d_Mo_read_0 : decode b_Mo_read 0 = .ok (.aload_n 0, 1) := by decide +kernel
theorem d_Mo_read_1 : decode b_Mo_read 1 = .ok (.iconst 0, 1) := by decide +kernel
theorem d_Mo_read_2 : decode b_Mo_read 2 = .ok (.putfield 67, 3) := by decide +kernel
theorem d_Mo_read_5 : decode b_Mo_read 5 = .ok (.aload_n 0, 1) := by decide +kernel
theorem d_Mo_read_6 : decode b_Mo_read 6 = .ok (.iconst (-1), 1) := by decide +kernel
theorem d_Mo_read_7 : decode b_Mo_read 7 = .ok (.putfield 70, 3) := by decide +kernel
theorem d_Mo_read_10 : decode b_Mo_read 10 = .ok (.aload_n 0, 1) := by decide +kernel
theorem d_Mo_read_11 : decode b_Mo_read 11 = .ok (.iconst 0, 1) := by decide +kernel
theorem d_Mo_read_12 : decode b_Mo_read 12 = .ok (.putfield 81, 3) := by decide +kernel
theorem d_Mo_read_15 : decode b_Mo_read 15 = .ok (.iconst 1, 1) := by decide +kernel
theorem d_Mo_read_16 : decode b_Mo_read 16 = .ok (.istore_n 1, 1) := by decide +kernel
theorem d_Mo_read_17 : decode b_Mo_read 17 = .ok (.iload_n 1, 1) := by decide +kernel
theorem d_Mo_read_18 : decode b_Mo_read 18 = .ok (.ifCond .eq 35, 3) := by decide +kernel
theorem d_Mo_read_21 : decode b_Mo_read 21 = .ok (.aload_n 0, 1) := by decide +kernel
theorem d_Mo_read_22 : decode b_Mo_read 22 = .ok (.invokevirtual 98, 3) := by decide +kernel
theorem d_Mo_read_25 : decode b_Mo_read 25 = .ok (.aload_n 0, 1) := by decide +kernel
theorem d_Mo_read_26 : decode b_Mo_read 26 = .ok (.getfield 70, 3) := by decide +kernel
theorem d_Mo_read_29 : decode b_Mo_read 29 = .ok (.iconst (-1), 1) := by decide +kernel
theorem d_Mo_read_30 : decode b_Mo_read 30 = .ok (.if_icmp .ne 18, 3) := by decide +kernel
theorem d_Mo_read_33 : decode b_Mo_read 33 = .ok (.aload_n 0, 1) := by decide +kernel
theorem d_Mo_read_34 : decode b_Mo_read 34 = .ok (.getfield 67, 3) := by decide +kernel
theorem d_Mo_read_37 : decode b_Mo_read 37 = .ok (.aload_n 0, 1) := by decide +kernel
theorem d_Mo_read_38 : decode b_Mo_read 38 = .ok (.getfield 63, 3) := by decide +kernel
theorem d_Mo_read_41 : decode b_Mo_read 41 = .ok (.if_icmp .ge 7, 3) := by decide +kernel
theorem d_Mo_read_44 : decode b_Mo_read 44 = .ok (.iconst 1, 1) := by decide +kernel
theorem d_Mo_read_45 : decode b_Mo_read 45 = .ok (.goto 4, 3) := by decide +kernel
theorem d_Mo_read_48 : decode b_Mo_read 48 = .ok (.iconst 0, 1) := by decide +kernel
theorem d_Mo_read_49 : decode b_Mo_read 49 = .ok (.istore_n 1, 1) := by decide +kernel
theorem d_Mo_read_50 : decode b_Mo_read 50 = .ok (.goto (-33), 3) := by decide +kernel
theorem d_Mo_read_53 : decode b_Mo_read 53 = .ok (.aload_n 0, 1) := by decide +kernel
theorem d_Mo_read_54 : decode b_Mo_read 54 = .ok (.iconst 0, 1) := by decide +kernel
theorem d_Mo_read_55 : decode b_Mo_read 55 = .ok (.putfield 63, 3) := by decide +kernel
theorem d_Mo_read_58 : decode b_Mo_read 58 = .ok (.aload_n 0, 1) := by decide +kernel
theorem d_Mo_read_59 : decode b_Mo_read 59 = .ok (.getfield 70, 3) := by decide +kernel
theorem d_Mo_read_62 : decode b_Mo_read 62 = .ok (.iconst (-1), 1) := by decide +kernel
theorem d_Mo_read_63 : decode b_Mo_read 63 = .ok (.if_icmp .eq 10, 3) := by decide +kernel
theorem d_Mo_read_66 : decode b_Mo_read 66 = .ok (.iconst (-1), 1) := by decide +kernel
theorem d_Mo_read_67 : decode b_Mo_read 67 = .ok (.aload_n 0, 1) := by decide +kernel
theorem d_Mo_read_68 : decode b_Mo_read 68 = .ok (.getfield 70, 3) := by decide +kernel
theorem d_Mo_read_71 : decode b_Mo_read 71 = .ok (.isub, 1) := by decide +kernel
theorem d_Mo_read_72 : decode b_Mo_read 72 = .ok (.ireturn, 1) := by decide +kernel
theorem d_Mo_read_73 : decode b_Mo_read 73 = .ok (.aload_n 0, 1) := by decide +kernel
theorem d_Mo_read_74 : decode b_Mo_read 74 = .ok (.aload_n 0, 1) := by decide +kernel
theorem d_Mo_read_75 : decode b_Mo_read 75 = .ok (.getfield 81, 3) := by decide +kernel
theorem d_Mo_read_78 : decode b_Mo_read 78 = .ok (.putfield 101, 3) := by decide +kernel
theorem d_Mo_read_81 : decode b_Mo_read 81 = .ok (.iconst 0, 1) := by decide +kernel
theorem d_Mo_read_82 : decode b_Mo_read 82 = .ok (.istore_n 2, 1) := by decide +kernel
theorem d_Mo_read_83 : decode b_Mo_read 83 = .ok (.iload_n 2, 1) := by decide +kernel
theorem d_Mo_read_84 : decode b_Mo_read 84 = .ok (.aload_n 0, 1) := by decide +kernel
theorem d_Mo_read_85 : decode b_Mo_read 85 = .ok (.getfield 101, 3) := by decide +kernel
theorem d_Mo_read_88 : decode b_Mo_read 88 = .ok (.if_icmp .ge 93, 3) := by decide +kernel
theorem d_Mo_read_91 : decode b_Mo_read 91 = .ok (.aload_n 0, 1) := by decide +kernel
theorem d_Mo_read_92 : decode b_Mo_read 92 = .ok (.getfield 28, 3) := by decide +kernel
theorem d_Mo_read_95 : decode b_Mo_read 95 = .ok (.iload_n 2, 1) := by decide +kernel
theorem d_Mo_read_96 : decode b_Mo_read 96 = .ok (.aload_n 0, 1) := by decide +kernel
theorem d_Mo_read_97 : decode b_Mo_read 97 = .ok (.getfield 13, 3) := by decide +kernel
theorem d_Mo_read_100 : decode b_Mo_read 100 = .ok (.iload_n 2, 1) := by decide +kernel
theorem d_Mo_read_101 : decode b_Mo_read 101 = .ok (.iaload, 1) := by decide +kernel
theorem d_Mo_read_102 : decode b_Mo_read 102 = .ok (.iastore, 1) := by decide +kernel
theorem d_Mo_read_103 : decode b_Mo_read 103 = .ok (.aload_n 0, 1) := by decide +kernel
theorem d_Mo_read_104 : decode b_Mo_read 104 = .ok (.getfield 31, 3) := by decide +kernel
theorem d_Mo_read_107 : decode b_Mo_read 107 = .ok (.iload_n 2, 1) := by decide +kernel
theorem d_Mo_read_108 : decode b_Mo_read 108 = .ok (.aload_n 0, 1) := by decide +kernel
theorem d_Mo_read_109 : decode b_Mo_read 109 = .ok (.getfield 16, 3) := by decide +kernel
theorem d_Mo_read_112 : decode b_Mo_read 112 = .ok (.iload_n 2, 1) := by decide +kernel
theorem d_Mo_read_113 : decode b_Mo_read 113 = .ok (.iaload, 1) := by decide +kernel
theorem d_Mo_read_114 : decode b_Mo_read 114 = .ok (.iastore, 1) := by decide +kernel
theorem d_Mo_read_115 : decode b_Mo_read 115 = .ok (.aload_n 0, 1) := by decide +kernel
theorem d_Mo_read_116 : decode b_Mo_read 116 = .ok (.getfield 34, 3) := by decide +kernel
theorem d_Mo_read_119 : decode b_Mo_read 119 = .ok (.iload_n 2, 1) := by decide +kernel
theorem d_Mo_read_120 : decode b_Mo_read 120 = .ok (.aload_n 0, 1) := by decide +kernel
theorem d_Mo_read_121 : decode b_Mo_read 121 = .ok (.getfield 19, 3) := by decide +kernel
theorem d_Mo_read_124 : decode b_Mo_read 124 = .ok (.iload_n 2, 1) := by decide +kernel
theorem d_Mo_read_125 : decode b_Mo_read 125 = .ok (.iaload, 1) := by decide +kernel
theorem d_Mo_read_126 : decode b_Mo_read 126 = .ok (.iastore, 1) := by decide +kernel
theorem d_Mo_read_127 : decode b_Mo_read 127 = .ok (.aload_n 0, 1) := by decide +kernel
theorem d_Mo_read_128 : decode b_Mo_read 128 = .ok (.getfield 37, 3) := by decide +kernel
theorem d_Mo_read_131 : decode b_Mo_read 131 = .ok (.iload_n 2, 1) := by decide +kernel
theorem d_Mo_read_132 : decode b_Mo_read 132 = .ok (.aload_n 0, 1) := by decide +kernel
theorem d_Mo_read_133 : decode b_Mo_read 133 = .ok (.getfield 22, 3) := by decide +kernel
theorem d_Mo_read_136 : decode b_Mo_read 136 = .ok (.iload_n 2, 1) := by decide +kernel
theorem d_Mo_read_137 : decode b_Mo_read 137 = .ok (.iaload, 1) := by decide +kernel
theorem d_Mo_read_138 : decode b_Mo_read 138 = .ok (.iastore, 1) := by decide +kernel
theorem d_Mo_read_139 : decode b_Mo_read 139 = .ok (.aload_n 0, 1) := by decide +kernel
theorem d_Mo_read_140 : decode b_Mo_read 140 = .ok (.getfield 40, 3) := by decide +kernel
theorem d_Mo_read_143 : decode b_Mo_read 143 = .ok (.iconst 2, 1) := by decide +kernel
theorem d_Mo_read_144 : decode b_Mo_read 144 = .ok (.iload_n 2, 1) := by decide +kernel
theorem d_Mo_read_145 : decode b_Mo_read 145 = .ok (.imul, 1) := by decide +kernel
theorem d_Mo_read_146 : decode b_Mo_read 146 = .ok (.aload_n 0, 1) := by decide +kernel
theorem d_Mo_read_147 : decode b_Mo_read 147 = .ok (.getfield 25, 3) := by decide +kernel
theorem d_Mo_read_150 : decode b_Mo_read 150 = .ok (.iconst 2, 1) := by decide +kernel
theorem d_Mo_read_151 : decode b_Mo_read 151 = .ok (.iload_n 2, 1) := by decide +kernel
theorem d_Mo_read_152 : decode b_Mo_read 152 = .ok (.imul, 1) := by decide +kernel
theorem d_Mo_read_153 : decode b_Mo_read 153 = .ok (.iaload, 1) := by decide +kernel
theorem d_Mo_read_154 : decode b_Mo_read 154 = .ok (.iastore, 1) := by decide +kernel
theorem d_Mo_read_155 : decode b_Mo_read 155 = .ok (.aload_n 0, 1) := by decide +kernel
theorem d_Mo_read_156 : decode b_Mo_read 156 = .ok (.getfield 40, 3) := by decide +kernel
theorem d_Mo_read_159 : decode b_Mo_read 159 = .ok (.iconst 2, 1) := by decide +kernel
theorem d_Mo_read_160 : decode b_Mo_read 160 = .ok (.iload_n 2, 1) := by decide +kernel
theorem d_Mo_read_161 : decode b_Mo_read 161 = .ok (.imul, 1) := by decide +kernel
theorem d_Mo_read_162 : decode b_Mo_read 162 = .ok (.iconst 1, 1) := by decide +kernel
theorem d_Mo_read_163 : decode b_Mo_read 163 = .ok (.iadd, 1) := by decide +kernel
theorem d_Mo_read_164 : decode b_Mo_read 164 = .ok (.aload_n 0, 1) := by decide +kernel
theorem d_Mo_read_165 : decode b_Mo_read 165 = .ok (.getfield 25, 3) := by decide +kernel
theorem d_Mo_read_168 : decode b_Mo_read 168 = .ok (.iconst 2, 1) := by decide +kernel
theorem d_Mo_read_169 : decode b_Mo_read 169 = .ok (.iload_n 2, 1) := by decide +kernel
theorem d_Mo_read_170 : decode b_Mo_read 170 = .ok (.imul, 1) := by decide +kernel
theorem d_Mo_read_171 : decode b_Mo_read 171 = .ok (.iconst 1, 1) := by decide +kernel
theorem d_Mo_read_172 : decode b_Mo_read 172 = .ok (.iadd, 1) := by decide +kernel
theorem d_Mo_read_173 : decode b_Mo_read 173 = .ok (.iaload, 1) := by decide +kernel
theorem d_Mo_read_174 : decode b_Mo_read 174 = .ok (.iastore, 1) := by decide +kernel
theorem d_Mo_read_175 : decode b_Mo_read 175 = .ok (.iinc 2 1, 3) := by decide +kernel
theorem d_Mo_read_178 : decode b_Mo_read 178 = .ok (.goto (-95), 3) := by decide +kernel
theorem d_Mo_read_181 : decode b_Mo_read 181 = .ok (.aload_n 0, 1) := by decide +kernel
theorem d_Mo_read_182 : decode b_Mo_read 182 = .ok (.invokevirtual 104, 3) := by decide +kernel
theorem d_Mo_read_185 : decode b_Mo_read 185 = .ok (.aload_n 0, 1) := by decide +kernel
theorem d_Mo_read_186 : decode b_Mo_read 186 = .ok (.invokevirtual 107, 3) := by decide +kernel
theorem d_Mo_read_189 : decode b_Mo_read 189 = .ok (.aload_n 0, 1) := by decide +kernel
theorem d_Mo_read_190 : decode b_Mo_read 190 = .ok (.getfield 101, 3) := by decide +kernel
theorem d_Mo_read_193 : decode b_Mo_read 193 = .ok (.ireturn, 1) := by decide +kernel
theorem d_Mo_find_0 : decode b_Mo_find 0 = .ok (.iconst 0, 1) := by decide +kernel
theorem d_Mo_find_1 : decode b_Mo_find 1 = .ok (.istore_n 2, 1) := by decide +kernel
theorem d_Mo_find_2 : decode b_Mo_find 2 = .ok (.iload_n 2, 1) := by decide +kernel
theorem d_Mo_find_3 : decode b_Mo_find 3 = .ok (.aload_n 0, 1) := by decide +kernel
theorem d_Mo_find_4 : decode b_Mo_find 4 = .ok (.getfield 101, 3) := by decide +kernel
theorem d_Mo_find_7 : decode b_Mo_find 7 = .ok (.if_icmp .ge 21, 3) := by decide +kernel
theorem d_Mo_find_10 : decode b_Mo_find 10 = .ok (.aload_n 0, 1) := by decide +kernel
theorem d_Mo_find_11 : decode b_Mo_find 11 = .ok (.getfield 31, 3) := by decide +kernel
theorem d_Mo_find_14 : decode b_Mo_find 14 = .ok (.iload_n 2, 1) := by decide +kernel
theorem d_Mo_find_15 : decode b_Mo_find 15 = .ok (.iaload, 1) := by decide +kernel
theorem d_Mo_find_16 : decode b_Mo_find 16 = .ok (.iload_n 1, 1) := by decide +kernel
theorem d_Mo_find_17 : decode b_Mo_find 17 = .ok (.if_icmp .ne 5, 3) := by decide +kernel
theorem d_Mo_find_20 : decode b_Mo_find 20 = .ok (.iload_n 2, 1) := by decide +kernel
theorem d_Mo_find_21 : decode b_Mo_find 21 = .ok (.ireturn, 1) := by decide +kernel
theorem d_Mo_find_22 : decode b_Mo_find 22 = .ok (.iinc 2 1, 3) := by decide +kernel
theorem d_Mo_find_25 : decode b_Mo_find 25 = .ok (.goto (-23), 3) := by decide +kernel
theorem d_Mo_find_28 : decode b_Mo_find 28 = .ok (.iconst (-1), 1) := by decide +kernel
theorem d_Mo_find_29 : decode b_Mo_find 29 = .ok (.ireturn, 1) := by decide +kernel
theorem d_Mo_target_0 : decode b_Mo_target 0 = .ok (.aload_n 0, 1) := by decide +kernel
theorem d_Mo_target_1 : decode b_Mo_target 1 = .ok (.getfield 40, 3) := by decide +kernel
theorem d_Mo_target_4 : decode b_Mo_target 4 = .ok (.iconst 2, 1) := by decide +kernel
theorem d_Mo_target_5 : decode b_Mo_target 5 = .ok (.iload_n 1, 1) := by decide +kernel
theorem d_Mo_target_6 : decode b_Mo_target 6 = .ok (.imul, 1) := by decide +kernel
theorem d_Mo_target_7 : decode b_Mo_target 7 = .ok (.iload_n 2, 1) := by decide +kernel
theorem d_Mo_target_8 : decode b_Mo_target 8 = .ok (.iadd, 1) := by decide +kernel
theorem d_Mo_target_9 : decode b_Mo_target 9 = .ok (.iaload, 1) := by decide +kernel
theorem d_Mo_target_10 : decode b_Mo_target 10 = .ok (.iconst (-1), 1) := by decide +kernel
theorem d_Mo_target_11 : decode b_Mo_target 11 = .ok (.if_icmp .ne 7, 3) := by decide +kernel
theorem d_Mo_target_14 : decode b_Mo_target 14 = .ok (.iconst (-1), 1) := by decide +kernel
theorem d_Mo_target_15 : decode b_Mo_target 15 = .ok (.goto 17, 3) := by decide +kernel
theorem d_Mo_target_18 : decode b_Mo_target 18 = .ok (.aload_n 0, 1) := by decide +kernel
theorem d_Mo_target_19 : decode b_Mo_target 19 = .ok (.aload_n 0, 1) := by decide +kernel
theorem d_Mo_target_20 : decode b_Mo_target 20 = .ok (.getfield 40, 3) := by decide +kernel
theorem d_Mo_target_23 : decode b_Mo_target 23 = .ok (.iconst 2, 1) := by decide +kernel
theorem d_Mo_target_24 : decode b_Mo_target 24 = .ok (.iload_n 1, 1) := by decide +kernel
theorem d_Mo_target_25 : decode b_Mo_target 25 = .ok (.imul, 1) := by decide +kernel
theorem d_Mo_target_26 : decode b_Mo_target 26 = .ok (.iload_n 2, 1) := by decide +kernel
theorem d_Mo_target_27 : decode b_Mo_target 27 = .ok (.iadd, 1) := by decide +kernel
theorem d_Mo_target_28 : decode b_Mo_target 28 = .ok (.iaload, 1) := by decide +kernel
theorem d_Mo_target_29 : decode b_Mo_target 29 = .ok (.invokevirtual 110, 3) := by decide +kernel
theorem d_Mo_target_32 : decode b_Mo_target 32 = .ok (.ireturn, 1) := by decide +kernel
theorem d_Mo_lay_0 : decode b_Mo_lay 0 = .ok (.iconst 0, 1) := by decide +kernel
theorem d_Mo_lay_1 : decode b_Mo_lay 1 = .ok (.istore_n 1, 1) := by decide +kernel
theorem d_Mo_lay_2 : decode b_Mo_lay 2 = .ok (.iload_n 1, 1) := by decide +kernel
theorem d_Mo_lay_3 : decode b_Mo_lay 3 = .ok (.sipush 576, 3) := by decide +kernel
theorem d_Mo_lay_6 : decode b_Mo_lay 6 = .ok (.if_icmp .ge 16, 3) := by decide +kernel
theorem d_Mo_lay_9 : decode b_Mo_lay 9 = .ok (.aload_n 0, 1) := by decide +kernel
theorem d_Mo_lay_10 : decode b_Mo_lay 10 = .ok (.getfield 43, 3) := by decide +kernel
theorem d_Mo_lay_13 : decode b_Mo_lay 13 = .ok (.iload_n 1, 1) := by decide +kernel
theorem d_Mo_lay_14 : decode b_Mo_lay 14 = .ok (.iconst 0, 1) := by decide +kernel
theorem d_Mo_lay_15 : decode b_Mo_lay 15 = .ok (.bastore, 1) := by decide +kernel
theorem d_Mo_lay_16 : decode b_Mo_lay 16 = .ok (.iinc 1 1, 3) := by decide +kernel
theorem d_Mo_lay_19 : decode b_Mo_lay 19 = .ok (.goto (-17), 3) := by decide +kernel
theorem d_Mo_lay_22 : decode b_Mo_lay 22 = .ok (.iconst 0, 1) := by decide +kernel
theorem d_Mo_lay_23 : decode b_Mo_lay 23 = .ok (.istore_n 1, 1) := by decide +kernel
theorem d_Mo_lay_24 : decode b_Mo_lay 24 = .ok (.iload_n 1, 1) := by decide +kernel
theorem d_Mo_lay_25 : decode b_Mo_lay 25 = .ok (.aload_n 0, 1) := by decide +kernel
theorem d_Mo_lay_26 : decode b_Mo_lay 26 = .ok (.getfield 101, 3) := by decide +kernel
theorem d_Mo_lay_29 : decode b_Mo_lay 29 = .ok (.if_icmp .ge 49, 3) := by decide +kernel
theorem d_Mo_lay_32 : decode b_Mo_lay 32 = .ok (.iconst 0, 1) := by decide +kernel
theorem d_Mo_lay_33 : decode b_Mo_lay 33 = .ok (.istore_n 2, 1) := by decide +kernel
theorem d_Mo_lay_34 : decode b_Mo_lay 34 = .ok (.iload_n 2, 1) := by decide +kernel
theorem d_Mo_lay_35 : decode b_Mo_lay 35 = .ok (.iconst 2, 1) := by decide +kernel
theorem d_Mo_lay_36 : decode b_Mo_lay 36 = .ok (.if_icmp .ge 36, 3) := by decide +kernel
theorem d_Mo_lay_39 : decode b_Mo_lay 39 = .ok (.aload_n 0, 1) := by decide +kernel
theorem d_Mo_lay_40 : decode b_Mo_lay 40 = .ok (.iload_n 1, 1) := by decide +kernel
theorem d_Mo_lay_41 : decode b_Mo_lay 41 = .ok (.iload_n 2, 1) := by decide +kernel
theorem d_Mo_lay_42 : decode b_Mo_lay 42 = .ok (.invokevirtual 113, 3) := by decide +kernel
theorem d_Mo_lay_45 : decode b_Mo_lay 45 = .ok (.iconst (-1), 1) := by decide +kernel
theorem d_Mo_lay_46 : decode b_Mo_lay 46 = .ok (.if_icmp .eq 20, 3) := by decide +kernel
theorem d_Mo_lay_49 : decode b_Mo_lay 49 = .ok (.aload_n 0, 1) := by decide +kernel
theorem d_Mo_lay_50 : decode b_Mo_lay 50 = .ok (.getfield 43, 3) := by decide +kernel
theorem d_Mo_lay_53 : decode b_Mo_lay 53 = .ok (.bipush 24, 2) := by decide +kernel
theorem d_Mo_lay_55 : decode b_Mo_lay 55 = .ok (.iload_n 1, 1) := by decide +kernel
theorem d_Mo_lay_56 : decode b_Mo_lay 56 = .ok (.imul, 1) := by decide +kernel
theorem d_Mo_lay_57 : decode b_Mo_lay 57 = .ok (.aload_n 0, 1) := by decide +kernel
theorem d_Mo_lay_58 : decode b_Mo_lay 58 = .ok (.iload_n 1, 1) := by decide +kernel
theorem d_Mo_lay_59 : decode b_Mo_lay 59 = .ok (.iload_n 2, 1) := by decide +kernel
theorem d_Mo_lay_60 : decode b_Mo_lay 60 = .ok (.invokevirtual 113, 3) := by decide +kernel
theorem d_Mo_lay_63 : decode b_Mo_lay 63 = .ok (.iadd, 1) := by decide +kernel
theorem d_Mo_lay_64 : decode b_Mo_lay 64 = .ok (.iconst 1, 1) := by decide +kernel
theorem d_Mo_lay_65 : decode b_Mo_lay 65 = .ok (.bastore, 1) := by decide +kernel
theorem d_Mo_lay_66 : decode b_Mo_lay 66 = .ok (.iinc 2 1, 3) := by decide +kernel
theorem d_Mo_lay_69 : decode b_Mo_lay 69 = .ok (.goto (-35), 3) := by decide +kernel
theorem d_Mo_lay_72 : decode b_Mo_lay 72 = .ok (.iinc 1 1, 3) := by decide +kernel
theorem d_Mo_lay_75 : decode b_Mo_lay 75 = .ok (.goto (-51), 3) := by decide +kernel
theorem d_Mo_lay_78 : decode b_Mo_lay 78 = .ok (.iconst 0, 1) := by decide +kernel
theorem d_Mo_lay_79 : decode b_Mo_lay 79 = .ok (.istore_n 1, 1) := by decide +kernel
theorem d_Mo_lay_80 : decode b_Mo_lay 80 = .ok (.iload_n 1, 1) := by decide +kernel
theorem d_Mo_lay_81 : decode b_Mo_lay 81 = .ok (.aload_n 0, 1) := by decide +kernel
theorem d_Mo_lay_82 : decode b_Mo_lay 82 = .ok (.getfield 101, 3) := by decide +kernel
theorem d_Mo_lay_85 : decode b_Mo_lay 85 = .ok (.if_icmp .ge 99, 3) := by decide +kernel
theorem d_Mo_lay_88 : decode b_Mo_lay 88 = .ok (.iconst 0, 1) := by decide +kernel
theorem d_Mo_lay_89 : decode b_Mo_lay 89 = .ok (.istore_n 2, 1) := by decide +kernel
theorem d_Mo_lay_90 : decode b_Mo_lay 90 = .ok (.iload_n 2, 1) := by decide +kernel
theorem d_Mo_lay_91 : decode b_Mo_lay 91 = .ok (.aload_n 0, 1) := by decide +kernel
theorem d_Mo_lay_92 : decode b_Mo_lay 92 = .ok (.getfield 101, 3) := by decide +kernel
theorem d_Mo_lay_95 : decode b_Mo_lay 95 = .ok (.if_icmp .ge 83, 3) := by decide +kernel
theorem d_Mo_lay_98 : decode b_Mo_lay 98 = .ok (.iconst 0, 1) := by decide +kernel
theorem d_Mo_lay_99 : decode b_Mo_lay 99 = .ok (.istore_n 3, 1) := by decide +kernel
theorem d_Mo_lay_100 : decode b_Mo_lay 100 = .ok (.iload_n 3, 1) := by decide +kernel
theorem d_Mo_lay_101 : decode b_Mo_lay 101 = .ok (.aload_n 0, 1) := by decide +kernel
theorem d_Mo_lay_102 : decode b_Mo_lay 102 = .ok (.getfield 101, 3) := by decide +kernel
theorem d_Mo_lay_105 : decode b_Mo_lay 105 = .ok (.if_icmp .ge 67, 3) := by decide +kernel
theorem d_Mo_lay_108 : decode b_Mo_lay 108 = .ok (.aload_n 0, 1) := by decide +kernel
theorem d_Mo_lay_109 : decode b_Mo_lay 109 = .ok (.getfield 43, 3) := by decide +kernel
theorem d_Mo_lay_112 : decode b_Mo_lay 112 = .ok (.bipush 24, 2) := by decide +kernel
theorem d_Mo_lay_114 : decode b_Mo_lay 114 = .ok (.iload_n 2, 1) := by decide +kernel
theorem d_Mo_lay_115 : decode b_Mo_lay 115 = .ok (.imul, 1) := by decide +kernel
theorem d_Mo_lay_116 : decode b_Mo_lay 116 = .ok (.iload_n 3, 1) := by decide +kernel
theorem d_Mo_lay_117 : decode b_Mo_lay 117 = .ok (.iadd, 1) := by decide +kernel
theorem d_Mo_lay_118 : decode b_Mo_lay 118 = .ok (.aload_n 0, 1) := by decide +kernel
theorem d_Mo_lay_119 : decode b_Mo_lay 119 = .ok (.getfield 43, 3) := by decide +kernel
theorem d_Mo_lay_122 : decode b_Mo_lay 122 = .ok (.bipush 24, 2) := by decide +kernel
theorem d_Mo_lay_124 : decode b_Mo_lay 124 = .ok (.iload_n 2, 1) := by decide +kernel
theorem d_Mo_lay_125 : decode b_Mo_lay 125 = .ok (.imul, 1) := by decide +kernel
theorem d_Mo_lay_126 : decode b_Mo_lay 126 = .ok (.iload_n 3, 1) := by decide +kernel
theorem d_Mo_lay_127 : decode b_Mo_lay 127 = .ok (.iadd, 1) := by decide +kernel
theorem d_Mo_lay_128 : decode b_Mo_lay 128 = .ok (.baload, 1) := by decide +kernel
theorem d_Mo_lay_129 : decode b_Mo_lay 129 = .ok (.ifCond .ne 31, 3) := by decide +kernel
theorem d_Mo_lay_132 : decode b_Mo_lay 132 = .ok (.aload_n 0, 1) := by decide +kernel
theorem d_Mo_lay_133 : decode b_Mo_lay 133 = .ok (.getfield 43, 3) := by decide +kernel
theorem d_Mo_lay_136 : decode b_Mo_lay 136 = .ok (.bipush 24, 2) := by decide +kernel
theorem d_Mo_lay_138 : decode b_Mo_lay 138 = .ok (.iload_n 2, 1) := by decide +kernel
theorem d_Mo_lay_139 : decode b_Mo_lay 139 = .ok (.imul, 1) := by decide +kernel
theorem d_Mo_lay_140 : decode b_Mo_lay 140 = .ok (.iload_n 1, 1) := by decide +kernel
theorem d_Mo_lay_141 : decode b_Mo_lay 141 = .ok (.iadd, 1) := by decide +kernel
theorem d_Mo_lay_142 : decode b_Mo_lay 142 = .ok (.baload, 1) := by decide +kernel
theorem d_Mo_lay_143 : decode b_Mo_lay 143 = .ok (.ifCond .eq 21, 3) := by decide +kernel
theorem d_Mo_lay_146 : decode b_Mo_lay 146 = .ok (.aload_n 0, 1) := by decide +kernel
theorem d_Mo_lay_147 : decode b_Mo_lay 147 = .ok (.getfield 43, 3) := by decide +kernel
theorem d_Mo_lay_150 : decode b_Mo_lay 150 = .ok (.bipush 24, 2) := by decide +kernel
theorem d_Mo_lay_152 : decode b_Mo_lay 152 = .ok (.iload_n 1, 1) := by decide +kernel
theorem d_Mo_lay_153 : decode b_Mo_lay 153 = .ok (.imul, 1) := by decide +kernel
theorem d_Mo_lay_154 : decode b_Mo_lay 154 = .ok (.iload_n 3, 1) := by decide +kernel
theorem d_Mo_lay_155 : decode b_Mo_lay 155 = .ok (.iadd, 1) := by decide +kernel
theorem d_Mo_lay_156 : decode b_Mo_lay 156 = .ok (.baload, 1) := by decide +kernel
theorem d_Mo_lay_157 : decode b_Mo_lay 157 = .ok (.ifCond .eq 7, 3) := by decide +kernel
theorem d_Mo_lay_160 : decode b_Mo_lay 160 = .ok (.iconst 1, 1) := by decide +kernel
theorem d_Mo_lay_161 : decode b_Mo_lay 161 = .ok (.goto 4, 3) := by decide +kernel
theorem d_Mo_lay_164 : decode b_Mo_lay 164 = .ok (.iconst 0, 1) := by decide +kernel
theorem d_Mo_lay_165 : decode b_Mo_lay 165 = .ok (.bastore, 1) := by decide +kernel
theorem d_Mo_lay_166 : decode b_Mo_lay 166 = .ok (.iinc 3 1, 3) := by decide +kernel
theorem d_Mo_lay_169 : decode b_Mo_lay 169 = .ok (.goto (-69), 3) := by decide +kernel
theorem d_Mo_lay_172 : decode b_Mo_lay 172 = .ok (.iinc 2 1, 3) := by decide +kernel
theorem d_Mo_lay_175 : decode b_Mo_lay 175 = .ok (.goto (-85), 3) := by decide +kernel
theorem d_Mo_lay_178 : decode b_Mo_lay 178 = .ok (.iinc 1 1, 3) := by decide +kernel
theorem d_Mo_lay_181 : decode b_Mo_lay 181 = .ok (.goto (-101), 3) := by decide +kernel
theorem d_Mo_lay_184 : decode b_Mo_lay 184 = .ok (.return_, 1) := by decide +kernel
theorem d_Mo_gapOf_0 : decode b_Mo_gapOf 0 = .ok (.iconst (-1), 1) := by decide +kernel
theorem d_Mo_gapOf_1 : decode b_Mo_gapOf 1 = .ok (.istore_n 2, 1) := by decide +kernel
theorem d_Mo_gapOf_2 : decode b_Mo_gapOf 2 = .ok (.iconst 0, 1) := by decide +kernel
theorem d_Mo_gapOf_3 : decode b_Mo_gapOf 3 = .ok (.istore_n 3, 1) := by decide +kernel
theorem d_Mo_gapOf_4 : decode b_Mo_gapOf 4 = .ok (.iload_n 3, 1) := by decide +kernel
theorem d_Mo_gapOf_5 : decode b_Mo_gapOf 5 = .ok (.aload_n 0, 1) := by decide +kernel
theorem d_Mo_gapOf_6 : decode b_Mo_gapOf 6 = .ok (.getfield 101, 3) := by decide +kernel
theorem d_Mo_gapOf_9 : decode b_Mo_gapOf 9 = .ok (.if_icmp .ge 54, 3) := by decide +kernel
theorem d_Mo_gapOf_12 : decode b_Mo_gapOf 12 = .ok (.aload_n 0, 1) := by decide +kernel
theorem d_Mo_gapOf_13 : decode b_Mo_gapOf 13 = .ok (.getfield 28, 3) := by decide +kernel
theorem d_Mo_gapOf_16 : decode b_Mo_gapOf 16 = .ok (.iload_n 3, 1) := by decide +kernel
theorem d_Mo_gapOf_17 : decode b_Mo_gapOf 17 = .ok (.iaload, 1) := by decide +kernel
theorem d_Mo_gapOf_18 : decode b_Mo_gapOf 18 = .ok (.ifCond .ne 39, 3) := by decide +kernel
theorem d_Mo_gapOf_21 : decode b_Mo_gapOf 21 = .ok (.aload_n 0, 1) := by decide +kernel
theorem d_Mo_gapOf_22 : decode b_Mo_gapOf 22 = .ok (.getfield 43, 3) := by decide +kernel
theorem d_Mo_gapOf_25 : decode b_Mo_gapOf 25 = .ok (.bipush 24, 2) := by decide +kernel
theorem d_Mo_gapOf_27 : decode b_Mo_gapOf 27 = .ok (.iload_n 3, 1) := by decide +kernel
theorem d_Mo_gapOf_28 : decode b_Mo_gapOf 28 = .ok (.imul, 1) := by decide +kernel
theorem d_Mo_gapOf_29 : decode b_Mo_gapOf 29 = .ok (.iload_n 1, 1) := by decide +kernel
theorem d_Mo_gapOf_30 : decode b_Mo_gapOf 30 = .ok (.iadd, 1) := by decide +kernel
theorem d_Mo_gapOf_31 : decode b_Mo_gapOf 31 = .ok (.baload, 1) := by decide +kernel
theorem d_Mo_gapOf_32 : decode b_Mo_gapOf 32 = .ok (.ifCond .eq 25, 3) := by decide +kernel
theorem d_Mo_gapOf_35 : decode b_Mo_gapOf 35 = .ok (.iload_n 2, 1) := by decide +kernel
theorem d_Mo_gapOf_36 : decode b_Mo_gapOf 36 = .ok (.iconst (-1), 1) := by decide +kernel
theorem d_Mo_gapOf_37 : decode b_Mo_gapOf 37 = .ok (.if_icmp .eq 13, 3) := by decide +kernel
theorem d_Mo_gapOf_40 : decode b_Mo_gapOf 40 = .ok (.aload_n 0, 1) := by decide +kernel
theorem d_Mo_gapOf_41 : decode b_Mo_gapOf 41 = .ok (.getfield 34, 3) := by decide +kernel
theorem d_Mo_gapOf_44 : decode b_Mo_gapOf 44 = .ok (.iload_n 3, 1) := by decide +kernel
theorem d_Mo_gapOf_45 : decode b_Mo_gapOf 45 = .ok (.iaload, 1) := by decide +kernel
theorem d_Mo_gapOf_46 : decode b_Mo_gapOf 46 = .ok (.iload_n 2, 1) := by decide +kernel
theorem d_Mo_gapOf_47 : decode b_Mo_gapOf 47 = .ok (.if_icmp .ge 10, 3) := by decide +kernel
theorem d_Mo_gapOf_50 : decode b_Mo_gapOf 50 = .ok (.aload_n 0, 1) := by decide +kernel
theorem d_Mo_gapOf_51 : decode b_Mo_gapOf 51 = .ok (.getfield 34, 3) := by decide +kernel
theorem d_Mo_gapOf_54 : decode b_Mo_gapOf 54 = .ok (.iload_n 3, 1) := by decide +kernel
theorem d_Mo_gapOf_55 : decode b_Mo_gapOf 55 = .ok (.iaload, 1) := by decide +kernel
theorem d_Mo_gapOf_56 : decode b_Mo_gapOf 56 = .ok (.istore_n 2, 1) := by decide +kernel
theorem d_Mo_gapOf_57 : decode b_Mo_gapOf 57 = .ok (.iinc 3 1, 3) := by decide +kernel
theorem d_Mo_gapOf_60 : decode b_Mo_gapOf 60 = .ok (.goto (-56), 3) := by decide +kernel
theorem d_Mo_gapOf_63 : decode b_Mo_gapOf 63 = .ok (.iload_n 2, 1) := by decide +kernel
theorem d_Mo_gapOf_64 : decode b_Mo_gapOf 64 = .ok (.ireturn, 1) := by decide +kernel
theorem d_Mo_isWrong_0 : decode b_Mo_isWrong 0 = .ok (.iload_n 1, 1) := by decide +kernel
theorem d_Mo_isWrong_1 : decode b_Mo_isWrong 1 = .ok (.tableswitch 231 1 5 #[35, 65, 104, 194, 206], 35) := by decide +kernel
theorem d_Mo_isWrong_36 : decode b_Mo_isWrong 36 = .ok (.aload_n 0, 1) := by decide +kernel
theorem d_Mo_isWrong_37 : decode b_Mo_isWrong 37 = .ok (.getfield 40, 3) := by decide +kernel
theorem d_Mo_isWrong_40 : decode b_Mo_isWrong 40 = .ok (.iconst 2, 1) := by decide +kernel
theorem d_Mo_isWrong_41 : decode b_Mo_isWrong 41 = .ok (.iload_n 2, 1) := by decide +kernel
theorem d_Mo_isWrong_42 : decode b_Mo_isWrong 42 = .ok (.imul, 1) := by decide +kernel
theorem d_Mo_isWrong_43 : decode b_Mo_isWrong 43 = .ok (.iload_n 3, 1) := by decide +kernel
theorem d_Mo_isWrong_44 : decode b_Mo_isWrong 44 = .ok (.iadd, 1) := by decide +kernel
theorem d_Mo_isWrong_45 : decode b_Mo_isWrong 45 = .ok (.iaload, 1) := by decide +kernel
theorem d_Mo_isWrong_46 : decode b_Mo_isWrong 46 = .ok (.iconst (-1), 1) := by decide +kernel
theorem d_Mo_isWrong_47 : decode b_Mo_isWrong 47 = .ok (.if_icmp .eq 17, 3) := by decide +kernel
theorem d_Mo_isWrong_50 : decode b_Mo_isWrong 50 = .ok (.aload_n 0, 1) := by decide +kernel
theorem d_Mo_isWrong_51 : decode b_Mo_isWrong 51 = .ok (.iload_n 2, 1) := by decide +kernel
theorem d_Mo_isWrong_52 : decode b_Mo_isWrong 52 = .ok (.iload_n 3, 1) := by decide +kernel
theorem d_Mo_isWrong_53 : decode b_Mo_isWrong 53 = .ok (.invokevirtual 113, 3) := by decide +kernel
theorem d_Mo_isWrong_56 : decode b_Mo_isWrong 56 = .ok (.iconst (-1), 1) := by decide +kernel
theorem d_Mo_isWrong_57 : decode b_Mo_isWrong 57 = .ok (.if_icmp .ne 7, 3) := by decide +kernel
theorem d_Mo_isWrong_60 : decode b_Mo_isWrong 60 = .ok (.iconst 1, 1) := by decide +kernel
theorem d_Mo_isWrong_61 : decode b_Mo_isWrong 61 = .ok (.goto 4, 3) := by decide +kernel
theorem d_Mo_isWrong_64 : decode b_Mo_isWrong 64 = .ok (.iconst 0, 1) := by decide +kernel
theorem d_Mo_isWrong_65 : decode b_Mo_isWrong 65 = .ok (.ireturn, 1) := by decide +kernel
theorem d_Mo_isWrong_66 : decode b_Mo_isWrong 66 = .ok (.aload_n 0, 1) := by decide +kernel
theorem d_Mo_isWrong_67 : decode b_Mo_isWrong 67 = .ok (.getfield 28, 3) := by decide +kernel
theorem d_Mo_isWrong_70 : decode b_Mo_isWrong 70 = .ok (.iload_n 2, 1) := by decide +kernel
theorem d_Mo_isWrong_71 : decode b_Mo_isWrong 71 = .ok (.iaload, 1) := by decide +kernel
theorem d_Mo_isWrong_72 : decode b_Mo_isWrong 72 = .ok (.iconst 3, 1) := by decide +kernel
theorem d_Mo_isWrong_73 : decode b_Mo_isWrong 73 = .ok (.if_icmp .ne 30, 3) := by decide +kernel
theorem d_Mo_isWrong_76 : decode b_Mo_isWrong 76 = .ok (.aload_n 0, 1) := by decide +kernel
theorem d_Mo_isWrong_77 : decode b_Mo_isWrong 77 = .ok (.iload_n 2, 1) := by decide +kernel
theorem d_Mo_isWrong_78 : decode b_Mo_isWrong 78 = .ok (.invokevirtual 116, 3) := by decide +kernel
theorem d_Mo_isWrong_81 : decode b_Mo_isWrong 81 = .ok (.iconst (-1), 1) := by decide +kernel
theorem d_Mo_isWrong_82 : decode b_Mo_isWrong 82 = .ok (.if_icmp .eq 21, 3) := by decide +kernel
theorem d_Mo_isWrong_85 : decode b_Mo_isWrong 85 = .ok (.aload_n 0, 1) := by decide +kernel
theorem d_Mo_isWrong_86 : decode b_Mo_isWrong 86 = .ok (.getfield 34, 3) := by decide +kernel
theorem d_Mo_isWrong_89 : decode b_Mo_isWrong 89 = .ok (.iload_n 2, 1) := by decide +kernel
theorem d_Mo_isWrong_90 : decode b_Mo_isWrong 90 = .ok (.iaload, 1) := by decide +kernel
theorem d_Mo_isWrong_91 : decode b_Mo_isWrong 91 = .ok (.aload_n 0, 1) := by decide +kernel
theorem d_Mo_isWrong_92 : decode b_Mo_isWrong 92 = .ok (.iload_n 2, 1) := by decide +kernel
theorem d_Mo_isWrong_93 : decode b_Mo_isWrong 93 = .ok (.invokevirtual 116, 3) := by decide +kernel
theorem d_Mo_isWrong_96 : decode b_Mo_isWrong 96 = .ok (.if_icmp .le 7, 3) := by decide +kernel
theorem d_Mo_isWrong_99 : decode b_Mo_isWrong 99 = .ok (.iconst 1, 1) := by decide +kernel
theorem d_Mo_isWrong_100 : decode b_Mo_isWrong 100 = .ok (.goto 4, 3) := by decide +kernel
theorem d_Mo_isWrong_103 : decode b_Mo_isWrong 103 = .ok (.iconst 0, 1) := by decide +kernel
theorem d_Mo_isWrong_104 : decode b_Mo_isWrong 104 = .ok (.ireturn, 1) := by decide +kernel
theorem d_Mo_isWrong_105 : decode b_Mo_isWrong 105 = .ok (.aload_n 0, 1) := by decide +kernel
theorem d_Mo_isWrong_106 : decode b_Mo_isWrong 106 = .ok (.iload_n 2, 1) := by decide +kernel
theorem d_Mo_isWrong_107 : decode b_Mo_isWrong 107 = .ok (.iconst 0, 1) := by decide +kernel
theorem d_Mo_isWrong_108 : decode b_Mo_isWrong 108 = .ok (.invokevirtual 113, 3) := by decide +kernel
theorem d_Mo_isWrong_111 : decode b_Mo_isWrong 111 = .ok (.iconst (-1), 1) := by decide +kernel
theorem d_Mo_isWrong_112 : decode b_Mo_isWrong 112 = .ok (.if_icmp .eq 22, 3) := by decide +kernel
theorem d_Mo_isWrong_115 : decode b_Mo_isWrong 115 = .ok (.aload_n 0, 1) := by decide +kernel
theorem d_Mo_isWrong_116 : decode b_Mo_isWrong 116 = .ok (.getfield 28, 3) := by decide +kernel
theorem d_Mo_isWrong_119 : decode b_Mo_isWrong 119 = .ok (.aload_n 0, 1) := by decide +kernel
theorem d_Mo_isWrong_120 : decode b_Mo_isWrong 120 = .ok (.iload_n 2, 1) := by decide +kernel
theorem d_Mo_isWrong_121 : decode b_Mo_isWrong 121 = .ok (.iconst 0, 1) := by decide +kernel
theorem d_Mo_isWrong_122 : decode b_Mo_isWrong 122 = .ok (.invokevirtual 113, 3) := by decide +kernel
theorem d_Mo_isWrong_125 : decode b_Mo_isWrong 125 = .ok (.iaload, 1) := by decide +kernel
theorem d_Mo_isWrong_126 : decode b_Mo_isWrong 126 = .ok (.iconst 3, 1) := by decide +kernel
theorem d_Mo_isWrong_127 : decode b_Mo_isWrong 127 = .ok (.if_icmp .ne 7, 3) := by decide +kernel
theorem d_Mo_isWrong_130 : decode b_Mo_isWrong 130 = .ok (.iconst 1, 1) := by decide +kernel
theorem d_Mo_isWrong_131 : decode b_Mo_isWrong 131 = .ok (.goto 4, 3) := by decide +kernel
theorem d_Mo_isWrong_134 : decode b_Mo_isWrong 134 = .ok (.iconst 0, 1) := by decide +kernel
theorem d_Mo_isWrong_135 : decode b_Mo_isWrong 135 = .ok (.istore 4, 2) := by decide +kernel
theorem d_Mo_isWrong_137 : decode b_Mo_isWrong 137 = .ok (.aload_n 0, 1) := by decide +kernel
theorem d_Mo_isWrong_138 : decode b_Mo_isWrong 138 = .ok (.iload_n 2, 1) := by decide +kernel
theorem d_Mo_isWrong_139 : decode b_Mo_isWrong 139 = .ok (.iconst 1, 1) := by decide +kernel
theorem d_Mo_isWrong_140 : decode b_Mo_isWrong 140 = .ok (.invokevirtual 113, 3) := by decide +kernel
theorem d_Mo_isWrong_143 : decode b_Mo_isWrong 143 = .ok (.iconst (-1), 1) := by decide +kernel
theorem d_Mo_isWrong_144 : decode b_Mo_isWrong 144 = .ok (.if_icmp .eq 22, 3) := by decide +kernel
theorem d_Mo_isWrong_147 : decode b_Mo_isWrong 147 = .ok (.aload_n 0, 1) := by decide +kernel
theorem d_Mo_isWrong_148 : decode b_Mo_isWrong 148 = .ok (.getfield 28, 3) := by decide +kernel
theorem d_Mo_isWrong_151 : decode b_Mo_isWrong 151 = .ok (.aload_n 0, 1) := by decide +kernel
theorem d_Mo_isWrong_152 : decode b_Mo_isWrong 152 = .ok (.iload_n 2, 1) := by decide +kernel
theorem d_Mo_isWrong_153 : decode b_Mo_isWrong 153 = .ok (.iconst 1, 1) := by decide +kernel
theorem d_Mo_isWrong_154 : decode b_Mo_isWrong 154 = .ok (.invokevirtual 113, 3) := by decide +kernel
theorem d_Mo_isWrong_157 : decode b_Mo_isWrong 157 = .ok (.iaload, 1) := by decide +kernel
theorem d_Mo_isWrong_158 : decode b_Mo_isWrong 158 = .ok (.iconst 3, 1) := by decide +kernel
theorem d_Mo_isWrong_159 : decode b_Mo_isWrong 159 = .ok (.if_icmp .ne 7, 3) := by decide +kernel
theorem d_Mo_isWrong_162 : decode b_Mo_isWrong 162 = .ok (.iconst 1, 1) := by decide +kernel
theorem d_Mo_isWrong_163 : decode b_Mo_isWrong 163 = .ok (.goto 4, 3) := by decide +kernel
theorem d_Mo_isWrong_166 : decode b_Mo_isWrong 166 = .ok (.iconst 0, 1) := by decide +kernel
theorem d_Mo_isWrong_167 : decode b_Mo_isWrong 167 = .ok (.istore 5, 2) := by decide +kernel
theorem d_Mo_isWrong_169 : decode b_Mo_isWrong 169 = .ok (.aload_n 0, 1) := by decide +kernel
theorem d_Mo_isWrong_170 : decode b_Mo_isWrong 170 = .ok (.getfield 28, 3) := by decide +kernel
theorem d_Mo_isWrong_173 : decode b_Mo_isWrong 173 = .ok (.iload_n 2, 1) := by decide +kernel
theorem d_Mo_isWrong_174 : decode b_Mo_isWrong 174 = .ok (.iaload, 1) := by decide +kernel
theorem d_Mo_isWrong_175 : decode b_Mo_isWrong 175 = .ok (.iconst 3, 1) := by decide +kernel
theorem d_Mo_isWrong_176 : decode b_Mo_isWrong 176 = .ok (.if_icmp .ne 17, 3) := by decide +kernel
theorem d_Mo_isWrong_179 : decode b_Mo_isWrong 179 = .ok (.iload 4, 2) := by decide +kernel
theorem d_Mo_isWrong_181 : decode b_Mo_isWrong 181 = .ok (.ifCond .ne 8, 3) := by decide +kernel
theorem d_Mo_isWrong_184 : decode b_Mo_isWrong 184 = .ok (.iload 5, 2) := by decide +kernel
theorem d_Mo_isWrong_186 : decode b_Mo_isWrong 186 = .ok (.ifCond .eq 7, 3) := by decide +kernel
theorem d_Mo_isWrong_189 : decode b_Mo_isWrong 189 = .ok (.iconst 1, 1) := by decide +kernel
theorem d_Mo_isWrong_190 : decode b_Mo_isWrong 190 = .ok (.goto 4, 3) := by decide +kernel
theorem d_Mo_isWrong_193 : decode b_Mo_isWrong 193 = .ok (.iconst 0, 1) := by decide +kernel
theorem d_Mo_isWrong_194 : decode b_Mo_isWrong 194 = .ok (.ireturn, 1) := by decide +kernel
theorem d_Mo_isWrong_195 : decode b_Mo_isWrong 195 = .ok (.aload_n 0, 1) := by decide +kernel
theorem d_Mo_isWrong_196 : decode b_Mo_isWrong 196 = .ok (.getfield 43, 3) := by decide +kernel
theorem d_Mo_isWrong_199 : decode b_Mo_isWrong 199 = .ok (.bipush 24, 2) := by decide +kernel
theorem d_Mo_isWrong_201 : decode b_Mo_isWrong 201 = .ok (.iload_n 2, 1) := by decide +kernel
theorem d_Mo_isWrong_202 : decode b_Mo_isWrong 202 = .ok (.imul, 1) := by decide +kernel
theorem d_Mo_isWrong_203 : decode b_Mo_isWrong 203 = .ok (.iload_n 2, 1) := by decide +kernel
theorem d_Mo_isWrong_204 : decode b_Mo_isWrong 204 = .ok (.iadd, 1) := by decide +kernel
theorem d_Mo_isWrong_205 : decode b_Mo_isWrong 205 = .ok (.baload, 1) := by decide +kernel
theorem d_Mo_isWrong_206 : decode b_Mo_isWrong 206 = .ok (.ireturn, 1) := by decide +kernel
theorem d_Mo_isWrong_207 : decode b_Mo_isWrong 207 = .ok (.aload_n 0, 1) := by decide +kernel
theorem d_Mo_isWrong_208 : decode b_Mo_isWrong 208 = .ok (.getfield 28, 3) := by decide +kernel
theorem d_Mo_isWrong_211 : decode b_Mo_isWrong 211 = .ok (.iload_n 2, 1) := by decide +kernel
theorem d_Mo_isWrong_212 : decode b_Mo_isWrong 212 = .ok (.iaload, 1) := by decide +kernel
theorem d_Mo_isWrong_213 : decode b_Mo_isWrong 213 = .ok (.iconst 4, 1) := by decide +kernel
theorem d_Mo_isWrong_214 : decode b_Mo_isWrong 214 = .ok (.if_icmp .ne 16, 3) := by decide +kernel
theorem d_Mo_isWrong_217 : decode b_Mo_isWrong 217 = .ok (.aload_n 0, 1) := by decide +kernel
theorem d_Mo_isWrong_218 : decode b_Mo_isWrong 218 = .ok (.iload_n 2, 1) := by decide +kernel
theorem d_Mo_isWrong_219 : decode b_Mo_isWrong 219 = .ok (.invokevirtual 116, 3) := by decide +kernel
theorem d_Mo_isWrong_222 : decode b_Mo_isWrong 222 = .ok (.iconst (-1), 1) := by decide +kernel
theorem d_Mo_isWrong_223 : decode b_Mo_isWrong 223 = .ok (.if_icmp .ne 7, 3) := by decide +kernel
theorem d_Mo_isWrong_226 : decode b_Mo_isWrong 226 = .ok (.iconst 1, 1) := by decide +kernel
theorem d_Mo_isWrong_227 : decode b_Mo_isWrong 227 = .ok (.goto 4, 3) := by decide +kernel
theorem d_Mo_isWrong_230 : decode b_Mo_isWrong 230 = .ok (.iconst 0, 1) := by decide +kernel
theorem d_Mo_isWrong_231 : decode b_Mo_isWrong 231 = .ok (.ireturn, 1) := by decide +kernel
theorem d_Mo_isWrong_232 : decode b_Mo_isWrong 232 = .ok (.iconst 0, 1) := by decide +kernel
theorem d_Mo_isWrong_233 : decode b_Mo_isWrong 233 = .ok (.istore 6, 2) := by decide +kernel
theorem d_Mo_isWrong_235 : decode b_Mo_isWrong 235 = .ok (.iconst 0, 1) := by decide +kernel
theorem d_Mo_isWrong_236 : decode b_Mo_isWrong 236 = .ok (.istore 7, 2) := by decide +kernel
theorem d_Mo_isWrong_238 : decode b_Mo_isWrong 238 = .ok (.iload 7, 2) := by decide +kernel
theorem d_Mo_isWrong_240 : decode b_Mo_isWrong 240 = .ok (.aload_n 0, 1) := by decide +kernel
theorem d_Mo_isWrong_241 : decode b_Mo_isWrong 241 = .ok (.getfield 101, 3) := by decide +kernel
theorem d_Mo_isWrong_244 : decode b_Mo_isWrong 244 = .ok (.if_icmp .ge 36, 3) := by decide +kernel
theorem d_Mo_isWrong_247 : decode b_Mo_isWrong 247 = .ok (.iload 6, 2) := by decide +kernel
theorem d_Mo_isWrong_249 : decode b_Mo_isWrong 249 = .ok (.ifCond .ne 18, 3) := by decide +kernel
theorem d_Mo_isWrong_252 : decode b_Mo_isWrong 252 = .ok (.aload_n 0, 1) := by decide +kernel
theorem d_Mo_isWrong_253 : decode b_Mo_isWrong 253 = .ok (.getfield 43, 3) := by decide +kernel
theorem d_Mo_isWrong_256 : decode b_Mo_isWrong 256 = .ok (.bipush 24, 2) := by decide +kernel
theorem d_Mo_isWrong_258 : decode b_Mo_isWrong 258 = .ok (.iload 7, 2) := by decide +kernel
theorem d_Mo_isWrong_260 : decode b_Mo_isWrong 260 = .ok (.imul, 1) := by decide +kernel
theorem d_Mo_isWrong_261 : decode b_Mo_isWrong 261 = .ok (.iload_n 2, 1) := by decide +kernel
theorem d_Mo_isWrong_262 : decode b_Mo_isWrong 262 = .ok (.iadd, 1) := by decide +kernel
theorem d_Mo_isWrong_263 : decode b_Mo_isWrong 263 = .ok (.baload, 1) := by decide +kernel
theorem d_Mo_isWrong_264 : decode b_Mo_isWrong 264 = .ok (.ifCond .eq 7, 3) := by decide +kernel
theorem d_Mo_isWrong_267 : decode b_Mo_isWrong 267 = .ok (.iconst 1, 1) := by decide +kernel
theorem d_Mo_isWrong_268 : decode b_Mo_isWrong 268 = .ok (.goto 4, 3) := by decide +kernel
theorem d_Mo_isWrong_271 : decode b_Mo_isWrong 271 = .ok (.iconst 0, 1) := by decide +kernel
theorem d_Mo_isWrong_272 : decode b_Mo_isWrong 272 = .ok (.istore 6, 2) := by decide +kernel
theorem d_Mo_isWrong_274 : decode b_Mo_isWrong 274 = .ok (.iinc 7 1, 3) := by decide +kernel
theorem d_Mo_isWrong_277 : decode b_Mo_isWrong 277 = .ok (.goto (-39), 3) := by decide +kernel
theorem d_Mo_isWrong_280 : decode b_Mo_isWrong 280 = .ok (.aload_n 0, 1) := by decide +kernel
theorem d_Mo_isWrong_281 : decode b_Mo_isWrong 281 = .ok (.getfield 28, 3) := by decide +kernel
theorem d_Mo_isWrong_284 : decode b_Mo_isWrong 284 = .ok (.iload_n 2, 1) := by decide +kernel
theorem d_Mo_isWrong_285 : decode b_Mo_isWrong 285 = .ok (.iaload, 1) := by decide +kernel
theorem d_Mo_isWrong_286 : decode b_Mo_isWrong 286 = .ok (.ifCond .ne 12, 3) := by decide +kernel
theorem d_Mo_isWrong_289 : decode b_Mo_isWrong 289 = .ok (.iload 6, 2) := by decide +kernel
theorem d_Mo_isWrong_291 : decode b_Mo_isWrong 291 = .ok (.ifCond .eq 7, 3) := by decide +kernel
theorem d_Mo_isWrong_294 : decode b_Mo_isWrong 294 = .ok (.iconst 1, 1) := by decide +kernel
theorem d_Mo_isWrong_295 : decode b_Mo_isWrong 295 = .ok (.goto 4, 3) := by decide +kernel
theorem d_Mo_isWrong_298 : decode b_Mo_isWrong 298 = .ok (.iconst 0, 1) := by decide +kernel
theorem d_Mo_isWrong_299 : decode b_Mo_isWrong 299 = .ok (.ireturn, 1) := by decide +kernel
theorem d_Mo_judge_0 : decode b_Mo_judge 0 = .ok (.aload_n 0, 1) := by decide +kernel
theorem d_Mo_judge_1 : decode b_Mo_judge 1 = .ok (.iconst 0, 1) := by decide +kernel
theorem d_Mo_judge_2 : decode b_Mo_judge 2 = .ok (.putfield 119, 3) := by decide +kernel
theorem d_Mo_judge_5 : decode b_Mo_judge 5 = .ok (.iconst 1, 1) := by decide +kernel
theorem d_Mo_judge_6 : decode b_Mo_judge 6 = .ok (.istore_n 1, 1) := by decide +kernel
theorem d_Mo_judge_7 : decode b_Mo_judge 7 = .ok (.iload_n 1, 1) := by decide +kernel
theorem d_Mo_judge_8 : decode b_Mo_judge 8 = .ok (.bipush 7, 2) := by decide +kernel
theorem d_Mo_judge_10 : decode b_Mo_judge 10 = .ok (.if_icmp .ge 111, 3) := by decide +kernel
theorem d_Mo_judge_13 : decode b_Mo_judge 13 = .ok (.iconst 0, 1) := by decide +kernel
theorem d_Mo_judge_14 : decode b_Mo_judge 14 = .ok (.istore_n 2, 1) := by decide +kernel
theorem d_Mo_judge_15 : decode b_Mo_judge 15 = .ok (.iload_n 2, 1) := by decide +kernel
theorem d_Mo_judge_16 : decode b_Mo_judge 16 = .ok (.aload_n 0, 1) := by decide +kernel
theorem d_Mo_judge_17 : decode b_Mo_judge 17 = .ok (.getfield 101, 3) := by decide +kernel
theorem d_Mo_judge_20 : decode b_Mo_judge 20 = .ok (.if_icmp .ge 95, 3) := by decide +kernel
theorem d_Mo_judge_23 : decode b_Mo_judge 23 = .ok (.iconst 0, 1) := by decide +kernel
theorem d_Mo_judge_24 : decode b_Mo_judge 24 = .ok (.istore_n 3, 1) := by decide +kernel
theorem d_Mo_judge_25 : decode b_Mo_judge 25 = .ok (.iload_n 3, 1) := by decide +kernel
theorem d_Mo_judge_26 : decode b_Mo_judge 26 = .ok (.iload_n 1, 1) := by decide +kernel
theorem d_Mo_judge_27 : decode b_Mo_judge 27 = .ok (.iconst 1, 1) := by decide +kernel
theorem d_Mo_judge_28 : decode b_Mo_judge 28 = .ok (.if_icmp .ne 7, 3) := by decide +kernel
theorem d_Mo_judge_31 : decode b_Mo_judge 31 = .ok (.iconst 2, 1) := by decide +kernel
theorem d_Mo_judge_32 : decode b_Mo_judge 32 = .ok (.goto 4, 3) := by decide +kernel
theorem d_Mo_judge_35 : decode b_Mo_judge 35 = .ok (.iconst 1, 1) := by decide +kernel
theorem d_Mo_judge_36 : decode b_Mo_judge 36 = .ok (.if_icmp .ge 73, 3) := by decide +kernel
theorem d_Mo_judge_39 : decode b_Mo_judge 39 = .ok (.aload_n 0, 1) := by decide +kernel
theorem d_Mo_judge_40 : decode b_Mo_judge 40 = .ok (.iload_n 1, 1) := by decide +kernel
theorem d_Mo_judge_41 : decode b_Mo_judge 41 = .ok (.iload_n 2, 1) := by decide +kernel
theorem d_Mo_judge_42 : decode b_Mo_judge 42 = .ok (.iload_n 3, 1) := by decide +kernel
theorem d_Mo_judge_43 : decode b_Mo_judge 43 = .ok (.invokevirtual 122, 3) := by decide +kernel
theorem d_Mo_judge_46 : decode b_Mo_judge 46 = .ok (.ifCond .eq 57, 3) := by decide +kernel
theorem d_Mo_judge_49 : decode b_Mo_judge 49 = .ok (.aload_n 0, 1) := by decide +kernel
theorem d_Mo_judge_50 : decode b_Mo_judge 50 = .ok (.getfield 47, 3) := by decide +kernel
theorem d_Mo_judge_53 : decode b_Mo_judge 53 = .ok (.aload_n 0, 1) := by decide +kernel
theorem d_Mo_judge_54 : decode b_Mo_judge 54 = .ok (.getfield 119, 3) := by decide +kernel
theorem d_Mo_judge_57 : decode b_Mo_judge 57 = .ok (.iload_n 1, 1) := by decide +kernel
theorem d_Mo_judge_58 : decode b_Mo_judge 58 = .ok (.iastore, 1) := by decide +kernel
theorem d_Mo_judge_59 : decode b_Mo_judge 59 = .ok (.aload_n 0, 1) := by decide +kernel
theorem d_Mo_judge_60 : decode b_Mo_judge 60 = .ok (.getfield 50, 3) := by decide +kernel
theorem d_Mo_judge_63 : decode b_Mo_judge 63 = .ok (.aload_n 0, 1) := by decide +kernel
theorem d_Mo_judge_64 : decode b_Mo_judge 64 = .ok (.getfield 119, 3) := by decide +kernel
theorem d_Mo_judge_67 : decode b_Mo_judge 67 = .ok (.aload_n 0, 1) := by decide +kernel
theorem d_Mo_judge_68 : decode b_Mo_judge 68 = .ok (.getfield 31, 3) := by decide +kernel
theorem d_Mo_judge_71 : decode b_Mo_judge 71 = .ok (.iload_n 2, 1) := by decide +kernel
theorem d_Mo_judge_72 : decode b_Mo_judge 72 = .ok (.iaload, 1) := by decide +kernel
theorem d_Mo_judge_73 : decode b_Mo_judge 73 = .ok (.iastore, 1) := by decide +kernel
theorem d_Mo_judge_74 : decode b_Mo_judge 74 = .ok (.aload_n 0, 1) := by decide +kernel
theorem d_Mo_judge_75 : decode b_Mo_judge 75 = .ok (.getfield 53, 3) := by decide +kernel
theorem d_Mo_judge_78 : decode b_Mo_judge 78 = .ok (.aload_n 0, 1) := by decide +kernel
theorem d_Mo_judge_79 : decode b_Mo_judge 79 = .ok (.getfield 119, 3) := by decide +kernel
theorem d_Mo_judge_82 : decode b_Mo_judge 82 = .ok (.iload_n 1, 1) := by decide +kernel
theorem d_Mo_judge_83 : decode b_Mo_judge 83 = .ok (.iconst 1, 1) := by decide +kernel
theorem d_Mo_judge_84 : decode b_Mo_judge 84 = .ok (.if_icmp .ne 7, 3) := by decide +kernel
theorem d_Mo_judge_87 : decode b_Mo_judge 87 = .ok (.iload_n 3, 1) := by decide +kernel
theorem d_Mo_judge_88 : decode b_Mo_judge 88 = .ok (.goto 4, 3) := by decide +kernel
theorem d_Mo_judge_91 : decode b_Mo_judge 91 = .ok (.iconst (-1), 1) := by decide +kernel
theorem d_Mo_judge_92 : decode b_Mo_judge 92 = .ok (.iastore, 1) := by decide +kernel
theorem d_Mo_judge_93 : decode b_Mo_judge 93 = .ok (.aload_n 0, 1) := by decide +kernel
theorem d_Mo_judge_94 : decode b_Mo_judge 94 = .ok (.dup, 1) := by decide +kernel
theorem d_Mo_judge_95 : decode b_Mo_judge 95 = .ok (.getfield 119, 3) := by decide +kernel
theorem d_Mo_judge_98 : decode b_Mo_judge 98 = .ok (.iconst 1, 1) := by decide +kernel
theorem d_Mo_judge_99 : decode b_Mo_judge 99 = .ok (.iadd, 1) := by decide +kernel
theorem d_Mo_judge_100 : decode b_Mo_judge 100 = .ok (.putfield 119, 3) := by decide +kernel
theorem d_Mo_judge_103 : decode b_Mo_judge 103 = .ok (.iinc 3 1, 3) := by decide +kernel
theorem d_Mo_judge_106 : decode b_Mo_judge 106 = .ok (.goto (-81), 3) := by decide +kernel
theorem d_Mo_judge_109 : decode b_Mo_judge 109 = .ok (.iinc 2 1, 3) := by decide +kernel
theorem d_Mo_judge_112 : decode b_Mo_judge 112 = .ok (.goto (-97), 3) := by decide +kernel
theorem d_Mo_judge_115 : decode b_Mo_judge 115 = .ok (.iinc 1 1, 3) := by decide +kernel
theorem d_Mo_judge_118 : decode b_Mo_judge 118 = .ok (.goto (-111), 3) := by decide +kernel
theorem d_Mo_judge_121 : decode b_Mo_judge 121 = .ok (.return_, 1) := by decide +kernel
theorem d_Mo_part_0 : decode b_Mo_part 0 = .ok (.iload_n 2, 1) := by decide +kernel
theorem d_Mo_part_1 : decode b_Mo_part 1 = .ok (.ifCond .lt 8, 3) := by decide +kernel
theorem d_Mo_part_4 : decode b_Mo_part 4 = .ok (.iload_n 2, 1) := by decide +kernel
theorem d_Mo_part_5 : decode b_Mo_part 5 = .ok (.iconst 5, 1) := by decide +kernel
theorem d_Mo_part_6 : decode b_Mo_part 6 = .ok (.if_icmp .le 6, 3) := by decide +kernel
theorem d_Mo_part_9 : decode b_Mo_part 9 = .ok (.bipush (-12), 2) := by decide +kernel
theorem d_Mo_part_11 : decode b_Mo_part 11 = .ok (.ireturn, 1) := by decide +kernel
theorem d_Mo_part_12 : decode b_Mo_part 12 = .ok (.iload_n 1, 1) := by decide +kernel
theorem d_Mo_part_13 : decode b_Mo_part 13 = .ok (.ifCond .lt 11, 3) := by decide +kernel
theorem d_Mo_part_16 : decode b_Mo_part 16 = .ok (.iload_n 1, 1) := by decide +kernel
theorem d_Mo_part_17 : decode b_Mo_part 17 = .ok (.aload_n 0, 1) := by decide +kernel
theorem d_Mo_part_18 : decode b_Mo_part 18 = .ok (.getfield 101, 3) := by decide +kernel
theorem d_Mo_part_21 : decode b_Mo_part 21 = .ok (.if_icmp .lt 5, 3) := by decide +kernel
theorem d_Mo_part_24 : decode b_Mo_part 24 = .ok (.iconst (-1), 1) := by decide +kernel
theorem d_Mo_part_25 : decode b_Mo_part 25 = .ok (.ireturn, 1) := by decide +kernel
theorem d_Mo_part_26 : decode b_Mo_part 26 = .ok (.iload_n 2, 1) := by decide +kernel
theorem d_Mo_part_27 : decode b_Mo_part 27 = .ok (.ifCond .ne 12, 3) := by decide +kernel
theorem d_Mo_part_30 : decode b_Mo_part 30 = .ok (.aload_n 0, 1) := by decide +kernel
theorem d_Mo_part_31 : decode b_Mo_part 31 = .ok (.getfield 28, 3) := by decide +kernel
theorem d_Mo_part_34 : decode b_Mo_part 34 = .ok (.iload_n 1, 1) := by decide +kernel
theorem d_Mo_part_35 : decode b_Mo_part 35 = .ok (.iaload, 1) := by decide +kernel
theorem d_Mo_part_36 : decode b_Mo_part 36 = .ok (.goto 57, 3) := by decide +kernel
theorem d_Mo_part_39 : decode b_Mo_part 39 = .ok (.iload_n 2, 1) := by decide +kernel
theorem d_Mo_part_40 : decode b_Mo_part 40 = .ok (.iconst 1, 1) := by decide +kernel
theorem d_Mo_part_41 : decode b_Mo_part 41 = .ok (.if_icmp .ne 12, 3) := by decide +kernel
theorem d_Mo_part_44 : decode b_Mo_part 44 = .ok (.aload_n 0, 1) := by decide +kernel
theorem d_Mo_part_45 : decode b_Mo_part 45 = .ok (.getfield 31, 3) := by decide +kernel
theorem d_Mo_part_48 : decode b_Mo_part 48 = .ok (.iload_n 1, 1) := by decide +kernel
theorem d_Mo_part_49 : decode b_Mo_part 49 = .ok (.iaload, 1) := by decide +kernel
theorem d_Mo_part_50 : decode b_Mo_part 50 = .ok (.goto 43, 3) := by decide +kernel
theorem d_Mo_part_53 : decode b_Mo_part 53 = .ok (.iload_n 2, 1) := by decide +kernel
theorem d_Mo_part_54 : decode b_Mo_part 54 = .ok (.iconst 2, 1) := by decide +kernel
theorem d_Mo_part_55 : decode b_Mo_part 55 = .ok (.if_icmp .ne 12, 3) := by decide +kernel
theorem d_Mo_part_58 : decode b_Mo_part 58 = .ok (.aload_n 0, 1) := by decide +kernel
theorem d_Mo_part_59 : decode b_Mo_part 59 = .ok (.getfield 34, 3) := by decide +kernel
theorem d_Mo_part_62 : decode b_Mo_part 62 = .ok (.iload_n 1, 1) := by decide +kernel
theorem d_Mo_part_63 : decode b_Mo_part 63 = .ok (.iaload, 1) := by decide +kernel
theorem d_Mo_part_64 : decode b_Mo_part 64 = .ok (.goto 29, 3) := by decide +kernel
theorem d_Mo_part_67 : decode b_Mo_part 67 = .ok (.iload_n 2, 1) := by decide +kernel
theorem d_Mo_part_68 : decode b_Mo_part 68 = .ok (.iconst 3, 1) := by decide +kernel
theorem d_Mo_part_69 : decode b_Mo_part 69 = .ok (.if_icmp .ne 12, 3) := by decide +kernel
theorem d_Mo_part_72 : decode b_Mo_part 72 = .ok (.aload_n 0, 1) := by decide +kernel
theorem d_Mo_part_73 : decode b_Mo_part 73 = .ok (.getfield 37, 3) := by decide +kernel
theorem d_Mo_part_76 : decode b_Mo_part 76 = .ok (.iload_n 1, 1) := by decide +kernel
theorem d_Mo_part_77 : decode b_Mo_part 77 = .ok (.iaload, 1) := by decide +kernel
theorem d_Mo_part_78 : decode b_Mo_part 78 = .ok (.goto 15, 3) := by decide +kernel
theorem d_Mo_part_81 : decode b_Mo_part 81 = .ok (.aload_n 0, 1) := by decide +kernel
theorem d_Mo_part_82 : decode b_Mo_part 82 = .ok (.getfield 40, 3) := by decide +kernel
theorem d_Mo_part_85 : decode b_Mo_part 85 = .ok (.iconst 2, 1) := by decide +kernel
theorem d_Mo_part_86 : decode b_Mo_part 86 = .ok (.iload_n 1, 1) := by decide +kernel
theorem d_Mo_part_87 : decode b_Mo_part 87 = .ok (.imul, 1) := by decide +kernel
theorem d_Mo_part_88 : decode b_Mo_part 88 = .ok (.iload_n 2, 1) := by decide +kernel
theorem d_Mo_part_89 : decode b_Mo_part 89 = .ok (.iadd, 1) := by decide +kernel
theorem d_Mo_part_90 : decode b_Mo_part 90 = .ok (.iconst 4, 1) := by decide +kernel
theorem d_Mo_part_91 : decode b_Mo_part 91 = .ok (.isub, 1) := by decide +kernel
theorem d_Mo_part_92 : decode b_Mo_part 92 = .ok (.iaload, 1) := by decide +kernel
theorem d_Mo_part_93 : decode b_Mo_part 93 = .ok (.ireturn, 1) := by decide +kernel
theorem d_Mo_check_0 : decode b_Mo_check 0 = .ok (.aload_n 0, 1) := by decide +kernel
theorem d_Mo_check_1 : decode b_Mo_check 1 = .ok (.getfield 101, 3) := by decide +kernel
theorem d_Mo_check_4 : decode b_Mo_check 4 = .ok (.ifCond .ne 7, 3) := by decide +kernel
theorem d_Mo_check_7 : decode b_Mo_check 7 = .ok (.iconst (-1), 1) := by decide +kernel
theorem d_Mo_check_8 : decode b_Mo_check 8 = .ok (.goto 7, 3) := by decide +kernel
theorem d_Mo_check_11 : decode b_Mo_check 11 = .ok (.aload_n 0, 1) := by decide +kernel
theorem d_Mo_check_12 : decode b_Mo_check 12 = .ok (.getfield 119, 3) := by decide +kernel
theorem d_Mo_check_15 : decode b_Mo_check 15 = .ok (.ireturn, 1) := by decide +kernel
theorem d_Mo_fault_0 : decode b_Mo_fault 0 = .ok (.iload_n 2, 1) := by decide +kernel
theorem d_Mo_fault_1 : decode b_Mo_fault 1 = .ok (.ifCond .lt 8, 3) := by decide +kernel
theorem d_Mo_fault_4 : decode b_Mo_fault 4 = .ok (.iload_n 2, 1) := by decide +kernel
theorem d_Mo_fault_5 : decode b_Mo_fault 5 = .ok (.iconst 2, 1) := by decide +kernel
theorem d_Mo_fault_6 : decode b_Mo_fault 6 = .ok (.if_icmp .le 6, 3) := by decide +kernel
theorem d_Mo_fault_9 : decode b_Mo_fault 9 = .ok (.bipush (-12), 2) := by decide +kernel
theorem d_Mo_fault_11 : decode b_Mo_fault 11 = .ok (.ireturn, 1) := by decide +kernel
theorem d_Mo_fault_12 : decode b_Mo_fault 12 = .ok (.iload_n 1, 1) := by decide +kernel
theorem d_Mo_fault_13 : decode b_Mo_fault 13 = .ok (.ifCond .lt 18, 3) := by decide +kernel
theorem d_Mo_fault_16 : decode b_Mo_fault 16 = .ok (.iload_n 1, 1) := by decide +kernel
theorem d_Mo_fault_17 : decode b_Mo_fault 17 = .ok (.aload_n 0, 1) := by decide +kernel
theorem d_Mo_fault_18 : decode b_Mo_fault 18 = .ok (.getfield 119, 3) := by decide +kernel
theorem d_Mo_fault_21 : decode b_Mo_fault 21 = .ok (.if_icmp .ge 10, 3) := by decide +kernel
theorem d_Mo_fault_24 : decode b_Mo_fault 24 = .ok (.aload_n 0, 1) := by decide +kernel
theorem d_Mo_fault_25 : decode b_Mo_fault 25 = .ok (.getfield 101, 3) := by decide +kernel
theorem d_Mo_fault_28 : decode b_Mo_fault 28 = .ok (.ifCond .ne 5, 3) := by decide +kernel
theorem d_Mo_fault_31 : decode b_Mo_fault 31 = .ok (.iconst (-1), 1) := by decide +kernel
theorem d_Mo_fault_32 : decode b_Mo_fault 32 = .ok (.ireturn, 1) := by decide +kernel
theorem d_Mo_fault_33 : decode b_Mo_fault 33 = .ok (.iload_n 2, 1) := by decide +kernel
theorem d_Mo_fault_34 : decode b_Mo_fault 34 = .ok (.ifCond .ne 12, 3) := by decide +kernel
theorem d_Mo_fault_37 : decode b_Mo_fault 37 = .ok (.aload_n 0, 1) := by decide +kernel
theorem d_Mo_fault_38 : decode b_Mo_fault 38 = .ok (.getfield 47, 3) := by decide +kernel
theorem d_Mo_fault_41 : decode b_Mo_fault 41 = .ok (.iload_n 1, 1) := by decide +kernel
theorem d_Mo_fault_42 : decode b_Mo_fault 42 = .ok (.iaload, 1) := by decide +kernel
theorem d_Mo_fault_43 : decode b_Mo_fault 43 = .ok (.goto 23, 3) := by decide +kernel
theorem d_Mo_fault_46 : decode b_Mo_fault 46 = .ok (.iload_n 2, 1) := by decide +kernel
theorem d_Mo_fault_47 : decode b_Mo_fault 47 = .ok (.iconst 1, 1) := by decide +kernel
theorem d_Mo_fault_48 : decode b_Mo_fault 48 = .ok (.if_icmp .ne 12, 3) := by decide +kernel
theorem d_Mo_fault_51 : decode b_Mo_fault 51 = .ok (.aload_n 0, 1) := by decide +kernel
theorem d_Mo_fault_52 : decode b_Mo_fault 52 = .ok (.getfield 50, 3) := by decide +kernel
theorem d_Mo_fault_55 : decode b_Mo_fault 55 = .ok (.iload_n 1, 1) := by decide +kernel
theorem d_Mo_fault_56 : decode b_Mo_fault 56 = .ok (.iaload, 1) := by decide +kernel
theorem d_Mo_fault_57 : decode b_Mo_fault 57 = .ok (.goto 9, 3) := by decide +kernel
theorem d_Mo_fault_60 : decode b_Mo_fault 60 = .ok (.aload_n 0, 1) := by decide +kernel
theorem d_Mo_fault_61 : decode b_Mo_fault 61 = .ok (.getfield 53, 3) := by decide +kernel
theorem d_Mo_fault_64 : decode b_Mo_fault 64 = .ok (.iload_n 1, 1) := by decide +kernel
theorem d_Mo_fault_65 : decode b_Mo_fault 65 = .ok (.iaload, 1) := by decide +kernel
theorem d_Mo_fault_66 : decode b_Mo_fault 66 = .ok (.ireturn, 1) := by decide +kernel
theorem d_Mo_reach_0 : decode b_Mo_reach 0 = .ok (.aload_n 0, 1) := by decide +kernel
theorem d_Mo_reach_1 : decode b_Mo_reach 1 = .ok (.iload_n 1, 1) := by decide +kernel
theorem d_Mo_reach_2 : decode b_Mo_reach 2 = .ok (.invokevirtual 110, 3) := by decide +kernel
theorem d_Mo_reach_5 : decode b_Mo_reach 5 = .ok (.istore_n 2, 1) := by decide +kernel
theorem d_Mo_reach_6 : decode b_Mo_reach 6 = .ok (.iload_n 2, 1) := by decide +kernel
theorem d_Mo_reach_7 : decode b_Mo_reach 7 = .ok (.iconst (-1), 1) := by decide +kernel
theorem d_Mo_reach_8 : decode b_Mo_reach 8 = .ok (.if_icmp .ne 6, 3) := by decide +kernel
theorem d_Mo_reach_11 : decode b_Mo_reach 11 = .ok (.bipush (-11), 2) := by decide +kernel
theorem d_Mo_reach_13 : decode b_Mo_reach 13 = .ok (.ireturn, 1) := by decide +kernel
theorem d_Mo_reach_14 : decode b_Mo_reach 14 = .ok (.aload_n 0, 1) := by decide +kernel
theorem d_Mo_reach_15 : decode b_Mo_reach 15 = .ok (.getfield 28, 3) := by decide +kernel
theorem d_Mo_reach_18 : decode b_Mo_reach 18 = .ok (.iload_n 2, 1) := by decide +kernel
theorem d_Mo_reach_19 : decode b_Mo_reach 19 = .ok (.iaload, 1) := by decide +kernel
theorem d_Mo_reach_20 : decode b_Mo_reach 20 = .ok (.iconst 4, 1) := by decide +kernel
theorem d_Mo_reach_21 : decode b_Mo_reach 21 = .ok (.if_icmp .eq 8, 3) := by decide +kernel
theorem d_Mo_reach_24 : decode b_Mo_reach 24 = .ok (.bipush (-13), 2) := by decide +kernel
theorem d_Mo_reach_26 : decode b_Mo_reach 26 = .ok (.goto 17, 3) := by decide +kernel
theorem d_Mo_reach_29 : decode b_Mo_reach 29 = .ok (.aload_n 0, 1) := by decide +kernel
theorem d_Mo_reach_30 : decode b_Mo_reach 30 = .ok (.iload_n 2, 1) := by decide +kernel
theorem d_Mo_reach_31 : decode b_Mo_reach 31 = .ok (.invokevirtual 116, 3) := by decide +kernel
theorem d_Mo_reach_34 : decode b_Mo_reach 34 = .ok (.iconst (-1), 1) := by decide +kernel
theorem d_Mo_reach_35 : decode b_Mo_reach 35 = .ok (.if_icmp .eq 7, 3) := by decide +kernel
theorem d_Mo_reach_38 : decode b_Mo_reach 38 = .ok (.iconst 1, 1) := by decide +kernel
theorem d_Mo_reach_39 : decode b_Mo_reach 39 = .ok (.goto 4, 3) := by decide +kernel
theorem d_Mo_reach_42 : decode b_Mo_reach 42 = .ok (.iconst 0, 1) := by decide +kernel
theorem d_Mo_reach_43 : decode b_Mo_reach 43 = .ok (.ireturn, 1) := by decide +kernel
theorem d_Mo_through_0 : decode b_Mo_through 0 = .ok (.lconst 0, 1) := by decide +kernel
theorem d_Mo_through_1 : decode b_Mo_through 1 = .ok (.lstore_n 2, 1) := by decide +kernel
theorem d_Mo_through_2 : decode b_Mo_through 2 = .ok (.aload_n 0, 1) := by decide +kernel
theorem d_Mo_through_3 : decode b_Mo_through 3 = .ok (.getfield 28, 3) := by decide +kernel
theorem d_Mo_through_6 : decode b_Mo_through 6 = .ok (.iload_n 1, 1) := by decide +kernel
theorem d_Mo_through_7 : decode b_Mo_through 7 = .ok (.iaload, 1) := by decide +kernel
theorem d_Mo_through_8 : decode b_Mo_through 8 = .ok (.iconst 1, 1) := by decide +kernel
theorem d_Mo_through_9 : decode b_Mo_through 9 = .ok (.if_icmp .ne 33, 3) := by decide +kernel
theorem d_Mo_through_12 : decode b_Mo_through 12 = .ok (.ldc2_w 126, 3) := by decide +kernel
theorem d_Mo_through_15 : decode b_Mo_through 15 = .ok (.aload_n 0, 1) := by decide +kernel
theorem d_Mo_through_16 : decode b_Mo_through 16 = .ok (.getfield 34, 3) := by decide +kernel
theorem d_Mo_through_19 : decode b_Mo_through 19 = .ok (.iload_n 1, 1) := by decide +kernel
theorem d_Mo_through_20 : decode b_Mo_through 20 = .ok (.iaload, 1) := by decide +kernel
theorem d_Mo_through_21 : decode b_Mo_through 21 = .ok (.i2l, 1) := by decide +kernel
theorem d_Mo_through_22 : decode b_Mo_through 22 = .ok (.lmul, 1) := by decide +kernel
theorem d_Mo_through_23 : decode b_Mo_through 23 = .ok (.aload_n 0, 1) := by decide +kernel
theorem d_Mo_through_24 : decode b_Mo_through 24 = .ok (.getfield 37, 3) := by decide +kernel
theorem d_Mo_through_27 : decode b_Mo_through 27 = .ok (.iload_n 1, 1) := by decide +kernel
theorem d_Mo_through_28 : decode b_Mo_through 28 = .ok (.iaload, 1) := by decide +kernel
theorem d_Mo_through_29 : decode b_Mo_through 29 = .ok (.i2l, 1) := by decide +kernel
theorem d_Mo_through_30 : decode b_Mo_through 30 = .ok (.ladd, 1) := by decide +kernel
theorem d_Mo_through_31 : decode b_Mo_through 31 = .ok (.lconst 1, 1) := by decide +kernel
theorem d_Mo_through_32 : decode b_Mo_through 32 = .ok (.lsub, 1) := by decide +kernel
theorem d_Mo_through_33 : decode b_Mo_through 33 = .ok (.aload_n 0, 1) := by decide +kernel
theorem d_Mo_through_34 : decode b_Mo_through 34 = .ok (.getfield 37, 3) := by decide +kernel
theorem d_Mo_through_37 : decode b_Mo_through 37 = .ok (.iload_n 1, 1) := by decide +kernel
theorem d_Mo_through_38 : decode b_Mo_through 38 = .ok (.iaload, 1) := by decide +kernel
theorem d_Mo_through_39 : decode b_Mo_through 39 = .ok (.i2l, 1) := by decide +kernel
theorem d_Mo_through_40 : decode b_Mo_through 40 = .ok (.ldiv, 1) := by decide +kernel
theorem d_Mo_through_41 : decode b_Mo_through 41 = .ok (.lstore_n 2, 1) := by decide +kernel
theorem d_Mo_through_42 : decode b_Mo_through 42 = .ok (.aload_n 0, 1) := by decide +kernel
theorem d_Mo_through_43 : decode b_Mo_through 43 = .ok (.getfield 28, 3) := by decide +kernel
theorem d_Mo_through_46 : decode b_Mo_through 46 = .ok (.iload_n 1, 1) := by decide +kernel
theorem d_Mo_through_47 : decode b_Mo_through 47 = .ok (.iaload, 1) := by decide +kernel
theorem d_Mo_through_48 : decode b_Mo_through 48 = .ok (.iconst 2, 1) := by decide +kernel
theorem d_Mo_through_49 : decode b_Mo_through 49 = .ok (.if_icmp .ne 13, 3) := by decide +kernel
theorem d_Mo_through_52 : decode b_Mo_through 52 = .ok (.aload_n 0, 1) := by decide +kernel
theorem d_Mo_through_53 : decode b_Mo_through 53 = .ok (.getfield 34, 3) := by decide +kernel
theorem d_Mo_through_56 : decode b_Mo_through 56 = .ok (.iload_n 1, 1) := by decide +kernel
theorem d_Mo_through_57 : decode b_Mo_through 57 = .ok (.iaload, 1) := by decide +kernel
theorem d_Mo_through_58 : decode b_Mo_through 58 = .ok (.i2l, 1) := by decide +kernel
theorem d_Mo_through_59 : decode b_Mo_through 59 = .ok (.goto 4, 3) := by decide +kernel
theorem d_Mo_through_62 : decode b_Mo_through 62 = .ok (.lload_n 2, 1) := by decide +kernel
theorem d_Mo_through_63 : decode b_Mo_through 63 = .ok (.lreturn, 1) := by decide +kernel
theorem d_Mo_time_0 : decode b_Mo_time 0 = .ok (.aload_n 0, 1) := by decide +kernel
theorem d_Mo_time_1 : decode b_Mo_time 1 = .ok (.iload_n 1, 1) := by decide +kernel
theorem d_Mo_time_2 : decode b_Mo_time 2 = .ok (.invokevirtual 110, 3) := by decide +kernel
theorem d_Mo_time_5 : decode b_Mo_time 5 = .ok (.istore_n 3, 1) := by decide +kernel
theorem d_Mo_time_6 : decode b_Mo_time 6 = .ok (.aload_n 0, 1) := by decide +kernel
theorem d_Mo_time_7 : decode b_Mo_time 7 = .ok (.iload_n 2, 1) := by decide +kernel
theorem d_Mo_time_8 : decode b_Mo_time 8 = .ok (.invokevirtual 110, 3) := by decide +kernel
theorem d_Mo_time_11 : decode b_Mo_time 11 = .ok (.istore 4, 2) := by decide +kernel
theorem d_Mo_time_13 : decode b_Mo_time 13 = .ok (.iload_n 3, 1) := by decide +kernel
theorem d_Mo_time_14 : decode b_Mo_time 14 = .ok (.iconst (-1), 1) := by decide +kernel
theorem d_Mo_time_15 : decode b_Mo_time 15 = .ok (.if_icmp .eq 9, 3) := by decide +kernel
theorem d_Mo_time_18 : decode b_Mo_time 18 = .ok (.iload 4, 2) := by decide +kernel
theorem d_Mo_time_20 : decode b_Mo_time 20 = .ok (.iconst (-1), 1) := by decide +kernel
theorem d_Mo_time_21 : decode b_Mo_time 21 = .ok (.if_icmp .ne 7, 3) := by decide +kernel
theorem d_Mo_time_24 : decode b_Mo_time 24 = .ok (.ldc2_w 128, 3) := by decide +kernel
theorem d_Mo_time_27 : decode b_Mo_time 27 = .ok (.lreturn, 1) := by decide +kernel
theorem d_Mo_time_28 : decode b_Mo_time 28 = .ok (.iconst 0, 1) := by decide +kernel
theorem d_Mo_time_29 : decode b_Mo_time 29 = .ok (.istore 5, 2) := by decide +kernel
theorem d_Mo_time_31 : decode b_Mo_time 31 = .ok (.iload 5, 2) := by decide +kernel
theorem d_Mo_time_33 : decode b_Mo_time 33 = .ok (.aload_n 0, 1) := by decide +kernel
theorem d_Mo_time_34 : decode b_Mo_time 34 = .ok (.getfield 101, 3) := by decide +kernel
theorem d_Mo_time_37 : decode b_Mo_time 37 = .ok (.if_icmp .ge 29, 3) := by decide +kernel
theorem d_Mo_time_40 : decode b_Mo_time 40 = .ok (.aload_n 0, 1) := by decide +kernel
theorem d_Mo_time_41 : decode b_Mo_time 41 = .ok (.getfield 56, 3) := by decide +kernel
theorem d_Mo_time_44 : decode b_Mo_time 44 = .ok (.iload 5, 2) := by decide +kernel
theorem d_Mo_time_46 : decode b_Mo_time 46 = .ok (.iload 5, 2) := by decide +kernel
theorem d_Mo_time_48 : decode b_Mo_time 48 = .ok (.iload_n 3, 1) := by decide +kernel
theorem d_Mo_time_49 : decode b_Mo_time 49 = .ok (.if_icmp .ne 7, 3) := by decide +kernel
theorem d_Mo_time_52 : decode b_Mo_time 52 = .ok (.lconst 0, 1) := by decide +kernel
theorem d_Mo_time_53 : decode b_Mo_time 53 = .ok (.goto 6, 3) := by decide +kernel
theorem d_Mo_time_56 : decode b_Mo_time 56 = .ok (.ldc2_w 130, 3) := by decide +kernel
theorem d_Mo_time_59 : decode b_Mo_time 59 = .ok (.lastore, 1) := by decide +kernel
theorem d_Mo_time_60 : decode b_Mo_time 60 = .ok (.iinc 5 1, 3) := by decide +kernel
theorem d_Mo_time_63 : decode b_Mo_time 63 = .ok (.goto (-32), 3) := by decide +kernel
theorem d_Mo_time_66 : decode b_Mo_time 66 = .ok (.iconst 0, 1) := by decide +kernel
theorem d_Mo_time_67 : decode b_Mo_time 67 = .ok (.istore 5, 2) := by decide +kernel
theorem d_Mo_time_69 : decode b_Mo_time 69 = .ok (.iload 5, 2) := by decide +kernel
theorem d_Mo_time_71 : decode b_Mo_time 71 = .ok (.aload_n 0, 1) := by decide +kernel
theorem d_Mo_time_72 : decode b_Mo_time 72 = .ok (.getfield 101, 3) := by decide +kernel
theorem d_Mo_time_75 : decode b_Mo_time 75 = .ok (.if_icmp .ge 118, 3) := by decide +kernel
theorem d_Mo_time_78 : decode b_Mo_time 78 = .ok (.iconst 0, 1) := by decide +kernel
theorem d_Mo_time_79 : decode b_Mo_time 79 = .ok (.istore 6, 2) := by decide +kernel
theorem d_Mo_time_81 : decode b_Mo_time 81 = .ok (.iload 6, 2) := by decide +kernel
theorem d_Mo_time_83 : decode b_Mo_time 83 = .ok (.aload_n 0, 1) := by decide +kernel
theorem d_Mo_time_84 : decode b_Mo_time 84 = .ok (.getfield 101, 3) := by decide +kernel
theorem d_Mo_time_87 : decode b_Mo_time 87 = .ok (.if_icmp .ge 100, 3) := by decide +kernel
theorem d_Mo_time_90 : decode b_Mo_time 90 = .ok (.iconst 0, 1) := by decide +kernel
theorem d_Mo_time_91 : decode b_Mo_time 91 = .ok (.istore 7, 2) := by decide +kernel
theorem d_Mo_time_93 : decode b_Mo_time 93 = .ok (.iload 7, 2) := by decide +kernel
theorem d_Mo_time_95 : decode b_Mo_time 95 = .ok (.iconst 2, 1) := by decide +kernel
theorem d_Mo_time_96 : decode b_Mo_time 96 = .ok (.if_icmp .ge 85, 3) := by decide +kernel
theorem d_Mo_time_99 : decode b_Mo_time 99 = .ok (.aload_n 0, 1) := by decide +kernel
theorem d_Mo_time_100 : decode b_Mo_time 100 = .ok (.iload 6, 2) := by decide +kernel
theorem d_Mo_time_102 : decode b_Mo_time 102 = .ok (.iload 7, 2) := by decide +kernel
theorem d_Mo_time_104 : decode b_Mo_time 104 = .ok (.invokevirtual 113, 3) := by decide +kernel
theorem d_Mo_time_107 : decode b_Mo_time 107 = .ok (.istore 8, 2) := by decide +kernel
theorem d_Mo_time_109 : decode b_Mo_time 109 = .ok (.iload 8, 2) := by decide +kernel
theorem d_Mo_time_111 : decode b_Mo_time 111 = .ok (.iconst (-1), 1) := by decide +kernel
theorem d_Mo_time_112 : decode b_Mo_time 112 = .ok (.if_icmp .eq 63, 3) := by decide +kernel
theorem d_Mo_time_115 : decode b_Mo_time 115 = .ok (.aload_n 0, 1) := by decide +kernel
theorem d_Mo_time_116 : decode b_Mo_time 116 = .ok (.getfield 56, 3) := by decide +kernel
theorem d_Mo_time_119 : decode b_Mo_time 119 = .ok (.iload 6, 2) := by decide +kernel
theorem d_Mo_time_121 : decode b_Mo_time 121 = .ok (.laload, 1) := by decide +kernel
theorem d_Mo_time_122 : decode b_Mo_time 122 = .ok (.ldc2_w 130, 3) := by decide +kernel
theorem d_Mo_time_125 : decode b_Mo_time 125 = .ok (.lcmp, 1) := by decide +kernel
theorem d_Mo_time_126 : decode b_Mo_time 126 = .ok (.ifCond .ge 49, 3) := by decide +kernel
theorem d_Mo_time_129 : decode b_Mo_time 129 = .ok (.aload_n 0, 1) := by decide +kernel
theorem d_Mo_time_130 : decode b_Mo_time 130 = .ok (.getfield 56, 3) := by decide +kernel
theorem d_Mo_time_133 : decode b_Mo_time 133 = .ok (.iload 6, 2) := by decide +kernel
theorem d_Mo_time_135 : decode b_Mo_time 135 = .ok (.laload, 1) := by decide +kernel
theorem d_Mo_time_136 : decode b_Mo_time 136 = .ok (.aload_n 0, 1) := by decide +kernel
theorem d_Mo_time_137 : decode b_Mo_time 137 = .ok (.iload 6, 2) := by decide +kernel
theorem d_Mo_time_139 : decode b_Mo_time 139 = .ok (.invokevirtual 132, 3) := by decide +kernel
theorem d_Mo_time_142 : decode b_Mo_time 142 = .ok (.ladd, 1) := by decide +kernel
theorem d_Mo_time_143 : decode b_Mo_time 143 = .ok (.aload_n 0, 1) := by decide +kernel
theorem d_Mo_time_144 : decode b_Mo_time 144 = .ok (.getfield 56, 3) := by decide +kernel
theorem d_Mo_time_147 : decode b_Mo_time 147 = .ok (.iload 8, 2) := by decide +kernel
theorem d_Mo_time_149 : decode b_Mo_time 149 = .ok (.laload, 1) := by decide +kernel
theorem d_Mo_time_150 : decode b_Mo_time 150 = .ok (.lcmp, 1) := by decide +kernel
theorem d_Mo_time_151 : decode b_Mo_time 151 = .ok (.ifCond .ge 24, 3) := by decide +kernel
theorem d_Mo_time_154 : decode b_Mo_time 154 = .ok (.aload_n 0, 1) := by decide +kernel
theorem d_Mo_time_155 : decode b_Mo_time 155 = .ok (.getfield 56, 3) := by decide +kernel
theorem d_Mo_time_158 : decode b_Mo_time 158 = .ok (.iload 8, 2) := by decide +kernel
theorem d_Mo_time_160 : decode b_Mo_time 160 = .ok (.aload_n 0, 1) := by decide +kernel
theorem d_Mo_time_161 : decode b_Mo_time 161 = .ok (.getfield 56, 3) := by decide +kernel
theorem d_Mo_time_164 : decode b_Mo_time 164 = .ok (.iload 6, 2) := by decide +kernel
theorem d_Mo_time_166 : decode b_Mo_time 166 = .ok (.laload, 1) := by decide +kernel
theorem d_Mo_time_167 : decode b_Mo_time 167 = .ok (.aload_n 0, 1) := by decide +kernel
theorem d_Mo_time_168 : decode b_Mo_time 168 = .ok (.iload 6, 2) := by decide +kernel
theorem d_Mo_time_170 : decode b_Mo_time 170 = .ok (.invokevirtual 132, 3) := by decide +kernel
theorem d_Mo_time_173 : decode b_Mo_time 173 = .ok (.ladd, 1) := by decide +kernel
theorem d_Mo_time_174 : decode b_Mo_time 174 = .ok (.lastore, 1) := by decide +kernel
theorem d_Mo_time_175 : decode b_Mo_time 175 = .ok (.iinc 7 1, 3) := by decide +kernel
theorem d_Mo_time_178 : decode b_Mo_time 178 = .ok (.goto (-85), 3) := by decide +kernel
theorem d_Mo_time_181 : decode b_Mo_time 181 = .ok (.iinc 6 1, 3) := by decide +kernel
theorem d_Mo_time_184 : decode b_Mo_time 184 = .ok (.goto (-103), 3) := by decide +kernel
theorem d_Mo_time_187 : decode b_Mo_time 187 = .ok (.iinc 5 1, 3) := by decide +kernel
theorem d_Mo_time_190 : decode b_Mo_time 190 = .ok (.goto (-121), 3) := by decide +kernel
theorem d_Mo_time_193 : decode b_Mo_time 193 = .ok (.aload_n 0, 1) := by decide +kernel
theorem d_Mo_time_194 : decode b_Mo_time 194 = .ok (.getfield 56, 3) := by decide +kernel
theorem d_Mo_time_197 : decode b_Mo_time 197 = .ok (.iload 4, 2) := by decide +kernel
theorem d_Mo_time_199 : decode b_Mo_time 199 = .ok (.laload, 1) := by decide +kernel
theorem d_Mo_time_200 : decode b_Mo_time 200 = .ok (.ldc2_w 130, 3) := by decide +kernel
theorem d_Mo_time_203 : decode b_Mo_time 203 = .ok (.lcmp, 1) := by decide +kernel
theorem d_Mo_time_204 : decode b_Mo_time 204 = .ok (.ifCond .ne 9, 3) := by decide +kernel
theorem d_Mo_time_207 : decode b_Mo_time 207 = .ok (.ldc2_w 136, 3) := by decide +kernel
theorem d_Mo_time_210 : decode b_Mo_time 210 = .ok (.goto 10, 3) := by decide +kernel
theorem d_Mo_time_213 : decode b_Mo_time 213 = .ok (.aload_n 0, 1) := by decide +kernel
theorem d_Mo_time_214 : decode b_Mo_time 214 = .ok (.getfield 56, 3) := by decide +kernel
theorem d_Mo_time_217 : decode b_Mo_time 217 = .ok (.iload 4, 2) := by decide +kernel
theorem d_Mo_time_219 : decode b_Mo_time 219 = .ok (.laload, 1) := by decide +kernel
theorem d_Mo_time_220 : decode b_Mo_time 220 = .ok (.lreturn, 1) := by decide +kernel
theorem d_Mo_gap_0 : decode b_Mo_gap 0 = .ok (.aload_n 0, 1) := by decide +kernel
theorem d_Mo_gap_1 : decode b_Mo_gap 1 = .ok (.iload_n 1, 1) := by decide +kernel
theorem d_Mo_gap_2 : decode b_Mo_gap 2 = .ok (.invokevirtual 110, 3) := by decide +kernel
theorem d_Mo_gap_5 : decode b_Mo_gap 5 = .ok (.istore_n 2, 1) := by decide +kernel
theorem d_Mo_gap_6 : decode b_Mo_gap 6 = .ok (.iload_n 2, 1) := by decide +kernel
theorem d_Mo_gap_7 : decode b_Mo_gap 7 = .ok (.iconst (-1), 1) := by decide +kernel
theorem d_Mo_gap_8 : decode b_Mo_gap 8 = .ok (.if_icmp .ne 8, 3) := by decide +kernel
theorem d_Mo_gap_11 : decode b_Mo_gap 11 = .ok (.bipush (-11), 2) := by decide +kernel
theorem d_Mo_gap_13 : decode b_Mo_gap 13 = .ok (.goto 8, 3) := by decide +kernel
theorem d_Mo_gap_16 : decode b_Mo_gap 16 = .ok (.aload_n 0, 1) := by decide +kernel
theorem d_Mo_gap_17 : decode b_Mo_gap 17 = .ok (.iload_n 2, 1) := by decide +kernel
theorem d_Mo_gap_18 : decode b_Mo_gap 18 = .ok (.invokevirtual 116, 3) := by decide +kernel
theorem d_Mo_gap_21 : decode b_Mo_gap 21 = .ok (.ireturn, 1) := by decide +kernel
theorem d_Mo_suffices_0 : decode b_Mo_suffices 0 = .ok (.aload_n 0, 1) := by decide +kernel
theorem d_Mo_suffices_1 : decode b_Mo_suffices 1 = .ok (.iload_n 1, 1) := by decide +kernel
theorem d_Mo_suffices_2 : decode b_Mo_suffices 2 = .ok (.invokevirtual 110, 3) := by decide +kernel
theorem d_Mo_suffices_5 : decode b_Mo_suffices 5 = .ok (.istore 4, 2) := by decide +kernel
theorem d_Mo_suffices_7 : decode b_Mo_suffices 7 = .ok (.iload 4, 2) := by decide +kernel
theorem d_Mo_suffices_9 : decode b_Mo_suffices 9 = .ok (.iconst (-1), 1) := by decide +kernel
theorem d_Mo_suffices_10 : decode b_Mo_suffices 10 = .ok (.if_icmp .eq 31, 3) := by decide +kernel
theorem d_Mo_suffices_13 : decode b_Mo_suffices 13 = .ok (.aload_n 0, 1) := by decide +kernel
theorem d_Mo_suffices_14 : decode b_Mo_suffices 14 = .ok (.getfield 28, 3) := by decide +kernel
theorem d_Mo_suffices_17 : decode b_Mo_suffices 17 = .ok (.iload 4, 2) := by decide +kernel
theorem d_Mo_suffices_19 : decode b_Mo_suffices 19 = .ok (.iaload, 1) := by decide +kernel
theorem d_Mo_suffices_20 : decode b_Mo_suffices 20 = .ok (.iconst 3, 1) := by decide +kernel
theorem d_Mo_suffices_21 : decode b_Mo_suffices 21 = .ok (.if_icmp .ne 20, 3) := by decide +kernel
theorem d_Mo_suffices_24 : decode b_Mo_suffices 24 = .ok (.aload_n 0, 1) := by decide +kernel
theorem d_Mo_suffices_25 : decode b_Mo_suffices 25 = .ok (.getfield 34, 3) := by decide +kernel
theorem d_Mo_suffices_28 : decode b_Mo_suffices 28 = .ok (.iload 4, 2) := by decide +kernel
theorem d_Mo_suffices_30 : decode b_Mo_suffices 30 = .ok (.iaload, 1) := by decide +kernel
theorem d_Mo_suffices_31 : decode b_Mo_suffices 31 = .ok (.i2l, 1) := by decide +kernel
theorem d_Mo_suffices_32 : decode b_Mo_suffices 32 = .ok (.lload_n 2, 1) := by decide +kernel
theorem d_Mo_suffices_33 : decode b_Mo_suffices 33 = .ok (.lcmp, 1) := by decide +kernel
theorem d_Mo_suffices_34 : decode b_Mo_suffices 34 = .ok (.ifCond .gt 7, 3) := by decide +kernel
theorem d_Mo_suffices_37 : decode b_Mo_suffices 37 = .ok (.iconst 1, 1) := by decide +kernel
theorem d_Mo_suffices_38 : decode b_Mo_suffices 38 = .ok (.goto 4, 3) := by decide +kernel
theorem d_Mo_suffices_41 : decode b_Mo_suffices 41 = .ok (.iconst 0, 1) := by decide +kernel
theorem d_Mo_suffices_42 : decode b_Mo_suffices 42 = .ok (.ireturn, 1) := by decide +kernel
theorem d_Mo_put_0 : decode b_Mo_put 0 = .ok (.aload_n 0, 1) := by decide +kernel
theorem d_Mo_put_1 : decode b_Mo_put 1 = .ok (.getfield 60, 3) := by decide +kernel
theorem d_Mo_put_4 : decode b_Mo_put 4 = .ok (.aload_n 0, 1) := by decide +kernel
theorem d_Mo_put_5 : decode b_Mo_put 5 = .ok (.getfield 138, 3) := by decide +kernel
theorem d_Mo_put_8 : decode b_Mo_put 8 = .ok (.iload_n 1, 1) := by decide +kernel
theorem d_Mo_put_9 : decode b_Mo_put 9 = .ok (.iastore, 1) := by decide +kernel
theorem d_Mo_put_10 : decode b_Mo_put 10 = .ok (.aload_n 0, 1) := by decide +kernel
theorem d_Mo_put_11 : decode b_Mo_put 11 = .ok (.dup, 1) := by decide +kernel
theorem d_Mo_put_12 : decode b_Mo_put 12 = .ok (.getfield 138, 3) := by decide +kernel
theorem d_Mo_put_15 : decode b_Mo_put 15 = .ok (.iconst 1, 1) := by decide +kernel
theorem d_Mo_put_16 : decode b_Mo_put 16 = .ok (.iadd, 1) := by decide +kernel
theorem d_Mo_put_17 : decode b_Mo_put 17 = .ok (.putfield 138, 3) := by decide +kernel
theorem d_Mo_put_20 : decode b_Mo_put 20 = .ok (.return_, 1) := by decide +kernel
theorem d_Mo_putNumber_0 : decode b_Mo_putNumber 0 = .ok (.iconst 1, 1) := by decide +kernel
theorem d_Mo_putNumber_1 : decode b_Mo_putNumber 1 = .ok (.istore_n 2, 1) := by decide +kernel
theorem d_Mo_putNumber_2 : decode b_Mo_putNumber 2 = .ok (.iload_n 1, 1) := by decide +kernel
theorem d_Mo_putNumber_3 : decode b_Mo_putNumber 3 = .ok (.iload_n 2, 1) := by decide +kernel
theorem d_Mo_putNumber_4 : decode b_Mo_putNumber 4 = .ok (.idiv, 1) := by decide +kernel
theorem d_Mo_putNumber_5 : decode b_Mo_putNumber 5 = .ok (.bipush 9, 2) := by decide +kernel
theorem d_Mo_putNumber_7 : decode b_Mo_putNumber 7 = .ok (.if_icmp .le 11, 3) := by decide +kernel
theorem d_Mo_putNumber_10 : decode b_Mo_putNumber 10 = .ok (.iload_n 2, 1) := by decide +kernel
theorem d_Mo_putNumber_11 : decode b_Mo_putNumber 11 = .ok (.bipush 10, 2) := by decide +kernel
theorem d_Mo_putNumber_13 : decode b_Mo_putNumber 13 = .ok (.imul, 1) := by decide +kernel
theorem d_Mo_putNumber_14 : decode b_Mo_putNumber 14 = .ok (.istore_n 2, 1) := by decide +kernel
theorem d_Mo_putNumber_15 : decode b_Mo_putNumber 15 = .ok (.goto (-13), 3) := by decide +kernel
theorem d_Mo_putNumber_18 : decode b_Mo_putNumber 18 = .ok (.iload_n 2, 1) := by decide +kernel
theorem d_Mo_putNumber_19 : decode b_Mo_putNumber 19 = .ok (.ifCond .le 24, 3) := by decide +kernel
theorem d_Mo_putNumber_22 : decode b_Mo_putNumber 22 = .ok (.aload_n 0, 1) := by decide +kernel
theorem d_Mo_putNumber_23 : decode b_Mo_putNumber 23 = .ok (.bipush 48, 2) := by decide +kernel
theorem d_Mo_putNumber_25 : decode b_Mo_putNumber 25 = .ok (.iload_n 1, 1) := by decide +kernel
theorem d_Mo_putNumber_26 : decode b_Mo_putNumber 26 = .ok (.iload_n 2, 1) := by decide +kernel
theorem d_Mo_putNumber_27 : decode b_Mo_putNumber 27 = .ok (.idiv, 1) := by decide +kernel
theorem d_Mo_putNumber_28 : decode b_Mo_putNumber 28 = .ok (.bipush 10, 2) := by decide +kernel
theorem d_Mo_putNumber_30 : decode b_Mo_putNumber 30 = .ok (.irem, 1) := by decide +kernel
theorem d_Mo_putNumber_31 : decode b_Mo_putNumber 31 = .ok (.iadd, 1) := by decide +kernel
theorem d_Mo_putNumber_32 : decode b_Mo_putNumber 32 = .ok (.invokevirtual 141, 3) := by decide +kernel
theorem d_Mo_putNumber_35 : decode b_Mo_putNumber 35 = .ok (.iload_n 2, 1) := by decide +kernel
theorem d_Mo_putNumber_36 : decode b_Mo_putNumber 36 = .ok (.bipush 10, 2) := by decide +kernel
theorem d_Mo_putNumber_38 : decode b_Mo_putNumber 38 = .ok (.idiv, 1) := by decide +kernel
theorem d_Mo_putNumber_39 : decode b_Mo_putNumber 39 = .ok (.istore_n 2, 1) := by decide +kernel
theorem d_Mo_putNumber_40 : decode b_Mo_putNumber 40 = .ok (.goto (-22), 3) := by decide +kernel
theorem d_Mo_putNumber_43 : decode b_Mo_putNumber 43 = .ok (.return_, 1) := by decide +kernel
theorem d_Mo_letterOf_0 : decode b_Mo_letterOf 0 = .ok (.iload_n 0, 1) := by decide +kernel
theorem d_Mo_letterOf_1 : decode b_Mo_letterOf 1 = .ok (.ifCond .ne 8, 3) := by decide +kernel
theorem d_Mo_letterOf_4 : decode b_Mo_letterOf 4 = .ok (.bipush 70, 2) := by decide +kernel
theorem d_Mo_letterOf_6 : decode b_Mo_letterOf 6 = .ok (.goto 35, 3) := by decide +kernel
theorem d_Mo_letterOf_9 : decode b_Mo_letterOf 9 = .ok (.iload_n 0, 1) := by decide +kernel
theorem d_Mo_letterOf_10 : decode b_Mo_letterOf 10 = .ok (.iconst 1, 1) := by decide +kernel
theorem d_Mo_letterOf_11 : decode b_Mo_letterOf 11 = .ok (.if_icmp .ne 8, 3) := by decide +kernel
theorem d_Mo_letterOf_14 : decode b_Mo_letterOf 14 = .ok (.bipush 66, 2) := by decide +kernel
theorem d_Mo_letterOf_16 : decode b_Mo_letterOf 16 = .ok (.goto 25, 3) := by decide +kernel
theorem d_Mo_letterOf_19 : decode b_Mo_letterOf 19 = .ok (.iload_n 0, 1) := by decide +kernel
theorem d_Mo_letterOf_20 : decode b_Mo_letterOf 20 = .ok (.iconst 2, 1) := by decide +kernel
theorem d_Mo_letterOf_21 : decode b_Mo_letterOf 21 = .ok (.if_icmp .ne 8, 3) := by decide +kernel
theorem d_Mo_letterOf_24 : decode b_Mo_letterOf 24 = .ok (.bipush 82, 2) := by decide +kernel
theorem d_Mo_letterOf_26 : decode b_Mo_letterOf 26 = .ok (.goto 15, 3) := by decide +kernel
theorem d_Mo_letterOf_29 : decode b_Mo_letterOf 29 = .ok (.iload_n 0, 1) := by decide +kernel
theorem d_Mo_letterOf_30 : decode b_Mo_letterOf 30 = .ok (.iconst 3, 1) := by decide +kernel
theorem d_Mo_letterOf_31 : decode b_Mo_letterOf 31 = .ok (.if_icmp .ne 8, 3) := by decide +kernel
theorem d_Mo_letterOf_34 : decode b_Mo_letterOf 34 = .ok (.bipush 71, 2) := by decide +kernel
theorem d_Mo_letterOf_36 : decode b_Mo_letterOf 36 = .ok (.goto 5, 3) := by decide +kernel
theorem d_Mo_letterOf_39 : decode b_Mo_letterOf 39 = .ok (.bipush 83, 2) := by decide +kernel
theorem d_Mo_letterOf_41 : decode b_Mo_letterOf 41 = .ok (.ireturn, 1) := by decide +kernel
theorem d_Mo_print_0 : decode b_Mo_print 0 = .ok (.aload_n 0, 1) := by decide +kernel
theorem d_Mo_print_1 : decode b_Mo_print 1 = .ok (.iconst 0, 1) := by decide +kernel
theorem d_Mo_print_2 : decode b_Mo_print 2 = .ok (.putfield 138, 3) := by decide +kernel
theorem d_Mo_print_5 : decode b_Mo_print 5 = .ok (.iconst 0, 1) := by decide +kernel
theorem d_Mo_print_6 : decode b_Mo_print 6 = .ok (.istore_n 1, 1) := by decide +kernel
theorem d_Mo_print_7 : decode b_Mo_print 7 = .ok (.iload_n 1, 1) := by decide +kernel
theorem d_Mo_print_8 : decode b_Mo_print 8 = .ok (.aload_n 0, 1) := by decide +kernel
theorem d_Mo_print_9 : decode b_Mo_print 9 = .ok (.getfield 101, 3) := by decide +kernel
theorem d_Mo_print_12 : decode b_Mo_print 12 = .ok (.if_icmp .ge 138, 3) := by decide +kernel
theorem d_Mo_print_15 : decode b_Mo_print 15 = .ok (.aload_n 0, 1) := by decide +kernel
theorem d_Mo_print_16 : decode b_Mo_print 16 = .ok (.aload_n 0, 1) := by decide +kernel
theorem d_Mo_print_17 : decode b_Mo_print 17 = .ok (.getfield 28, 3) := by decide +kernel
theorem d_Mo_print_20 : decode b_Mo_print 20 = .ok (.iload_n 1, 1) := by decide +kernel
theorem d_Mo_print_21 : decode b_Mo_print 21 = .ok (.iaload, 1) := by decide +kernel
theorem d_Mo_print_22 : decode b_Mo_print 22 = .ok (.invokestatic 144, 3) := by decide +kernel
theorem d_Mo_print_25 : decode b_Mo_print 25 = .ok (.invokevirtual 141, 3) := by decide +kernel
theorem d_Mo_print_28 : decode b_Mo_print 28 = .ok (.aload_n 0, 1) := by decide +kernel
theorem d_Mo_print_29 : decode b_Mo_print 29 = .ok (.aload_n 0, 1) := by decide +kernel
theorem d_Mo_print_30 : decode b_Mo_print 30 = .ok (.getfield 31, 3) := by decide +kernel
theorem d_Mo_print_33 : decode b_Mo_print 33 = .ok (.iload_n 1, 1) := by decide +kernel
theorem d_Mo_print_34 : decode b_Mo_print 34 = .ok (.iaload, 1) := by decide +kernel
theorem d_Mo_print_35 : decode b_Mo_print 35 = .ok (.invokevirtual 147, 3) := by decide +kernel
theorem d_Mo_print_38 : decode b_Mo_print 38 = .ok (.aload_n 0, 1) := by decide +kernel
theorem d_Mo_print_39 : decode b_Mo_print 39 = .ok (.bipush 61, 2) := by decide +kernel
theorem d_Mo_print_41 : decode b_Mo_print 41 = .ok (.invokevirtual 141, 3) := by decide +kernel
theorem d_Mo_print_44 : decode b_Mo_print 44 = .ok (.aload_n 0, 1) := by decide +kernel
theorem d_Mo_print_45 : decode b_Mo_print 45 = .ok (.aload_n 0, 1) := by decide +kernel
theorem d_Mo_print_46 : decode b_Mo_print 46 = .ok (.getfield 34, 3) := by decide +kernel
theorem d_Mo_print_49 : decode b_Mo_print 49 = .ok (.iload_n 1, 1) := by decide +kernel
theorem d_Mo_print_50 : decode b_Mo_print 50 = .ok (.iaload, 1) := by decide +kernel
theorem d_Mo_print_51 : decode b_Mo_print 51 = .ok (.invokevirtual 147, 3) := by decide +kernel
theorem d_Mo_print_54 : decode b_Mo_print 54 = .ok (.aload_n 0, 1) := by decide +kernel
theorem d_Mo_print_55 : decode b_Mo_print 55 = .ok (.getfield 28, 3) := by decide +kernel
theorem d_Mo_print_58 : decode b_Mo_print 58 = .ok (.iload_n 1, 1) := by decide +kernel
theorem d_Mo_print_59 : decode b_Mo_print 59 = .ok (.iaload, 1) := by decide +kernel
theorem d_Mo_print_60 : decode b_Mo_print 60 = .ok (.iconst 1, 1) := by decide +kernel
theorem d_Mo_print_61 : decode b_Mo_print 61 = .ok (.if_icmp .ne 19, 3) := by decide +kernel
theorem d_Mo_print_64 : decode b_Mo_print 64 = .ok (.aload_n 0, 1) := by decide +kernel
theorem d_Mo_print_65 : decode b_Mo_print 65 = .ok (.bipush 44, 2) := by decide +kernel
theorem d_Mo_print_67 : decode b_Mo_print 67 = .ok (.invokevirtual 141, 3) := by decide +kernel
theorem d_Mo_print_70 : decode b_Mo_print 70 = .ok (.aload_n 0, 1) := by decide +kernel
theorem d_Mo_print_71 : decode b_Mo_print 71 = .ok (.aload_n 0, 1) := by decide +kernel
theorem d_Mo_print_72 : decode b_Mo_print 72 = .ok (.getfield 37, 3) := by decide +kernel
theorem d_Mo_print_75 : decode b_Mo_print 75 = .ok (.iload_n 1, 1) := by decide +kernel
theorem d_Mo_print_76 : decode b_Mo_print 76 = .ok (.iaload, 1) := by decide +kernel
theorem d_Mo_print_77 : decode b_Mo_print 77 = .ok (.invokevirtual 147, 3) := by decide +kernel
theorem d_Mo_print_80 : decode b_Mo_print 80 = .ok (.aload_n 0, 1) := by decide +kernel
theorem d_Mo_print_81 : decode b_Mo_print 81 = .ok (.getfield 28, 3) := by decide +kernel
theorem d_Mo_print_84 : decode b_Mo_print 84 = .ok (.iload_n 1, 1) := by decide +kernel
theorem d_Mo_print_85 : decode b_Mo_print 85 = .ok (.iaload, 1) := by decide +kernel
theorem d_Mo_print_86 : decode b_Mo_print 86 = .ok (.iconst 4, 1) := by decide +kernel
theorem d_Mo_print_87 : decode b_Mo_print 87 = .ok (.if_icmp .ge 21, 3) := by decide +kernel
theorem d_Mo_print_90 : decode b_Mo_print 90 = .ok (.aload_n 0, 1) := by decide +kernel
theorem d_Mo_print_91 : decode b_Mo_print 91 = .ok (.bipush 62, 2) := by decide +kernel
theorem d_Mo_print_93 : decode b_Mo_print 93 = .ok (.invokevirtual 141, 3) := by decide +kernel
theorem d_Mo_print_96 : decode b_Mo_print 96 = .ok (.aload_n 0, 1) := by decide +kernel
theorem d_Mo_print_97 : decode b_Mo_print 97 = .ok (.aload_n 0, 1) := by decide +kernel
theorem d_Mo_print_98 : decode b_Mo_print 98 = .ok (.getfield 40, 3) := by decide +kernel
theorem d_Mo_print_101 : decode b_Mo_print 101 = .ok (.iconst 2, 1) := by decide +kernel
theorem d_Mo_print_102 : decode b_Mo_print 102 = .ok (.iload_n 1, 1) := by decide +kernel
theorem d_Mo_print_103 : decode b_Mo_print 103 = .ok (.imul, 1) := by decide +kernel
theorem d_Mo_print_104 : decode b_Mo_print 104 = .ok (.iaload, 1) := by decide +kernel
theorem d_Mo_print_105 : decode b_Mo_print 105 = .ok (.invokevirtual 147, 3) := by decide +kernel
theorem d_Mo_print_108 : decode b_Mo_print 108 = .ok (.aload_n 0, 1) := by decide +kernel
theorem d_Mo_print_109 : decode b_Mo_print 109 = .ok (.getfield 28, 3) := by decide +kernel
theorem d_Mo_print_112 : decode b_Mo_print 112 = .ok (.iload_n 1, 1) := by decide +kernel
theorem d_Mo_print_113 : decode b_Mo_print 113 = .ok (.iaload, 1) := by decide +kernel
theorem d_Mo_print_114 : decode b_Mo_print 114 = .ok (.iconst 3, 1) := by decide +kernel
theorem d_Mo_print_115 : decode b_Mo_print 115 = .ok (.if_icmp .ne 23, 3) := by decide +kernel
theorem d_Mo_print_118 : decode b_Mo_print 118 = .ok (.aload_n 0, 1) := by decide +kernel
theorem d_Mo_print_119 : decode b_Mo_print 119 = .ok (.bipush 44, 2) := by decide +kernel
theorem d_Mo_print_121 : decode b_Mo_print 121 = .ok (.invokevirtual 141, 3) := by decide +kernel
theorem d_Mo_print_124 : decode b_Mo_print 124 = .ok (.aload_n 0, 1) := by decide +kernel
theorem d_Mo_print_125 : decode b_Mo_print 125 = .ok (.aload_n 0, 1) := by decide +kernel
theorem d_Mo_print_126 : decode b_Mo_print 126 = .ok (.getfield 40, 3) := by decide +kernel
theorem d_Mo_print_129 : decode b_Mo_print 129 = .ok (.iconst 2, 1) := by decide +kernel
theorem d_Mo_print_130 : decode b_Mo_print 130 = .ok (.iload_n 1, 1) := by decide +kernel
theorem d_Mo_print_131 : decode b_Mo_print 131 = .ok (.imul, 1) := by decide +kernel
theorem d_Mo_print_132 : decode b_Mo_print 132 = .ok (.iconst 1, 1) := by decide +kernel
theorem d_Mo_print_133 : decode b_Mo_print 133 = .ok (.iadd, 1) := by decide +kernel
theorem d_Mo_print_134 : decode b_Mo_print 134 = .ok (.iaload, 1) := by decide +kernel
theorem d_Mo_print_135 : decode b_Mo_print 135 = .ok (.invokevirtual 147, 3) := by decide +kernel
theorem d_Mo_print_138 : decode b_Mo_print 138 = .ok (.aload_n 0, 1) := by decide +kernel
theorem d_Mo_print_139 : decode b_Mo_print 139 = .ok (.bipush 59, 2) := by decide +kernel
theorem d_Mo_print_141 : decode b_Mo_print 141 = .ok (.invokevirtual 141, 3) := by decide +kernel
theorem d_Mo_print_144 : decode b_Mo_print 144 = .ok (.iinc 1 1, 3) := by decide +kernel
theorem d_Mo_print_147 : decode b_Mo_print 147 = .ok (.goto (-140), 3) := by decide +kernel
theorem d_Mo_print_150 : decode b_Mo_print 150 = .ok (.aload_n 0, 1) := by decide +kernel
theorem d_Mo_print_151 : decode b_Mo_print 151 = .ok (.getfield 138, 3) := by decide +kernel
theorem d_Mo_print_154 : decode b_Mo_print 154 = .ok (.ireturn, 1) := by decide +kernel
theorem d_Mo_at_0 : decode b_Mo_at 0 = .ok (.iload_n 1, 1) := by decide +kernel
theorem d_Mo_at_1 : decode b_Mo_at 1 = .ok (.ifCond .lt 20, 3) := by decide +kernel
theorem d_Mo_at_4 : decode b_Mo_at 4 = .ok (.iload_n 1, 1) := by decide +kernel
theorem d_Mo_at_5 : decode b_Mo_at 5 = .ok (.aload_n 0, 1) := by decide +kernel
theorem d_Mo_at_6 : decode b_Mo_at 6 = .ok (.getfield 138, 3) := by decide +kernel
theorem d_Mo_at_9 : decode b_Mo_at 9 = .ok (.if_icmp .ge 12, 3) := by decide +kernel
theorem d_Mo_at_12 : decode b_Mo_at 12 = .ok (.aload_n 0, 1) := by decide +kernel
theorem d_Mo_at_13 : decode b_Mo_at 13 = .ok (.getfield 60, 3) := by decide +kernel
theorem d_Mo_at_16 : decode b_Mo_at 16 = .ok (.iload_n 1, 1) := by decide +kernel
theorem d_Mo_at_17 : decode b_Mo_at 17 = .ok (.iaload, 1) := by decide +kernel
theorem d_Mo_at_18 : decode b_Mo_at 18 = .ok (.goto 4, 3) := by decide +kernel
theorem d_Mo_at_21 : decode b_Mo_at 21 = .ok (.iconst (-1), 1) := by decide +kernel
theorem d_Mo_at_22 : decode b_Mo_at 22 = .ok (.ireturn, 1) := by decide +kernel
end
section
/-! THE CONTEXT: class numbers and slots, the classes of int[], char[], int[][], boolean[], long[]; the tables LETTERS, LEAST_SIZES, MOST_SIZES -/
abbrev xG : Type := va_G × (Nat × Nat × Nat × Nat × Nat) × (Nat × Nat × Nat)
abbrev xD (g : xG) : va_G := g.1
abbrev cI (g : xG) : ClassId := g.2.1.1
abbrev cC (g : xG) : ClassId := g.2.1.2.1
abbrev cG (g : xG) : ClassId := g.2.1.2.2.1
abbrev cZ (g : xG) : ClassId := g.2.1.2.2.2.1
abbrev cL (g : xG) : ClassId := g.2.1.2.2.2.2
abbrev tL (g : xG) : Nat := g.2.2.1
abbrev tA (g : xG) : Nat := g.2.2.2.1
abbrev tB (g : xG) : Nat := g.2.2.2.2
/-- all cells that the law and its callees make -/
def xA (b0 : Nat) : Nat → Prop := fun q => b0 ≤ q
abbrev xT (g : xG) : List (ClassId × FieldType) := [(cI g, .int), (cC g, .char), (cG g, .array .int), (cZ g, .boolean), (cL g, .long)]
def xL : Nat → Int32 := fun j => [70, 66, 82, 71, 83].getD j 0
def xLo : Nat → Int32 := fun j => [1, 1, 0, 0, 1].getD j 0
def xHi : Nat → Int32 := fun j => [9999, 9999, 9999, 9999, 999].getD j 0
/-- the class of int[][]: its component is that of int[] -/
def xGk (g : xG) (U : State) : Prop := ∃ kA : Class, U.vm.classes[cG g]? = some kA ∧ kA.kind = .array (cI g) (.array .int)
theorem xGk.moved {g : xG} {u U : State} (hvm : u.vm.Alike U.vm) (h : xGk g u) : xGk g U := by
  obtain ⟨kA, h1, h2⟩ := h
  obtain ⟨k', hk', he⟩ := hvm.2.2 _ _ h1
  exact ⟨k', hk', by rw [he]; exact h2⟩
/-- the static tables, that nobody writes, and the links to them from the nest -/
def xZ (g : xG) (b0 : Nat) (U : State) (H : Heap) : Prop :=
  (va_Z R_MT "LETTERS" "[C" (.ref (tL g)) (xA b0) U H ∧ va_T .char (tL g) 5 (fun j => .int (xL j)) (xA b0) U H) ∧
  (va_Z R_MT "LEAST_SIZES" "[I" (.ref (tA g)) (xA b0) U H ∧ va_T .int (tA g) 5 (fun j => .int (xLo j)) (xA b0) U H) ∧
  (va_Z R_MT "MOST_SIZES" "[I" (.ref (tB g)) (xA b0) U H ∧ va_T .int (tB g) 5 (fun j => .int (xHi j)) (xA b0) U H) ∧
  (∀ w ∈ xNest, va_Nw w U) ∧ xGk g U
theorem xZ.kept {g : xG} {b0 : Nat} {U : State} {H H1 : Heap} (h : xZ g b0 U H) (hq : ∀ a : Nat, a < H.size → ¬ xA b0 a → H1[a]? = H[a]?) : xZ g b0 U H1 := by
  obtain ⟨⟨a1, a2⟩, ⟨b1, b2⟩, ⟨c1, c2⟩, d, k⟩ := h
  exact ⟨⟨a1.kept hq, a2.kept hq⟩, ⟨b1.kept hq, b2.kept hq⟩, ⟨c1.kept hq, c2.kept hq⟩, d, k⟩
theorem xZ.moved {g : xG} {b0 : Nat} {s U : State} {H : Heap} (hW : s.WarmedH U.vm) (h : xZ g b0 s H) : xZ g b0 U H := by
  obtain ⟨⟨a1, a2⟩, ⟨b1, b2⟩, ⟨c1, c2⟩, d, k⟩ := h
  exact ⟨⟨va_Z.moved hW.alike a1, va_T.moved hW.alike a2⟩, ⟨va_Z.moved hW.alike b1, va_T.moved hW.alike b2⟩, ⟨va_Z.moved hW.alike c1, va_T.moved hW.alike c2⟩, fun w hw => xNest_warm hW w hw (d w hw), k.moved hW.alike⟩
theorem xZ.same {g : xG} {b0 : Nat} {s U : State} {H : Heap} (hv : s.vm = U.vm) (h : xZ g b0 s H) : xZ g b0 U H := by
  have hA : s.vm.Alike U.vm := hv ▸ Vm.Alike.refl s.vm
  obtain ⟨⟨a1, a2⟩, ⟨b1, b2⟩, ⟨c1, c2⟩, d, k⟩ := h
  exact ⟨⟨va_Z.moved hA a1, va_T.moved hA a2⟩, ⟨va_Z.moved hA b1, va_T.moved hA b2⟩, ⟨va_Z.moved hA c1, va_T.moved hA c2⟩, fun w hw => va_Nw.same (xNest_on w hw) hv (d w hw), k.moved hA⟩
/-- a state that holds the world ws -/
def xS (g : xG) (b0 : Nat) (ws : va_W) (U : State) : Prop := b0 ≤ U.heap.size ∧ va_P (xD g) vwCl ws U.heap ∧ va_D (xA b0) ws ∧ va_K (xD g) vwCl (xT g) U ∧ xZ g b0 U U.heap
/-- what stands while a method runs -/
def xE (g : xG) (b0 : Nat) (cc : ByteArray) (nL : Nat) (own : String) (p : Program) (s : State) (m : MethodId) (args : Array Value) (meth : Method) (c : Code) : Prop :=
  p.tables.exec = Jvm.exec ∧ c.code = cc ∧ c.maxLocals = nL ∧ s.vm.findClass own = some m.cls ∧ (∀ w ∈ TB, w.before args s = true) ∧ va_K (xD g) vwCl (xT g) s ∧ xZ g b0 s s.heap ∧ b0 ≤ s.heap.size ∧ meth.locks = false
theorem xS.blind {g : xG} {b0 : Nat} {ws : va_W} {av : List Value} : FrameBlind (va_Pc av (xS g b0 ws)) := by
  intro a U gg mk h
  obtain ⟨h0, h1, h2, h3, h4, h5⟩ := h
  exact ⟨h0, h1, h2, h3, va_K.moved (u := U) (U := U.calling gg mk a) (Vm.Alike.refl U.vm) h4, xZ.same (s := U) (U := U.calling gg mk a) rfl h5⟩
/-- a level of the calls: its frames and locals -/
abbrev rmL (lev : Nat) : Room := { frames := lev, cells := 0, slots := 0, locals := 40 * lev }
abbrev rmC (lev mc ms : Nat) : Room := { frames := lev, cells := mc, slots := ms, locals := 40 * lev }
/-- contracts: M changes the world (u is the new one), R reads -/
def xMi (l : Launch) (g : xG) (b0 : Nat) (y : MethodName) (cc : ByteArray) (nL : Nat) (ret : Option FieldType) (lev : Nat) (av : List Value) (ws : va_W) (post : Int32 → va_W → Prop) : Prop :=
  Met l y (Cond.code y cc nL ret :: TB) (rmL lev) (va_Pc av (xS g b0 ws)) (va_Qi post (fun u t => va_P (xD g) vwCl u t.heap ∧ va_D (xA b0) u) (xA b0)) 0 0 (xA b0)
def xMv (l : Launch) (g : xG) (b0 : Nat) (y : MethodName) (cc : ByteArray) (nL : Nat) (lev : Nat) (av : List Value) (ws : va_W) (post : va_W → Prop) : Prop :=
  Met l y (Cond.code y cc nL none :: TB) (rmL lev) (va_Pc av (xS g b0 ws)) (va_Qv post (fun u t => va_P (xD g) vwCl u t.heap ∧ va_D (xA b0) u) (xA b0)) 0 0 (xA b0)
/-- a constructor: mc cells of ms slots are made -/
def xMc (l : Launch) (g : xG) (b0 : Nat) (y : MethodName) (cc : ByteArray) (nL : Nat) (lev mc ms : Nat) (av : List Value) (ws : va_W) (post : va_W → Prop) : Prop :=
  Met l y (Cond.code y cc nL none :: TB) (rmC lev mc ms) (va_Pc av (xS g b0 ws)) (va_Qv post (fun u t => va_P (xD g) vwCl u t.heap ∧ va_D (xA b0) u) (xA b0)) mc ms (xA b0)
def xRi (l : Launch) (g : xG) (b0 : Nat) (y : MethodName) (cc : ByteArray) (nL : Nat) (ret : Option FieldType) (lev : Nat) (av : List Value) (ws : va_W) (post : Int32 → Prop) : Prop :=
  Met l y (Cond.code y cc nL ret :: TB) (rmL lev) (va_Pc av (xS g b0 ws)) (vp_Si post) 0 0 (fun _ => False)
def xRl (l : Launch) (g : xG) (b0 : Nat) (y : MethodName) (cc : ByteArray) (nL : Nat) (lev : Nat) (av : List Value) (ws : va_W) (post : Int64 → Prop) : Prop :=
  Met l y (Cond.code y cc nL (some .long) :: TB) (rmL lev) (va_Pc av (xS g b0 ws)) (vp_Sl post) 0 0 (fun _ => False)
section XIN
variable {l : Launch} {g : xG} {b0 : Nat} {y : MethodName} {cc : ByteArray} {nL : Nat} {ret : Option FieldType} {lev mc ms : Nat} {av : List Value} {ws : va_W}
/-- the entry, for every kind of contract -/
theorem x_in {rm : Room} {Qc : Array Value → State → Outcome → State → Prop} {free : Addr → Prop} (hy : plainName y.cls = true) (hn : (lg_sl av).length ≤ nL)
    (body : ∀ (p : Program) (e : Env) (s : State) (m : MethodId) (below : List Frame) (meth : Method) (c : Code) (ls : Array Slot), xE g b0 cc nL y.cls p s m av.toArray meth c → meth.sig.returnType = ret → (y.name = "<init>" → meth.name = "<init>") → va_P (xD g) vwCl ws s.heap → va_D (xA b0) ws → lv_has ls nL (lv_args 0 av) →
      W p l e rm s m av.toArray below meth c s.heap [] 0 0 (MQ below Qc av.toArray s mc ms free) (F0 m 0 ls [])) :
    Met l y (Cond.code y cc nL ret :: TB) rm (va_Pc av (xS g b0 ws)) Qc mc ms free := by
  refine Met.ofW (cc := cc) (maxL := nL) (ret := ret) hy rfl ?_
  intro p e s m args below meth c s₁ B hml hv
  obtain ⟨rfl, h1, h2, h3, h4, h5⟩ := hv
  have hts := atoms_spec (ws := Cond.code y cc nL ret :: TB) B.pre
  have hl := lv_entry av (n := nL) hn
  rw [lg_entry_eq]
  generalize (lg_sl av ++ List.replicate (nL - (lg_sl av).length) Slot.unset).toArray = ls at hl ⊢
  exact body p e s m below meth c ls ⟨B.exec, B.bytes, hml, findClass_of_methodNamed B.named, fun w hw => hts w (List.mem_cons_of_mem _ hw), h4, h5, h1, B.notSynchronized⟩ B.returns (fun hi => by rw [← hi]; exact (name_of_methodNamed B.named B.method).1) h2 h3 hl
end XIN
section XRT
variable {p : Program} {l : Launch} {e : Env} {R : Room} {s : State} {m : MethodId} {args : Array Value} {below : List Frame} {meth : Method} {c : Code} {H : Heap} {locs : List Loc} {cells slots : Nat} {Q : State → Prop}
variable {cc : ByteArray} {pc nL : Nat} {ls : Array Slot} {rest : List Value} {g : xG} {b0 : Nat} {ws : va_W} {own : String}
theorem x_top {x y : Int32} (h : x = y) (k : W p l e R s m args below meth c H locs cells slots Q (F0 m pc ls (.int y :: rest))) : W p l e R s m args below meth c H locs cells slots Q (F0 m pc ls (.int x :: rest)) := by rw [h]; exact k
theorem x_topL {x y : Int64} (h : x = y) (k : W p l e R s m args below meth c H locs cells slots Q (F0 m pc ls (.long y :: rest))) : W p l e R s m args below meth c H locs cells slots Q (F0 m pc ls (.long x :: rest)) := by rw [h]; exact k
/-- ends -/
theorem x_ri (E : xE g b0 cc nL own p s m args meth c) (hr : meth.sig.returnType = some .int) (hS : va_S (xA b0) s.heap H locs) {post : Int32 → va_W → Prop} {v : Int32} (hp : post v ws) (hP : va_P (xD g) vwCl ws H) (hD : va_D (xA b0) ws) (hdg : decode cc pc = .ok (.ireturn, 1)) :
    W p l e R s m args below meth c H locs cells slots (MQ below (va_Qi post (fun u t => va_P (xD g) vwCl u t.heap ∧ va_D (xA b0) u) (xA b0)) args s cells slots (xA b0)) (F0 m pc ls [.int v]) :=
  W.iret E.1 E.2.1 hr (fun t ht hW => ⟨⟨v, ws, rfl, hp, by rw [ht]; exact hP, hD⟩, hS.F ht⟩) hS.2.2 hdg E.2.2.2.2.2.2.2.2
theorem x_rz (E : xE g b0 cc nL own p s m args meth c) (hr : meth.sig.returnType = some .boolean) (hS : va_S (xA b0) s.heap H locs) {post : Int32 → va_W → Prop} {v : Int32} (hv : narrow .boolean (.int v) = .int v) (hp : post v ws) (hP : va_P (xD g) vwCl ws H) (hD : va_D (xA b0) ws) (hdg : decode cc pc = .ok (.ireturn, 1)) :
    W p l e R s m args below meth c H locs cells slots (MQ below (va_Qi post (fun u t => va_P (xD g) vwCl u t.heap ∧ va_D (xA b0) u) (xA b0)) args s cells slots (xA b0)) (F0 m pc ls [.int v]) :=
  W.zret E.1 E.2.1 hr hv (fun t ht hW => ⟨⟨v, ws, rfl, hp, by rw [ht]; exact hP, hD⟩, hS.F ht⟩) hS.2.2 hdg E.2.2.2.2.2.2.2.2
theorem x_rv (E : xE g b0 cc nL own p s m args meth c) (hr : meth.sig.returnType = none) (hS : va_S (xA b0) s.heap H locs) {post : va_W → Prop} (hp : post ws) (hP : va_P (xD g) vwCl ws H) (hD : va_D (xA b0) ws) (hdg : decode cc pc = .ok (.return_, 1)) :
    W p l e R s m args below meth c H locs cells slots (MQ below (va_Qv post (fun u t => va_P (xD g) vwCl u t.heap ∧ va_D (xA b0) u) (xA b0)) args s cells slots (xA b0)) (F0 m pc ls []) :=
  W.vret E.1 E.2.1 hr (fun t ht hW => ⟨⟨ws, rfl, hp, by rw [ht]; exact hP, hD⟩, hS.F ht⟩) hS.2.2 hdg E.2.2.2.2.2.2.2.2
theorem x_pi (E : xE g b0 cc nL own p s m args meth c) (hr : meth.sig.returnType = some .int) {post : Int32 → Prop} {v : Int32} (hp : post v) (hdg : decode cc pc = .ok (.ireturn, 1)) :
    W p l e R s m args below meth c s.heap [] cells slots (MQ below (vp_Si post) args s cells slots (fun _ => False)) (F0 m pc ls [.int v]) :=
  W.iret E.1 E.2.1 hr (fun t ht hW => ⟨v, rfl, hp, ht⟩) (fun _ h => by cases h) hdg E.2.2.2.2.2.2.2.2
theorem x_pz (E : xE g b0 cc nL own p s m args meth c) (hr : meth.sig.returnType = some .boolean) {post : Int32 → Prop} {v : Int32} (hv : narrow .boolean (.int v) = .int v) (hp : post v) (hdg : decode cc pc = .ok (.ireturn, 1)) :
    W p l e R s m args below meth c s.heap [] cells slots (MQ below (vp_Si post) args s cells slots (fun _ => False)) (F0 m pc ls [.int v]) :=
  W.zret E.1 E.2.1 hr hv (fun t ht hW => ⟨v, rfl, hp, ht⟩) (fun _ h => by cases h) hdg E.2.2.2.2.2.2.2.2
theorem x_pl (E : xE g b0 cc nL own p s m args meth c) (hr : meth.sig.returnType = some .long) {post : Int64 → Prop} {v : Int64} (hp : post v) (hdg : decode cc pc = .ok (.lreturn, 1)) :
    W p l e R s m args below meth c s.heap [] cells slots (MQ below (vp_Sl post) args s cells slots (fun _ => False)) (F0 m pc ls [.long v]) :=
  W.lret E.1 E.2.1 hr (fun t ht hW => ⟨v, rfl, hp, ht⟩) (fun _ h => by cases h) hdg E.2.2.2.2.2.2.2.2
/-- worlds by their places: w1 is ws, but for the place q, where x stands -/
def xU (ws : va_W) (q : Nat) (x : Nat × va_E) (w1 : va_W) : Prop := w1[q]? = some x ∧ ∀ k, k ≠ q → w1[k]? = ws[k]?
theorem xU.of {ws : va_W} {q : Nat} {y x : Nat × va_E} (h : ws[q]? = some y) : xU ws q x (ws.set q x) := by
  have hl : q < ws.length := (List.getElem?_eq_some_iff.mp h).1
  exact ⟨by simp [hl], fun k hk => by rw [List.getElem?_set_ne (Ne.symm hk)]⟩
/-- w1 is ws, but for the places lo .. hi - 1 -/
def xQ (lo hi : Nat) (ws w1 : va_W) : Prop := ∀ k, (k < lo ∨ hi ≤ k) → w1[k]? = ws[k]?
theorem xQ.rf {lo hi : Nat} {ws : va_W} : xQ lo hi ws ws := fun _ _ => rfl
theorem xQ.tr {lo hi : Nat} {w0 w1 w2 : va_W} (h : xQ lo hi w0 w1) (h2 : xQ lo hi w1 w2) : xQ lo hi w0 w2 := fun k hk => (h2 k hk).trans (h k hk)
theorem xQ.up {lo hi q : Nat} {w0 w1 w2 : va_W} {x : Nat × va_E} (h : xQ lo hi w0 w1) (h2 : xU w1 q x w2) (hq : lo ≤ q ∧ q < hi) : xQ lo hi w0 w2 := fun k hk => (h2.2 k (by omega)).trans (h k hk)
theorem xQ.wide {lo hi lo' hi' : Nat} {w0 w1 : va_W} (h : xQ lo hi w0 w1) (h2 : lo' ≤ lo ∧ hi ≤ hi') : xQ lo' hi' w0 w1 := fun k hk => h k (by omega)
/-- getfield, putfield -/
theorem x_get (E : xE g b0 cc nL own p s m args meth c) (hP : va_P (xD g) vwCl ws H) {q0 ci a : Nat} {fs : List Value} (he : ws[q0]? = some (a, .inr (ci, fs))) {C : String} {T : u_T} {N : Nat} (hc : vwCl[ci]? = some (C, T, N)) (hin : ∀ w ∈ u_ws C T N, w ∈ TB) (k : Nat) (hk : k < N) {index : Nat} (hlink : Cond.fieldLink own index (T k).1 (T k).2.1 (T k).2.2.1 ∈ TB) {v : Value} (hv : fs[k]? = some v) (hdg : decode cc pc = .ok (.getfield index, 3))
    (kk : W p l e R s m args below meth c H locs cells slots Q (F0 m (pc + 3) ls (v :: rest))) : W p l e R s m args below meth c H locs cells slots Q (F0 m pc ls (.ref a :: rest)) :=
  va_get E.1 E.2.1 E.2.2.2.2.1 hin E.2.2.2.1 E.2.2.2.2.2.1 hP q0 he hc k hk (E.2.2.2.2.1 _ hlink) (fun _ h => h) hv hdg kk
theorem x_put (E : xE g b0 cc nL own p s m args meth c) (hP : va_P (xD g) vwCl ws H) (hD : va_D (xA b0) ws) (hS : va_S (xA b0) s.heap H locs) {q0 ci a : Nat} {fs : List Value} (he : ws[q0]? = some (a, .inr (ci, fs))) {C : String} {T : u_T} {N : Nat} (hc : vwCl[ci]? = some (C, T, N)) (hin : ∀ w ∈ u_ws C T N, w ∈ TB) {ty0 : Nat → FieldType} (hty : ∀ k, k < N → parseFieldDescriptor (T k).2.2.1 = some (ty0 k)) (hnm : ∀ a, a < N → ∀ b, b < N → a ≠ b → (T a).2.1 ≠ (T b).2.1)
    (k : Nat) (hk : k < N) {index : Nat} (hlink : Cond.fieldLink own index (T k).1 (T k).2.1 (T k).2.2.1 ∈ TB) (hfin : (T k).2.2.2 = false) {v : Value} (hn : narrow (ty0 k) v = v) (hfit : fits (ty0 k) v = true) (hl : k < fs.length) (hdg : decode cc pc = .ok (.putfield index, 3))
    (kk : ∀ (w1 : va_W) (H1 : Heap) (locs1 : List Loc), xU ws q0 (a, .inr (ci, fs.set k v)) w1 → va_P (xD g) vwCl w1 H1 → va_D (xA b0) w1 → va_S (xA b0) s.heap H1 locs1 → W p l e R s m args below meth c H1 locs1 cells slots Q (F0 m (pc + 3) ls rest)) : W p l e R s m args below meth c H locs cells slots Q (F0 m pc ls (v :: .ref a :: rest)) :=
  va_put E.1 E.2.1 E.2.2.2.2.1 hin ty0 hty hnm E.2.2.2.1 E.2.2.2.2.2.1 hP hD hS q0 he hc k hk (E.2.2.2.2.1 _ hlink) (fun _ h => h) hfin (hty k hk) hn hfit hl hdg (fun H1 locs1 h1 h2 h3 => kk _ H1 locs1 (xU.of he) h1 h2 h3)
theorem x_putF (E : xE g b0 cc nL own p s m args meth c) (hP : va_P (xD g) vwCl ws H) (hD : va_D (xA b0) ws) (hS : va_S (xA b0) s.heap H locs) {q0 ci a : Nat} {fs : List Value} (he : ws[q0]? = some (a, .inr (ci, fs))) {C : String} {T : u_T} {N : Nat} (hc : vwCl[ci]? = some (C, T, N)) (hin : ∀ w ∈ u_ws C T N, w ∈ TB) {ty0 : Nat → FieldType} (hty : ∀ k, k < N → parseFieldDescriptor (T k).2.2.1 = some (ty0 k)) (hnm : ∀ a, a < N → ∀ b, b < N → a ≠ b → (T a).2.1 ≠ (T b).2.1)
    (k : Nat) (hk : k < N) {index : Nat} (hlink : Cond.fieldLink own index (T k).1 (T k).2.1 (T k).2.2.1 ∈ TB) (hfin : (T k).2.2.2 = true) (hi : meth.name = "<init>") (hdecl : (T k).1 = own) {v : Value} (hn : narrow (ty0 k) v = v) (hfit : fits (ty0 k) v = true) (hl : k < fs.length) (hdg : decode cc pc = .ok (.putfield index, 3))
    (kk : ∀ (w1 : va_W) (H1 : Heap) (locs1 : List Loc), xU ws q0 (a, .inr (ci, fs.set k v)) w1 → va_P (xD g) vwCl w1 H1 → va_D (xA b0) w1 → va_S (xA b0) s.heap H1 locs1 → W p l e R s m args below meth c H1 locs1 cells slots Q (F0 m (pc + 3) ls rest)) : W p l e R s m args below meth c H locs cells slots Q (F0 m pc ls (v :: .ref a :: rest)) :=
  va_putF E.1 E.2.1 E.2.2.2.2.1 hin ty0 hty hnm E.2.2.2.1 E.2.2.2.2.2.1 hP hD hS q0 he hc k hk (E.2.2.2.2.1 _ hlink) (fun _ h => h) hfin hi hdecl (hty k hk) hn hfit hl hdg (fun H1 locs1 h1 h2 h3 => kk _ H1 locs1 (xU.of he) h1 h2 h3)
/-- arrays -/
theorem x_iald (E : xE g b0 cc nL own p s m args meth c) (hP : va_P (xD g) vwCl ws H) {q0 a n : Nat} {f : Nat → Int32} (he : ws[q0]? = some (a, .inl (cI g, n, .inl f))) {i : Int32} {j : Nat} (hi : i = nI j) (hj : j < n) (hn : n < 2 ^ 31) (hdg : decode cc pc = .ok (.iaload, 1))
    (kk : W p l e R s m args below meth c H locs cells slots Q (F0 m (pc + 1) ls (.int (f j) :: rest))) : W p l e R s m args below meth c H locs cells slots Q (F0 m pc ls (.int i :: .ref a :: rest)) := by
  subst hi
  refine va_iald E.1 E.2.1 E.2.2.2.2.2.1 hP q0 0 he rfl (vp_in_nI hj hn) hdg ?_
  rw [nI_clamp (Nat.lt_trans hj hn)]
  exact kk
theorem x_cald (E : xE g b0 cc nL own p s m args meth c) (hP : va_P (xD g) vwCl ws H) {q0 a n : Nat} {f : Nat → Int32} (he : ws[q0]? = some (a, .inl (cC g, n, .inl f))) {i : Int32} {j : Nat} (hi : i = nI j) (hj : j < n) (hn : n < 2 ^ 31) (hdg : decode cc pc = .ok (.caload, 1))
    (kk : W p l e R s m args below meth c H locs cells slots Q (F0 m (pc + 1) ls (.int (f j) :: rest))) : W p l e R s m args below meth c H locs cells slots Q (F0 m pc ls (.int i :: .ref a :: rest)) := by
  subst hi
  refine va_cald E.1 E.2.1 E.2.2.2.2.2.1 hP q0 1 he rfl (vp_in_nI hj hn) hdg ?_
  rw [nI_clamp (Nat.lt_trans hj hn)]
  exact kk
theorem x_iast (E : xE g b0 cc nL own p s m args meth c) (hP : va_P (xD g) vwCl ws H) (hD : va_D (xA b0) ws) (hS : va_S (xA b0) s.heap H locs) {q0 a n : Nat} {f : Nat → Int32} (he : ws[q0]? = some (a, .inl (cI g, n, .inl f))) {i x : Int32} {j : Nat} (hi : i = nI j) (hj : j < n) (hn : n < 2 ^ 31) (hdg : decode cc pc = .ok (.iastore, 1))
    (kk : ∀ (w1 : va_W) (H1 : Heap) (locs1 : List Loc), xU ws q0 (a, .inl (cI g, n, .inl (upd f j x))) w1 → va_P (xD g) vwCl w1 H1 → va_D (xA b0) w1 → va_S (xA b0) s.heap H1 locs1 → W p l e R s m args below meth c H1 locs1 cells slots Q (F0 m (pc + 1) ls rest)) : W p l e R s m args below meth c H locs cells slots Q (F0 m pc ls (.int x :: .int i :: .ref a :: rest)) := by
  subst hi
  refine va_iast E.1 E.2.1 E.2.2.2.2.2.1 hP hD hS q0 0 he rfl (vp_in_nI hj hn) hdg (fun H1 locs1 h1 h2 h3 => ?_)
  rw [nI_clamp (Nat.lt_trans hj hn)] at h1 h2
  exact kk _ H1 locs1 (xU.of he) h1 h2 h3
theorem x_cast (E : xE g b0 cc nL own p s m args meth c) (hP : va_P (xD g) vwCl ws H) (hD : va_D (xA b0) ws) (hS : va_S (xA b0) s.heap H locs) {q0 a n : Nat} {f : Nat → Int32} (he : ws[q0]? = some (a, .inl (cC g, n, .inl f))) {i x : Int32} {j : Nat} (hi : i = nI j) (hj : j < n) (hn : n < 2 ^ 31) (hdg : decode cc pc = .ok (.castore, 1))
    (kk : ∀ (w1 : va_W) (H1 : Heap) (locs1 : List Loc), xU ws q0 (a, .inl (cC g, n, .inl (upd f j (vp_nar .char x)))) w1 → va_P (xD g) vwCl w1 H1 → va_D (xA b0) w1 → va_S (xA b0) s.heap H1 locs1 → W p l e R s m args below meth c H1 locs1 cells slots Q (F0 m (pc + 1) ls rest)) : W p l e R s m args below meth c H locs cells slots Q (F0 m pc ls (.int x :: .int i :: .ref a :: rest)) := by
  subst hi
  refine va_cast E.1 E.2.1 E.2.2.2.2.2.1 hP hD hS q0 1 he rfl (vp_in_nI hj hn) hdg (fun H1 locs1 h1 h2 h3 => ?_)
  rw [nI_clamp (Nat.lt_trans hj hn)] at h1 h2
  exact kk _ H1 locs1 (xU.of he) h1 h2 h3
theorem x_ilen (E : xE g b0 cc nL own p s m args meth c) (hP : va_P (xD g) vwCl ws H) {q0 a n : Nat} {x : (Nat → Int32) ⊕ (Nat → Int64) ⊕ (Nat → UInt32) ⊕ (Nat → UInt64) ⊕ (Nat → Option Nat)} (he : ws[q0]? = some (a, .inl (cI g, n, x))) (hdg : decode cc pc = .ok (.arraylength, 1))
    (kk : W p l e R s m args below meth c H locs cells slots Q (F0 m (pc + 1) ls (.int (nI n) :: rest))) : W p l e R s m args below meth c H locs cells slots Q (F0 m pc ls (.ref a :: rest)) :=
  va_alen E.1 E.2.1 E.2.2.2.2.2.1 hP q0 0 he rfl rfl hdg kk
theorem x_clen (E : xE g b0 cc nL own p s m args meth c) (hP : va_P (xD g) vwCl ws H) {q0 a n : Nat} {x : (Nat → Int32) ⊕ (Nat → Int64) ⊕ (Nat → UInt32) ⊕ (Nat → UInt64) ⊕ (Nat → Option Nat)} (he : ws[q0]? = some (a, .inl (cC g, n, x))) (hdg : decode cc pc = .ok (.arraylength, 1))
    (kk : W p l e R s m args below meth c H locs cells slots Q (F0 m (pc + 1) ls (.int (nI n) :: rest))) : W p l e R s m args below meth c H locs cells slots Q (F0 m pc ls (.ref a :: rest)) :=
  va_alen E.1 E.2.1 E.2.2.2.2.2.1 hP q0 1 he rfl rfl hdg kk
/-- a row out of an array of rows: its j-th row lies at r j -/
theorem x_aald (E : xE g b0 cc nL own p s m args meth c) (hP : va_P (xD g) vwCl ws H) {q0 a n : Nat} {f : Nat → Option Nat} (he : ws[q0]? = some (a, .inl (cG g, n, .inr (.inr (.inr (.inr f)))))) {i : Int32} {j y : Nat} (hi : i = nI j) (hj : j < n) (hn : n < 2 ^ 31) (hy : f j = some y) (hdg : decode cc pc = .ok (.aaload, 1))
    (kk : W p l e R s m args below meth c H locs cells slots Q (F0 m (pc + 1) ls (.ref y :: rest))) : W p l e R s m args below meth c H locs cells slots Q (F0 m pc ls (.int i :: .ref a :: rest)) := by
  subst hi
  have hcl : (nI j).toNatClampNeg = j := nI_clamp (Nat.lt_trans hj hn)
  refine W.aald (v := .ref y) (ty := .array .int) E.1 E.2.1 (hP q0 _ he) ((E.2.2.2.2.2.1.2 2 _ rfl).1 n (fun j => va_rf (f j))) rfl (fun q => by cases q) (by show ¬ (_ < 0 ∨ (arrV _ _ _).slots.size ≤ _); rw [arrV_size]; exact vp_in_nI hj hn) (by show (arrV _ _ _).slots[_]? = _; rw [hcl, arrV_read _ _ hj, hy]; rfl) rfl rfl hdg kk
/-- the static tables -/
theorem x_in5 {j : Nat} (h : j < 5) : vp_in (nI j) 5 := vp_in_nI h (by decide)
end XRT
section XCL
variable {p : Program} {l : Launch} {e : Env} {R : Room} {s : State} {m : MethodId} {args : Array Value} {below : List Frame} {meth : Method} {c : Code} {H : Heap} {locs : List Loc} {cells slots : Nat} {Q : State → Prop}
variable {cc : ByteArray} {pc nL : Nat} {ls : Array Slot} {rest st0 : List Value} {g : xG} {b0 : Nat} {ws : va_W} {own : String}
variable {y : MethodName} {bytes : ByteArray} {maxL n lev mc ms index : Nat} {ret : Option FieldType} {As : List Value} {b : Nat}
theorem xS.at (E : xE g b0 cc nL own p s m args meth c) (hP : va_P (xD g) vwCl ws H) (hD : va_D (xA b0) ws) (hS : va_S (xA b0) s.heap H locs) {U : State} (hU : U.heap = H) (hW : s.WarmedH U.vm) : xS g b0 ws U := by
  subst hU
  exact ⟨Nat.le_trans E.2.2.2.2.2.2.2.1 hS.1, hP, hD, va_K.moved hW.alike E.2.2.2.2.2.1, (E.2.2.2.2.2.2.1.kept hS.2.1).moved hW⟩
theorem x_words (hts : ∀ w ∈ TB, w.before args s = true) (hc : Cond.code y bytes maxL ret ∈ TB) : ∀ w ∈ Cond.code y bytes maxL ret :: TB, ∀ (a' : Array Value) (U : State), s.WarmedH U.vm → w.before a' U = true := by
  intro w hw a' U hW
  have hw' : w ∈ TB := by
    rcases List.mem_cons.mp hw with h | h
    · rw [h]; exact hc
    · exact h
  exact word_at hW (TB_good w hw') (hts w hw')
theorem x_cb (E : xE g b0 cc nL own p s m args meth c) (Y : xY y bytes maxL ret n) (hlink : Cond.methodLink own index y ∈ TB) (hR : lev + 1 ≤ R.frames ∧ 40 * lev + 40 ≤ R.locals) {rm : Room} (hrm : rm = rmC lev mc ms) : CallB R s args own index y bytes maxL ret (Cond.code y bytes maxL ret :: TB) rm mc ms n := by
  subst hrm
  have hts := E.2.2.2.2.1
  obtain ⟨y1, y2, ⟨y3, y4, y5⟩, y6⟩ := Y
  refine ⟨rfl, rfl, hR.1, ?_, x_words hts y2, List.mem_cons_self, hts _ y2, hts _ y1, ⟨y3, y4⟩, fun sig h => ?_, hts _ hlink⟩
  · show 8 + (maxL + 11) + 40 * lev ≤ R.locals
    omega
  · rw [h] at y5
    exact (Option.some.inj y5).symm
theorem x_pre (E : xE g b0 cc nL own p s m args meth c) (hP : va_P (xD g) vwCl ws H) (hD : va_D (xA b0) ws) (hS : va_S (xA b0) s.heap H locs) {av : List Value} : PreS s H (va_Pc av (xS g b0 ws)) av := ⟨xS.blind, fun U hU hW => ⟨rfl, xS.at E hP hD hS hU hW⟩⟩
theorem x_preV (E : xE g b0 cc nL own p s m args meth c) (hP : va_P (xD g) vwCl ws H) (hD : va_D (xA b0) ws) (hS : va_S (xA b0) s.heap H locs) {q0 ci : Nat} {fs : List Value} {C : String} {T : u_T} {N : Nat} (he : ws[q0]? = some (b, .inr (ci, fs))) (hc : vwCl[ci]? = some (C, T, N)) : PreV s H C b (va_Pc (.ref b :: As) (xS g b0 ws)) As :=
  ⟨xS.blind, va_recv E.2.2.2.2.2.1 hP hc he, fun U hU hW => ⟨rfl, xS.at E hP hD hS hU hW⟩⟩
/-- invokevirtual: M with an int, M without an answer, R with an int, R with a long -/
theorem x_cVi (E : xE g b0 cc nL own p s m args meth c) {post : Int32 → va_W → Prop} (hM : xMi l g b0 y bytes maxL ret lev (.ref b :: As) ws post) (Y : xY y bytes maxL ret As.length) (hw : Cond.methodLink own index y ∈ TB ∧ Cond.instanceMethod y ∈ TB ∧ Cond.selects y.cls y y ∈ TB) (hP : va_P (xD g) vwCl ws H) (hD : va_D (xA b0) ws) (hS : va_S (xA b0) s.heap H locs) {q0 ci : Nat} {fs : List Value} {T : u_T} {N : Nat} (he : ws[q0]? = some (b, .inr (ci, fs))) (hc : vwCl[ci]? = some (y.cls, T, N)) (hl : ls.size = nL) (hR : lev + 1 ≤ R.frames ∧ 40 * lev + 40 ≤ R.locals) (hcs : cells ≤ R.cells ∧ slots ≤ R.slots) (hst : st0 = As.reverse ++ .ref b :: rest) (hcat : (rest.map fun v => v.category).sum ≤ 8) (hdg : decode cc pc = .ok (.invokevirtual index, 3))
    (kk : ∀ (r : Int32) (u : va_W) (H1 : Heap) (locs1 : List Loc), post r u → va_P (xD g) vwCl u H1 → va_D (xA b0) u → va_S (xA b0) s.heap H1 locs1 → W p l e R s m args below meth c H1 locs1 cells slots Q (F0 m (pc + 3) ls (.int r :: rest))) : W p l e R s m args below meth c H locs cells slots Q (F0 m pc ls st0) := by
  have hts := E.2.2.2.2.1
  refine va_calli (va_runV (As := As) (rest := rest) ⟨E.1, E.2.1, E.2.2.1, E.2.2.2.1, hts⟩ hM ⟨x_cb E Y hw.1 hR rfl, hts _ hw.2.1, hts _ hw.2.2⟩ (x_preV E hP hD hS he hc) rfl rfl hl hst (lv_room hcat) hdg hcs) hS (fun q _ h => h) (fun q h => h) (fun r u t H1 locs1 ht hvm hp hB hz hk hS1 => ?_)
  subst ht
  exact kk r u _ locs1 hp hB.1 hB.2 hS1
theorem x_cVv (E : xE g b0 cc nL own p s m args meth c) {post : va_W → Prop} (hM : xMv l g b0 y bytes maxL lev (.ref b :: As) ws post) (Y : xY y bytes maxL none As.length) (hw : Cond.methodLink own index y ∈ TB ∧ Cond.instanceMethod y ∈ TB ∧ Cond.selects y.cls y y ∈ TB) (hP : va_P (xD g) vwCl ws H) (hD : va_D (xA b0) ws) (hS : va_S (xA b0) s.heap H locs) {q0 ci : Nat} {fs : List Value} {T : u_T} {N : Nat} (he : ws[q0]? = some (b, .inr (ci, fs))) (hc : vwCl[ci]? = some (y.cls, T, N)) (hl : ls.size = nL) (hR : lev + 1 ≤ R.frames ∧ 40 * lev + 40 ≤ R.locals) (hcs : cells ≤ R.cells ∧ slots ≤ R.slots) (hst : st0 = As.reverse ++ .ref b :: rest) (hcat : (rest.map fun v => v.category).sum ≤ 8) (hdg : decode cc pc = .ok (.invokevirtual index, 3))
    (kk : ∀ (u : va_W) (H1 : Heap) (locs1 : List Loc), post u → va_P (xD g) vwCl u H1 → va_D (xA b0) u → va_S (xA b0) s.heap H1 locs1 → W p l e R s m args below meth c H1 locs1 cells slots Q (F0 m (pc + 3) ls rest)) : W p l e R s m args below meth c H locs cells slots Q (F0 m pc ls st0) := by
  have hts := E.2.2.2.2.1
  refine va_callv (va_runV (As := As) (rest := rest) ⟨E.1, E.2.1, E.2.2.1, E.2.2.2.1, hts⟩ hM ⟨x_cb E Y hw.1 hR rfl, hts _ hw.2.1, hts _ hw.2.2⟩ (x_preV E hP hD hS he hc) rfl rfl hl hst (lv_room hcat) hdg hcs) hS (fun q _ h => h) (fun q h => h) (fun u t H1 locs1 ht hvm hp hB hz hk hS1 => ?_)
  subst ht
  exact kk u _ locs1 hp hB.1 hB.2 hS1
theorem x_cRi (E : xE g b0 cc nL own p s m args meth c) {post : Int32 → Prop} (hM : xRi l g b0 y bytes maxL ret lev (.ref b :: As) ws post) (Y : xY y bytes maxL ret As.length) (hw : Cond.methodLink own index y ∈ TB ∧ Cond.instanceMethod y ∈ TB ∧ Cond.selects y.cls y y ∈ TB) (hP : va_P (xD g) vwCl ws H) (hD : va_D (xA b0) ws) (hS : va_S (xA b0) s.heap H locs) {q0 ci : Nat} {fs : List Value} {T : u_T} {N : Nat} (he : ws[q0]? = some (b, .inr (ci, fs))) (hc : vwCl[ci]? = some (y.cls, T, N)) (hl : ls.size = nL) (hR : lev + 1 ≤ R.frames ∧ 40 * lev + 40 ≤ R.locals) (hcs : cells ≤ R.cells ∧ slots ≤ R.slots) (hst : st0 = As.reverse ++ .ref b :: rest) (hcat : (rest.map fun v => v.category).sum ≤ 8) (hdg : decode cc pc = .ok (.invokevirtual index, 3))
    (kk : ∀ r : Int32, post r → W p l e R s m args below meth c H locs cells slots Q (F0 m (pc + 3) ls (.int r :: rest))) : W p l e R s m args below meth c H locs cells slots Q (F0 m pc ls st0) := by
  have hts := E.2.2.2.2.1
  exact vp_callSi (va_Run.run (va_runV (As := As) (rest := rest) ⟨E.1, E.2.1, E.2.2.1, E.2.2.2.1, hts⟩ hM ⟨x_cb E Y hw.1 hR rfl, hts _ hw.2.1, hts _ hw.2.2⟩ (x_preV E hP hD hS he hc) rfl rfl hl hst (lv_room hcat) hdg hcs)) kk
theorem x_cRl (E : xE g b0 cc nL own p s m args meth c) {post : Int64 → Prop} (hM : xRl l g b0 y bytes maxL lev (.ref b :: As) ws post) (Y : xY y bytes maxL (some .long) As.length) (hw : Cond.methodLink own index y ∈ TB ∧ Cond.instanceMethod y ∈ TB ∧ Cond.selects y.cls y y ∈ TB) (hP : va_P (xD g) vwCl ws H) (hD : va_D (xA b0) ws) (hS : va_S (xA b0) s.heap H locs) {q0 ci : Nat} {fs : List Value} {T : u_T} {N : Nat} (he : ws[q0]? = some (b, .inr (ci, fs))) (hc : vwCl[ci]? = some (y.cls, T, N)) (hl : ls.size = nL) (hR : lev + 1 ≤ R.frames ∧ 40 * lev + 40 ≤ R.locals) (hcs : cells ≤ R.cells ∧ slots ≤ R.slots) (hst : st0 = As.reverse ++ .ref b :: rest) (hcat : (rest.map fun v => v.category).sum ≤ 8) (hdg : decode cc pc = .ok (.invokevirtual index, 3))
    (kk : ∀ r : Int64, post r → W p l e R s m args below meth c H locs cells slots Q (F0 m (pc + 3) ls (.long r :: rest))) : W p l e R s m args below meth c H locs cells slots Q (F0 m pc ls st0) := by
  have hts := E.2.2.2.2.1
  exact vp_callSl (va_Run.run (va_runV (As := As) (rest := rest) ⟨E.1, E.2.1, E.2.2.1, E.2.2.2.1, hts⟩ hM ⟨x_cb E Y hw.1 hR rfl, hts _ hw.2.1, hts _ hw.2.2⟩ (x_preV E hP hD hS he hc) rfl rfl hl hst (lv_room hcat) hdg hcs)) kk
/-- invokestatic: R with an int -/
theorem x_cSi (E : xE g b0 cc nL own p s m args meth c) {post : Int32 → Prop} (hM : xRi l g b0 y bytes maxL ret lev As ws post) (Y : xY y bytes maxL ret As.length) (hw : Cond.methodLink own index y ∈ TB ∧ Cond.static y ∈ TB) (hP : va_P (xD g) vwCl ws H) (hD : va_D (xA b0) ws) (hS : va_S (xA b0) s.heap H locs) (hl : ls.size = nL) (hR : lev + 1 ≤ R.frames ∧ 40 * lev + 40 ≤ R.locals) (hcs : cells ≤ R.cells ∧ slots ≤ R.slots) (hst : st0 = As.reverse ++ rest) (hcat : (rest.map fun v => v.category).sum ≤ 8) (hdg : decode cc pc = .ok (.invokestatic index, 3))
    (kk : ∀ r : Int32, post r → W p l e R s m args below meth c H locs cells slots Q (F0 m (pc + 3) ls (.int r :: rest))) : W p l e R s m args below meth c H locs cells slots Q (F0 m pc ls st0) := by
  have hts := E.2.2.2.2.1
  exact vp_callSi (va_Run.run (va_runS (As := As) (rest := rest) ⟨E.1, E.2.1, E.2.2.1, E.2.2.2.1, hts⟩ hM ⟨x_cb E Y hw.1 hR rfl, hts _ hw.2⟩ (x_pre E hP hD hS) rfl rfl hl hst (lv_room hcat) hdg hcs)) kk
/-- invokespecial <init>: mc cells of ms slots come -/
theorem x_cI (E : xE g b0 cc nL own p s m args meth c) {post : va_W → Prop} (hM : xMc l g b0 y bytes maxL lev mc ms (.ref b :: As) ws post) (Y : xY y bytes maxL none As.length) (hw : Cond.methodLink own index y ∈ TB ∧ Cond.instanceMethod y ∈ TB ∧ y.name = "<init>") (hP : va_P (xD g) vwCl ws H) (hD : va_D (xA b0) ws) (hS : va_S (xA b0) s.heap H locs) (hl : ls.size = nL) (hR : lev + 1 ≤ R.frames ∧ 40 * lev + 40 ≤ R.locals) (hcs : cells + mc ≤ R.cells ∧ slots + ms ≤ R.slots) (hst : st0 = As.reverse ++ .ref b :: rest) (hcat : (rest.map fun v => v.category).sum ≤ 8) (hdg : decode cc pc = .ok (.invokespecial index, 3))
    (kk : ∀ (u : va_W) (H1 : Heap) (locs1 : List Loc), post u → va_P (xD g) vwCl u H1 → va_D (xA b0) u → va_S (xA b0) s.heap H1 locs1 → W p l e R s m args below meth c H1 locs1 (cells + mc) (slots + ms) Q (F0 m (pc + 3) ls rest)) : W p l e R s m args below meth c H locs cells slots Q (F0 m pc ls st0) := by
  have hts := E.2.2.2.2.1
  refine va_callv (va_runI (As := As) (rest := rest) ⟨E.1, E.2.1, E.2.2.1, E.2.2.2.1, hts⟩ hM ⟨x_cb E Y hw.1 hR rfl, hw.2.2, hts _ hw.2.1⟩ (x_pre E hP hD hS) rfl rfl hl hst (lv_room hcat) hdg hcs) hS (fun q _ h => h) (fun q h => h) (fun u t H1 locs1 ht hvm hp hB hz hk hS1 => ?_)
  subst ht
  exact kk u _ locs1 hp hB.1 hB.2 hS1
end XCL
end
section
/-! new int[N][M]: the outer array, then its rows, one behind another -/
def xg_out (cA : ClassId) (N h i : Nat) : Cell := arrV cA N (fun j => va_rf (if j < i then some (h + 1 + j) else none))
def xg_row (cI : ClassId) (M : Nat) (dv : Value) : Cell := arrV cI M (fun _ => dv)
def xg_st (s : State) (cA cI : ClassId) (N M : Nat) (dv : Value) : Nat → State
  | 0 => s.pushCell (xg_out cA N s.heap.size 0)
  | i + 1 => ((xg_st s cA cI N M dv i).pushCell (xg_row cI M dv)).setCell s.heap.size (xg_out cA N s.heap.size (i + 1))
theorem xg_out_set (cA : ClassId) (N h i : Nat) : (xg_out cA N h i).setSlot i (.ref (h + 1 + i)) = xg_out cA N h (i + 1) := by
  unfold xg_out
  rw [arrV_store]
  refine congrArg (arrV cA N) (funext fun j => ?_)
  by_cases e : j = i
  · subst e
    simp [updV, va_rf]
  · by_cases h1 : j < i
    · simp [updV, e, h1, Nat.lt_succ_of_lt h1]
    · simp [updV, e, h1, show ¬ j < i + 1 by omega]
theorem xg_out_size (cA : ClassId) (N h i : Nat) : (xg_out cA N h i).slots.size = N := arrV_size _ _ _
theorem xg_row_size (cI : ClassId) (M : Nat) (dv : Value) : (xg_row cI M dv).slots.size = M := arrV_size _ _ _
theorem xg_facts (s : State) (cA cI : ClassId) (N M : Nat) (dv : Value) : ∀ i : Nat, (xg_st s cA cI N M dv i).heap.size = s.heap.size + 1 + i ∧ (xg_st s cA cI N M dv i).heap[s.heap.size]? = some (xg_out cA N s.heap.size i) ∧ (xg_st s cA cI N M dv i).vm = s.vm ∧ (xg_st s cA cI N M dv i).slotsUsed = s.slotsUsed + N + i * M
  | 0 => ⟨by simp [xg_st], by simp [xg_st], rfl, by simp [xg_st, xg_out_size]⟩
  | i + 1 => by
    obtain ⟨a, b, d, u⟩ := xg_facts s cA cI N M dv i
    have hlt : s.heap.size < (xg_st s cA cI N M dv i).heap.size := by omega
    have hb' : ((xg_st s cA cI N M dv i).pushCell (xg_row cI M dv)).heap[s.heap.size]? = some (xg_out cA N s.heap.size i) := by
      rw [State.heap_pushCell_of_lt (h := hlt)]
      exact b
    refine ⟨?_, State.heap_setCell_self hb', by simp [xg_st, d], ?_⟩
    · simp [xg_st, State.setCell, a]
      omega
    · simp [xg_st, u, xg_row_size, Nat.succ_mul]
      omega
theorem xg_old (s : State) (cA cI : ClassId) (N M : Nat) (dv : Value) {a : Nat} (ha : a < s.heap.size) : ∀ i : Nat, (xg_st s cA cI N M dv i).heap[a]? = s.heap[a]?
  | 0 => State.heap_pushCell_of_lt _ _ ha
  | i + 1 => by
    have f1 := (xg_facts s cA cI N M dv i).1
    have hlt : a < (xg_st s cA cI N M dv i).heap.size := by omega
    show (((xg_st s cA cI N M dv i).pushCell (xg_row cI M dv)).setCell s.heap.size _).heap[a]? = _
    rw [State.heap_setCell_other (Nat.ne_of_gt ha), State.heap_pushCell_of_lt (h := hlt)]
    exact xg_old s cA cI N M dv ha i
theorem xg_in (s : State) (cA cI : ClassId) (N M : Nat) (dv : Value) : ∀ i j : Nat, j < i → (xg_st s cA cI N M dv i).heap[s.heap.size + 1 + j]? = some (xg_row cI M dv)
  | 0, _, h => absurd h (Nat.not_lt_zero _)
  | i + 1, j, h => by
    have f1 := (xg_facts s cA cI N M dv i).1
    show (((xg_st s cA cI N M dv i).pushCell (xg_row cI M dv)).setCell s.heap.size _).heap[s.heap.size + 1 + j]? = _
    rw [State.heap_setCell_other (show s.heap.size ≠ s.heap.size + 1 + j by omega)]
    rcases Nat.lt_or_ge j i with hj | hj
    · have hlt : s.heap.size + 1 + j < (xg_st s cA cI N M dv i).heap.size := by omega
      rw [State.heap_pushCell_of_lt (h := hlt)]
      exact xg_in s cA cI N M dv i j hj
    · have e : j = i := by omega
      subst e
      rw [← f1]
      exact State.heap_pushCell_size _ _
theorem xg_top (s : State) (f : JFrame) (cA cI : ClassId) (N M : Nat) (dv : Value) : ∀ i : Nat, xg_st (s.setTop f) cA cI N M dv i = (xg_st s cA cI N M dv i).setTop f
  | 0 => rfl
  | i + 1 => by simp only [xg_st, xg_top s f cA cI N M dv i, State.heap_setTop, State.pushCell_setTop, State.setCell_setTop]
section XGW
variable {E : CtlPost} {e : Env} {d : Bool} {acts : List Action} {s : State}
/-- one array, by the model -/
theorem xg_newArray {c comp : ClassId} {k : Class} {type : FieldType} {len : Nat} {init : Value} (hk : s.vm.classes[c]? = some k) (hkind : k.kind = .array comp type)
    (hlimit : ¬ len > e.platform.arrayLengthLimit) (hheap : ¬ len * componentBytes type > e.platform.maxHeapBytes) (hfit : fits type init = true) (hdef : init.isDefault = true) {Q : Addr → Pre}
    (h1 : s.heap.size < e.platform.maxCells) (h2 : s.slotsUsed + len ≤ e.platform.maxSlots) (hq : Q s.heap.size d acts (s.pushCell (arrV c len (fun _ => init)))) : wp (Jvm.newArray c len init) Q E e d acts s := by
  rw [← arrV_new] at hq
  have hfits : ∀ i v, (Array.replicate len init)[i]? = some v → s.fitsSlot c .none i v = true := by
    intro i v hv
    simp only [Array.getElem?_replicate] at hv
    split at hv
    · cases hv
      simp [State.fitsSlot, State.slotType?, hk, hkind, hfit]
    · cases hv
  have hda : allocActs (Array.replicate len init) s.heap.size acts = acts := by
    have hall : ((Array.replicate len init).all (·.isDefault)) = true := by
      rw [Array.all_replicate]
      split <;> simp [hdef]
    unfold allocActs
    rw [if_pos hall]
  simp only [Jvm.newArray, Jvm.arrayFits, wp_bind', W.ask, W.ite, hlimit, if_false, wp_pure', W.theClass, hk, hkind, hheap, W.alloc, W.stop, Option.some.injEq, exists_eq_left', Array.size_replicate, hda]
  rw [if_neg (by omega)]
  exact ⟨h1, h2, hfits, hq⟩
theorem xg_make {cA cI cc : ClassId} {kA kI : Class} {n m : Int32} (hkA : s.vm.classes[cA]? = some kA) (hkindA : kA.kind = .array cI (.array .int)) (hkI : s.vm.classes[cI]? = some kI) (hkindI : kI.kind = .array cc .int) (hn : ¬ n < 0) (hm : ¬ m < 0)
    (hl1 : ¬ n.toNatClampNeg > e.platform.arrayLengthLimit) (hh1 : ¬ n.toNatClampNeg * componentBytes (.array .int) > e.platform.maxHeapBytes) (hl2 : ¬ m.toNatClampNeg > e.platform.arrayLengthLimit) (hh2 : ¬ m.toNatClampNeg * componentBytes .int > e.platform.maxHeapBytes)
    (hc : s.heap.size + 1 + n.toNatClampNeg ≤ e.platform.maxCells) (hs : s.slotsUsed + n.toNatClampNeg + n.toNatClampNeg * m.toNatClampNeg ≤ e.platform.maxSlots)
    {Q : Addr → Pre} (hq : ∀ d' acts', Q s.heap.size d' acts' (xg_st s cA cI n.toNatClampNeg m.toNatClampNeg (.int 0) n.toNatClampNeg)) : wp (multianewarray.make cA [n, m]) Q E e d acts s := by
  have hfind : ([m].find? (· < 0)) = none := by simp [hm]
  have hz : ∀ h, xg_out cA n.toNatClampNeg h 0 = arrV cA n.toNatClampNeg (fun _ => .null) := fun h => by
    unfold xg_out
    refine congrArg (arrV cA _) (funext fun j => ?_)
    simp [va_rf]
  rw [multianewarray.make]
  simp only [wp_bind', W.ite, hn, if_false, wp_pure', W.theClass, hkA, hkindA, Option.some.injEq, exists_eq_left']
  refine xg_newArray hkA hkindA hl1 hh1 rfl rfl (by omega) (by have := Nat.zero_le (n.toNatClampNeg * m.toNatClampNeg); omega) ?_
  simp only [hfind]
  rw [ite_self, wp_bind', Std.Legacy.Range.forIn_eq_forIn_range']
  have hsz : ([:n.toNatClampNeg] : Std.Legacy.Range).size = n.toNatClampNeg := by simp [Std.Legacy.Range.size]
  rw [hsz]
  show wp (forIn (List.range' 0 n.toNatClampNeg 1) PUnit.unit _) _ E e d acts _
  refine wp_forIn_inv (fun rest s' => ∃ i, i ≤ n.toNatClampNeg ∧ rest = List.range' i (n.toNatClampNeg - i) ∧ s' = xg_st s cA cI n.toNatClampNeg m.toNatClampNeg (.int 0) i) _ _ ⟨0, Nat.zero_le _, rfl, by rw [← hz]; rfl⟩ ?_ ?_
  · rintro x rest s' d' acts' Q' ⟨i, hi, hl, rfl⟩ hnext
    have hlt : i < n.toNatClampNeg := by
      rcases Nat.lt_or_ge i n.toNatClampNeg with h | h
      · exact h
      · rw [show n.toNatClampNeg - i = 0 from by omega] at hl
        simp at hl
    obtain ⟨rfl, hrest⟩ : x = i ∧ rest = List.range' (i + 1) (n.toNatClampNeg - (i + 1)) := by
      rw [show n.toNatClampNeg - i = (n.toNatClampNeg - (i + 1)) + 1 from by omega, List.range'_succ] at hl
      exact ⟨(List.cons.inj hl).1, (List.cons.inj hl).2⟩
    obtain ⟨f1, f2, f3, f4⟩ := xg_facts s cA cI n.toNatClampNeg m.toNatClampNeg (.int 0) x
    have hmul : x * m.toNatClampNeg + m.toNatClampNeg ≤ n.toNatClampNeg * m.toNatClampNeg := by
      have := Nat.mul_le_mul_right m.toNatClampNeg (show x + 1 ≤ n.toNatClampNeg from hlt)
      rw [Nat.succ_mul] at this
      exact this
    simp only [wp_bind']
    rw [multianewarray.make]
    simp only [wp_bind', W.ite, hm, if_false, wp_pure', W.theClass, f3, hkI, hkindI, Option.some.injEq, exists_eq_left']
    refine xg_newArray (by rw [f3]; exact hkI) hkindI hl2 hh2 rfl rfl (by rw [f1]; omega) (by rw [f4]; omega) ?_
    have hlt0 : s.heap.size < (xg_st s cA cI n.toNatClampNeg m.toNatClampNeg (.int 0) x).heap.size := by rw [f1]; omega
    simp only [wp_bind', W.writeLoc, wp_pure']
    refine ⟨xg_out cA n.toNatClampNeg s.heap.size x, (by rw [State.heap_pushCell_of_lt (h := hlt0)]; exact f2), (fun h => by cases h), (by rw [xg_out_size]; exact hlt), ?_, hnext _ _ _ ⟨x + 1, hlt, hrest, ?_⟩⟩
    · show State.fitsSlot _ cA .none _ _ = true
      simp [State.fitsSlot, State.slotType?, f3, hkA, hkindA, fits]
    · rw [f1, xg_out_set]
      rfl
  · rintro s' d' acts' ⟨i, hi, hl, rfl⟩
    have hiN : i = n.toNatClampNeg := by
      rcases Nat.lt_or_ge i n.toNatClampNeg with h | h
      · rw [show n.toNatClampNeg - i = (n.toNatClampNeg - (i + 1)) + 1 from by omega, List.range'_succ] at hl
        cases hl
      · omega
    subst hiN
    simp only [wp_pure']
    exact hq _ _
end XGW
section XGR
variable {p : Program} {l : Launch} {e : Env} {R : Room} {s : State} {m : MethodId} {args : Array Value} {below : List Frame} {meth : Method} {c : Code} {H : Heap} {locs : List Loc} {cells slots : Nat} {Q : State → Prop} {T : State}
theorem xg_stand (X : Stand p l e R s m args below meth c T locs cells slots) (cA cI : ClassId) (N M : Nat) (dv : Value) : ∀ i : Nat, Stand p l e R s m args below meth c (xg_st T cA cI N M dv i) (locs ++ (List.range i).map fun j => ⟨T.heap.size, j⟩) (cells + 1 + i) (slots + N + i * M)
  | 0 => by
    have h := X.pushed (xg_out cA N T.heap.size 0)
    rw [xg_out_size] at h
    simpa [xg_st] using h
  | i + 1 => by
    have Xi := xg_stand X cA cI N M dv i
    obtain ⟨f1, f2, f3, f4⟩ := xg_facts T cA cI N M dv i
    have hlt0 : T.heap.size < (xg_st T cA cI N M dv i).heap.size := by rw [f1]; omega
    have hcell : ((xg_st T cA cI N M dv i).pushCell (xg_row cI M dv)).heap[T.heap.size]? = some (xg_out cA N T.heap.size i) := by
      rw [State.heap_pushCell_of_lt (h := hlt0)]
      exact f2
    have h := (Xi.pushed (xg_row cI M dv)).stored hcell i (.ref (T.heap.size + 1 + i))
    rw [xg_row_size, xg_out_set] at h
    have e2 : (locs ++ (List.range (i + 1)).map fun j => (⟨T.heap.size, j⟩ : Loc)) = (locs ++ (List.range i).map fun j => (⟨T.heap.size, j⟩ : Loc)) ++ [⟨T.heap.size, i⟩] := by simp [List.range_succ, List.append_assoc]
    have e3 : slots + N + (i + 1) * M = slots + N + i * M + M := by rw [Nat.succ_mul]; omega
    rw [e2, e3]
    exact h
/-- the instruction -/
theorem xg_mna {cc : ByteArray} (hexec : p.tables.exec = Jvm.exec) (hb : c.code = cc) {own : String} {index : Nat} (hown : s.vm.findClass own = some m.cls) (hclink : (Cond.classLink own index "[[I").before args s = true) {cA cI' : ClassId} {kA : Class} (hcA : s.vm.findClass "[[I" = some cA) (hcI : s.vm.findClass "[I" = some cI') (hkA : s.vm.classes[cA]? = some kA) (hkindA : kA.kind = .array cI' (.array .int)) (harr : (Cond.arrayClass .int).before args s = true)
    {pc : Nat} {ls : Array Slot} {rest : List Value} {n k : Int32} {N M : Nat} (hn : ¬ n < 0) (hk : ¬ k < 0) (hN : n.toNatClampNeg = N) (hM : k.toNatClampNeg = M) (hb1 : N * 4 ≤ 536870912) (hb2 : M * 4 ≤ 536870912) (hcells : cells + (1 + N) ≤ R.cells) (hslots : slots + (N + N * M) ≤ R.slots) (hdg : decode cc pc = .ok (.multianewarray index 2, 4))
    (kk : ∀ (H1 : Heap), H1.size = H.size + 1 + N → H1[H.size]? = some (arrV cA N (fun j => va_rf (if j < N then some (H.size + 1 + j) else none))) → (∀ j : Nat, j < N → H1[H.size + 1 + j]? = some (arrV cI' M (fun _ => .int 0))) → (∀ q : Nat, q < H.size → H1[q]? = H[q]?) →
      W p l e R s m args below meth c H1 locs (cells + 1 + N) (slots + N + N * M) Q (F0 m (pc + 4) ls (.ref H.size :: rest))) : W p l e R s m args below meth c H locs cells slots Q (F0 m pc ls (.int k :: .int n :: rest)) := by
  intro T hT X
  subst hN
  subst hM
  subst hb
  have hpl : e.platform.magicAccessors = ({} : Platform).magicAccessors := by rw [X.admits.platform]
  obtain ⟨cI2, kI, cc, hcI2, hkI, hkindI⟩ := Cond.arrayClass_spec harr
  have eI : cI2 = cI' := Option.some.inj (hcI2.symm.trans hcI)
  subst eI
  obtain ⟨c0, hfc0, hcl⟩ := Cond.classLink_spec hown hclink e.platform hpl
  cases hcA.symm.trans hfc0
  obtain ⟨hg₁, hwarm₁, hready₁⟩ := State.classEntry (e := e) X.warmed hcl
  generalize T.vm.noted m.cls index (.cls cA) = vm₁ at hg₁ hwarm₁ hready₁
  have hal : s.vm.Alike vm₁ := hwarm₁.alike
  obtain ⟨kA₁, hkA₁, heA⟩ := hal.2.2 _ _ hkA
  obtain ⟨kI₁, hkI₁, heI⟩ := hal.2.2 _ _ hkI
  have hkindA₁ : kA₁.kind = .array cI2 (.array .int) := by rw [heA]; exact hkindA
  have hkindI₁ : kI₁.kind = .array cc .int := by rw [heI]; exact hkindI
  have X₁ := X.noted hwarm₁
  obtain ⟨hr1, hr2⟩ := X.roomAbove hcells hslots
  have XF := xg_stand X₁ cA cI2 n.toNatClampNeg k.toNatClampNeg (.int 0) n.toNatClampNeg
  have XD := XF.dropFresh (fun x hx => by
    obtain ⟨j, -, rfl⟩ := List.mem_map.mp hx
    exact X.heapGrown)
  obtain ⟨f1, f2, f3, f4⟩ := xg_facts (T.setVm vm₁) cA cI2 n.toNatClampNeg k.toNatClampNeg (.int 0) n.toNatClampNeg
  have hTh : (T.setVm vm₁).heap = H := hT
  have f5 := xg_in (T.setVm vm₁) cA cI2 n.toNatClampNeg k.toNatClampNeg (.int 0) n.toNatClampNeg
  have f6 := fun (q : Nat) (hq : q < (T.setVm vm₁).heap.size) => xg_old (T.setVm vm₁) cA cI2 n.toNatClampNeg k.toNatClampNeg (.int 0) hq n.toNatClampNeg
  rw [hTh] at f1 f2 f5 f6
  obtain ⟨t', a1, b1⟩ := kk _ f1 f2 f5 f6 _ rfl XD
  refine ⟨t', ?_, b1⟩
  have hl1 : ¬ n.toNatClampNeg > e.platform.arrayLengthLimit := by rw [Launch.admits_arrayLengthLimit X.admits]; omega
  have hh1 : ¬ n.toNatClampNeg * componentBytes (.array .int) > e.platform.maxHeapBytes := by
    rw [Launch.admits_maxHeapBytes X.admits]
    show ¬ n.toNatClampNeg * 4 > 536870912
    omega
  have hl2 : ¬ k.toNatClampNeg > e.platform.arrayLengthLimit := by rw [Launch.admits_arrayLengthLimit X.admits]; omega
  have hh2 : ¬ k.toNatClampNeg * componentBytes .int > e.platform.maxHeapBytes := by
    rw [Launch.admits_maxHeapBytes X.admits]
    show ¬ k.toNatClampNeg * 4 > 536870912
    omega
  jvm_step X.here [hexec, hdg]
  simp only [multianewarray.sem, wp_bind', W.resolveClassAt_links (State.method?_setTop (F0 m pc ls (.int k :: .int n :: rest)) X.here.top) hg₁]
  rw [W.popN, if_neg (by decide)]
  refine ⟨F0 m pc ls (.int k :: .int n :: rest), State.topJava?_setTop' (s := T.setVm vm₁) _ X.here.top, [.int n, .int k], rest, rfl, rfl, ?_⟩
  simp only [List.mapM_cons, List.mapM_nil, wp_bind', wp_pure']
  refine xg_make (kA := kA₁) (kI := kI₁) (cc := cc) hkA₁ hkindA₁ hkI₁ hkindI₁ hn hk hl1 hh1 hl2 hh2 (by show T.heap.size + 1 + _ ≤ _; omega) (by show T.slotsUsed + _ + _ ≤ _; omega) (fun d' acts' => ?_)
  have eS : ((T.setTop (F0 m pc ls (.int k :: .int n :: rest))).setVm vm₁).setTop { F0 m pc ls (.int k :: .int n :: rest) with stack := rest } = (T.setVm vm₁).setTop { F0 m pc ls (.int k :: .int n :: rest) with stack := rest } := by
    show ((T.setVm vm₁).setTop _).setTop _ = _
    rw [State.setTop_setTop]
  rw [eS, xg_top]
  simp only [wp_bind', W.mark, W.pushRef, State.topJava?_setTop' _ XF.here.top, Option.some.injEq, exists_eq_left', State.setTop_setTop, State.heap_setTop]
  intro acts
  simp [jvm, XF.here.top]
  have hz : T.heap.size = H.size := by rw [hT]
  rw [← hz] at a1
  exact a1
end XGR
end
section
section XTB
variable {p : Program} {l : Launch} {e : Env} {R : Room} {s : State} {m : MethodId} {args : Array Value} {below : List Frame} {meth : Method} {c : Code} {H : Heap} {locs : List Loc} {cells slots : Nat} {Q : State → Prop}
variable {cc : ByteArray} {pc nL : Nat} {ls : Array Slot} {rest : List Value} {g : xG} {b0 : Nat} {own : String}
theorem x_tab_L (E : xE g b0 cc nL own p s m args meth c) (hS : va_S (xA b0) s.heap H locs) {i : Int32} {j : Nat} (hi : i = nI j) (hj : j < 5) (hdg : decode cc pc = .ok (.caload, 1)) (kk : W p l e R s m args below meth c H locs cells slots Q (F0 m (pc + 1) ls (.int (xL j) :: rest))) : W p l e R s m args below meth c H locs cells slots Q (F0 m pc ls (.int i :: .ref (tL g) :: rest)) := by
  subst hi
  exact va_tc E.1 E.2.1 E.2.2.2.2.2.2.1.1.2 hS (x_in5 hj) (by rw [nI_clamp (by omega)]) hdg kk
theorem x_tab_A (E : xE g b0 cc nL own p s m args meth c) (hS : va_S (xA b0) s.heap H locs) {i : Int32} {j : Nat} (hi : i = nI j) (hj : j < 5) (hdg : decode cc pc = .ok (.iaload, 1)) (kk : W p l e R s m args below meth c H locs cells slots Q (F0 m (pc + 1) ls (.int (xLo j) :: rest))) : W p l e R s m args below meth c H locs cells slots Q (F0 m pc ls (.int i :: .ref (tA g) :: rest)) := by
  subst hi
  exact va_ti E.1 E.2.1 E.2.2.2.2.2.2.1.2.1.2 hS (x_in5 hj) (by rw [nI_clamp (by omega)]) hdg kk
theorem x_tab_B (E : xE g b0 cc nL own p s m args meth c) (hS : va_S (xA b0) s.heap H locs) {i : Int32} {j : Nat} (hi : i = nI j) (hj : j < 5) (hdg : decode cc pc = .ok (.iaload, 1)) (kk : W p l e R s m args below meth c H locs cells slots Q (F0 m (pc + 1) ls (.int (xHi j) :: rest))) : W p l e R s m args below meth c H locs cells slots Q (F0 m pc ls (.int i :: .ref (tB g) :: rest)) := by
  subst hi
  exact va_ti E.1 E.2.1 E.2.2.2.2.2.2.1.2.2.1.2 hS (x_in5 hj) (by rw [nI_clamp (by omega)]) hdg kk
theorem x_len_L (E : xE g b0 cc nL own p s m args meth c) (hS : va_S (xA b0) s.heap H locs) (hdg : decode cc pc = .ok (.arraylength, 1)) (kk : W p l e R s m args below meth c H locs cells slots Q (F0 m (pc + 1) ls (.int 5 :: rest))) : W p l e R s m args below meth c H locs cells slots Q (F0 m pc ls (.ref (tL g) :: rest)) := va_tlen E.1 E.2.1 E.2.2.2.2.2.2.1.1.2 hS rfl hdg kk
theorem x_len_A (E : xE g b0 cc nL own p s m args meth c) (hS : va_S (xA b0) s.heap H locs) (hdg : decode cc pc = .ok (.arraylength, 1)) (kk : W p l e R s m args below meth c H locs cells slots Q (F0 m (pc + 1) ls (.int 5 :: rest))) : W p l e R s m args below meth c H locs cells slots Q (F0 m pc ls (.ref (tA g) :: rest)) := va_tlen E.1 E.2.1 E.2.2.2.2.2.2.1.2.1.2 hS rfl hdg kk
theorem x_len_B (E : xE g b0 cc nL own p s m args meth c) (hS : va_S (xA b0) s.heap H locs) (hdg : decode cc pc = .ok (.arraylength, 1)) (kk : W p l e R s m args below meth c H locs cells slots Q (F0 m (pc + 1) ls (.int 5 :: rest))) : W p l e R s m args below meth c H locs cells slots Q (F0 m pc ls (.ref (tB g) :: rest)) := va_tlen E.1 E.2.1 E.2.2.2.2.2.2.1.2.2.1.2 hS rfl hdg kk
theorem x_gets_L_MT (E : xE g b0 cc nL R_MT p s m args meth c) (hS : va_S (xA b0) s.heap H locs) (hdg : decode cc pc = .ok (.getstatic 107, 3)) (kk : W p l e R s m args below meth c H locs cells slots Q (F0 m (pc + 3) ls (.ref (tL g) :: rest))) : W p l e R s m args below meth c H locs cells slots Q (F0 m pc ls rest) :=
  va_gets E.1 E.2.1 E.2.2.2.2.2.2.1.1.1 hS E.2.2.2.1 (E.2.2.2.2.1 _ wf_MT_107) (fun _ h => h) hdg kk
theorem x_gets_L_Ps (E : xE g b0 cc nL R_Ps p s m args meth c) (hS : va_S (xA b0) s.heap H locs) (hdg : decode cc pc = .ok (.getstatic 77, 3)) (kk : W p l e R s m args below meth c H locs cells slots Q (F0 m (pc + 3) ls (.ref (tL g) :: rest))) : W p l e R s m args below meth c H locs cells slots Q (F0 m pc ls rest) :=
  va_getsN E.1 E.2.1 E.2.2.2.2.2.2.1.1.1 hS E.2.2.2.1 (va_Nw.use (w := .fieldLinkNest R_Ps 77 "MachineText" "LETTERS" "[C" "MachineText") rfl (E.2.2.2.2.2.2.1.2.2.2.1 _ (by decide))) (fun _ h => h) hdg kk
theorem x_gets_A_Ps (E : xE g b0 cc nL R_Ps p s m args meth c) (hS : va_S (xA b0) s.heap H locs) (hdg : decode cc pc = .ok (.getstatic 40, 3)) (kk : W p l e R s m args below meth c H locs cells slots Q (F0 m (pc + 3) ls (.ref (tA g) :: rest))) : W p l e R s m args below meth c H locs cells slots Q (F0 m pc ls rest) :=
  va_getsN E.1 E.2.1 E.2.2.2.2.2.2.1.2.1.1 hS E.2.2.2.1 (va_Nw.use (w := .fieldLinkNest R_Ps 40 "MachineText" "LEAST_SIZES" "[I" "MachineText") rfl (E.2.2.2.2.2.2.1.2.2.2.1 _ (by decide))) (fun _ h => h) hdg kk
theorem x_gets_B_Ps (E : xE g b0 cc nL R_Ps p s m args meth c) (hS : va_S (xA b0) s.heap H locs) (hdg : decode cc pc = .ok (.getstatic 44, 3)) (kk : W p l e R s m args below meth c H locs cells slots Q (F0 m (pc + 3) ls (.ref (tB g) :: rest))) : W p l e R s m args below meth c H locs cells slots Q (F0 m pc ls rest) :=
  va_getsN E.1 E.2.1 E.2.2.2.2.2.2.1.2.2.1.1 hS E.2.2.2.1 (va_Nw.use (w := .fieldLinkNest R_Ps 44 "MachineText" "MOST_SIZES" "[I" "MachineText") rfl (E.2.2.2.2.2.2.1.2.2.2.1 _ (by decide))) (fun _ h => h) hdg kk
end XTB
/-- a grid's rows in a world, from the place qb on -/
def xF (g : xG) (ws : va_W) (qb n k : Nat) (r : Nat → Nat) (M : Nat → Nat → Int32) : Prop := ∀ j, j < n → ws[qb + j]? = some (r j, .inl (cI g, k, .inl (M j)))
def xg_up (M : Nat → Nat → Int32) (j i : Nat) (x : Int32) : Nat → Nat → Int32 := fun a => if a = j then upd (M a) i x else M a
theorem xg_put {g : xG} {ws w1 : va_W} {qb n k j i : Nat} {r : Nat → Nat} {M : Nat → Nat → Int32} {x : Int32} (h : ∀ j, j < n → ws[qb + j]? = some (r j, .inl (cI g, k, .inl (M j)))) (hU : xU ws (qb + j) (r j, .inl (cI g, k, .inl (upd (M j) i x))) w1) : ∀ j', j' < n → w1[qb + j']? = some (r j', .inl (cI g, k, .inl (xg_up M j i x j'))) := by
  intro j' hj'
  by_cases e : j' = j
  · subst e
    rw [hU.1]
    simp [xg_up]
  · rw [hU.2 _ (by omega), h j' hj']
    simp [xg_up, e]
theorem xg_up_get (M : Nat → Nat → Int32) (j i : Nat) (x : Int32) (a b : Nat) : xg_up M j i x a b = if a = j ∧ b = i then x else M a b := by
  unfold xg_up
  by_cases e : a = j
  · by_cases e2 : b = i
    · simp [e, e2, upd]
    · simp [e, e2, upd]
  · simp [e]
theorem x_ix {x : Int32} {n : Nat} (hn : n < 2 ^ 31) (h0 : ¬ x < 0) (h1 : ¬ nI n ≤ x) : ∃ j : Nat, j < n ∧ x = nI j := by
  rcases pk_ix x hn with h | h | h
  · exact absurd h h0
  · exact absurd h h1
  · exact h
theorem x_ixl {x : Int32} {n : Nat} (hn : n < 2 ^ 31) (h0 : ¬ x < 0) (h1 : x < nI n) : ∃ j : Nat, j < n ∧ x = nI j :=
  x_ix hn h0 (fun h => by
    have a := Int32.lt_iff_toInt_lt.mp h1
    have b := Int32.le_iff_toInt_le.mp h
    omega)
/-! THE OBJECTS, by their places -/
def xText (g : xG) (ws : va_W) (q h a : Nat) (f : Nat → Int32) (n : Nat) : Prop := ws[q]? = some (h, .inr (1, [.ref a, .int (nI n)])) ∧ ws[q + 1]? = some (a, .inl (cC g, 300, .inl f))
theorem xText.keep {g : xG} {ws w1 : va_W} {q h a n lo hi : Nat} {f : Nat → Int32} (H : xText g ws q h a f n) (hQ : xQ lo hi ws w1) (hd : q + 2 ≤ lo ∨ hi ≤ q) : xText g w1 q h a f n := ⟨(hQ _ (by omega)).trans H.1, (hQ _ (by omega)).trans H.2⟩
def xMach (g : xG) (ws : va_W) (q h o x : Nat) (r : Nat → Nat) (M : Nat → Nat → Int32) (ix : Nat → Int32) (n : Nat) : Prop := ws[q]? = some (h, .inr (2, [.ref o, .ref x, .int (nI n)])) ∧ ws[q + 1]? = some (o, .inl (cG g, 6, .inr (.inr (.inr (.inr (fun j => some (r j))))))) ∧ ws[q + 8]? = some (x, .inl (cI g, 30, .inl ix)) ∧ ∀ j, j < 6 → ws[q + 2 + j]? = some (r j, .inl (cI g, 24, .inl (M j)))
theorem xMach.keep {g : xG} {ws w1 : va_W} {q h o x n lo hi : Nat} {r : Nat → Nat} {M : Nat → Nat → Int32} {ix : Nat → Int32} (H : xMach g ws q h o x r M ix n) (hQ : xQ lo hi ws w1) (hd : q + 9 ≤ lo ∨ hi ≤ q) : xMach g w1 q h o x r M ix n := ⟨(hQ _ (by omega)).trans H.1, (hQ _ (by omega)).trans H.2.1, (hQ _ (by omega)).trans H.2.2.1, fun j hj => (hQ _ (by omega)).trans (H.2.2.2 j hj)⟩
def xPath (g : xG) (ws : va_W) (q h o : Nat) (r : Nat → Nat) (T : Nat → Nat → Int32) : Prop := ws[q]? = some (h, .inr (4, [.ref o])) ∧ ws[q + 1]? = some (o, .inl (cG g, 24, .inr (.inr (.inr (.inr (fun j => some (r j))))))) ∧ ∀ j, j < 24 → ws[q + 2 + j]? = some (r j, .inl (cI g, 24, .inl (T j)))
theorem xPath.keep {g : xG} {ws w1 : va_W} {q h o lo hi : Nat} {r : Nat → Nat} {T : Nat → Nat → Int32} (H : xPath g ws q h o r T) (hQ : xQ lo hi ws w1) (hd : q + 26 ≤ lo ∨ hi ≤ q) : xPath g w1 q h o r T := ⟨(hQ _ (by omega)).trans H.1, (hQ _ (by omega)).trans H.2.1, fun j hj => (hQ _ (by omega)).trans (H.2.2 j hj)⟩
def xFlt (g : xG) (ws : va_W) (q h o : Nat) (r : Nat → Nat) (M : Nat → Nat → Int32) (n : Nat) : Prop := ws[q]? = some (h, .inr (5, [.ref o, .int (nI n)])) ∧ ws[q + 1]? = some (o, .inl (cG g, 3, .inr (.inr (.inr (.inr (fun j => some (r j))))))) ∧ ∀ j, j < 3 → ws[q + 2 + j]? = some (r j, .inl (cI g, 168, .inl (M j)))
theorem xFlt.keep {g : xG} {ws w1 : va_W} {q h o n lo hi : Nat} {r : Nat → Nat} {M : Nat → Nat → Int32} (H : xFlt g ws q h o r M n) (hQ : xQ lo hi ws w1) (hd : q + 5 ≤ lo ∨ hi ≤ q) : xFlt g w1 q h o r M n := ⟨(hQ _ (by omega)).trans H.1, (hQ _ (by omega)).trans H.2.1, fun j hj => (hQ _ (by omega)).trans (H.2.2 j hj)⟩
/-- k rounds of a loop, from 0 on -/
def it {α : Type} (f : Nat → α → α) : Nat → α → α
  | 0, a => a
  | k + 1, a => f k (it f k a)
/-! a thing stays where its own places stay -/
section XKP
variable {g : xG} {ws w1 : va_W} {q h a o d n : Nat} {f : Nat → Int32} {r : Nat → Nat} {M : Nat → Nat → Int32} {ix : Nat → Int32}
theorem xText.kp (H : xText g ws q h a f n) (k : ∀ i, q ≤ i → i < q + 2 → w1[i]? = ws[i]?) : xText g w1 q h a f n := ⟨(k _ (by omega) (by omega)).trans H.1, (k _ (by omega) (by omega)).trans H.2⟩
theorem xMach.kp (H : xMach g ws q h o d r M ix n) (k : ∀ i, q ≤ i → i < q + 9 → w1[i]? = ws[i]?) : xMach g w1 q h o d r M ix n := ⟨(k _ (by omega) (by omega)).trans H.1, (k _ (by omega) (by omega)).trans H.2.1, (k _ (by omega) (by omega)).trans H.2.2.1, fun j hj => (k _ (by omega) (by omega)).trans (H.2.2.2 j hj)⟩
theorem xPath.kp (H : xPath g ws q h o r M) (k : ∀ i, q ≤ i → i < q + 26 → w1[i]? = ws[i]?) : xPath g w1 q h o r M := ⟨(k _ (by omega) (by omega)).trans H.1, (k _ (by omega) (by omega)).trans H.2.1, fun j hj => (k _ (by omega) (by omega)).trans (H.2.2 j hj)⟩
theorem xFlt.kp (H : xFlt g ws q h o r M n) (k : ∀ i, q ≤ i → i < q + 5 → w1[i]? = ws[i]?) : xFlt g w1 q h o r M n := ⟨(k _ (by omega) (by omega)).trans H.1, (k _ (by omega) (by omega)).trans H.2.1, fun j hj => (k _ (by omega) (by omega)).trans (H.2.2 j hj)⟩
end XKP
end
section
def tx_at (f : Nat → Int32) (n : Nat) (i : Int32) : Int32 := if i < 0 then -1 else if nI n ≤ i then -1 else f i.toNatClampNeg
set_option maxRecDepth 100000 in
set_option maxHeartbeats 4000000 in
theorem c_Tx_characterAt (l : Launch) (g : xG) (b0 : Nat) (ws : va_W) {q h a n : Nat} {f : Nat → Int32} (hT : xText g ws q h a f n) (hn : n ≤ 300) (i : Int32) : xRi l g b0 y_Tx_characterAt b_Tx_characterAt 2 (some .int) 0 [.ref h, .int i] ws (fun r => r = tx_at f n i) := by
  unfold xRi
  refine x_in (by decide) (Nat.le_of_ble_eq_true rfl) ?_
  intro p e s m below meth c ls E hr hin hP hD hl
  obtain ⟨hx, hb, hml, hown, hts, hK, hZ, hb0, hlocks⟩ := id E
  have hS : va_S (xA b0) s.heap s.heap [] := va_S.rf
  have hl : lv_has ls 2 [(0, .ref h), (1, .int i)] := hl
  obtain ⟨e0, e1⟩ := hT
  refine lv_iload_n hx hb d_Tx_characterAt_0 rfl (lv_at hl 1 rfl) ?_
  refine lv_if_lt (tgt := 21) hx hb d_Tx_characterAt_1 (by decide) (fun c1 => ?_) (fun c1 => ?_)
  · refine lv_iconst (v := (-1)) hx hb d_Tx_characterAt_21 (by decide) ?_
    refine lv_goto (tgt := 31) hx hb d_Tx_characterAt_22 (by decide) ?_
    exact x_pi E hr (by rw [tx_at, if_pos c1]) d_Tx_characterAt_31
  · refine lv_iload_n hx hb d_Tx_characterAt_4 rfl (lv_at hl 1 rfl) ?_
    refine lv_aload_n hx hb d_Tx_characterAt_5 rfl (lv_at hl 0 rfl) ?_
    refine x_get E hP e0 rfl cl1_in 1 (by decide) wf_Tx_15 rfl d_Tx_characterAt_6 ?_
    refine lv_icmp_ge (tgt := 21) hx hb d_Tx_characterAt_9 (by decide) (fun c9 => ?_) (fun c9 => ?_)
    · refine lv_iconst (v := (-1)) hx hb d_Tx_characterAt_21 (by decide) ?_
      refine lv_goto (tgt := 31) hx hb d_Tx_characterAt_22 (by decide) ?_
      exact x_pi E hr (by rw [tx_at, if_neg c1, if_pos c9]) d_Tx_characterAt_31
    · obtain ⟨j, hj, hi⟩ := x_ix (by omega) c1 c9
      refine lv_iload_n hx hb d_Tx_characterAt_12 rfl (lv_at hl 1 rfl) ?_
      refine lv_aload_n hx hb d_Tx_characterAt_13 rfl (lv_at hl 0 rfl) ?_
      refine x_get E hP e0 rfl cl1_in 0 (by decide) wf_Tx_9 rfl d_Tx_characterAt_14 ?_
      refine x_clen E hP e1 d_Tx_characterAt_17 ?_
      refine lv_icmp_lt (tgt := 25) hx hb d_Tx_characterAt_18 (by decide) (fun c18 => ?_) (fun c18 => absurd (by rw [hi]; exact nI_lt (by omega) (by omega)) c18)
      refine lv_aload_n hx hb d_Tx_characterAt_25 rfl (lv_at hl 0 rfl) ?_
      refine x_get E hP e0 rfl cl1_in 0 (by decide) wf_Tx_9 rfl d_Tx_characterAt_26 ?_
      refine lv_iload_n hx hb d_Tx_characterAt_29 rfl (lv_at hl 1 rfl) ?_
      refine x_cald E hP e1 (j := j) hi (by omega) (by decide) d_Tx_characterAt_30 ?_
      exact x_pi E hr (by rw [tx_at, if_neg c1, if_neg c9, hi, nI_clamp (by omega)]) d_Tx_characterAt_31
set_option maxRecDepth 100000 in
set_option maxHeartbeats 4000000 in
theorem c_Tx_clear (l : Launch) (g : xG) (b0 : Nat) (ws : va_W) {q h a n : Nat} {f : Nat → Int32} (hT : xText g ws q h a f n) (hn : n ≤ 300) : xMv l g b0 y_Tx_clear b_Tx_clear 1 0 [.ref h] ws (fun u => xQ q (q + 2) ws u ∧ xText g u q h a f 0) := by
  unfold xMv
  refine x_in (by decide) (Nat.le_of_ble_eq_true rfl) ?_
  intro p e s m below meth c ls E hr hin hP hD hl
  obtain ⟨hx, hb, hml, hown, hts, hK, hZ, hb0, hlocks⟩ := id E
  have hS : va_S (xA b0) s.heap s.heap [] := va_S.rf
  have hl : lv_has ls 1 [(0, .ref h)] := hl
  obtain ⟨e0, e1⟩ := hT
  have hQ : xQ q (q + 2) ws ws := xQ.rf
  refine lv_aload_n hx hb d_Tx_clear_0 rfl (lv_at hl 0 rfl) ?_
  refine lv_iconst (v := 0) hx hb d_Tx_clear_1 (by decide) ?_
  refine x_put E hP hD hS e0 rfl cl1_in cl1_ty cl1_nm 1 (by decide) wf_Tx_15 rfl rfl rfl (Nat.le_of_ble_eq_true rfl) d_Tx_clear_2 (fun w1 H locs hU1 hP hD hS => ?_)
  have e0 : w1[q]? = some (h, .inr (1, [.ref a, .int 0])) := hU1.1
  have e1 : w1[q + 1]? = some (a, .inl (cC g, 300, .inl f)) := (hU1.2 _ (by omega)).trans e1
  have hQ := hQ.up hU1 (by omega)
  exact x_rv E hr hS ⟨hQ, e0, e1⟩ hP hD d_Tx_clear_5
def tx_add (f : Nat → Int32) (n : Nat) (x : Int32) : Nat → Int32 := if n < 300 then upd f n x else f
def tx_len (n : Nat) : Nat := if n < 300 then n + 1 else n
set_option maxRecDepth 100000 in
set_option maxHeartbeats 4000000 in
theorem c_Tx_append (l : Launch) (g : xG) (b0 : Nat) (ws : va_W) {q h a n : Nat} {f : Nat → Int32} (hT : xText g ws q h a f n) (hn : n ≤ 300) (x : Int32) (hx0 : vp_nar .char x = x) : xMi l g b0 y_Tx_append b_Tx_append 2 (some .boolean) 0 [.ref h, .int x] ws (fun r u => r = (if n < 300 then 1 else 0) ∧ xQ q (q + 2) ws u ∧ xText g u q h a (tx_add f n x) (tx_len n)) := by
  unfold xMi
  refine x_in (by decide) (Nat.le_of_ble_eq_true rfl) ?_
  intro p e s m below meth c ls E hr hin hP hD hl
  obtain ⟨hx, hb, hml, hown, hts, hK, hZ, hb0, hlocks⟩ := id E
  have hS : va_S (xA b0) s.heap s.heap [] := va_S.rf
  have hl : lv_has ls 2 [(0, .ref h), (1, .int x)] := hl
  obtain ⟨e0, e1⟩ := hT
  have hQ : xQ q (q + 2) ws ws := xQ.rf
  refine lv_aload_n hx hb d_Tx_append_0 rfl (lv_at hl 0 rfl) ?_
  refine x_get E hP e0 rfl cl1_in 1 (by decide) wf_Tx_15 rfl d_Tx_append_1 ?_
  refine lv_if_lt (tgt := 19) hx hb d_Tx_append_4 (by decide) (fun c4 => absurd c4 (nI_pos (by omega))) (fun c4 => ?_)
  refine lv_aload_n hx hb d_Tx_append_7 rfl (lv_at hl 0 rfl) ?_
  refine x_get E hP e0 rfl cl1_in 1 (by decide) wf_Tx_15 rfl d_Tx_append_8 ?_
  refine lv_aload_n hx hb d_Tx_append_11 rfl (lv_at hl 0 rfl) ?_
  refine x_get E hP e0 rfl cl1_in 0 (by decide) wf_Tx_9 rfl d_Tx_append_12 ?_
  refine x_clen E hP e1 d_Tx_append_15 ?_
  refine lv_icmp_lt (tgt := 21) hx hb d_Tx_append_16 (by decide) (fun c16 => ?_) (fun c16 => ?_)
  · have h9 : n < 300 := (nI_ltI (by omega) (by omega)).mp c16
    refine lv_aload_n hx hb d_Tx_append_21 rfl (lv_at hl 0 rfl) ?_
    refine x_get E hP e0 rfl cl1_in 0 (by decide) wf_Tx_9 rfl d_Tx_append_22 ?_
    refine lv_aload_n hx hb d_Tx_append_25 rfl (lv_at hl 0 rfl) ?_
    refine x_get E hP e0 rfl cl1_in 1 (by decide) wf_Tx_15 rfl d_Tx_append_26 ?_
    refine lv_iload_n hx hb d_Tx_append_29 rfl (lv_at hl 1 rfl) ?_
    refine x_cast E hP hD hS e1 (j := n) rfl h9 (by decide) d_Tx_append_30 (fun w1 H locs hU1 hP hD hS => ?_)
    have e1 : w1[q + 1]? = some (a, .inl (cC g, 300, .inl (upd f n (vp_nar .char x)))) := hU1.1
    have e0 : w1[q]? = some (h, .inr (1, [.ref a, .int (nI n)])) := (hU1.2 _ (by omega)).trans e0
    have hQ := hQ.up hU1 (by omega)
    refine lv_aload_n hx hb d_Tx_append_31 rfl (lv_at hl 0 rfl) ?_
    refine lv_dup hx hb d_Tx_append_32 rfl ?_
    refine x_get E hP e0 rfl cl1_in 1 (by decide) wf_Tx_15 rfl d_Tx_append_33 ?_
    refine lv_iconst (v := 1) hx hb d_Tx_append_36 (by decide) ?_
    refine lv_iadd hx hb d_Tx_append_37 ?_
    refine x_top (y := nI (n + 1)) (nI_1 n) ?_
    refine x_put E hP hD hS e0 rfl cl1_in cl1_ty cl1_nm 1 (by decide) wf_Tx_15 rfl rfl rfl (Nat.le_of_ble_eq_true rfl) d_Tx_append_38 (fun w2 H locs hU2 hP hD hS => ?_)
    have e0 : w2[q]? = some (h, .inr (1, [.ref a, .int (nI (n + 1))])) := hU2.1
    have e1 : w2[q + 1]? = some (a, .inl (cC g, 300, .inl (upd f n (vp_nar .char x)))) := (hU2.2 _ (by omega)).trans e1
    have hQ := hQ.up hU2 (by omega)
    refine lv_iconst (v := 1) hx hb d_Tx_append_41 (by decide) ?_
    rw [hx0] at e1
    exact x_rz E hr hS rfl ⟨by rw [if_pos h9], hQ, by rw [tx_add, tx_len, if_pos h9, if_pos h9]; exact ⟨e0, e1⟩⟩ hP hD d_Tx_append_42
  · refine lv_iconst (v := 0) hx hb d_Tx_append_19 (by decide) ?_
    have h9 : ¬ n < 300 := fun h => c16 (nI_lt h (by omega))
    exact x_rz E hr hS rfl ⟨by rw [if_neg h9], hQ, by rw [tx_add, tx_len, if_neg h9, if_neg h9]; exact ⟨e0, e1⟩⟩ hP hD d_Tx_append_20
abbrev tx_S : Type := (Nat → Int32) × Nat
def tx_psh (s : tx_S) (x : Int32) : tx_S := (tx_add s.1 s.2 x, tx_len s.2)
def tx_un (k : Nat) : Nat := 1000 / 10 ^ k
/-- the digit of v at the unit k, as the code makes it -/
def tx_dc (v : Int32) (k : Nat) : Int32 := ((48 + (v / nI (tx_un k) - v / nI (tx_un k) / 10 * 10)).toUInt32 % 65536).toInt32
def tx_dg (v : Int32) (k : Nat) (s : tx_S) : tx_S := if nI (tx_un k) ≤ v then tx_psh s (tx_dc v k) else if k = 3 then tx_psh s (tx_dc v k) else s
def xTs (g : xG) (ws : va_W) (q h a : Nat) (s : tx_S) : Prop := xText g ws q h a s.1 s.2
theorem tx_psh_le {s : tx_S} {x : Int32} (h : s.2 ≤ 300) : (tx_psh s x).2 ≤ 300 := by
  show tx_len s.2 ≤ 300
  unfold tx_len
  split <;> omega
theorem tx_dg_le {w : Int32} {k : Nat} {s : tx_S} (h : s.2 ≤ 300) : (tx_dg w k s).2 ≤ 300 := by
  unfold tx_dg
  split
  · exact tx_psh_le h
  · split
    · exact tx_psh_le h
    · exact h
theorem tx_it_le {w : Int32} {s : tx_S} (h : s.2 ≤ 300) : ∀ k, (it (tx_dg w) k s).2 ≤ 300
  | 0 => h
  | k + 1 => tx_dg_le (tx_it_le h k)
theorem tx_un_in {k : Nat} (h : k ≤ 4) : (k = 0 ∧ tx_un k = 1000) ∨ (k = 1 ∧ tx_un k = 100) ∨ (k = 2 ∧ tx_un k = 10) ∨ (k = 3 ∧ tx_un k = 1) ∨ (k = 4 ∧ tx_un k = 0) := by
  obtain rfl | rfl | rfl | rfl | rfl : k = 0 ∨ k = 1 ∨ k = 2 ∨ k = 3 ∨ k = 4 := by omega
  all_goals decide
theorem tx_un_div {k : Nat} (h : k ≤ 3) : nI (tx_un k) / 10 = nI (tx_un (k + 1)) := by
  obtain rfl | rfl | rfl | rfl : k = 0 ∨ k = 1 ∨ k = 2 ∨ k = 3 := by omega
  all_goals decide +kernel
theorem tx_char {w : Nat} (h : w ≤ 65535) : (((nI w).toUInt32 % 65536).toInt32 = nI w) := by
  rw [pk_char, pk_tn (by omega), Nat.mod_eq_of_lt (by omega)]
theorem tx_nar {w : Nat} (h : w ≤ 65535) : vp_nar .char (nI w) = nI w := by
  have e := (pk_charN (q := w) (by omega)).1
  unfold vp_nar
  rw [e]
set_option maxRecDepth 100000 in
set_option maxHeartbeats 4000000 in
theorem c_Tx_appendNumber (l : Launch) (g : xG) (b0 : Nat) (ws : va_W) {q h a n : Nat} {f : Nat → Int32} (hT : xText g ws q h a f n) (hn : n ≤ 300) (w : Int32) : xMv l g b0 y_Tx_appendNumber b_Tx_appendNumber 3 1 [.ref h, .int w] ws (fun u => xQ q (q + 2) ws u ∧ xTs g u q h a (it (tx_dg w) 4 (f, n))) := by
  unfold xMv
  refine x_in (by decide) (Nat.le_of_ble_eq_true rfl) ?_
  intro p e s m below meth c ls E hr hin hP hD hl
  obtain ⟨hx, hb, hml, hown, hts, hK, hZ, hb0, hlocks⟩ := id E
  have hS : va_S (xA b0) s.heap s.heap [] := va_S.rf
  have hl : lv_has ls 3 [(0, .ref h), (1, .int w)] := hl
  have hQ : xQ q (q + 2) ws ws := xQ.rf
  have eT : xTs g ws q h a (f, n) := hT
  refine lv_sipush (v := 1000) hx hb d_Tx_appendNumber_0 (by decide) ?_
  refine lv_istore_n (lv' := [(2, .int 1000), (0, .ref h), (1, .int w)]) hx hb d_Tx_appendNumber_3 rfl hl (by decide) rfl (fun ls hl => ?_)
  have loop : ∀ (k i : Nat)  (v : va_W) (H : Heap) (locs : List Loc) (ls : Array Slot), (4 < i + k) → (i ≤ 4) → (lv_has ls 3 [(2, .int (nI (tx_un i))), (0, .ref h), (1, .int w)]) → (va_P (xD g) vwCl v H) → (va_D (xA b0) v) → (va_S (xA b0) s.heap H locs) → (xQ q (q + 2) ws v) → (xTs g v q h a (it (tx_dg w) i (f, n))) → W p l e (rmL 1) s m ([.ref h, .int w] : List Value).toArray below meth c H locs 0 0 (MQ below (va_Qv (fun u => xQ q (q + 2) ws u ∧ xTs g u q h a (it (tx_dg w) 4 (f, n))) (fun u t => va_P (xD g) vwCl u t.heap ∧ va_D (xA b0) u) (xA b0)) ([.ref h, .int w] : List Value).toArray s 0 0 (xA b0)) (F0 m 4 ls []) := by
    intro k
    induction k with
    | zero =>
      intro i v H locs ls hk hi hl hP hD hS hQ eT
      omega
    | succ k ih =>
      intro i v H locs ls hk hi hl hP hD hS hQ eT
      have hv9 : (it (tx_dg w) i (f, n)).2 ≤ 300 := tx_it_le (s := (f, n)) hn i
      have eV : it (tx_dg w) (i + 1) (f, n) = tx_dg w i (it (tx_dg w) i (f, n)) := rfl
      have hu := tx_un_in hi
      generalize eV0 : it (tx_dg w) i (f, n) = V at eT eV hv9
      refine lv_iload_n hx hb d_Tx_appendNumber_4 rfl (lv_at hl 0 rfl) ?_
      refine lv_iconst (v := 1) hx hb d_Tx_appendNumber_5 (by decide) ?_
      refine lv_icmp_lt (tgt := 42) hx hb d_Tx_appendNumber_6 (by decide) (fun c6 => ?_) (fun c6 => ?_)
      · have hi9 : i = 4 := by
          have := (nI_ltI (b := 1) (by omega) (by decide)).mp c6
          omega
        rw [← eV0, hi9] at eT
        exact x_rv E hr hS ⟨hQ, eT⟩ hP hD d_Tx_appendNumber_42
      · have hi9 : i ≤ 3 := Nat.not_lt.mp fun h => c6 (nI_lt (b := 1) (by omega) (by decide))
        have hu1 : 1 ≤ tx_un i := by omega
        refine lv_iload_n hx hb d_Tx_appendNumber_9 rfl (lv_at hl 2 rfl) ?_
        refine lv_iload_n hx hb d_Tx_appendNumber_10 rfl (lv_at hl 0 rfl) ?_
        refine lv_icmp_ge (tgt := 19) hx hb d_Tx_appendNumber_11 (by decide) (fun c11 => ?_) (fun c11 => ?_)
        · have h11 := c11
          refine lv_aload_n hx hb d_Tx_appendNumber_19 rfl (lv_at hl 1 rfl) ?_
          refine lv_bipush (v := 48) hx hb d_Tx_appendNumber_20 (by decide) ?_
          refine lv_iload_n hx hb d_Tx_appendNumber_22 rfl (lv_at hl 2 rfl) ?_
          refine lv_iload_n hx hb d_Tx_appendNumber_23 rfl (lv_at hl 0 rfl) ?_
          refine lv_idiv hx hb d_Tx_appendNumber_24 (nI_ne0 (by omega) (by omega)) ?_
          refine lv_bipush (v := 10) hx hb d_Tx_appendNumber_25 (by decide) ?_
          refine lv_irem hx hb d_Tx_appendNumber_27 (by decide) ?_
          refine lv_iadd hx hb d_Tx_appendNumber_28 ?_
          refine lv_i2c (v := tx_dc w i) hx hb d_Tx_appendNumber_29 rfl ?_
          refine x_cVi (As := [.int (tx_dc w i)]) (rest := []) E (c_Tx_append l g b0 _ eT hv9 (tx_dc w i) (pk_vc _)) wy_Tx_append wl_Tx_19 hP hD hS eT.1 rfl hl.1 ⟨by decide, by decide⟩ ⟨Nat.le_refl _, Nat.le_refl _⟩ rfl (Nat.le_of_ble_eq_true rfl) d_Tx_appendNumber_30 (fun r30 w51 H locs hr30 hP hD hS => ?_)
          obtain ⟨-, hq, eT⟩ := hr30
          have hQ := hQ.tr hq
          have eT : xTs g _ q h a (tx_psh V (tx_dc w i)) := eT
          refine lv_pop hx hb d_Tx_appendNumber_33 rfl ?_
          refine lv_iload_n hx hb d_Tx_appendNumber_34 rfl (lv_at hl 0 rfl) ?_
          refine lv_bipush (v := 10) hx hb d_Tx_appendNumber_35 (by decide) ?_
          refine lv_idiv hx hb d_Tx_appendNumber_37 (by decide) ?_
          refine x_top (y := nI (tx_un (i + 1))) (tx_un_div hi9) ?_
          refine lv_istore_n (lv' := [(2, .int (nI (tx_un (i + 1)))), (0, .ref h), (1, .int w)]) hx hb d_Tx_appendNumber_38 rfl hl (by decide) rfl (fun ls hl => ?_)
          refine lv_goto (tgt := 4) hx hb d_Tx_appendNumber_39 (by decide) ?_
          rw [tx_dg, if_pos h11] at eV
          rw [← eV] at eT
          exact ih (i + 1) _ _ _ _ (by omega) (by omega) hl hP hD hS hQ eT
        · have h11 := c11
          refine lv_iload_n hx hb d_Tx_appendNumber_14 rfl (lv_at hl 0 rfl) ?_
          refine lv_iconst (v := 1) hx hb d_Tx_appendNumber_15 (by decide) ?_
          refine lv_icmp_ne (tgt := 34) hx hb d_Tx_appendNumber_16 (by decide) (fun c16 => ?_) (fun c16 => ?_)
          · have h16 : ¬ i = 3 := fun h => c16 (by rw [h]; decide)
            refine lv_iload_n hx hb d_Tx_appendNumber_34 rfl (lv_at hl 0 rfl) ?_
            refine lv_bipush (v := 10) hx hb d_Tx_appendNumber_35 (by decide) ?_
            refine lv_idiv hx hb d_Tx_appendNumber_37 (by decide) ?_
            refine x_top (y := nI (tx_un (i + 1))) (tx_un_div hi9) ?_
            refine lv_istore_n (lv' := [(2, .int (nI (tx_un (i + 1)))), (0, .ref h), (1, .int w)]) hx hb d_Tx_appendNumber_38 rfl hl (by decide) rfl (fun ls hl => ?_)
            refine lv_goto (tgt := 4) hx hb d_Tx_appendNumber_39 (by decide) ?_
            rw [tx_dg, if_neg h11, if_neg h16] at eV
            rw [← eV] at eT
            exact ih (i + 1) _ _ _ _ (by omega) (by omega) hl hP hD hS hQ eT
          · have h16 : i = 3 := by
              have := (nI_eq (b := 1) (by omega) (by decide)).mp c16
              omega
            refine lv_aload_n hx hb d_Tx_appendNumber_19 rfl (lv_at hl 1 rfl) ?_
            refine lv_bipush (v := 48) hx hb d_Tx_appendNumber_20 (by decide) ?_
            refine lv_iload_n hx hb d_Tx_appendNumber_22 rfl (lv_at hl 2 rfl) ?_
            refine lv_iload_n hx hb d_Tx_appendNumber_23 rfl (lv_at hl 0 rfl) ?_
            refine lv_idiv hx hb d_Tx_appendNumber_24 (nI_ne0 (by omega) (by omega)) ?_
            refine lv_bipush (v := 10) hx hb d_Tx_appendNumber_25 (by decide) ?_
            refine lv_irem hx hb d_Tx_appendNumber_27 (by decide) ?_
            refine lv_iadd hx hb d_Tx_appendNumber_28 ?_
            refine lv_i2c (v := tx_dc w i) hx hb d_Tx_appendNumber_29 rfl ?_
            refine x_cVi (As := [.int (tx_dc w i)]) (rest := []) E (c_Tx_append l g b0 _ eT hv9 (tx_dc w i) (pk_vc _)) wy_Tx_append wl_Tx_19 hP hD hS eT.1 rfl hl.1 ⟨by decide, by decide⟩ ⟨Nat.le_refl _, Nat.le_refl _⟩ rfl (Nat.le_of_ble_eq_true rfl) d_Tx_appendNumber_30 (fun r30 w51 H locs hr30 hP hD hS => ?_)
            obtain ⟨-, hq, eT⟩ := hr30
            have hQ := hQ.tr hq
            have eT : xTs g _ q h a (tx_psh V (tx_dc w i)) := eT
            refine lv_pop hx hb d_Tx_appendNumber_33 rfl ?_
            refine lv_iload_n hx hb d_Tx_appendNumber_34 rfl (lv_at hl 0 rfl) ?_
            refine lv_bipush (v := 10) hx hb d_Tx_appendNumber_35 (by decide) ?_
            refine lv_idiv hx hb d_Tx_appendNumber_37 (by decide) ?_
            refine x_top (y := nI (tx_un (i + 1))) (tx_un_div hi9) ?_
            refine lv_istore_n (lv' := [(2, .int (nI (tx_un (i + 1)))), (0, .ref h), (1, .int w)]) hx hb d_Tx_appendNumber_38 rfl hl (by decide) rfl (fun ls hl => ?_)
            refine lv_goto (tgt := 4) hx hb d_Tx_appendNumber_39 (by decide) ?_
            rw [tx_dg, if_neg h11, if_pos h16] at eV
            rw [← eV] at eT
            exact ih (i + 1) _ _ _ _ (by omega) (by omega) hl hP hD hS hQ eT
  have eT : xTs g _ q h a (it (tx_dg w) 0 (f, n)) := eT
  exact loop 5 0 _ _ _ _ (by omega) (by omega) hl hP hD hS hQ eT
end
section
def mc_val (M : Nat → Nat → Int32) (n : Nat) (i col : Int32) : Int32 := if i < 0 then -1 else if nI n ≤ i then -1 else if col < 0 then -1 else if col < 6 then M col.toNatClampNeg i.toNatClampNeg else -1
set_option maxRecDepth 100000 in
set_option maxHeartbeats 4000000 in
theorem c_Mc_value (l : Launch) (g : xG) (b0 : Nat) (ws : va_W) {q h o d n : Nat} {r : Nat → Nat} {M : Nat → Nat → Int32} {ix : Nat → Int32} (hT : xMach g ws q h o d r M ix n) (hn : n ≤ 24) (i col : Int32) : xRi l g b0 y_Mc_value b_Mc_value 3 (some .int) 0 [.ref h, .int i, .int col] ws (fun r => r = mc_val M n i col) := by
  unfold xRi
  refine x_in (by decide) (Nat.le_of_ble_eq_true rfl) ?_
  intro p e s m below meth c ls E hr hin hP hD hl
  obtain ⟨hx, hb, hml, hown, hts, hK, hZ, hb0, hlocks⟩ := id E
  have hS : va_S (xA b0) s.heap s.heap [] := va_S.rf
  have hl : lv_has ls 3 [(0, .ref h), (1, .int i), (2, .int col)] := hl
  obtain ⟨e0, e1, e2, e3⟩ := id hT
  refine lv_iload_n hx hb d_Mc_value_0 rfl (lv_at hl 1 rfl) ?_
  refine lv_if_lt (tgt := 28) hx hb d_Mc_value_1 (by decide) (fun c1 => ?_) (fun c1 => ?_)
  · refine lv_iconst (v := (-1)) hx hb d_Mc_value_28 (by decide) ?_
    exact x_pi E hr (by rw [mc_val, if_pos c1]) d_Mc_value_29
  · refine lv_iload_n hx hb d_Mc_value_4 rfl (lv_at hl 1 rfl) ?_
    refine lv_aload_n hx hb d_Mc_value_5 rfl (lv_at hl 0 rfl) ?_
    refine x_get E hP e0 rfl cl2_in 2 (by decide) wf_Mc_23 rfl d_Mc_value_6 ?_
    refine lv_icmp_ge (tgt := 28) hx hb d_Mc_value_9 (by decide) (fun c9 => ?_) (fun c9 => ?_)
    · refine lv_iconst (v := (-1)) hx hb d_Mc_value_28 (by decide) ?_
      exact x_pi E hr (by rw [mc_val, if_neg c1, if_pos c9]) d_Mc_value_29
    · obtain ⟨i0, hi0, hi⟩ := x_ix (by omega) c1 c9
      refine lv_iload_n hx hb d_Mc_value_12 rfl (lv_at hl 1 rfl) ?_
      refine lv_bipush (v := 24) hx hb d_Mc_value_13 (by decide) ?_
      refine lv_icmp_ge (tgt := 28) hx hb d_Mc_value_15 (by decide) (fun c15 => absurd c15 (by rw [hi]; exact nI_ge (b := 24) (by omega) (by decide))) (fun c15 => ?_)
      refine lv_iload_n hx hb d_Mc_value_18 rfl (lv_at hl 2 rfl) ?_
      refine lv_if_lt (tgt := 28) hx hb d_Mc_value_19 (by decide) (fun c19 => ?_) (fun c19 => ?_)
      · refine lv_iconst (v := (-1)) hx hb d_Mc_value_28 (by decide) ?_
        exact x_pi E hr (by rw [mc_val, if_neg c1, if_neg c9, if_pos c19]) d_Mc_value_29
      · refine lv_iload_n hx hb d_Mc_value_22 rfl (lv_at hl 2 rfl) ?_
        refine lv_bipush (v := 6) hx hb d_Mc_value_23 (by decide) ?_
        refine lv_icmp_lt (tgt := 30) hx hb d_Mc_value_25 (by decide) (fun c25 => ?_) (fun c25 => ?_)
        · obtain ⟨k0, hk0, hk⟩ := x_ixl (n := 6) (by decide) c19 c25
          refine lv_aload_n hx hb d_Mc_value_30 rfl (lv_at hl 0 rfl) ?_
          refine x_get E hP e0 rfl cl2_in 0 (by decide) wf_Mc_11 rfl d_Mc_value_31 ?_
          refine lv_iload_n hx hb d_Mc_value_34 rfl (lv_at hl 2 rfl) ?_
          refine x_aald E hP e1 (j := k0) hk hk0 (by decide) rfl d_Mc_value_35 ?_
          refine lv_iload_n hx hb d_Mc_value_36 rfl (lv_at hl 1 rfl) ?_
          refine x_iald E hP (e3 k0 hk0) (j := i0) hi (by omega) (by decide) d_Mc_value_37 ?_
          exact x_pi E hr (by rw [mc_val, if_neg c1, if_neg c9, if_neg c19, if_pos c25, hi, hk, nI_clamp (by omega), nI_clamp (by omega)]) d_Mc_value_38
        · refine lv_iconst (v := (-1)) hx hb d_Mc_value_28 (by decide) ?_
          exact x_pi E hr (by rw [mc_val, if_neg c1, if_neg c9, if_neg c19, if_neg c25]) d_Mc_value_29
def mc_ix (ix : Nat → Int32) (name : Int32) : Int32 := if name < 0 then -1 else if name < 30 then ix name.toNatClampNeg else -1
set_option maxRecDepth 100000 in
set_option maxHeartbeats 4000000 in
theorem c_Mc_indexOf (l : Launch) (g : xG) (b0 : Nat) (ws : va_W) {q h o d n : Nat} {r : Nat → Nat} {M : Nat → Nat → Int32} {ix : Nat → Int32} (hT : xMach g ws q h o d r M ix n) (hn : n ≤ 24) (name : Int32) : xRi l g b0 y_Mc_indexOf b_Mc_indexOf 2 (some .int) 0 [.ref h, .int name] ws (fun r => r = mc_ix ix name) := by
  unfold xRi
  refine x_in (by decide) (Nat.le_of_ble_eq_true rfl) ?_
  intro p e s m below meth c ls E hr hin hP hD hl
  obtain ⟨hx, hb, hml, hown, hts, hK, hZ, hb0, hlocks⟩ := id E
  have hS : va_S (xA b0) s.heap s.heap [] := va_S.rf
  have hl : lv_has ls 2 [(0, .ref h), (1, .int name)] := hl
  obtain ⟨e0, e1, e2, e3⟩ := id hT
  refine lv_iload_n hx hb d_Mc_indexOf_0 rfl (lv_at hl 1 rfl) ?_
  refine lv_if_lt (tgt := 13) hx hb d_Mc_indexOf_1 (by decide) (fun c1 => ?_) (fun c1 => ?_)
  · refine lv_iconst (v := (-1)) hx hb d_Mc_indexOf_13 (by decide) ?_
    refine lv_goto (tgt := 23) hx hb d_Mc_indexOf_14 (by decide) ?_
    exact x_pi E hr (by rw [mc_ix, if_pos c1]) d_Mc_indexOf_23
  · refine lv_iload_n hx hb d_Mc_indexOf_4 rfl (lv_at hl 1 rfl) ?_
    refine lv_aload_n hx hb d_Mc_indexOf_5 rfl (lv_at hl 0 rfl) ?_
    refine x_get E hP e0 rfl cl2_in 1 (by decide) wf_Mc_16 rfl d_Mc_indexOf_6 ?_
    refine x_ilen E hP e2 d_Mc_indexOf_9 ?_
    refine lv_icmp_lt (tgt := 17) hx hb d_Mc_indexOf_10 (by decide) (fun c10 => ?_) (fun c10 => ?_)
    · have c10 : name < 30 := c10
      obtain ⟨k0, hk0, hk⟩ := x_ixl (n := 30) (by decide) c1 c10
      refine lv_aload_n hx hb d_Mc_indexOf_17 rfl (lv_at hl 0 rfl) ?_
      refine x_get E hP e0 rfl cl2_in 1 (by decide) wf_Mc_16 rfl d_Mc_indexOf_18 ?_
      refine lv_iload_n hx hb d_Mc_indexOf_21 rfl (lv_at hl 1 rfl) ?_
      refine x_iald E hP e2 (j := k0) hk hk0 (by decide) d_Mc_indexOf_22 ?_
      exact x_pi E hr (by rw [mc_ix, if_neg c1, if_pos c10, hk, nI_clamp (by omega)]) d_Mc_indexOf_23
    · have c10 : ¬ name < 30 := c10
      refine lv_iconst (v := (-1)) hx hb d_Mc_indexOf_13 (by decide) ?_
      refine lv_goto (tgt := 23) hx hb d_Mc_indexOf_14 (by decide) ?_
      exact x_pi E hr (by rw [mc_ix, if_neg c1, if_neg c10]) d_Mc_indexOf_23
def mc_has (M : Nat → Nat → Int32) (n : Nat) (i way : Int32) : Int32 := if mc_val M n i (4 + way) = -1 then 0 else 1
set_option maxRecDepth 100000 in
set_option maxHeartbeats 4000000 in
theorem c_Mc_hasWay (l : Launch) (g : xG) (b0 : Nat) (ws : va_W) {q h o d n : Nat} {r : Nat → Nat} {M : Nat → Nat → Int32} {ix : Nat → Int32} (hT : xMach g ws q h o d r M ix n) (hn : n ≤ 24) (i way : Int32) : xRi l g b0 y_Mc_hasWay b_Mc_hasWay 3 (some .boolean) 1 [.ref h, .int i, .int way] ws (fun r => r = mc_has M n i way) := by
  unfold xRi
  refine x_in (by decide) (Nat.le_of_ble_eq_true rfl) ?_
  intro p e s m below meth c ls E hr hin hP hD hl
  obtain ⟨hx, hb, hml, hown, hts, hK, hZ, hb0, hlocks⟩ := id E
  have hS : va_S (xA b0) s.heap s.heap [] := va_S.rf
  have hl : lv_has ls 3 [(0, .ref h), (1, .int i), (2, .int way)] := hl
  obtain ⟨e0, e1, e2, e3⟩ := id hT
  refine lv_aload_n hx hb d_Mc_hasWay_0 rfl (lv_at hl 0 rfl) ?_
  refine lv_iload_n hx hb d_Mc_hasWay_1 rfl (lv_at hl 1 rfl) ?_
  refine lv_iconst (v := 4) hx hb d_Mc_hasWay_2 (by decide) ?_
  refine lv_iload_n hx hb d_Mc_hasWay_3 rfl (lv_at hl 2 rfl) ?_
  refine lv_iadd hx hb d_Mc_hasWay_4 ?_
  refine x_cRi (As := [.int i, .int (4 + way)]) (rest := []) E (c_Mc_value l g b0 _ hT hn i (4 + way)) wy_Mc_value wl_Mc_31 hP hD hS e0 rfl hl.1 ⟨by decide, by decide⟩ ⟨Nat.le_refl _, Nat.le_refl _⟩ rfl (Nat.le_of_ble_eq_true rfl) d_Mc_hasWay_5 (fun r5 hr5 => ?_)
  subst hr5
  refine lv_iconst (v := (-1)) hx hb d_Mc_hasWay_8 (by decide) ?_
  refine lv_icmp_eq (tgt := 16) hx hb d_Mc_hasWay_9 (by decide) (fun c9 => ?_) (fun c9 => ?_)
  · refine lv_iconst (v := 0) hx hb d_Mc_hasWay_16 (by decide) ?_
    exact x_pz E hr rfl (by rw [mc_has, if_pos c9]) d_Mc_hasWay_17
  · refine lv_iconst (v := 1) hx hb d_Mc_hasWay_12 (by decide) ?_
    refine lv_goto (tgt := 17) hx hb d_Mc_hasWay_13 (by decide) ?_
    exact x_pz E hr rfl (by rw [mc_has, if_neg c9]) d_Mc_hasWay_17
def mc_goal (M : Nat → Nat → Int32) (ix : Nat → Int32) (n : Nat) (i way : Int32) : Int32 := mc_ix ix (mc_val M n i (4 + way))
set_option maxRecDepth 100000 in
set_option maxHeartbeats 4000000 in
theorem c_Mc_goal (l : Launch) (g : xG) (b0 : Nat) (ws : va_W) {q h o d n : Nat} {r : Nat → Nat} {M : Nat → Nat → Int32} {ix : Nat → Int32} (hT : xMach g ws q h o d r M ix n) (hn : n ≤ 24) (i way : Int32) : xRi l g b0 y_Mc_goal b_Mc_goal 3 (some .int) 1 [.ref h, .int i, .int way] ws (fun r => r = mc_goal M ix n i way) := by
  unfold xRi
  refine x_in (by decide) (Nat.le_of_ble_eq_true rfl) ?_
  intro p e s m below meth c ls E hr hin hP hD hl
  obtain ⟨hx, hb, hml, hown, hts, hK, hZ, hb0, hlocks⟩ := id E
  have hS : va_S (xA b0) s.heap s.heap [] := va_S.rf
  have hl : lv_has ls 3 [(0, .ref h), (1, .int i), (2, .int way)] := hl
  obtain ⟨e0, e1, e2, e3⟩ := id hT
  refine lv_aload_n hx hb d_Mc_goal_0 rfl (lv_at hl 0 rfl) ?_
  refine lv_aload_n hx hb d_Mc_goal_1 rfl (lv_at hl 0 rfl) ?_
  refine lv_iload_n hx hb d_Mc_goal_2 rfl (lv_at hl 1 rfl) ?_
  refine lv_iconst (v := 4) hx hb d_Mc_goal_3 (by decide) ?_
  refine lv_iload_n hx hb d_Mc_goal_4 rfl (lv_at hl 2 rfl) ?_
  refine lv_iadd hx hb d_Mc_goal_5 ?_
  refine x_cRi (As := [.int i, .int (4 + way)]) (rest := [.ref h]) E (c_Mc_value l g b0 _ hT hn i (4 + way)) wy_Mc_value wl_Mc_31 hP hD hS e0 rfl hl.1 ⟨by decide, by decide⟩ ⟨Nat.le_refl _, Nat.le_refl _⟩ rfl (Nat.le_of_ble_eq_true rfl) d_Mc_goal_6 (fun r6 hr6 => ?_)
  subst hr6
  refine x_cRi (As := [.int (mc_val M n i (4 + way))]) (rest := []) E (c_Mc_indexOf l g b0 _ hT hn (mc_val M n i (4 + way))) wy_Mc_indexOf wl_Mc_35 hP hD hS e0 rfl hl.1 ⟨by decide, by decide⟩ ⟨Nat.le_refl _, Nat.le_refl _⟩ rfl (Nat.le_of_ble_eq_true rfl) d_Mc_goal_9 (fun r9 hr9 => ?_)
  subst hr9
  exact x_pi E hr rfl d_Mc_goal_12
def mc_tt (M : Nat → Nat → Int32) (n : Nat) (i : Int32) : Int32 := if mc_val M n i 0 = 1 then (if mc_val M n i 3 ≤ 0 then (if mc_val M n i 0 = 2 then mc_val M n i 2 else 0) else (1000 * mc_val M n i 2 + mc_val M n i 3 - 1) / mc_val M n i 3) else (if mc_val M n i 0 = 2 then mc_val M n i 2 else 0)
set_option maxRecDepth 100000 in
set_option maxHeartbeats 4000000 in
theorem c_Mc_timeThrough (l : Launch) (g : xG) (b0 : Nat) (ws : va_W) {q h o d n : Nat} {r : Nat → Nat} {M : Nat → Nat → Int32} {ix : Nat → Int32} (hT : xMach g ws q h o d r M ix n) (hn : n ≤ 24) (i : Int32) : xRi l g b0 y_Mc_timeThrough b_Mc_timeThrough 4 (some .int) 1 [.ref h, .int i] ws (fun r => r = mc_tt M n i) := by
  unfold xRi
  refine x_in (by decide) (Nat.le_of_ble_eq_true rfl) ?_
  intro p e s m below meth c ls E hr hin hP hD hl
  obtain ⟨hx, hb, hml, hown, hts, hK, hZ, hb0, hlocks⟩ := id E
  have hS : va_S (xA b0) s.heap s.heap [] := va_S.rf
  have hl : lv_has ls 4 [(0, .ref h), (1, .int i)] := hl
  obtain ⟨e0, e1, e2, e3⟩ := id hT
  refine lv_aload_n hx hb d_Mc_timeThrough_0 rfl (lv_at hl 0 rfl) ?_
  refine lv_iload_n hx hb d_Mc_timeThrough_1 rfl (lv_at hl 1 rfl) ?_
  refine lv_iconst (v := 2) hx hb d_Mc_timeThrough_2 (by decide) ?_
  refine x_cRi (As := [.int i, .int 2]) (rest := []) E (c_Mc_value l g b0 _ hT hn i 2) wy_Mc_value wl_Mc_31 hP hD hS e0 rfl hl.1 ⟨by decide, by decide⟩ ⟨Nat.le_refl _, Nat.le_refl _⟩ rfl (Nat.le_of_ble_eq_true rfl) d_Mc_timeThrough_3 (fun r3 hr3 => ?_)
  subst hr3
  refine lv_istore_n (lv' := [(2, .int (mc_val M n i 2)), (0, .ref h), (1, .int i)]) hx hb d_Mc_timeThrough_6 rfl hl (by decide) rfl (fun ls hl => ?_)
  refine lv_aload_n hx hb d_Mc_timeThrough_7 rfl (lv_at hl 1 rfl) ?_
  refine lv_iload_n hx hb d_Mc_timeThrough_8 rfl (lv_at hl 2 rfl) ?_
  refine lv_iconst (v := 3) hx hb d_Mc_timeThrough_9 (by decide) ?_
  refine x_cRi (As := [.int i, .int 3]) (rest := []) E (c_Mc_value l g b0 _ hT hn i 3) wy_Mc_value wl_Mc_31 hP hD hS e0 rfl hl.1 ⟨by decide, by decide⟩ ⟨Nat.le_refl _, Nat.le_refl _⟩ rfl (Nat.le_of_ble_eq_true rfl) d_Mc_timeThrough_10 (fun r10 hr10 => ?_)
  subst hr10
  refine lv_istore_n (lv' := [(3, .int (mc_val M n i 3)), (2, .int (mc_val M n i 2)), (0, .ref h), (1, .int i)]) hx hb d_Mc_timeThrough_13 rfl hl (by decide) rfl (fun ls hl => ?_)
  refine lv_aload_n hx hb d_Mc_timeThrough_14 rfl (lv_at hl 2 rfl) ?_
  refine lv_iload_n hx hb d_Mc_timeThrough_15 rfl (lv_at hl 3 rfl) ?_
  refine lv_iconst (v := 0) hx hb d_Mc_timeThrough_16 (by decide) ?_
  refine x_cRi (As := [.int i, .int 0]) (rest := []) E (c_Mc_value l g b0 _ hT hn i 0) wy_Mc_value wl_Mc_31 hP hD hS e0 rfl hl.1 ⟨by decide, by decide⟩ ⟨Nat.le_refl _, Nat.le_refl _⟩ rfl (Nat.le_of_ble_eq_true rfl) d_Mc_timeThrough_17 (fun r17 hr17 => ?_)
  subst hr17
  refine lv_iconst (v := 1) hx hb d_Mc_timeThrough_20 (by decide) ?_
  refine lv_icmp_ne (tgt := 40) hx hb d_Mc_timeThrough_21 (by decide) (fun c21 => ?_) (fun c21 => ?_)
  · refine lv_aload_n hx hb d_Mc_timeThrough_40 rfl (lv_at hl 2 rfl) ?_
    refine lv_iload_n hx hb d_Mc_timeThrough_41 rfl (lv_at hl 3 rfl) ?_
    refine lv_iconst (v := 0) hx hb d_Mc_timeThrough_42 (by decide) ?_
    refine x_cRi (As := [.int i, .int 0]) (rest := []) E (c_Mc_value l g b0 _ hT hn i 0) wy_Mc_value wl_Mc_31 hP hD hS e0 rfl hl.1 ⟨by decide, by decide⟩ ⟨Nat.le_refl _, Nat.le_refl _⟩ rfl (Nat.le_of_ble_eq_true rfl) d_Mc_timeThrough_43 (fun r43 hr43 => ?_)
    subst hr43
    refine lv_iconst (v := 2) hx hb d_Mc_timeThrough_46 (by decide) ?_
    refine lv_icmp_ne (tgt := 54) hx hb d_Mc_timeThrough_47 (by decide) (fun c47 => ?_) (fun c47 => ?_)
    · refine lv_iconst (v := 0) hx hb d_Mc_timeThrough_54 (by decide) ?_
      exact x_pi E hr (by rw [mc_tt, if_neg c21, if_neg c47]) d_Mc_timeThrough_55
    · refine lv_iload_n hx hb d_Mc_timeThrough_50 rfl (lv_at hl 1 rfl) ?_
      refine lv_goto (tgt := 55) hx hb d_Mc_timeThrough_51 (by decide) ?_
      exact x_pi E hr (by rw [mc_tt, if_neg c21, if_pos c47]) d_Mc_timeThrough_55
  · refine lv_iload_n hx hb d_Mc_timeThrough_24 rfl (lv_at hl 0 rfl) ?_
    refine lv_if_le (tgt := 40) hx hb d_Mc_timeThrough_25 (by decide) (fun c25 => ?_) (fun c25 => ?_)
    · refine lv_aload_n hx hb d_Mc_timeThrough_40 rfl (lv_at hl 2 rfl) ?_
      refine lv_iload_n hx hb d_Mc_timeThrough_41 rfl (lv_at hl 3 rfl) ?_
      refine lv_iconst (v := 0) hx hb d_Mc_timeThrough_42 (by decide) ?_
      refine x_cRi (As := [.int i, .int 0]) (rest := []) E (c_Mc_value l g b0 _ hT hn i 0) wy_Mc_value wl_Mc_31 hP hD hS e0 rfl hl.1 ⟨by decide, by decide⟩ ⟨Nat.le_refl _, Nat.le_refl _⟩ rfl (Nat.le_of_ble_eq_true rfl) d_Mc_timeThrough_43 (fun r43 hr43 => ?_)
      subst hr43
      refine lv_iconst (v := 2) hx hb d_Mc_timeThrough_46 (by decide) ?_
      refine lv_icmp_ne (tgt := 54) hx hb d_Mc_timeThrough_47 (by decide) (fun c47 => ?_) (fun c47 => ?_)
      · refine lv_iconst (v := 0) hx hb d_Mc_timeThrough_54 (by decide) ?_
        exact x_pi E hr (by rw [mc_tt, if_pos c21, if_pos c25, if_neg c47]) d_Mc_timeThrough_55
      · refine lv_iload_n hx hb d_Mc_timeThrough_50 rfl (lv_at hl 1 rfl) ?_
        refine lv_goto (tgt := 55) hx hb d_Mc_timeThrough_51 (by decide) ?_
        exact x_pi E hr (by rw [mc_tt, if_pos c21, if_pos c25, if_pos c47]) d_Mc_timeThrough_55
    · refine lv_sipush (v := 1000) hx hb d_Mc_timeThrough_28 (by decide) ?_
      refine lv_iload_n hx hb d_Mc_timeThrough_31 rfl (lv_at hl 1 rfl) ?_
      refine lv_imul hx hb d_Mc_timeThrough_32 ?_
      refine lv_iload_n hx hb d_Mc_timeThrough_33 rfl (lv_at hl 0 rfl) ?_
      refine lv_iadd hx hb d_Mc_timeThrough_34 ?_
      refine lv_iconst (v := 1) hx hb d_Mc_timeThrough_35 (by decide) ?_
      refine lv_isub hx hb d_Mc_timeThrough_36 ?_
      refine lv_iload_n hx hb d_Mc_timeThrough_37 rfl (lv_at hl 0 rfl) ?_
      refine lv_idiv hx hb d_Mc_timeThrough_38 (fun h => c25 (by rw [h]; decide)) ?_
      exact x_pi E hr (by rw [mc_tt, if_pos c21, if_neg c25]) d_Mc_timeThrough_39
set_option maxRecDepth 100000 in
set_option maxHeartbeats 4000000 in
theorem c_Mc_setLatest (l : Launch) (g : xG) (b0 : Nat) (ws : va_W) {q h o d n : Nat} {r : Nat → Nat} {M : Nat → Nat → Int32} {ix : Nat → Int32} (hT : xMach g ws q h o d r M ix n) (hn1 : 1 ≤ n) (hn : n ≤ 24) (col v : Int32) (k : Nat) (hk : col = nI k) (hk6 : k < 6) : xMv l g b0 y_Mc_setLatest b_Mc_setLatest 4 0 [.ref h, .int col, .int v] ws (fun u => xQ q (q + 9) ws u ∧ xMach g u q h o d r (xg_up M k (n - 1) v) ix n) := by
  unfold xMv
  refine x_in (by decide) (Nat.le_of_ble_eq_true rfl) ?_
  intro p e s m below meth c ls E hr hin hP hD hl
  obtain ⟨hx, hb, hml, hown, hts, hK, hZ, hb0, hlocks⟩ := id E
  have hS : va_S (xA b0) s.heap s.heap [] := va_S.rf
  have hl : lv_has ls 4 [(0, .ref h), (1, .int col), (2, .int v)] := hl
  obtain ⟨e0, e1, e2, e3⟩ := id hT
  have hQ : xQ q (q + 9) ws ws := xQ.rf
  refine lv_aload_n hx hb d_Mc_setLatest_0 rfl (lv_at hl 0 rfl) ?_
  refine x_get E hP e0 rfl cl2_in 2 (by decide) wf_Mc_23 rfl d_Mc_setLatest_1 ?_
  refine lv_iconst (v := 1) hx hb d_Mc_setLatest_4 (by decide) ?_
  refine lv_isub hx hb d_Mc_setLatest_5 ?_
  refine x_top (y := nI (n - 1)) (pk_sub (b := 1) hn1) ?_
  refine lv_istore_n (lv' := [(3, .int (nI (n - 1))), (0, .ref h), (1, .int col), (2, .int v)]) hx hb d_Mc_setLatest_6 rfl hl (by decide) rfl (fun ls hl => ?_)
  refine lv_iload_n hx hb d_Mc_setLatest_7 rfl (lv_at hl 0 rfl) ?_
  refine lv_if_lt (tgt := 36) hx hb d_Mc_setLatest_8 (by decide) (fun c8 => absurd c8 (nI_pos (by omega))) (fun c8 => ?_)
  refine lv_iload_n hx hb d_Mc_setLatest_11 rfl (lv_at hl 0 rfl) ?_
  refine lv_bipush (v := 24) hx hb d_Mc_setLatest_12 (by decide) ?_
  refine lv_icmp_ge (tgt := 36) hx hb d_Mc_setLatest_14 (by decide) (fun c14 => absurd c14 (nI_ge (b := 24) (by omega) (by decide))) (fun c14 => ?_)
  refine lv_iload_n hx hb d_Mc_setLatest_17 rfl (lv_at hl 2 rfl) ?_
  refine lv_if_lt (tgt := 36) hx hb d_Mc_setLatest_18 (by decide) (fun c18 => absurd c18 (by rw [hk]; exact nI_pos (by omega))) (fun c18 => ?_)
  refine lv_iload_n hx hb d_Mc_setLatest_21 rfl (lv_at hl 2 rfl) ?_
  refine lv_bipush (v := 6) hx hb d_Mc_setLatest_22 (by decide) ?_
  refine lv_icmp_ge (tgt := 36) hx hb d_Mc_setLatest_24 (by decide) (fun c24 => absurd c24 (by rw [hk]; exact nI_ge (b := 6) (by omega) (by decide))) (fun c24 => ?_)
  refine lv_aload_n hx hb d_Mc_setLatest_27 rfl (lv_at hl 1 rfl) ?_
  refine x_get E hP e0 rfl cl2_in 0 (by decide) wf_Mc_11 rfl d_Mc_setLatest_28 ?_
  refine lv_iload_n hx hb d_Mc_setLatest_31 rfl (lv_at hl 2 rfl) ?_
  refine x_aald E hP e1 (j := k) hk hk6 (by decide) rfl d_Mc_setLatest_32 ?_
  refine lv_iload_n hx hb d_Mc_setLatest_33 rfl (lv_at hl 0 rfl) ?_
  refine lv_iload_n hx hb d_Mc_setLatest_34 rfl (lv_at hl 3 rfl) ?_
  refine x_iast E hP hD hS (e3 k hk6) (j := n - 1) rfl (by omega) (by decide) d_Mc_setLatest_35 (fun w1 H locs hU1 hP hD hS => ?_)
  have e3 : ∀ j, j < 6 → w1[q + 2 + j]? = some (r j, .inl (cI g, 24, .inl (xg_up M k (n - 1) v j))) := xg_put e3 hU1
  have e0 : w1[q]? = some (h, .inr (2, [.ref o, .ref d, .int (nI n)])) := (hU1.2 _ (by omega)).trans e0
  have e1 : w1[q + 1]? = some (o, .inl (cG g, 6, .inr (.inr (.inr (.inr (fun j => some (r j))))))) := (hU1.2 _ (by omega)).trans e1
  have e2 : w1[q + 8]? = some (d, .inl (cI g, 30, .inl ix)) := (hU1.2 _ (by omega)).trans e2
  have hQ := hQ.up hU1 (by omega)
  exact x_rv E hr hS ⟨hQ, e0, e1, e2, e3⟩ hP hD d_Mc_setLatest_36
set_option maxRecDepth 100000 in
set_option maxHeartbeats 4000000 in
theorem c_Mc_clear (l : Launch) (g : xG) (b0 : Nat) (ws : va_W) {q h o d n : Nat} {r : Nat → Nat} {M : Nat → Nat → Int32} {ix : Nat → Int32} (hT : xMach g ws q h o d r M ix n) (hn : n ≤ 24) : xMv l g b0 y_Mc_clear b_Mc_clear 2 0 [.ref h] ws (fun u => xQ q (q + 9) ws u ∧ ∃ ix', xMach g u q h o d r M ix' 0 ∧ ∀ j, j < 30 → ix' j = -1) := by
  unfold xMv
  refine x_in (by decide) (Nat.le_of_ble_eq_true rfl) ?_
  intro p e s m below meth c ls E hr hin hP hD hl
  obtain ⟨hx, hb, hml, hown, hts, hK, hZ, hb0, hlocks⟩ := id E
  have hS : va_S (xA b0) s.heap s.heap [] := va_S.rf
  have hl : lv_has ls 2 [(0, .ref h)] := hl
  obtain ⟨e0, e1, e2, e3⟩ := id hT
  have hQ : xQ q (q + 9) ws ws := xQ.rf
  refine lv_aload_n hx hb d_Mc_clear_0 rfl (lv_at hl 0 rfl) ?_
  refine lv_iconst (v := 0) hx hb d_Mc_clear_1 (by decide) ?_
  refine x_put E hP hD hS e0 rfl cl2_in cl2_ty cl2_nm 2 (by decide) wf_Mc_23 rfl rfl rfl (Nat.le_of_ble_eq_true rfl) d_Mc_clear_2 (fun w1 H locs hU1 hP hD hS => ?_)
  have e0 : w1[q]? = some (h, .inr (2, [.ref o, .ref d, .int 0])) := hU1.1
  have e1 : w1[q + 1]? = some (o, .inl (cG g, 6, .inr (.inr (.inr (.inr (fun j => some (r j))))))) := (hU1.2 _ (by omega)).trans e1
  have e2 : w1[q + 8]? = some (d, .inl (cI g, 30, .inl ix)) := (hU1.2 _ (by omega)).trans e2
  have e3 : ∀ j, j < 6 → w1[q + 2 + j]? = some (r j, .inl (cI g, 24, .inl (M j))) := fun j hj => (hU1.2 _ (by omega)).trans (e3 j hj)
  have hQ := hQ.up hU1 (by omega)
  refine lv_iconst (v := 0) hx hb d_Mc_clear_5 (by decide) ?_
  refine lv_istore_n (lv' := [(1, .int 0), (0, .ref h)]) hx hb d_Mc_clear_6 rfl hl (by decide) rfl (fun ls hl => ?_)
  have loop : ∀ (k i : Nat) (ix : Nat → Int32) (w : va_W) (H : Heap) (locs : List Loc) (ls : Array Slot), (30 < i + k) → (i ≤ 30) → (∀ j, j < i → ix j = -1) → (lv_has ls 2 [(1, .int (nI i)), (0, .ref h)]) → (va_P (xD g) vwCl w H) → (va_D (xA b0) w) → (va_S (xA b0) s.heap H locs) → (xQ q (q + 9) ws w) → (w[q]? = some (h, .inr (2, [.ref o, .ref d, .int 0]))) → (w[q + 1]? = some (o, .inl (cG g, 6, .inr (.inr (.inr (.inr (fun j => some (r j)))))))) → (w[q + 8]? = some (d, .inl (cI g, 30, .inl ix))) → (∀ j, j < 6 → w[q + 2 + j]? = some (r j, .inl (cI g, 24, .inl (M j)))) → W p l e (rmL 0) s m ([.ref h] : List Value).toArray below meth c H locs 0 0 (MQ below (va_Qv (fun u => xQ q (q + 9) ws u ∧ ∃ ix', xMach g u q h o d r M ix' 0 ∧ ∀ j, j < 30 → ix' j = -1) (fun u t => va_P (xD g) vwCl u t.heap ∧ va_D (xA b0) u) (xA b0)) ([.ref h] : List Value).toArray s 0 0 (xA b0)) (F0 m 7 ls []) := by
    intro k
    induction k with
    | zero =>
      intro i ix w H locs ls hk hi hx0 hl hP hD hS hQ e0 e1 e2 e3
      omega
    | succ k ih =>
      intro i ix w H locs ls hk hi hx0 hl hP hD hS hQ e0 e1 e2 e3
      refine lv_iload_n hx hb d_Mc_clear_7 rfl (lv_at hl 0 rfl) ?_
      refine lv_aload_n hx hb d_Mc_clear_8 rfl (lv_at hl 1 rfl) ?_
      refine x_get E hP e0 rfl cl2_in 1 (by decide) wf_Mc_16 rfl d_Mc_clear_9 ?_
      refine x_ilen E hP e2 d_Mc_clear_12 ?_
      refine lv_icmp_ge (tgt := 29) hx hb d_Mc_clear_13 (by decide) (fun c13 => ?_) (fun c13 => ?_)
      · have hi9 : 30 ≤ i := (nI_leI (by omega) (by omega)).mp c13
        exact x_rv E hr hS ⟨hQ, ix, ⟨e0, e1, e2, e3⟩, fun j hj => hx0 j (by omega)⟩ hP hD d_Mc_clear_29
      · have hi9 : i < 30 := Nat.not_le.mp fun h => c13 (nI_le h (by omega))
        refine lv_aload_n hx hb d_Mc_clear_16 rfl (lv_at hl 1 rfl) ?_
        refine x_get E hP e0 rfl cl2_in 1 (by decide) wf_Mc_16 rfl d_Mc_clear_17 ?_
        refine lv_iload_n hx hb d_Mc_clear_20 rfl (lv_at hl 0 rfl) ?_
        refine lv_iconst (v := (-1)) hx hb d_Mc_clear_21 (by decide) ?_
        refine x_iast E hP hD hS e2 (j := i) rfl hi9 (by decide) d_Mc_clear_22 (fun w52 H locs hU52 hP hD hS => ?_)
        have e2 : w52[q + 8]? = some (d, .inl (cI g, 30, .inl (upd ix i (-1)))) := hU52.1
        have e0 : w52[q]? = some (h, .inr (2, [.ref o, .ref d, .int 0])) := (hU52.2 _ (by omega)).trans e0
        have e1 : w52[q + 1]? = some (o, .inl (cG g, 6, .inr (.inr (.inr (.inr (fun j => some (r j))))))) := (hU52.2 _ (by omega)).trans e1
        have e3 : ∀ j, j < 6 → w52[q + 2 + j]? = some (r j, .inl (cI g, 24, .inl (M j))) := fun j hj => (hU52.2 _ (by omega)).trans (e3 j hj)
        have hQ := hQ.up hU52 (by omega)
        refine lv_iinc (v := nI (i + 1)) (lv' := [(1, .int (nI (i + 1))), (0, .ref h)]) hx hb d_Mc_clear_23 hl (k := 0) rfl (nI_1 i) (by decide) rfl (fun ls hl => ?_)
        refine lv_goto (tgt := 7) hx hb d_Mc_clear_26 (by decide) ?_
        exact ih (i + 1) (upd ix i (-1)) _ _ _ _ (by omega) (by omega) (fun j hj => by
            by_cases e9 : j = i
            · rw [e9, pk_us]
            · rw [pk_un e9]; exact hx0 j (by omega)) hl hP hD hS hQ e0 e1 e2 e3
  exact loop 31 0 ix _ _ _ _ (by omega) (by omega) (fun j hj => absurd hj (Nat.not_lt_zero j)) hl hP hD hS hQ e0 e1 e2 e3
def mc_clr (n : Nat) (k : Nat) (M : Nat → Nat → Int32) : Nat → Nat → Int32 := xg_up M k n (-1)
def mc_new (M : Nat → Nat → Int32) (n : Nat) (kd nm : Int32) : Nat → Nat → Int32 := xg_up (xg_up (it (mc_clr n) 6 M) 0 n kd) 1 n nm
set_option maxRecDepth 100000 in
set_option maxHeartbeats 4000000 in
theorem c_Mc_addPart (l : Launch) (g : xG) (b0 : Nat) (ws : va_W) {q h o d n : Nat} {r : Nat → Nat} {M : Nat → Nat → Int32} {ix : Nat → Int32} (hT : xMach g ws q h o d r M ix n) (hn : n < 24) (kd name : Int32) (nm : Nat) (hnm : name = nI nm) (hnm30 : nm < 30) : xMv l g b0 y_Mc_addPart b_Mc_addPart 4 1 [.ref h, .int kd, .int name] ws (fun u => xQ q (q + 9) ws u ∧ xMach g u q h o d r (mc_new M n kd name) (upd ix nm (nI n)) (n + 1)) := by
  unfold xMv
  refine x_in (by decide) (Nat.le_of_ble_eq_true rfl) ?_
  intro p e s m below meth c ls E hr hin hP hD hl
  obtain ⟨hx, hb, hml, hown, hts, hK, hZ, hb0, hlocks⟩ := id E
  have hS : va_S (xA b0) s.heap s.heap [] := va_S.rf
  have hl : lv_has ls 4 [(0, .ref h), (1, .int kd), (2, .int name)] := hl
  obtain ⟨e0, e1, e2, e3⟩ := id hT
  have hQ : xQ q (q + 9) ws ws := xQ.rf
  refine lv_aload_n hx hb d_Mc_addPart_0 rfl (lv_at hl 0 rfl) ?_
  refine x_get E hP e0 rfl cl2_in 2 (by decide) wf_Mc_23 rfl d_Mc_addPart_1 ?_
  refine lv_if_lt (tgt := 29) hx hb d_Mc_addPart_4 (by decide) (fun c4 => absurd c4 (nI_pos (by omega))) (fun c4 => ?_)
  refine lv_aload_n hx hb d_Mc_addPart_7 rfl (lv_at hl 0 rfl) ?_
  refine x_get E hP e0 rfl cl2_in 2 (by decide) wf_Mc_23 rfl d_Mc_addPart_8 ?_
  refine lv_bipush (v := 24) hx hb d_Mc_addPart_11 (by decide) ?_
  refine lv_icmp_ge (tgt := 29) hx hb d_Mc_addPart_13 (by decide) (fun c13 => absurd c13 (nI_ge (b := 24) (by omega) (by decide))) (fun c13 => ?_)
  refine lv_iload_n hx hb d_Mc_addPart_16 rfl (lv_at hl 2 rfl) ?_
  refine lv_if_lt (tgt := 29) hx hb d_Mc_addPart_17 (by decide) (fun c17 => absurd c17 (by rw [hnm]; exact nI_pos (by omega))) (fun c17 => ?_)
  refine lv_iload_n hx hb d_Mc_addPart_20 rfl (lv_at hl 2 rfl) ?_
  refine lv_aload_n hx hb d_Mc_addPart_21 rfl (lv_at hl 0 rfl) ?_
  refine x_get E hP e0 rfl cl2_in 1 (by decide) wf_Mc_16 rfl d_Mc_addPart_22 ?_
  refine x_ilen E hP e2 d_Mc_addPart_25 ?_
  refine lv_icmp_lt (tgt := 30) hx hb d_Mc_addPart_26 (by decide) (fun c26 => ?_) (fun c26 => absurd (by rw [hnm]; exact nI_lt (by omega) (by decide)) c26)
  refine lv_aload_n hx hb d_Mc_addPart_30 rfl (lv_at hl 0 rfl) ?_
  refine x_get E hP e0 rfl cl2_in 1 (by decide) wf_Mc_16 rfl d_Mc_addPart_31 ?_
  refine lv_iload_n hx hb d_Mc_addPart_34 rfl (lv_at hl 2 rfl) ?_
  refine lv_aload_n hx hb d_Mc_addPart_35 rfl (lv_at hl 0 rfl) ?_
  refine x_get E hP e0 rfl cl2_in 2 (by decide) wf_Mc_23 rfl d_Mc_addPart_36 ?_
  refine x_iast E hP hD hS e2 (j := nm) hnm hnm30 (by decide) d_Mc_addPart_39 (fun w1 H locs hU1 hP hD hS => ?_)
  have e2 : w1[q + 8]? = some (d, .inl (cI g, 30, .inl (upd ix nm (nI n)))) := hU1.1
  have e0 : w1[q]? = some (h, .inr (2, [.ref o, .ref d, .int (nI n)])) := (hU1.2 _ (by omega)).trans e0
  have e1 : w1[q + 1]? = some (o, .inl (cG g, 6, .inr (.inr (.inr (.inr (fun j => some (r j))))))) := (hU1.2 _ (by omega)).trans e1
  have e3 : ∀ j, j < 6 → w1[q + 2 + j]? = some (r j, .inl (cI g, 24, .inl (M j))) := fun j hj => (hU1.2 _ (by omega)).trans (e3 j hj)
  have hQ := hQ.up hU1 (by omega)
  refine lv_aload_n hx hb d_Mc_addPart_40 rfl (lv_at hl 0 rfl) ?_
  refine lv_dup hx hb d_Mc_addPart_41 rfl ?_
  refine x_get E hP e0 rfl cl2_in 2 (by decide) wf_Mc_23 rfl d_Mc_addPart_42 ?_
  refine lv_iconst (v := 1) hx hb d_Mc_addPart_45 (by decide) ?_
  refine lv_iadd hx hb d_Mc_addPart_46 ?_
  refine x_top (y := nI (n + 1)) (nI_1 n) ?_
  refine x_put E hP hD hS e0 rfl cl2_in cl2_ty cl2_nm 2 (by decide) wf_Mc_23 rfl rfl rfl (Nat.le_of_ble_eq_true rfl) d_Mc_addPart_47 (fun w2 H locs hU2 hP hD hS => ?_)
  have e0 : w2[q]? = some (h, .inr (2, [.ref o, .ref d, .int (nI (n + 1))])) := hU2.1
  have e1 : w2[q + 1]? = some (o, .inl (cG g, 6, .inr (.inr (.inr (.inr (fun j => some (r j))))))) := (hU2.2 _ (by omega)).trans e1
  have e2 : w2[q + 8]? = some (d, .inl (cI g, 30, .inl (upd ix nm (nI n)))) := (hU2.2 _ (by omega)).trans e2
  have e3 : ∀ j, j < 6 → w2[q + 2 + j]? = some (r j, .inl (cI g, 24, .inl (M j))) := fun j hj => (hU2.2 _ (by omega)).trans (e3 j hj)
  have hQ := hQ.up hU2 (by omega)
  refine lv_iconst (v := 0) hx hb d_Mc_addPart_50 (by decide) ?_
  refine lv_istore_n (lv' := [(3, .int 0), (0, .ref h), (1, .int kd), (2, .int name)]) hx hb d_Mc_addPart_51 rfl hl (by decide) rfl (fun ls hl => ?_)
  have loop : ∀ (k i : Nat)  (w : va_W) (H : Heap) (locs : List Loc) (ls : Array Slot), (6 < i + k) → (i ≤ 6) → (lv_has ls 4 [(3, .int (nI i)), (0, .ref h), (1, .int kd), (2, .int name)]) → (va_P (xD g) vwCl w H) → (va_D (xA b0) w) → (va_S (xA b0) s.heap H locs) → (xQ q (q + 9) ws w) → (xMach g w q h o d r (it (mc_clr n) i M) (upd ix nm (nI n)) (n + 1)) → W p l e (rmL 1) s m ([.ref h, .int kd, .int name] : List Value).toArray below meth c H locs 0 0 (MQ below (va_Qv (fun u => xQ q (q + 9) ws u ∧ xMach g u q h o d r (mc_new M n kd name) (upd ix nm (nI n)) (n + 1)) (fun u t => va_P (xD g) vwCl u t.heap ∧ va_D (xA b0) u) (xA b0)) ([.ref h, .int kd, .int name] : List Value).toArray s 0 0 (xA b0)) (F0 m 52 ls []) := by
    intro k
    induction k with
    | zero =>
      intro i w H locs ls hk hi hl hP hD hS hQ eT
      omega
    | succ k ih =>
      intro i w H locs ls hk hi hl hP hD hS hQ eT
      refine lv_iload_n hx hb d_Mc_addPart_52 rfl (lv_at hl 0 rfl) ?_
      refine lv_bipush (v := 6) hx hb d_Mc_addPart_53 (by decide) ?_
      refine lv_icmp_ge (tgt := 70) hx hb d_Mc_addPart_55 (by decide) (fun c55 => ?_) (fun c55 => ?_)
      · have hi9 : i = 6 := by
          have := (nI_leI (a := 6) (by decide) (by omega)).mp c55
          omega
        rw [hi9] at eT
        refine lv_aload_n hx hb d_Mc_addPart_70 rfl (lv_at hl 1 rfl) ?_
        refine lv_iconst (v := 0) hx hb d_Mc_addPart_71 (by decide) ?_
        refine lv_iload_n hx hb d_Mc_addPart_72 rfl (lv_at hl 2 rfl) ?_
        refine x_cVv (As := [.int 0, .int kd]) (rest := []) E (c_Mc_setLatest l g b0 _ eT (by omega) (by omega) 0 kd 0 rfl (by decide)) wy_Mc_setLatest wl_Mc_27 hP hD hS eT.1 rfl hl.1 ⟨by decide, by decide⟩ ⟨Nat.le_refl _, Nat.le_refl _⟩ rfl (Nat.le_of_ble_eq_true rfl) d_Mc_addPart_73 (fun w53 H locs hr73 hP hD hS => ?_)
        obtain ⟨hq, eT⟩ := hr73
        have hQ := hQ.tr hq
        have eT : xMach g w53 q h o d r (xg_up (it (mc_clr n) 6 M) 0 n kd) (upd ix nm (nI n)) (n + 1) := eT
        refine lv_aload_n hx hb d_Mc_addPart_76 rfl (lv_at hl 1 rfl) ?_
        refine lv_iconst (v := 1) hx hb d_Mc_addPart_77 (by decide) ?_
        refine lv_iload_n hx hb d_Mc_addPart_78 rfl (lv_at hl 3 rfl) ?_
        refine x_cVv (As := [.int 1, .int name]) (rest := []) E (c_Mc_setLatest l g b0 _ eT (by omega) (by omega) 1 name 1 rfl (by decide)) wy_Mc_setLatest wl_Mc_27 hP hD hS eT.1 rfl hl.1 ⟨by decide, by decide⟩ ⟨Nat.le_refl _, Nat.le_refl _⟩ rfl (Nat.le_of_ble_eq_true rfl) d_Mc_addPart_79 (fun w54 H locs hr79 hP hD hS => ?_)
        obtain ⟨hq, eT⟩ := hr79
        have hQ := hQ.tr hq
        have eT : xMach g w54 q h o d r (mc_new M n kd name) (upd ix nm (nI n)) (n + 1) := eT
        exact x_rv E hr hS ⟨hQ, eT⟩ hP hD d_Mc_addPart_82
      · have hi9 : i < 6 := Nat.not_le.mp fun h => c55 (nI_le (a := 6) h (by omega))
        refine lv_aload_n hx hb d_Mc_addPart_58 rfl (lv_at hl 1 rfl) ?_
        refine lv_iload_n hx hb d_Mc_addPart_59 rfl (lv_at hl 0 rfl) ?_
        refine lv_iconst (v := (-1)) hx hb d_Mc_addPart_60 (by decide) ?_
        refine x_cVv (As := [.int (nI i), .int (-1)]) (rest := []) E (c_Mc_setLatest l g b0 _ eT (by omega) (by omega) (nI i) (-1) i rfl hi9) wy_Mc_setLatest wl_Mc_27 hP hD hS eT.1 rfl hl.1 ⟨by decide, by decide⟩ ⟨Nat.le_refl _, Nat.le_refl _⟩ rfl (Nat.le_of_ble_eq_true rfl) d_Mc_addPart_61 (fun w53 H locs hr61 hP hD hS => ?_)
        obtain ⟨hq, eT⟩ := hr61
        have hQ := hQ.tr hq
        have eT : xMach g w53 q h o d r (it (mc_clr n) (i + 1) M) (upd ix nm (nI n)) (n + 1) := eT
        refine lv_iinc (v := nI (i + 1)) (lv' := [(3, .int (nI (i + 1))), (0, .ref h), (1, .int kd), (2, .int name)]) hx hb d_Mc_addPart_64 hl (k := 0) rfl (nI_1 i) (by decide) rfl (fun ls hl => ?_)
        refine lv_goto (tgt := 52) hx hb d_Mc_addPart_67 (by decide) ?_
        exact ih (i + 1) _ _ _ _ (by omega) (by omega) hl hP hD hS hQ eT
  have eT : xMach g _ q h o d r (it (mc_clr n) 0 M) (upd ix nm (nI n)) (n + 1) := ⟨e0, e1, e2, e3⟩
  exact loop 7 0 _ _ _ _ (by omega) (by omega) hl hP hD hS hQ eT
end
section
def pa_lt (T : Nat → Nat → Int32) (i j : Int32) : Int32 := if i < 0 then -1 else if 24 ≤ i then -1 else if j < 0 then -1 else if j < 24 then T i.toNatClampNeg j.toNatClampNeg else -1
set_option maxRecDepth 100000 in
set_option maxHeartbeats 4000000 in
theorem c_Pa_leastTime (l : Launch) (g : xG) (b0 : Nat) (ws : va_W) {q h o : Nat} {r : Nat → Nat} {T : Nat → Nat → Int32} (hT : xPath g ws q h o r T) (i j : Int32) : xRi l g b0 y_Pa_leastTime b_Pa_leastTime 3 (some .int) 0 [.ref h, .int i, .int j] ws (fun r => r = pa_lt T i j) := by
  unfold xRi
  refine x_in (by decide) (Nat.le_of_ble_eq_true rfl) ?_
  intro p e s m below meth c ls E hr hin hP hD hl
  obtain ⟨hx, hb, hml, hown, hts, hK, hZ, hb0, hlocks⟩ := id E
  have hS : va_S (xA b0) s.heap s.heap [] := va_S.rf
  have hl : lv_has ls 3 [(0, .ref h), (1, .int i), (2, .int j)] := hl
  obtain ⟨e0, e1, e2⟩ := id hT
  refine lv_iload_n hx hb d_Pa_leastTime_0 rfl (lv_at hl 1 rfl) ?_
  refine lv_if_lt (tgt := 20) hx hb d_Pa_leastTime_1 (by decide) (fun c1 => ?_) (fun c1 => ?_)
  · refine lv_iconst (v := (-1)) hx hb d_Pa_leastTime_20 (by decide) ?_
    exact x_pi E hr (by rw [pa_lt, if_pos c1]) d_Pa_leastTime_21
  · refine lv_iload_n hx hb d_Pa_leastTime_4 rfl (lv_at hl 1 rfl) ?_
    refine lv_bipush (v := 24) hx hb d_Pa_leastTime_5 (by decide) ?_
    refine lv_icmp_ge (tgt := 20) hx hb d_Pa_leastTime_7 (by decide) (fun c7 => ?_) (fun c7 => ?_)
    · refine lv_iconst (v := (-1)) hx hb d_Pa_leastTime_20 (by decide) ?_
      exact x_pi E hr (by rw [pa_lt, if_neg c1, if_pos c7]) d_Pa_leastTime_21
    · refine lv_iload_n hx hb d_Pa_leastTime_10 rfl (lv_at hl 2 rfl) ?_
      refine lv_if_lt (tgt := 20) hx hb d_Pa_leastTime_11 (by decide) (fun c11 => ?_) (fun c11 => ?_)
      · refine lv_iconst (v := (-1)) hx hb d_Pa_leastTime_20 (by decide) ?_
        exact x_pi E hr (by rw [pa_lt, if_neg c1, if_neg c7, if_pos c11]) d_Pa_leastTime_21
      · refine lv_iload_n hx hb d_Pa_leastTime_14 rfl (lv_at hl 2 rfl) ?_
        refine lv_bipush (v := 24) hx hb d_Pa_leastTime_15 (by decide) ?_
        refine lv_icmp_lt (tgt := 22) hx hb d_Pa_leastTime_17 (by decide) (fun c17 => ?_) (fun c17 => ?_)
        · obtain ⟨i0, hi0, hi⟩ := x_ix (n := 24) (by decide) c1 c7
          obtain ⟨j0, hj0, hj⟩ := x_ixl (n := 24) (by decide) c11 c17
          refine lv_aload_n hx hb d_Pa_leastTime_22 rfl (lv_at hl 0 rfl) ?_
          refine x_get E hP e0 rfl cl4_in 0 (by decide) wf_Pa_11 rfl d_Pa_leastTime_23 ?_
          refine lv_iload_n hx hb d_Pa_leastTime_26 rfl (lv_at hl 1 rfl) ?_
          refine x_aald E hP e1 (j := i0) hi hi0 (by decide) rfl d_Pa_leastTime_27 ?_
          refine lv_iload_n hx hb d_Pa_leastTime_28 rfl (lv_at hl 2 rfl) ?_
          refine x_iald E hP (e2 i0 hi0) (j := j0) hj hj0 (by decide) d_Pa_leastTime_29 ?_
          exact x_pi E hr (by rw [pa_lt, if_neg c1, if_neg c7, if_neg c11, if_pos c17, hi, hj, nI_clamp (by omega), nI_clamp (by omega)]) d_Pa_leastTime_30
        · refine lv_iconst (v := (-1)) hx hb d_Pa_leastTime_20 (by decide) ?_
          exact x_pi E hr (by rw [pa_lt, if_neg c1, if_neg c7, if_neg c11, if_neg c17]) d_Pa_leastTime_21
def pa_ld (T : Nat → Nat → Int32) (i j : Int32) : Int32 := if pa_lt T i j = -1 then 0 else 1
set_option maxRecDepth 100000 in
set_option maxHeartbeats 4000000 in
theorem c_Pa_leads (l : Launch) (g : xG) (b0 : Nat) (ws : va_W) {q h o : Nat} {r : Nat → Nat} {T : Nat → Nat → Int32} (hT : xPath g ws q h o r T) (i j : Int32) : xRi l g b0 y_Pa_leads b_Pa_leads 3 (some .boolean) 1 [.ref h, .int i, .int j] ws (fun r => r = pa_ld T i j) := by
  unfold xRi
  refine x_in (by decide) (Nat.le_of_ble_eq_true rfl) ?_
  intro p e s m below meth c ls E hr hin hP hD hl
  obtain ⟨hx, hb, hml, hown, hts, hK, hZ, hb0, hlocks⟩ := id E
  have hS : va_S (xA b0) s.heap s.heap [] := va_S.rf
  have hl : lv_has ls 3 [(0, .ref h), (1, .int i), (2, .int j)] := hl
  obtain ⟨e0, e1, e2⟩ := id hT
  refine lv_aload_n hx hb d_Pa_leads_0 rfl (lv_at hl 0 rfl) ?_
  refine lv_iload_n hx hb d_Pa_leads_1 rfl (lv_at hl 1 rfl) ?_
  refine lv_iload_n hx hb d_Pa_leads_2 rfl (lv_at hl 2 rfl) ?_
  refine x_cRi (As := [.int i, .int j]) (rest := []) E (c_Pa_leastTime l g b0 _ hT i j) wy_Pa_leastTime wl_Pa_40 hP hD hS e0 rfl hl.1 ⟨by decide, by decide⟩ ⟨Nat.le_refl _, Nat.le_refl _⟩ rfl (Nat.le_of_ble_eq_true rfl) d_Pa_leads_3 (fun r3 hr3 => ?_)
  subst hr3
  refine lv_iconst (v := (-1)) hx hb d_Pa_leads_6 (by decide) ?_
  refine lv_icmp_eq (tgt := 14) hx hb d_Pa_leads_7 (by decide) (fun c7 => ?_) (fun c7 => ?_)
  · refine lv_iconst (v := 0) hx hb d_Pa_leads_14 (by decide) ?_
    exact x_pz E hr rfl (by rw [pa_ld, if_pos c7]) d_Pa_leads_15
  · refine lv_iconst (v := 1) hx hb d_Pa_leads_10 (by decide) ?_
    refine lv_goto (tgt := 15) hx hb d_Pa_leads_11 (by decide) ?_
    exact x_pz E hr rfl (by rw [pa_ld, if_neg c7]) d_Pa_leads_15
def pa_sh (T : Nat → Nat → Int32) (i : Nat) (j t : Int32) : Nat → Nat → Int32 := if j < 0 then T else if j < 24 then (if T i j.toNatClampNeg = -1 then xg_up T i j.toNatClampNeg t else if T i j.toNatClampNeg ≤ t then T else xg_up T i j.toNatClampNeg t) else T
set_option maxRecDepth 100000 in
set_option maxHeartbeats 4000000 in
theorem c_Pa_shorten (l : Launch) (g : xG) (b0 : Nat) (ws : va_W) {q h o : Nat} {r : Nat → Nat} {T : Nat → Nat → Int32} (hT : xPath g ws q h o r T) (ii j t : Int32) (i : Nat) (hi : ii = nI i) (hi24 : i < 24) : xMv l g b0 y_Pa_shorten b_Pa_shorten 4 0 [.ref h, .int ii, .int j, .int t] ws (fun u => xQ q (q + 26) ws u ∧ xPath g u q h o r (pa_sh T i j t)) := by
  unfold xMv
  refine x_in (by decide) (Nat.le_of_ble_eq_true rfl) ?_
  intro p e s m below meth c ls E hr hin hP hD hl
  obtain ⟨hx, hb, hml, hown, hts, hK, hZ, hb0, hlocks⟩ := id E
  have hS : va_S (xA b0) s.heap s.heap [] := va_S.rf
  have hl : lv_has ls 4 [(0, .ref h), (1, .int ii), (2, .int j), (3, .int t)] := hl
  obtain ⟨e0, e1, e2⟩ := id hT
  have hQ : xQ q (q + 26) ws ws := xQ.rf
  refine lv_iload_n hx hb d_Pa_shorten_0 rfl (lv_at hl 1 rfl) ?_
  refine lv_if_lt (tgt := 20) hx hb d_Pa_shorten_1 (by decide) (fun c1 => absurd c1 (by rw [hi]; exact nI_pos (by omega))) (fun c1 => ?_)
  refine lv_iload_n hx hb d_Pa_shorten_4 rfl (lv_at hl 1 rfl) ?_
  refine lv_bipush (v := 24) hx hb d_Pa_shorten_5 (by decide) ?_
  refine lv_icmp_ge (tgt := 20) hx hb d_Pa_shorten_7 (by decide) (fun c7 => absurd c7 (by rw [hi]; exact nI_ge (b := 24) (by omega) (by decide))) (fun c7 => ?_)
  refine lv_iload_n hx hb d_Pa_shorten_10 rfl (lv_at hl 2 rfl) ?_
  refine lv_if_lt (tgt := 20) hx hb d_Pa_shorten_11 (by decide) (fun c11 => ?_) (fun c11 => ?_)
  · exact x_rv E hr hS ⟨hQ, by rw [pa_sh, if_pos c11]; exact ⟨e0, e1, e2⟩⟩ hP hD d_Pa_shorten_20
  · refine lv_iload_n hx hb d_Pa_shorten_14 rfl (lv_at hl 2 rfl) ?_
    refine lv_bipush (v := 24) hx hb d_Pa_shorten_15 (by decide) ?_
    refine lv_icmp_lt (tgt := 21) hx hb d_Pa_shorten_17 (by decide) (fun c17 => ?_) (fun c17 => ?_)
    · obtain ⟨j0, hj0, hj⟩ := x_ixl (n := 24) (by decide) c11 c17
      refine lv_aload_n hx hb d_Pa_shorten_21 rfl (lv_at hl 0 rfl) ?_
      refine x_get E hP e0 rfl cl4_in 0 (by decide) wf_Pa_11 rfl d_Pa_shorten_22 ?_
      refine lv_iload_n hx hb d_Pa_shorten_25 rfl (lv_at hl 1 rfl) ?_
      refine x_aald E hP e1 (j := i) hi hi24 (by decide) rfl d_Pa_shorten_26 ?_
      refine lv_iload_n hx hb d_Pa_shorten_27 rfl (lv_at hl 2 rfl) ?_
      refine x_iald E hP (e2 i hi24) (j := j0) hj hj0 (by decide) d_Pa_shorten_28 ?_
      refine lv_iconst (v := (-1)) hx hb d_Pa_shorten_29 (by decide) ?_
      refine lv_icmp_eq (tgt := 45) hx hb d_Pa_shorten_30 (by decide) (fun c30 => ?_) (fun c30 => ?_)
      · refine lv_aload_n hx hb d_Pa_shorten_45 rfl (lv_at hl 0 rfl) ?_
        refine x_get E hP e0 rfl cl4_in 0 (by decide) wf_Pa_11 rfl d_Pa_shorten_46 ?_
        refine lv_iload_n hx hb d_Pa_shorten_49 rfl (lv_at hl 1 rfl) ?_
        refine x_aald E hP e1 (j := i) hi hi24 (by decide) rfl d_Pa_shorten_50 ?_
        refine lv_iload_n hx hb d_Pa_shorten_51 rfl (lv_at hl 2 rfl) ?_
        refine lv_iload_n hx hb d_Pa_shorten_52 rfl (lv_at hl 3 rfl) ?_
        refine x_iast E hP hD hS (e2 i hi24) (j := j0) hj hj0 (by decide) d_Pa_shorten_53 (fun w1 H locs hU1 hP hD hS => ?_)
        have e2 : ∀ j, j < 24 → w1[q + 2 + j]? = some (r j, .inl (cI g, 24, .inl (xg_up T i j0 t j))) := xg_put e2 hU1
        have e0 : w1[q]? = some (h, .inr (4, [.ref o])) := (hU1.2 _ (by omega)).trans e0
        have e1 : w1[q + 1]? = some (o, .inl (cG g, 24, .inr (.inr (.inr (.inr (fun j => some (r j))))))) := (hU1.2 _ (by omega)).trans e1
        have hQ := hQ.up hU1 (by omega)
        exact x_rv E hr hS ⟨hQ, by rw [pa_sh, if_neg c11, if_pos c17, hj, nI_clamp (by omega), if_pos c30]; exact ⟨e0, e1, e2⟩⟩ hP hD d_Pa_shorten_54
      · refine lv_iload_n hx hb d_Pa_shorten_33 rfl (lv_at hl 3 rfl) ?_
        refine lv_aload_n hx hb d_Pa_shorten_34 rfl (lv_at hl 0 rfl) ?_
        refine x_get E hP e0 rfl cl4_in 0 (by decide) wf_Pa_11 rfl d_Pa_shorten_35 ?_
        refine lv_iload_n hx hb d_Pa_shorten_38 rfl (lv_at hl 1 rfl) ?_
        refine x_aald E hP e1 (j := i) hi hi24 (by decide) rfl d_Pa_shorten_39 ?_
        refine lv_iload_n hx hb d_Pa_shorten_40 rfl (lv_at hl 2 rfl) ?_
        refine x_iald E hP (e2 i hi24) (j := j0) hj hj0 (by decide) d_Pa_shorten_41 ?_
        refine lv_icmp_ge (tgt := 54) hx hb d_Pa_shorten_42 (by decide) (fun c42 => ?_) (fun c42 => ?_)
        · exact x_rv E hr hS ⟨hQ, by rw [pa_sh, if_neg c11, if_pos c17, hj, nI_clamp (by omega), if_neg c30, if_pos c42]; exact ⟨e0, e1, e2⟩⟩ hP hD d_Pa_shorten_54
        · refine lv_aload_n hx hb d_Pa_shorten_45 rfl (lv_at hl 0 rfl) ?_
          refine x_get E hP e0 rfl cl4_in 0 (by decide) wf_Pa_11 rfl d_Pa_shorten_46 ?_
          refine lv_iload_n hx hb d_Pa_shorten_49 rfl (lv_at hl 1 rfl) ?_
          refine x_aald E hP e1 (j := i) hi hi24 (by decide) rfl d_Pa_shorten_50 ?_
          refine lv_iload_n hx hb d_Pa_shorten_51 rfl (lv_at hl 2 rfl) ?_
          refine lv_iload_n hx hb d_Pa_shorten_52 rfl (lv_at hl 3 rfl) ?_
          refine x_iast E hP hD hS (e2 i hi24) (j := j0) hj hj0 (by decide) d_Pa_shorten_53 (fun w1 H locs hU1 hP hD hS => ?_)
          have e2 : ∀ j, j < 24 → w1[q + 2 + j]? = some (r j, .inl (cI g, 24, .inl (xg_up T i j0 t j))) := xg_put e2 hU1
          have e0 : w1[q]? = some (h, .inr (4, [.ref o])) := (hU1.2 _ (by omega)).trans e0
          have e1 : w1[q + 1]? = some (o, .inl (cG g, 24, .inr (.inr (.inr (.inr (fun j => some (r j))))))) := (hU1.2 _ (by omega)).trans e1
          have hQ := hQ.up hU1 (by omega)
          exact x_rv E hr hS ⟨hQ, by rw [pa_sh, if_neg c11, if_pos c17, hj, nI_clamp (by omega), if_neg c30, if_neg c42]; exact ⟨e0, e1, e2⟩⟩ hP hD d_Pa_shorten_54
    · exact x_rv E hr hS ⟨hQ, by rw [pa_sh, if_neg c11, if_neg c17]; exact ⟨e0, e1, e2⟩⟩ hP hD d_Pa_shorten_20
def pa_jn (T : Nat → Nat → Int32) (mid fr n : Nat) : Nat → Nat → Int32 := if T fr mid = -1 then T else it (fun k V => if V mid k = -1 then V else pa_sh V fr (nI k) (T fr mid + V mid k)) n T
theorem pa_lt_nat {T : Nat → Nat → Int32} {i j : Nat} (hi : i < 24) (hj : j < 24) : pa_lt T (nI i) (nI j) = T i j := by
  rw [pa_lt, if_neg (nI_pos (by omega)), if_neg (show ¬ (24 : Int32) ≤ nI i from nI_ge (b := 24) (by omega) (by decide)), if_neg (nI_pos (by omega)), if_pos (show nI j < (24 : Int32) from nI_lt (b := 24) (by omega) (by decide)), nI_clamp (by omega), nI_clamp (by omega)]
set_option maxRecDepth 100000 in
set_option maxHeartbeats 4000000 in
theorem c_Pa_joinAt (l : Launch) (g : xG) (b0 : Nat) (ws : va_W) {q h o : Nat} {r : Nat → Nat} {T : Nat → Nat → Int32} (hT : xPath g ws q h o r T) (mid fr n : Nat) (hm : mid < 24) (hf : fr < 24) (hn : n ≤ 24) : xMv l g b0 y_Pa_joinAt b_Pa_joinAt 7 1 [.ref h, .int (nI mid), .int (nI fr), .int (nI n)] ws (fun u => xQ q (q + 26) ws u ∧ xPath g u q h o r (pa_jn T mid fr n)) := by
  unfold xMv
  refine x_in (by decide) (Nat.le_of_ble_eq_true rfl) ?_
  intro p e s m below meth c ls E hr hin hP hD hl
  obtain ⟨hx, hb, hml, hown, hts, hK, hZ, hb0, hlocks⟩ := id E
  have hS : va_S (xA b0) s.heap s.heap [] := va_S.rf
  have hl : lv_has ls 7 [(0, .ref h), (1, .int (nI mid)), (2, .int (nI fr)), (3, .int (nI n))] := hl
  obtain ⟨e0, e1, e2⟩ := id hT
  have hQ : xQ q (q + 26) ws ws := xQ.rf
  refine lv_aload_n hx hb d_Pa_joinAt_0 rfl (lv_at hl 0 rfl) ?_
  refine lv_iload_n hx hb d_Pa_joinAt_1 rfl (lv_at hl 2 rfl) ?_
  refine lv_iload_n hx hb d_Pa_joinAt_2 rfl (lv_at hl 1 rfl) ?_
  refine x_cRi (As := [.int (nI fr), .int (nI mid)]) (rest := []) E (c_Pa_leastTime l g b0 _ hT (nI fr) (nI mid)) wy_Pa_leastTime wl_Pa_40 hP hD hS e0 rfl hl.1 ⟨by decide, by decide⟩ ⟨Nat.le_refl _, Nat.le_refl _⟩ rfl (Nat.le_of_ble_eq_true rfl) d_Pa_joinAt_3 (fun r3 hr3 => ?_)
  rw [pa_lt_nat hf hm] at hr3
  subst hr3
  refine lv_istore (lv' := [(4, .int (T fr mid)), (0, .ref h), (1, .int (nI mid)), (2, .int (nI fr)), (3, .int (nI n))]) hx hb d_Pa_joinAt_6 hl (by decide) rfl (fun ls hl => ?_)
  refine lv_iload hx hb d_Pa_joinAt_8 (lv_at hl 0 rfl) ?_
  refine lv_iconst (v := (-1)) hx hb d_Pa_joinAt_10 (by decide) ?_
  refine lv_icmp_ne (tgt := 15) hx hb d_Pa_joinAt_11 (by decide) (fun c11 => ?_) (fun c11 => ?_)
  · refine lv_iconst (v := 0) hx hb d_Pa_joinAt_15 (by decide) ?_
    refine lv_istore (lv' := [(5, .int 0), (4, .int (T fr mid)), (0, .ref h), (1, .int (nI mid)), (2, .int (nI fr)), (3, .int (nI n))]) hx hb d_Pa_joinAt_16 hl (by decide) rfl (fun ls hl => ?_)
    have loop : ∀ (k i : Nat)  (w : va_W) (H : Heap) (locs : List Loc) (ls : Array Slot), (n < i + k) → (i ≤ n) → (lv_has ls 7 [(5, .int (nI i)), (4, .int (T fr mid)), (0, .ref h), (1, .int (nI mid)), (2, .int (nI fr)), (3, .int (nI n))]) → (va_P (xD g) vwCl w H) → (va_D (xA b0) w) → (va_S (xA b0) s.heap H locs) → (xQ q (q + 26) ws w) → (xPath g w q h o r (it (fun k V => if V mid k = -1 then V else pa_sh V fr (nI k) (T fr mid + V mid k)) i T)) → W p l e (rmL 1) s m ([.ref h, .int (nI mid), .int (nI fr), .int (nI n)] : List Value).toArray below meth c H locs 0 0 (MQ below (va_Qv (fun u => xQ q (q + 26) ws u ∧ xPath g u q h o r (pa_jn T mid fr n)) (fun u t => va_P (xD g) vwCl u t.heap ∧ va_D (xA b0) u) (xA b0)) ([.ref h, .int (nI mid), .int (nI fr), .int (nI n)] : List Value).toArray s 0 0 (xA b0)) (F0 m 18 ls []) := by
      intro k
      induction k with
      | zero =>
        intro i w H locs ls hk hi hl hP hD hS hQ eT
        omega
      | succ k ih =>
        intro i w H locs ls hk hi hl hP hD hS hQ eT
        have eV : it (fun k V => if V mid k = -1 then V else pa_sh V fr (nI k) (T fr mid + V mid k)) (i + 1) T = if it (fun k V => if V mid k = -1 then V else pa_sh V fr (nI k) (T fr mid + V mid k)) i T mid i = -1 then it (fun k V => if V mid k = -1 then V else pa_sh V fr (nI k) (T fr mid + V mid k)) i T else pa_sh (it (fun k V => if V mid k = -1 then V else pa_sh V fr (nI k) (T fr mid + V mid k)) i T) fr (nI i) (T fr mid + it (fun k V => if V mid k = -1 then V else pa_sh V fr (nI k) (T fr mid + V mid k)) i T mid i) := rfl
        generalize eV0 : it (fun k V => if V mid k = -1 then V else pa_sh V fr (nI k) (T fr mid + V mid k)) i T = V at eT eV
        refine lv_iload hx hb d_Pa_joinAt_18 (lv_at hl 0 rfl) ?_
        refine lv_iload_n hx hb d_Pa_joinAt_20 rfl (lv_at hl 5 rfl) ?_
        refine lv_icmp_ge (tgt := 57) hx hb d_Pa_joinAt_21 (by decide) (fun c21 => ?_) (fun c21 => ?_)
        · have hi9 : n ≤ i := (nI_leI (by omega) (by omega)).mp c21
          have e9 : i = n := by omega
          exact x_rv E hr hS ⟨hQ, by rw [pa_jn, if_neg c11, ← e9, eV0]; exact eT⟩ hP hD d_Pa_joinAt_57
        · have hi9 : i < n := Nat.not_le.mp fun h => c21 (nI_le h (by omega))
          refine lv_aload_n hx hb d_Pa_joinAt_24 rfl (lv_at hl 2 rfl) ?_
          refine lv_iload_n hx hb d_Pa_joinAt_25 rfl (lv_at hl 3 rfl) ?_
          refine lv_iload hx hb d_Pa_joinAt_26 (lv_at hl 0 rfl) ?_
          refine x_cRi (As := [.int (nI mid), .int (nI i)]) (rest := []) E (c_Pa_leastTime l g b0 _ eT (nI mid) (nI i)) wy_Pa_leastTime wl_Pa_40 hP hD hS eT.1 rfl hl.1 ⟨by decide, by decide⟩ ⟨Nat.le_refl _, Nat.le_refl _⟩ rfl (Nat.le_of_ble_eq_true rfl) d_Pa_joinAt_28 (fun r28 hr28 => ?_)
          rw [pa_lt_nat hm (by omega)] at hr28
          subst hr28
          refine lv_istore (lv' := [(6, .int (V mid i)), (5, .int (nI i)), (4, .int (T fr mid)), (0, .ref h), (1, .int (nI mid)), (2, .int (nI fr)), (3, .int (nI n))]) hx hb d_Pa_joinAt_31 hl (by decide) rfl (fun ls hl => ?_)
          refine lv_iload hx hb d_Pa_joinAt_33 (lv_at hl 0 rfl) ?_
          refine lv_iconst (v := (-1)) hx hb d_Pa_joinAt_35 (by decide) ?_
          refine lv_icmp_eq (tgt := 51) hx hb d_Pa_joinAt_36 (by decide) (fun c36 => ?_) (fun c36 => ?_)
          · rw [if_pos c36] at eV
            refine lv_iinc (v := nI (i + 1)) (lv' := [(5, .int (nI (i + 1))), (6, .int (V mid i)), (4, .int (T fr mid)), (0, .ref h), (1, .int (nI mid)), (2, .int (nI fr)), (3, .int (nI n))]) hx hb d_Pa_joinAt_51 hl (k := 1) rfl (nI_1 i) (by decide) rfl (fun ls hl => ?_)
            refine lv_goto (tgt := 18) hx hb d_Pa_joinAt_54 (by decide) ?_
            rw [← eV] at eT
            exact ih (i + 1) _ _ _ _ (by omega) (by omega) (lv_sub hl [0, 2, 3, 4, 5, 6] rfl) hP hD hS hQ eT
          · rw [if_neg c36] at eV
            refine lv_aload_n hx hb d_Pa_joinAt_39 rfl (lv_at hl 3 rfl) ?_
            refine lv_iload_n hx hb d_Pa_joinAt_40 rfl (lv_at hl 5 rfl) ?_
            refine lv_iload hx hb d_Pa_joinAt_41 (lv_at hl 1 rfl) ?_
            refine lv_iload hx hb d_Pa_joinAt_43 (lv_at hl 2 rfl) ?_
            refine lv_iload hx hb d_Pa_joinAt_45 (lv_at hl 0 rfl) ?_
            refine lv_iadd hx hb d_Pa_joinAt_47 ?_
            refine x_cVv (As := [.int (nI fr), .int (nI i), .int ((T fr mid) + (V mid i))]) (rest := []) E (c_Pa_shorten l g b0 _ eT (nI fr) (nI i) (T fr mid + V mid i) fr rfl hf) wy_Pa_shorten wl_Pa_33 hP hD hS eT.1 rfl hl.1 ⟨by decide, by decide⟩ ⟨Nat.le_refl _, Nat.le_refl _⟩ rfl (Nat.le_of_ble_eq_true rfl) d_Pa_joinAt_48 (fun w53 H locs hr48 hP hD hS => ?_)
            obtain ⟨hq, eT⟩ := hr48
            have hQ := hQ.tr hq
            refine lv_iinc (v := nI (i + 1)) (lv' := [(5, .int (nI (i + 1))), (6, .int (V mid i)), (4, .int (T fr mid)), (0, .ref h), (1, .int (nI mid)), (2, .int (nI fr)), (3, .int (nI n))]) hx hb d_Pa_joinAt_51 hl (k := 1) rfl (nI_1 i) (by decide) rfl (fun ls hl => ?_)
            refine lv_goto (tgt := 18) hx hb d_Pa_joinAt_54 (by decide) ?_
            rw [← eV] at eT
            exact ih (i + 1) _ _ _ _ (by omega) (by omega) (lv_sub hl [0, 2, 3, 4, 5, 6] rfl) hP hD hS hQ eT
    have eT : xPath g _ q h o r (it (fun k V => if V mid k = -1 then V else pa_sh V fr (nI k) (T fr mid + V mid k)) 0 T) := hT
    exact loop (n + 1) 0 _ _ _ _ (by omega) (by omega) hl hP hD hS hQ eT
  · exact x_rv E hr hS ⟨hQ, by rw [pa_jn, if_pos c11]; exact hT⟩ hP hD d_Pa_joinAt_14
set_option maxRecDepth 100000 in
set_option maxHeartbeats 4000000 in
theorem c_Pa_forget (l : Launch) (g : xG) (b0 : Nat) (ws : va_W) {q h o : Nat} {r : Nat → Nat} {T : Nat → Nat → Int32} (hT : xPath g ws q h o r T) : xMv l g b0 y_Pa_forget b_Pa_forget 3 0 [.ref h] ws (fun u => xQ q (q + 26) ws u ∧ ∃ T', xPath g u q h o r T' ∧ ∀ i j, i < 24 → j < 24 → T' i j = -1) := by
  unfold xMv
  refine x_in (by decide) (Nat.le_of_ble_eq_true rfl) ?_
  intro p e s m below meth c ls E hr hin hP hD hl
  obtain ⟨hx, hb, hml, hown, hts, hK, hZ, hb0, hlocks⟩ := id E
  have hS : va_S (xA b0) s.heap s.heap [] := va_S.rf
  have hl : lv_has ls 3 [(0, .ref h)] := hl
  obtain ⟨e0, e1, e2⟩ := id hT
  have hQ : xQ q (q + 26) ws ws := xQ.rf
  refine lv_iconst (v := 0) hx hb d_Pa_forget_0 (by decide) ?_
  refine lv_istore_n (lv' := [(1, .int 0), (0, .ref h)]) hx hb d_Pa_forget_1 rfl hl (by decide) rfl (fun ls hl => ?_)
  have loop : ∀ (k i : Nat) (T : Nat → Nat → Int32) (w : va_W) (H : Heap) (locs : List Loc) (ls : Array Slot), (24 < i + k) → (i ≤ 24) → (∀ a b, a < i → b < 24 → T a b = -1) → (lv_has ls 3 [(1, .int (nI i)), (0, .ref h)]) → (va_P (xD g) vwCl w H) → (va_D (xA b0) w) → (va_S (xA b0) s.heap H locs) → (xQ q (q + 26) ws w) → (w[q]? = some (h, .inr (4, [.ref o]))) → (w[q + 1]? = some (o, .inl (cG g, 24, .inr (.inr (.inr (.inr (fun j => some (r j)))))))) → (∀ j, j < 24 → w[q + 2 + j]? = some (r j, .inl (cI g, 24, .inl (T j)))) → W p l e (rmL 0) s m ([.ref h] : List Value).toArray below meth c H locs 0 0 (MQ below (va_Qv (fun u => xQ q (q + 26) ws u ∧ ∃ T', xPath g u q h o r T' ∧ ∀ i j, i < 24 → j < 24 → T' i j = -1) (fun u t => va_P (xD g) vwCl u t.heap ∧ va_D (xA b0) u) (xA b0)) ([.ref h] : List Value).toArray s 0 0 (xA b0)) (F0 m 2 ls []) := by
    intro k
    induction k with
    | zero =>
      intro i T w H locs ls hk hi hT9 hl hP hD hS hQ e0 e1 e2
      omega
    | succ k ih =>
      intro i T w H locs ls hk hi hT9 hl hP hD hS hQ e0 e1 e2
      refine lv_iload_n hx hb d_Pa_forget_2 rfl (lv_at hl 0 rfl) ?_
      refine lv_bipush (v := 24) hx hb d_Pa_forget_3 (by decide) ?_
      refine lv_icmp_ge (tgt := 37) hx hb d_Pa_forget_5 (by decide) (fun c5 => ?_) (fun c5 => ?_)
      · have hi9 : 24 ≤ i := (nI_leI (b := i) (by decide) (by omega)).mp c5
        exact x_rv E hr hS ⟨hQ, T, ⟨e0, e1, e2⟩, fun a b ha hb9 => hT9 a b (by omega) hb9⟩ hP hD d_Pa_forget_37
      · have hi9 : i < 24 := Nat.not_le.mp fun h => c5 (nI_le (a := 24) h (by omega))
        refine lv_iconst (v := 0) hx hb d_Pa_forget_8 (by decide) ?_
        refine lv_istore_n (lv' := [(2, .int 0), (1, .int (nI i)), (0, .ref h)]) hx hb d_Pa_forget_9 rfl hl (by decide) rfl (fun ls hl => ?_)
        have loop2 : ∀ (k jj : Nat) (T : Nat → Nat → Int32) (v : va_W) (H : Heap) (locs : List Loc) (ls : Array Slot), (24 < jj + k) → (jj ≤ 24) → (∀ a b, a < i → b < 24 → T a b = -1) → (∀ b, b < jj → T i b = -1) → (lv_has ls 3 [(2, .int (nI jj)), (1, .int (nI i)), (0, .ref h)]) → (va_P (xD g) vwCl v H) → (va_D (xA b0) v) → (va_S (xA b0) s.heap H locs) → (xQ q (q + 26) ws v) → (v[q]? = some (h, .inr (4, [.ref o]))) → (v[q + 1]? = some (o, .inl (cG g, 24, .inr (.inr (.inr (.inr (fun j => some (r j)))))))) → (∀ j, j < 24 → v[q + 2 + j]? = some (r j, .inl (cI g, 24, .inl (T j)))) → W p l e (rmL 0) s m ([.ref h] : List Value).toArray below meth c H locs 0 0 (MQ below (va_Qv (fun u => xQ q (q + 26) ws u ∧ ∃ T', xPath g u q h o r T' ∧ ∀ i j, i < 24 → j < 24 → T' i j = -1) (fun u t => va_P (xD g) vwCl u t.heap ∧ va_D (xA b0) u) (xA b0)) ([.ref h] : List Value).toArray s 0 0 (xA b0)) (F0 m 10 ls []) := by
          intro k
          induction k with
          | zero =>
            intro jj T v H locs ls hk hj hT8 hT7 hl hP hD hS hQ e0 e1 e2
            omega
          | succ k ih2 =>
            intro jj T v H locs ls hk hj hT8 hT7 hl hP hD hS hQ e0 e1 e2
            refine lv_iload_n hx hb d_Pa_forget_10 rfl (lv_at hl 0 rfl) ?_
            refine lv_bipush (v := 24) hx hb d_Pa_forget_11 (by decide) ?_
            refine lv_icmp_ge (tgt := 31) hx hb d_Pa_forget_13 (by decide) (fun c13 => ?_) (fun c13 => ?_)
            · have hj9 : 24 ≤ jj := (nI_leI (b := jj) (by decide) (by omega)).mp c13
              refine lv_iinc (v := nI (i + 1)) (lv' := [(1, .int (nI (i + 1))), (2, .int (nI jj)), (0, .ref h)]) hx hb d_Pa_forget_31 hl (k := 1) rfl (nI_1 i) (by decide) rfl (fun ls hl => ?_)
              refine lv_goto (tgt := 2) hx hb d_Pa_forget_34 (by decide) ?_
              exact ih (i + 1) T _ _ _ _ (by omega) (by omega) (fun a b ha hb9 => by
                  by_cases e9 : a = i
                  · rw [e9]; exact hT7 b (by omega)
                  · exact hT8 a b (by omega) hb9) (lv_sub hl [0, 2] rfl) hP hD hS hQ e0 e1 e2
            · have hj9 : jj < 24 := Nat.not_le.mp fun h => c13 (nI_le (a := 24) h (by omega))
              refine lv_aload_n hx hb d_Pa_forget_16 rfl (lv_at hl 2 rfl) ?_
              refine x_get E hP e0 rfl cl4_in 0 (by decide) wf_Pa_11 rfl d_Pa_forget_17 ?_
              refine lv_iload_n hx hb d_Pa_forget_20 rfl (lv_at hl 1 rfl) ?_
              refine x_aald E hP e1 (j := i) rfl hi9 (by decide) rfl d_Pa_forget_21 ?_
              refine lv_iload_n hx hb d_Pa_forget_22 rfl (lv_at hl 0 rfl) ?_
              refine lv_iconst (v := (-1)) hx hb d_Pa_forget_23 (by decide) ?_
              refine x_iast E hP hD hS (e2 i hi9) (j := jj) rfl hj9 (by decide) d_Pa_forget_24 (fun w101 H locs hU101 hP hD hS => ?_)
              have e2 : ∀ j, j < 24 → w101[q + 2 + j]? = some (r j, .inl (cI g, 24, .inl (xg_up T i jj (-1) j))) := xg_put e2 hU101
              have e0 : w101[q]? = some (h, .inr (4, [.ref o])) := (hU101.2 _ (by omega)).trans e0
              have e1 : w101[q + 1]? = some (o, .inl (cG g, 24, .inr (.inr (.inr (.inr (fun j => some (r j))))))) := (hU101.2 _ (by omega)).trans e1
              have hQ := hQ.up hU101 (by omega)
              refine lv_iinc (v := nI (jj + 1)) (lv' := [(2, .int (nI (jj + 1))), (1, .int (nI i)), (0, .ref h)]) hx hb d_Pa_forget_25 hl (k := 0) rfl (nI_1 jj) (by decide) rfl (fun ls hl => ?_)
              refine lv_goto (tgt := 10) hx hb d_Pa_forget_28 (by decide) ?_
              exact ih2 (jj + 1) (xg_up T i jj (-1)) _ _ _ _ (by omega) (by omega) (fun a b ha hb9 => by rw [xg_up_get, if_neg (by omega)]; exact hT8 a b ha hb9) (fun b hb9 => by
                  rw [xg_up_get]
                  by_cases e9 : b = jj
                  · rw [if_pos ⟨rfl, e9⟩]
                  · rw [if_neg (by omega)]; exact hT7 b (by omega)) hl hP hD hS hQ e0 e1 e2
        exact loop2 25 0 T _ _ _ _ (by omega) (by omega) hT9 (fun b hb9 => absurd hb9 (Nat.not_lt_zero b)) hl hP hD hS hQ e0 e1 e2
  exact loop 25 0 T _ _ _ _ (by omega) (by omega) (fun a b ha => absurd ha (Nat.not_lt_zero a)) hl hP hD hS hQ e0 e1 e2
set_option maxRecDepth 100000 in
set_option maxHeartbeats 4000000 in
theorem c_Pa_isReached (l : Launch) (g : xG) (b0 : Nat) (ws : va_W) {q h o : Nat} {r : Nat → Nat} {T : Nat → Nat → Int32} (hT : xPath g ws q h o r T) {qm hm om dm n : Nat} {rm : Nat → Nat} {M : Nat → Nat → Int32} {ix : Nat → Int32} (eM : xMach g ws qm hm om dm rm M ix n) (hn : n ≤ 24) (t : Int32) : xRi l g b0 y_Pa_isReached b_Pa_isReached 4 (some .boolean) 2 [.ref h, .ref hm, .int t] ws (fun r => (r = 1 ∧ ∃ k, k < n ∧ ¬ pa_lt T (nI k) t = -1) ∨ (r = 0 ∧ ∀ k, k < n → pa_lt T (nI k) t = -1)) := by
  unfold xRi
  refine x_in (by decide) (Nat.le_of_ble_eq_true rfl) ?_
  intro p e s m below meth c ls E hr hin hP hD hl
  obtain ⟨hx, hb, hml, hown, hts, hK, hZ, hb0, hlocks⟩ := id E
  have hS : va_S (xA b0) s.heap s.heap [] := va_S.rf
  have hl : lv_has ls 4 [(0, .ref h), (1, .ref hm), (2, .int t)] := hl
  obtain ⟨e0, e1, e2⟩ := id hT
  refine lv_iconst (v := 0) hx hb d_Pa_isReached_0 (by decide) ?_
  refine lv_istore_n (lv' := [(3, .int 0), (0, .ref h), (1, .ref hm), (2, .int t)]) hx hb d_Pa_isReached_1 rfl hl (by decide) rfl (fun ls hl => ?_)
  have loop : ∀ (k i : Nat)  (ls : Array Slot), (n < i + k) → (i ≤ n) → (∀ k, k < i → pa_lt T (nI k) t = -1) → (lv_has ls 4 [(3, .int (nI i)), (0, .ref h), (1, .ref hm), (2, .int t)]) → W p l e (rmL 2) s m ([.ref h, .ref hm, .int t] : List Value).toArray below meth c s.heap [] 0 0 (MQ below (vp_Si (fun r => (r = 1 ∧ ∃ k, k < n ∧ ¬ pa_lt T (nI k) t = -1) ∨ (r = 0 ∧ ∀ k, k < n → pa_lt T (nI k) t = -1))) ([.ref h, .ref hm, .int t] : List Value).toArray s 0 0 (fun _ => False)) (F0 m 2 ls []) := by
    intro k
    induction k with
    | zero =>
      intro i ls hk hi h8 hl
      omega
    | succ k ih =>
      intro i ls hk hi h8 hl
      refine lv_iload_n hx hb d_Pa_isReached_2 rfl (lv_at hl 0 rfl) ?_
      refine lv_aload_n hx hb d_Pa_isReached_3 rfl (lv_at hl 2 rfl) ?_
      refine x_get E hP eM.1 rfl cl2_in 2 (by decide) wf_Pa_19 rfl d_Pa_isReached_4 ?_
      refine lv_icmp_ge (tgt := 27) hx hb d_Pa_isReached_7 (by decide) (fun c7 => ?_) (fun c7 => ?_)
      · have hi9 : n ≤ i := (nI_leI (by omega) (by omega)).mp c7
        refine lv_iconst (v := 0) hx hb d_Pa_isReached_27 (by decide) ?_
        exact x_pz E hr rfl (Or.inr ⟨rfl, fun k9 hk9 => h8 k9 (by omega)⟩) d_Pa_isReached_28
      · have hi9 : i < n := Nat.not_le.mp fun h => c7 (nI_le h (by omega))
        refine lv_aload_n hx hb d_Pa_isReached_10 rfl (lv_at hl 1 rfl) ?_
        refine lv_iload_n hx hb d_Pa_isReached_11 rfl (lv_at hl 0 rfl) ?_
        refine lv_iload_n hx hb d_Pa_isReached_12 rfl (lv_at hl 3 rfl) ?_
        refine x_cRi (As := [.int (nI i), .int t]) (rest := []) E (c_Pa_leads l g b0 _ hT (nI i) t) wy_Pa_leads wl_Pa_43 hP hD hS e0 rfl hl.1 ⟨by decide, by decide⟩ ⟨Nat.le_refl _, Nat.le_refl _⟩ rfl (Nat.le_of_ble_eq_true rfl) d_Pa_isReached_13 (fun r13 hr13 => ?_)
        subst hr13
        refine lv_if_eq (tgt := 21) hx hb d_Pa_isReached_16 (by decide) (fun c16 => ?_) (fun c16 => ?_)
        · have h7 : pa_lt T (nI i) t = -1 := by
            by_cases h6 : pa_lt T (nI i) t = -1
            · exact h6
            · rw [pa_ld, if_neg h6] at c16; exact absurd c16 (by decide)
          refine lv_iinc (v := nI (i + 1)) (lv' := [(3, .int (nI (i + 1))), (0, .ref h), (1, .ref hm), (2, .int t)]) hx hb d_Pa_isReached_21 hl (k := 0) rfl (nI_1 i) (by decide) rfl (fun ls hl => ?_)
          refine lv_goto (tgt := 2) hx hb d_Pa_isReached_24 (by decide) ?_
          exact ih (i + 1) _ (by omega) (by omega) (fun k9 hk9 => by
              by_cases e9 : k9 = i
              · rw [e9]; exact h7
              · exact h8 k9 (by omega)) hl
        · have h7 : ¬ pa_lt T (nI i) t = -1 := fun h6 => c16 (by rw [pa_ld, if_pos h6])
          refine lv_iconst (v := 1) hx hb d_Pa_isReached_19 (by decide) ?_
          exact x_pz E hr rfl (Or.inl ⟨rfl, i, hi9, h7⟩) d_Pa_isReached_20
  exact loop (n + 1) 0 _ (by omega) (by omega) (fun k9 hk9 => absurd hk9 (Nat.not_lt_zero k9)) hl
def pa_gs (M : Nat → Nat → Int32) (n : Nat) (T : Nat → Nat → Int32) (t : Int32) (k : Nat) (v : Int32) : Int32 := if mc_val M n (nI k) 0 = 0 then (if pa_ld T (nI k) t = 0 then v else if v = -1 then mc_val M n (nI k) 2 else if v ≤ mc_val M n (nI k) 2 then v else mc_val M n (nI k) 2) else v
def pa_gp (M : Nat → Nat → Int32) (n : Nat) (T : Nat → Nat → Int32) (t : Int32) : Int32 := it (pa_gs M n T t) n (-1)
set_option maxRecDepth 100000 in
set_option maxHeartbeats 4000000 in
theorem c_Pa_leastGap (l : Launch) (g : xG) (b0 : Nat) (ws : va_W) {q h o : Nat} {r : Nat → Nat} {T : Nat → Nat → Int32} (hT : xPath g ws q h o r T) {qm hm om dm n : Nat} {rm : Nat → Nat} {M : Nat → Nat → Int32} {ix : Nat → Int32} (eM : xMach g ws qm hm om dm rm M ix n) (hn : n ≤ 24) (t : Int32) : xRi l g b0 y_Pa_leastGap b_Pa_leastGap 6 (some .int) 2 [.ref h, .ref hm, .int t] ws (fun r => r = pa_gp M n T t) := by
  unfold xRi
  refine x_in (by decide) (Nat.le_of_ble_eq_true rfl) ?_
  intro p e s m below meth c ls E hr hin hP hD hl
  obtain ⟨hx, hb, hml, hown, hts, hK, hZ, hb0, hlocks⟩ := id E
  have hS : va_S (xA b0) s.heap s.heap [] := va_S.rf
  have hl : lv_has ls 6 [(0, .ref h), (1, .ref hm), (2, .int t)] := hl
  obtain ⟨e0, e1, e2⟩ := id hT
  refine lv_iconst (v := (-1)) hx hb d_Pa_leastGap_0 (by decide) ?_
  refine lv_istore_n (lv' := [(3, .int (-1)), (0, .ref h), (1, .ref hm), (2, .int t)]) hx hb d_Pa_leastGap_1 rfl hl (by decide) rfl (fun ls hl => ?_)
  refine lv_iconst (v := 0) hx hb d_Pa_leastGap_2 (by decide) ?_
  refine lv_istore (lv' := [(4, .int 0), (3, .int (-1)), (0, .ref h), (1, .ref hm), (2, .int t)]) hx hb d_Pa_leastGap_3 hl (by decide) rfl (fun ls hl => ?_)
  have loop : ∀ (k i : Nat) (v : Int32) (ls : Array Slot), (n < i + k) → (i ≤ n) → (v = it (pa_gs M n T t) i (-1)) → (lv_has ls 6 [(4, .int (nI i)), (3, .int v), (0, .ref h), (1, .ref hm), (2, .int t)]) → W p l e (rmL 2) s m ([.ref h, .ref hm, .int t] : List Value).toArray below meth c s.heap [] 0 0 (MQ below (vp_Si (fun r => r = pa_gp M n T t)) ([.ref h, .ref hm, .int t] : List Value).toArray s 0 0 (fun _ => False)) (F0 m 5 ls []) := by
    intro k
    induction k with
    | zero =>
      intro i v ls hk hi hv hl
      omega
    | succ k ih =>
      intro i v ls hk hi hv hl
      refine lv_iload hx hb d_Pa_leastGap_5 (lv_at hl 0 rfl) ?_
      refine lv_aload_n hx hb d_Pa_leastGap_7 rfl (lv_at hl 3 rfl) ?_
      refine x_get E hP eM.1 rfl cl2_in 2 (by decide) wf_Pa_19 rfl d_Pa_leastGap_8 ?_
      refine lv_icmp_ge (tgt := 67) hx hb d_Pa_leastGap_11 (by decide) (fun c11 => ?_) (fun c11 => ?_)
      · have hi9 : n ≤ i := (nI_leI (by omega) (by omega)).mp c11
        refine lv_iload_n hx hb d_Pa_leastGap_67 rfl (lv_at hl 1 rfl) ?_
        exact x_pi E hr (by rw [hv, pa_gp, show i = n by omega]) d_Pa_leastGap_68
      · have hi9 : i < n := Nat.not_le.mp fun h => c11 (nI_le h (by omega))
        refine lv_aload_n hx hb d_Pa_leastGap_14 rfl (lv_at hl 3 rfl) ?_
        refine lv_iload hx hb d_Pa_leastGap_15 (lv_at hl 0 rfl) ?_
        refine lv_iconst (v := 0) hx hb d_Pa_leastGap_17 (by decide) ?_
        refine x_cRi (As := [.int (nI i), .int 0]) (rest := []) E (c_Mc_value l g b0 _ eM hn (nI i) 0) wy_Mc_value wl_Pa_47 hP hD hS eM.1 rfl hl.1 ⟨by decide, by decide⟩ ⟨Nat.le_refl _, Nat.le_refl _⟩ rfl (Nat.le_of_ble_eq_true rfl) d_Pa_leastGap_18 (fun r18 hr18 => ?_)
        subst hr18
        refine lv_if_ne (tgt := 61) hx hb d_Pa_leastGap_21 (by decide) (fun c21 => ?_) (fun c21 => ?_)
        · refine lv_iinc (v := nI (i + 1)) (lv' := [(4, .int (nI (i + 1))), (3, .int v), (0, .ref h), (1, .ref hm), (2, .int t)]) hx hb d_Pa_leastGap_61 hl (k := 0) rfl (nI_1 i) (by decide) rfl (fun ls hl => ?_)
          refine lv_goto (tgt := 5) hx hb d_Pa_leastGap_64 (by decide) ?_
          exact ih (i + 1) v _ (by omega) (by omega) (by show _ = pa_gs M n T t i (it (pa_gs M n T t) i (-1)); rw [← hv, pa_gs, if_neg c21]) hl
        · refine lv_aload_n hx hb d_Pa_leastGap_24 rfl (lv_at hl 2 rfl) ?_
          refine lv_iload hx hb d_Pa_leastGap_25 (lv_at hl 0 rfl) ?_
          refine lv_iload_n hx hb d_Pa_leastGap_27 rfl (lv_at hl 4 rfl) ?_
          refine x_cRi (As := [.int (nI i), .int t]) (rest := []) E (c_Pa_leads l g b0 _ hT (nI i) t) wy_Pa_leads wl_Pa_43 hP hD hS e0 rfl hl.1 ⟨by decide, by decide⟩ ⟨Nat.le_refl _, Nat.le_refl _⟩ rfl (Nat.le_of_ble_eq_true rfl) d_Pa_leastGap_28 (fun r28 hr28 => ?_)
          subst hr28
          refine lv_if_eq (tgt := 61) hx hb d_Pa_leastGap_31 (by decide) (fun c31 => ?_) (fun c31 => ?_)
          · refine lv_iinc (v := nI (i + 1)) (lv' := [(4, .int (nI (i + 1))), (3, .int v), (0, .ref h), (1, .ref hm), (2, .int t)]) hx hb d_Pa_leastGap_61 hl (k := 0) rfl (nI_1 i) (by decide) rfl (fun ls hl => ?_)
            refine lv_goto (tgt := 5) hx hb d_Pa_leastGap_64 (by decide) ?_
            exact ih (i + 1) v _ (by omega) (by omega) (by show _ = pa_gs M n T t i (it (pa_gs M n T t) i (-1)); rw [← hv, pa_gs, if_pos c21, if_pos c31]) hl
          · refine lv_aload_n hx hb d_Pa_leastGap_34 rfl (lv_at hl 3 rfl) ?_
            refine lv_iload hx hb d_Pa_leastGap_35 (lv_at hl 0 rfl) ?_
            refine lv_iconst (v := 2) hx hb d_Pa_leastGap_37 (by decide) ?_
            refine x_cRi (As := [.int (nI i), .int 2]) (rest := []) E (c_Mc_value l g b0 _ eM hn (nI i) 2) wy_Mc_value wl_Pa_47 hP hD hS eM.1 rfl hl.1 ⟨by decide, by decide⟩ ⟨Nat.le_refl _, Nat.le_refl _⟩ rfl (Nat.le_of_ble_eq_true rfl) d_Pa_leastGap_38 (fun r38 hr38 => ?_)
            subst hr38
            refine lv_istore (lv' := [(5, .int (mc_val M n (nI i) 2)), (4, .int (nI i)), (3, .int v), (0, .ref h), (1, .ref hm), (2, .int t)]) hx hb d_Pa_leastGap_41 hl (by decide) rfl (fun ls hl => ?_)
            refine lv_iload_n hx hb d_Pa_leastGap_43 rfl (lv_at hl 2 rfl) ?_
            refine lv_iconst (v := (-1)) hx hb d_Pa_leastGap_44 (by decide) ?_
            refine lv_icmp_eq (tgt := 54) hx hb d_Pa_leastGap_45 (by decide) (fun c45 => ?_) (fun c45 => ?_)
            · refine lv_iload hx hb d_Pa_leastGap_54 (lv_at hl 0 rfl) ?_
              refine lv_goto (tgt := 60) hx hb d_Pa_leastGap_56 (by decide) ?_
              refine lv_istore_n (lv' := [(3, .int (mc_val M n (nI i) 2)), (5, .int (mc_val M n (nI i) 2)), (4, .int (nI i)), (0, .ref h), (1, .ref hm), (2, .int t)]) hx hb d_Pa_leastGap_60 rfl hl (by decide) rfl (fun ls hl => ?_)
              refine lv_iinc (v := nI (i + 1)) (lv' := [(4, .int (nI (i + 1))), (3, .int (mc_val M n (nI i) 2)), (5, .int (mc_val M n (nI i) 2)), (0, .ref h), (1, .ref hm), (2, .int t)]) hx hb d_Pa_leastGap_61 hl (k := 2) rfl (nI_1 i) (by decide) rfl (fun ls hl => ?_)
              refine lv_goto (tgt := 5) hx hb d_Pa_leastGap_64 (by decide) ?_
              exact ih (i + 1) (mc_val M n (nI i) 2) _ (by omega) (by omega) (by show _ = pa_gs M n T t i (it (pa_gs M n T t) i (-1)); rw [← hv, pa_gs, if_pos c21, if_neg c31, if_pos c45]) (lv_sub hl [0, 1, 3, 4, 5] rfl)
            · refine lv_iload hx hb d_Pa_leastGap_48 (lv_at hl 0 rfl) ?_
              refine lv_iload_n hx hb d_Pa_leastGap_50 rfl (lv_at hl 2 rfl) ?_
              refine lv_icmp_ge (tgt := 59) hx hb d_Pa_leastGap_51 (by decide) (fun c51 => ?_) (fun c51 => ?_)
              · refine lv_iload_n hx hb d_Pa_leastGap_59 rfl (lv_at hl 2 rfl) ?_
                refine lv_istore_n (lv' := [(3, .int v), (5, .int (mc_val M n (nI i) 2)), (4, .int (nI i)), (0, .ref h), (1, .ref hm), (2, .int t)]) hx hb d_Pa_leastGap_60 rfl hl (by decide) rfl (fun ls hl => ?_)
                refine lv_iinc (v := nI (i + 1)) (lv' := [(4, .int (nI (i + 1))), (3, .int v), (5, .int (mc_val M n (nI i) 2)), (0, .ref h), (1, .ref hm), (2, .int t)]) hx hb d_Pa_leastGap_61 hl (k := 2) rfl (nI_1 i) (by decide) rfl (fun ls hl => ?_)
                refine lv_goto (tgt := 5) hx hb d_Pa_leastGap_64 (by decide) ?_
                exact ih (i + 1) v _ (by omega) (by omega) (by show _ = pa_gs M n T t i (it (pa_gs M n T t) i (-1)); rw [← hv, pa_gs, if_pos c21, if_neg c31, if_neg c45, if_pos c51]) (lv_sub hl [0, 1, 3, 4, 5] rfl)
              · refine lv_iload hx hb d_Pa_leastGap_54 (lv_at hl 0 rfl) ?_
                refine lv_goto (tgt := 60) hx hb d_Pa_leastGap_56 (by decide) ?_
                refine lv_istore_n (lv' := [(3, .int (mc_val M n (nI i) 2)), (5, .int (mc_val M n (nI i) 2)), (4, .int (nI i)), (0, .ref h), (1, .ref hm), (2, .int t)]) hx hb d_Pa_leastGap_60 rfl hl (by decide) rfl (fun ls hl => ?_)
                refine lv_iinc (v := nI (i + 1)) (lv' := [(4, .int (nI (i + 1))), (3, .int (mc_val M n (nI i) 2)), (5, .int (mc_val M n (nI i) 2)), (0, .ref h), (1, .ref hm), (2, .int t)]) hx hb d_Pa_leastGap_61 hl (k := 2) rfl (nI_1 i) (by decide) rfl (fun ls hl => ?_)
                refine lv_goto (tgt := 5) hx hb d_Pa_leastGap_64 (by decide) ?_
                exact ih (i + 1) (mc_val M n (nI i) 2) _ (by omega) (by omega) (by show _ = pa_gs M n T t i (it (pa_gs M n T t) i (-1)); rw [← hv, pa_gs, if_pos c21, if_neg c31, if_neg c45, if_neg c51]) (lv_sub hl [0, 1, 3, 4, 5] rfl)
  exact loop (n + 1) 0 (-1) _ (by omega) (by omega) rfl hl
def pa_e2 (M : Nat → Nat → Int32) (ix : Nat → Int32) (n i : Nat) (k : Nat) (V : Nat → Nat → Int32) : Nat → Nat → Int32 := pa_sh V i (mc_goal M ix n (nI i) (nI k)) (mc_tt M n (nI i))
def pa_e1 (M : Nat → Nat → Int32) (ix : Nat → Int32) (n i : Nat) (V : Nat → Nat → Int32) : Nat → Nat → Int32 := it (pa_e2 M ix n i) 2 V
def pa_f2 (n mid : Nat) (k : Nat) (V : Nat → Nat → Int32) : Nat → Nat → Int32 := pa_jn V mid k n
def pa_f1 (n mid : Nat) (V : Nat → Nat → Int32) : Nat → Nat → Int32 := it (pa_f2 n mid) n V
def pa_all (M : Nat → Nat → Int32) (ix : Nat → Int32) (n : Nat) (T : Nat → Nat → Int32) : Nat → Nat → Int32 := it (pa_f1 n) n (it (pa_e1 M ix n) n T)
set_option maxRecDepth 100000 in
set_option maxHeartbeats 4000000 in
theorem c_Pa_follow (l : Launch) (g : xG) (b0 : Nat) (ws : va_W) {q h o : Nat} {r : Nat → Nat} {T : Nat → Nat → Int32} (hT : xPath g ws q h o r T) {qm hm om dm n : Nat} {rm : Nat → Nat} {M : Nat → Nat → Int32} {ix : Nat → Int32} (eM : xMach g ws qm hm om dm rm M ix n) (hn : n ≤ 24) (hd : qm + 9 ≤ q ∨ q + 26 ≤ qm) : xMv l g b0 y_Pa_follow b_Pa_follow 4 2 [.ref h, .ref hm] ws (fun u => xQ q (q + 26) ws u ∧ ∃ T0, xPath g u q h o r (pa_all M ix n T0) ∧ ∀ i j, i < 24 → j < 24 → T0 i j = -1) := by
  unfold xMv
  refine x_in (by decide) (Nat.le_of_ble_eq_true rfl) ?_
  intro p e s m below meth c ls E hr hin hP hD hl
  obtain ⟨hx, hb, hml, hown, hts, hK, hZ, hb0, hlocks⟩ := id E
  have hS : va_S (xA b0) s.heap s.heap [] := va_S.rf
  have hl : lv_has ls 4 [(0, .ref h), (1, .ref hm)] := hl
  have hQ : xQ q (q + 26) ws ws := xQ.rf
  have eT := hT
  refine lv_aload_n hx hb d_Pa_follow_0 rfl (lv_at hl 0 rfl) ?_
  refine x_cVv (As := []) (rest := []) E (c_Pa_forget l g b0 _ eT) wy_Pa_forget wl_Pa_16 hP hD hS eT.1 rfl hl.1 ⟨by decide, by decide⟩ ⟨Nat.le_refl _, Nat.le_refl _⟩ rfl (Nat.le_of_ble_eq_true rfl) d_Pa_follow_1 (fun w1 H locs hr1 hP hD hS => ?_)
  obtain ⟨hq, T0, eT, hT0⟩ := hr1
  have hQ := hQ.tr hq
  have eM := eM.keep hq (by omega)
  refine lv_iconst (v := 0) hx hb d_Pa_follow_4 (by decide) ?_
  refine lv_istore_n (lv' := [(2, .int 0), (0, .ref h), (1, .ref hm)]) hx hb d_Pa_follow_5 rfl hl (by decide) rfl (fun ls hl => ?_)
  have loopb : ∀ (k i : Nat)  (w : va_W) (H : Heap) (locs : List Loc) (ls : Array Slot), (n < i + k) → (i ≤ n) → (lv_has ls 4 [(2, .int (nI i)), (0, .ref h), (1, .ref hm)]) → (va_P (xD g) vwCl w H) → (va_D (xA b0) w) → (va_S (xA b0) s.heap H locs) → (xQ q (q + 26) ws w) → (xPath g w q h o r (it (pa_f1 n) i (it (pa_e1 M ix n) n T0))) → (xMach g w qm hm om dm rm M ix n) → W p l e (rmL 2) s m ([.ref h, .ref hm] : List Value).toArray below meth c H locs 0 0 (MQ below (va_Qv (fun u => xQ q (q + 26) ws u ∧ ∃ T0, xPath g u q h o r (pa_all M ix n T0) ∧ ∀ i j, i < 24 → j < 24 → T0 i j = -1) (fun u t => va_P (xD g) vwCl u t.heap ∧ va_D (xA b0) u) (xA b0)) ([.ref h, .ref hm] : List Value).toArray s 0 0 (xA b0)) (F0 m 51 ls []) := by
    intro k
    induction k with
    | zero =>
      intro i w H locs ls hk hi hl hP hD hS hQ eT eM
      omega
    | succ k ih =>
      intro i w H locs ls hk hi hl hP hD hS hQ eT eM
      refine lv_iload_n hx hb d_Pa_follow_51 rfl (lv_at hl 0 rfl) ?_
      refine lv_aload_n hx hb d_Pa_follow_52 rfl (lv_at hl 2 rfl) ?_
      refine x_get E hP eM.1 rfl cl2_in 2 (by decide) wf_Pa_19 rfl d_Pa_follow_53 ?_
      refine lv_icmp_ge (tgt := 91) hx hb d_Pa_follow_56 (by decide) (fun c56 => ?_) (fun c56 => ?_)
      · have hi9 : n ≤ i := (nI_leI (by omega) (by omega)).mp c56
        have e9 : i = n := by omega
        exact x_rv E hr hS ⟨hQ, T0, by rw [pa_all]; rw [e9] at eT; exact eT, hT0⟩ hP hD d_Pa_follow_91
      · have hi9 : i < n := Nat.not_le.mp fun h => c56 (nI_le h (by omega))
        refine lv_iconst (v := 0) hx hb d_Pa_follow_59 (by decide) ?_
        refine lv_istore_n (lv' := [(3, .int 0), (2, .int (nI i)), (0, .ref h), (1, .ref hm)]) hx hb d_Pa_follow_60 rfl hl (by decide) rfl (fun ls hl => ?_)
        have loopb2 : ∀ (k kk : Nat)  (v : va_W) (H : Heap) (locs : List Loc) (ls : Array Slot), (n < kk + k) → (kk ≤ n) → (lv_has ls 4 [(3, .int (nI kk)), (2, .int (nI i)), (0, .ref h), (1, .ref hm)]) → (va_P (xD g) vwCl v H) → (va_D (xA b0) v) → (va_S (xA b0) s.heap H locs) → (xQ q (q + 26) ws v) → (xPath g v q h o r (it (pa_f2 n i) kk (it (pa_f1 n) i (it (pa_e1 M ix n) n T0)))) → (xMach g v qm hm om dm rm M ix n) → W p l e (rmL 2) s m ([.ref h, .ref hm] : List Value).toArray below meth c H locs 0 0 (MQ below (va_Qv (fun u => xQ q (q + 26) ws u ∧ ∃ T0, xPath g u q h o r (pa_all M ix n T0) ∧ ∀ i j, i < 24 → j < 24 → T0 i j = -1) (fun u t => va_P (xD g) vwCl u t.heap ∧ va_D (xA b0) u) (xA b0)) ([.ref h, .ref hm] : List Value).toArray s 0 0 (xA b0)) (F0 m 61 ls []) := by
          intro k
          induction k with
          | zero =>
            intro kk v H locs ls hk hkk hl hP hD hS hQ eT eM
            omega
          | succ k ih2 =>
            intro kk v H locs ls hk hkk hl hP hD hS hQ eT eM
            refine lv_iload_n hx hb d_Pa_follow_61 rfl (lv_at hl 0 rfl) ?_
            refine lv_aload_n hx hb d_Pa_follow_62 rfl (lv_at hl 3 rfl) ?_
            refine x_get E hP eM.1 rfl cl2_in 2 (by decide) wf_Pa_19 rfl d_Pa_follow_63 ?_
            refine lv_icmp_ge (tgt := 85) hx hb d_Pa_follow_66 (by decide) (fun c66 => ?_) (fun c66 => ?_)
            · have hj9 : n ≤ kk := (nI_leI (by omega) (by omega)).mp c66
              refine lv_iinc (v := nI (i + 1)) (lv' := [(2, .int (nI (i + 1))), (3, .int (nI kk)), (0, .ref h), (1, .ref hm)]) hx hb d_Pa_follow_85 hl (k := 1) rfl (nI_1 i) (by decide) rfl (fun ls hl => ?_)
              refine lv_goto (tgt := 51) hx hb d_Pa_follow_88 (by decide) ?_
              have e2 : kk = n := by omega
              subst e2
              have eT : xPath g _ q h o r (it (pa_f1 kk) (i + 1) (it (pa_e1 M ix kk) kk T0)) := eT
              exact ih (i + 1) _ _ _ _ (by omega) (by omega) (lv_sub hl [0, 2, 3] rfl) hP hD hS hQ eT eM
            · have hj9 : kk < n := Nat.not_le.mp fun h => c66 (nI_le h (by omega))
              refine lv_aload_n hx hb d_Pa_follow_69 rfl (lv_at hl 2 rfl) ?_
              refine lv_iload_n hx hb d_Pa_follow_70 rfl (lv_at hl 1 rfl) ?_
              refine lv_iload_n hx hb d_Pa_follow_71 rfl (lv_at hl 0 rfl) ?_
              refine lv_aload_n hx hb d_Pa_follow_72 rfl (lv_at hl 3 rfl) ?_
              refine x_get E hP eM.1 rfl cl2_in 2 (by decide) wf_Pa_19 rfl d_Pa_follow_73 ?_
              refine x_cVv (As := [.int (nI i), .int (nI kk), .int (nI n)]) (rest := []) E (c_Pa_joinAt l g b0 _ eT i kk n (by omega) (by omega) hn) wy_Pa_joinAt wl_Pa_37 hP hD hS eT.1 rfl hl.1 ⟨by decide, by decide⟩ ⟨Nat.le_refl _, Nat.le_refl _⟩ rfl (Nat.le_of_ble_eq_true rfl) d_Pa_follow_76 (fun w102 H locs hr76 hP hD hS => ?_)
              obtain ⟨hq, eT⟩ := hr76
              have hQ := hQ.tr hq
              have eM := eM.keep hq (by omega)
              have eT : xPath g _ q h o r (it (pa_f2 n i) (kk + 1) (it (pa_f1 n) i (it (pa_e1 M ix n) n T0))) := eT
              refine lv_iinc (v := nI (kk + 1)) (lv' := [(3, .int (nI (kk + 1))), (2, .int (nI i)), (0, .ref h), (1, .ref hm)]) hx hb d_Pa_follow_79 hl (k := 0) rfl (nI_1 kk) (by decide) rfl (fun ls hl => ?_)
              refine lv_goto (tgt := 61) hx hb d_Pa_follow_82 (by decide) ?_
              exact ih2 (kk + 1) _ _ _ _ (by omega) (by omega) hl hP hD hS hQ eT eM
        have eT : xPath g _ q h o r (it (pa_f2 n i) 0 (it (pa_f1 n) i (it (pa_e1 M ix n) n T0))) := eT
        exact loopb2 (n + 1) 0 _ _ _ _ (by omega) (by omega) hl hP hD hS hQ eT eM
  have loop : ∀ (k i : Nat)  (w : va_W) (H : Heap) (locs : List Loc) (ls : Array Slot), (n < i + k) → (i ≤ n) → (lv_has ls 4 [(2, .int (nI i)), (0, .ref h), (1, .ref hm)]) → (va_P (xD g) vwCl w H) → (va_D (xA b0) w) → (va_S (xA b0) s.heap H locs) → (xQ q (q + 26) ws w) → (xPath g w q h o r (it (pa_e1 M ix n) i T0)) → (xMach g w qm hm om dm rm M ix n) → W p l e (rmL 2) s m ([.ref h, .ref hm] : List Value).toArray below meth c H locs 0 0 (MQ below (va_Qv (fun u => xQ q (q + 26) ws u ∧ ∃ T0, xPath g u q h o r (pa_all M ix n T0) ∧ ∀ i j, i < 24 → j < 24 → T0 i j = -1) (fun u t => va_P (xD g) vwCl u t.heap ∧ va_D (xA b0) u) (xA b0)) ([.ref h, .ref hm] : List Value).toArray s 0 0 (xA b0)) (F0 m 6 ls []) := by
    intro k
    induction k with
    | zero =>
      intro i w H locs ls hk hi hl hP hD hS hQ eT eM
      omega
    | succ k ih =>
      intro i w H locs ls hk hi hl hP hD hS hQ eT eM
      refine lv_iload_n hx hb d_Pa_follow_6 rfl (lv_at hl 0 rfl) ?_
      refine lv_aload_n hx hb d_Pa_follow_7 rfl (lv_at hl 2 rfl) ?_
      refine x_get E hP eM.1 rfl cl2_in 2 (by decide) wf_Pa_19 rfl d_Pa_follow_8 ?_
      refine lv_icmp_ge (tgt := 49) hx hb d_Pa_follow_11 (by decide) (fun c11 => ?_) (fun c11 => ?_)
      · have hi9 : n ≤ i := (nI_leI (by omega) (by omega)).mp c11
        refine lv_iconst (v := 0) hx hb d_Pa_follow_49 (by decide) ?_
        refine lv_istore_n (lv' := [(2, .int 0), (0, .ref h), (1, .ref hm)]) hx hb d_Pa_follow_50 rfl hl (by decide) rfl (fun ls hl => ?_)
        have e9 : i = n := by omega
        rw [e9] at eT
        have eT : xPath g _ q h o r (it (pa_f1 n) 0 (it (pa_e1 M ix n) n T0)) := eT
        exact loopb (n + 1) 0 _ _ _ _ (by omega) (by omega) hl hP hD hS hQ eT eM
      · have hi9 : i < n := Nat.not_le.mp fun h => c11 (nI_le h (by omega))
        refine lv_iconst (v := 0) hx hb d_Pa_follow_14 (by decide) ?_
        refine lv_istore_n (lv' := [(3, .int 0), (2, .int (nI i)), (0, .ref h), (1, .ref hm)]) hx hb d_Pa_follow_15 rfl hl (by decide) rfl (fun ls hl => ?_)
        have loop2 : ∀ (k kk : Nat)  (v : va_W) (H : Heap) (locs : List Loc) (ls : Array Slot), (2 < kk + k) → (kk ≤ 2) → (lv_has ls 4 [(3, .int (nI kk)), (2, .int (nI i)), (0, .ref h), (1, .ref hm)]) → (va_P (xD g) vwCl v H) → (va_D (xA b0) v) → (va_S (xA b0) s.heap H locs) → (xQ q (q + 26) ws v) → (xPath g v q h o r (it (pa_e2 M ix n i) kk (it (pa_e1 M ix n) i T0))) → (xMach g v qm hm om dm rm M ix n) → W p l e (rmL 2) s m ([.ref h, .ref hm] : List Value).toArray below meth c H locs 0 0 (MQ below (va_Qv (fun u => xQ q (q + 26) ws u ∧ ∃ T0, xPath g u q h o r (pa_all M ix n T0) ∧ ∀ i j, i < 24 → j < 24 → T0 i j = -1) (fun u t => va_P (xD g) vwCl u t.heap ∧ va_D (xA b0) u) (xA b0)) ([.ref h, .ref hm] : List Value).toArray s 0 0 (xA b0)) (F0 m 16 ls []) := by
          intro k
          induction k with
          | zero =>
            intro kk v H locs ls hk hkk hl hP hD hS hQ eT eM
            omega
          | succ k ih2 =>
            intro kk v H locs ls hk hkk hl hP hD hS hQ eT eM
            refine lv_iload_n hx hb d_Pa_follow_16 rfl (lv_at hl 0 rfl) ?_
            refine lv_iconst (v := 2) hx hb d_Pa_follow_17 (by decide) ?_
            refine lv_icmp_ge (tgt := 43) hx hb d_Pa_follow_18 (by decide) (fun c18 => ?_) (fun c18 => ?_)
            · have hj9 : 2 ≤ kk := (nI_leI (a := 2) (by decide) (by omega)).mp c18
              refine lv_iinc (v := nI (i + 1)) (lv' := [(2, .int (nI (i + 1))), (3, .int (nI kk)), (0, .ref h), (1, .ref hm)]) hx hb d_Pa_follow_43 hl (k := 1) rfl (nI_1 i) (by decide) rfl (fun ls hl => ?_)
              refine lv_goto (tgt := 6) hx hb d_Pa_follow_46 (by decide) ?_
              have e2 : kk = 2 := by omega
              subst e2
              have eT : xPath g _ q h o r (it (pa_e1 M ix n) (i + 1) T0) := eT
              exact ih (i + 1) _ _ _ _ (by omega) (by omega) (lv_sub hl [0, 2, 3] rfl) hP hD hS hQ eT eM
            · have hj9 : kk < 2 := Nat.not_le.mp fun h => c18 (nI_le (a := 2) h (by omega))
              refine lv_aload_n hx hb d_Pa_follow_21 rfl (lv_at hl 2 rfl) ?_
              refine lv_iload_n hx hb d_Pa_follow_22 rfl (lv_at hl 1 rfl) ?_
              refine lv_aload_n hx hb d_Pa_follow_23 rfl (lv_at hl 3 rfl) ?_
              refine lv_iload_n hx hb d_Pa_follow_24 rfl (lv_at hl 1 rfl) ?_
              refine lv_iload_n hx hb d_Pa_follow_25 rfl (lv_at hl 0 rfl) ?_
              refine x_cRi (As := [.int (nI i), .int (nI kk)]) (rest := [.int (nI i), .ref h]) E (c_Mc_goal l g b0 _ eM hn (nI i) (nI kk)) wy_Mc_goal wl_Pa_25 hP hD hS eM.1 rfl hl.1 ⟨by decide, by decide⟩ ⟨Nat.le_refl _, Nat.le_refl _⟩ rfl (Nat.le_of_ble_eq_true rfl) d_Pa_follow_26 (fun r26 hr26 => ?_)
              subst hr26
              refine lv_aload_n hx hb d_Pa_follow_29 rfl (lv_at hl 3 rfl) ?_
              refine lv_iload_n hx hb d_Pa_follow_30 rfl (lv_at hl 1 rfl) ?_
              refine x_cRi (As := [.int (nI i)]) (rest := [.int (mc_goal M ix n (nI i) (nI kk)), .int (nI i), .ref h]) E (c_Mc_timeThrough l g b0 _ eM hn (nI i)) wy_Mc_timeThrough wl_Pa_29 hP hD hS eM.1 rfl hl.1 ⟨by decide, by decide⟩ ⟨Nat.le_refl _, Nat.le_refl _⟩ rfl (Nat.le_of_ble_eq_true rfl) d_Pa_follow_31 (fun r31 hr31 => ?_)
              subst hr31
              refine x_cVv (As := [.int (nI i), .int (mc_goal M ix n (nI i) (nI kk)), .int (mc_tt M n (nI i))]) (rest := []) E (c_Pa_shorten l g b0 _ eT (nI i) (mc_goal M ix n (nI i) (nI kk)) (mc_tt M n (nI i)) i rfl (by omega)) wy_Pa_shorten wl_Pa_33 hP hD hS eT.1 rfl hl.1 ⟨by decide, by decide⟩ ⟨Nat.le_refl _, Nat.le_refl _⟩ rfl (Nat.le_of_ble_eq_true rfl) d_Pa_follow_34 (fun w104 H locs hr34 hP hD hS => ?_)
              obtain ⟨hq, eT⟩ := hr34
              have hQ := hQ.tr hq
              have eM := eM.keep hq (by omega)
              have eT : xPath g _ q h o r (it (pa_e2 M ix n i) (kk + 1) (it (pa_e1 M ix n) i T0)) := eT
              refine lv_iinc (v := nI (kk + 1)) (lv' := [(3, .int (nI (kk + 1))), (2, .int (nI i)), (0, .ref h), (1, .ref hm)]) hx hb d_Pa_follow_37 hl (k := 0) rfl (nI_1 kk) (by decide) rfl (fun ls hl => ?_)
              refine lv_goto (tgt := 16) hx hb d_Pa_follow_40 (by decide) ?_
              exact ih2 (kk + 1) _ _ _ _ (by omega) (by omega) hl hP hD hS hQ eT eM
        have eT : xPath g _ q h o r (it (pa_e2 M ix n i) 0 (it (pa_e1 M ix n) i T0)) := eT
        exact loop2 3 0 _ _ _ _ (by omega) (by omega) hl hP hD hS hQ eT eM
  have eT : xPath g _ q h o r (it (pa_e1 M ix n) 0 T0) := eT
  exact loop (n + 1) 0 _ _ _ _ (by omega) (by omega) hl hP hD hS hQ eT eM
end
section
def fl_val (F : Nat → Nat → Int32) (n : Nat) (i col : Int32) : Int32 := if i < 0 then -1 else if nI n ≤ i then -1 else if col < 0 then -1 else if col < 3 then F col.toNatClampNeg i.toNatClampNeg else -1
set_option maxRecDepth 100000 in
set_option maxHeartbeats 4000000 in
theorem c_Fl_value (l : Launch) (g : xG) (b0 : Nat) (ws : va_W) {q h o n : Nat} {r : Nat → Nat} {F : Nat → Nat → Int32} (hT : xFlt g ws q h o r F n) (hn : n ≤ 168) (i col : Int32) : xRi l g b0 y_Fl_value b_Fl_value 3 (some .int) 0 [.ref h, .int i, .int col] ws (fun r => r = fl_val F n i col) := by
  unfold xRi
  refine x_in (by decide) (Nat.le_of_ble_eq_true rfl) ?_
  intro p e s m below meth c ls E hr hin hP hD hl
  obtain ⟨hx, hb, hml, hown, hts, hK, hZ, hb0, hlocks⟩ := id E
  have hS : va_S (xA b0) s.heap s.heap [] := va_S.rf
  have hl : lv_has ls 3 [(0, .ref h), (1, .int i), (2, .int col)] := hl
  obtain ⟨e0, e1, e2⟩ := id hT
  refine lv_iload_n hx hb d_Fl_value_0 rfl (lv_at hl 1 rfl) ?_
  refine lv_if_lt (tgt := 28) hx hb d_Fl_value_1 (by decide) (fun c1 => ?_) (fun c1 => ?_)
  · refine lv_iconst (v := (-1)) hx hb d_Fl_value_28 (by decide) ?_
    exact x_pi E hr (by rw [fl_val, if_pos c1]) d_Fl_value_29
  · refine lv_iload_n hx hb d_Fl_value_4 rfl (lv_at hl 1 rfl) ?_
    refine lv_aload_n hx hb d_Fl_value_5 rfl (lv_at hl 0 rfl) ?_
    refine x_get E hP e0 rfl cl5_in 1 (by decide) wf_Fl_16 rfl d_Fl_value_6 ?_
    refine lv_icmp_ge (tgt := 28) hx hb d_Fl_value_9 (by decide) (fun c9 => ?_) (fun c9 => ?_)
    · refine lv_iconst (v := (-1)) hx hb d_Fl_value_28 (by decide) ?_
      exact x_pi E hr (by rw [fl_val, if_neg c1, if_pos c9]) d_Fl_value_29
    · obtain ⟨i0, hi0, hi⟩ := x_ix (by omega) c1 c9
      refine lv_iload_n hx hb d_Fl_value_12 rfl (lv_at hl 1 rfl) ?_
      refine lv_sipush (v := 168) hx hb d_Fl_value_13 (by decide) ?_
      refine lv_icmp_ge (tgt := 28) hx hb d_Fl_value_16 (by decide) (fun c16 => absurd c16 (by rw [hi]; exact nI_ge (b := 168) (by omega) (by decide))) (fun c16 => ?_)
      refine lv_iload_n hx hb d_Fl_value_19 rfl (lv_at hl 2 rfl) ?_
      refine lv_if_lt (tgt := 28) hx hb d_Fl_value_20 (by decide) (fun c20 => ?_) (fun c20 => ?_)
      · refine lv_iconst (v := (-1)) hx hb d_Fl_value_28 (by decide) ?_
        exact x_pi E hr (by rw [fl_val, if_neg c1, if_neg c9, if_pos c20]) d_Fl_value_29
      · refine lv_iload_n hx hb d_Fl_value_23 rfl (lv_at hl 2 rfl) ?_
        refine lv_iconst (v := 3) hx hb d_Fl_value_24 (by decide) ?_
        refine lv_icmp_lt (tgt := 30) hx hb d_Fl_value_25 (by decide) (fun c25 => ?_) (fun c25 => ?_)
        · obtain ⟨k0, hk0, hk⟩ := x_ixl (n := 3) (by decide) c20 c25
          refine lv_aload_n hx hb d_Fl_value_30 rfl (lv_at hl 0 rfl) ?_
          refine x_get E hP e0 rfl cl5_in 0 (by decide) wf_Fl_11 rfl d_Fl_value_31 ?_
          refine lv_iload_n hx hb d_Fl_value_34 rfl (lv_at hl 2 rfl) ?_
          refine x_aald E hP e1 (j := k0) hk hk0 (by decide) rfl d_Fl_value_35 ?_
          refine lv_iload_n hx hb d_Fl_value_36 rfl (lv_at hl 1 rfl) ?_
          refine x_iald E hP (e2 k0 hk0) (j := i0) hi (by omega) (by decide) d_Fl_value_37 ?_
          exact x_pi E hr (by rw [fl_val, if_neg c1, if_neg c9, if_neg c20, if_pos c25, hi, hk, nI_clamp (by omega), nI_clamp (by omega)]) d_Fl_value_38
        · refine lv_iconst (v := (-1)) hx hb d_Fl_value_28 (by decide) ?_
          exact x_pi E hr (by rw [fl_val, if_neg c1, if_neg c9, if_neg c20, if_neg c25]) d_Fl_value_29
abbrev fl_S : Type := (Nat → Nat → Int32) × Nat
def fl_add (f : fl_S) (k a w : Int32) : fl_S := (xg_up (xg_up (xg_up f.1 0 f.2 k) 1 f.2 a) 2 f.2 w, f.2 + 1)
def xFs (g : xG) (ws : va_W) (q h o : Nat) (r : Nat → Nat) (f : fl_S) : Prop := xFlt g ws q h o r f.1 f.2
set_option maxRecDepth 100000 in
set_option maxHeartbeats 4000000 in
theorem c_Fl_add (l : Launch) (g : xG) (b0 : Nat) (ws : va_W) {q h o n : Nat} {r : Nat → Nat} {F : Nat → Nat → Int32} (hT : xFlt g ws q h o r F n) (hn : n < 168) (k x w : Int32) : xMv l g b0 y_Fl_add b_Fl_add 4 0 [.ref h, .int k, .int x, .int w] ws (fun u => xQ q (q + 5) ws u ∧ xFs g u q h o r (fl_add (F, n) k x w)) := by
  unfold xMv
  refine x_in (by decide) (Nat.le_of_ble_eq_true rfl) ?_
  intro p e s m below meth c ls E hr hin hP hD hl
  obtain ⟨hx, hb, hml, hown, hts, hK, hZ, hb0, hlocks⟩ := id E
  have hS : va_S (xA b0) s.heap s.heap [] := va_S.rf
  have hl : lv_has ls 4 [(0, .ref h), (1, .int k), (2, .int x), (3, .int w)] := hl
  obtain ⟨e0, e1, e2⟩ := id hT
  have hQ : xQ q (q + 5) ws ws := xQ.rf
  refine lv_aload_n hx hb d_Fl_add_0 rfl (lv_at hl 0 rfl) ?_
  refine x_get E hP e0 rfl cl5_in 1 (by decide) wf_Fl_16 rfl d_Fl_add_1 ?_
  refine lv_if_lt (tgt := 17) hx hb d_Fl_add_4 (by decide) (fun c4 => absurd c4 (nI_pos (by omega))) (fun c4 => ?_)
  refine lv_aload_n hx hb d_Fl_add_7 rfl (lv_at hl 0 rfl) ?_
  refine x_get E hP e0 rfl cl5_in 1 (by decide) wf_Fl_16 rfl d_Fl_add_8 ?_
  refine lv_sipush (v := 168) hx hb d_Fl_add_11 (by decide) ?_
  refine lv_icmp_lt (tgt := 18) hx hb d_Fl_add_14 (by decide) (fun c14 => ?_) (fun c14 => absurd (nI_lt (b := 168) (by omega) (by decide)) c14)
  refine lv_aload_n hx hb d_Fl_add_18 rfl (lv_at hl 0 rfl) ?_
  refine x_get E hP e0 rfl cl5_in 0 (by decide) wf_Fl_11 rfl d_Fl_add_19 ?_
  refine lv_iconst (v := 0) hx hb d_Fl_add_22 (by decide) ?_
  refine x_aald E hP e1 (j := 0) rfl (by decide) (by decide) rfl d_Fl_add_23 ?_
  refine lv_aload_n hx hb d_Fl_add_24 rfl (lv_at hl 0 rfl) ?_
  refine x_get E hP e0 rfl cl5_in 1 (by decide) wf_Fl_16 rfl d_Fl_add_25 ?_
  refine lv_iload_n hx hb d_Fl_add_28 rfl (lv_at hl 1 rfl) ?_
  refine x_iast E hP hD hS (e2 0 (by decide)) (j := n) rfl hn (by decide) d_Fl_add_29 (fun w1 H locs hU1 hP hD hS => ?_)
  have e2 : ∀ j, j < 3 → w1[q + 2 + j]? = some (r j, .inl (cI g, 168, .inl (xg_up F 0 n k j))) := xg_put e2 hU1
  have e0 : w1[q]? = some (h, .inr (5, [.ref o, .int (nI n)])) := (hU1.2 _ (by omega)).trans e0
  have e1 : w1[q + 1]? = some (o, .inl (cG g, 3, .inr (.inr (.inr (.inr (fun j => some (r j))))))) := (hU1.2 _ (by omega)).trans e1
  have hQ := hQ.up hU1 (by omega)
  refine lv_aload_n hx hb d_Fl_add_30 rfl (lv_at hl 0 rfl) ?_
  refine x_get E hP e0 rfl cl5_in 0 (by decide) wf_Fl_11 rfl d_Fl_add_31 ?_
  refine lv_iconst (v := 1) hx hb d_Fl_add_34 (by decide) ?_
  refine x_aald E hP e1 (j := 1) rfl (by decide) (by decide) rfl d_Fl_add_35 ?_
  refine lv_aload_n hx hb d_Fl_add_36 rfl (lv_at hl 0 rfl) ?_
  refine x_get E hP e0 rfl cl5_in 1 (by decide) wf_Fl_16 rfl d_Fl_add_37 ?_
  refine lv_iload_n hx hb d_Fl_add_40 rfl (lv_at hl 2 rfl) ?_
  refine x_iast E hP hD hS (e2 1 (by decide)) (j := n) rfl hn (by decide) d_Fl_add_41 (fun w2 H locs hU2 hP hD hS => ?_)
  have e2 : ∀ j, j < 3 → w2[q + 2 + j]? = some (r j, .inl (cI g, 168, .inl (xg_up (xg_up F 0 n k) 1 n x j))) := xg_put e2 hU2
  have e0 : w2[q]? = some (h, .inr (5, [.ref o, .int (nI n)])) := (hU2.2 _ (by omega)).trans e0
  have e1 : w2[q + 1]? = some (o, .inl (cG g, 3, .inr (.inr (.inr (.inr (fun j => some (r j))))))) := (hU2.2 _ (by omega)).trans e1
  have hQ := hQ.up hU2 (by omega)
  refine lv_aload_n hx hb d_Fl_add_42 rfl (lv_at hl 0 rfl) ?_
  refine x_get E hP e0 rfl cl5_in 0 (by decide) wf_Fl_11 rfl d_Fl_add_43 ?_
  refine lv_iconst (v := 2) hx hb d_Fl_add_46 (by decide) ?_
  refine x_aald E hP e1 (j := 2) rfl (by decide) (by decide) rfl d_Fl_add_47 ?_
  refine lv_aload_n hx hb d_Fl_add_48 rfl (lv_at hl 0 rfl) ?_
  refine x_get E hP e0 rfl cl5_in 1 (by decide) wf_Fl_16 rfl d_Fl_add_49 ?_
  refine lv_iload_n hx hb d_Fl_add_52 rfl (lv_at hl 3 rfl) ?_
  refine x_iast E hP hD hS (e2 2 (by decide)) (j := n) rfl hn (by decide) d_Fl_add_53 (fun w3 H locs hU3 hP hD hS => ?_)
  have e2 : ∀ j, j < 3 → w3[q + 2 + j]? = some (r j, .inl (cI g, 168, .inl (xg_up (xg_up (xg_up F 0 n k) 1 n x) 2 n w j))) := xg_put e2 hU3
  have e0 : w3[q]? = some (h, .inr (5, [.ref o, .int (nI n)])) := (hU3.2 _ (by omega)).trans e0
  have e1 : w3[q + 1]? = some (o, .inl (cG g, 3, .inr (.inr (.inr (.inr (fun j => some (r j))))))) := (hU3.2 _ (by omega)).trans e1
  have hQ := hQ.up hU3 (by omega)
  refine lv_aload_n hx hb d_Fl_add_54 rfl (lv_at hl 0 rfl) ?_
  refine lv_dup hx hb d_Fl_add_55 rfl ?_
  refine x_get E hP e0 rfl cl5_in 1 (by decide) wf_Fl_16 rfl d_Fl_add_56 ?_
  refine lv_iconst (v := 1) hx hb d_Fl_add_59 (by decide) ?_
  refine lv_iadd hx hb d_Fl_add_60 ?_
  refine x_top (y := nI (n + 1)) (nI_1 n) ?_
  refine x_put E hP hD hS e0 rfl cl5_in cl5_ty cl5_nm 1 (by decide) wf_Fl_16 rfl rfl rfl (Nat.le_of_ble_eq_true rfl) d_Fl_add_61 (fun w4 H locs hU4 hP hD hS => ?_)
  have e0 : w4[q]? = some (h, .inr (5, [.ref o, .int (nI (n + 1))])) := hU4.1
  have e1 : w4[q + 1]? = some (o, .inl (cG g, 3, .inr (.inr (.inr (.inr (fun j => some (r j))))))) := (hU4.2 _ (by omega)).trans e1
  have e2 : ∀ j, j < 3 → w4[q + 2 + j]? = some (r j, .inl (cI g, 168, .inl (xg_up (xg_up (xg_up F 0 n k) 1 n x) 2 n w j))) := fun j hj => (hU4.2 _ (by omega)).trans (e2 j hj)
  have hQ := hQ.up hU4 (by omega)
  exact x_rv E hr hS ⟨hQ, e0, e1, e2⟩ hP hD d_Fl_add_64
def fl_slow (M : Nat → Nat → Int32) (n : Nat) (T : Nat → Nat → Int32) (i : Int32) : Int32 := if pa_gp M n T i = -1 then 0 else if mc_val M n i 2 ≤ pa_gp M n T i then 0 else 1
set_option maxRecDepth 100000 in
set_option maxHeartbeats 4000000 in
theorem c_Fl_isTooSlow (l : Launch) (g : xG) (b0 : Nat) (ws : va_W) {qm hm om dm cn : Nat} {rm : Nat → Nat} {M : Nat → Nat → Int32} {ix : Nat → Int32} (eM : xMach g ws qm hm om dm rm M ix cn) (hcn : cn ≤ 24) {qp hp op : Nat} {rp : Nat → Nat} {T : Nat → Nat → Int32} (eP : xPath g ws qp hp op rp T) (i : Int32) : xRi l g b0 y_Fl_isTooSlow b_Fl_isTooSlow 4 (some .boolean) 3 [.ref hm, .ref hp, .int i] ws (fun r => r = fl_slow M cn T i) := by
  unfold xRi
  refine x_in (by decide) (Nat.le_of_ble_eq_true rfl) ?_
  intro p e s m below meth c ls E hr hin hP hD hl
  obtain ⟨hx, hb, hml, hown, hts, hK, hZ, hb0, hlocks⟩ := id E
  have hS : va_S (xA b0) s.heap s.heap [] := va_S.rf
  have hl : lv_has ls 4 [(0, .ref hm), (1, .ref hp), (2, .int i)] := hl
  refine lv_aload_n hx hb d_Fl_isTooSlow_0 rfl (lv_at hl 1 rfl) ?_
  refine lv_aload_n hx hb d_Fl_isTooSlow_1 rfl (lv_at hl 0 rfl) ?_
  refine lv_iload_n hx hb d_Fl_isTooSlow_2 rfl (lv_at hl 2 rfl) ?_
  refine x_cRi (As := [.ref hm, .int i]) (rest := []) E (c_Pa_leastGap l g b0 _ eP eM hcn i) wy_Pa_leastGap wl_Fl_59 hP hD hS eP.1 rfl hl.1 ⟨by decide, by decide⟩ ⟨Nat.le_refl _, Nat.le_refl _⟩ rfl (Nat.le_of_ble_eq_true rfl) d_Fl_isTooSlow_3 (fun r3 hr3 => ?_)
  subst hr3
  refine lv_istore_n (lv' := [(3, .int (pa_gp M cn T i)), (0, .ref hm), (1, .ref hp), (2, .int i)]) hx hb d_Fl_isTooSlow_6 rfl hl (by decide) rfl (fun ls hl => ?_)
  refine lv_iload_n hx hb d_Fl_isTooSlow_7 rfl (lv_at hl 0 rfl) ?_
  refine lv_iconst (v := (-1)) hx hb d_Fl_isTooSlow_8 (by decide) ?_
  refine lv_icmp_eq (tgt := 26) hx hb d_Fl_isTooSlow_9 (by decide) (fun c9 => ?_) (fun c9 => ?_)
  · refine lv_iconst (v := 0) hx hb d_Fl_isTooSlow_26 (by decide) ?_
    exact x_pz E hr rfl (by rw [fl_slow, if_pos c9]) d_Fl_isTooSlow_27
  · refine lv_aload_n hx hb d_Fl_isTooSlow_12 rfl (lv_at hl 1 rfl) ?_
    refine lv_iload_n hx hb d_Fl_isTooSlow_13 rfl (lv_at hl 3 rfl) ?_
    refine lv_iconst (v := 2) hx hb d_Fl_isTooSlow_14 (by decide) ?_
    refine x_cRi (As := [.int i, .int 2]) (rest := []) E (c_Mc_value l g b0 _ eM hcn (i) 2) wy_Mc_value wl_Fl_31 hP hD hS eM.1 rfl hl.1 ⟨by decide, by decide⟩ ⟨Nat.le_refl _, Nat.le_refl _⟩ rfl (Nat.le_of_ble_eq_true rfl) d_Fl_isTooSlow_15 (fun r15 hr15 => ?_)
    subst hr15
    refine lv_iload_n hx hb d_Fl_isTooSlow_18 rfl (lv_at hl 0 rfl) ?_
    refine lv_icmp_le (tgt := 26) hx hb d_Fl_isTooSlow_19 (by decide) (fun c19 => ?_) (fun c19 => ?_)
    · refine lv_iconst (v := 0) hx hb d_Fl_isTooSlow_26 (by decide) ?_
      exact x_pz E hr rfl (by rw [fl_slow, if_neg c9, if_pos c19]) d_Fl_isTooSlow_27
    · refine lv_iconst (v := 1) hx hb d_Fl_isTooSlow_22 (by decide) ?_
      refine lv_goto (tgt := 27) hx hb d_Fl_isTooSlow_23 (by decide) ?_
      exact x_pz E hr rfl (by rw [fl_slow, if_neg c9, if_neg c19]) d_Fl_isTooSlow_27
def fl_gate (M : Nat → Nat → Int32) (ix : Nat → Int32) (n : Nat) (i : Int32) : Int32 := if mc_val M n (mc_goal M ix n i 0) 0 = 3 then 1 else if mc_val M n (mc_goal M ix n i 1) 0 = 3 then 1 else 0
set_option maxRecDepth 100000 in
set_option maxHeartbeats 4000000 in
theorem c_Fl_goesToGate (l : Launch) (g : xG) (b0 : Nat) (ws : va_W) {qm hm om dm cn : Nat} {rm : Nat → Nat} {M : Nat → Nat → Int32} {ix : Nat → Int32} (eM : xMach g ws qm hm om dm rm M ix cn) (hcn : cn ≤ 24) (i : Int32) : xRi l g b0 y_Fl_goesToGate b_Fl_goesToGate 3 (some .boolean) 2 [.ref hm, .int i] ws (fun r => r = fl_gate M ix cn i) := by
  unfold xRi
  refine x_in (by decide) (Nat.le_of_ble_eq_true rfl) ?_
  intro p e s m below meth c ls E hr hin hP hD hl
  obtain ⟨hx, hb, hml, hown, hts, hK, hZ, hb0, hlocks⟩ := id E
  have hS : va_S (xA b0) s.heap s.heap [] := va_S.rf
  have hl : lv_has ls 3 [(0, .ref hm), (1, .int i)] := hl
  refine lv_iconst (v := 0) hx hb d_Fl_goesToGate_0 (by decide) ?_
  refine lv_istore_n (lv' := [(2, .int 0), (0, .ref hm), (1, .int i)]) hx hb d_Fl_goesToGate_1 rfl hl (by decide) rfl (fun ls hl => ?_)
  refine lv_iload_n hx hb d_Fl_goesToGate_2 rfl (lv_at hl 0 rfl) ?_
  refine lv_iconst (v := 2) hx hb d_Fl_goesToGate_3 (by decide) ?_
  refine lv_icmp_ge (tgt := 30) hx hb d_Fl_goesToGate_4 (by decide) (fun c4 => absurd c4 (by decide)) (fun c4 => ?_)
  refine lv_aload_n hx hb d_Fl_goesToGate_7 rfl (lv_at hl 1 rfl) ?_
  refine lv_aload_n hx hb d_Fl_goesToGate_8 rfl (lv_at hl 1 rfl) ?_
  refine lv_iload_n hx hb d_Fl_goesToGate_9 rfl (lv_at hl 2 rfl) ?_
  refine lv_iload_n hx hb d_Fl_goesToGate_10 rfl (lv_at hl 0 rfl) ?_
  refine x_cRi (As := [.int i, .int 0]) (rest := [.ref hm]) E (c_Mc_goal l g b0 _ eM hcn i 0) wy_Mc_goal wl_Fl_43 hP hD hS eM.1 rfl hl.1 ⟨by decide, by decide⟩ ⟨Nat.le_refl _, Nat.le_refl _⟩ rfl (Nat.le_of_ble_eq_true rfl) d_Fl_goesToGate_11 (fun r11 hr11 => ?_)
  subst hr11
  refine lv_iconst (v := 0) hx hb d_Fl_goesToGate_14 (by decide) ?_
  refine x_cRi (As := [.int (mc_goal M ix cn i 0), .int 0]) (rest := []) E (c_Mc_value l g b0 _ eM hcn (mc_goal M ix cn i 0) 0) wy_Mc_value wl_Fl_31 hP hD hS eM.1 rfl hl.1 ⟨by decide, by decide⟩ ⟨Nat.le_refl _, Nat.le_refl _⟩ rfl (Nat.le_of_ble_eq_true rfl) d_Fl_goesToGate_15 (fun r15 hr15 => ?_)
  subst hr15
  refine lv_iconst (v := 3) hx hb d_Fl_goesToGate_18 (by decide) ?_
  refine lv_icmp_ne (tgt := 24) hx hb d_Fl_goesToGate_19 (by decide) (fun c19 => ?_) (fun c19 => ?_)
  · refine lv_iinc (v := 1) (lv' := [(2, .int 1), (0, .ref hm), (1, .int i)]) hx hb d_Fl_goesToGate_24 hl (k := 0) rfl (by decide) (by decide) rfl (fun ls hl => ?_)
    refine lv_goto (tgt := 2) hx hb d_Fl_goesToGate_27 (by decide) ?_
    refine lv_iload_n hx hb d_Fl_goesToGate_2 rfl (lv_at hl 0 rfl) ?_
    refine lv_iconst (v := 2) hx hb d_Fl_goesToGate_3 (by decide) ?_
    refine lv_icmp_ge (tgt := 30) hx hb d_Fl_goesToGate_4 (by decide) (fun c4_1 => absurd c4_1 (by decide)) (fun c4_1 => ?_)
    refine lv_aload_n hx hb d_Fl_goesToGate_7 rfl (lv_at hl 1 rfl) ?_
    refine lv_aload_n hx hb d_Fl_goesToGate_8 rfl (lv_at hl 1 rfl) ?_
    refine lv_iload_n hx hb d_Fl_goesToGate_9 rfl (lv_at hl 2 rfl) ?_
    refine lv_iload_n hx hb d_Fl_goesToGate_10 rfl (lv_at hl 0 rfl) ?_
    refine x_cRi (As := [.int i, .int 1]) (rest := [.ref hm]) E (c_Mc_goal l g b0 _ eM hcn i 1) wy_Mc_goal wl_Fl_43 hP hD hS eM.1 rfl hl.1 ⟨by decide, by decide⟩ ⟨Nat.le_refl _, Nat.le_refl _⟩ rfl (Nat.le_of_ble_eq_true rfl) d_Fl_goesToGate_11 (fun r11 hr11 => ?_)
    subst hr11
    refine lv_iconst (v := 0) hx hb d_Fl_goesToGate_14 (by decide) ?_
    refine x_cRi (As := [.int (mc_goal M ix cn i 1), .int 0]) (rest := []) E (c_Mc_value l g b0 _ eM hcn (mc_goal M ix cn i 1) 0) wy_Mc_value wl_Fl_31 hP hD hS eM.1 rfl hl.1 ⟨by decide, by decide⟩ ⟨Nat.le_refl _, Nat.le_refl _⟩ rfl (Nat.le_of_ble_eq_true rfl) d_Fl_goesToGate_15 (fun r15 hr15 => ?_)
    subst hr15
    refine lv_iconst (v := 3) hx hb d_Fl_goesToGate_18 (by decide) ?_
    refine lv_icmp_ne (tgt := 24) hx hb d_Fl_goesToGate_19 (by decide) (fun c19_2 => ?_) (fun c19_2 => ?_)
    · refine lv_iinc (v := 2) (lv' := [(2, .int 2), (0, .ref hm), (1, .int i)]) hx hb d_Fl_goesToGate_24 hl (k := 0) rfl (by decide) (by decide) rfl (fun ls hl => ?_)
      refine lv_goto (tgt := 2) hx hb d_Fl_goesToGate_27 (by decide) ?_
      refine lv_iload_n hx hb d_Fl_goesToGate_2 rfl (lv_at hl 0 rfl) ?_
      refine lv_iconst (v := 2) hx hb d_Fl_goesToGate_3 (by decide) ?_
      refine lv_icmp_ge (tgt := 30) hx hb d_Fl_goesToGate_4 (by decide) (fun c4_3 => ?_) (fun c4_3 => absurd (by decide) c4_3)
      refine lv_iconst (v := 0) hx hb d_Fl_goesToGate_30 (by decide) ?_
      exact x_pz E hr rfl (by rw [fl_gate, if_neg c19, if_neg c19_2]) d_Fl_goesToGate_31
    · refine lv_iconst (v := 1) hx hb d_Fl_goesToGate_22 (by decide) ?_
      exact x_pz E hr rfl (by rw [fl_gate, if_neg c19, if_pos c19_2]) d_Fl_goesToGate_23
  · refine lv_iconst (v := 1) hx hb d_Fl_goesToGate_22 (by decide) ?_
    exact x_pz E hr rfl (by rw [fl_gate, if_pos c19]) d_Fl_goesToGate_23
def fl_rd (n : Nat) (T : Nat → Nat → Int32) (i : Int32) : Prop := ∃ k, k < n ∧ ¬ pa_lt T (nI k) i = -1
noncomputable def fl_is (k : Nat) (M : Nat → Nat → Int32) (ix : Nat → Int32) (n : Nat) (T : Nat → Nat → Int32) (i : Int32) : Int32 := if k = 2 then (if mc_val M n i 0 = 3 then fl_slow M n T i else 0) else if k = 3 then (if mc_val M n i 0 = 3 then fl_gate M ix n i else 0) else if k = 4 then pa_ld T i i else if k = 5 then (if mc_val M n i 0 = 4 then (if pa_gp M n T i = -1 then 1 else 0) else 0) else @ite Int32 (mc_val M n i 0 = 0 ∧ fl_rd n T i) (Classical.propDecidable _) 1 0
theorem fl_is_2 {M : Nat → Nat → Int32} {ix : Nat → Int32} {n : Nat} {T : Nat → Nat → Int32} {i : Int32} : fl_is 2 M ix n T i = if mc_val M n i 0 = 3 then fl_slow M n T i else 0 := rfl
theorem fl_is_3 {M : Nat → Nat → Int32} {ix : Nat → Int32} {n : Nat} {T : Nat → Nat → Int32} {i : Int32} : fl_is 3 M ix n T i = if mc_val M n i 0 = 3 then fl_gate M ix n i else 0 := rfl
theorem fl_is_4 {M : Nat → Nat → Int32} {ix : Nat → Int32} {n : Nat} {T : Nat → Nat → Int32} {i : Int32} : fl_is 4 M ix n T i = pa_ld T i i := rfl
theorem fl_is_5 {M : Nat → Nat → Int32} {ix : Nat → Int32} {n : Nat} {T : Nat → Nat → Int32} {i : Int32} : fl_is 5 M ix n T i = if mc_val M n i 0 = 4 then (if pa_gp M n T i = -1 then 1 else 0) else 0 := rfl
theorem fl_is_6y {M : Nat → Nat → Int32} {ix : Nat → Int32} {n : Nat} {T : Nat → Nat → Int32} {i : Int32} (h : mc_val M n i 0 = 0 ∧ fl_rd n T i) : fl_is 6 M ix n T i = 1 := by
  show @ite Int32 (mc_val M n i 0 = 0 ∧ fl_rd n T i) (Classical.propDecidable _) 1 0 = 1
  rw [if_pos h]
theorem fl_is_6n {M : Nat → Nat → Int32} {ix : Nat → Int32} {n : Nat} {T : Nat → Nat → Int32} {i : Int32} (h : ¬ (mc_val M n i 0 = 0 ∧ fl_rd n T i)) : fl_is 6 M ix n T i = 0 := by
  show @ite Int32 (mc_val M n i 0 = 0 ∧ fl_rd n T i) (Classical.propDecidable _) 1 0 = 0
  rw [if_neg h]
theorem pa_ld_01 (T : Nat → Nat → Int32) (i j : Int32) : pa_ld T i j = 0 ∨ pa_ld T i j = 1 := by
  unfold pa_ld
  split
  · exact Or.inl rfl
  · exact Or.inr rfl
theorem fl_slow_01 (M : Nat → Nat → Int32) (n : Nat) (T : Nat → Nat → Int32) (i : Int32) : fl_slow M n T i = 0 ∨ fl_slow M n T i = 1 := by
  unfold fl_slow
  split
  · exact Or.inl rfl
  · split
    · exact Or.inl rfl
    · exact Or.inr rfl
theorem fl_gate_01 (M : Nat → Nat → Int32) (ix : Nat → Int32) (n : Nat) (i : Int32) : fl_gate M ix n i = 0 ∨ fl_gate M ix n i = 1 := by
  unfold fl_gate
  split
  · exact Or.inr rfl
  · split
    · exact Or.inr rfl
    · exact Or.inl rfl
set_option maxRecDepth 100000 in
set_option maxHeartbeats 4000000 in
theorem c_Fl_isFaulty_2 (l : Launch) (g : xG) (b0 : Nat) (ws : va_W) {qm hm om dm cn : Nat} {rm : Nat → Nat} {M : Nat → Nat → Int32} {ix : Nat → Int32} (eM : xMach g ws qm hm om dm rm M ix cn) (hcn : cn ≤ 24) {qp hp op : Nat} {rp : Nat → Nat} {T : Nat → Nat → Int32} (eP : xPath g ws qp hp op rp T) (i : Int32) : xRi l g b0 y_Fl_isFaulty b_Fl_isFaulty 5 (some .boolean) 4 [.int 2, .ref hm, .ref hp, .int i] ws (fun r => r = fl_is 2 M ix cn T i) := by
  unfold xRi
  refine x_in (by decide) (Nat.le_of_ble_eq_true rfl) ?_
  intro p e s m below meth c ls E hr hin hP hD hl
  obtain ⟨hx, hb, hml, hown, hts, hK, hZ, hb0, hlocks⟩ := id E
  have hS : va_S (xA b0) s.heap s.heap [] := va_S.rf
  have hl : lv_has ls 5 [(0, .int 2), (1, .ref hm), (2, .ref hp), (3, .int i)] := hl
  refine lv_aload_n hx hb d_Fl_isFaulty_0 rfl (lv_at hl 1 rfl) ?_
  refine lv_iload_n hx hb d_Fl_isFaulty_1 rfl (lv_at hl 3 rfl) ?_
  refine lv_iconst (v := 0) hx hb d_Fl_isFaulty_2 (by decide) ?_
  refine x_cRi (As := [.int i, .int 0]) (rest := []) E (c_Mc_value l g b0 _ eM hcn (i) 0) wy_Mc_value wl_Fl_31 hP hD hS eM.1 rfl hl.1 ⟨by decide, by decide⟩ ⟨Nat.le_refl _, Nat.le_refl _⟩ rfl (Nat.le_of_ble_eq_true rfl) d_Fl_isFaulty_3 (fun r3 hr3 => ?_)
  subst hr3
  refine lv_istore (lv' := [(4, .int (mc_val M cn (i) 0)), (0, .int 2), (1, .ref hm), (2, .ref hp), (3, .int i)]) hx hb d_Fl_isFaulty_6 hl (by decide) rfl (fun ls hl => ?_)
  refine lv_iload_n hx hb d_Fl_isFaulty_8 rfl (lv_at hl 1 rfl) ?_
  refine lv_tableIn (off := 35) (tgt := 44) hx hb d_Fl_isFaulty_9 (by decide) (by decide) (by decide) (by decide) ?_
  refine lv_iload hx hb d_Fl_isFaulty_44 (lv_at hl 0 rfl) ?_
  refine lv_iconst (v := 3) hx hb d_Fl_isFaulty_46 (by decide) ?_
  refine lv_icmp_ne (tgt := 63) hx hb d_Fl_isFaulty_47 (by decide) (fun c47 => ?_) (fun c47 => ?_)
  · refine lv_iconst (v := 0) hx hb d_Fl_isFaulty_63 (by decide) ?_
    exact x_pz E hr rfl (by rw [fl_is_2, if_neg c47]) d_Fl_isFaulty_64
  · refine lv_aload_n hx hb d_Fl_isFaulty_50 rfl (lv_at hl 2 rfl) ?_
    refine lv_aload_n hx hb d_Fl_isFaulty_51 rfl (lv_at hl 3 rfl) ?_
    refine lv_iload_n hx hb d_Fl_isFaulty_52 rfl (lv_at hl 4 rfl) ?_
    refine x_cSi (As := [.ref hm, .ref hp, .int i]) (rest := []) E (c_Fl_isTooSlow l g b0 _ eM hcn eP i) wy_Fl_isTooSlow wl_Fl_46 hP hD hS hl.1 ⟨by decide, by decide⟩ ⟨Nat.le_refl _, Nat.le_refl _⟩ rfl (Nat.le_of_ble_eq_true rfl) d_Fl_isFaulty_53 (fun r53 hr53 => ?_)
    subst hr53
    refine lv_if_eq (tgt := 63) hx hb d_Fl_isFaulty_56 (by decide) (fun c56 => ?_) (fun c56 => ?_)
    · refine lv_iconst (v := 0) hx hb d_Fl_isFaulty_63 (by decide) ?_
      exact x_pz E hr rfl (by rw [fl_is_2, if_pos c47, c56]) d_Fl_isFaulty_64
    · refine lv_iconst (v := 1) hx hb d_Fl_isFaulty_59 (by decide) ?_
      refine lv_goto (tgt := 64) hx hb d_Fl_isFaulty_60 (by decide) ?_
      exact x_pz E hr rfl (by rw [fl_is_2, if_pos c47]; exact ((fl_slow_01 M cn T i).resolve_left c56).symm) d_Fl_isFaulty_64
set_option maxRecDepth 100000 in
set_option maxHeartbeats 4000000 in
theorem c_Fl_isFaulty_3 (l : Launch) (g : xG) (b0 : Nat) (ws : va_W) {qm hm om dm cn : Nat} {rm : Nat → Nat} {M : Nat → Nat → Int32} {ix : Nat → Int32} (eM : xMach g ws qm hm om dm rm M ix cn) (hcn : cn ≤ 24) {qp hp op : Nat} {rp : Nat → Nat} {T : Nat → Nat → Int32} (eP : xPath g ws qp hp op rp T) (i : Int32) : xRi l g b0 y_Fl_isFaulty b_Fl_isFaulty 5 (some .boolean) 4 [.int 3, .ref hm, .ref hp, .int i] ws (fun r => r = fl_is 3 M ix cn T i) := by
  unfold xRi
  refine x_in (by decide) (Nat.le_of_ble_eq_true rfl) ?_
  intro p e s m below meth c ls E hr hin hP hD hl
  obtain ⟨hx, hb, hml, hown, hts, hK, hZ, hb0, hlocks⟩ := id E
  have hS : va_S (xA b0) s.heap s.heap [] := va_S.rf
  have hl : lv_has ls 5 [(0, .int 3), (1, .ref hm), (2, .ref hp), (3, .int i)] := hl
  refine lv_aload_n hx hb d_Fl_isFaulty_0 rfl (lv_at hl 1 rfl) ?_
  refine lv_iload_n hx hb d_Fl_isFaulty_1 rfl (lv_at hl 3 rfl) ?_
  refine lv_iconst (v := 0) hx hb d_Fl_isFaulty_2 (by decide) ?_
  refine x_cRi (As := [.int i, .int 0]) (rest := []) E (c_Mc_value l g b0 _ eM hcn (i) 0) wy_Mc_value wl_Fl_31 hP hD hS eM.1 rfl hl.1 ⟨by decide, by decide⟩ ⟨Nat.le_refl _, Nat.le_refl _⟩ rfl (Nat.le_of_ble_eq_true rfl) d_Fl_isFaulty_3 (fun r3 hr3 => ?_)
  subst hr3
  refine lv_istore (lv' := [(4, .int (mc_val M cn (i) 0)), (0, .int 3), (1, .ref hm), (2, .ref hp), (3, .int i)]) hx hb d_Fl_isFaulty_6 hl (by decide) rfl (fun ls hl => ?_)
  refine lv_iload_n hx hb d_Fl_isFaulty_8 rfl (lv_at hl 1 rfl) ?_
  refine lv_tableIn (off := 56) (tgt := 65) hx hb d_Fl_isFaulty_9 (by decide) (by decide) (by decide) (by decide) ?_
  refine lv_iload hx hb d_Fl_isFaulty_65 (lv_at hl 0 rfl) ?_
  refine lv_iconst (v := 3) hx hb d_Fl_isFaulty_67 (by decide) ?_
  refine lv_icmp_ne (tgt := 83) hx hb d_Fl_isFaulty_68 (by decide) (fun c68 => ?_) (fun c68 => ?_)
  · refine lv_iconst (v := 0) hx hb d_Fl_isFaulty_83 (by decide) ?_
    exact x_pz E hr rfl (by rw [fl_is_3, if_neg c68]) d_Fl_isFaulty_84
  · refine lv_aload_n hx hb d_Fl_isFaulty_71 rfl (lv_at hl 2 rfl) ?_
    refine lv_iload_n hx hb d_Fl_isFaulty_72 rfl (lv_at hl 4 rfl) ?_
    refine x_cSi (As := [.ref hm, .int i]) (rest := []) E (c_Fl_goesToGate l g b0 _ eM hcn i) wy_Fl_goesToGate wl_Fl_50 hP hD hS hl.1 ⟨by decide, by decide⟩ ⟨Nat.le_refl _, Nat.le_refl _⟩ rfl (Nat.le_of_ble_eq_true rfl) d_Fl_isFaulty_73 (fun r73 hr73 => ?_)
    subst hr73
    refine lv_if_eq (tgt := 83) hx hb d_Fl_isFaulty_76 (by decide) (fun c76 => ?_) (fun c76 => ?_)
    · refine lv_iconst (v := 0) hx hb d_Fl_isFaulty_83 (by decide) ?_
      exact x_pz E hr rfl (by rw [fl_is_3, if_pos c68, c76]) d_Fl_isFaulty_84
    · refine lv_iconst (v := 1) hx hb d_Fl_isFaulty_79 (by decide) ?_
      refine lv_goto (tgt := 84) hx hb d_Fl_isFaulty_80 (by decide) ?_
      exact x_pz E hr rfl (by rw [fl_is_3, if_pos c68]; exact ((fl_gate_01 M ix cn i).resolve_left c76).symm) d_Fl_isFaulty_84
set_option maxRecDepth 100000 in
set_option maxHeartbeats 4000000 in
theorem c_Fl_isFaulty_4 (l : Launch) (g : xG) (b0 : Nat) (ws : va_W) {qm hm om dm cn : Nat} {rm : Nat → Nat} {M : Nat → Nat → Int32} {ix : Nat → Int32} (eM : xMach g ws qm hm om dm rm M ix cn) (hcn : cn ≤ 24) {qp hp op : Nat} {rp : Nat → Nat} {T : Nat → Nat → Int32} (eP : xPath g ws qp hp op rp T) (i : Int32) : xRi l g b0 y_Fl_isFaulty b_Fl_isFaulty 5 (some .boolean) 4 [.int 4, .ref hm, .ref hp, .int i] ws (fun r => r = fl_is 4 M ix cn T i) := by
  unfold xRi
  refine x_in (by decide) (Nat.le_of_ble_eq_true rfl) ?_
  intro p e s m below meth c ls E hr hin hP hD hl
  obtain ⟨hx, hb, hml, hown, hts, hK, hZ, hb0, hlocks⟩ := id E
  have hS : va_S (xA b0) s.heap s.heap [] := va_S.rf
  have hl : lv_has ls 5 [(0, .int 4), (1, .ref hm), (2, .ref hp), (3, .int i)] := hl
  refine lv_aload_n hx hb d_Fl_isFaulty_0 rfl (lv_at hl 1 rfl) ?_
  refine lv_iload_n hx hb d_Fl_isFaulty_1 rfl (lv_at hl 3 rfl) ?_
  refine lv_iconst (v := 0) hx hb d_Fl_isFaulty_2 (by decide) ?_
  refine x_cRi (As := [.int i, .int 0]) (rest := []) E (c_Mc_value l g b0 _ eM hcn (i) 0) wy_Mc_value wl_Fl_31 hP hD hS eM.1 rfl hl.1 ⟨by decide, by decide⟩ ⟨Nat.le_refl _, Nat.le_refl _⟩ rfl (Nat.le_of_ble_eq_true rfl) d_Fl_isFaulty_3 (fun r3 hr3 => ?_)
  subst hr3
  refine lv_istore (lv' := [(4, .int (mc_val M cn (i) 0)), (0, .int 4), (1, .ref hm), (2, .ref hp), (3, .int i)]) hx hb d_Fl_isFaulty_6 hl (by decide) rfl (fun ls hl => ?_)
  refine lv_iload_n hx hb d_Fl_isFaulty_8 rfl (lv_at hl 1 rfl) ?_
  refine lv_tableIn (off := 76) (tgt := 85) hx hb d_Fl_isFaulty_9 (by decide) (by decide) (by decide) (by decide) ?_
  refine lv_aload_n hx hb d_Fl_isFaulty_85 rfl (lv_at hl 3 rfl) ?_
  refine lv_iload_n hx hb d_Fl_isFaulty_86 rfl (lv_at hl 4 rfl) ?_
  refine lv_iload_n hx hb d_Fl_isFaulty_87 rfl (lv_at hl 4 rfl) ?_
  refine x_cRi (As := [.int i, .int i]) (rest := []) E (c_Pa_leads l g b0 _ eP i i) wy_Pa_leads wl_Fl_54 hP hD hS eP.1 rfl hl.1 ⟨by decide, by decide⟩ ⟨Nat.le_refl _, Nat.le_refl _⟩ rfl (Nat.le_of_ble_eq_true rfl) d_Fl_isFaulty_88 (fun r88 hr88 => ?_)
  subst hr88
  exact x_pz E hr (by rcases pa_ld_01 T i i with h | h <;> rw [h] <;> rfl) fl_is_4.symm d_Fl_isFaulty_91
set_option maxRecDepth 100000 in
set_option maxHeartbeats 4000000 in
theorem c_Fl_isFaulty_5 (l : Launch) (g : xG) (b0 : Nat) (ws : va_W) {qm hm om dm cn : Nat} {rm : Nat → Nat} {M : Nat → Nat → Int32} {ix : Nat → Int32} (eM : xMach g ws qm hm om dm rm M ix cn) (hcn : cn ≤ 24) {qp hp op : Nat} {rp : Nat → Nat} {T : Nat → Nat → Int32} (eP : xPath g ws qp hp op rp T) (i : Int32) : xRi l g b0 y_Fl_isFaulty b_Fl_isFaulty 5 (some .boolean) 4 [.int 5, .ref hm, .ref hp, .int i] ws (fun r => r = fl_is 5 M ix cn T i) := by
  unfold xRi
  refine x_in (by decide) (Nat.le_of_ble_eq_true rfl) ?_
  intro p e s m below meth c ls E hr hin hP hD hl
  obtain ⟨hx, hb, hml, hown, hts, hK, hZ, hb0, hlocks⟩ := id E
  have hS : va_S (xA b0) s.heap s.heap [] := va_S.rf
  have hl : lv_has ls 5 [(0, .int 5), (1, .ref hm), (2, .ref hp), (3, .int i)] := hl
  refine lv_aload_n hx hb d_Fl_isFaulty_0 rfl (lv_at hl 1 rfl) ?_
  refine lv_iload_n hx hb d_Fl_isFaulty_1 rfl (lv_at hl 3 rfl) ?_
  refine lv_iconst (v := 0) hx hb d_Fl_isFaulty_2 (by decide) ?_
  refine x_cRi (As := [.int i, .int 0]) (rest := []) E (c_Mc_value l g b0 _ eM hcn (i) 0) wy_Mc_value wl_Fl_31 hP hD hS eM.1 rfl hl.1 ⟨by decide, by decide⟩ ⟨Nat.le_refl _, Nat.le_refl _⟩ rfl (Nat.le_of_ble_eq_true rfl) d_Fl_isFaulty_3 (fun r3 hr3 => ?_)
  subst hr3
  refine lv_istore (lv' := [(4, .int (mc_val M cn (i) 0)), (0, .int 5), (1, .ref hm), (2, .ref hp), (3, .int i)]) hx hb d_Fl_isFaulty_6 hl (by decide) rfl (fun ls hl => ?_)
  refine lv_iload_n hx hb d_Fl_isFaulty_8 rfl (lv_at hl 1 rfl) ?_
  refine lv_tableIn (off := 83) (tgt := 92) hx hb d_Fl_isFaulty_9 (by decide) (by decide) (by decide) (by decide) ?_
  refine lv_iload hx hb d_Fl_isFaulty_92 (lv_at hl 0 rfl) ?_
  refine lv_iconst (v := 4) hx hb d_Fl_isFaulty_94 (by decide) ?_
  refine lv_icmp_ne (tgt := 112) hx hb d_Fl_isFaulty_95 (by decide) (fun c95 => ?_) (fun c95 => ?_)
  · refine lv_iconst (v := 0) hx hb d_Fl_isFaulty_112 (by decide) ?_
    exact x_pz E hr rfl (by rw [fl_is_5, if_neg c95]) d_Fl_isFaulty_113
  · refine lv_aload_n hx hb d_Fl_isFaulty_98 rfl (lv_at hl 3 rfl) ?_
    refine lv_aload_n hx hb d_Fl_isFaulty_99 rfl (lv_at hl 2 rfl) ?_
    refine lv_iload_n hx hb d_Fl_isFaulty_100 rfl (lv_at hl 4 rfl) ?_
    refine x_cRi (As := [.ref hm, .int i]) (rest := []) E (c_Pa_leastGap l g b0 _ eP eM hcn i) wy_Pa_leastGap wl_Fl_59 hP hD hS eP.1 rfl hl.1 ⟨by decide, by decide⟩ ⟨Nat.le_refl _, Nat.le_refl _⟩ rfl (Nat.le_of_ble_eq_true rfl) d_Fl_isFaulty_101 (fun r101 hr101 => ?_)
    subst hr101
    refine lv_iconst (v := (-1)) hx hb d_Fl_isFaulty_104 (by decide) ?_
    refine lv_icmp_ne (tgt := 112) hx hb d_Fl_isFaulty_105 (by decide) (fun c105 => ?_) (fun c105 => ?_)
    · refine lv_iconst (v := 0) hx hb d_Fl_isFaulty_112 (by decide) ?_
      exact x_pz E hr rfl (by rw [fl_is_5, if_pos c95, if_neg c105]) d_Fl_isFaulty_113
    · refine lv_iconst (v := 1) hx hb d_Fl_isFaulty_108 (by decide) ?_
      refine lv_goto (tgt := 113) hx hb d_Fl_isFaulty_109 (by decide) ?_
      exact x_pz E hr rfl (by rw [fl_is_5, if_pos c95, if_pos c105]) d_Fl_isFaulty_113
set_option maxRecDepth 100000 in
set_option maxHeartbeats 4000000 in
theorem c_Fl_isFaulty_6 (l : Launch) (g : xG) (b0 : Nat) (ws : va_W) {qm hm om dm cn : Nat} {rm : Nat → Nat} {M : Nat → Nat → Int32} {ix : Nat → Int32} (eM : xMach g ws qm hm om dm rm M ix cn) (hcn : cn ≤ 24) {qp hp op : Nat} {rp : Nat → Nat} {T : Nat → Nat → Int32} (eP : xPath g ws qp hp op rp T) (i : Int32) : xRi l g b0 y_Fl_isFaulty b_Fl_isFaulty 5 (some .boolean) 4 [.int 6, .ref hm, .ref hp, .int i] ws (fun r => r = fl_is 6 M ix cn T i) := by
  unfold xRi
  refine x_in (by decide) (Nat.le_of_ble_eq_true rfl) ?_
  intro p e s m below meth c ls E hr hin hP hD hl
  obtain ⟨hx, hb, hml, hown, hts, hK, hZ, hb0, hlocks⟩ := id E
  have hS : va_S (xA b0) s.heap s.heap [] := va_S.rf
  have hl : lv_has ls 5 [(0, .int 6), (1, .ref hm), (2, .ref hp), (3, .int i)] := hl
  refine lv_aload_n hx hb d_Fl_isFaulty_0 rfl (lv_at hl 1 rfl) ?_
  refine lv_iload_n hx hb d_Fl_isFaulty_1 rfl (lv_at hl 3 rfl) ?_
  refine lv_iconst (v := 0) hx hb d_Fl_isFaulty_2 (by decide) ?_
  refine x_cRi (As := [.int i, .int 0]) (rest := []) E (c_Mc_value l g b0 _ eM hcn (i) 0) wy_Mc_value wl_Fl_31 hP hD hS eM.1 rfl hl.1 ⟨by decide, by decide⟩ ⟨Nat.le_refl _, Nat.le_refl _⟩ rfl (Nat.le_of_ble_eq_true rfl) d_Fl_isFaulty_3 (fun r3 hr3 => ?_)
  subst hr3
  refine lv_istore (lv' := [(4, .int (mc_val M cn (i) 0)), (0, .int 6), (1, .ref hm), (2, .ref hp), (3, .int i)]) hx hb d_Fl_isFaulty_6 hl (by decide) rfl (fun ls hl => ?_)
  refine lv_iload_n hx hb d_Fl_isFaulty_8 rfl (lv_at hl 1 rfl) ?_
  refine lv_tableIn (off := 105) (tgt := 114) hx hb d_Fl_isFaulty_9 (by decide) (by decide) (by decide) (by decide) ?_
  refine lv_iload hx hb d_Fl_isFaulty_114 (lv_at hl 0 rfl) ?_
  refine lv_if_ne (tgt := 132) hx hb d_Fl_isFaulty_116 (by decide) (fun c116 => ?_) (fun c116 => ?_)
  · refine lv_iconst (v := 0) hx hb d_Fl_isFaulty_132 (by decide) ?_
    exact x_pz E hr rfl (fl_is_6n (fun h => c116 h.1)).symm d_Fl_isFaulty_133
  · refine lv_aload_n hx hb d_Fl_isFaulty_119 rfl (lv_at hl 3 rfl) ?_
    refine lv_aload_n hx hb d_Fl_isFaulty_120 rfl (lv_at hl 2 rfl) ?_
    refine lv_iload_n hx hb d_Fl_isFaulty_121 rfl (lv_at hl 4 rfl) ?_
    refine x_cRi (As := [.ref hm, .int i]) (rest := []) E (c_Pa_isReached l g b0 _ eP eM hcn i) wy_Pa_isReached wl_Fl_63 hP hD hS eP.1 rfl hl.1 ⟨by decide, by decide⟩ ⟨Nat.le_refl _, Nat.le_refl _⟩ rfl (Nat.le_of_ble_eq_true rfl) d_Fl_isFaulty_122 (fun r122 hr122 => ?_)
    refine lv_if_eq (tgt := 132) hx hb d_Fl_isFaulty_125 (by decide) (fun c125 => ?_) (fun c125 => ?_)
    · refine lv_iconst (v := 0) hx hb d_Fl_isFaulty_132 (by decide) ?_
      exact x_pz E hr rfl (fl_is_6n (fun h => by
          rcases hr122 with ⟨h1, h2⟩ | ⟨h1, h2⟩
          · rw [h1] at c125; exact absurd c125 (by decide)
          · obtain ⟨k9, h3, h4⟩ := h.2
            exact h4 (h2 k9 h3))).symm d_Fl_isFaulty_133
    · refine lv_iconst (v := 1) hx hb d_Fl_isFaulty_128 (by decide) ?_
      refine lv_goto (tgt := 133) hx hb d_Fl_isFaulty_129 (by decide) ?_
      exact x_pz E hr rfl (fl_is_6y (by
          rcases hr122 with ⟨h1, h2⟩ | ⟨h1, h2⟩
          · exact ⟨c116, h2⟩
          · exact absurd h1 c125)).symm d_Fl_isFaulty_133
theorem c_Fl_isFaulty (l : Launch) (g : xG) (b0 : Nat) (ws : va_W) {qm hm om dm cn : Nat} {rm : Nat → Nat} {M : Nat → Nat → Int32} {ix : Nat → Int32} (eM : xMach g ws qm hm om dm rm M ix cn) (hcn : cn ≤ 24) {qp hp op : Nat} {rp : Nat → Nat} {T : Nat → Nat → Int32} (eP : xPath g ws qp hp op rp T) (i : Int32) (k : Nat) (hk : 2 ≤ k ∧ k ≤ 6) : xRi l g b0 y_Fl_isFaulty b_Fl_isFaulty 5 (some .boolean) 4 [.int (nI k), .ref hm, .ref hp, .int i] ws (fun r => r = fl_is k M ix cn T i) := by
  obtain rfl | rfl | rfl | rfl | rfl : k = 2 ∨ k = 3 ∨ k = 4 ∨ k = 5 ∨ k = 6 := by omega
  · exact c_Fl_isFaulty_2 l g b0 ws eM hcn eP i
  · exact c_Fl_isFaulty_3 l g b0 ws eM hcn eP i
  · exact c_Fl_isFaulty_4 l g b0 ws eM hcn eP i
  · exact c_Fl_isFaulty_5 l g b0 ws eM hcn eP i
  · exact c_Fl_isFaulty_6 l g b0 ws eM hcn eP i
def fl_w2 (M : Nat → Nat → Int32) (ix : Nat → Int32) (n i : Nat) (k : Nat) (f : fl_S) : fl_S := if mc_has M n (nI i) (nI k) = 0 then f else if mc_goal M ix n (nI i) (nI k) = -1 then fl_add f 1 (mc_val M n (nI i) 1) (nI k) else f
def fl_w1 (M : Nat → Nat → Int32) (ix : Nat → Int32) (n : Nat) (i : Nat) (f : fl_S) : fl_S := it (fl_w2 M ix n i) 2 f
theorem it_le {f : Nat → fl_S → fl_S} {c : Nat} (h : ∀ k s, (f k s).2 ≤ s.2 + c) : ∀ (m : Nat) (s : fl_S), (it f m s).2 ≤ s.2 + c * m
  | 0, s => Nat.le_refl _
  | m + 1, s => by
    have h1 := h m (it f m s)
    have h2 := it_le h m s
    rw [Nat.mul_succ]
    show (f m (it f m s)).2 ≤ _
    omega
theorem fl_w2_le {M : Nat → Nat → Int32} {ix : Nat → Int32} {n i : Nat} : ∀ k s, (fl_w2 M ix n i k s).2 ≤ s.2 + 1 := fun k s => by
  unfold fl_w2
  split
  · omega
  · split
    · show s.2 + 1 ≤ s.2 + 1
      exact Nat.le_refl _
    · omega
theorem fl_w1_le {M : Nat → Nat → Int32} {ix : Nat → Int32} {n : Nat} : ∀ k s, (fl_w1 M ix n k s).2 ≤ s.2 + 2 := fun k s => it_le (c := 1) fl_w2_le 2 s
set_option maxRecDepth 100000 in
set_option maxHeartbeats 4000000 in
theorem c_Fl_findWaysToNowhere (l : Launch) (g : xG) (b0 : Nat) (ws : va_W) {q h o : Nat} {r : Nat → Nat} {f0 : fl_S} (hT : xFs g ws q h o r f0) (hf0 : f0.2 = 0) {qm hm om dm cn : Nat} {rm : Nat → Nat} {M : Nat → Nat → Int32} {ix : Nat → Int32} (eM : xMach g ws qm hm om dm rm M ix cn) (hcn : cn ≤ 24) (hd : qm + 9 ≤ q ∨ q + 5 ≤ qm) : xMv l g b0 y_Fl_findWaysToNowhere b_Fl_findWaysToNowhere 4 2 [.ref h, .ref hm] ws (fun u => xQ q (q + 5) ws u ∧ xFs g u q h o r (it (fl_w1 M ix cn) cn f0)) := by
  unfold xMv
  refine x_in (by decide) (Nat.le_of_ble_eq_true rfl) ?_
  intro p e s m below meth c ls E hr hin hP hD hl
  obtain ⟨hx, hb, hml, hown, hts, hK, hZ, hb0, hlocks⟩ := id E
  have hS : va_S (xA b0) s.heap s.heap [] := va_S.rf
  have hl : lv_has ls 4 [(0, .ref h), (1, .ref hm)] := hl
  have hQ : xQ q (q + 5) ws ws := xQ.rf
  have eF := hT
  refine lv_iconst (v := 0) hx hb d_Fl_findWaysToNowhere_0 (by decide) ?_
  refine lv_istore_n (lv' := [(2, .int 0), (0, .ref h), (1, .ref hm)]) hx hb d_Fl_findWaysToNowhere_1 rfl hl (by decide) rfl (fun ls hl => ?_)
  have loop : ∀ (k i : Nat)  (w : va_W) (H : Heap) (locs : List Loc) (ls : Array Slot), (cn < i + k) → (i ≤ cn) → (lv_has ls 4 [(2, .int (nI i)), (0, .ref h), (1, .ref hm)]) → (va_P (xD g) vwCl w H) → (va_D (xA b0) w) → (va_S (xA b0) s.heap H locs) → (xQ q (q + 5) ws w) → (xFs g w q h o r (it (fl_w1 M ix cn) i f0)) → (xMach g w qm hm om dm rm M ix cn) → W p l e (rmL 2) s m ([.ref h, .ref hm] : List Value).toArray below meth c H locs 0 0 (MQ below (va_Qv (fun u => xQ q (q + 5) ws u ∧ xFs g u q h o r (it (fl_w1 M ix cn) cn f0)) (fun u t => va_P (xD g) vwCl u t.heap ∧ va_D (xA b0) u) (xA b0)) ([.ref h, .ref hm] : List Value).toArray s 0 0 (xA b0)) (F0 m 2 ls []) := by
    intro k
    induction k with
    | zero =>
      intro i w H locs ls hk hi hl hP hD hS hQ eF eM
      omega
    | succ k ih =>
      intro i w H locs ls hk hi hl hP hD hS hQ eF eM
      refine lv_iload_n hx hb d_Fl_findWaysToNowhere_2 rfl (lv_at hl 0 rfl) ?_
      refine lv_aload_n hx hb d_Fl_findWaysToNowhere_3 rfl (lv_at hl 2 rfl) ?_
      refine x_get E hP eM.1 rfl cl2_in 2 (by decide) wf_Fl_24 rfl d_Fl_findWaysToNowhere_4 ?_
      refine lv_icmp_ge (tgt := 60) hx hb d_Fl_findWaysToNowhere_7 (by decide) (fun c7 => ?_) (fun c7 => ?_)
      · have hi9 : cn ≤ i := (nI_leI (by omega) (by omega)).mp c7
        have e9 : i = cn := by omega
        rw [e9] at eF
        exact x_rv E hr hS ⟨hQ, eF⟩ hP hD d_Fl_findWaysToNowhere_60
      · have hi9 : i < cn := Nat.not_le.mp fun h => c7 (nI_le h (by omega))
        refine lv_iconst (v := 0) hx hb d_Fl_findWaysToNowhere_10 (by decide) ?_
        refine lv_istore_n (lv' := [(3, .int 0), (2, .int (nI i)), (0, .ref h), (1, .ref hm)]) hx hb d_Fl_findWaysToNowhere_11 rfl hl (by decide) rfl (fun ls hl => ?_)
        have loop2 : ∀ (k kk : Nat)  (v : va_W) (H : Heap) (locs : List Loc) (ls : Array Slot), (2 < kk + k) → (kk ≤ 2) → (lv_has ls 4 [(3, .int (nI kk)), (2, .int (nI i)), (0, .ref h), (1, .ref hm)]) → (va_P (xD g) vwCl v H) → (va_D (xA b0) v) → (va_S (xA b0) s.heap H locs) → (xQ q (q + 5) ws v) → (xFs g v q h o r (it (fl_w2 M ix cn i) kk (it (fl_w1 M ix cn) i f0))) → (xMach g v qm hm om dm rm M ix cn) → W p l e (rmL 2) s m ([.ref h, .ref hm] : List Value).toArray below meth c H locs 0 0 (MQ below (va_Qv (fun u => xQ q (q + 5) ws u ∧ xFs g u q h o r (it (fl_w1 M ix cn) cn f0)) (fun u t => va_P (xD g) vwCl u t.heap ∧ va_D (xA b0) u) (xA b0)) ([.ref h, .ref hm] : List Value).toArray s 0 0 (xA b0)) (F0 m 12 ls []) := by
          intro k
          induction k with
          | zero =>
            intro kk v H locs ls hk hkk hl hP hD hS hQ eF eM
            omega
          | succ k ih2 =>
            intro kk v H locs ls hk hkk hl hP hD hS hQ eF eM
            have hb1 := it_le (c := 2) (fl_w1_le (M := M) (ix := ix) (n := cn)) i f0
            have hb2 := it_le (c := 1) (fl_w2_le (M := M) (ix := ix) (n := cn) (i := i)) kk (it (fl_w1 M ix cn) i f0)
            have eV : it (fl_w2 M ix cn i) (kk + 1) (it (fl_w1 M ix cn) i f0) = fl_w2 M ix cn i kk (it (fl_w2 M ix cn i) kk (it (fl_w1 M ix cn) i f0)) := rfl
            generalize eV0 : it (fl_w2 M ix cn i) kk (it (fl_w1 M ix cn) i f0) = V at eF eV hb2
            refine lv_iload_n hx hb d_Fl_findWaysToNowhere_12 rfl (lv_at hl 0 rfl) ?_
            refine lv_iconst (v := 2) hx hb d_Fl_findWaysToNowhere_13 (by decide) ?_
            refine lv_icmp_ge (tgt := 54) hx hb d_Fl_findWaysToNowhere_14 (by decide) (fun c14 => ?_) (fun c14 => ?_)
            · have hj9 : 2 ≤ kk := (nI_leI (a := 2) (by decide) (by omega)).mp c14
              refine lv_iinc (v := nI (i + 1)) (lv' := [(2, .int (nI (i + 1))), (3, .int (nI kk)), (0, .ref h), (1, .ref hm)]) hx hb d_Fl_findWaysToNowhere_54 hl (k := 1) rfl (nI_1 i) (by decide) rfl (fun ls hl => ?_)
              refine lv_goto (tgt := 2) hx hb d_Fl_findWaysToNowhere_57 (by decide) ?_
              have e2 : kk = 2 := by omega
              subst e2
              rw [← eV0] at eF
              have eF : xFs g _ q h o r (it (fl_w1 M ix cn) (i + 1) f0) := eF
              exact ih (i + 1) _ _ _ _ (by omega) (by omega) (lv_sub hl [0, 2, 3] rfl) hP hD hS hQ eF eM
            · have hj9 : kk < 2 := Nat.not_le.mp fun h => c14 (nI_le (a := 2) h (by omega))
              refine lv_aload_n hx hb d_Fl_findWaysToNowhere_17 rfl (lv_at hl 3 rfl) ?_
              refine lv_iload_n hx hb d_Fl_findWaysToNowhere_18 rfl (lv_at hl 1 rfl) ?_
              refine lv_iload_n hx hb d_Fl_findWaysToNowhere_19 rfl (lv_at hl 0 rfl) ?_
              refine x_cRi (As := [.int (nI i), .int (nI kk)]) (rest := []) E (c_Mc_hasWay l g b0 _ eM hcn (nI i) (nI kk)) wy_Mc_hasWay wl_Fl_39 hP hD hS eM.1 rfl hl.1 ⟨by decide, by decide⟩ ⟨Nat.le_refl _, Nat.le_refl _⟩ rfl (Nat.le_of_ble_eq_true rfl) d_Fl_findWaysToNowhere_20 (fun r20 hr20 => ?_)
              subst hr20
              refine lv_if_eq (tgt := 48) hx hb d_Fl_findWaysToNowhere_23 (by decide) (fun c23 => ?_) (fun c23 => ?_)
              · refine lv_iinc (v := nI (kk + 1)) (lv' := [(3, .int (nI (kk + 1))), (2, .int (nI i)), (0, .ref h), (1, .ref hm)]) hx hb d_Fl_findWaysToNowhere_48 hl (k := 0) rfl (nI_1 kk) (by decide) rfl (fun ls hl => ?_)
                refine lv_goto (tgt := 12) hx hb d_Fl_findWaysToNowhere_51 (by decide) ?_
                rw [fl_w2, if_pos c23] at eV
                rw [← eV] at eF
                exact ih2 (kk + 1) _ _ _ _ (by omega) (by omega) hl hP hD hS hQ eF eM
              · refine lv_aload_n hx hb d_Fl_findWaysToNowhere_26 rfl (lv_at hl 3 rfl) ?_
                refine lv_iload_n hx hb d_Fl_findWaysToNowhere_27 rfl (lv_at hl 1 rfl) ?_
                refine lv_iload_n hx hb d_Fl_findWaysToNowhere_28 rfl (lv_at hl 0 rfl) ?_
                refine x_cRi (As := [.int (nI i), .int (nI kk)]) (rest := []) E (c_Mc_goal l g b0 _ eM hcn (nI i) (nI kk)) wy_Mc_goal wl_Fl_43 hP hD hS eM.1 rfl hl.1 ⟨by decide, by decide⟩ ⟨Nat.le_refl _, Nat.le_refl _⟩ rfl (Nat.le_of_ble_eq_true rfl) d_Fl_findWaysToNowhere_29 (fun r29 hr29 => ?_)
                subst hr29
                refine lv_iconst (v := (-1)) hx hb d_Fl_findWaysToNowhere_32 (by decide) ?_
                refine lv_icmp_ne (tgt := 48) hx hb d_Fl_findWaysToNowhere_33 (by decide) (fun c33 => ?_) (fun c33 => ?_)
                · refine lv_iinc (v := nI (kk + 1)) (lv' := [(3, .int (nI (kk + 1))), (2, .int (nI i)), (0, .ref h), (1, .ref hm)]) hx hb d_Fl_findWaysToNowhere_48 hl (k := 0) rfl (nI_1 kk) (by decide) rfl (fun ls hl => ?_)
                  refine lv_goto (tgt := 12) hx hb d_Fl_findWaysToNowhere_51 (by decide) ?_
                  rw [fl_w2, if_neg c23, if_neg c33] at eV
                  rw [← eV] at eF
                  exact ih2 (kk + 1) _ _ _ _ (by omega) (by omega) hl hP hD hS hQ eF eM
                · refine lv_aload_n hx hb d_Fl_findWaysToNowhere_36 rfl (lv_at hl 2 rfl) ?_
                  refine lv_iconst (v := 1) hx hb d_Fl_findWaysToNowhere_37 (by decide) ?_
                  refine lv_aload_n hx hb d_Fl_findWaysToNowhere_38 rfl (lv_at hl 3 rfl) ?_
                  refine lv_iload_n hx hb d_Fl_findWaysToNowhere_39 rfl (lv_at hl 1 rfl) ?_
                  refine lv_iconst (v := 1) hx hb d_Fl_findWaysToNowhere_40 (by decide) ?_
                  refine x_cRi (As := [.int (nI i), .int 1]) (rest := [.int 1, .ref h]) E (c_Mc_value l g b0 _ eM hcn (nI i) 1) wy_Mc_value wl_Fl_31 hP hD hS eM.1 rfl hl.1 ⟨by decide, by decide⟩ ⟨Nat.le_refl _, Nat.le_refl _⟩ rfl (Nat.le_of_ble_eq_true rfl) d_Fl_findWaysToNowhere_41 (fun r41 hr41 => ?_)
                  subst hr41
                  refine lv_iload_n hx hb d_Fl_findWaysToNowhere_44 rfl (lv_at hl 0 rfl) ?_
                  refine x_cVv (As := [.int 1, .int (mc_val M cn (nI i) 1), .int (nI kk)]) (rest := []) E (c_Fl_add l g b0 _ (n := V.2) (F := V.1) eF (by omega) 1 (mc_val M cn (nI i) 1) (nI kk)) wy_Fl_add wl_Fl_35 hP hD hS eF.1 rfl hl.1 ⟨by decide, by decide⟩ ⟨Nat.le_refl _, Nat.le_refl _⟩ rfl (Nat.le_of_ble_eq_true rfl) d_Fl_findWaysToNowhere_45 (fun w104 H locs hr45 hP hD hS => ?_)
                  obtain ⟨hq, eF⟩ := hr45
                  have hQ := hQ.tr hq
                  have eM := eM.keep hq (by omega)
                  refine lv_iinc (v := nI (kk + 1)) (lv' := [(3, .int (nI (kk + 1))), (2, .int (nI i)), (0, .ref h), (1, .ref hm)]) hx hb d_Fl_findWaysToNowhere_48 hl (k := 0) rfl (nI_1 kk) (by decide) rfl (fun ls hl => ?_)
                  refine lv_goto (tgt := 12) hx hb d_Fl_findWaysToNowhere_51 (by decide) ?_
                  rw [fl_w2, if_neg c23, if_pos c33] at eV
                  rw [← eV] at eF
                  exact ih2 (kk + 1) _ _ _ _ (by omega) (by omega) hl hP hD hS hQ eF eM
        have eF : xFs g _ q h o r (it (fl_w2 M ix cn i) 0 (it (fl_w1 M ix cn) i f0)) := eF
        exact loop2 3 0 _ _ _ _ (by omega) (by omega) hl hP hD hS hQ eF eM
  have eF : xFs g _ q h o r (it (fl_w1 M ix cn) 0 f0) := eF
  exact loop (cn + 1) 0 _ _ _ _ (by omega) (by omega) hl hP hD hS hQ eF eM
noncomputable def fl_k2 (M : Nat → Nat → Int32) (ix : Nat → Int32) (n : Nat) (T : Nat → Nat → Int32) (k : Nat) (i : Nat) (f : fl_S) : fl_S := if fl_is k M ix n T (nI i) = 0 then f else fl_add f (nI k) (mc_val M n (nI i) 1) (-1)
noncomputable def fl_k1 (M : Nat → Nat → Int32) (ix : Nat → Int32) (n : Nat) (T : Nat → Nat → Int32) (k : Nat) (f : fl_S) : fl_S := it (fl_k2 M ix n T (k + 2)) n f
noncomputable def fl_all (M : Nat → Nat → Int32) (ix : Nat → Int32) (n : Nat) (T : Nat → Nat → Int32) (F : Nat → Nat → Int32) : fl_S := it (fl_k1 M ix n T) 5 (it (fl_w1 M ix n) n (F, 0))
theorem fl_k2_le {M : Nat → Nat → Int32} {ix : Nat → Int32} {n : Nat} {T : Nat → Nat → Int32} {k : Nat} : ∀ i s, (fl_k2 M ix n T k i s).2 ≤ s.2 + 1 := fun i s => by
  unfold fl_k2
  split
  · omega
  · show s.2 + 1 ≤ s.2 + 1
    exact Nat.le_refl _
theorem fl_k1_le {M : Nat → Nat → Int32} {ix : Nat → Int32} {n : Nat} {T : Nat → Nat → Int32} (hn : n ≤ 24) : ∀ k s, (fl_k1 M ix n T k s).2 ≤ s.2 + 24 := fun k s => by
  have := it_le (c := 1) (fl_k2_le (M := M) (ix := ix) (n := n) (T := T) (k := k + 2)) n s
  unfold fl_k1
  omega
set_option maxRecDepth 100000 in
set_option maxHeartbeats 4000000 in
theorem c_Fl_find (l : Launch) (g : xG) (b0 : Nat) (ws : va_W) {q h o n : Nat} {r : Nat → Nat} {F : Nat → Nat → Int32} (hT : xFlt g ws q h o r F n) {qm hm om dm cn : Nat} {rm : Nat → Nat} {M : Nat → Nat → Int32} {ix : Nat → Int32} (eM : xMach g ws qm hm om dm rm M ix cn) (hcn : cn ≤ 24) {qp hp op : Nat} {rp : Nat → Nat} {T : Nat → Nat → Int32} (eP : xPath g ws qp hp op rp T) (hd : (qm + 9 ≤ q ∨ q + 5 ≤ qm) ∧ (qp + 26 ≤ q ∨ q + 5 ≤ qp)) : xMv l g b0 y_Fl_find b_Fl_find 5 5 [.ref h, .ref hm, .ref hp] ws (fun u => xQ q (q + 5) ws u ∧ xFs g u q h o r (fl_all M ix cn T F)) := by
  unfold xMv
  refine x_in (by decide) (Nat.le_of_ble_eq_true rfl) ?_
  intro p e s m below meth c ls E hr hin hP hD hl
  obtain ⟨hx, hb, hml, hown, hts, hK, hZ, hb0, hlocks⟩ := id E
  have hS : va_S (xA b0) s.heap s.heap [] := va_S.rf
  have hl : lv_has ls 5 [(0, .ref h), (1, .ref hm), (2, .ref hp)] := hl
  obtain ⟨e0, e1, e2⟩ := id hT
  have hQ : xQ q (q + 5) ws ws := xQ.rf
  refine lv_aload_n hx hb d_Fl_find_0 rfl (lv_at hl 0 rfl) ?_
  refine lv_iconst (v := 0) hx hb d_Fl_find_1 (by decide) ?_
  refine x_put E hP hD hS e0 rfl cl5_in cl5_ty cl5_nm 1 (by decide) wf_Fl_16 rfl rfl rfl (Nat.le_of_ble_eq_true rfl) d_Fl_find_2 (fun w1 H locs hU1 hP hD hS => ?_)
  have e0 : w1[q]? = some (h, .inr (5, [.ref o, .int 0])) := hU1.1
  have e1 : w1[q + 1]? = some (o, .inl (cG g, 3, .inr (.inr (.inr (.inr (fun j => some (r j))))))) := (hU1.2 _ (by omega)).trans e1
  have e2 : ∀ j, j < 3 → w1[q + 2 + j]? = some (r j, .inl (cI g, 168, .inl (F j))) := fun j hj => (hU1.2 _ (by omega)).trans (e2 j hj)
  have eM : xMach g w1 qm hm om dm rm M ix cn := ⟨(hU1.2 _ (by omega)).trans eM.1, (hU1.2 _ (by omega)).trans eM.2.1, (hU1.2 _ (by omega)).trans eM.2.2.1, fun j hj => (hU1.2 _ (by omega)).trans (eM.2.2.2 j hj)⟩
  have eP : xPath g w1 qp hp op rp T := ⟨(hU1.2 _ (by omega)).trans eP.1, (hU1.2 _ (by omega)).trans eP.2.1, fun j hj => (hU1.2 _ (by omega)).trans (eP.2.2 j hj)⟩
  have hQ := hQ.up hU1 (by omega)
  refine lv_aload_n hx hb d_Fl_find_5 rfl (lv_at hl 0 rfl) ?_
  refine lv_aload_n hx hb d_Fl_find_6 rfl (lv_at hl 1 rfl) ?_
  refine x_cVv (As := [.ref hm]) (rest := []) E (c_Fl_findWaysToNowhere l g b0 _ (f0 := (F, 0)) ⟨e0, e1, e2⟩ rfl eM hcn hd.1) wy_Fl_findWaysToNowhere wl_Fl_20 hP hD hS e0 rfl hl.1 ⟨by decide, by decide⟩ ⟨Nat.le_refl _, Nat.le_refl _⟩ rfl (Nat.le_of_ble_eq_true rfl) d_Fl_find_7 (fun w2 H locs hr7 hP hD hS => ?_)
  obtain ⟨hq, eF⟩ := hr7
  have hQ := hQ.tr hq
  have eM := eM.keep hq (by omega)
  have eP := eP.keep hq (by omega)
  refine lv_iconst (v := 2) hx hb d_Fl_find_10 (by decide) ?_
  refine lv_istore_n (lv' := [(3, .int 2), (0, .ref h), (1, .ref hm), (2, .ref hp)]) hx hb d_Fl_find_11 rfl hl (by decide) rfl (fun ls hl => ?_)
  have loop : ∀ (k k1 : Nat)  (w : va_W) (H : Heap) (locs : List Loc) (ls : Array Slot), (5 < k1 + k) → (k1 ≤ 5) → (lv_has ls 5 [(3, .int (nI (k1 + 2))), (0, .ref h), (1, .ref hm), (2, .ref hp)]) → (va_P (xD g) vwCl w H) → (va_D (xA b0) w) → (va_S (xA b0) s.heap H locs) → (xQ q (q + 5) ws w) → (xFs g w q h o r (it (fl_k1 M ix cn T) k1 (it (fl_w1 M ix cn) cn (F, 0)))) → (xMach g w qm hm om dm rm M ix cn) → (xPath g w qp hp op rp T) → W p l e (rmL 5) s m ([.ref h, .ref hm, .ref hp] : List Value).toArray below meth c H locs 0 0 (MQ below (va_Qv (fun u => xQ q (q + 5) ws u ∧ xFs g u q h o r (fl_all M ix cn T F)) (fun u t => va_P (xD g) vwCl u t.heap ∧ va_D (xA b0) u) (xA b0)) ([.ref h, .ref hm, .ref hp] : List Value).toArray s 0 0 (xA b0)) (F0 m 12 ls []) := by
    intro k
    induction k with
    | zero =>
      intro k1 w H locs ls hk hi hl hP hD hS hQ eF eM eP
      omega
    | succ k ih =>
      intro k1 w H locs ls hk hi hl hP hD hS hQ eF eM eP
      refine lv_iload_n hx hb d_Fl_find_12 rfl (lv_at hl 0 rfl) ?_
      refine lv_bipush (v := 6) hx hb d_Fl_find_13 (by decide) ?_
      refine lv_icmp_gt (tgt := 66) hx hb d_Fl_find_15 (by decide) (fun c15 => ?_) (fun c15 => ?_)
      · have hi9 : k1 = 5 := by
          have := (nI_ltI (a := 6) (by decide) (by omega)).mp c15
          omega
        rw [hi9] at eF
        exact x_rv E hr hS ⟨hQ, eF⟩ hP hD d_Fl_find_66
      · have hi9 : k1 < 5 := Nat.not_le.mp fun h => c15 (nI_lt (a := 6) (by omega) (by omega))
        refine lv_iconst (v := 0) hx hb d_Fl_find_18 (by decide) ?_
        refine lv_istore (lv' := [(4, .int 0), (3, .int (nI (k1 + 2))), (0, .ref h), (1, .ref hm), (2, .ref hp)]) hx hb d_Fl_find_19 hl (by decide) rfl (fun ls hl => ?_)
        have loop2 : ∀ (k i : Nat)  (v : va_W) (H : Heap) (locs : List Loc) (ls : Array Slot), (cn < i + k) → (i ≤ cn) → (lv_has ls 5 [(4, .int (nI i)), (3, .int (nI (k1 + 2))), (0, .ref h), (1, .ref hm), (2, .ref hp)]) → (va_P (xD g) vwCl v H) → (va_D (xA b0) v) → (va_S (xA b0) s.heap H locs) → (xQ q (q + 5) ws v) → (xFs g v q h o r (it (fl_k2 M ix cn T (k1 + 2)) i (it (fl_k1 M ix cn T) k1 (it (fl_w1 M ix cn) cn (F, 0))))) → (xMach g v qm hm om dm rm M ix cn) → (xPath g v qp hp op rp T) → W p l e (rmL 5) s m ([.ref h, .ref hm, .ref hp] : List Value).toArray below meth c H locs 0 0 (MQ below (va_Qv (fun u => xQ q (q + 5) ws u ∧ xFs g u q h o r (fl_all M ix cn T F)) (fun u t => va_P (xD g) vwCl u t.heap ∧ va_D (xA b0) u) (xA b0)) ([.ref h, .ref hm, .ref hp] : List Value).toArray s 0 0 (xA b0)) (F0 m 21 ls []) := by
          intro k
          induction k with
          | zero =>
            intro i v H locs ls hk hii hl hP hD hS hQ eF eM eP
            omega
          | succ k ih2 =>
            intro i v H locs ls hk hii hl hP hD hS hQ eF eM eP
            have hb0 := it_le (c := 2) (fl_w1_le (M := M) (ix := ix) (n := cn)) cn (F, 0)
            have hb1 := it_le (c := 24) (fl_k1_le (M := M) (ix := ix) (n := cn) (T := T) hcn) k1 (it (fl_w1 M ix cn) cn (F, 0))
            have hb2 := it_le (c := 1) (fl_k2_le (M := M) (ix := ix) (n := cn) (T := T) (k := k1 + 2)) i (it (fl_k1 M ix cn T) k1 (it (fl_w1 M ix cn) cn (F, 0)))
            have eV : it (fl_k2 M ix cn T (k1 + 2)) (i + 1) (it (fl_k1 M ix cn T) k1 (it (fl_w1 M ix cn) cn (F, 0))) = fl_k2 M ix cn T (k1 + 2) i (it (fl_k2 M ix cn T (k1 + 2)) i (it (fl_k1 M ix cn T) k1 (it (fl_w1 M ix cn) cn (F, 0)))) := rfl
            generalize eV0 : it (fl_k2 M ix cn T (k1 + 2)) i (it (fl_k1 M ix cn T) k1 (it (fl_w1 M ix cn) cn (F, 0))) = V at eF eV hb2
            refine lv_iload hx hb d_Fl_find_21 (lv_at hl 0 rfl) ?_
            refine lv_aload_n hx hb d_Fl_find_23 rfl (lv_at hl 3 rfl) ?_
            refine x_get E hP eM.1 rfl cl2_in 2 (by decide) wf_Fl_24 rfl d_Fl_find_24 ?_
            refine lv_icmp_ge (tgt := 60) hx hb d_Fl_find_27 (by decide) (fun c27 => ?_) (fun c27 => ?_)
            · have hj9 : cn ≤ i := (nI_leI (by omega) (by omega)).mp c27
              refine lv_iinc (v := nI (k1 + 1 + 2)) (lv' := [(3, .int (nI (k1 + 1 + 2))), (4, .int (nI i)), (0, .ref h), (1, .ref hm), (2, .ref hp)]) hx hb d_Fl_find_60 hl (k := 1) rfl ((nI_1 (k1 + 2)).trans (by rw [show k1 + 2 + 1 = k1 + 1 + 2 by omega])) (by decide) rfl (fun ls hl => ?_)
              refine lv_goto (tgt := 12) hx hb d_Fl_find_63 (by decide) ?_
              have e2 : i = cn := by omega
              rw [← eV0, e2] at eF
              have eF : xFs g _ q h o r (it (fl_k1 M ix cn T) (k1 + 1) (it (fl_w1 M ix cn) cn (F, 0))) := eF
              exact ih (k1 + 1) _ _ _ _ (by omega) (by omega) (lv_sub hl [0, 2, 3, 4] rfl) hP hD hS hQ eF eM eP
            · have hj9 : i < cn := Nat.not_le.mp fun h => c27 (nI_le h (by omega))
              refine lv_iload_n hx hb d_Fl_find_30 rfl (lv_at hl 1 rfl) ?_
              refine lv_aload_n hx hb d_Fl_find_31 rfl (lv_at hl 3 rfl) ?_
              refine lv_aload_n hx hb d_Fl_find_32 rfl (lv_at hl 4 rfl) ?_
              refine lv_iload hx hb d_Fl_find_33 (lv_at hl 0 rfl) ?_
              refine x_cSi (As := [.int (nI (k1 + 2)), .ref hm, .ref hp, .int (nI i)]) (rest := []) E (c_Fl_isFaulty l g b0 _ eM hcn eP (nI i) (k1 + 2) (by omega)) wy_Fl_isFaulty wl_Fl_27 hP hD hS hl.1 ⟨by decide, by decide⟩ ⟨Nat.le_refl _, Nat.le_refl _⟩ rfl (Nat.le_of_ble_eq_true rfl) d_Fl_find_35 (fun r35 hr35 => ?_)
              subst hr35
              refine lv_if_eq (tgt := 54) hx hb d_Fl_find_38 (by decide) (fun c38 => ?_) (fun c38 => ?_)
              · refine lv_iinc (v := nI (i + 1)) (lv' := [(4, .int (nI (i + 1))), (3, .int (nI (k1 + 2))), (0, .ref h), (1, .ref hm), (2, .ref hp)]) hx hb d_Fl_find_54 hl (k := 0) rfl (nI_1 i) (by decide) rfl (fun ls hl => ?_)
                refine lv_goto (tgt := 21) hx hb d_Fl_find_57 (by decide) ?_
                rw [fl_k2, if_pos c38] at eV
                rw [← eV] at eF
                exact ih2 (i + 1) _ _ _ _ (by omega) (by omega) hl hP hD hS hQ eF eM eP
              · refine lv_aload_n hx hb d_Fl_find_41 rfl (lv_at hl 2 rfl) ?_
                refine lv_iload_n hx hb d_Fl_find_42 rfl (lv_at hl 1 rfl) ?_
                refine lv_aload_n hx hb d_Fl_find_43 rfl (lv_at hl 3 rfl) ?_
                refine lv_iload hx hb d_Fl_find_44 (lv_at hl 0 rfl) ?_
                refine lv_iconst (v := 1) hx hb d_Fl_find_46 (by decide) ?_
                refine x_cRi (As := [.int (nI i), .int 1]) (rest := [.int (nI (k1 + 2)), .ref h]) E (c_Mc_value l g b0 _ eM hcn (nI i) 1) wy_Mc_value wl_Fl_31 hP hD hS eM.1 rfl hl.1 ⟨by decide, by decide⟩ ⟨Nat.le_refl _, Nat.le_refl _⟩ rfl (Nat.le_of_ble_eq_true rfl) d_Fl_find_47 (fun r47 hr47 => ?_)
                subst hr47
                refine lv_iconst (v := (-1)) hx hb d_Fl_find_50 (by decide) ?_
                refine x_cVv (As := [.int (nI (k1 + 2)), .int (mc_val M cn (nI i) 1), .int (-1)]) (rest := []) E (c_Fl_add l g b0 _ (n := V.2) (F := V.1) eF (by omega) (nI (k1 + 2)) (mc_val M cn (nI i) 1) (-1)) wy_Fl_add wl_Fl_35 hP hD hS eF.1 rfl hl.1 ⟨by decide, by decide⟩ ⟨Nat.le_refl _, Nat.le_refl _⟩ rfl (Nat.le_of_ble_eq_true rfl) d_Fl_find_51 (fun w104 H locs hr51 hP hD hS => ?_)
                obtain ⟨hq, eF⟩ := hr51
                have hQ := hQ.tr hq
                have eM := eM.keep hq (by omega)
                have eP := eP.keep hq (by omega)
                refine lv_iinc (v := nI (i + 1)) (lv' := [(4, .int (nI (i + 1))), (3, .int (nI (k1 + 2))), (0, .ref h), (1, .ref hm), (2, .ref hp)]) hx hb d_Fl_find_54 hl (k := 0) rfl (nI_1 i) (by decide) rfl (fun ls hl => ?_)
                refine lv_goto (tgt := 21) hx hb d_Fl_find_57 (by decide) ?_
                rw [fl_k2, if_neg c38] at eV
                rw [← eV] at eF
                exact ih2 (i + 1) _ _ _ _ (by omega) (by omega) hl hP hD hS hQ eF eM eP
        have eF : xFs g _ q h o r (it (fl_k2 M ix cn T (k1 + 2)) 0 (it (fl_k1 M ix cn T) k1 (it (fl_w1 M ix cn) cn (F, 0)))) := eF
        exact loop2 (cn + 1) 0 _ _ _ _ (by omega) (by omega) hl hP hD hS hQ eF eM eP
  have eF : xFs g _ q h o r (it (fl_k1 M ix cn T) 0 (it (fl_w1 M ix cn) cn (F, 0))) := eF
  exact loop 6 0 _ _ _ _ (by omega) (by omega) hl hP hD hS hQ eF eM eP
end
section
/-- the parser's state: its place; the machine that it fills: columns, names, count -/
abbrev ps_S : Type := Nat × (Nat → Nat → Int32) × (Nat → Int32) × Nat
def xPz (g : xG) (ws : va_W) (qp qt qm hp ht ta : Nat) (f : Nat → Int32) (n hm om dm : Nat) (rm : Nat → Nat) (z : ps_S) : Prop := ws[qp]? = some (hp, .inr (3, [.ref ht, .int (nI z.1)])) ∧ xText g ws qt ht ta f n ∧ xMach g ws qm hm om dm rm z.2.1 z.2.2.1 z.2.2.2
/-- apart: the parser's cell, its text, the machine -/
def xAp (qp qt qm : Nat) : Prop := (qt + 2 ≤ qm ∨ qm + 9 ≤ qt) ∧ (qp < qt ∨ qt + 2 ≤ qp) ∧ (qp < qm ∨ qm + 9 ≤ qp)
/-- only the parser's cell and the machine's have changed -/
def xQ2 (qp qm : Nat) (ws w1 : va_W) : Prop := ∀ k, k ≠ qp → (k < qm ∨ qm + 9 ≤ k) → w1[k]? = ws[k]?
theorem xQ2.rf {qp qm : Nat} {ws : va_W} : xQ2 qp qm ws ws := fun _ _ _ => rfl
theorem xQ2.tr {qp qm : Nat} {w0 w1 w2 : va_W} (h : xQ2 qp qm w0 w1) (h2 : xQ2 qp qm w1 w2) : xQ2 qp qm w0 w2 := fun k a b => (h2 k a b).trans (h k a b)
theorem xQ2.up {qp qm : Nat} {w0 w1 w2 : va_W} {x : Nat × va_E} (h : xQ2 qp qm w0 w1) (h2 : xU w1 qp x w2) : xQ2 qp qm w0 w2 := fun k a b => (h2.2 k a).trans (h k a b)
theorem xQ2.mc {qp qm : Nat} {w0 w1 w2 : va_W} (h : xQ2 qp qm w0 w1) (h2 : xQ qm (qm + 9) w1 w2) : xQ2 qp qm w0 w2 := fun k a b => (h2 k b).trans (h k a b)
section XPZ
variable {g : xG} {ws w1 : va_W} {qp qt qm hp ht ta n hm om dm : Nat} {f : Nat → Int32} {rm : Nat → Nat} {z : ps_S}
theorem xPz.pl (h : xPz g ws qp qt qm hp ht ta f n hm om dm rm z) (hd : xAp qp qt qm) {p' : Nat} (hU : xU ws qp (hp, .inr (3, [.ref ht, .int (nI p')])) w1) : xPz g w1 qp qt qm hp ht ta f n hm om dm rm (p', z.2) := by
  obtain ⟨h0, h1, h2⟩ := h
  obtain ⟨d1, d2, d3⟩ := hd
  exact ⟨hU.1, ⟨(hU.2 _ (by omega)).trans h1.1, (hU.2 _ (by omega)).trans h1.2⟩, ⟨(hU.2 _ (by omega)).trans h2.1, (hU.2 _ (by omega)).trans h2.2.1, (hU.2 _ (by omega)).trans h2.2.2.1, fun j hj => (hU.2 _ (by omega)).trans (h2.2.2.2 j hj)⟩⟩
theorem xPz.mc (h : xPz g ws qp qt qm hp ht ta f n hm om dm rm z) (hd : xAp qp qt qm) {M : Nat → Nat → Int32} {ix : Nat → Int32} {cn : Nat} (hQ : xQ qm (qm + 9) ws w1) (hM : xMach g w1 qm hm om dm rm M ix cn) : xPz g w1 qp qt qm hp ht ta f n hm om dm rm (z.1, M, ix, cn) := by
  obtain ⟨h0, h1, h2⟩ := h
  obtain ⟨d1, d2, d3⟩ := hd
  exact ⟨(hQ _ (by omega)).trans h0, h1.keep hQ (by omega), hM⟩
end XPZ
def ps_isd (c : Int32) : Int32 := if c < 48 then 0 else if 57 < c then 0 else 1
def ps_skip (f : Nat → Int32) (n : Nat) (c : Int32) (z : ps_S) : Int32 × ps_S := if tx_at f n (nI z.1) = c then (1, (z.1 + 1, z.2)) else (0, z)
def ps_dig (f : Nat → Int32) (n : Nat) : Nat → Nat → Int32 → Nat × Int32
  | 0, pl, v => (pl, v)
  | k + 1, pl, v => if ps_isd (tx_at f n (nI pl)) = 0 then (pl, v) else ps_dig f n k (pl + 1) (v * 10 + tx_at f n (nI pl) - 48)
def ps_num (f : Nat → Int32) (n : Nat) (lo hi : Int32) (z : ps_S) : Int32 × ps_S := if (ps_dig f n 4 z.1 0).1 = z.1 then (-1, z) else if (ps_dig f n 4 z.1 0).2 < lo then (-1, z) else if (ps_dig f n 4 z.1 0).2 ≤ hi then ((ps_dig f n 4 z.1 0).2, ((ps_dig f n 4 z.1 0).1, z.2)) else (-1, z)
theorem tx_at_lt {f : Nat → Int32} {n i : Nat} (hi : i < n) (hn : n ≤ 300) : tx_at f n (nI i) = f i := by
  rw [tx_at, if_neg (nI_pos (by omega)), if_neg (nI_ge hi (by omega)), nI_clamp (by omega)]
theorem tx_at_ge {f : Nat → Int32} {n i : Nat} (hi : n ≤ i) (hi2 : i ≤ 300) : tx_at f n (nI i) = -1 := by
  rw [tx_at, if_neg (nI_pos (by omega)), if_pos (nI_le hi (by omega))]
theorem tx_at_ne {f : Nat → Int32} {n i : Nat} (hi : i ≤ n) (hn : n ≤ 300) (h : ¬ tx_at f n (nI i) = -1) : i < n := by
  rcases Nat.lt_or_ge i n with q | q
  · exact q
  · exact absurd (tx_at_ge q (by omega)) h
theorem ps_dig_le {f : Nat → Int32} {n : Nat} (hn : n ≤ 300) : ∀ (k pl : Nat) (v : Int32), pl ≤ n → pl ≤ (ps_dig f n k pl v).1 ∧ (ps_dig f n k pl v).1 ≤ n
  | 0, pl, v, h => ⟨Nat.le_refl _, h⟩
  | k + 1, pl, v, h => by
    unfold ps_dig
    split
    · exact ⟨Nat.le_refl _, h⟩
    · rename_i h1
      have h2 : pl < n := tx_at_ne h hn (fun q => h1 (by rw [q]; decide))
      have h3 := ps_dig_le (f := f) hn k (pl + 1) (v * 10 + tx_at f n (nI pl) - 48) h2
      exact ⟨by omega, h3.2⟩
set_option maxRecDepth 100000 in
set_option maxHeartbeats 4000000 in
theorem c_Ps_isDigit (l : Launch) (g : xG) (b0 : Nat) (ws : va_W) (x : Int32) : xRi l g b0 y_Ps_isDigit b_Ps_isDigit 1 (some .boolean) 0 [.int x] ws (fun r => r = ps_isd x) := by
  unfold xRi
  refine x_in (by decide) (Nat.le_of_ble_eq_true rfl) ?_
  intro p e s m below meth c ls E hr hin hP hD hl
  obtain ⟨hx, hb, hml, hown, hts, hK, hZ, hb0, hlocks⟩ := id E
  have hS : va_S (xA b0) s.heap s.heap [] := va_S.rf
  have hl : lv_has ls 1 [(0, .int x)] := hl
  refine lv_iload_n hx hb d_Ps_isDigit_0 rfl (lv_at hl 0 rfl) ?_
  refine lv_bipush (v := 48) hx hb d_Ps_isDigit_1 (by decide) ?_
  refine lv_icmp_lt (tgt := 16) hx hb d_Ps_isDigit_3 (by decide) (fun c3 => ?_) (fun c3 => ?_)
  · refine lv_iconst (v := 0) hx hb d_Ps_isDigit_16 (by decide) ?_
    exact x_pz E hr rfl (by rw [ps_isd, if_pos c3]) d_Ps_isDigit_17
  · refine lv_iload_n hx hb d_Ps_isDigit_6 rfl (lv_at hl 0 rfl) ?_
    refine lv_bipush (v := 57) hx hb d_Ps_isDigit_7 (by decide) ?_
    refine lv_icmp_gt (tgt := 16) hx hb d_Ps_isDigit_9 (by decide) (fun c9 => ?_) (fun c9 => ?_)
    · refine lv_iconst (v := 0) hx hb d_Ps_isDigit_16 (by decide) ?_
      exact x_pz E hr rfl (by rw [ps_isd, if_neg c3, if_pos c9]) d_Ps_isDigit_17
    · refine lv_iconst (v := 1) hx hb d_Ps_isDigit_12 (by decide) ?_
      refine lv_goto (tgt := 17) hx hb d_Ps_isDigit_13 (by decide) ?_
      exact x_pz E hr rfl (by rw [ps_isd, if_neg c3, if_neg c9]) d_Ps_isDigit_17
def ps_kind (x : Int32) : Int32 := if xL 0 = x then 0 else if xL 1 = x then 1 else if xL 2 = x then 2 else if xL 3 = x then 3 else if xL 4 = x then 4 else -1
set_option maxRecDepth 100000 in
set_option maxHeartbeats 4000000 in
theorem c_Ps_kindOf (l : Launch) (g : xG) (b0 : Nat) (ws : va_W) (x : Int32) : xRi l g b0 y_Ps_kindOf b_Ps_kindOf 2 (some .int) 0 [.int x] ws (fun r => r = ps_kind x) := by
  unfold xRi
  refine x_in (by decide) (Nat.le_of_ble_eq_true rfl) ?_
  intro p e s m below meth c ls E hr hin hP hD hl
  obtain ⟨hx, hb, hml, hown, hts, hK, hZ, hb0, hlocks⟩ := id E
  have hS : va_S (xA b0) s.heap s.heap [] := va_S.rf
  have hl : lv_has ls 2 [(0, .int x)] := hl
  refine lv_iconst (v := 0) hx hb d_Ps_kindOf_0 (by decide) ?_
  refine lv_istore_n (lv' := [(1, .int 0), (0, .int x)]) hx hb d_Ps_kindOf_1 rfl hl (by decide) rfl (fun ls hl => ?_)
  refine lv_iload_n hx hb d_Ps_kindOf_2 rfl (lv_at hl 0 rfl) ?_
  refine x_gets_L_Ps E hS d_Ps_kindOf_3 ?_
  refine x_len_L E hS d_Ps_kindOf_6 ?_
  refine lv_icmp_ge (tgt := 27) hx hb d_Ps_kindOf_7 (by decide) (fun c7 => absurd c7 (by decide)) (fun c7 => ?_)
  refine x_gets_L_Ps E hS d_Ps_kindOf_10 ?_
  refine lv_iload_n hx hb d_Ps_kindOf_13 rfl (lv_at hl 0 rfl) ?_
  refine x_tab_L E hS rfl (by decide) d_Ps_kindOf_14 ?_
  refine lv_iload_n hx hb d_Ps_kindOf_15 rfl (lv_at hl 1 rfl) ?_
  refine lv_icmp_ne (tgt := 21) hx hb d_Ps_kindOf_16 (by decide) (fun c16 => ?_) (fun c16 => ?_)
  · refine lv_iinc (v := 1) (lv' := [(1, .int 1), (0, .int x)]) hx hb d_Ps_kindOf_21 hl (k := 0) rfl (by decide) (by decide) rfl (fun ls hl => ?_)
    refine lv_goto (tgt := 2) hx hb d_Ps_kindOf_24 (by decide) ?_
    refine lv_iload_n hx hb d_Ps_kindOf_2 rfl (lv_at hl 0 rfl) ?_
    refine x_gets_L_Ps E hS d_Ps_kindOf_3 ?_
    refine x_len_L E hS d_Ps_kindOf_6 ?_
    refine lv_icmp_ge (tgt := 27) hx hb d_Ps_kindOf_7 (by decide) (fun c7_1 => absurd c7_1 (by decide)) (fun c7_1 => ?_)
    refine x_gets_L_Ps E hS d_Ps_kindOf_10 ?_
    refine lv_iload_n hx hb d_Ps_kindOf_13 rfl (lv_at hl 0 rfl) ?_
    refine x_tab_L E hS rfl (by decide) d_Ps_kindOf_14 ?_
    refine lv_iload_n hx hb d_Ps_kindOf_15 rfl (lv_at hl 1 rfl) ?_
    refine lv_icmp_ne (tgt := 21) hx hb d_Ps_kindOf_16 (by decide) (fun c16_2 => ?_) (fun c16_2 => ?_)
    · refine lv_iinc (v := 2) (lv' := [(1, .int 2), (0, .int x)]) hx hb d_Ps_kindOf_21 hl (k := 0) rfl (by decide) (by decide) rfl (fun ls hl => ?_)
      refine lv_goto (tgt := 2) hx hb d_Ps_kindOf_24 (by decide) ?_
      refine lv_iload_n hx hb d_Ps_kindOf_2 rfl (lv_at hl 0 rfl) ?_
      refine x_gets_L_Ps E hS d_Ps_kindOf_3 ?_
      refine x_len_L E hS d_Ps_kindOf_6 ?_
      refine lv_icmp_ge (tgt := 27) hx hb d_Ps_kindOf_7 (by decide) (fun c7_3 => absurd c7_3 (by decide)) (fun c7_3 => ?_)
      refine x_gets_L_Ps E hS d_Ps_kindOf_10 ?_
      refine lv_iload_n hx hb d_Ps_kindOf_13 rfl (lv_at hl 0 rfl) ?_
      refine x_tab_L E hS rfl (by decide) d_Ps_kindOf_14 ?_
      refine lv_iload_n hx hb d_Ps_kindOf_15 rfl (lv_at hl 1 rfl) ?_
      refine lv_icmp_ne (tgt := 21) hx hb d_Ps_kindOf_16 (by decide) (fun c16_4 => ?_) (fun c16_4 => ?_)
      · refine lv_iinc (v := 3) (lv' := [(1, .int 3), (0, .int x)]) hx hb d_Ps_kindOf_21 hl (k := 0) rfl (by decide) (by decide) rfl (fun ls hl => ?_)
        refine lv_goto (tgt := 2) hx hb d_Ps_kindOf_24 (by decide) ?_
        refine lv_iload_n hx hb d_Ps_kindOf_2 rfl (lv_at hl 0 rfl) ?_
        refine x_gets_L_Ps E hS d_Ps_kindOf_3 ?_
        refine x_len_L E hS d_Ps_kindOf_6 ?_
        refine lv_icmp_ge (tgt := 27) hx hb d_Ps_kindOf_7 (by decide) (fun c7_5 => absurd c7_5 (by decide)) (fun c7_5 => ?_)
        refine x_gets_L_Ps E hS d_Ps_kindOf_10 ?_
        refine lv_iload_n hx hb d_Ps_kindOf_13 rfl (lv_at hl 0 rfl) ?_
        refine x_tab_L E hS rfl (by decide) d_Ps_kindOf_14 ?_
        refine lv_iload_n hx hb d_Ps_kindOf_15 rfl (lv_at hl 1 rfl) ?_
        refine lv_icmp_ne (tgt := 21) hx hb d_Ps_kindOf_16 (by decide) (fun c16_6 => ?_) (fun c16_6 => ?_)
        · refine lv_iinc (v := 4) (lv' := [(1, .int 4), (0, .int x)]) hx hb d_Ps_kindOf_21 hl (k := 0) rfl (by decide) (by decide) rfl (fun ls hl => ?_)
          refine lv_goto (tgt := 2) hx hb d_Ps_kindOf_24 (by decide) ?_
          refine lv_iload_n hx hb d_Ps_kindOf_2 rfl (lv_at hl 0 rfl) ?_
          refine x_gets_L_Ps E hS d_Ps_kindOf_3 ?_
          refine x_len_L E hS d_Ps_kindOf_6 ?_
          refine lv_icmp_ge (tgt := 27) hx hb d_Ps_kindOf_7 (by decide) (fun c7_7 => absurd c7_7 (by decide)) (fun c7_7 => ?_)
          refine x_gets_L_Ps E hS d_Ps_kindOf_10 ?_
          refine lv_iload_n hx hb d_Ps_kindOf_13 rfl (lv_at hl 0 rfl) ?_
          refine x_tab_L E hS rfl (by decide) d_Ps_kindOf_14 ?_
          refine lv_iload_n hx hb d_Ps_kindOf_15 rfl (lv_at hl 1 rfl) ?_
          refine lv_icmp_ne (tgt := 21) hx hb d_Ps_kindOf_16 (by decide) (fun c16_8 => ?_) (fun c16_8 => ?_)
          · refine lv_iinc (v := 5) (lv' := [(1, .int 5), (0, .int x)]) hx hb d_Ps_kindOf_21 hl (k := 0) rfl (by decide) (by decide) rfl (fun ls hl => ?_)
            refine lv_goto (tgt := 2) hx hb d_Ps_kindOf_24 (by decide) ?_
            refine lv_iload_n hx hb d_Ps_kindOf_2 rfl (lv_at hl 0 rfl) ?_
            refine x_gets_L_Ps E hS d_Ps_kindOf_3 ?_
            refine x_len_L E hS d_Ps_kindOf_6 ?_
            refine lv_icmp_ge (tgt := 27) hx hb d_Ps_kindOf_7 (by decide) (fun c7_9 => ?_) (fun c7_9 => absurd (by decide) c7_9)
            refine lv_iconst (v := (-1)) hx hb d_Ps_kindOf_27 (by decide) ?_
            exact x_pi E hr (by rw [ps_kind, if_neg c16, if_neg c16_2, if_neg c16_4, if_neg c16_6, if_neg c16_8]) d_Ps_kindOf_28
          · refine lv_iload_n hx hb d_Ps_kindOf_19 rfl (lv_at hl 0 rfl) ?_
            exact x_pi E hr (by rw [ps_kind, if_neg c16, if_neg c16_2, if_neg c16_4, if_neg c16_6, if_pos c16_8]) d_Ps_kindOf_20
        · refine lv_iload_n hx hb d_Ps_kindOf_19 rfl (lv_at hl 0 rfl) ?_
          exact x_pi E hr (by rw [ps_kind, if_neg c16, if_neg c16_2, if_neg c16_4, if_pos c16_6]) d_Ps_kindOf_20
      · refine lv_iload_n hx hb d_Ps_kindOf_19 rfl (lv_at hl 0 rfl) ?_
        exact x_pi E hr (by rw [ps_kind, if_neg c16, if_neg c16_2, if_pos c16_4]) d_Ps_kindOf_20
    · refine lv_iload_n hx hb d_Ps_kindOf_19 rfl (lv_at hl 0 rfl) ?_
      exact x_pi E hr (by rw [ps_kind, if_neg c16, if_pos c16_2]) d_Ps_kindOf_20
  · refine lv_iload_n hx hb d_Ps_kindOf_19 rfl (lv_at hl 0 rfl) ?_
    exact x_pi E hr (by rw [ps_kind, if_pos c16]) d_Ps_kindOf_20
set_option maxRecDepth 100000 in
set_option maxHeartbeats 4000000 in
theorem c_Ps_skip (l : Launch) (g : xG) (b0 : Nat) (ws : va_W) {qp qt qm hp ht ta n hm om dm : Nat} {f : Nat → Int32} {rm : Nat → Nat} (hd : xAp qp qt qm) (hn : n ≤ 300) {z : ps_S} (eZ : xPz g ws qp qt qm hp ht ta f n hm om dm rm z) (hpl : z.1 ≤ n) (hcn : z.2.2.2 ≤ 24) (x : Int32) (hx1 : ¬ x = -1) : xMi l g b0 y_Ps_skip b_Ps_skip 2 (some .boolean) 1 [.ref hp, .int x] ws (fun r u => r = (ps_skip f n x z).1 ∧ xQ2 qp qm ws u ∧ xPz g u qp qt qm hp ht ta f n hm om dm rm ((ps_skip f n x z).2) ∧ (ps_skip f n x z).2.1 ≤ n ∧ (ps_skip f n x z).2.2.2.2 ≤ 24) := by
  unfold xMi
  refine x_in (by decide) (Nat.le_of_ble_eq_true rfl) ?_
  intro p e s m below meth c ls E hr hin hP hD hl
  obtain ⟨hx, hb, hml, hown, hts, hK, hZ, hb0, hlocks⟩ := id E
  have hS : va_S (xA b0) s.heap s.heap [] := va_S.rf
  have hl : lv_has ls 2 [(0, .ref hp), (1, .int x)] := hl
  have hQ : xQ2 qp qm ws ws := xQ2.rf
  refine lv_aload_n hx hb d_Ps_skip_0 rfl (lv_at hl 0 rfl) ?_
  refine x_get E hP eZ.1 rfl cl3_in 0 (by decide) wf_Ps_9 rfl d_Ps_skip_1 ?_
  refine lv_aload_n hx hb d_Ps_skip_4 rfl (lv_at hl 0 rfl) ?_
  refine x_get E hP eZ.1 rfl cl3_in 1 (by decide) wf_Ps_15 rfl d_Ps_skip_5 ?_
  refine x_cRi (As := [.int (nI z.1)]) (rest := []) E (c_Tx_characterAt l g b0 _ eZ.2.1 hn (nI z.1)) wy_Tx_characterAt wl_Ps_33 hP hD hS eZ.2.1.1 rfl hl.1 ⟨by decide, by decide⟩ ⟨Nat.le_refl _, Nat.le_refl _⟩ rfl (Nat.le_of_ble_eq_true rfl) d_Ps_skip_8 (fun r8 hr8 => ?_)
  subst hr8
  refine lv_iload_n hx hb d_Ps_skip_11 rfl (lv_at hl 1 rfl) ?_
  refine lv_icmp_eq (tgt := 17) hx hb d_Ps_skip_12 (by decide) (fun c12 => ?_) (fun c12 => ?_)
  · refine lv_aload_n hx hb d_Ps_skip_17 rfl (lv_at hl 0 rfl) ?_
    refine lv_dup hx hb d_Ps_skip_18 rfl ?_
    refine x_get E hP eZ.1 rfl cl3_in 1 (by decide) wf_Ps_15 rfl d_Ps_skip_19 ?_
    refine lv_iconst (v := 1) hx hb d_Ps_skip_22 (by decide) ?_
    refine lv_iadd hx hb d_Ps_skip_23 ?_
    refine x_top (y := nI (z.1 + 1)) (nI_1 z.1) ?_
    refine x_put E hP hD hS eZ.1 rfl cl3_in cl3_ty cl3_nm 1 (by decide) wf_Ps_15 rfl rfl rfl (Nat.le_of_ble_eq_true rfl) d_Ps_skip_24 (fun w2 H locs hU2 hP hD hS => ?_)
    have hQ := hQ.up hU2
    have eZ := eZ.pl hd (p' := z.1 + 1) hU2
    refine lv_iconst (v := 1) hx hb d_Ps_skip_27 (by decide) ?_
    exact x_rz E hr hS rfl (by rw [ps_skip, if_pos c12]; exact ⟨rfl, hQ, eZ, tx_at_ne hpl hn (fun q => hx1 (c12.symm.trans q)), hcn⟩) hP hD d_Ps_skip_28
  · refine lv_iconst (v := 0) hx hb d_Ps_skip_15 (by decide) ?_
    exact x_rz E hr hS rfl (by rw [ps_skip, if_neg c12]; exact ⟨rfl, hQ, eZ, hpl, hcn⟩) hP hD d_Ps_skip_16
set_option maxRecDepth 100000 in
set_option maxHeartbeats 4000000 in
theorem c_Ps_readNumber (l : Launch) (g : xG) (b0 : Nat) (ws : va_W) {qp qt qm hp ht ta n hm om dm : Nat} {f : Nat → Int32} {rm : Nat → Nat} (hd : xAp qp qt qm) (hn : n ≤ 300) {z : ps_S} (eZ : xPz g ws qp qt qm hp ht ta f n hm om dm rm z) (hpl : z.1 ≤ n) (hcn : z.2.2.2 ≤ 24) (lo hi : Int32) : xMi l g b0 y_Ps_readNumber b_Ps_readNumber 6 (some .int) 1 [.ref hp, .int lo, .int hi] ws (fun r u => r = (ps_num f n lo hi z).1 ∧ xQ2 qp qm ws u ∧ xPz g u qp qt qm hp ht ta f n hm om dm rm ((ps_num f n lo hi z).2) ∧ (ps_num f n lo hi z).2.1 ≤ n ∧ (ps_num f n lo hi z).2.2.2.2 ≤ 24) := by
  unfold xMi
  refine x_in (by decide) (Nat.le_of_ble_eq_true rfl) ?_
  intro p e s m below meth c ls E hr hin hP hD hl
  obtain ⟨hx, hb, hml, hown, hts, hK, hZ, hb0, hlocks⟩ := id E
  have hS : va_S (xA b0) s.heap s.heap [] := va_S.rf
  have hl : lv_has ls 6 [(0, .ref hp), (1, .int lo), (2, .int hi)] := hl
  have hQ : xQ2 qp qm ws ws := xQ2.rf
  refine lv_aload_n hx hb d_Ps_readNumber_0 rfl (lv_at hl 0 rfl) ?_
  refine x_get E hP eZ.1 rfl cl3_in 1 (by decide) wf_Ps_15 rfl d_Ps_readNumber_1 ?_
  refine lv_istore_n (lv' := [(3, .int (nI z.1)), (0, .ref hp), (1, .int lo), (2, .int hi)]) hx hb d_Ps_readNumber_4 rfl hl (by decide) rfl (fun ls hl => ?_)
  refine lv_iconst (v := 0) hx hb d_Ps_readNumber_5 (by decide) ?_
  refine lv_istore (lv' := [(4, .int 0), (3, .int (nI z.1)), (0, .ref hp), (1, .int lo), (2, .int hi)]) hx hb d_Ps_readNumber_6 hl (by decide) rfl (fun ls hl => ?_)
  refine lv_iconst (v := 0) hx hb d_Ps_readNumber_8 (by decide) ?_
  refine lv_istore (lv' := [(5, .int 0), (4, .int 0), (3, .int (nI z.1)), (0, .ref hp), (1, .int lo), (2, .int hi)]) hx hb d_Ps_readNumber_9 hl (by decide) rfl (fun ls hl => ?_)
  have loop : ∀ (k i : Nat) (pl : Nat) (v : Int32) (w : va_W) (H : Heap) (locs : List Loc) (ls : Array Slot), (4 < i + k) → (i ≤ 4) → (pl ≤ n) → (ps_dig f n 4 z.1 0 = ps_dig f n (4 - i) pl v) → (lv_has ls 6 [(5, .int (nI i)), (4, .int v), (3, .int (nI z.1)), (0, .ref hp), (1, .int lo), (2, .int hi)]) → (va_P (xD g) vwCl w H) → (va_D (xA b0) w) → (va_S (xA b0) s.heap H locs) → (xQ2 qp qm ws w) → (xPz g w qp qt qm hp ht ta f n hm om dm rm (pl, z.2)) → W p l e (rmL 1) s m ([.ref hp, .int lo, .int hi] : List Value).toArray below meth c H locs 0 0 (MQ below (va_Qi (fun r u => r = (ps_num f n lo hi z).1 ∧ xQ2 qp qm ws u ∧ xPz g u qp qt qm hp ht ta f n hm om dm rm ((ps_num f n lo hi z).2) ∧ (ps_num f n lo hi z).2.1 ≤ n ∧ (ps_num f n lo hi z).2.2.2.2 ≤ 24) (fun u t => va_P (xD g) vwCl u t.heap ∧ va_D (xA b0) u) (xA b0)) ([.ref hp, .int lo, .int hi] : List Value).toArray s 0 0 (xA b0)) (F0 m 11 ls []) := by
    intro k
    induction k with
    | zero =>
      intro i pl v w H locs ls hk hi4 hp9 hv hl hP hD hS hQ eZ
      omega
    | succ k ih =>
      intro i pl v w H locs ls hk hi4 hp9 hv hl hP hD hS hQ eZ
      refine lv_iload hx hb d_Ps_readNumber_11 (lv_at hl 0 rfl) ?_
      refine lv_iconst (v := 4) hx hb d_Ps_readNumber_13 (by decide) ?_
      refine lv_icmp_ge (tgt := 72) hx hb d_Ps_readNumber_14 (by decide) (fun c14 => ?_) (fun c14 => ?_)
      · have hi9 : i = 4 := by
          have := (nI_leI (a := 4) (by decide) (by omega)).mp c14
          omega
        rw [hi9] at hv
        have hv : ps_dig f n 4 z.1 0 = (pl, v) := hv
        refine lv_aload_n hx hb d_Ps_readNumber_72 rfl (lv_at hl 3 rfl) ?_
        refine x_get E hP eZ.1 rfl cl3_in 1 (by decide) wf_Ps_15 rfl d_Ps_readNumber_73 ?_
        refine lv_iload_n hx hb d_Ps_readNumber_76 rfl (lv_at hl 2 rfl) ?_
        refine lv_icmp_ne (tgt := 82) hx hb d_Ps_readNumber_77 (by decide) (fun c77 => ?_) (fun c77 => ?_)
        · have e9 : ¬ pl = z.1 := fun h => c77 (by rw [h])
          refine lv_iload hx hb d_Ps_readNumber_82 (lv_at hl 1 rfl) ?_
          refine lv_iload_n hx hb d_Ps_readNumber_84 rfl (lv_at hl 4 rfl) ?_
          refine lv_icmp_lt (tgt := 94) hx hb d_Ps_readNumber_85 (by decide) (fun c85 => ?_) (fun c85 => ?_)
          · refine lv_aload_n hx hb d_Ps_readNumber_94 rfl (lv_at hl 3 rfl) ?_
            refine lv_iload_n hx hb d_Ps_readNumber_95 rfl (lv_at hl 2 rfl) ?_
            refine x_put E hP hD hS eZ.1 rfl cl3_in cl3_ty cl3_nm 1 (by decide) wf_Ps_15 rfl rfl rfl (Nat.le_of_ble_eq_true rfl) d_Ps_readNumber_96 (fun w51 H locs hU51 hP hD hS => ?_)
            have hQ := hQ.up hU51
            have eZ := eZ.pl hd (p' := z.1) hU51
            refine lv_iconst (v := (-1)) hx hb d_Ps_readNumber_99 (by decide) ?_
            exact x_ri E hr hS (by rw [ps_num, hv, if_neg e9, if_pos c85]; exact ⟨rfl, hQ, eZ, hpl, hcn⟩) hP hD d_Ps_readNumber_100
          · refine lv_iload hx hb d_Ps_readNumber_88 (lv_at hl 1 rfl) ?_
            refine lv_iload_n hx hb d_Ps_readNumber_90 rfl (lv_at hl 5 rfl) ?_
            refine lv_icmp_le (tgt := 101) hx hb d_Ps_readNumber_91 (by decide) (fun c91 => ?_) (fun c91 => ?_)
            · refine lv_iload hx hb d_Ps_readNumber_101 (lv_at hl 1 rfl) ?_
              exact x_ri E hr hS (by rw [ps_num, hv, if_neg e9, if_neg c85, if_pos c91]; exact ⟨rfl, hQ, eZ, hp9, hcn⟩) hP hD d_Ps_readNumber_103
            · refine lv_aload_n hx hb d_Ps_readNumber_94 rfl (lv_at hl 3 rfl) ?_
              refine lv_iload_n hx hb d_Ps_readNumber_95 rfl (lv_at hl 2 rfl) ?_
              refine x_put E hP hD hS eZ.1 rfl cl3_in cl3_ty cl3_nm 1 (by decide) wf_Ps_15 rfl rfl rfl (Nat.le_of_ble_eq_true rfl) d_Ps_readNumber_96 (fun w51 H locs hU51 hP hD hS => ?_)
              have hQ := hQ.up hU51
              have eZ := eZ.pl hd (p' := z.1) hU51
              refine lv_iconst (v := (-1)) hx hb d_Ps_readNumber_99 (by decide) ?_
              exact x_ri E hr hS (by rw [ps_num, hv, if_neg e9, if_neg c85, if_neg c91]; exact ⟨rfl, hQ, eZ, hpl, hcn⟩) hP hD d_Ps_readNumber_100
        · refine lv_iconst (v := (-1)) hx hb d_Ps_readNumber_80 (by decide) ?_
          have e9 : pl = z.1 := (nI_eq (by omega) (by omega)).mp c77
          exact x_ri E hr hS (by rw [ps_num, hv, if_pos e9]; rw [e9] at eZ; exact ⟨rfl, hQ, eZ, hpl, hcn⟩) hP hD d_Ps_readNumber_81
      · have hi9 : i < 4 := Nat.not_le.mp fun h => c14 (nI_le (a := 4) h (by omega))
        rw [show 4 - i = (4 - (i + 1)) + 1 by omega] at hv
        refine lv_aload_n hx hb d_Ps_readNumber_17 rfl (lv_at hl 3 rfl) ?_
        refine x_get E hP eZ.1 rfl cl3_in 0 (by decide) wf_Ps_9 rfl d_Ps_readNumber_18 ?_
        refine lv_aload_n hx hb d_Ps_readNumber_21 rfl (lv_at hl 3 rfl) ?_
        refine x_get E hP eZ.1 rfl cl3_in 1 (by decide) wf_Ps_15 rfl d_Ps_readNumber_22 ?_
        refine x_cRi (As := [.int (nI (pl, z.2).1)]) (rest := []) E (c_Tx_characterAt l g b0 _ eZ.2.1 hn (nI (pl, z.2).1)) wy_Tx_characterAt wl_Ps_33 hP hD hS eZ.2.1.1 rfl hl.1 ⟨by decide, by decide⟩ ⟨Nat.le_refl _, Nat.le_refl _⟩ rfl (Nat.le_of_ble_eq_true rfl) d_Ps_readNumber_25 (fun r25 hr25 => ?_)
        subst hr25
        refine x_cSi (As := [.int (tx_at f n (nI (pl, z.2).1))]) (rest := []) E (c_Ps_isDigit l g b0 _ (tx_at f n (nI pl))) wy_Ps_isDigit wl_Ps_73 hP hD hS hl.1 ⟨by decide, by decide⟩ ⟨Nat.le_refl _, Nat.le_refl _⟩ rfl (Nat.le_of_ble_eq_true rfl) d_Ps_readNumber_28 (fun r28 hr28 => ?_)
        subst hr28
        refine lv_if_eq (tgt := 72) hx hb d_Ps_readNumber_31 (by decide) (fun c31 => ?_) (fun c31 => ?_)
        · have hv : ps_dig f n 4 z.1 0 = (pl, v) := by rw [hv, ps_dig, if_pos c31]
          refine lv_aload_n hx hb d_Ps_readNumber_72 rfl (lv_at hl 3 rfl) ?_
          refine x_get E hP eZ.1 rfl cl3_in 1 (by decide) wf_Ps_15 rfl d_Ps_readNumber_73 ?_
          refine lv_iload_n hx hb d_Ps_readNumber_76 rfl (lv_at hl 2 rfl) ?_
          refine lv_icmp_ne (tgt := 82) hx hb d_Ps_readNumber_77 (by decide) (fun c77 => ?_) (fun c77 => ?_)
          · have e9 : ¬ pl = z.1 := fun h => c77 (by rw [h])
            refine lv_iload hx hb d_Ps_readNumber_82 (lv_at hl 1 rfl) ?_
            refine lv_iload_n hx hb d_Ps_readNumber_84 rfl (lv_at hl 4 rfl) ?_
            refine lv_icmp_lt (tgt := 94) hx hb d_Ps_readNumber_85 (by decide) (fun c85 => ?_) (fun c85 => ?_)
            · refine lv_aload_n hx hb d_Ps_readNumber_94 rfl (lv_at hl 3 rfl) ?_
              refine lv_iload_n hx hb d_Ps_readNumber_95 rfl (lv_at hl 2 rfl) ?_
              refine x_put E hP hD hS eZ.1 rfl cl3_in cl3_ty cl3_nm 1 (by decide) wf_Ps_15 rfl rfl rfl (Nat.le_of_ble_eq_true rfl) d_Ps_readNumber_96 (fun w52 H locs hU52 hP hD hS => ?_)
              have hQ := hQ.up hU52
              have eZ := eZ.pl hd (p' := z.1) hU52
              refine lv_iconst (v := (-1)) hx hb d_Ps_readNumber_99 (by decide) ?_
              exact x_ri E hr hS (by rw [ps_num, hv, if_neg e9, if_pos c85]; exact ⟨rfl, hQ, eZ, hpl, hcn⟩) hP hD d_Ps_readNumber_100
            · refine lv_iload hx hb d_Ps_readNumber_88 (lv_at hl 1 rfl) ?_
              refine lv_iload_n hx hb d_Ps_readNumber_90 rfl (lv_at hl 5 rfl) ?_
              refine lv_icmp_le (tgt := 101) hx hb d_Ps_readNumber_91 (by decide) (fun c91 => ?_) (fun c91 => ?_)
              · refine lv_iload hx hb d_Ps_readNumber_101 (lv_at hl 1 rfl) ?_
                exact x_ri E hr hS (by rw [ps_num, hv, if_neg e9, if_neg c85, if_pos c91]; exact ⟨rfl, hQ, eZ, hp9, hcn⟩) hP hD d_Ps_readNumber_103
              · refine lv_aload_n hx hb d_Ps_readNumber_94 rfl (lv_at hl 3 rfl) ?_
                refine lv_iload_n hx hb d_Ps_readNumber_95 rfl (lv_at hl 2 rfl) ?_
                refine x_put E hP hD hS eZ.1 rfl cl3_in cl3_ty cl3_nm 1 (by decide) wf_Ps_15 rfl rfl rfl (Nat.le_of_ble_eq_true rfl) d_Ps_readNumber_96 (fun w52 H locs hU52 hP hD hS => ?_)
                have hQ := hQ.up hU52
                have eZ := eZ.pl hd (p' := z.1) hU52
                refine lv_iconst (v := (-1)) hx hb d_Ps_readNumber_99 (by decide) ?_
                exact x_ri E hr hS (by rw [ps_num, hv, if_neg e9, if_neg c85, if_neg c91]; exact ⟨rfl, hQ, eZ, hpl, hcn⟩) hP hD d_Ps_readNumber_100
          · refine lv_iconst (v := (-1)) hx hb d_Ps_readNumber_80 (by decide) ?_
            have e9 : pl = z.1 := (nI_eq (by omega) (by omega)).mp c77
            exact x_ri E hr hS (by rw [ps_num, hv, if_pos e9]; rw [e9] at eZ; exact ⟨rfl, hQ, eZ, hpl, hcn⟩) hP hD d_Ps_readNumber_81
        · have hv : ps_dig f n 4 z.1 0 = ps_dig f n (4 - (i + 1)) (pl + 1) (v * 10 + tx_at f n (nI pl) - 48) := by rw [hv, ps_dig, if_neg c31]
          have hp8 : pl < n := tx_at_ne hp9 hn (fun q => c31 (by rw [q]; decide))
          refine lv_iload hx hb d_Ps_readNumber_34 (lv_at hl 1 rfl) ?_
          refine lv_bipush (v := 10) hx hb d_Ps_readNumber_36 (by decide) ?_
          refine lv_imul hx hb d_Ps_readNumber_38 ?_
          refine lv_aload_n hx hb d_Ps_readNumber_39 rfl (lv_at hl 3 rfl) ?_
          refine x_get E hP eZ.1 rfl cl3_in 0 (by decide) wf_Ps_9 rfl d_Ps_readNumber_40 ?_
          refine lv_aload_n hx hb d_Ps_readNumber_43 rfl (lv_at hl 3 rfl) ?_
          refine x_get E hP eZ.1 rfl cl3_in 1 (by decide) wf_Ps_15 rfl d_Ps_readNumber_44 ?_
          refine x_cRi (As := [.int (nI (pl, z.2).1)]) (rest := [.int (v * 10)]) E (c_Tx_characterAt l g b0 _ eZ.2.1 hn (nI (pl, z.2).1)) wy_Tx_characterAt wl_Ps_33 hP hD hS eZ.2.1.1 rfl hl.1 ⟨by decide, by decide⟩ ⟨Nat.le_refl _, Nat.le_refl _⟩ rfl (Nat.le_of_ble_eq_true rfl) d_Ps_readNumber_47 (fun r47 hr47 => ?_)
          subst hr47
          refine lv_iadd hx hb d_Ps_readNumber_50 ?_
          refine lv_bipush (v := 48) hx hb d_Ps_readNumber_51 (by decide) ?_
          refine lv_isub hx hb d_Ps_readNumber_53 ?_
          refine lv_istore (lv' := [(4, .int (((v * 10) + (tx_at f n (nI (pl, z.2).1))) - 48)), (5, .int (nI i)), (3, .int (nI z.1)), (0, .ref hp), (1, .int lo), (2, .int hi)]) hx hb d_Ps_readNumber_54 hl (by decide) rfl (fun ls hl => ?_)
          refine lv_aload_n hx hb d_Ps_readNumber_56 rfl (lv_at hl 3 rfl) ?_
          refine lv_dup hx hb d_Ps_readNumber_57 rfl ?_
          refine x_get E hP eZ.1 rfl cl3_in 1 (by decide) wf_Ps_15 rfl d_Ps_readNumber_58 ?_
          refine lv_iconst (v := 1) hx hb d_Ps_readNumber_61 (by decide) ?_
          refine lv_iadd hx hb d_Ps_readNumber_62 ?_
          refine x_top (y := nI (pl + 1)) (nI_1 pl) ?_
          refine x_put E hP hD hS eZ.1 rfl cl3_in cl3_ty cl3_nm 1 (by decide) wf_Ps_15 rfl rfl rfl (Nat.le_of_ble_eq_true rfl) d_Ps_readNumber_63 (fun w53 H locs hU53 hP hD hS => ?_)
          have hQ := hQ.up hU53
          have eZ := eZ.pl hd (p' := pl + 1) hU53
          refine lv_iinc (v := nI (i + 1)) (lv' := [(5, .int (nI (i + 1))), (4, .int (((v * 10) + (tx_at f n (nI (pl, z.2).1))) - 48)), (3, .int (nI z.1)), (0, .ref hp), (1, .int lo), (2, .int hi)]) hx hb d_Ps_readNumber_66 hl (k := 1) rfl (nI_1 i) (by decide) rfl (fun ls hl => ?_)
          refine lv_goto (tgt := 11) hx hb d_Ps_readNumber_69 (by decide) ?_
          exact ih (i + 1) (pl + 1) (v * 10 + tx_at f n (nI pl) - 48) _ _ _ _ (by omega) (by omega) (by omega) hv hl hP hD hS hQ eZ
  exact loop 5 0 z.1 0 _ _ _ _ (by omega) (by omega) hpl rfl hl hP hD hS hQ eZ
end
section
def ps_set (z : ps_S) (k : Nat) (v : Int32) : ps_S := (z.1, xg_up z.2.1 k (z.2.2.2 - 1) v, z.2.2.1, z.2.2.2)
def ps_val2 (k : Nat) (b : Int32 × ps_S) : Int32 × ps_S := if b.1 = -1 then (0, b.2) else (1, ps_set b.2 k b.1)
def ps_and (a : Int32 × ps_S) (h : ps_S → Int32 × ps_S) : Int32 × ps_S := if a.1 = 0 then (0, a.2) else h a.2
def ps_value (f : Nat → Int32) (n : Nat) (x : Int32) (k : Nat) (lo hi : Int32) (z : ps_S) : Int32 × ps_S := ps_and (ps_skip f n x z) (fun y => ps_val2 k (ps_num f n lo hi y))
def ps_new (z : ps_S) (kd nm : Int32) : ps_S := (z.1, mc_new z.2.1 z.2.2.2 kd nm, upd z.2.2.1 nm.toNatClampNeg (nI z.2.2.2), z.2.2.2 + 1)
def ps_nam2 (kd : Int32) (z : ps_S) (b : Int32 × ps_S) : Int32 × ps_S := if b.1 = -1 then (0, b.2) else if mc_ix b.2.2.2.1 b.1 = -1 then (1, ps_new b.2 kd b.1) else (0, (z.1, b.2.2))
def ps_name (f : Nat → Int32) (n : Nat) (kd : Int32) (z : ps_S) : Int32 × ps_S := ps_nam2 kd z (ps_num f n 0 29 z)
theorem ps_num_in (f : Nat → Int32) (n : Nat) (lo hi : Int32) (z : ps_S) : (ps_num f n lo hi z).1 = -1 ∨ (¬ (ps_num f n lo hi z).1 < lo ∧ (ps_num f n lo hi z).1 ≤ hi) := by
  unfold ps_num
  split
  · exact Or.inl rfl
  · split
    · exact Or.inl rfl
    · split
      · rename_i h1 h2
        exact Or.inr ⟨h1, h2⟩
      · exact Or.inl rfl
theorem ps_num_z (f : Nat → Int32) (n : Nat) (lo hi : Int32) (z : ps_S) : (ps_num f n lo hi z).2.2 = z.2 := by
  unfold ps_num
  split
  · rfl
  · split
    · rfl
    · split <;> rfl
theorem ps_skip_z (f : Nat → Int32) (n : Nat) (x : Int32) (z : ps_S) : (ps_skip f n x z).2.2 = z.2 := by
  unfold ps_skip
  split <;> rfl
theorem ps_skip_01 (f : Nat → Int32) (n : Nat) (x : Int32) (z : ps_S) : (ps_skip f n x z).1 = 0 ∨ (ps_skip f n x z).1 = 1 := by
  unfold ps_skip
  split
  · exact Or.inr rfl
  · exact Or.inl rfl
set_option maxRecDepth 100000 in
set_option maxHeartbeats 4000000 in
theorem c_Ps_readValue (l : Launch) (g : xG) (b0 : Nat) (ws : va_W) {qp qt qm hp ht ta n hm om dm : Nat} {f : Nat → Int32} {rm : Nat → Nat} (hd : xAp qp qt qm) (hn : n ≤ 300) {z : ps_S} (eZ : xPz g ws qp qt qm hp ht ta f n hm om dm rm z) (hpl : z.1 ≤ n) (hcn : z.2.2.2 ≤ 24) (hc1 : 1 ≤ z.2.2.2) (x col lo hi : Int32) (hx1 : ¬ x = -1) (k : Nat) (hk : col = nI k) (hk6 : k < 6) : xMi l g b0 y_Ps_readValue b_Ps_readValue 7 (some .boolean) 2 [.ref hp, .ref hm, .int x, .int col, .int lo, .int hi] ws (fun r u => r = (ps_value f n x k lo hi z).1 ∧ xQ2 qp qm ws u ∧ xPz g u qp qt qm hp ht ta f n hm om dm rm ((ps_value f n x k lo hi z).2) ∧ (ps_value f n x k lo hi z).2.1 ≤ n ∧ (ps_value f n x k lo hi z).2.2.2.2 ≤ 24) := by
  unfold xMi
  refine x_in (by decide) (Nat.le_of_ble_eq_true rfl) ?_
  intro p e s m below meth c ls E hr hin hP hD hl
  obtain ⟨hx, hb, hml, hown, hts, hK, hZ, hb0, hlocks⟩ := id E
  have hS : va_S (xA b0) s.heap s.heap [] := va_S.rf
  have hl : lv_has ls 7 [(0, .ref hp), (1, .ref hm), (2, .int x), (3, .int col), (4, .int lo), (5, .int hi)] := hl
  have hQ : xQ2 qp qm ws ws := xQ2.rf
  refine lv_aload_n hx hb d_Ps_readValue_0 rfl (lv_at hl 0 rfl) ?_
  refine lv_iload_n hx hb d_Ps_readValue_1 rfl (lv_at hl 2 rfl) ?_
  refine x_cVi (As := [.int x]) (rest := []) E (c_Ps_skip l g b0 _ hd hn eZ hpl hcn x hx1) wy_Ps_skip wl_Ps_55 hP hD hS eZ.1 rfl hl.1 ⟨by decide, by decide⟩ ⟨Nat.le_refl _, Nat.le_refl _⟩ rfl (Nat.le_of_ble_eq_true rfl) d_Ps_readValue_2 (fun r2 w1 H locs hr2 hP hD hS => ?_)
  obtain ⟨rfl, hq, eZ, hpl, hcn⟩ := hr2
  have hQ := hQ.tr hq
  have hc2 : 1 ≤ (ps_skip f n x z).2.2.2.2 := by rw [ps_skip_z]; exact hc1
  generalize hA : ps_skip f n x z = A at eZ hpl hcn hc2 ⊢
  refine lv_if_ne (tgt := 10) hx hb d_Ps_readValue_5 (by decide) (fun c5 => ?_) (fun c5 => ?_)
  · refine lv_aload_n hx hb d_Ps_readValue_10 rfl (lv_at hl 0 rfl) ?_
    refine lv_iload hx hb d_Ps_readValue_11 (lv_at hl 4 rfl) ?_
    refine lv_iload hx hb d_Ps_readValue_13 (lv_at hl 5 rfl) ?_
    refine x_cVi (As := [.int lo, .int hi]) (rest := []) E (c_Ps_readNumber l g b0 _ hd hn eZ hpl hcn lo hi) wy_Ps_readNumber wl_Ps_59 hP hD hS eZ.1 rfl hl.1 ⟨by decide, by decide⟩ ⟨Nat.le_refl _, Nat.le_refl _⟩ rfl (Nat.le_of_ble_eq_true rfl) d_Ps_readValue_15 (fun r15 w2 H locs hr15 hP hD hS => ?_)
    obtain ⟨rfl, hq, eZ, hpl, hcn⟩ := hr15
    have hQ := hQ.tr hq
    have hc2 : 1 ≤ (ps_num f n lo hi A.2).2.2.2.2 := by rw [ps_num_z]; exact hc2
    generalize hB : ps_num f n lo hi A.2 = B at eZ hpl hcn hc2 ⊢
    refine lv_istore (lv' := [(6, .int B.1), (0, .ref hp), (1, .ref hm), (2, .int x), (3, .int col), (4, .int lo), (5, .int hi)]) hx hb d_Ps_readValue_18 hl (by decide) rfl (fun ls hl => ?_)
    refine lv_iload hx hb d_Ps_readValue_20 (lv_at hl 0 rfl) ?_
    refine lv_iconst (v := (-1)) hx hb d_Ps_readValue_22 (by decide) ?_
    refine lv_icmp_ne (tgt := 28) hx hb d_Ps_readValue_23 (by decide) (fun c23 => ?_) (fun c23 => ?_)
    · refine lv_aload_n hx hb d_Ps_readValue_28 rfl (lv_at hl 2 rfl) ?_
      refine lv_iload_n hx hb d_Ps_readValue_29 rfl (lv_at hl 4 rfl) ?_
      refine lv_iload hx hb d_Ps_readValue_30 (lv_at hl 0 rfl) ?_
      refine x_cVv (As := [.int col, .int B.1]) (rest := []) E (c_Mc_setLatest l g b0 _ eZ.2.2 hc2 hcn col B.1 k hk hk6) wy_Mc_setLatest wl_Ps_70 hP hD hS eZ.2.2.1 rfl hl.1 ⟨by decide, by decide⟩ ⟨Nat.le_refl _, Nat.le_refl _⟩ rfl (Nat.le_of_ble_eq_true rfl) d_Ps_readValue_32 (fun w3 H locs hr32 hP hD hS => ?_)
      obtain ⟨hq, eM⟩ := hr32
      have hQ := hQ.mc hq
      have eZ := eZ.mc hd hq eM
      refine lv_iconst (v := 1) hx hb d_Ps_readValue_35 (by decide) ?_
      exact x_rz E hr hS rfl (by rw [ps_value, hA, ps_and, if_neg c5, hB, ps_val2, if_neg c23]; exact ⟨rfl, hQ, eZ, hpl, hcn⟩) hP hD d_Ps_readValue_36
    · refine lv_iconst (v := 0) hx hb d_Ps_readValue_26 (by decide) ?_
      exact x_rz E hr hS rfl (by rw [ps_value, hA, ps_and, if_neg c5, hB, ps_val2, if_pos c23]; exact ⟨rfl, hQ, eZ, hpl, hcn⟩) hP hD d_Ps_readValue_27
  · refine lv_iconst (v := 0) hx hb d_Ps_readValue_8 (by decide) ?_
    exact x_rz E hr hS rfl (by rw [ps_value, hA, ps_and, if_pos c5]; exact ⟨rfl, hQ, eZ, hpl, hcn⟩) hP hD d_Ps_readValue_9
set_option maxRecDepth 100000 in
set_option maxHeartbeats 4000000 in
theorem c_Ps_readNewName (l : Launch) (g : xG) (b0 : Nat) (ws : va_W) {qp qt qm hp ht ta n hm om dm : Nat} {f : Nat → Int32} {rm : Nat → Nat} (hd : xAp qp qt qm) (hn : n ≤ 300) {z : ps_S} (eZ : xPz g ws qp qt qm hp ht ta f n hm om dm rm z) (hpl : z.1 ≤ n) (hcn : z.2.2.2 < 24) (kd : Int32) : xMi l g b0 y_Ps_readNewName b_Ps_readNewName 5 (some .boolean) 2 [.ref hp, .ref hm, .int kd] ws (fun r u => r = (ps_name f n kd z).1 ∧ xQ2 qp qm ws u ∧ xPz g u qp qt qm hp ht ta f n hm om dm rm ((ps_name f n kd z).2) ∧ (ps_name f n kd z).2.1 ≤ n ∧ (ps_name f n kd z).2.2.2.2 ≤ 24) := by
  unfold xMi
  refine x_in (by decide) (Nat.le_of_ble_eq_true rfl) ?_
  intro p e s m below meth c ls E hr hin hP hD hl
  obtain ⟨hx, hb, hml, hown, hts, hK, hZ, hb0, hlocks⟩ := id E
  have hS : va_S (xA b0) s.heap s.heap [] := va_S.rf
  have hl : lv_has ls 5 [(0, .ref hp), (1, .ref hm), (2, .int kd)] := hl
  have hQ : xQ2 qp qm ws ws := xQ2.rf
  have hpl0 := hpl
  refine lv_aload_n hx hb d_Ps_readNewName_0 rfl (lv_at hl 0 rfl) ?_
  refine x_get E hP eZ.1 rfl cl3_in 1 (by decide) wf_Ps_15 rfl d_Ps_readNewName_1 ?_
  refine lv_istore_n (lv' := [(3, .int (nI z.1)), (0, .ref hp), (1, .ref hm), (2, .int kd)]) hx hb d_Ps_readNewName_4 rfl hl (by decide) rfl (fun ls hl => ?_)
  refine lv_aload_n hx hb d_Ps_readNewName_5 rfl (lv_at hl 1 rfl) ?_
  refine lv_iconst (v := 0) hx hb d_Ps_readNewName_6 (by decide) ?_
  refine lv_bipush (v := 29) hx hb d_Ps_readNewName_7 (by decide) ?_
  refine x_cVi (As := [.int 0, .int 29]) (rest := []) E (c_Ps_readNumber l g b0 _ hd hn eZ hpl (by omega) 0 29) wy_Ps_readNumber wl_Ps_59 hP hD hS eZ.1 rfl hl.1 ⟨by decide, by decide⟩ ⟨Nat.le_refl _, Nat.le_refl _⟩ rfl (Nat.le_of_ble_eq_true rfl) d_Ps_readNewName_9 (fun r9 w1 H locs hr9 hP hD hS => ?_)
  obtain ⟨rfl, hq, eZ, hpl, hcn⟩ := hr9
  have hQ := hQ.tr hq
  have hcz : (ps_num f n 0 29 z).2.2.2.2 = z.2.2.2 := by rw [ps_num_z]
  have hin9 := ps_num_in f n 0 29 z
  generalize hB : ps_num f n 0 29 z = B at eZ hpl hcn hcz hin9 ⊢
  refine lv_istore (lv' := [(4, .int B.1), (3, .int (nI z.1)), (0, .ref hp), (1, .ref hm), (2, .int kd)]) hx hb d_Ps_readNewName_12 hl (by decide) rfl (fun ls hl => ?_)
  refine lv_iload hx hb d_Ps_readNewName_14 (lv_at hl 0 rfl) ?_
  refine lv_iconst (v := (-1)) hx hb d_Ps_readNewName_16 (by decide) ?_
  refine lv_icmp_ne (tgt := 22) hx hb d_Ps_readNewName_17 (by decide) (fun c17 => ?_) (fun c17 => ?_)
  · refine lv_aload_n hx hb d_Ps_readNewName_22 rfl (lv_at hl 3 rfl) ?_
    refine lv_iload hx hb d_Ps_readNewName_23 (lv_at hl 0 rfl) ?_
    refine x_cRi (As := [.int B.1]) (rest := []) E (c_Mc_indexOf l g b0 _ eZ.2.2 hcn B.1) wy_Mc_indexOf wl_Ps_63 hP hD hS eZ.2.2.1 rfl hl.1 ⟨by decide, by decide⟩ ⟨Nat.le_refl _, Nat.le_refl _⟩ rfl (Nat.le_of_ble_eq_true rfl) d_Ps_readNewName_25 (fun r25 hr25 => ?_)
    subst hr25
    refine lv_iconst (v := (-1)) hx hb d_Ps_readNewName_28 (by decide) ?_
    refine lv_icmp_eq (tgt := 39) hx hb d_Ps_readNewName_29 (by decide) (fun c29 => ?_) (fun c29 => ?_)
    · obtain ⟨h8, h9⟩ := hin9.resolve_left c17
      obtain ⟨nm, hnm30, hnm⟩ := x_ix (n := 30) (by decide) h8 (fun h7 => absurd (Int32.le_trans h7 h9) (by decide))
      refine lv_aload_n hx hb d_Ps_readNewName_39 rfl (lv_at hl 3 rfl) ?_
      refine lv_iload_n hx hb d_Ps_readNewName_40 rfl (lv_at hl 4 rfl) ?_
      refine lv_iload hx hb d_Ps_readNewName_41 (lv_at hl 0 rfl) ?_
      refine x_cVv (As := [.int kd, .int B.1]) (rest := []) E (c_Mc_addPart l g b0 _ eZ.2.2 (by omega) kd B.1 nm hnm hnm30) wy_Mc_addPart wl_Ps_66 hP hD hS eZ.2.2.1 rfl hl.1 ⟨by decide, by decide⟩ ⟨Nat.le_refl _, Nat.le_refl _⟩ rfl (Nat.le_of_ble_eq_true rfl) d_Ps_readNewName_43 (fun w3 H locs hr43 hP hD hS => ?_)
      obtain ⟨hq, eM⟩ := hr43
      have hQ := hQ.mc hq
      have eZ := eZ.mc hd hq eM
      refine lv_iconst (v := 1) hx hb d_Ps_readNewName_46 (by decide) ?_
      exact x_rz E hr hS rfl (by rw [ps_name, hB, ps_nam2, if_neg c17, if_pos c29]; refine ⟨rfl, hQ, ?_, hpl, by show _ + 1 ≤ 24; omega⟩; rw [ps_new, hnm, nI_clamp (by omega), ← hnm]; exact eZ) hP hD d_Ps_readNewName_47
    · refine lv_aload_n hx hb d_Ps_readNewName_32 rfl (lv_at hl 2 rfl) ?_
      refine lv_iload_n hx hb d_Ps_readNewName_33 rfl (lv_at hl 1 rfl) ?_
      refine x_put E hP hD hS eZ.1 rfl cl3_in cl3_ty cl3_nm 1 (by decide) wf_Ps_15 rfl rfl rfl (Nat.le_of_ble_eq_true rfl) d_Ps_readNewName_34 (fun w3 H locs hU3 hP hD hS => ?_)
      have hQ := hQ.up hU3
      have eZ := eZ.pl hd (p' := z.1) hU3
      refine lv_iconst (v := 0) hx hb d_Ps_readNewName_37 (by decide) ?_
      exact x_rz E hr hS rfl (by rw [ps_name, hB, ps_nam2, if_neg c17, if_neg c29]; exact ⟨rfl, hQ, eZ, hpl0, hcn⟩) hP hD d_Ps_readNewName_38
  · refine lv_iconst (v := 0) hx hb d_Ps_readNewName_20 (by decide) ?_
    exact x_rz E hr hS rfl (by rw [ps_name, hB, ps_nam2, if_pos c17]; exact ⟨rfl, hQ, eZ, hpl, by omega⟩) hP hD d_Ps_readNewName_21
end
section
def ps_p5 (f : Nat → Int32) (n k : Nat) (z : ps_S) : Int32 × ps_S := ps_and (if k = 3 then ps_value f n 44 5 0 29 z else (1, z)) (ps_skip f n 59)
def ps_p4 (f : Nat → Int32) (n k : Nat) (z : ps_S) : Int32 × ps_S := ps_and (if k = 4 then (1, z) else ps_value f n 62 4 0 29 z) (ps_p5 f n k)
def ps_p3 (f : Nat → Int32) (n k : Nat) (z : ps_S) : Int32 × ps_S := ps_and (if k = 1 then ps_value f n 44 3 1 9999 z else (1, z)) (ps_p4 f n k)
def ps_p2 (f : Nat → Int32) (n k : Nat) (z : ps_S) : Int32 × ps_S := ps_and (ps_value f n 61 2 (xLo k) (xHi k) z) (ps_p3 f n k)
def ps_p1 (f : Nat → Int32) (n k : Nat) (z : ps_S) : Int32 × ps_S := ps_and (ps_name f n (nI k) z) (ps_p2 f n k)
def ps_part (f : Nat → Int32) (n : Nat) (z : ps_S) : Int32 × ps_S := if ps_kind (tx_at f n (nI z.1)) = -1 then (0, z) else ps_p1 f n (ps_kind (tx_at f n (nI z.1))).toNatClampNeg (z.1 + 1, z.2)
theorem ps_kind_in (x : Int32) : ps_kind x = -1 ∨ ps_kind x = 0 ∨ ps_kind x = 1 ∨ ps_kind x = 2 ∨ ps_kind x = 3 ∨ ps_kind x = 4 := by
  unfold ps_kind
  split
  · exact Or.inr (Or.inl rfl)
  · split
    · exact Or.inr (Or.inr (Or.inl rfl))
    · split
      · exact Or.inr (Or.inr (Or.inr (Or.inl rfl)))
      · split
        · exact Or.inr (Or.inr (Or.inr (Or.inr (Or.inl rfl))))
        · split
          · exact Or.inr (Or.inr (Or.inr (Or.inr (Or.inr rfl))))
          · exact Or.inl rfl
theorem ps_kind_m1 : ps_kind (-1) = -1 := by decide
theorem ps_and_1 {z : ps_S} {h : ps_S → Int32 × ps_S} : ps_and (1, z) h = h z := if_neg (show ¬ (1 : Int32) = 0 by decide)
theorem ps_and_cn {a : Int32 × ps_S} {h : ps_S → Int32 × ps_S} {c : Nat} (ha : a.2.2.2.2 = c) (hh : ∀ z : ps_S, z.2.2.2 = c → (h z).2.2.2.2 = c) : (ps_and a h).2.2.2.2 = c := by
  unfold ps_and
  split
  · exact ha
  · exact hh _ ha
theorem ps_value_cn {f : Nat → Int32} {n : Nat} {x : Int32} {k : Nat} {lo hi : Int32} {z : ps_S} : (ps_value f n x k lo hi z).2.2.2.2 = z.2.2.2 := by
  refine ps_and_cn (by rw [ps_skip_z]) (fun y hy => ?_)
  unfold ps_val2
  split
  · show (ps_num f n lo hi y).2.2.2.2 = _
    rw [ps_num_z]; exact hy
  · show (ps_num f n lo hi y).2.2.2.2 = _
    rw [ps_num_z]; exact hy
theorem ps_name_cn {f : Nat → Int32} {n : Nat} {kd : Int32} {z : ps_S} : (ps_name f n kd z).2.2.2.2 ≤ z.2.2.2 + 1 ∧ (¬ (ps_name f n kd z).1 = 0 → (ps_name f n kd z).2.2.2.2 = z.2.2.2 + 1) := by
  unfold ps_name ps_nam2
  split
  · refine ⟨?_, fun h => absurd rfl h⟩
    show (ps_num f n 0 29 z).2.2.2.2 ≤ _
    rw [ps_num_z]; omega
  · split
    · have e : (ps_num f n 0 29 z).2.2.2.2 = z.2.2.2 := by rw [ps_num_z]
      exact ⟨by show (ps_num f n 0 29 z).2.2.2.2 + 1 ≤ _; omega, fun _ => by show (ps_num f n 0 29 z).2.2.2.2 + 1 = _; omega⟩
    · refine ⟨?_, fun h => absurd rfl h⟩
      show (ps_num f n 0 29 z).2.2.2.2 ≤ _
      rw [ps_num_z]; omega
theorem ps_p5_cn {f : Nat → Int32} {n k : Nat} {y : ps_S} : (ps_p5 f n k y).2.2.2.2 = y.2.2.2 := by
  refine ps_and_cn ?_ (fun z hz => by rw [ps_skip_z]; exact hz)
  split
  · exact ps_value_cn
  · rfl
theorem ps_p4_cn {f : Nat → Int32} {n k : Nat} {y : ps_S} : (ps_p4 f n k y).2.2.2.2 = y.2.2.2 := by
  refine ps_and_cn ?_ (fun z hz => by rw [ps_p5_cn]; exact hz)
  split
  · rfl
  · exact ps_value_cn
theorem ps_p3_cn {f : Nat → Int32} {n k : Nat} {y : ps_S} : (ps_p3 f n k y).2.2.2.2 = y.2.2.2 := by
  refine ps_and_cn ?_ (fun z hz => by rw [ps_p4_cn]; exact hz)
  split
  · exact ps_value_cn
  · rfl
theorem ps_p2_cn {f : Nat → Int32} {n k : Nat} {y : ps_S} : (ps_p2 f n k y).2.2.2.2 = y.2.2.2 :=
  ps_and_cn ps_value_cn (fun z hz => by rw [ps_p3_cn]; exact hz)
theorem ps_p1_cn {f : Nat → Int32} {n k : Nat} {z : ps_S} : (ps_p1 f n k z).2.2.2.2 ≤ z.2.2.2 + 1 := by
  have h1 := ps_name_cn (f := f) (n := n) (kd := nI k) (z := z)
  unfold ps_p1 ps_and
  split
  · exact h1.1
  · rename_i h2
    rw [ps_p2_cn]
    exact Nat.le_of_eq (h1.2 h2)
theorem ps_part_cn {f : Nat → Int32} {n : Nat} {z : ps_S} : (ps_part f n z).2.2.2.2 ≤ z.2.2.2 + 1 := by
  unfold ps_part
  split
  · show z.2.2.2 ≤ _
    omega
  · exact ps_p1_cn
set_option maxRecDepth 100000 in
set_option maxHeartbeats 4000000 in
theorem c_Ps_readPart (l : Launch) (g : xG) (b0 : Nat) (ws : va_W) {qp qt qm hp ht ta n hm om dm : Nat} {f : Nat → Int32} {rm : Nat → Nat} (hd : xAp qp qt qm) (hn : n ≤ 300) {z : ps_S} (eZ : xPz g ws qp qt qm hp ht ta f n hm om dm rm z) (hpl : z.1 ≤ n) (hcn : z.2.2.2 < 24) : xMi l g b0 y_Ps_readPart b_Ps_readPart 3 (some .boolean) 3 [.ref hp, .ref hm] ws (fun r u => r = (ps_part f n z).1 ∧ xQ2 qp qm ws u ∧ xPz g u qp qt qm hp ht ta f n hm om dm rm ((ps_part f n z).2) ∧ (ps_part f n z).2.1 ≤ n ∧ (ps_part f n z).2.2.2.2 ≤ 24) := by
  unfold xMi
  refine x_in (by decide) (Nat.le_of_ble_eq_true rfl) ?_
  intro p e s m below meth c ls E hr hin hP hD hl
  obtain ⟨hx, hb, hml, hown, hts, hK, hZ, hb0, hlocks⟩ := id E
  have hS : va_S (xA b0) s.heap s.heap [] := va_S.rf
  have hl : lv_has ls 3 [(0, .ref hp), (1, .ref hm)] := hl
  have hQ : xQ2 qp qm ws ws := xQ2.rf
  have hcn0 := hcn
  have hpl0 := hpl
  refine lv_aload_n hx hb d_Ps_readPart_0 rfl (lv_at hl 0 rfl) ?_
  refine x_get E hP eZ.1 rfl cl3_in 0 (by decide) wf_Ps_9 rfl d_Ps_readPart_1 ?_
  refine lv_aload_n hx hb d_Ps_readPart_4 rfl (lv_at hl 0 rfl) ?_
  refine x_get E hP eZ.1 rfl cl3_in 1 (by decide) wf_Ps_15 rfl d_Ps_readPart_5 ?_
  refine x_cRi (As := [.int (nI z.1)]) (rest := []) E (c_Tx_characterAt l g b0 _ eZ.2.1 hn (nI z.1)) wy_Tx_characterAt wl_Ps_33 hP hD hS eZ.2.1.1 rfl hl.1 ⟨by decide, by decide⟩ ⟨Nat.le_refl _, Nat.le_refl _⟩ rfl (Nat.le_of_ble_eq_true rfl) d_Ps_readPart_8 (fun r8 hr8 => ?_)
  subst hr8
  refine x_cSi (As := [.int (tx_at f n (nI z.1))]) (rest := []) E (c_Ps_kindOf l g b0 _ (tx_at f n (nI z.1))) wy_Ps_kindOf wl_Ps_37 hP hD hS hl.1 ⟨by decide, by decide⟩ ⟨Nat.le_refl _, Nat.le_refl _⟩ rfl (Nat.le_of_ble_eq_true rfl) d_Ps_readPart_11 (fun r11 hr11 => ?_)
  subst hr11
  rcases ps_kind_in (tx_at f n (nI z.1)) with hk0 | hk0 | hk0 | hk0 | hk0 | hk0
  · refine x_top (y := (-1)) hk0 ?_
    refine lv_istore_n (lv' := [(2, .int (-1)), (0, .ref hp), (1, .ref hm)]) hx hb d_Ps_readPart_14 rfl hl (by decide) rfl (fun ls hl => ?_)
    refine lv_iload_n hx hb d_Ps_readPart_15 rfl (lv_at hl 0 rfl) ?_
    refine lv_if_lt (tgt := 35) hx hb d_Ps_readPart_16 (by decide) (fun c16 => ?_) (fun c16 => absurd (by decide) c16)
    refine lv_iconst (v := 0) hx hb d_Ps_readPart_35 (by decide) ?_
    exact x_rz E hr hS rfl (by rw [ps_part, if_pos hk0]; exact ⟨rfl, hQ, eZ, hpl, Nat.le_of_lt hcn⟩) hP hD d_Ps_readPart_36
  · refine x_top (y := 0) hk0 ?_
    refine lv_istore_n (lv' := [(2, .int 0), (0, .ref hp), (1, .ref hm)]) hx hb d_Ps_readPart_14 rfl hl (by decide) rfl (fun ls hl => ?_)
    refine lv_iload_n hx hb d_Ps_readPart_15 rfl (lv_at hl 0 rfl) ?_
    refine lv_if_lt (tgt := 35) hx hb d_Ps_readPart_16 (by decide) (fun c16 => absurd c16 (by decide)) (fun c16 => ?_)
    refine lv_iload_n hx hb d_Ps_readPart_19 rfl (lv_at hl 0 rfl) ?_
    refine x_gets_A_Ps E hS d_Ps_readPart_20 ?_
    refine x_len_A E hS d_Ps_readPart_23 ?_
    refine lv_icmp_ge (tgt := 35) hx hb d_Ps_readPart_24 (by decide) (fun c24 => absurd c24 (by decide)) (fun c24 => ?_)
    refine lv_iload_n hx hb d_Ps_readPart_27 rfl (lv_at hl 0 rfl) ?_
    refine x_gets_B_Ps E hS d_Ps_readPart_28 ?_
    refine x_len_B E hS d_Ps_readPart_31 ?_
    refine lv_icmp_lt (tgt := 37) hx hb d_Ps_readPart_32 (by decide) (fun c32 => ?_) (fun c32 => absurd (by decide) c32)
    refine lv_aload_n hx hb d_Ps_readPart_37 rfl (lv_at hl 1 rfl) ?_
    refine lv_dup hx hb d_Ps_readPart_38 rfl ?_
    refine x_get E hP eZ.1 rfl cl3_in 1 (by decide) wf_Ps_15 rfl d_Ps_readPart_39 ?_
    refine lv_iconst (v := 1) hx hb d_Ps_readPart_42 (by decide) ?_
    refine lv_iadd hx hb d_Ps_readPart_43 ?_
    refine x_top (y := nI (z.1 + 1)) (nI_1 z.1) ?_
    have hpl : z.1 + 1 ≤ n := tx_at_ne hpl hn (fun q => by rw [q, ps_kind_m1] at hk0; exact absurd hk0 (by decide))
    refine x_put E hP hD hS eZ.1 rfl cl3_in cl3_ty cl3_nm 1 (by decide) wf_Ps_15 rfl rfl rfl (Nat.le_of_ble_eq_true rfl) d_Ps_readPart_44 (fun w2 H locs hU2 hP hD hS => ?_)
    have hQ := hQ.up hU2
    have eZ := eZ.pl hd (p' := z.1 + 1) hU2
    refine lv_aload_n hx hb d_Ps_readPart_47 rfl (lv_at hl 1 rfl) ?_
    refine lv_aload_n hx hb d_Ps_readPart_48 rfl (lv_at hl 2 rfl) ?_
    refine lv_iload_n hx hb d_Ps_readPart_49 rfl (lv_at hl 0 rfl) ?_
    refine x_cVi (As := [.ref hm, .int 0]) (rest := []) E (c_Ps_readNewName l g b0 _ hd hn eZ hpl hcn (nI 0)) wy_Ps_readNewName wl_Ps_47 hP hD hS eZ.1 rfl hl.1 ⟨by decide, by decide⟩ ⟨Nat.le_refl _, Nat.le_refl _⟩ rfl (Nat.le_of_ble_eq_true rfl) d_Ps_readPart_50 (fun r50 w3 H locs hr50 hP hD hS => ?_)
    obtain ⟨rfl, hq, eZ, hpl, hcn⟩ := hr50
    have hQ := hQ.tr hq
    have hc9 := ps_name_cn (f := f) (n := n) (kd := nI 0) (z := (z.1 + 1, z.2))
    generalize hA50 : ps_name f n (nI 0) (z.1 + 1, z.2) = A50 at eZ hpl hcn hc9 ⊢
    refine lv_if_eq (tgt := 148) hx hb d_Ps_readPart_53 (by decide) (fun c53 => ?_) (fun c53 => ?_)
    · refine lv_iconst (v := 0) hx hb d_Ps_readPart_148 (by decide) ?_
      exact x_rz E hr hS rfl (by rw [ps_part, if_neg (by rw [hk0]; decide), hk0, show ((0 : Int32)).toNatClampNeg = 0 from rfl, ps_p1, hA50, ps_and, if_pos c53]; exact ⟨rfl, hQ, eZ, hpl, hcn⟩) hP hD d_Ps_readPart_149
    · have hc1 := hc9.2 c53
      replace hc1 := Nat.le_of_eq hc1.symm
      replace hc1 := Nat.le_trans (Nat.le_add_left 1 _) hc1
      refine lv_aload_n hx hb d_Ps_readPart_56 rfl (lv_at hl 1 rfl) ?_
      refine lv_aload_n hx hb d_Ps_readPart_57 rfl (lv_at hl 2 rfl) ?_
      refine lv_bipush (v := 61) hx hb d_Ps_readPart_58 (by decide) ?_
      refine lv_iconst (v := 2) hx hb d_Ps_readPart_60 (by decide) ?_
      refine x_gets_A_Ps E hS d_Ps_readPart_61 ?_
      refine lv_iload_n hx hb d_Ps_readPart_64 rfl (lv_at hl 0 rfl) ?_
      refine x_tab_A E hS rfl (by decide) d_Ps_readPart_65 ?_
      refine x_gets_B_Ps E hS d_Ps_readPart_66 ?_
      refine lv_iload_n hx hb d_Ps_readPart_69 rfl (lv_at hl 0 rfl) ?_
      refine x_tab_B E hS rfl (by decide) d_Ps_readPart_70 ?_
      refine x_cVi (As := [.ref hm, .int 61, .int 2, .int (xLo 0), .int (xHi 0)]) (rest := []) E (c_Ps_readValue l g b0 _ hd hn eZ hpl hcn hc1 61 2 (xLo 0) (xHi 0) (by decide) 2 rfl (by decide)) wy_Ps_readValue wl_Ps_51 hP hD hS eZ.1 rfl hl.1 ⟨by decide, by decide⟩ ⟨Nat.le_refl _, Nat.le_refl _⟩ rfl (Nat.le_of_ble_eq_true rfl) d_Ps_readPart_71 (fun r71 w4 H locs hr71 hP hD hS => ?_)
      obtain ⟨rfl, hq, eZ, hpl, hcn⟩ := hr71
      have hQ := hQ.tr hq
      have hc1 : 1 ≤ (ps_value f n 61 2 (xLo 0) (xHi 0) A50.2).2.2.2.2 := by rw [ps_value_cn]; exact hc1
      generalize hA71 : ps_value f n 61 2 (xLo 0) (xHi 0) A50.2 = A71 at eZ hpl hcn hc1 ⊢
      refine lv_if_eq (tgt := 148) hx hb d_Ps_readPart_74 (by decide) (fun c74 => ?_) (fun c74 => ?_)
      · refine lv_iconst (v := 0) hx hb d_Ps_readPart_148 (by decide) ?_
        exact x_rz E hr hS rfl (by rw [ps_part, if_neg (by rw [hk0]; decide), hk0, show ((0 : Int32)).toNatClampNeg = 0 from rfl, ps_p1, hA50, ps_and, if_neg c53, ps_p2, hA71, ps_and, if_pos c74]; exact ⟨rfl, hQ, eZ, hpl, hcn⟩) hP hD d_Ps_readPart_149
      · refine lv_iload_n hx hb d_Ps_readPart_77 rfl (lv_at hl 0 rfl) ?_
        refine lv_iconst (v := 1) hx hb d_Ps_readPart_78 (by decide) ?_
        refine lv_icmp_ne (tgt := 97) hx hb d_Ps_readPart_79 (by decide) (fun c79 => ?_) (fun c79 => absurd c79 (by decide))
        refine lv_iload_n hx hb d_Ps_readPart_97 rfl (lv_at hl 0 rfl) ?_
        refine lv_iconst (v := 4) hx hb d_Ps_readPart_98 (by decide) ?_
        refine lv_icmp_eq (tgt := 116) hx hb d_Ps_readPart_99 (by decide) (fun c99 => absurd c99 (by decide)) (fun c99 => ?_)
        refine lv_aload_n hx hb d_Ps_readPart_102 rfl (lv_at hl 1 rfl) ?_
        refine lv_aload_n hx hb d_Ps_readPart_103 rfl (lv_at hl 2 rfl) ?_
        refine lv_bipush (v := 62) hx hb d_Ps_readPart_104 (by decide) ?_
        refine lv_iconst (v := 4) hx hb d_Ps_readPart_106 (by decide) ?_
        refine lv_iconst (v := 0) hx hb d_Ps_readPart_107 (by decide) ?_
        refine lv_bipush (v := 29) hx hb d_Ps_readPart_108 (by decide) ?_
        refine x_cVi (As := [.ref hm, .int 62, .int 4, .int 0, .int 29]) (rest := []) E (c_Ps_readValue l g b0 _ hd hn eZ hpl hcn hc1 62 4 0 29 (by decide) 4 rfl (by decide)) wy_Ps_readValue wl_Ps_51 hP hD hS eZ.1 rfl hl.1 ⟨by decide, by decide⟩ ⟨Nat.le_refl _, Nat.le_refl _⟩ rfl (Nat.le_of_ble_eq_true rfl) d_Ps_readPart_110 (fun r110 w5 H locs hr110 hP hD hS => ?_)
        obtain ⟨rfl, hq, eZ, hpl, hcn⟩ := hr110
        have hQ := hQ.tr hq
        have hc1 : 1 ≤ (ps_value f n 62 4 0 29 A71.2).2.2.2.2 := by rw [ps_value_cn]; exact hc1
        generalize hA110 : ps_value f n 62 4 0 29 A71.2 = A110 at eZ hpl hcn hc1 ⊢
        refine lv_if_eq (tgt := 148) hx hb d_Ps_readPart_113 (by decide) (fun c113 => ?_) (fun c113 => ?_)
        · refine lv_iconst (v := 0) hx hb d_Ps_readPart_148 (by decide) ?_
          exact x_rz E hr hS rfl (by rw [ps_part, if_neg (by rw [hk0]; decide), hk0, show ((0 : Int32)).toNatClampNeg = 0 from rfl, ps_p1, hA50, ps_and, if_neg c53, ps_p2, hA71, ps_and, if_neg c74, ps_p3, if_neg (by decide), ps_and_1, ps_p4, if_neg (by decide), hA110, ps_and, if_pos c113]; exact ⟨rfl, hQ, eZ, hpl, hcn⟩) hP hD d_Ps_readPart_149
        · refine lv_iload_n hx hb d_Ps_readPart_116 rfl (lv_at hl 0 rfl) ?_
          refine lv_iconst (v := 3) hx hb d_Ps_readPart_117 (by decide) ?_
          refine lv_icmp_ne (tgt := 135) hx hb d_Ps_readPart_118 (by decide) (fun c118 => ?_) (fun c118 => absurd c118 (by decide))
          refine lv_aload_n hx hb d_Ps_readPart_135 rfl (lv_at hl 1 rfl) ?_
          refine lv_bipush (v := 59) hx hb d_Ps_readPart_136 (by decide) ?_
          refine x_cVi (As := [.int 59]) (rest := []) E (c_Ps_skip l g b0 _ hd hn eZ hpl hcn 59 (by decide)) wy_Ps_skip wl_Ps_55 hP hD hS eZ.1 rfl hl.1 ⟨by decide, by decide⟩ ⟨Nat.le_refl _, Nat.le_refl _⟩ rfl (Nat.le_of_ble_eq_true rfl) d_Ps_readPart_138 (fun r138 w6 H locs hr138 hP hD hS => ?_)
          obtain ⟨rfl, hq, eZ, hpl, hcn⟩ := hr138
          have hQ := hQ.tr hq
          have h01 := ps_skip_01 f n 59 A110.2
          generalize hA138 : ps_skip f n 59 A110.2 = A138 at eZ hpl hcn h01 ⊢
          refine lv_if_eq (tgt := 148) hx hb d_Ps_readPart_141 (by decide) (fun c141 => ?_) (fun c141 => ?_)
          · refine lv_iconst (v := 0) hx hb d_Ps_readPart_148 (by decide) ?_
            exact x_rz E hr hS rfl (by rw [ps_part, if_neg (by rw [hk0]; decide), hk0, show ((0 : Int32)).toNatClampNeg = 0 from rfl, ps_p1, hA50, ps_and, if_neg c53, ps_p2, hA71, ps_and, if_neg c74, ps_p3, if_neg (by decide), ps_and_1, ps_p4, if_neg (by decide), hA110, ps_and, if_neg c113, ps_p5, if_neg (by decide), ps_and_1, hA138]; exact ⟨c141.symm, hQ, eZ, hpl, hcn⟩) hP hD d_Ps_readPart_149
          · refine lv_iconst (v := 1) hx hb d_Ps_readPart_144 (by decide) ?_
            refine lv_goto (tgt := 149) hx hb d_Ps_readPart_145 (by decide) ?_
            exact x_rz E hr hS rfl (by rw [ps_part, if_neg (by rw [hk0]; decide), hk0, show ((0 : Int32)).toNatClampNeg = 0 from rfl, ps_p1, hA50, ps_and, if_neg c53, ps_p2, hA71, ps_and, if_neg c74, ps_p3, if_neg (by decide), ps_and_1, ps_p4, if_neg (by decide), hA110, ps_and, if_neg c113, ps_p5, if_neg (by decide), ps_and_1, hA138]; exact ⟨(h01.resolve_left c141).symm, hQ, eZ, hpl, hcn⟩) hP hD d_Ps_readPart_149
  · refine x_top (y := 1) hk0 ?_
    refine lv_istore_n (lv' := [(2, .int 1), (0, .ref hp), (1, .ref hm)]) hx hb d_Ps_readPart_14 rfl hl (by decide) rfl (fun ls hl => ?_)
    refine lv_iload_n hx hb d_Ps_readPart_15 rfl (lv_at hl 0 rfl) ?_
    refine lv_if_lt (tgt := 35) hx hb d_Ps_readPart_16 (by decide) (fun c16 => absurd c16 (by decide)) (fun c16 => ?_)
    refine lv_iload_n hx hb d_Ps_readPart_19 rfl (lv_at hl 0 rfl) ?_
    refine x_gets_A_Ps E hS d_Ps_readPart_20 ?_
    refine x_len_A E hS d_Ps_readPart_23 ?_
    refine lv_icmp_ge (tgt := 35) hx hb d_Ps_readPart_24 (by decide) (fun c24 => absurd c24 (by decide)) (fun c24 => ?_)
    refine lv_iload_n hx hb d_Ps_readPart_27 rfl (lv_at hl 0 rfl) ?_
    refine x_gets_B_Ps E hS d_Ps_readPart_28 ?_
    refine x_len_B E hS d_Ps_readPart_31 ?_
    refine lv_icmp_lt (tgt := 37) hx hb d_Ps_readPart_32 (by decide) (fun c32 => ?_) (fun c32 => absurd (by decide) c32)
    refine lv_aload_n hx hb d_Ps_readPart_37 rfl (lv_at hl 1 rfl) ?_
    refine lv_dup hx hb d_Ps_readPart_38 rfl ?_
    refine x_get E hP eZ.1 rfl cl3_in 1 (by decide) wf_Ps_15 rfl d_Ps_readPart_39 ?_
    refine lv_iconst (v := 1) hx hb d_Ps_readPart_42 (by decide) ?_
    refine lv_iadd hx hb d_Ps_readPart_43 ?_
    refine x_top (y := nI (z.1 + 1)) (nI_1 z.1) ?_
    have hpl : z.1 + 1 ≤ n := tx_at_ne hpl hn (fun q => by rw [q, ps_kind_m1] at hk0; exact absurd hk0 (by decide))
    refine x_put E hP hD hS eZ.1 rfl cl3_in cl3_ty cl3_nm 1 (by decide) wf_Ps_15 rfl rfl rfl (Nat.le_of_ble_eq_true rfl) d_Ps_readPart_44 (fun w2 H locs hU2 hP hD hS => ?_)
    have hQ := hQ.up hU2
    have eZ := eZ.pl hd (p' := z.1 + 1) hU2
    refine lv_aload_n hx hb d_Ps_readPart_47 rfl (lv_at hl 1 rfl) ?_
    refine lv_aload_n hx hb d_Ps_readPart_48 rfl (lv_at hl 2 rfl) ?_
    refine lv_iload_n hx hb d_Ps_readPart_49 rfl (lv_at hl 0 rfl) ?_
    refine x_cVi (As := [.ref hm, .int 1]) (rest := []) E (c_Ps_readNewName l g b0 _ hd hn eZ hpl hcn (nI 1)) wy_Ps_readNewName wl_Ps_47 hP hD hS eZ.1 rfl hl.1 ⟨by decide, by decide⟩ ⟨Nat.le_refl _, Nat.le_refl _⟩ rfl (Nat.le_of_ble_eq_true rfl) d_Ps_readPart_50 (fun r50 w3 H locs hr50 hP hD hS => ?_)
    obtain ⟨rfl, hq, eZ, hpl, hcn⟩ := hr50
    have hQ := hQ.tr hq
    have hc9 := ps_name_cn (f := f) (n := n) (kd := nI 1) (z := (z.1 + 1, z.2))
    generalize hA50 : ps_name f n (nI 1) (z.1 + 1, z.2) = A50 at eZ hpl hcn hc9 ⊢
    refine lv_if_eq (tgt := 148) hx hb d_Ps_readPart_53 (by decide) (fun c53 => ?_) (fun c53 => ?_)
    · refine lv_iconst (v := 0) hx hb d_Ps_readPart_148 (by decide) ?_
      exact x_rz E hr hS rfl (by rw [ps_part, if_neg (by rw [hk0]; decide), hk0, show ((1 : Int32)).toNatClampNeg = 1 from rfl, ps_p1, hA50, ps_and, if_pos c53]; exact ⟨rfl, hQ, eZ, hpl, hcn⟩) hP hD d_Ps_readPart_149
    · have hc1 := hc9.2 c53
      replace hc1 := Nat.le_of_eq hc1.symm
      replace hc1 := Nat.le_trans (Nat.le_add_left 1 _) hc1
      refine lv_aload_n hx hb d_Ps_readPart_56 rfl (lv_at hl 1 rfl) ?_
      refine lv_aload_n hx hb d_Ps_readPart_57 rfl (lv_at hl 2 rfl) ?_
      refine lv_bipush (v := 61) hx hb d_Ps_readPart_58 (by decide) ?_
      refine lv_iconst (v := 2) hx hb d_Ps_readPart_60 (by decide) ?_
      refine x_gets_A_Ps E hS d_Ps_readPart_61 ?_
      refine lv_iload_n hx hb d_Ps_readPart_64 rfl (lv_at hl 0 rfl) ?_
      refine x_tab_A E hS rfl (by decide) d_Ps_readPart_65 ?_
      refine x_gets_B_Ps E hS d_Ps_readPart_66 ?_
      refine lv_iload_n hx hb d_Ps_readPart_69 rfl (lv_at hl 0 rfl) ?_
      refine x_tab_B E hS rfl (by decide) d_Ps_readPart_70 ?_
      refine x_cVi (As := [.ref hm, .int 61, .int 2, .int (xLo 1), .int (xHi 1)]) (rest := []) E (c_Ps_readValue l g b0 _ hd hn eZ hpl hcn hc1 61 2 (xLo 1) (xHi 1) (by decide) 2 rfl (by decide)) wy_Ps_readValue wl_Ps_51 hP hD hS eZ.1 rfl hl.1 ⟨by decide, by decide⟩ ⟨Nat.le_refl _, Nat.le_refl _⟩ rfl (Nat.le_of_ble_eq_true rfl) d_Ps_readPart_71 (fun r71 w4 H locs hr71 hP hD hS => ?_)
      obtain ⟨rfl, hq, eZ, hpl, hcn⟩ := hr71
      have hQ := hQ.tr hq
      have hc1 : 1 ≤ (ps_value f n 61 2 (xLo 1) (xHi 1) A50.2).2.2.2.2 := by rw [ps_value_cn]; exact hc1
      generalize hA71 : ps_value f n 61 2 (xLo 1) (xHi 1) A50.2 = A71 at eZ hpl hcn hc1 ⊢
      refine lv_if_eq (tgt := 148) hx hb d_Ps_readPart_74 (by decide) (fun c74 => ?_) (fun c74 => ?_)
      · refine lv_iconst (v := 0) hx hb d_Ps_readPart_148 (by decide) ?_
        exact x_rz E hr hS rfl (by rw [ps_part, if_neg (by rw [hk0]; decide), hk0, show ((1 : Int32)).toNatClampNeg = 1 from rfl, ps_p1, hA50, ps_and, if_neg c53, ps_p2, hA71, ps_and, if_pos c74]; exact ⟨rfl, hQ, eZ, hpl, hcn⟩) hP hD d_Ps_readPart_149
      · refine lv_iload_n hx hb d_Ps_readPart_77 rfl (lv_at hl 0 rfl) ?_
        refine lv_iconst (v := 1) hx hb d_Ps_readPart_78 (by decide) ?_
        refine lv_icmp_ne (tgt := 97) hx hb d_Ps_readPart_79 (by decide) (fun c79 => absurd (by decide) c79) (fun c79 => ?_)
        refine lv_aload_n hx hb d_Ps_readPart_82 rfl (lv_at hl 1 rfl) ?_
        refine lv_aload_n hx hb d_Ps_readPart_83 rfl (lv_at hl 2 rfl) ?_
        refine lv_bipush (v := 44) hx hb d_Ps_readPart_84 (by decide) ?_
        refine lv_iconst (v := 3) hx hb d_Ps_readPart_86 (by decide) ?_
        refine lv_iconst (v := 1) hx hb d_Ps_readPart_87 (by decide) ?_
        refine lv_sipush (v := 9999) hx hb d_Ps_readPart_88 (by decide) ?_
        refine x_cVi (As := [.ref hm, .int 44, .int 3, .int 1, .int 9999]) (rest := []) E (c_Ps_readValue l g b0 _ hd hn eZ hpl hcn hc1 44 3 1 9999 (by decide) 3 rfl (by decide)) wy_Ps_readValue wl_Ps_51 hP hD hS eZ.1 rfl hl.1 ⟨by decide, by decide⟩ ⟨Nat.le_refl _, Nat.le_refl _⟩ rfl (Nat.le_of_ble_eq_true rfl) d_Ps_readPart_91 (fun r91 w5 H locs hr91 hP hD hS => ?_)
        obtain ⟨rfl, hq, eZ, hpl, hcn⟩ := hr91
        have hQ := hQ.tr hq
        have hc1 : 1 ≤ (ps_value f n 44 3 1 9999 A71.2).2.2.2.2 := by rw [ps_value_cn]; exact hc1
        generalize hA91 : ps_value f n 44 3 1 9999 A71.2 = A91 at eZ hpl hcn hc1 ⊢
        refine lv_if_eq (tgt := 148) hx hb d_Ps_readPart_94 (by decide) (fun c94 => ?_) (fun c94 => ?_)
        · refine lv_iconst (v := 0) hx hb d_Ps_readPart_148 (by decide) ?_
          exact x_rz E hr hS rfl (by rw [ps_part, if_neg (by rw [hk0]; decide), hk0, show ((1 : Int32)).toNatClampNeg = 1 from rfl, ps_p1, hA50, ps_and, if_neg c53, ps_p2, hA71, ps_and, if_neg c74, ps_p3, if_pos rfl, hA91, ps_and, if_pos c94]; exact ⟨rfl, hQ, eZ, hpl, hcn⟩) hP hD d_Ps_readPart_149
        · refine lv_iload_n hx hb d_Ps_readPart_97 rfl (lv_at hl 0 rfl) ?_
          refine lv_iconst (v := 4) hx hb d_Ps_readPart_98 (by decide) ?_
          refine lv_icmp_eq (tgt := 116) hx hb d_Ps_readPart_99 (by decide) (fun c99 => absurd c99 (by decide)) (fun c99 => ?_)
          refine lv_aload_n hx hb d_Ps_readPart_102 rfl (lv_at hl 1 rfl) ?_
          refine lv_aload_n hx hb d_Ps_readPart_103 rfl (lv_at hl 2 rfl) ?_
          refine lv_bipush (v := 62) hx hb d_Ps_readPart_104 (by decide) ?_
          refine lv_iconst (v := 4) hx hb d_Ps_readPart_106 (by decide) ?_
          refine lv_iconst (v := 0) hx hb d_Ps_readPart_107 (by decide) ?_
          refine lv_bipush (v := 29) hx hb d_Ps_readPart_108 (by decide) ?_
          refine x_cVi (As := [.ref hm, .int 62, .int 4, .int 0, .int 29]) (rest := []) E (c_Ps_readValue l g b0 _ hd hn eZ hpl hcn hc1 62 4 0 29 (by decide) 4 rfl (by decide)) wy_Ps_readValue wl_Ps_51 hP hD hS eZ.1 rfl hl.1 ⟨by decide, by decide⟩ ⟨Nat.le_refl _, Nat.le_refl _⟩ rfl (Nat.le_of_ble_eq_true rfl) d_Ps_readPart_110 (fun r110 w6 H locs hr110 hP hD hS => ?_)
          obtain ⟨rfl, hq, eZ, hpl, hcn⟩ := hr110
          have hQ := hQ.tr hq
          have hc1 : 1 ≤ (ps_value f n 62 4 0 29 A91.2).2.2.2.2 := by rw [ps_value_cn]; exact hc1
          generalize hA110 : ps_value f n 62 4 0 29 A91.2 = A110 at eZ hpl hcn hc1 ⊢
          refine lv_if_eq (tgt := 148) hx hb d_Ps_readPart_113 (by decide) (fun c113 => ?_) (fun c113 => ?_)
          · refine lv_iconst (v := 0) hx hb d_Ps_readPart_148 (by decide) ?_
            exact x_rz E hr hS rfl (by rw [ps_part, if_neg (by rw [hk0]; decide), hk0, show ((1 : Int32)).toNatClampNeg = 1 from rfl, ps_p1, hA50, ps_and, if_neg c53, ps_p2, hA71, ps_and, if_neg c74, ps_p3, if_pos rfl, hA91, ps_and, if_neg c94, ps_p4, if_neg (by decide), hA110, ps_and, if_pos c113]; exact ⟨rfl, hQ, eZ, hpl, hcn⟩) hP hD d_Ps_readPart_149
          · refine lv_iload_n hx hb d_Ps_readPart_116 rfl (lv_at hl 0 rfl) ?_
            refine lv_iconst (v := 3) hx hb d_Ps_readPart_117 (by decide) ?_
            refine lv_icmp_ne (tgt := 135) hx hb d_Ps_readPart_118 (by decide) (fun c118 => ?_) (fun c118 => absurd c118 (by decide))
            refine lv_aload_n hx hb d_Ps_readPart_135 rfl (lv_at hl 1 rfl) ?_
            refine lv_bipush (v := 59) hx hb d_Ps_readPart_136 (by decide) ?_
            refine x_cVi (As := [.int 59]) (rest := []) E (c_Ps_skip l g b0 _ hd hn eZ hpl hcn 59 (by decide)) wy_Ps_skip wl_Ps_55 hP hD hS eZ.1 rfl hl.1 ⟨by decide, by decide⟩ ⟨Nat.le_refl _, Nat.le_refl _⟩ rfl (Nat.le_of_ble_eq_true rfl) d_Ps_readPart_138 (fun r138 w7 H locs hr138 hP hD hS => ?_)
            obtain ⟨rfl, hq, eZ, hpl, hcn⟩ := hr138
            have hQ := hQ.tr hq
            have h01 := ps_skip_01 f n 59 A110.2
            generalize hA138 : ps_skip f n 59 A110.2 = A138 at eZ hpl hcn h01 ⊢
            refine lv_if_eq (tgt := 148) hx hb d_Ps_readPart_141 (by decide) (fun c141 => ?_) (fun c141 => ?_)
            · refine lv_iconst (v := 0) hx hb d_Ps_readPart_148 (by decide) ?_
              exact x_rz E hr hS rfl (by rw [ps_part, if_neg (by rw [hk0]; decide), hk0, show ((1 : Int32)).toNatClampNeg = 1 from rfl, ps_p1, hA50, ps_and, if_neg c53, ps_p2, hA71, ps_and, if_neg c74, ps_p3, if_pos rfl, hA91, ps_and, if_neg c94, ps_p4, if_neg (by decide), hA110, ps_and, if_neg c113, ps_p5, if_neg (by decide), ps_and_1, hA138]; exact ⟨c141.symm, hQ, eZ, hpl, hcn⟩) hP hD d_Ps_readPart_149
            · refine lv_iconst (v := 1) hx hb d_Ps_readPart_144 (by decide) ?_
              refine lv_goto (tgt := 149) hx hb d_Ps_readPart_145 (by decide) ?_
              exact x_rz E hr hS rfl (by rw [ps_part, if_neg (by rw [hk0]; decide), hk0, show ((1 : Int32)).toNatClampNeg = 1 from rfl, ps_p1, hA50, ps_and, if_neg c53, ps_p2, hA71, ps_and, if_neg c74, ps_p3, if_pos rfl, hA91, ps_and, if_neg c94, ps_p4, if_neg (by decide), hA110, ps_and, if_neg c113, ps_p5, if_neg (by decide), ps_and_1, hA138]; exact ⟨(h01.resolve_left c141).symm, hQ, eZ, hpl, hcn⟩) hP hD d_Ps_readPart_149
  · refine x_top (y := 2) hk0 ?_
    refine lv_istore_n (lv' := [(2, .int 2), (0, .ref hp), (1, .ref hm)]) hx hb d_Ps_readPart_14 rfl hl (by decide) rfl (fun ls hl => ?_)
    refine lv_iload_n hx hb d_Ps_readPart_15 rfl (lv_at hl 0 rfl) ?_
    refine lv_if_lt (tgt := 35) hx hb d_Ps_readPart_16 (by decide) (fun c16 => absurd c16 (by decide)) (fun c16 => ?_)
    refine lv_iload_n hx hb d_Ps_readPart_19 rfl (lv_at hl 0 rfl) ?_
    refine x_gets_A_Ps E hS d_Ps_readPart_20 ?_
    refine x_len_A E hS d_Ps_readPart_23 ?_
    refine lv_icmp_ge (tgt := 35) hx hb d_Ps_readPart_24 (by decide) (fun c24 => absurd c24 (by decide)) (fun c24 => ?_)
    refine lv_iload_n hx hb d_Ps_readPart_27 rfl (lv_at hl 0 rfl) ?_
    refine x_gets_B_Ps E hS d_Ps_readPart_28 ?_
    refine x_len_B E hS d_Ps_readPart_31 ?_
    refine lv_icmp_lt (tgt := 37) hx hb d_Ps_readPart_32 (by decide) (fun c32 => ?_) (fun c32 => absurd (by decide) c32)
    refine lv_aload_n hx hb d_Ps_readPart_37 rfl (lv_at hl 1 rfl) ?_
    refine lv_dup hx hb d_Ps_readPart_38 rfl ?_
    refine x_get E hP eZ.1 rfl cl3_in 1 (by decide) wf_Ps_15 rfl d_Ps_readPart_39 ?_
    refine lv_iconst (v := 1) hx hb d_Ps_readPart_42 (by decide) ?_
    refine lv_iadd hx hb d_Ps_readPart_43 ?_
    refine x_top (y := nI (z.1 + 1)) (nI_1 z.1) ?_
    have hpl : z.1 + 1 ≤ n := tx_at_ne hpl hn (fun q => by rw [q, ps_kind_m1] at hk0; exact absurd hk0 (by decide))
    refine x_put E hP hD hS eZ.1 rfl cl3_in cl3_ty cl3_nm 1 (by decide) wf_Ps_15 rfl rfl rfl (Nat.le_of_ble_eq_true rfl) d_Ps_readPart_44 (fun w2 H locs hU2 hP hD hS => ?_)
    have hQ := hQ.up hU2
    have eZ := eZ.pl hd (p' := z.1 + 1) hU2
    refine lv_aload_n hx hb d_Ps_readPart_47 rfl (lv_at hl 1 rfl) ?_
    refine lv_aload_n hx hb d_Ps_readPart_48 rfl (lv_at hl 2 rfl) ?_
    refine lv_iload_n hx hb d_Ps_readPart_49 rfl (lv_at hl 0 rfl) ?_
    refine x_cVi (As := [.ref hm, .int 2]) (rest := []) E (c_Ps_readNewName l g b0 _ hd hn eZ hpl hcn (nI 2)) wy_Ps_readNewName wl_Ps_47 hP hD hS eZ.1 rfl hl.1 ⟨by decide, by decide⟩ ⟨Nat.le_refl _, Nat.le_refl _⟩ rfl (Nat.le_of_ble_eq_true rfl) d_Ps_readPart_50 (fun r50 w3 H locs hr50 hP hD hS => ?_)
    obtain ⟨rfl, hq, eZ, hpl, hcn⟩ := hr50
    have hQ := hQ.tr hq
    have hc9 := ps_name_cn (f := f) (n := n) (kd := nI 2) (z := (z.1 + 1, z.2))
    generalize hA50 : ps_name f n (nI 2) (z.1 + 1, z.2) = A50 at eZ hpl hcn hc9 ⊢
    refine lv_if_eq (tgt := 148) hx hb d_Ps_readPart_53 (by decide) (fun c53 => ?_) (fun c53 => ?_)
    · refine lv_iconst (v := 0) hx hb d_Ps_readPart_148 (by decide) ?_
      exact x_rz E hr hS rfl (by rw [ps_part, if_neg (by rw [hk0]; decide), hk0, show ((2 : Int32)).toNatClampNeg = 2 from rfl, ps_p1, hA50, ps_and, if_pos c53]; exact ⟨rfl, hQ, eZ, hpl, hcn⟩) hP hD d_Ps_readPart_149
    · have hc1 := hc9.2 c53
      replace hc1 := Nat.le_of_eq hc1.symm
      replace hc1 := Nat.le_trans (Nat.le_add_left 1 _) hc1
      refine lv_aload_n hx hb d_Ps_readPart_56 rfl (lv_at hl 1 rfl) ?_
      refine lv_aload_n hx hb d_Ps_readPart_57 rfl (lv_at hl 2 rfl) ?_
      refine lv_bipush (v := 61) hx hb d_Ps_readPart_58 (by decide) ?_
      refine lv_iconst (v := 2) hx hb d_Ps_readPart_60 (by decide) ?_
      refine x_gets_A_Ps E hS d_Ps_readPart_61 ?_
      refine lv_iload_n hx hb d_Ps_readPart_64 rfl (lv_at hl 0 rfl) ?_
      refine x_tab_A E hS rfl (by decide) d_Ps_readPart_65 ?_
      refine x_gets_B_Ps E hS d_Ps_readPart_66 ?_
      refine lv_iload_n hx hb d_Ps_readPart_69 rfl (lv_at hl 0 rfl) ?_
      refine x_tab_B E hS rfl (by decide) d_Ps_readPart_70 ?_
      refine x_cVi (As := [.ref hm, .int 61, .int 2, .int (xLo 2), .int (xHi 2)]) (rest := []) E (c_Ps_readValue l g b0 _ hd hn eZ hpl hcn hc1 61 2 (xLo 2) (xHi 2) (by decide) 2 rfl (by decide)) wy_Ps_readValue wl_Ps_51 hP hD hS eZ.1 rfl hl.1 ⟨by decide, by decide⟩ ⟨Nat.le_refl _, Nat.le_refl _⟩ rfl (Nat.le_of_ble_eq_true rfl) d_Ps_readPart_71 (fun r71 w4 H locs hr71 hP hD hS => ?_)
      obtain ⟨rfl, hq, eZ, hpl, hcn⟩ := hr71
      have hQ := hQ.tr hq
      have hc1 : 1 ≤ (ps_value f n 61 2 (xLo 2) (xHi 2) A50.2).2.2.2.2 := by rw [ps_value_cn]; exact hc1
      generalize hA71 : ps_value f n 61 2 (xLo 2) (xHi 2) A50.2 = A71 at eZ hpl hcn hc1 ⊢
      refine lv_if_eq (tgt := 148) hx hb d_Ps_readPart_74 (by decide) (fun c74 => ?_) (fun c74 => ?_)
      · refine lv_iconst (v := 0) hx hb d_Ps_readPart_148 (by decide) ?_
        exact x_rz E hr hS rfl (by rw [ps_part, if_neg (by rw [hk0]; decide), hk0, show ((2 : Int32)).toNatClampNeg = 2 from rfl, ps_p1, hA50, ps_and, if_neg c53, ps_p2, hA71, ps_and, if_pos c74]; exact ⟨rfl, hQ, eZ, hpl, hcn⟩) hP hD d_Ps_readPart_149
      · refine lv_iload_n hx hb d_Ps_readPart_77 rfl (lv_at hl 0 rfl) ?_
        refine lv_iconst (v := 1) hx hb d_Ps_readPart_78 (by decide) ?_
        refine lv_icmp_ne (tgt := 97) hx hb d_Ps_readPart_79 (by decide) (fun c79 => ?_) (fun c79 => absurd c79 (by decide))
        refine lv_iload_n hx hb d_Ps_readPart_97 rfl (lv_at hl 0 rfl) ?_
        refine lv_iconst (v := 4) hx hb d_Ps_readPart_98 (by decide) ?_
        refine lv_icmp_eq (tgt := 116) hx hb d_Ps_readPart_99 (by decide) (fun c99 => absurd c99 (by decide)) (fun c99 => ?_)
        refine lv_aload_n hx hb d_Ps_readPart_102 rfl (lv_at hl 1 rfl) ?_
        refine lv_aload_n hx hb d_Ps_readPart_103 rfl (lv_at hl 2 rfl) ?_
        refine lv_bipush (v := 62) hx hb d_Ps_readPart_104 (by decide) ?_
        refine lv_iconst (v := 4) hx hb d_Ps_readPart_106 (by decide) ?_
        refine lv_iconst (v := 0) hx hb d_Ps_readPart_107 (by decide) ?_
        refine lv_bipush (v := 29) hx hb d_Ps_readPart_108 (by decide) ?_
        refine x_cVi (As := [.ref hm, .int 62, .int 4, .int 0, .int 29]) (rest := []) E (c_Ps_readValue l g b0 _ hd hn eZ hpl hcn hc1 62 4 0 29 (by decide) 4 rfl (by decide)) wy_Ps_readValue wl_Ps_51 hP hD hS eZ.1 rfl hl.1 ⟨by decide, by decide⟩ ⟨Nat.le_refl _, Nat.le_refl _⟩ rfl (Nat.le_of_ble_eq_true rfl) d_Ps_readPart_110 (fun r110 w5 H locs hr110 hP hD hS => ?_)
        obtain ⟨rfl, hq, eZ, hpl, hcn⟩ := hr110
        have hQ := hQ.tr hq
        have hc1 : 1 ≤ (ps_value f n 62 4 0 29 A71.2).2.2.2.2 := by rw [ps_value_cn]; exact hc1
        generalize hA110 : ps_value f n 62 4 0 29 A71.2 = A110 at eZ hpl hcn hc1 ⊢
        refine lv_if_eq (tgt := 148) hx hb d_Ps_readPart_113 (by decide) (fun c113 => ?_) (fun c113 => ?_)
        · refine lv_iconst (v := 0) hx hb d_Ps_readPart_148 (by decide) ?_
          exact x_rz E hr hS rfl (by rw [ps_part, if_neg (by rw [hk0]; decide), hk0, show ((2 : Int32)).toNatClampNeg = 2 from rfl, ps_p1, hA50, ps_and, if_neg c53, ps_p2, hA71, ps_and, if_neg c74, ps_p3, if_neg (by decide), ps_and_1, ps_p4, if_neg (by decide), hA110, ps_and, if_pos c113]; exact ⟨rfl, hQ, eZ, hpl, hcn⟩) hP hD d_Ps_readPart_149
        · refine lv_iload_n hx hb d_Ps_readPart_116 rfl (lv_at hl 0 rfl) ?_
          refine lv_iconst (v := 3) hx hb d_Ps_readPart_117 (by decide) ?_
          refine lv_icmp_ne (tgt := 135) hx hb d_Ps_readPart_118 (by decide) (fun c118 => ?_) (fun c118 => absurd c118 (by decide))
          refine lv_aload_n hx hb d_Ps_readPart_135 rfl (lv_at hl 1 rfl) ?_
          refine lv_bipush (v := 59) hx hb d_Ps_readPart_136 (by decide) ?_
          refine x_cVi (As := [.int 59]) (rest := []) E (c_Ps_skip l g b0 _ hd hn eZ hpl hcn 59 (by decide)) wy_Ps_skip wl_Ps_55 hP hD hS eZ.1 rfl hl.1 ⟨by decide, by decide⟩ ⟨Nat.le_refl _, Nat.le_refl _⟩ rfl (Nat.le_of_ble_eq_true rfl) d_Ps_readPart_138 (fun r138 w6 H locs hr138 hP hD hS => ?_)
          obtain ⟨rfl, hq, eZ, hpl, hcn⟩ := hr138
          have hQ := hQ.tr hq
          have h01 := ps_skip_01 f n 59 A110.2
          generalize hA138 : ps_skip f n 59 A110.2 = A138 at eZ hpl hcn h01 ⊢
          refine lv_if_eq (tgt := 148) hx hb d_Ps_readPart_141 (by decide) (fun c141 => ?_) (fun c141 => ?_)
          · refine lv_iconst (v := 0) hx hb d_Ps_readPart_148 (by decide) ?_
            exact x_rz E hr hS rfl (by rw [ps_part, if_neg (by rw [hk0]; decide), hk0, show ((2 : Int32)).toNatClampNeg = 2 from rfl, ps_p1, hA50, ps_and, if_neg c53, ps_p2, hA71, ps_and, if_neg c74, ps_p3, if_neg (by decide), ps_and_1, ps_p4, if_neg (by decide), hA110, ps_and, if_neg c113, ps_p5, if_neg (by decide), ps_and_1, hA138]; exact ⟨c141.symm, hQ, eZ, hpl, hcn⟩) hP hD d_Ps_readPart_149
          · refine lv_iconst (v := 1) hx hb d_Ps_readPart_144 (by decide) ?_
            refine lv_goto (tgt := 149) hx hb d_Ps_readPart_145 (by decide) ?_
            exact x_rz E hr hS rfl (by rw [ps_part, if_neg (by rw [hk0]; decide), hk0, show ((2 : Int32)).toNatClampNeg = 2 from rfl, ps_p1, hA50, ps_and, if_neg c53, ps_p2, hA71, ps_and, if_neg c74, ps_p3, if_neg (by decide), ps_and_1, ps_p4, if_neg (by decide), hA110, ps_and, if_neg c113, ps_p5, if_neg (by decide), ps_and_1, hA138]; exact ⟨(h01.resolve_left c141).symm, hQ, eZ, hpl, hcn⟩) hP hD d_Ps_readPart_149
  · refine x_top (y := 3) hk0 ?_
    refine lv_istore_n (lv' := [(2, .int 3), (0, .ref hp), (1, .ref hm)]) hx hb d_Ps_readPart_14 rfl hl (by decide) rfl (fun ls hl => ?_)
    refine lv_iload_n hx hb d_Ps_readPart_15 rfl (lv_at hl 0 rfl) ?_
    refine lv_if_lt (tgt := 35) hx hb d_Ps_readPart_16 (by decide) (fun c16 => absurd c16 (by decide)) (fun c16 => ?_)
    refine lv_iload_n hx hb d_Ps_readPart_19 rfl (lv_at hl 0 rfl) ?_
    refine x_gets_A_Ps E hS d_Ps_readPart_20 ?_
    refine x_len_A E hS d_Ps_readPart_23 ?_
    refine lv_icmp_ge (tgt := 35) hx hb d_Ps_readPart_24 (by decide) (fun c24 => absurd c24 (by decide)) (fun c24 => ?_)
    refine lv_iload_n hx hb d_Ps_readPart_27 rfl (lv_at hl 0 rfl) ?_
    refine x_gets_B_Ps E hS d_Ps_readPart_28 ?_
    refine x_len_B E hS d_Ps_readPart_31 ?_
    refine lv_icmp_lt (tgt := 37) hx hb d_Ps_readPart_32 (by decide) (fun c32 => ?_) (fun c32 => absurd (by decide) c32)
    refine lv_aload_n hx hb d_Ps_readPart_37 rfl (lv_at hl 1 rfl) ?_
    refine lv_dup hx hb d_Ps_readPart_38 rfl ?_
    refine x_get E hP eZ.1 rfl cl3_in 1 (by decide) wf_Ps_15 rfl d_Ps_readPart_39 ?_
    refine lv_iconst (v := 1) hx hb d_Ps_readPart_42 (by decide) ?_
    refine lv_iadd hx hb d_Ps_readPart_43 ?_
    refine x_top (y := nI (z.1 + 1)) (nI_1 z.1) ?_
    have hpl : z.1 + 1 ≤ n := tx_at_ne hpl hn (fun q => by rw [q, ps_kind_m1] at hk0; exact absurd hk0 (by decide))
    refine x_put E hP hD hS eZ.1 rfl cl3_in cl3_ty cl3_nm 1 (by decide) wf_Ps_15 rfl rfl rfl (Nat.le_of_ble_eq_true rfl) d_Ps_readPart_44 (fun w2 H locs hU2 hP hD hS => ?_)
    have hQ := hQ.up hU2
    have eZ := eZ.pl hd (p' := z.1 + 1) hU2
    refine lv_aload_n hx hb d_Ps_readPart_47 rfl (lv_at hl 1 rfl) ?_
    refine lv_aload_n hx hb d_Ps_readPart_48 rfl (lv_at hl 2 rfl) ?_
    refine lv_iload_n hx hb d_Ps_readPart_49 rfl (lv_at hl 0 rfl) ?_
    refine x_cVi (As := [.ref hm, .int 3]) (rest := []) E (c_Ps_readNewName l g b0 _ hd hn eZ hpl hcn (nI 3)) wy_Ps_readNewName wl_Ps_47 hP hD hS eZ.1 rfl hl.1 ⟨by decide, by decide⟩ ⟨Nat.le_refl _, Nat.le_refl _⟩ rfl (Nat.le_of_ble_eq_true rfl) d_Ps_readPart_50 (fun r50 w3 H locs hr50 hP hD hS => ?_)
    obtain ⟨rfl, hq, eZ, hpl, hcn⟩ := hr50
    have hQ := hQ.tr hq
    have hc9 := ps_name_cn (f := f) (n := n) (kd := nI 3) (z := (z.1 + 1, z.2))
    generalize hA50 : ps_name f n (nI 3) (z.1 + 1, z.2) = A50 at eZ hpl hcn hc9 ⊢
    refine lv_if_eq (tgt := 148) hx hb d_Ps_readPart_53 (by decide) (fun c53 => ?_) (fun c53 => ?_)
    · refine lv_iconst (v := 0) hx hb d_Ps_readPart_148 (by decide) ?_
      exact x_rz E hr hS rfl (by rw [ps_part, if_neg (by rw [hk0]; decide), hk0, show ((3 : Int32)).toNatClampNeg = 3 from rfl, ps_p1, hA50, ps_and, if_pos c53]; exact ⟨rfl, hQ, eZ, hpl, hcn⟩) hP hD d_Ps_readPart_149
    · have hc1 := hc9.2 c53
      replace hc1 := Nat.le_of_eq hc1.symm
      replace hc1 := Nat.le_trans (Nat.le_add_left 1 _) hc1
      refine lv_aload_n hx hb d_Ps_readPart_56 rfl (lv_at hl 1 rfl) ?_
      refine lv_aload_n hx hb d_Ps_readPart_57 rfl (lv_at hl 2 rfl) ?_
      refine lv_bipush (v := 61) hx hb d_Ps_readPart_58 (by decide) ?_
      refine lv_iconst (v := 2) hx hb d_Ps_readPart_60 (by decide) ?_
      refine x_gets_A_Ps E hS d_Ps_readPart_61 ?_
      refine lv_iload_n hx hb d_Ps_readPart_64 rfl (lv_at hl 0 rfl) ?_
      refine x_tab_A E hS rfl (by decide) d_Ps_readPart_65 ?_
      refine x_gets_B_Ps E hS d_Ps_readPart_66 ?_
      refine lv_iload_n hx hb d_Ps_readPart_69 rfl (lv_at hl 0 rfl) ?_
      refine x_tab_B E hS rfl (by decide) d_Ps_readPart_70 ?_
      refine x_cVi (As := [.ref hm, .int 61, .int 2, .int (xLo 3), .int (xHi 3)]) (rest := []) E (c_Ps_readValue l g b0 _ hd hn eZ hpl hcn hc1 61 2 (xLo 3) (xHi 3) (by decide) 2 rfl (by decide)) wy_Ps_readValue wl_Ps_51 hP hD hS eZ.1 rfl hl.1 ⟨by decide, by decide⟩ ⟨Nat.le_refl _, Nat.le_refl _⟩ rfl (Nat.le_of_ble_eq_true rfl) d_Ps_readPart_71 (fun r71 w4 H locs hr71 hP hD hS => ?_)
      obtain ⟨rfl, hq, eZ, hpl, hcn⟩ := hr71
      have hQ := hQ.tr hq
      have hc1 : 1 ≤ (ps_value f n 61 2 (xLo 3) (xHi 3) A50.2).2.2.2.2 := by rw [ps_value_cn]; exact hc1
      generalize hA71 : ps_value f n 61 2 (xLo 3) (xHi 3) A50.2 = A71 at eZ hpl hcn hc1 ⊢
      refine lv_if_eq (tgt := 148) hx hb d_Ps_readPart_74 (by decide) (fun c74 => ?_) (fun c74 => ?_)
      · refine lv_iconst (v := 0) hx hb d_Ps_readPart_148 (by decide) ?_
        exact x_rz E hr hS rfl (by rw [ps_part, if_neg (by rw [hk0]; decide), hk0, show ((3 : Int32)).toNatClampNeg = 3 from rfl, ps_p1, hA50, ps_and, if_neg c53, ps_p2, hA71, ps_and, if_pos c74]; exact ⟨rfl, hQ, eZ, hpl, hcn⟩) hP hD d_Ps_readPart_149
      · refine lv_iload_n hx hb d_Ps_readPart_77 rfl (lv_at hl 0 rfl) ?_
        refine lv_iconst (v := 1) hx hb d_Ps_readPart_78 (by decide) ?_
        refine lv_icmp_ne (tgt := 97) hx hb d_Ps_readPart_79 (by decide) (fun c79 => ?_) (fun c79 => absurd c79 (by decide))
        refine lv_iload_n hx hb d_Ps_readPart_97 rfl (lv_at hl 0 rfl) ?_
        refine lv_iconst (v := 4) hx hb d_Ps_readPart_98 (by decide) ?_
        refine lv_icmp_eq (tgt := 116) hx hb d_Ps_readPart_99 (by decide) (fun c99 => absurd c99 (by decide)) (fun c99 => ?_)
        refine lv_aload_n hx hb d_Ps_readPart_102 rfl (lv_at hl 1 rfl) ?_
        refine lv_aload_n hx hb d_Ps_readPart_103 rfl (lv_at hl 2 rfl) ?_
        refine lv_bipush (v := 62) hx hb d_Ps_readPart_104 (by decide) ?_
        refine lv_iconst (v := 4) hx hb d_Ps_readPart_106 (by decide) ?_
        refine lv_iconst (v := 0) hx hb d_Ps_readPart_107 (by decide) ?_
        refine lv_bipush (v := 29) hx hb d_Ps_readPart_108 (by decide) ?_
        refine x_cVi (As := [.ref hm, .int 62, .int 4, .int 0, .int 29]) (rest := []) E (c_Ps_readValue l g b0 _ hd hn eZ hpl hcn hc1 62 4 0 29 (by decide) 4 rfl (by decide)) wy_Ps_readValue wl_Ps_51 hP hD hS eZ.1 rfl hl.1 ⟨by decide, by decide⟩ ⟨Nat.le_refl _, Nat.le_refl _⟩ rfl (Nat.le_of_ble_eq_true rfl) d_Ps_readPart_110 (fun r110 w5 H locs hr110 hP hD hS => ?_)
        obtain ⟨rfl, hq, eZ, hpl, hcn⟩ := hr110
        have hQ := hQ.tr hq
        have hc1 : 1 ≤ (ps_value f n 62 4 0 29 A71.2).2.2.2.2 := by rw [ps_value_cn]; exact hc1
        generalize hA110 : ps_value f n 62 4 0 29 A71.2 = A110 at eZ hpl hcn hc1 ⊢
        refine lv_if_eq (tgt := 148) hx hb d_Ps_readPart_113 (by decide) (fun c113 => ?_) (fun c113 => ?_)
        · refine lv_iconst (v := 0) hx hb d_Ps_readPart_148 (by decide) ?_
          exact x_rz E hr hS rfl (by rw [ps_part, if_neg (by rw [hk0]; decide), hk0, show ((3 : Int32)).toNatClampNeg = 3 from rfl, ps_p1, hA50, ps_and, if_neg c53, ps_p2, hA71, ps_and, if_neg c74, ps_p3, if_neg (by decide), ps_and_1, ps_p4, if_neg (by decide), hA110, ps_and, if_pos c113]; exact ⟨rfl, hQ, eZ, hpl, hcn⟩) hP hD d_Ps_readPart_149
        · refine lv_iload_n hx hb d_Ps_readPart_116 rfl (lv_at hl 0 rfl) ?_
          refine lv_iconst (v := 3) hx hb d_Ps_readPart_117 (by decide) ?_
          refine lv_icmp_ne (tgt := 135) hx hb d_Ps_readPart_118 (by decide) (fun c118 => absurd (by decide) c118) (fun c118 => ?_)
          refine lv_aload_n hx hb d_Ps_readPart_121 rfl (lv_at hl 1 rfl) ?_
          refine lv_aload_n hx hb d_Ps_readPart_122 rfl (lv_at hl 2 rfl) ?_
          refine lv_bipush (v := 44) hx hb d_Ps_readPart_123 (by decide) ?_
          refine lv_iconst (v := 5) hx hb d_Ps_readPart_125 (by decide) ?_
          refine lv_iconst (v := 0) hx hb d_Ps_readPart_126 (by decide) ?_
          refine lv_bipush (v := 29) hx hb d_Ps_readPart_127 (by decide) ?_
          refine x_cVi (As := [.ref hm, .int 44, .int 5, .int 0, .int 29]) (rest := []) E (c_Ps_readValue l g b0 _ hd hn eZ hpl hcn hc1 44 5 0 29 (by decide) 5 rfl (by decide)) wy_Ps_readValue wl_Ps_51 hP hD hS eZ.1 rfl hl.1 ⟨by decide, by decide⟩ ⟨Nat.le_refl _, Nat.le_refl _⟩ rfl (Nat.le_of_ble_eq_true rfl) d_Ps_readPart_129 (fun r129 w6 H locs hr129 hP hD hS => ?_)
          obtain ⟨rfl, hq, eZ, hpl, hcn⟩ := hr129
          have hQ := hQ.tr hq
          have hc1 : 1 ≤ (ps_value f n 44 5 0 29 A110.2).2.2.2.2 := by rw [ps_value_cn]; exact hc1
          generalize hA129 : ps_value f n 44 5 0 29 A110.2 = A129 at eZ hpl hcn hc1 ⊢
          refine lv_if_eq (tgt := 148) hx hb d_Ps_readPart_132 (by decide) (fun c132 => ?_) (fun c132 => ?_)
          · refine lv_iconst (v := 0) hx hb d_Ps_readPart_148 (by decide) ?_
            exact x_rz E hr hS rfl (by rw [ps_part, if_neg (by rw [hk0]; decide), hk0, show ((3 : Int32)).toNatClampNeg = 3 from rfl, ps_p1, hA50, ps_and, if_neg c53, ps_p2, hA71, ps_and, if_neg c74, ps_p3, if_neg (by decide), ps_and_1, ps_p4, if_neg (by decide), hA110, ps_and, if_neg c113, ps_p5, if_pos rfl, hA129, ps_and, if_pos c132]; exact ⟨rfl, hQ, eZ, hpl, hcn⟩) hP hD d_Ps_readPart_149
          · refine lv_aload_n hx hb d_Ps_readPart_135 rfl (lv_at hl 1 rfl) ?_
            refine lv_bipush (v := 59) hx hb d_Ps_readPart_136 (by decide) ?_
            refine x_cVi (As := [.int 59]) (rest := []) E (c_Ps_skip l g b0 _ hd hn eZ hpl hcn 59 (by decide)) wy_Ps_skip wl_Ps_55 hP hD hS eZ.1 rfl hl.1 ⟨by decide, by decide⟩ ⟨Nat.le_refl _, Nat.le_refl _⟩ rfl (Nat.le_of_ble_eq_true rfl) d_Ps_readPart_138 (fun r138 w7 H locs hr138 hP hD hS => ?_)
            obtain ⟨rfl, hq, eZ, hpl, hcn⟩ := hr138
            have hQ := hQ.tr hq
            have h01 := ps_skip_01 f n 59 A129.2
            generalize hA138 : ps_skip f n 59 A129.2 = A138 at eZ hpl hcn h01 ⊢
            refine lv_if_eq (tgt := 148) hx hb d_Ps_readPart_141 (by decide) (fun c141 => ?_) (fun c141 => ?_)
            · refine lv_iconst (v := 0) hx hb d_Ps_readPart_148 (by decide) ?_
              exact x_rz E hr hS rfl (by rw [ps_part, if_neg (by rw [hk0]; decide), hk0, show ((3 : Int32)).toNatClampNeg = 3 from rfl, ps_p1, hA50, ps_and, if_neg c53, ps_p2, hA71, ps_and, if_neg c74, ps_p3, if_neg (by decide), ps_and_1, ps_p4, if_neg (by decide), hA110, ps_and, if_neg c113, ps_p5, if_pos rfl, hA129, ps_and, if_neg c132, hA138]; exact ⟨c141.symm, hQ, eZ, hpl, hcn⟩) hP hD d_Ps_readPart_149
            · refine lv_iconst (v := 1) hx hb d_Ps_readPart_144 (by decide) ?_
              refine lv_goto (tgt := 149) hx hb d_Ps_readPart_145 (by decide) ?_
              exact x_rz E hr hS rfl (by rw [ps_part, if_neg (by rw [hk0]; decide), hk0, show ((3 : Int32)).toNatClampNeg = 3 from rfl, ps_p1, hA50, ps_and, if_neg c53, ps_p2, hA71, ps_and, if_neg c74, ps_p3, if_neg (by decide), ps_and_1, ps_p4, if_neg (by decide), hA110, ps_and, if_neg c113, ps_p5, if_pos rfl, hA129, ps_and, if_neg c132, hA138]; exact ⟨(h01.resolve_left c141).symm, hQ, eZ, hpl, hcn⟩) hP hD d_Ps_readPart_149
  · refine x_top (y := 4) hk0 ?_
    refine lv_istore_n (lv' := [(2, .int 4), (0, .ref hp), (1, .ref hm)]) hx hb d_Ps_readPart_14 rfl hl (by decide) rfl (fun ls hl => ?_)
    refine lv_iload_n hx hb d_Ps_readPart_15 rfl (lv_at hl 0 rfl) ?_
    refine lv_if_lt (tgt := 35) hx hb d_Ps_readPart_16 (by decide) (fun c16 => absurd c16 (by decide)) (fun c16 => ?_)
    refine lv_iload_n hx hb d_Ps_readPart_19 rfl (lv_at hl 0 rfl) ?_
    refine x_gets_A_Ps E hS d_Ps_readPart_20 ?_
    refine x_len_A E hS d_Ps_readPart_23 ?_
    refine lv_icmp_ge (tgt := 35) hx hb d_Ps_readPart_24 (by decide) (fun c24 => absurd c24 (by decide)) (fun c24 => ?_)
    refine lv_iload_n hx hb d_Ps_readPart_27 rfl (lv_at hl 0 rfl) ?_
    refine x_gets_B_Ps E hS d_Ps_readPart_28 ?_
    refine x_len_B E hS d_Ps_readPart_31 ?_
    refine lv_icmp_lt (tgt := 37) hx hb d_Ps_readPart_32 (by decide) (fun c32 => ?_) (fun c32 => absurd (by decide) c32)
    refine lv_aload_n hx hb d_Ps_readPart_37 rfl (lv_at hl 1 rfl) ?_
    refine lv_dup hx hb d_Ps_readPart_38 rfl ?_
    refine x_get E hP eZ.1 rfl cl3_in 1 (by decide) wf_Ps_15 rfl d_Ps_readPart_39 ?_
    refine lv_iconst (v := 1) hx hb d_Ps_readPart_42 (by decide) ?_
    refine lv_iadd hx hb d_Ps_readPart_43 ?_
    refine x_top (y := nI (z.1 + 1)) (nI_1 z.1) ?_
    have hpl : z.1 + 1 ≤ n := tx_at_ne hpl hn (fun q => by rw [q, ps_kind_m1] at hk0; exact absurd hk0 (by decide))
    refine x_put E hP hD hS eZ.1 rfl cl3_in cl3_ty cl3_nm 1 (by decide) wf_Ps_15 rfl rfl rfl (Nat.le_of_ble_eq_true rfl) d_Ps_readPart_44 (fun w2 H locs hU2 hP hD hS => ?_)
    have hQ := hQ.up hU2
    have eZ := eZ.pl hd (p' := z.1 + 1) hU2
    refine lv_aload_n hx hb d_Ps_readPart_47 rfl (lv_at hl 1 rfl) ?_
    refine lv_aload_n hx hb d_Ps_readPart_48 rfl (lv_at hl 2 rfl) ?_
    refine lv_iload_n hx hb d_Ps_readPart_49 rfl (lv_at hl 0 rfl) ?_
    refine x_cVi (As := [.ref hm, .int 4]) (rest := []) E (c_Ps_readNewName l g b0 _ hd hn eZ hpl hcn (nI 4)) wy_Ps_readNewName wl_Ps_47 hP hD hS eZ.1 rfl hl.1 ⟨by decide, by decide⟩ ⟨Nat.le_refl _, Nat.le_refl _⟩ rfl (Nat.le_of_ble_eq_true rfl) d_Ps_readPart_50 (fun r50 w3 H locs hr50 hP hD hS => ?_)
    obtain ⟨rfl, hq, eZ, hpl, hcn⟩ := hr50
    have hQ := hQ.tr hq
    have hc9 := ps_name_cn (f := f) (n := n) (kd := nI 4) (z := (z.1 + 1, z.2))
    generalize hA50 : ps_name f n (nI 4) (z.1 + 1, z.2) = A50 at eZ hpl hcn hc9 ⊢
    refine lv_if_eq (tgt := 148) hx hb d_Ps_readPart_53 (by decide) (fun c53 => ?_) (fun c53 => ?_)
    · refine lv_iconst (v := 0) hx hb d_Ps_readPart_148 (by decide) ?_
      exact x_rz E hr hS rfl (by rw [ps_part, if_neg (by rw [hk0]; decide), hk0, show ((4 : Int32)).toNatClampNeg = 4 from rfl, ps_p1, hA50, ps_and, if_pos c53]; exact ⟨rfl, hQ, eZ, hpl, hcn⟩) hP hD d_Ps_readPart_149
    · have hc1 := hc9.2 c53
      replace hc1 := Nat.le_of_eq hc1.symm
      replace hc1 := Nat.le_trans (Nat.le_add_left 1 _) hc1
      refine lv_aload_n hx hb d_Ps_readPart_56 rfl (lv_at hl 1 rfl) ?_
      refine lv_aload_n hx hb d_Ps_readPart_57 rfl (lv_at hl 2 rfl) ?_
      refine lv_bipush (v := 61) hx hb d_Ps_readPart_58 (by decide) ?_
      refine lv_iconst (v := 2) hx hb d_Ps_readPart_60 (by decide) ?_
      refine x_gets_A_Ps E hS d_Ps_readPart_61 ?_
      refine lv_iload_n hx hb d_Ps_readPart_64 rfl (lv_at hl 0 rfl) ?_
      refine x_tab_A E hS rfl (by decide) d_Ps_readPart_65 ?_
      refine x_gets_B_Ps E hS d_Ps_readPart_66 ?_
      refine lv_iload_n hx hb d_Ps_readPart_69 rfl (lv_at hl 0 rfl) ?_
      refine x_tab_B E hS rfl (by decide) d_Ps_readPart_70 ?_
      refine x_cVi (As := [.ref hm, .int 61, .int 2, .int (xLo 4), .int (xHi 4)]) (rest := []) E (c_Ps_readValue l g b0 _ hd hn eZ hpl hcn hc1 61 2 (xLo 4) (xHi 4) (by decide) 2 rfl (by decide)) wy_Ps_readValue wl_Ps_51 hP hD hS eZ.1 rfl hl.1 ⟨by decide, by decide⟩ ⟨Nat.le_refl _, Nat.le_refl _⟩ rfl (Nat.le_of_ble_eq_true rfl) d_Ps_readPart_71 (fun r71 w4 H locs hr71 hP hD hS => ?_)
      obtain ⟨rfl, hq, eZ, hpl, hcn⟩ := hr71
      have hQ := hQ.tr hq
      have hc1 : 1 ≤ (ps_value f n 61 2 (xLo 4) (xHi 4) A50.2).2.2.2.2 := by rw [ps_value_cn]; exact hc1
      generalize hA71 : ps_value f n 61 2 (xLo 4) (xHi 4) A50.2 = A71 at eZ hpl hcn hc1 ⊢
      refine lv_if_eq (tgt := 148) hx hb d_Ps_readPart_74 (by decide) (fun c74 => ?_) (fun c74 => ?_)
      · refine lv_iconst (v := 0) hx hb d_Ps_readPart_148 (by decide) ?_
        exact x_rz E hr hS rfl (by rw [ps_part, if_neg (by rw [hk0]; decide), hk0, show ((4 : Int32)).toNatClampNeg = 4 from rfl, ps_p1, hA50, ps_and, if_neg c53, ps_p2, hA71, ps_and, if_pos c74]; exact ⟨rfl, hQ, eZ, hpl, hcn⟩) hP hD d_Ps_readPart_149
      · refine lv_iload_n hx hb d_Ps_readPart_77 rfl (lv_at hl 0 rfl) ?_
        refine lv_iconst (v := 1) hx hb d_Ps_readPart_78 (by decide) ?_
        refine lv_icmp_ne (tgt := 97) hx hb d_Ps_readPart_79 (by decide) (fun c79 => ?_) (fun c79 => absurd c79 (by decide))
        refine lv_iload_n hx hb d_Ps_readPart_97 rfl (lv_at hl 0 rfl) ?_
        refine lv_iconst (v := 4) hx hb d_Ps_readPart_98 (by decide) ?_
        refine lv_icmp_eq (tgt := 116) hx hb d_Ps_readPart_99 (by decide) (fun c99 => ?_) (fun c99 => absurd (by decide) c99)
        refine lv_iload_n hx hb d_Ps_readPart_116 rfl (lv_at hl 0 rfl) ?_
        refine lv_iconst (v := 3) hx hb d_Ps_readPart_117 (by decide) ?_
        refine lv_icmp_ne (tgt := 135) hx hb d_Ps_readPart_118 (by decide) (fun c118 => ?_) (fun c118 => absurd c118 (by decide))
        refine lv_aload_n hx hb d_Ps_readPart_135 rfl (lv_at hl 1 rfl) ?_
        refine lv_bipush (v := 59) hx hb d_Ps_readPart_136 (by decide) ?_
        refine x_cVi (As := [.int 59]) (rest := []) E (c_Ps_skip l g b0 _ hd hn eZ hpl hcn 59 (by decide)) wy_Ps_skip wl_Ps_55 hP hD hS eZ.1 rfl hl.1 ⟨by decide, by decide⟩ ⟨Nat.le_refl _, Nat.le_refl _⟩ rfl (Nat.le_of_ble_eq_true rfl) d_Ps_readPart_138 (fun r138 w5 H locs hr138 hP hD hS => ?_)
        obtain ⟨rfl, hq, eZ, hpl, hcn⟩ := hr138
        have hQ := hQ.tr hq
        have h01 := ps_skip_01 f n 59 A71.2
        generalize hA138 : ps_skip f n 59 A71.2 = A138 at eZ hpl hcn h01 ⊢
        refine lv_if_eq (tgt := 148) hx hb d_Ps_readPart_141 (by decide) (fun c141 => ?_) (fun c141 => ?_)
        · refine lv_iconst (v := 0) hx hb d_Ps_readPart_148 (by decide) ?_
          exact x_rz E hr hS rfl (by rw [ps_part, if_neg (by rw [hk0]; decide), hk0, show ((4 : Int32)).toNatClampNeg = 4 from rfl, ps_p1, hA50, ps_and, if_neg c53, ps_p2, hA71, ps_and, if_neg c74, ps_p3, if_neg (by decide), ps_and_1, ps_p4, if_pos rfl, ps_and_1, ps_p5, if_neg (by decide), ps_and_1, hA138]; exact ⟨c141.symm, hQ, eZ, hpl, hcn⟩) hP hD d_Ps_readPart_149
        · refine lv_iconst (v := 1) hx hb d_Ps_readPart_144 (by decide) ?_
          refine lv_goto (tgt := 149) hx hb d_Ps_readPart_145 (by decide) ?_
          exact x_rz E hr hS rfl (by rw [ps_part, if_neg (by rw [hk0]; decide), hk0, show ((4 : Int32)).toNatClampNeg = 4 from rfl, ps_p1, hA50, ps_and, if_neg c53, ps_p2, hA71, ps_and, if_neg c74, ps_p3, if_neg (by decide), ps_and_1, ps_p4, if_pos rfl, ps_and_1, ps_p5, if_neg (by decide), ps_and_1, hA138]; exact ⟨(h01.resolve_left c141).symm, hQ, eZ, hpl, hcn⟩) hP hD d_Ps_readPart_149
end
section
def ps_loop (f : Nat → Int32) (n : Nat) : Nat → Int32 × ps_S → Int32 × ps_S
  | 0, a => a
  | k + 1, a => if a.1 = 0 then a else if n ≤ a.2.1 then a else ps_loop f n k (ps_part f n a.2)
def ps_end (n : Nat) (a : Int32 × ps_S) : Int32 × ps_S := if a.1 = 0 then (0, a.2) else if a.2.1 = n then (1, a.2) else (0, a.2)
def ps_parts (f : Nat → Int32) (n : Nat) (z : ps_S) : Int32 × ps_S := ps_end n (ps_loop f n 23 (ps_part f n z))
set_option maxRecDepth 100000 in
set_option maxHeartbeats 4000000 in
theorem c_Ps_readParts (l : Launch) (g : xG) (b0 : Nat) (ws : va_W) {qp qt qm hp ht ta n hm om dm : Nat} {f : Nat → Int32} {rm : Nat → Nat} (hd : xAp qp qt qm) (hn : n ≤ 300) {z : ps_S} (eZ : xPz g ws qp qt qm hp ht ta f n hm om dm rm z) (hcn : z.2.2.2 ≤ 24) : xMi l g b0 y_Ps_readParts b_Ps_readParts 4 (some .boolean) 4 [.ref hp, .ref hm] ws (fun r u => ∃ ix0, (∀ j, j < 30 → ix0 j = -1) ∧ r = (ps_parts f n (0, z.2.1, ix0, 0)).1 ∧ xQ2 qp qm ws u ∧ xPz g u qp qt qm hp ht ta f n hm om dm rm ((ps_parts f n (0, z.2.1, ix0, 0)).2) ∧ (ps_parts f n (0, z.2.1, ix0, 0)).2.1 ≤ n ∧ (ps_parts f n (0, z.2.1, ix0, 0)).2.2.2.2 ≤ 24) := by
  unfold xMi
  refine x_in (by decide) (Nat.le_of_ble_eq_true rfl) ?_
  intro p e s m below meth c ls E hr hin hP hD hl
  obtain ⟨hx, hb, hml, hown, hts, hK, hZ, hb0, hlocks⟩ := id E
  have hS : va_S (xA b0) s.heap s.heap [] := va_S.rf
  have hl : lv_has ls 4 [(0, .ref hp), (1, .ref hm)] := hl
  have hQ : xQ2 qp qm ws ws := xQ2.rf
  refine lv_aload_n hx hb d_Ps_readParts_0 rfl (lv_at hl 1 rfl) ?_
  refine x_cVv (As := []) (rest := []) E (c_Mc_clear l g b0 _ eZ.2.2 hcn) wy_Mc_clear wl_Ps_19 hP hD hS eZ.2.2.1 rfl hl.1 ⟨by decide, by decide⟩ ⟨Nat.le_refl _, Nat.le_refl _⟩ rfl (Nat.le_of_ble_eq_true rfl) d_Ps_readParts_1 (fun w1 H locs hr1 hP hD hS => ?_)
  obtain ⟨hq, ix0, eM, hix0⟩ := hr1
  have hQ := hQ.mc hq
  have eZ := eZ.mc hd hq eM
  refine lv_aload_n hx hb d_Ps_readParts_4 rfl (lv_at hl 0 rfl) ?_
  refine lv_iconst (v := 0) hx hb d_Ps_readParts_5 (by decide) ?_
  refine x_put E hP hD hS eZ.1 rfl cl3_in cl3_ty cl3_nm 1 (by decide) wf_Ps_15 rfl rfl rfl (Nat.le_of_ble_eq_true rfl) d_Ps_readParts_6 (fun w2 H locs hU2 hP hD hS => ?_)
  have hQ := hQ.up hU2
  have eZ := eZ.pl hd (p' := 0) hU2
  refine lv_aload_n hx hb d_Ps_readParts_9 rfl (lv_at hl 0 rfl) ?_
  refine lv_aload_n hx hb d_Ps_readParts_10 rfl (lv_at hl 1 rfl) ?_
  refine x_cVi (As := [.ref hm]) (rest := []) E (c_Ps_readPart l g b0 _ hd hn eZ (Nat.zero_le _) (show (0 : Nat) < 24 by decide)) wy_Ps_readPart wl_Ps_24 hP hD hS eZ.1 rfl hl.1 ⟨by decide, by decide⟩ ⟨Nat.le_refl _, Nat.le_refl _⟩ rfl (Nat.le_of_ble_eq_true rfl) d_Ps_readParts_11 (fun r11 w3 H locs hr11 hP hD hS => ?_)
  obtain ⟨rfl, hq, eZ, hpl, hcn⟩ := hr11
  have hQ := hQ.tr hq
  have hc9 : (ps_part f n (0, z.2.1, ix0, 0)).2.2.2.2 ≤ 1 := ps_part_cn (f := f) (n := n) (z := (0, z.2.1, ix0, 0))
  generalize hB : ps_part f n (0, z.2.1, ix0, 0) = B at eZ hpl hcn hc9 ⊢
  refine lv_istore_n (lv' := [(2, .int B.1), (0, .ref hp), (1, .ref hm)]) hx hb d_Ps_readParts_14 rfl hl (by decide) rfl (fun ls hl => ?_)
  refine lv_iconst (v := 1) hx hb d_Ps_readParts_15 (by decide) ?_
  refine lv_istore_n (lv' := [(3, .int 1), (2, .int B.1), (0, .ref hp), (1, .ref hm)]) hx hb d_Ps_readParts_16 rfl hl (by decide) rfl (fun ls hl => ?_)
  have loop : ∀ (k i : Nat) (a : Int32 × ps_S) (v : va_W) (H : Heap) (locs : List Loc) (ls : Array Slot), (24 < i + k) → (1 ≤ i ∧ i ≤ 24) → (a.2.1 ≤ n) → (a.2.2.2.2 ≤ i) → (ps_loop f n 23 (ps_part f n (0, z.2.1, ix0, 0)) = ps_loop f n (24 - i) a) → (lv_has ls 4 [(3, .int (nI i)), (2, .int a.1), (0, .ref hp), (1, .ref hm)]) → (va_P (xD g) vwCl v H) → (va_D (xA b0) v) → (va_S (xA b0) s.heap H locs) → (xQ2 qp qm ws v) → (xPz g v qp qt qm hp ht ta f n hm om dm rm a.2) → W p l e (rmL 4) s m ([.ref hp, .ref hm] : List Value).toArray below meth c H locs 0 0 (MQ below (va_Qi (fun r u => ∃ ix0, (∀ j, j < 30 → ix0 j = -1) ∧ r = (ps_parts f n (0, z.2.1, ix0, 0)).1 ∧ xQ2 qp qm ws u ∧ xPz g u qp qt qm hp ht ta f n hm om dm rm ((ps_parts f n (0, z.2.1, ix0, 0)).2) ∧ (ps_parts f n (0, z.2.1, ix0, 0)).2.1 ≤ n ∧ (ps_parts f n (0, z.2.1, ix0, 0)).2.2.2.2 ≤ 24) (fun u t => va_P (xD g) vwCl u t.heap ∧ va_D (xA b0) u) (xA b0)) ([.ref hp, .ref hm] : List Value).toArray s 0 0 (xA b0)) (F0 m 17 ls []) := by
    intro k
    induction k with
    | zero =>
      intro i a v H locs ls hk hi hpl hcn hv hl hP hD hS hQ eZ
      omega
    | succ k ih =>
      intro i a v H locs ls hk hi hpl hcn hv hl hP hD hS hQ eZ
      refine lv_iload_n hx hb d_Ps_readParts_17 rfl (lv_at hl 0 rfl) ?_
      refine lv_bipush (v := 24) hx hb d_Ps_readParts_18 (by decide) ?_
      refine lv_icmp_ge (tgt := 53) hx hb d_Ps_readParts_20 (by decide) (fun c20 => ?_) (fun c20 => ?_)
      · have hi9 : i = 24 := by
          have := (nI_leI (a := 24) (by decide) (by omega)).mp c20
          omega
        rw [hi9] at hv
        have hv : ps_loop f n 23 (ps_part f n (0, z.2.1, ix0, 0)) = a := hv
        refine lv_iload_n hx hb d_Ps_readParts_53 rfl (lv_at hl 1 rfl) ?_
        refine lv_if_eq (tgt := 75) hx hb d_Ps_readParts_54 (by decide) (fun c54 => ?_) (fun c54 => ?_)
        · refine lv_iconst (v := 0) hx hb d_Ps_readParts_75 (by decide) ?_
          exact x_rz E hr hS rfl ⟨ix0, hix0, by rw [ps_parts, hv, ps_end, if_pos c54]; exact ⟨rfl, hQ, eZ, hpl, Nat.le_trans hcn hi.2⟩⟩ hP hD d_Ps_readParts_76
        · refine lv_aload_n hx hb d_Ps_readParts_57 rfl (lv_at hl 2 rfl) ?_
          refine x_get E hP eZ.1 rfl cl3_in 1 (by decide) wf_Ps_15 rfl d_Ps_readParts_58 ?_
          refine lv_aload_n hx hb d_Ps_readParts_61 rfl (lv_at hl 2 rfl) ?_
          refine x_get E hP eZ.1 rfl cl3_in 0 (by decide) wf_Ps_9 rfl d_Ps_readParts_62 ?_
          refine x_get E hP eZ.2.1.1 rfl cl1_in 1 (by decide) wf_Ps_28 rfl d_Ps_readParts_65 ?_
          refine lv_icmp_ne (tgt := 75) hx hb d_Ps_readParts_68 (by decide) (fun c68 => ?_) (fun c68 => ?_)
          · have h68 : ¬ a.2.1 = n := fun h => c68 (by rw [h])
            refine lv_iconst (v := 0) hx hb d_Ps_readParts_75 (by decide) ?_
            exact x_rz E hr hS rfl ⟨ix0, hix0, by rw [ps_parts, hv, ps_end, if_neg c54, if_neg h68]; exact ⟨rfl, hQ, eZ, hpl, Nat.le_trans hcn hi.2⟩⟩ hP hD d_Ps_readParts_76
          · have h68 : a.2.1 = n := (nI_eq (by omega) (by omega)).mp c68
            refine lv_iconst (v := 1) hx hb d_Ps_readParts_71 (by decide) ?_
            refine lv_goto (tgt := 76) hx hb d_Ps_readParts_72 (by decide) ?_
            exact x_rz E hr hS rfl ⟨ix0, hix0, by rw [ps_parts, hv, ps_end, if_neg c54, if_pos h68]; exact ⟨rfl, hQ, eZ, hpl, Nat.le_trans hcn hi.2⟩⟩ hP hD d_Ps_readParts_76
      · have hi9 : i < 24 := Nat.not_le.mp fun h => c20 (nI_le (a := 24) h (by omega))
        rw [show 24 - i = (24 - (i + 1)) + 1 by omega] at hv
        refine lv_iload_n hx hb d_Ps_readParts_23 rfl (lv_at hl 1 rfl) ?_
        refine lv_if_eq (tgt := 53) hx hb d_Ps_readParts_24 (by decide) (fun c24 => ?_) (fun c24 => ?_)
        · have hv : ps_loop f n 23 (ps_part f n (0, z.2.1, ix0, 0)) = a := by rw [hv, ps_loop, if_pos c24]
          refine lv_iload_n hx hb d_Ps_readParts_53 rfl (lv_at hl 1 rfl) ?_
          refine lv_if_eq (tgt := 75) hx hb d_Ps_readParts_54 (by decide) (fun c54 => ?_) (fun c54 => ?_)
          · refine lv_iconst (v := 0) hx hb d_Ps_readParts_75 (by decide) ?_
            exact x_rz E hr hS rfl ⟨ix0, hix0, by rw [ps_parts, hv, ps_end, if_pos c54]; exact ⟨rfl, hQ, eZ, hpl, Nat.le_trans hcn hi.2⟩⟩ hP hD d_Ps_readParts_76
          · refine lv_aload_n hx hb d_Ps_readParts_57 rfl (lv_at hl 2 rfl) ?_
            refine x_get E hP eZ.1 rfl cl3_in 1 (by decide) wf_Ps_15 rfl d_Ps_readParts_58 ?_
            refine lv_aload_n hx hb d_Ps_readParts_61 rfl (lv_at hl 2 rfl) ?_
            refine x_get E hP eZ.1 rfl cl3_in 0 (by decide) wf_Ps_9 rfl d_Ps_readParts_62 ?_
            refine x_get E hP eZ.2.1.1 rfl cl1_in 1 (by decide) wf_Ps_28 rfl d_Ps_readParts_65 ?_
            refine lv_icmp_ne (tgt := 75) hx hb d_Ps_readParts_68 (by decide) (fun c68 => ?_) (fun c68 => ?_)
            · have h68 : ¬ a.2.1 = n := fun h => c68 (by rw [h])
              refine lv_iconst (v := 0) hx hb d_Ps_readParts_75 (by decide) ?_
              exact x_rz E hr hS rfl ⟨ix0, hix0, by rw [ps_parts, hv, ps_end, if_neg c54, if_neg h68]; exact ⟨rfl, hQ, eZ, hpl, Nat.le_trans hcn hi.2⟩⟩ hP hD d_Ps_readParts_76
            · have h68 : a.2.1 = n := (nI_eq (by omega) (by omega)).mp c68
              refine lv_iconst (v := 1) hx hb d_Ps_readParts_71 (by decide) ?_
              refine lv_goto (tgt := 76) hx hb d_Ps_readParts_72 (by decide) ?_
              exact x_rz E hr hS rfl ⟨ix0, hix0, by rw [ps_parts, hv, ps_end, if_neg c54, if_pos h68]; exact ⟨rfl, hQ, eZ, hpl, Nat.le_trans hcn hi.2⟩⟩ hP hD d_Ps_readParts_76
        · refine lv_aload_n hx hb d_Ps_readParts_27 rfl (lv_at hl 2 rfl) ?_
          refine x_get E hP eZ.1 rfl cl3_in 1 (by decide) wf_Ps_15 rfl d_Ps_readParts_28 ?_
          refine lv_aload_n hx hb d_Ps_readParts_31 rfl (lv_at hl 2 rfl) ?_
          refine x_get E hP eZ.1 rfl cl3_in 0 (by decide) wf_Ps_9 rfl d_Ps_readParts_32 ?_
          refine x_get E hP eZ.2.1.1 rfl cl1_in 1 (by decide) wf_Ps_28 rfl d_Ps_readParts_35 ?_
          refine lv_icmp_ge (tgt := 53) hx hb d_Ps_readParts_38 (by decide) (fun c38 => ?_) (fun c38 => ?_)
          · have h38 : n ≤ a.2.1 := (nI_leI (by omega) (by omega)).mp c38
            have hv : ps_loop f n 23 (ps_part f n (0, z.2.1, ix0, 0)) = a := by rw [hv, ps_loop, if_neg c24, if_pos h38]
            refine lv_iload_n hx hb d_Ps_readParts_53 rfl (lv_at hl 1 rfl) ?_
            refine lv_if_eq (tgt := 75) hx hb d_Ps_readParts_54 (by decide) (fun c54 => ?_) (fun c54 => ?_)
            · refine lv_iconst (v := 0) hx hb d_Ps_readParts_75 (by decide) ?_
              exact x_rz E hr hS rfl ⟨ix0, hix0, by rw [ps_parts, hv, ps_end, if_pos c54]; exact ⟨rfl, hQ, eZ, hpl, Nat.le_trans hcn hi.2⟩⟩ hP hD d_Ps_readParts_76
            · refine lv_aload_n hx hb d_Ps_readParts_57 rfl (lv_at hl 2 rfl) ?_
              refine x_get E hP eZ.1 rfl cl3_in 1 (by decide) wf_Ps_15 rfl d_Ps_readParts_58 ?_
              refine lv_aload_n hx hb d_Ps_readParts_61 rfl (lv_at hl 2 rfl) ?_
              refine x_get E hP eZ.1 rfl cl3_in 0 (by decide) wf_Ps_9 rfl d_Ps_readParts_62 ?_
              refine x_get E hP eZ.2.1.1 rfl cl1_in 1 (by decide) wf_Ps_28 rfl d_Ps_readParts_65 ?_
              refine lv_icmp_ne (tgt := 75) hx hb d_Ps_readParts_68 (by decide) (fun c68 => ?_) (fun c68 => ?_)
              · have h68 : ¬ a.2.1 = n := fun h => c68 (by rw [h])
                refine lv_iconst (v := 0) hx hb d_Ps_readParts_75 (by decide) ?_
                exact x_rz E hr hS rfl ⟨ix0, hix0, by rw [ps_parts, hv, ps_end, if_neg c54, if_neg h68]; exact ⟨rfl, hQ, eZ, hpl, Nat.le_trans hcn hi.2⟩⟩ hP hD d_Ps_readParts_76
              · have h68 : a.2.1 = n := (nI_eq (by omega) (by omega)).mp c68
                refine lv_iconst (v := 1) hx hb d_Ps_readParts_71 (by decide) ?_
                refine lv_goto (tgt := 76) hx hb d_Ps_readParts_72 (by decide) ?_
                exact x_rz E hr hS rfl ⟨ix0, hix0, by rw [ps_parts, hv, ps_end, if_neg c54, if_pos h68]; exact ⟨rfl, hQ, eZ, hpl, Nat.le_trans hcn hi.2⟩⟩ hP hD d_Ps_readParts_76
          · have h38 : ¬ n ≤ a.2.1 := fun h => c38 (nI_le h (by omega))
            have hv : ps_loop f n 23 (ps_part f n (0, z.2.1, ix0, 0)) = ps_loop f n (24 - (i + 1)) (ps_part f n a.2) := by rw [hv, ps_loop, if_neg c24, if_neg h38]
            have hc9 := ps_part_cn (f := f) (n := n) (z := a.2)
            refine lv_aload_n hx hb d_Ps_readParts_41 rfl (lv_at hl 2 rfl) ?_
            refine lv_aload_n hx hb d_Ps_readParts_42 rfl (lv_at hl 3 rfl) ?_
            refine x_cVi (As := [.ref hm]) (rest := []) E (c_Ps_readPart l g b0 _ hd hn eZ hpl (by omega)) wy_Ps_readPart wl_Ps_24 hP hD hS eZ.1 rfl hl.1 ⟨by decide, by decide⟩ ⟨Nat.le_refl _, Nat.le_refl _⟩ rfl (Nat.le_of_ble_eq_true rfl) d_Ps_readParts_43 (fun r43 w54 H locs hr43 hP hD hS => ?_)
            obtain ⟨rfl, hq, eZ, hpl, hcn⟩ := hr43
            have hQ := hQ.tr hq
            generalize hB : ps_part f n a.2 = B at eZ hpl hcn hc9 hv ⊢
            refine lv_istore_n (lv' := [(2, .int B.1), (3, .int (nI i)), (0, .ref hp), (1, .ref hm)]) hx hb d_Ps_readParts_46 rfl hl (by decide) rfl (fun ls hl => ?_)
            refine lv_iinc (v := nI (i + 1)) (lv' := [(3, .int (nI (i + 1))), (2, .int B.1), (0, .ref hp), (1, .ref hm)]) hx hb d_Ps_readParts_47 hl (k := 1) rfl (nI_1 i) (by decide) rfl (fun ls hl => ?_)
            refine lv_goto (tgt := 17) hx hb d_Ps_readParts_50 (by decide) ?_
            exact ih (i + 1) B _ _ _ _ (by omega) (by omega) hpl (by omega) hv hl hP hD hS hQ eZ
  exact loop 24 1 B _ _ _ _ (by omega) (by omega) hpl hc9 (by rw [hB]) hl hP hD hS hQ eZ
end
section
/-! THE WHOLE OBJECT: its cells stand at the places 0 .. 54 -/
abbrev mc_S : Type := (Nat → Nat → Int32) × (Nat → Int32) × Nat
/-- text, printed, the parser's place, least times, faults, machine, spare -/
abbrev cl_S : Type := tx_S × tx_S × Nat × (Nat → Nat → Int32) × fl_S × mc_S × mc_S
def xCl (g : xG) (ws : va_W) (h0 : Nat) (σ : cl_S) : Prop := ∃ (ht tt hp tp hs ha oa hf of qa h1 o1 d1 qb h2 o2 d2 : Nat) (ra rf r1 r2 : Nat → Nat), ((qa = 37 ∧ qb = 46) ∨ (qa = 46 ∧ qb = 37)) ∧ ws[0]? = some (h0, .inr (0, [.ref ht, .ref hp, .ref hs, .ref ha, .ref hf, .ref h1, .ref h2])) ∧ xTs g ws 1 ht tt σ.1 ∧ xTs g ws 3 hp tp σ.2.1 ∧ ws[5]? = some (hs, .inr (3, [.ref ht, .int (nI σ.2.2.1)])) ∧ xPath g ws 6 ha oa ra σ.2.2.2.1 ∧ xFs g ws 32 hf of rf σ.2.2.2.2.1 ∧ xMach g ws qa h1 o1 d1 r1 σ.2.2.2.2.2.1.1 σ.2.2.2.2.2.1.2.1 σ.2.2.2.2.2.1.2.2 ∧ xMach g ws qb h2 o2 d2 r2 σ.2.2.2.2.2.2.1 σ.2.2.2.2.2.2.2.1 σ.2.2.2.2.2.2.2.2
def cl_ok (σ : cl_S) : Prop := σ.1.2 ≤ 300 ∧ σ.2.1.2 ≤ 300 ∧ σ.2.2.1 ≤ 300 ∧ σ.2.2.2.2.1.2 ≤ 168 ∧ σ.2.2.2.2.2.1.2.2 ≤ 24 ∧ σ.2.2.2.2.2.2.2.2 ≤ 24
theorem xTs.keep {g : xG} {ws w1 : va_W} {q h a lo hi : Nat} {s : tx_S} (H : xTs g ws q h a s) (hQ : xQ lo hi ws w1) (hd : q + 2 ≤ lo ∨ hi ≤ q) : xTs g w1 q h a s := xText.keep H hQ hd
theorem xFs.keep {g : xG} {ws w1 : va_W} {q h o lo hi : Nat} {r : Nat → Nat} {f : fl_S} (H : xFs g ws q h o r f) (hQ : xQ lo hi ws w1) (hd : q + 5 ≤ lo ∨ hi ≤ q) : xFs g w1 q h o r f := xFlt.keep H hQ hd
def cl_part (σ : cl_S) (i w : Int32) : Int32 := if w < 0 then -12 else if w < 6 then mc_val σ.2.2.2.2.2.1.1 σ.2.2.2.2.2.1.2.2 i w else -12
def cl_check (σ : cl_S) : Int32 := if nI σ.2.2.2.2.2.1.2.2 = 0 then -1 else nI σ.2.2.2.2.1.2
def cl_fault (σ : cl_S) (i w : Int32) : Int32 := if w < 0 then -12 else if w < 3 then fl_val σ.2.2.2.2.1.1 σ.2.2.2.2.1.2 i w else -12
abbrev cl_ix (σ : cl_S) (x : Int32) : Int32 := mc_ix σ.2.2.2.2.2.1.2.1 x
abbrev cl_val (σ : cl_S) (i w : Int32) : Int32 := mc_val σ.2.2.2.2.2.1.1 σ.2.2.2.2.2.1.2.2 i w
abbrev cl_gp (σ : cl_S) (i : Int32) : Int32 := pa_gp σ.2.2.2.2.2.1.1 σ.2.2.2.2.2.1.2.2 σ.2.2.2.1 i
def cl_reach (σ : cl_S) (x : Int32) : Int32 := if cl_ix σ x = -1 then -11 else if cl_val σ (cl_ix σ x) 0 = 4 then (if cl_gp σ (cl_ix σ x) = -1 then 0 else 1) else -13
def cl_gap (σ : cl_S) (x : Int32) : Int32 := if cl_ix σ x = -1 then -11 else cl_gp σ (cl_ix σ x)
def cl_time (σ : cl_S) (x y : Int32) : Int64 := if cl_ix σ x = -1 then -11 else if cl_ix σ y = -1 then -11 else if cl_ix σ x = cl_ix σ y then 0 else (pa_lt σ.2.2.2.1 (cl_ix σ x) (cl_ix σ y)).toInt64
def cl_suff (σ : cl_S) (x : Int32) (v : Int64) : Int32 := if cl_val σ (cl_ix σ x) 0 = 3 then (if 0 < lg_cmp (cl_val σ (cl_ix σ x) 2).toInt64 v then 0 else 1) else 0
def cl_at (σ : cl_S) (i : Int32) : Int32 := tx_at σ.2.1.1 σ.2.1.2 i
set_option maxRecDepth 100000 in
set_option maxHeartbeats 4000000 in
theorem c_MT_part (l : Launch) (g : xG) (b0 : Nat) (ws : va_W) {h0 : Nat} {σ : cl_S} (eC : xCl g ws h0 σ) (ho : cl_ok σ) (i x : Int32) : xRi l g b0 y_MT_part b_MT_part 3 (some .int) 1 [.ref h0, .int i, .int x] ws (fun r => r = cl_part σ i x) := by
  unfold xRi
  refine x_in (by decide) (Nat.le_of_ble_eq_true rfl) ?_
  intro p e s m below meth c ls E hr hin hP hD hl
  obtain ⟨hx, hb, hml, hown, hts, hK, hZ, hb0, hlocks⟩ := id E
  have hS : va_S (xA b0) s.heap s.heap [] := va_S.rf
  have hl : lv_has ls 3 [(0, .ref h0), (1, .int i), (2, .int x)] := hl
  obtain ⟨ht, tt, hp, tp, hs, ha, oa, hf, of, qa, h1, o1, d1, qb, h2, o2, d2, ra, rf, r1, r2, hqq, m0, eT, eR, eS, eA, eF, eM, eN⟩ := id eC
  obtain ⟨k1, k2, k3, k4, k5, k6⟩ := id ho
  refine lv_iload_n hx hb d_MT_part_0 rfl (lv_at hl 2 rfl) ?_
  refine lv_if_lt (tgt := 10) hx hb d_MT_part_1 (by decide) (fun c1 => ?_) (fun c1 => ?_)
  · refine lv_bipush (v := (-12)) hx hb d_MT_part_10 (by decide) ?_
    exact x_pi E hr (by rw [cl_part, if_pos c1]) d_MT_part_12
  · refine lv_iload_n hx hb d_MT_part_4 rfl (lv_at hl 2 rfl) ?_
    refine lv_bipush (v := 6) hx hb d_MT_part_5 (by decide) ?_
    refine lv_icmp_lt (tgt := 13) hx hb d_MT_part_7 (by decide) (fun c7 => ?_) (fun c7 => ?_)
    · refine lv_aload_n hx hb d_MT_part_13 rfl (lv_at hl 0 rfl) ?_
      refine x_get E hP m0 rfl cl0_in 5 (by decide) wf_MT_45 rfl d_MT_part_14 ?_
      refine lv_iload_n hx hb d_MT_part_17 rfl (lv_at hl 1 rfl) ?_
      refine lv_iload_n hx hb d_MT_part_18 rfl (lv_at hl 2 rfl) ?_
      refine x_cRi (As := [.int i, .int x]) (rest := []) E (c_Mc_value l g b0 _ eM k5 i x) wy_Mc_value wl_MT_78 hP hD hS eM.1 rfl hl.1 ⟨by decide, by decide⟩ ⟨Nat.le_refl _, Nat.le_refl _⟩ rfl (Nat.le_of_ble_eq_true rfl) d_MT_part_19 (fun r19 hr19 => ?_)
      subst hr19
      exact x_pi E hr (by rw [cl_part, if_neg c1, if_pos c7]) d_MT_part_22
    · refine lv_bipush (v := (-12)) hx hb d_MT_part_10 (by decide) ?_
      exact x_pi E hr (by rw [cl_part, if_neg c1, if_neg c7]) d_MT_part_12
set_option maxRecDepth 100000 in
set_option maxHeartbeats 4000000 in
theorem c_MT_check (l : Launch) (g : xG) (b0 : Nat) (ws : va_W) {h0 : Nat} {σ : cl_S} (eC : xCl g ws h0 σ) (ho : cl_ok σ) : xRi l g b0 y_MT_check b_MT_check 1 (some .int) 0 [.ref h0] ws (fun r => r = cl_check σ) := by
  unfold xRi
  refine x_in (by decide) (Nat.le_of_ble_eq_true rfl) ?_
  intro p e s m below meth c ls E hr hin hP hD hl
  obtain ⟨hx, hb, hml, hown, hts, hK, hZ, hb0, hlocks⟩ := id E
  have hS : va_S (xA b0) s.heap s.heap [] := va_S.rf
  have hl : lv_has ls 1 [(0, .ref h0)] := hl
  obtain ⟨ht, tt, hp, tp, hs, ha, oa, hf, of, qa, h1, o1, d1, qb, h2, o2, d2, ra, rf, r1, r2, hqq, m0, eT, eR, eS, eA, eF, eM, eN⟩ := id eC
  obtain ⟨k1, k2, k3, k4, k5, k6⟩ := id ho
  refine lv_aload_n hx hb d_MT_check_0 rfl (lv_at hl 0 rfl) ?_
  refine x_get E hP m0 rfl cl0_in 5 (by decide) wf_MT_45 rfl d_MT_check_1 ?_
  refine x_get E hP eM.1 rfl cl2_in 2 (by decide) wf_MT_75 rfl d_MT_check_4 ?_
  refine lv_if_ne (tgt := 14) hx hb d_MT_check_7 (by decide) (fun c7 => ?_) (fun c7 => ?_)
  · refine lv_aload_n hx hb d_MT_check_14 rfl (lv_at hl 0 rfl) ?_
    refine x_get E hP m0 rfl cl0_in 4 (by decide) wf_MT_38 rfl d_MT_check_15 ?_
    refine x_get E hP eF.1 rfl cl5_in 1 (by decide) wf_MT_82 rfl d_MT_check_18 ?_
    exact x_pi E hr (by rw [cl_check, if_neg c7]) d_MT_check_21
  · refine lv_iconst (v := (-1)) hx hb d_MT_check_10 (by decide) ?_
    refine lv_goto (tgt := 21) hx hb d_MT_check_11 (by decide) ?_
    exact x_pi E hr (by rw [cl_check, if_pos c7]) d_MT_check_21
set_option maxRecDepth 100000 in
set_option maxHeartbeats 4000000 in
theorem c_MT_fault (l : Launch) (g : xG) (b0 : Nat) (ws : va_W) {h0 : Nat} {σ : cl_S} (eC : xCl g ws h0 σ) (ho : cl_ok σ) (i x : Int32) : xRi l g b0 y_MT_fault b_MT_fault 3 (some .int) 1 [.ref h0, .int i, .int x] ws (fun r => r = cl_fault σ i x) := by
  unfold xRi
  refine x_in (by decide) (Nat.le_of_ble_eq_true rfl) ?_
  intro p e s m below meth c ls E hr hin hP hD hl
  obtain ⟨hx, hb, hml, hown, hts, hK, hZ, hb0, hlocks⟩ := id E
  have hS : va_S (xA b0) s.heap s.heap [] := va_S.rf
  have hl : lv_has ls 3 [(0, .ref h0), (1, .int i), (2, .int x)] := hl
  obtain ⟨ht, tt, hp, tp, hs, ha, oa, hf, of, qa, h1, o1, d1, qb, h2, o2, d2, ra, rf, r1, r2, hqq, m0, eT, eR, eS, eA, eF, eM, eN⟩ := id eC
  obtain ⟨k1, k2, k3, k4, k5, k6⟩ := id ho
  refine lv_iload_n hx hb d_MT_fault_0 rfl (lv_at hl 2 rfl) ?_
  refine lv_if_lt (tgt := 9) hx hb d_MT_fault_1 (by decide) (fun c1 => ?_) (fun c1 => ?_)
  · refine lv_bipush (v := (-12)) hx hb d_MT_fault_9 (by decide) ?_
    exact x_pi E hr (by rw [cl_fault, if_pos c1]) d_MT_fault_11
  · refine lv_iload_n hx hb d_MT_fault_4 rfl (lv_at hl 2 rfl) ?_
    refine lv_iconst (v := 3) hx hb d_MT_fault_5 (by decide) ?_
    refine lv_icmp_lt (tgt := 12) hx hb d_MT_fault_6 (by decide) (fun c6 => ?_) (fun c6 => ?_)
    · refine lv_aload_n hx hb d_MT_fault_12 rfl (lv_at hl 0 rfl) ?_
      refine x_get E hP m0 rfl cl0_in 4 (by decide) wf_MT_38 rfl d_MT_fault_13 ?_
      refine lv_iload_n hx hb d_MT_fault_16 rfl (lv_at hl 1 rfl) ?_
      refine lv_iload_n hx hb d_MT_fault_17 rfl (lv_at hl 2 rfl) ?_
      refine x_cRi (As := [.int i, .int x]) (rest := []) E (c_Fl_value l g b0 _ eF k4 i x) wy_Fl_value wl_MT_83 hP hD hS eF.1 rfl hl.1 ⟨by decide, by decide⟩ ⟨Nat.le_refl _, Nat.le_refl _⟩ rfl (Nat.le_of_ble_eq_true rfl) d_MT_fault_18 (fun r18 hr18 => ?_)
      subst hr18
      exact x_pi E hr (by rw [cl_fault, if_neg c1, if_pos c6]) d_MT_fault_21
    · refine lv_bipush (v := (-12)) hx hb d_MT_fault_9 (by decide) ?_
      exact x_pi E hr (by rw [cl_fault, if_neg c1, if_neg c6]) d_MT_fault_11
set_option maxRecDepth 100000 in
set_option maxHeartbeats 4000000 in
theorem c_MT_reach (l : Launch) (g : xG) (b0 : Nat) (ws : va_W) {h0 : Nat} {σ : cl_S} (eC : xCl g ws h0 σ) (ho : cl_ok σ) (x : Int32) : xRi l g b0 y_MT_reach b_MT_reach 3 (some .int) 3 [.ref h0, .int x] ws (fun r => r = cl_reach σ x) := by
  unfold xRi
  refine x_in (by decide) (Nat.le_of_ble_eq_true rfl) ?_
  intro p e s m below meth c ls E hr hin hP hD hl
  obtain ⟨hx, hb, hml, hown, hts, hK, hZ, hb0, hlocks⟩ := id E
  have hS : va_S (xA b0) s.heap s.heap [] := va_S.rf
  have hl : lv_has ls 3 [(0, .ref h0), (1, .int x)] := hl
  obtain ⟨ht, tt, hp, tp, hs, ha, oa, hf, of, qa, h1, o1, d1, qb, h2, o2, d2, ra, rf, r1, r2, hqq, m0, eT, eR, eS, eA, eF, eM, eN⟩ := id eC
  obtain ⟨k1, k2, k3, k4, k5, k6⟩ := id ho
  refine lv_aload_n hx hb d_MT_reach_0 rfl (lv_at hl 0 rfl) ?_
  refine x_get E hP m0 rfl cl0_in 5 (by decide) wf_MT_45 rfl d_MT_reach_1 ?_
  refine lv_iload_n hx hb d_MT_reach_4 rfl (lv_at hl 1 rfl) ?_
  refine x_cRi (As := [.int x]) (rest := []) E (c_Mc_indexOf l g b0 _ eM k5 x) wy_Mc_indexOf wl_MT_84 hP hD hS eM.1 rfl hl.1 ⟨by decide, by decide⟩ ⟨Nat.le_refl _, Nat.le_refl _⟩ rfl (Nat.le_of_ble_eq_true rfl) d_MT_reach_5 (fun r5 hr5 => ?_)
  subst hr5
  refine lv_istore_n (lv' := [(2, .int (cl_ix σ x)), (0, .ref h0), (1, .int x)]) hx hb d_MT_reach_8 rfl hl (by decide) rfl (fun ls hl => ?_)
  refine lv_iload_n hx hb d_MT_reach_9 rfl (lv_at hl 0 rfl) ?_
  refine lv_iconst (v := (-1)) hx hb d_MT_reach_10 (by decide) ?_
  refine lv_icmp_ne (tgt := 17) hx hb d_MT_reach_11 (by decide) (fun c11 => ?_) (fun c11 => ?_)
  · refine lv_aload_n hx hb d_MT_reach_17 rfl (lv_at hl 1 rfl) ?_
    refine x_get E hP m0 rfl cl0_in 5 (by decide) wf_MT_45 rfl d_MT_reach_18 ?_
    refine lv_iload_n hx hb d_MT_reach_21 rfl (lv_at hl 0 rfl) ?_
    refine lv_iconst (v := 0) hx hb d_MT_reach_22 (by decide) ?_
    refine x_cRi (As := [.int (cl_ix σ x), .int 0]) (rest := []) E (c_Mc_value l g b0 _ eM k5 (cl_ix σ x) 0) wy_Mc_value wl_MT_78 hP hD hS eM.1 rfl hl.1 ⟨by decide, by decide⟩ ⟨Nat.le_refl _, Nat.le_refl _⟩ rfl (Nat.le_of_ble_eq_true rfl) d_MT_reach_23 (fun r23 hr23 => ?_)
    subst hr23
    refine lv_iconst (v := 4) hx hb d_MT_reach_26 (by decide) ?_
    refine lv_icmp_eq (tgt := 33) hx hb d_MT_reach_27 (by decide) (fun c27 => ?_) (fun c27 => ?_)
    · refine lv_aload_n hx hb d_MT_reach_33 rfl (lv_at hl 1 rfl) ?_
      refine x_get E hP m0 rfl cl0_in 3 (by decide) wf_MT_31 rfl d_MT_reach_34 ?_
      refine lv_aload_n hx hb d_MT_reach_37 rfl (lv_at hl 1 rfl) ?_
      refine x_get E hP m0 rfl cl0_in 5 (by decide) wf_MT_45 rfl d_MT_reach_38 ?_
      refine lv_iload_n hx hb d_MT_reach_41 rfl (lv_at hl 0 rfl) ?_
      refine x_cRi (As := [.ref h1, .int (cl_ix σ x)]) (rest := []) E (c_Pa_leastGap l g b0 _ eA eM k5 (cl_ix σ x)) wy_Pa_leastGap wl_MT_88 hP hD hS eA.1 rfl hl.1 ⟨by decide, by decide⟩ ⟨Nat.le_refl _, Nat.le_refl _⟩ rfl (Nat.le_of_ble_eq_true rfl) d_MT_reach_42 (fun r42 hr42 => ?_)
      subst hr42
      refine lv_iconst (v := (-1)) hx hb d_MT_reach_45 (by decide) ?_
      refine lv_icmp_ne (tgt := 53) hx hb d_MT_reach_46 (by decide) (fun c46 => ?_) (fun c46 => ?_)
      · refine lv_iconst (v := 1) hx hb d_MT_reach_53 (by decide) ?_
        exact x_pi E hr (by rw [cl_reach, if_neg c11, if_pos c27, if_neg c46]) d_MT_reach_54
      · refine lv_iconst (v := 0) hx hb d_MT_reach_49 (by decide) ?_
        refine lv_goto (tgt := 54) hx hb d_MT_reach_50 (by decide) ?_
        exact x_pi E hr (by rw [cl_reach, if_neg c11, if_pos c27, if_pos c46]) d_MT_reach_54
    · refine lv_bipush (v := (-13)) hx hb d_MT_reach_30 (by decide) ?_
      exact x_pi E hr (by rw [cl_reach, if_neg c11, if_neg c27]) d_MT_reach_32
  · refine lv_bipush (v := (-11)) hx hb d_MT_reach_14 (by decide) ?_
    exact x_pi E hr (by rw [cl_reach, if_pos c11]) d_MT_reach_16
set_option maxRecDepth 100000 in
set_option maxHeartbeats 4000000 in
theorem c_MT_gap (l : Launch) (g : xG) (b0 : Nat) (ws : va_W) {h0 : Nat} {σ : cl_S} (eC : xCl g ws h0 σ) (ho : cl_ok σ) (x : Int32) : xRi l g b0 y_MT_gap b_MT_gap 3 (some .int) 3 [.ref h0, .int x] ws (fun r => r = cl_gap σ x) := by
  unfold xRi
  refine x_in (by decide) (Nat.le_of_ble_eq_true rfl) ?_
  intro p e s m below meth c ls E hr hin hP hD hl
  obtain ⟨hx, hb, hml, hown, hts, hK, hZ, hb0, hlocks⟩ := id E
  have hS : va_S (xA b0) s.heap s.heap [] := va_S.rf
  have hl : lv_has ls 3 [(0, .ref h0), (1, .int x)] := hl
  obtain ⟨ht, tt, hp, tp, hs, ha, oa, hf, of, qa, h1, o1, d1, qb, h2, o2, d2, ra, rf, r1, r2, hqq, m0, eT, eR, eS, eA, eF, eM, eN⟩ := id eC
  obtain ⟨k1, k2, k3, k4, k5, k6⟩ := id ho
  refine lv_aload_n hx hb d_MT_gap_0 rfl (lv_at hl 0 rfl) ?_
  refine x_get E hP m0 rfl cl0_in 5 (by decide) wf_MT_45 rfl d_MT_gap_1 ?_
  refine lv_iload_n hx hb d_MT_gap_4 rfl (lv_at hl 1 rfl) ?_
  refine x_cRi (As := [.int x]) (rest := []) E (c_Mc_indexOf l g b0 _ eM k5 x) wy_Mc_indexOf wl_MT_84 hP hD hS eM.1 rfl hl.1 ⟨by decide, by decide⟩ ⟨Nat.le_refl _, Nat.le_refl _⟩ rfl (Nat.le_of_ble_eq_true rfl) d_MT_gap_5 (fun r5 hr5 => ?_)
  subst hr5
  refine lv_istore_n (lv' := [(2, .int (cl_ix σ x)), (0, .ref h0), (1, .int x)]) hx hb d_MT_gap_8 rfl hl (by decide) rfl (fun ls hl => ?_)
  refine lv_iload_n hx hb d_MT_gap_9 rfl (lv_at hl 0 rfl) ?_
  refine lv_iconst (v := (-1)) hx hb d_MT_gap_10 (by decide) ?_
  refine lv_icmp_ne (tgt := 19) hx hb d_MT_gap_11 (by decide) (fun c11 => ?_) (fun c11 => ?_)
  · refine lv_aload_n hx hb d_MT_gap_19 rfl (lv_at hl 1 rfl) ?_
    refine x_get E hP m0 rfl cl0_in 3 (by decide) wf_MT_31 rfl d_MT_gap_20 ?_
    refine lv_aload_n hx hb d_MT_gap_23 rfl (lv_at hl 1 rfl) ?_
    refine x_get E hP m0 rfl cl0_in 5 (by decide) wf_MT_45 rfl d_MT_gap_24 ?_
    refine lv_iload_n hx hb d_MT_gap_27 rfl (lv_at hl 0 rfl) ?_
    refine x_cRi (As := [.ref h1, .int (cl_ix σ x)]) (rest := []) E (c_Pa_leastGap l g b0 _ eA eM k5 (cl_ix σ x)) wy_Pa_leastGap wl_MT_88 hP hD hS eA.1 rfl hl.1 ⟨by decide, by decide⟩ ⟨Nat.le_refl _, Nat.le_refl _⟩ rfl (Nat.le_of_ble_eq_true rfl) d_MT_gap_28 (fun r28 hr28 => ?_)
    subst hr28
    exact x_pi E hr (by rw [cl_gap, if_neg c11]) d_MT_gap_31
  · refine lv_bipush (v := (-11)) hx hb d_MT_gap_14 (by decide) ?_
    refine lv_goto (tgt := 31) hx hb d_MT_gap_16 (by decide) ?_
    exact x_pi E hr (by rw [cl_gap, if_pos c11]) d_MT_gap_31
set_option maxRecDepth 100000 in
set_option maxHeartbeats 4000000 in
theorem c_MT_time (l : Launch) (g : xG) (b0 : Nat) (ws : va_W) {h0 : Nat} {σ : cl_S} (eC : xCl g ws h0 σ) (ho : cl_ok σ) (x y : Int32) : xRl l g b0 y_MT_time b_MT_time 5 1 [.ref h0, .int x, .int y] ws (fun r => r = cl_time σ x y) := by
  unfold xRl
  refine x_in (by decide) (Nat.le_of_ble_eq_true rfl) ?_
  intro p e s m below meth c ls E hr hin hP hD hl
  obtain ⟨hx, hb, hml, hown, hts, hK, hZ, hb0, hlocks⟩ := id E
  have hS : va_S (xA b0) s.heap s.heap [] := va_S.rf
  have hl : lv_has ls 5 [(0, .ref h0), (1, .int x), (2, .int y)] := hl
  obtain ⟨ht, tt, hp, tp, hs, ha, oa, hf, of, qa, h1, o1, d1, qb, h2, o2, d2, ra, rf, r1, r2, hqq, m0, eT, eR, eS, eA, eF, eM, eN⟩ := id eC
  obtain ⟨k1, k2, k3, k4, k5, k6⟩ := id ho
  refine lv_aload_n hx hb d_MT_time_0 rfl (lv_at hl 0 rfl) ?_
  refine x_get E hP m0 rfl cl0_in 5 (by decide) wf_MT_45 rfl d_MT_time_1 ?_
  refine lv_iload_n hx hb d_MT_time_4 rfl (lv_at hl 1 rfl) ?_
  refine x_cRi (As := [.int x]) (rest := []) E (c_Mc_indexOf l g b0 _ eM k5 x) wy_Mc_indexOf wl_MT_84 hP hD hS eM.1 rfl hl.1 ⟨by decide, by decide⟩ ⟨Nat.le_refl _, Nat.le_refl _⟩ rfl (Nat.le_of_ble_eq_true rfl) d_MT_time_5 (fun r5 hr5 => ?_)
  subst hr5
  refine lv_istore_n (lv' := [(3, .int (cl_ix σ x)), (0, .ref h0), (1, .int x), (2, .int y)]) hx hb d_MT_time_8 rfl hl (by decide) rfl (fun ls hl => ?_)
  refine lv_aload_n hx hb d_MT_time_9 rfl (lv_at hl 1 rfl) ?_
  refine x_get E hP m0 rfl cl0_in 5 (by decide) wf_MT_45 rfl d_MT_time_10 ?_
  refine lv_iload_n hx hb d_MT_time_13 rfl (lv_at hl 3 rfl) ?_
  refine x_cRi (As := [.int y]) (rest := []) E (c_Mc_indexOf l g b0 _ eM k5 y) wy_Mc_indexOf wl_MT_84 hP hD hS eM.1 rfl hl.1 ⟨by decide, by decide⟩ ⟨Nat.le_refl _, Nat.le_refl _⟩ rfl (Nat.le_of_ble_eq_true rfl) d_MT_time_14 (fun r14 hr14 => ?_)
  subst hr14
  refine lv_istore (lv' := [(4, .int (cl_ix σ y)), (3, .int (cl_ix σ x)), (0, .ref h0), (1, .int x), (2, .int y)]) hx hb d_MT_time_17 hl (by decide) rfl (fun ls hl => ?_)
  refine lv_iload_n hx hb d_MT_time_19 rfl (lv_at hl 1 rfl) ?_
  refine lv_iconst (v := (-1)) hx hb d_MT_time_20 (by decide) ?_
  refine lv_icmp_eq (tgt := 30) hx hb d_MT_time_21 (by decide) (fun c21 => ?_) (fun c21 => ?_)
  · refine lv_ldc2 (v := (-11)) hx hb hown (hts _ wk_MT_92) d_MT_time_30 ?_
    exact x_pl E hr (by rw [cl_time, if_pos c21]) d_MT_time_33
  · refine lv_iload hx hb d_MT_time_24 (lv_at hl 0 rfl) ?_
    refine lv_iconst (v := (-1)) hx hb d_MT_time_26 (by decide) ?_
    refine lv_icmp_ne (tgt := 34) hx hb d_MT_time_27 (by decide) (fun c27 => ?_) (fun c27 => ?_)
    · refine lv_iload_n hx hb d_MT_time_34 rfl (lv_at hl 1 rfl) ?_
      refine lv_iload hx hb d_MT_time_35 (lv_at hl 0 rfl) ?_
      refine lv_icmp_ne (tgt := 44) hx hb d_MT_time_37 (by decide) (fun c37 => ?_) (fun c37 => ?_)
      · refine lv_aload_n hx hb d_MT_time_44 rfl (lv_at hl 2 rfl) ?_
        refine x_get E hP m0 rfl cl0_in 3 (by decide) wf_MT_31 rfl d_MT_time_45 ?_
        refine lv_iload_n hx hb d_MT_time_48 rfl (lv_at hl 1 rfl) ?_
        refine lv_iload hx hb d_MT_time_49 (lv_at hl 0 rfl) ?_
        refine x_cRi (As := [.int (cl_ix σ x), .int (cl_ix σ y)]) (rest := []) E (c_Pa_leastTime l g b0 _ eA (cl_ix σ x) (cl_ix σ y)) wy_Pa_leastTime wl_MT_94 hP hD hS eA.1 rfl hl.1 ⟨by decide, by decide⟩ ⟨Nat.le_refl _, Nat.le_refl _⟩ rfl (Nat.le_of_ble_eq_true rfl) d_MT_time_51 (fun r51 hr51 => ?_)
        subst hr51
        refine lv_i2l (v := (pa_lt σ.2.2.2.1 (cl_ix σ x) (cl_ix σ y)).toInt64) hx hb d_MT_time_54 rfl ?_
        exact x_pl E hr (by rw [cl_time, if_neg c21, if_neg c27, if_neg c37]) d_MT_time_55
      · refine lv_lconst (v := 0) hx hb d_MT_time_40 (by decide) ?_
        refine lv_goto (tgt := 55) hx hb d_MT_time_41 (by decide) ?_
        exact x_pl E hr (by rw [cl_time, if_neg c21, if_neg c27, if_pos c37]) d_MT_time_55
    · refine lv_ldc2 (v := (-11)) hx hb hown (hts _ wk_MT_92) d_MT_time_30 ?_
      exact x_pl E hr (by rw [cl_time, if_neg c21, if_pos c27]) d_MT_time_33
set_option maxRecDepth 100000 in
set_option maxHeartbeats 4000000 in
theorem c_MT_suffices (l : Launch) (g : xG) (b0 : Nat) (ws : va_W) {h0 : Nat} {σ : cl_S} (eC : xCl g ws h0 σ) (ho : cl_ok σ) (x : Int32) (v : Int64) : xRi l g b0 y_MT_suffices b_MT_suffices 5 (some .boolean) 1 [.ref h0, .int x, .long v] ws (fun r => r = cl_suff σ x v) := by
  unfold xRi
  refine x_in (by decide) (Nat.le_of_ble_eq_true rfl) ?_
  intro p e s m below meth c ls E hr hin hP hD hl
  obtain ⟨hx, hb, hml, hown, hts, hK, hZ, hb0, hlocks⟩ := id E
  have hS : va_S (xA b0) s.heap s.heap [] := va_S.rf
  have hl : lv_has ls 5 [(0, .ref h0), (1, .int x), (2, .long v)] := hl
  obtain ⟨ht, tt, hp, tp, hs, ha, oa, hf, of, qa, h1, o1, d1, qb, h2, o2, d2, ra, rf, r1, r2, hqq, m0, eT, eR, eS, eA, eF, eM, eN⟩ := id eC
  obtain ⟨k1, k2, k3, k4, k5, k6⟩ := id ho
  refine lv_aload_n hx hb d_MT_suffices_0 rfl (lv_at hl 0 rfl) ?_
  refine x_get E hP m0 rfl cl0_in 5 (by decide) wf_MT_45 rfl d_MT_suffices_1 ?_
  refine lv_iload_n hx hb d_MT_suffices_4 rfl (lv_at hl 1 rfl) ?_
  refine x_cRi (As := [.int x]) (rest := []) E (c_Mc_indexOf l g b0 _ eM k5 x) wy_Mc_indexOf wl_MT_84 hP hD hS eM.1 rfl hl.1 ⟨by decide, by decide⟩ ⟨Nat.le_refl _, Nat.le_refl _⟩ rfl (Nat.le_of_ble_eq_true rfl) d_MT_suffices_5 (fun r5 hr5 => ?_)
  subst hr5
  refine lv_istore (lv' := [(4, .int (cl_ix σ x)), (0, .ref h0), (1, .int x), (2, .long v)]) hx hb d_MT_suffices_8 hl (by decide) rfl (fun ls hl => ?_)
  refine lv_aload_n hx hb d_MT_suffices_10 rfl (lv_at hl 1 rfl) ?_
  refine x_get E hP m0 rfl cl0_in 5 (by decide) wf_MT_45 rfl d_MT_suffices_11 ?_
  refine lv_iload hx hb d_MT_suffices_14 (lv_at hl 0 rfl) ?_
  refine lv_iconst (v := 0) hx hb d_MT_suffices_16 (by decide) ?_
  refine x_cRi (As := [.int (cl_ix σ x), .int 0]) (rest := []) E (c_Mc_value l g b0 _ eM k5 (cl_ix σ x) 0) wy_Mc_value wl_MT_78 hP hD hS eM.1 rfl hl.1 ⟨by decide, by decide⟩ ⟨Nat.le_refl _, Nat.le_refl _⟩ rfl (Nat.le_of_ble_eq_true rfl) d_MT_suffices_17 (fun r17 hr17 => ?_)
  subst hr17
  refine lv_iconst (v := 3) hx hb d_MT_suffices_20 (by decide) ?_
  refine lv_icmp_ne (tgt := 44) hx hb d_MT_suffices_21 (by decide) (fun c21 => ?_) (fun c21 => ?_)
  · refine lv_iconst (v := 0) hx hb d_MT_suffices_44 (by decide) ?_
    exact x_pz E hr rfl (by rw [cl_suff, if_neg c21]) d_MT_suffices_45
  · refine lv_aload_n hx hb d_MT_suffices_24 rfl (lv_at hl 1 rfl) ?_
    refine x_get E hP m0 rfl cl0_in 5 (by decide) wf_MT_45 rfl d_MT_suffices_25 ?_
    refine lv_iload hx hb d_MT_suffices_28 (lv_at hl 0 rfl) ?_
    refine lv_iconst (v := 2) hx hb d_MT_suffices_30 (by decide) ?_
    refine x_cRi (As := [.int (cl_ix σ x), .int 2]) (rest := []) E (c_Mc_value l g b0 _ eM k5 (cl_ix σ x) 2) wy_Mc_value wl_MT_78 hP hD hS eM.1 rfl hl.1 ⟨by decide, by decide⟩ ⟨Nat.le_refl _, Nat.le_refl _⟩ rfl (Nat.le_of_ble_eq_true rfl) d_MT_suffices_31 (fun r31 hr31 => ?_)
    subst hr31
    refine lv_i2l (v := (cl_val σ (cl_ix σ x) 2).toInt64) hx hb d_MT_suffices_34 rfl ?_
    refine lv_lload_n hx hb d_MT_suffices_35 rfl (lv_at hl 3 rfl) ?_
    refine W.lcmp hx hb d_MT_suffices_36 ?_
    refine lv_if_gt (tgt := 44) hx hb d_MT_suffices_37 (by decide) (fun c37 => ?_) (fun c37 => ?_)
    · refine lv_iconst (v := 0) hx hb d_MT_suffices_44 (by decide) ?_
      exact x_pz E hr rfl (by rw [cl_suff, if_pos c21, if_pos c37]) d_MT_suffices_45
    · refine lv_iconst (v := 1) hx hb d_MT_suffices_40 (by decide) ?_
      refine lv_goto (tgt := 45) hx hb d_MT_suffices_41 (by decide) ?_
      exact x_pz E hr rfl (by rw [cl_suff, if_pos c21, if_neg c37]) d_MT_suffices_45
set_option maxRecDepth 100000 in
set_option maxHeartbeats 4000000 in
theorem c_MT_at (l : Launch) (g : xG) (b0 : Nat) (ws : va_W) {h0 : Nat} {σ : cl_S} (eC : xCl g ws h0 σ) (ho : cl_ok σ) (i : Int32) : xRi l g b0 y_MT_at b_MT_at 2 (some .int) 1 [.ref h0, .int i] ws (fun r => r = cl_at σ i) := by
  unfold xRi
  refine x_in (by decide) (Nat.le_of_ble_eq_true rfl) ?_
  intro p e s m below meth c ls E hr hin hP hD hl
  obtain ⟨hx, hb, hml, hown, hts, hK, hZ, hb0, hlocks⟩ := id E
  have hS : va_S (xA b0) s.heap s.heap [] := va_S.rf
  have hl : lv_has ls 2 [(0, .ref h0), (1, .int i)] := hl
  obtain ⟨ht, tt, hp, tp, hs, ha, oa, hf, of, qa, h1, o1, d1, qb, h2, o2, d2, ra, rf, r1, r2, hqq, m0, eT, eR, eS, eA, eF, eM, eN⟩ := id eC
  obtain ⟨k1, k2, k3, k4, k5, k6⟩ := id ho
  refine lv_aload_n hx hb d_MT_at_0 rfl (lv_at hl 0 rfl) ?_
  refine x_get E hP m0 rfl cl0_in 1 (by decide) wf_MT_16 rfl d_MT_at_1 ?_
  refine lv_iload_n hx hb d_MT_at_4 rfl (lv_at hl 1 rfl) ?_
  refine x_cRi (As := [.int i]) (rest := []) E (c_Tx_characterAt l g b0 _ eR k2 i) wy_Tx_characterAt wl_MT_104 hP hD hS eR.1 rfl hl.1 ⟨by decide, by decide⟩ ⟨Nat.le_refl _, Nat.le_refl _⟩ rfl (Nat.le_of_ble_eq_true rfl) d_MT_at_5 (fun r5 hr5 => ?_)
  subst hr5
  exact x_pi E hr rfl d_MT_at_8
end
section
theorem xTs.kp {g : xG} {ws w1 : va_W} {q h a : Nat} {s : tx_S} (H : xTs g ws q h a s) (k : ∀ i, q ≤ i → i < q + 2 → w1[i]? = ws[i]?) : xTs g w1 q h a s := xText.kp H k
theorem xFs.kp {g : xG} {ws w1 : va_W} {q h o : Nat} {r : Nat → Nat} {f : fl_S} (H : xFs g ws q h o r f) (k : ∀ i, q ≤ i → i < q + 5 → w1[i]? = ws[i]?) : xFs g w1 q h o r f := xFlt.kp H k
theorem x_chr {c : Int32} (h1 : ¬ c < 32) (h2 : ¬ 126 < c) : ∃ w : Nat, 32 ≤ w ∧ w ≤ 126 ∧ c = nI w := by
  have a1 : ¬ c.toInt < (32 : Int32).toInt := fun h => h1 (Int32.lt_iff_toInt_lt.mpr h)
  have a2 : ¬ (126 : Int32).toInt < c.toInt := fun h => h2 (Int32.lt_iff_toInt_lt.mpr h)
  have e1 : (32 : Int32).toInt = 32 := by decide
  have e2 : (126 : Int32).toInt = 126 := by decide
  rw [e1] at a1
  rw [e2] at a2
  obtain ⟨j, hj, e⟩ := nI_of2 (x := c) (M := 126) (n := 126) (by decide) (fun h => h1 (Int32.lt_of_lt_of_le h (by decide))) (Int32.not_lt.mp h2)
  refine ⟨j, ?_, hj, e⟩
  rw [e, nI_toInt (by omega)] at a1
  omega
def cl_sign (σ : cl_S) (c : Int32) : Int32 × cl_S := if c < 32 then (0, σ) else if 126 < c then (0, σ) else (if σ.1.2 < 300 then 1 else 0, (tx_psh σ.1 c, σ.2))
def pr_val (M : Nat → Nat → Int32) (n : Nat) (x i col : Int32) (s : tx_S) : tx_S := if mc_val M n i col = -1 then s else it (tx_dg (mc_val M n i col)) 4 (tx_psh s x)
def pr_body (M : Nat → Nat → Int32) (n : Nat) (i : Int32) (s : tx_S) : tx_S := tx_psh (pr_val M n 44 i 5 (pr_val M n 62 i 4 (pr_val M n 44 i 3 (pr_val M n 61 i 2 (it (tx_dg (mc_val M n i 1)) 4 (tx_psh s (xL (mc_val M n i 0).toNatClampNeg))))))) 59
def pr_part (M : Nat → Nat → Int32) (n : Nat) (i : Int32) (s : tx_S) : tx_S := if mc_val M n i 0 < 0 then s else if mc_val M n i 0 < 5 then pr_body M n i s else s
theorem pr_val_le {M : Nat → Nat → Int32} {n : Nat} {x i col : Int32} {s : tx_S} (h : s.2 ≤ 300) : (pr_val M n x i col s).2 ≤ 300 := by
  unfold pr_val
  split
  · exact h
  · exact tx_it_le (tx_psh_le h) 4
theorem xL_nar {j : Nat} (h : j < 5) : vp_nar .char (xL j) = xL j := by
  obtain rfl | rfl | rfl | rfl | rfl : j = 0 ∨ j = 1 ∨ j = 2 ∨ j = 3 ∨ j = 4 := by omega
  all_goals decide
theorem pr_part_le {M : Nat → Nat → Int32} {n : Nat} {i : Int32} {s : tx_S} (h : s.2 ≤ 300) : (pr_part M n i s).2 ≤ 300 := by
  unfold pr_part
  split
  · exact h
  · split
    · exact tx_psh_le (pr_val_le (pr_val_le (pr_val_le (pr_val_le (tx_it_le (tx_psh_le h) 4)))))
    · exact h
def pr_all (M : Nat → Nat → Int32) (n : Nat) (s : tx_S) : tx_S := it (fun i => pr_part M n (nI i)) n s
theorem pr_it_le {M : Nat → Nat → Int32} {n : Nat} {s : tx_S} (h : s.2 ≤ 300) : ∀ k, (it (fun i => pr_part M n (nI i)) k s).2 ≤ 300
  | 0 => h
  | k + 1 => pr_part_le (pr_it_le h k)
set_option maxRecDepth 100000 in
set_option maxHeartbeats 4000000 in
theorem c_MT_sign (l : Launch) (g : xG) (b0 : Nat) (ws : va_W) {h0 : Nat} {σ : cl_S} (eC : xCl g ws h0 σ) (ho : cl_ok σ) (x : Int32) : xMi l g b0 y_MT_sign b_MT_sign 2 (some .boolean) 1 [.ref h0, .int x] ws (fun r u => r = (cl_sign σ x).1 ∧ xQ 0 55 ws u ∧ xCl g u h0 (cl_sign σ x).2 ∧ cl_ok (cl_sign σ x).2) := by
  unfold xMi
  refine x_in (by decide) (Nat.le_of_ble_eq_true rfl) ?_
  intro p e s m below meth c ls E hr hin hP hD hl
  obtain ⟨hx, hb, hml, hown, hts, hK, hZ, hb0, hlocks⟩ := id E
  have hS : va_S (xA b0) s.heap s.heap [] := va_S.rf
  have hl : lv_has ls 2 [(0, .ref h0), (1, .int x)] := hl
  obtain ⟨ht, tt, hp, tp, hs, ha, oa, hf, of, qa, h1, o1, d1, qb, h2, o2, d2, ra, rf, r1, r2, hqq, m0, eT, eR, eS, eA, eF, eM, eN⟩ := id eC
  obtain ⟨k1, k2, k3, k4, k5, k6⟩ := id ho
  have hQ : xQ 0 55 ws ws := xQ.rf
  refine lv_iload_n hx hb d_MT_sign_0 rfl (lv_at hl 1 rfl) ?_
  refine lv_bipush (v := 32) hx hb d_MT_sign_1 (by decide) ?_
  refine lv_icmp_lt (tgt := 28) hx hb d_MT_sign_3 (by decide) (fun c3 => ?_) (fun c3 => ?_)
  · refine lv_iconst (v := 0) hx hb d_MT_sign_28 (by decide) ?_
    exact x_rz E hr hS rfl (by rw [cl_sign, if_pos c3]; exact ⟨rfl, hQ, eC, ho⟩) hP hD d_MT_sign_29
  · refine lv_iload_n hx hb d_MT_sign_6 rfl (lv_at hl 1 rfl) ?_
    refine lv_bipush (v := 126) hx hb d_MT_sign_7 (by decide) ?_
    refine lv_icmp_gt (tgt := 28) hx hb d_MT_sign_9 (by decide) (fun c9 => ?_) (fun c9 => ?_)
    · refine lv_iconst (v := 0) hx hb d_MT_sign_28 (by decide) ?_
      exact x_rz E hr hS rfl (by rw [cl_sign, if_neg c3, if_pos c9]; exact ⟨rfl, hQ, eC, ho⟩) hP hD d_MT_sign_29
    · obtain ⟨w9, hw1, hw2, hw3⟩ := x_chr c3 c9
      refine lv_aload_n hx hb d_MT_sign_12 rfl (lv_at hl 0 rfl) ?_
      refine x_get E hP m0 rfl cl0_in 0 (by decide) wf_MT_12 rfl d_MT_sign_13 ?_
      refine lv_iload_n hx hb d_MT_sign_16 rfl (lv_at hl 1 rfl) ?_
      refine lv_i2c (v := x) hx hb d_MT_sign_17 (by rw [hw3]; exact tx_char (by omega)) ?_
      refine x_cVi (As := [.int x]) (rest := []) E (c_Tx_append l g b0 _ eT k1 x (by rw [hw3]; exact tx_nar (by omega))) wy_Tx_append wl_MT_52 hP hD hS eT.1 rfl hl.1 ⟨by decide, by decide⟩ ⟨Nat.le_refl _, Nat.le_refl _⟩ rfl (Nat.le_of_ble_eq_true rfl) d_MT_sign_18 (fun r18 w1 H locs hr18 hP hD hS => ?_)
      obtain ⟨rfl, hq, eT⟩ := hr18
      have hQ := hQ.tr (hq.wide (by omega))
      have m0 := (hq _ (by omega)).trans m0
      have eS := (hq _ (by omega)).trans eS
      have eR := eR.keep hq (by omega)
      have eA := eA.keep hq (by omega)
      have eF := eF.keep hq (by omega)
      have eM := eM.keep hq (by omega)
      have eN := eN.keep hq (by omega)
      refine lv_if_eq (tgt := 28) hx hb d_MT_sign_21 (by decide) (fun c21 => ?_) (fun c21 => ?_)
      · refine lv_iconst (v := 0) hx hb d_MT_sign_28 (by decide) ?_
        exact x_rz E hr hS rfl (by rw [cl_sign, if_neg c3, if_neg c9]; exact ⟨c21.symm, hQ, ⟨ht, tt, hp, tp, hs, ha, oa, hf, of, qa, h1, o1, d1, qb, h2, o2, d2, ra, rf, r1, r2, hqq, m0, eT, eR, eS, eA, eF, eM, eN⟩, ⟨tx_psh_le k1, k2, k3, k4, k5, k6⟩⟩) hP hD d_MT_sign_29
      · refine lv_iconst (v := 1) hx hb d_MT_sign_24 (by decide) ?_
        refine lv_goto (tgt := 29) hx hb d_MT_sign_25 (by decide) ?_
        have hv9 : (1 : Int32) = if σ.1.2 < 300 then 1 else 0 := by
          by_cases h9 : σ.1.2 < 300
          · rw [if_pos h9]
          · rw [if_neg h9] at c21; exact absurd rfl c21
        exact x_rz E hr hS rfl (by rw [cl_sign, if_neg c3, if_neg c9]; exact ⟨hv9, hQ, ⟨ht, tt, hp, tp, hs, ha, oa, hf, of, qa, h1, o1, d1, qb, h2, o2, d2, ra, rf, r1, r2, hqq, m0, eT, eR, eS, eA, eF, eM, eN⟩, ⟨tx_psh_le k1, k2, k3, k4, k5, k6⟩⟩) hP hD d_MT_sign_29
set_option maxRecDepth 100000 in
set_option maxHeartbeats 4000000 in
theorem c_MT_printValue (l : Launch) (g : xG) (b0 : Nat) (ws : va_W) {h0 : Nat} {x1 x3 x4 x5 x7 : Nat} {hp tp qa h1 o1 d1 n : Nat} {r1 : Nat → Nat} {M : Nat → Nat → Int32} {ix : Nat → Int32} {s0 : tx_S} (m0 : ws[0]? = some (h0, .inr (0, [.ref x1, .ref hp, .ref x3, .ref x4, .ref x5, .ref h1, .ref x7]))) (eR : xTs g ws 3 hp tp s0) (k2 : s0.2 ≤ 300) (eM : xMach g ws qa h1 o1 d1 r1 M ix n) (k5 : n ≤ 24) (hqa : 5 ≤ qa) (x i col : Int32) (hx0 : vp_nar .char x = x) : xMv l g b0 y_MT_printValue b_MT_printValue 5 2 [.ref h0, .int x, .int i, .int col] ws (fun u => xQ 3 5 ws u ∧ xTs g u 3 hp tp (pr_val M n x i col s0)) := by
  unfold xMv
  refine x_in (by decide) (Nat.le_of_ble_eq_true rfl) ?_
  intro p e s m below meth c ls E hr hin hP hD hl
  obtain ⟨hx, hb, hml, hown, hts, hK, hZ, hb0, hlocks⟩ := id E
  have hS : va_S (xA b0) s.heap s.heap [] := va_S.rf
  have hl : lv_has ls 5 [(0, .ref h0), (1, .int x), (2, .int i), (3, .int col)] := hl
  have hQ : xQ 3 5 ws ws := xQ.rf
  refine lv_aload_n hx hb d_MT_printValue_0 rfl (lv_at hl 0 rfl) ?_
  refine x_get E hP m0 rfl cl0_in 5 (by decide) wf_MT_45 rfl d_MT_printValue_1 ?_
  refine lv_iload_n hx hb d_MT_printValue_4 rfl (lv_at hl 2 rfl) ?_
  refine lv_iload_n hx hb d_MT_printValue_5 rfl (lv_at hl 3 rfl) ?_
  refine x_cRi (As := [.int i, .int col]) (rest := []) E (c_Mc_value l g b0 _ eM k5 i col) wy_Mc_value wl_MT_78 hP hD hS eM.1 rfl hl.1 ⟨by decide, by decide⟩ ⟨Nat.le_refl _, Nat.le_refl _⟩ rfl (Nat.le_of_ble_eq_true rfl) d_MT_printValue_6 (fun r6 hr6 => ?_)
  subst hr6
  refine lv_istore (lv' := [(4, .int (mc_val M n i col)), (0, .ref h0), (1, .int x), (2, .int i), (3, .int col)]) hx hb d_MT_printValue_9 hl (by decide) rfl (fun ls hl => ?_)
  refine lv_iload hx hb d_MT_printValue_11 (lv_at hl 0 rfl) ?_
  refine lv_iconst (v := (-1)) hx hb d_MT_printValue_13 (by decide) ?_
  refine lv_icmp_eq (tgt := 35) hx hb d_MT_printValue_14 (by decide) (fun c14 => ?_) (fun c14 => ?_)
  · exact x_rv E hr hS ⟨hQ, by rw [pr_val, if_pos c14]; exact eR⟩ hP hD d_MT_printValue_35
  · refine lv_aload_n hx hb d_MT_printValue_17 rfl (lv_at hl 1 rfl) ?_
    refine x_get E hP m0 rfl cl0_in 1 (by decide) wf_MT_16 rfl d_MT_printValue_18 ?_
    refine lv_iload_n hx hb d_MT_printValue_21 rfl (lv_at hl 2 rfl) ?_
    refine x_cVi (As := [.int x]) (rest := []) E (c_Tx_append l g b0 _ eR k2 x hx0) wy_Tx_append wl_MT_52 hP hD hS eR.1 rfl hl.1 ⟨by decide, by decide⟩ ⟨Nat.le_refl _, Nat.le_refl _⟩ rfl (Nat.le_of_ble_eq_true rfl) d_MT_printValue_22 (fun r22 w2 H locs hr22 hP hD hS => ?_)
    obtain ⟨-, hq, eR⟩ := hr22
    have hQ := hQ.tr hq
    have m0 := (hq _ (by omega)).trans m0
    have eM := eM.keep hq (by omega)
    have eR : xTs g _ 3 hp tp (tx_psh s0 x) := eR
    have k2 : (tx_psh s0 x).2 ≤ 300 := tx_psh_le k2
    refine lv_pop hx hb d_MT_printValue_25 rfl ?_
    refine lv_aload_n hx hb d_MT_printValue_26 rfl (lv_at hl 1 rfl) ?_
    refine x_get E hP m0 rfl cl0_in 1 (by decide) wf_MT_16 rfl d_MT_printValue_27 ?_
    refine lv_iload hx hb d_MT_printValue_30 (lv_at hl 0 rfl) ?_
    refine x_cVv (As := [.int (mc_val M n i col)]) (rest := []) E (c_Tx_appendNumber l g b0 _ eR k2 (mc_val M n i col)) wy_Tx_appendNumber wl_MT_111 hP hD hS eR.1 rfl hl.1 ⟨by decide, by decide⟩ ⟨Nat.le_refl _, Nat.le_refl _⟩ rfl (Nat.le_of_ble_eq_true rfl) d_MT_printValue_32 (fun w3 H locs hr32 hP hD hS => ?_)
    obtain ⟨hq, eR⟩ := hr32
    have hQ := hQ.tr hq
    have m0 := (hq _ (by omega)).trans m0
    have eM := eM.keep hq (by omega)
    have eR : xTs g _ 3 hp tp (it (tx_dg (mc_val M n i col)) 4 (tx_psh s0 x)) := eR
    have k2 : (it (tx_dg (mc_val M n i col)) 4 (tx_psh s0 x)).2 ≤ 300 := tx_it_le k2 4
    exact x_rv E hr hS ⟨hQ, by rw [pr_val, if_neg c14]; exact eR⟩ hP hD d_MT_printValue_35
set_option maxRecDepth 100000 in
set_option maxHeartbeats 4000000 in
theorem c_MT_printPart (l : Launch) (g : xG) (b0 : Nat) (ws : va_W) {h0 : Nat} {x1 x3 x4 x5 x7 : Nat} {hp tp qa h1 o1 d1 n : Nat} {r1 : Nat → Nat} {M : Nat → Nat → Int32} {ix : Nat → Int32} {s0 : tx_S} (m0 : ws[0]? = some (h0, .inr (0, [.ref x1, .ref hp, .ref x3, .ref x4, .ref x5, .ref h1, .ref x7]))) (eR : xTs g ws 3 hp tp s0) (k2 : s0.2 ≤ 300) (eM : xMach g ws qa h1 o1 d1 r1 M ix n) (k5 : n ≤ 24) (hqa : 5 ≤ qa) (i : Int32) : xMv l g b0 y_MT_printPart b_MT_printPart 3 3 [.ref h0, .int i] ws (fun u => xQ 3 5 ws u ∧ xTs g u 3 hp tp (pr_part M n i s0)) := by
  unfold xMv
  refine x_in (by decide) (Nat.le_of_ble_eq_true rfl) ?_
  intro p e s m below meth c ls E hr hin hP hD hl
  obtain ⟨hx, hb, hml, hown, hts, hK, hZ, hb0, hlocks⟩ := id E
  have hS : va_S (xA b0) s.heap s.heap [] := va_S.rf
  have hl : lv_has ls 3 [(0, .ref h0), (1, .int i)] := hl
  have hQ : xQ 3 5 ws ws := xQ.rf
  refine lv_aload_n hx hb d_MT_printPart_0 rfl (lv_at hl 0 rfl) ?_
  refine x_get E hP m0 rfl cl0_in 5 (by decide) wf_MT_45 rfl d_MT_printPart_1 ?_
  refine lv_iload_n hx hb d_MT_printPart_4 rfl (lv_at hl 1 rfl) ?_
  refine lv_iconst (v := 0) hx hb d_MT_printPart_5 (by decide) ?_
  refine x_cRi (As := [.int i, .int 0]) (rest := []) E (c_Mc_value l g b0 _ eM k5 i 0) wy_Mc_value wl_MT_78 hP hD hS eM.1 rfl hl.1 ⟨by decide, by decide⟩ ⟨Nat.le_refl _, Nat.le_refl _⟩ rfl (Nat.le_of_ble_eq_true rfl) d_MT_printPart_6 (fun r6 hr6 => ?_)
  subst hr6
  refine lv_istore_n (lv' := [(2, .int (mc_val M n i 0)), (0, .ref h0), (1, .int i)]) hx hb d_MT_printPart_9 rfl hl (by decide) rfl (fun ls hl => ?_)
  refine lv_iload_n hx hb d_MT_printPart_10 rfl (lv_at hl 0 rfl) ?_
  refine lv_if_lt (tgt := 22) hx hb d_MT_printPart_11 (by decide) (fun c11 => ?_) (fun c11 => ?_)
  · exact x_rv E hr hS ⟨hQ, by rw [pr_part, if_pos c11]; exact eR⟩ hP hD d_MT_printPart_22
  · refine lv_iload_n hx hb d_MT_printPart_14 rfl (lv_at hl 0 rfl) ?_
    refine x_gets_L_MT E hS d_MT_printPart_15 ?_
    refine x_len_L E hS d_MT_printPart_18 ?_
    refine lv_icmp_lt (tgt := 23) hx hb d_MT_printPart_19 (by decide) (fun c19 => ?_) (fun c19 => ?_)
    · obtain ⟨k0, hk0, hk⟩ := x_ixl (n := 5) (by decide) c11 c19
      refine lv_aload_n hx hb d_MT_printPart_23 rfl (lv_at hl 1 rfl) ?_
      refine x_get E hP m0 rfl cl0_in 1 (by decide) wf_MT_16 rfl d_MT_printPart_24 ?_
      refine x_gets_L_MT E hS d_MT_printPart_27 ?_
      refine lv_iload_n hx hb d_MT_printPart_30 rfl (lv_at hl 0 rfl) ?_
      refine x_tab_L E hS hk hk0 d_MT_printPart_31 ?_
      refine x_top (y := xL (mc_val M n i 0).toNatClampNeg) (by rw [hk, nI_clamp (by omega)]) ?_
      refine x_cVi (As := [.int (xL (mc_val M n i 0).toNatClampNeg)]) (rest := []) E (c_Tx_append l g b0 _ eR k2 (xL (mc_val M n i 0).toNatClampNeg) (by rw [hk, nI_clamp (by omega)]; exact xL_nar hk0)) wy_Tx_append wl_MT_52 hP hD hS eR.1 rfl hl.1 ⟨by decide, by decide⟩ ⟨Nat.le_refl _, Nat.le_refl _⟩ rfl (Nat.le_of_ble_eq_true rfl) d_MT_printPart_32 (fun r32 w2 H locs hr32 hP hD hS => ?_)
      obtain ⟨-, hq, eR⟩ := hr32
      have hQ := hQ.tr hq
      have m0 := (hq _ (by omega)).trans m0
      have eM := eM.keep hq (by omega)
      have eR : xTs g _ 3 hp tp (tx_psh s0 (xL (mc_val M n i 0).toNatClampNeg)) := eR
      have k2 : (tx_psh s0 (xL (mc_val M n i 0).toNatClampNeg)).2 ≤ 300 := tx_psh_le k2
      refine lv_pop hx hb d_MT_printPart_35 rfl ?_
      refine lv_aload_n hx hb d_MT_printPart_36 rfl (lv_at hl 1 rfl) ?_
      refine x_get E hP m0 rfl cl0_in 1 (by decide) wf_MT_16 rfl d_MT_printPart_37 ?_
      refine lv_aload_n hx hb d_MT_printPart_40 rfl (lv_at hl 1 rfl) ?_
      refine x_get E hP m0 rfl cl0_in 5 (by decide) wf_MT_45 rfl d_MT_printPart_41 ?_
      refine lv_iload_n hx hb d_MT_printPart_44 rfl (lv_at hl 2 rfl) ?_
      refine lv_iconst (v := 1) hx hb d_MT_printPart_45 (by decide) ?_
      refine x_cRi (As := [.int i, .int 1]) (rest := [.ref hp]) E (c_Mc_value l g b0 _ eM k5 i 1) wy_Mc_value wl_MT_78 hP hD hS eM.1 rfl hl.1 ⟨by decide, by decide⟩ ⟨Nat.le_refl _, Nat.le_refl _⟩ rfl (Nat.le_of_ble_eq_true rfl) d_MT_printPart_46 (fun r46 hr46 => ?_)
      subst hr46
      refine x_cVv (As := [.int (mc_val M n i 1)]) (rest := []) E (c_Tx_appendNumber l g b0 _ eR k2 (mc_val M n i 1)) wy_Tx_appendNumber wl_MT_111 hP hD hS eR.1 rfl hl.1 ⟨by decide, by decide⟩ ⟨Nat.le_refl _, Nat.le_refl _⟩ rfl (Nat.le_of_ble_eq_true rfl) d_MT_printPart_49 (fun w4 H locs hr49 hP hD hS => ?_)
      obtain ⟨hq, eR⟩ := hr49
      have hQ := hQ.tr hq
      have m0 := (hq _ (by omega)).trans m0
      have eM := eM.keep hq (by omega)
      have eR : xTs g _ 3 hp tp (it (tx_dg (mc_val M n i 1)) 4 (tx_psh s0 (xL (mc_val M n i 0).toNatClampNeg))) := eR
      have k2 : (it (tx_dg (mc_val M n i 1)) 4 (tx_psh s0 (xL (mc_val M n i 0).toNatClampNeg))).2 ≤ 300 := tx_it_le k2 4
      refine lv_aload_n hx hb d_MT_printPart_52 rfl (lv_at hl 1 rfl) ?_
      refine lv_bipush (v := 61) hx hb d_MT_printPart_53 (by decide) ?_
      refine lv_iload_n hx hb d_MT_printPart_55 rfl (lv_at hl 2 rfl) ?_
      refine lv_iconst (v := 2) hx hb d_MT_printPart_56 (by decide) ?_
      refine x_cVv (As := [.int 61, .int i, .int 2]) (rest := []) E (c_MT_printValue l g b0 _ m0 eR k2 eM k5 hqa 61 i 2 (by decide)) wy_MT_printValue wl_MT_114 hP hD hS m0 rfl hl.1 ⟨by decide, by decide⟩ ⟨Nat.le_refl _, Nat.le_refl _⟩ rfl (Nat.le_of_ble_eq_true rfl) d_MT_printPart_57 (fun w5 H locs hr57 hP hD hS => ?_)
      obtain ⟨hq, eR⟩ := hr57
      have hQ := hQ.tr hq
      have m0 := (hq _ (by omega)).trans m0
      have eM := eM.keep hq (by omega)
      have eR : xTs g _ 3 hp tp (pr_val M n 61 i 2 (it (tx_dg (mc_val M n i 1)) 4 (tx_psh s0 (xL (mc_val M n i 0).toNatClampNeg)))) := eR
      have k2 : (pr_val M n 61 i 2 (it (tx_dg (mc_val M n i 1)) 4 (tx_psh s0 (xL (mc_val M n i 0).toNatClampNeg)))).2 ≤ 300 := pr_val_le k2
      refine lv_aload_n hx hb d_MT_printPart_60 rfl (lv_at hl 1 rfl) ?_
      refine lv_bipush (v := 44) hx hb d_MT_printPart_61 (by decide) ?_
      refine lv_iload_n hx hb d_MT_printPart_63 rfl (lv_at hl 2 rfl) ?_
      refine lv_iconst (v := 3) hx hb d_MT_printPart_64 (by decide) ?_
      refine x_cVv (As := [.int 44, .int i, .int 3]) (rest := []) E (c_MT_printValue l g b0 _ m0 eR k2 eM k5 hqa 44 i 3 (by decide)) wy_MT_printValue wl_MT_114 hP hD hS m0 rfl hl.1 ⟨by decide, by decide⟩ ⟨Nat.le_refl _, Nat.le_refl _⟩ rfl (Nat.le_of_ble_eq_true rfl) d_MT_printPart_65 (fun w6 H locs hr65 hP hD hS => ?_)
      obtain ⟨hq, eR⟩ := hr65
      have hQ := hQ.tr hq
      have m0 := (hq _ (by omega)).trans m0
      have eM := eM.keep hq (by omega)
      have eR : xTs g _ 3 hp tp (pr_val M n 44 i 3 (pr_val M n 61 i 2 (it (tx_dg (mc_val M n i 1)) 4 (tx_psh s0 (xL (mc_val M n i 0).toNatClampNeg))))) := eR
      have k2 : (pr_val M n 44 i 3 (pr_val M n 61 i 2 (it (tx_dg (mc_val M n i 1)) 4 (tx_psh s0 (xL (mc_val M n i 0).toNatClampNeg))))).2 ≤ 300 := pr_val_le k2
      refine lv_aload_n hx hb d_MT_printPart_68 rfl (lv_at hl 1 rfl) ?_
      refine lv_bipush (v := 62) hx hb d_MT_printPart_69 (by decide) ?_
      refine lv_iload_n hx hb d_MT_printPart_71 rfl (lv_at hl 2 rfl) ?_
      refine lv_iconst (v := 4) hx hb d_MT_printPart_72 (by decide) ?_
      refine x_cVv (As := [.int 62, .int i, .int 4]) (rest := []) E (c_MT_printValue l g b0 _ m0 eR k2 eM k5 hqa 62 i 4 (by decide)) wy_MT_printValue wl_MT_114 hP hD hS m0 rfl hl.1 ⟨by decide, by decide⟩ ⟨Nat.le_refl _, Nat.le_refl _⟩ rfl (Nat.le_of_ble_eq_true rfl) d_MT_printPart_73 (fun w7 H locs hr73 hP hD hS => ?_)
      obtain ⟨hq, eR⟩ := hr73
      have hQ := hQ.tr hq
      have m0 := (hq _ (by omega)).trans m0
      have eM := eM.keep hq (by omega)
      have eR : xTs g _ 3 hp tp (pr_val M n 62 i 4 (pr_val M n 44 i 3 (pr_val M n 61 i 2 (it (tx_dg (mc_val M n i 1)) 4 (tx_psh s0 (xL (mc_val M n i 0).toNatClampNeg)))))) := eR
      have k2 : (pr_val M n 62 i 4 (pr_val M n 44 i 3 (pr_val M n 61 i 2 (it (tx_dg (mc_val M n i 1)) 4 (tx_psh s0 (xL (mc_val M n i 0).toNatClampNeg)))))).2 ≤ 300 := pr_val_le k2
      refine lv_aload_n hx hb d_MT_printPart_76 rfl (lv_at hl 1 rfl) ?_
      refine lv_bipush (v := 44) hx hb d_MT_printPart_77 (by decide) ?_
      refine lv_iload_n hx hb d_MT_printPart_79 rfl (lv_at hl 2 rfl) ?_
      refine lv_iconst (v := 5) hx hb d_MT_printPart_80 (by decide) ?_
      refine x_cVv (As := [.int 44, .int i, .int 5]) (rest := []) E (c_MT_printValue l g b0 _ m0 eR k2 eM k5 hqa 44 i 5 (by decide)) wy_MT_printValue wl_MT_114 hP hD hS m0 rfl hl.1 ⟨by decide, by decide⟩ ⟨Nat.le_refl _, Nat.le_refl _⟩ rfl (Nat.le_of_ble_eq_true rfl) d_MT_printPart_81 (fun w8 H locs hr81 hP hD hS => ?_)
      obtain ⟨hq, eR⟩ := hr81
      have hQ := hQ.tr hq
      have m0 := (hq _ (by omega)).trans m0
      have eM := eM.keep hq (by omega)
      have eR : xTs g _ 3 hp tp (pr_val M n 44 i 5 (pr_val M n 62 i 4 (pr_val M n 44 i 3 (pr_val M n 61 i 2 (it (tx_dg (mc_val M n i 1)) 4 (tx_psh s0 (xL (mc_val M n i 0).toNatClampNeg))))))) := eR
      have k2 : (pr_val M n 44 i 5 (pr_val M n 62 i 4 (pr_val M n 44 i 3 (pr_val M n 61 i 2 (it (tx_dg (mc_val M n i 1)) 4 (tx_psh s0 (xL (mc_val M n i 0).toNatClampNeg))))))).2 ≤ 300 := pr_val_le k2
      refine lv_aload_n hx hb d_MT_printPart_84 rfl (lv_at hl 1 rfl) ?_
      refine x_get E hP m0 rfl cl0_in 1 (by decide) wf_MT_16 rfl d_MT_printPart_85 ?_
      refine lv_bipush (v := 59) hx hb d_MT_printPart_88 (by decide) ?_
      refine x_cVi (As := [.int 59]) (rest := []) E (c_Tx_append l g b0 _ eR k2 59 (by decide)) wy_Tx_append wl_MT_52 hP hD hS eR.1 rfl hl.1 ⟨by decide, by decide⟩ ⟨Nat.le_refl _, Nat.le_refl _⟩ rfl (Nat.le_of_ble_eq_true rfl) d_MT_printPart_90 (fun r90 w9 H locs hr90 hP hD hS => ?_)
      obtain ⟨-, hq, eR⟩ := hr90
      have hQ := hQ.tr hq
      have m0 := (hq _ (by omega)).trans m0
      have eM := eM.keep hq (by omega)
      have eR : xTs g _ 3 hp tp (tx_psh (pr_val M n 44 i 5 (pr_val M n 62 i 4 (pr_val M n 44 i 3 (pr_val M n 61 i 2 (it (tx_dg (mc_val M n i 1)) 4 (tx_psh s0 (xL (mc_val M n i 0).toNatClampNeg))))))) 59) := eR
      have k2 : (tx_psh (pr_val M n 44 i 5 (pr_val M n 62 i 4 (pr_val M n 44 i 3 (pr_val M n 61 i 2 (it (tx_dg (mc_val M n i 1)) 4 (tx_psh s0 (xL (mc_val M n i 0).toNatClampNeg))))))) 59).2 ≤ 300 := tx_psh_le k2
      refine lv_pop hx hb d_MT_printPart_93 rfl ?_
      exact x_rv E hr hS ⟨hQ, by rw [pr_part, if_neg c11, if_pos c19]; exact eR⟩ hP hD d_MT_printPart_94
    · exact x_rv E hr hS ⟨hQ, by rw [pr_part, if_neg c11, if_neg c19]; exact eR⟩ hP hD d_MT_printPart_22
def cl_print (σ : cl_S) : Int32 × cl_S := (nI (pr_all σ.2.2.2.2.2.1.1 σ.2.2.2.2.2.1.2.2 (σ.2.1.1, 0)).2, (σ.1, pr_all σ.2.2.2.2.2.1.1 σ.2.2.2.2.2.1.2.2 (σ.2.1.1, 0), σ.2.2))
set_option maxRecDepth 100000 in
set_option maxHeartbeats 4000000 in
theorem c_MT_print (l : Launch) (g : xG) (b0 : Nat) (ws : va_W) {h0 : Nat} {σ : cl_S} (eC : xCl g ws h0 σ) (ho : cl_ok σ) : xMi l g b0 y_MT_print b_MT_print 2 (some .int) 4 [.ref h0] ws (fun r u => r = (cl_print σ).1 ∧ xQ 0 55 ws u ∧ xCl g u h0 (cl_print σ).2 ∧ cl_ok (cl_print σ).2) := by
  unfold xMi
  refine x_in (by decide) (Nat.le_of_ble_eq_true rfl) ?_
  intro p e s m below meth c ls E hr hin hP hD hl
  obtain ⟨hx, hb, hml, hown, hts, hK, hZ, hb0, hlocks⟩ := id E
  have hS : va_S (xA b0) s.heap s.heap [] := va_S.rf
  have hl : lv_has ls 2 [(0, .ref h0)] := hl
  obtain ⟨ht, tt, hp, tp, hs, ha, oa, hf, of, qa, h1, o1, d1, qb, h2, o2, d2, ra, rf, r1, r2, hqq, m0, eT, eR, eS, eA, eF, eM, eN⟩ := id eC
  obtain ⟨k1, k2, k3, k4, k5, k6⟩ := id ho
  have hQ : xQ 0 55 ws ws := xQ.rf
  refine lv_aload_n hx hb d_MT_print_0 rfl (lv_at hl 0 rfl) ?_
  refine x_get E hP m0 rfl cl0_in 1 (by decide) wf_MT_16 rfl d_MT_print_1 ?_
  refine x_cVv (As := []) (rest := []) E (c_Tx_clear l g b0 _ eR k2) wy_Tx_clear wl_MT_60 hP hD hS eR.1 rfl hl.1 ⟨by decide, by decide⟩ ⟨Nat.le_refl _, Nat.le_refl _⟩ rfl (Nat.le_of_ble_eq_true rfl) d_MT_print_4 (fun w1 H locs hr4 hP hD hS => ?_)
  obtain ⟨hq, eR⟩ := hr4
  have hQ := hQ.tr (hq.wide (by omega))
  have m0 := (hq _ (by omega)).trans m0
  have eS := (hq _ (by omega)).trans eS
  have eT := eT.keep hq (by omega)
  have eA := eA.keep hq (by omega)
  have eF := eF.keep hq (by omega)
  have eM := eM.keep hq (by omega)
  have eN := eN.keep hq (by omega)
  have eR : xTs g _ 3 hp tp (σ.2.1.1, 0) := eR
  refine lv_iconst (v := 0) hx hb d_MT_print_7 (by decide) ?_
  refine lv_istore_n (lv' := [(1, .int 0), (0, .ref h0)]) hx hb d_MT_print_8 rfl hl (by decide) rfl (fun ls hl => ?_)
  have loop : ∀ (k i : Nat)  (v : va_W) (H : Heap) (locs : List Loc) (ls : Array Slot), (σ.2.2.2.2.2.1.2.2 < i + k) → (i ≤ σ.2.2.2.2.2.1.2.2) → (lv_has ls 2 [(1, .int (nI i)), (0, .ref h0)]) → (va_P (xD g) vwCl v H) → (va_D (xA b0) v) → (va_S (xA b0) s.heap H locs) → (xQ 0 55 ws v) → (v[0]? = some (h0, .inr (0, [.ref ht, .ref hp, .ref hs, .ref ha, .ref hf, .ref h1, .ref h2]))) → (xTs g v 1 ht tt σ.1) → (xTs g v 3 hp tp (it (fun i => pr_part σ.2.2.2.2.2.1.1 σ.2.2.2.2.2.1.2.2 (nI i)) i (σ.2.1.1, 0))) → (v[5]? = some (hs, .inr (3, [.ref ht, .int (nI σ.2.2.1)]))) → (xPath g v 6 ha oa ra σ.2.2.2.1) → (xFs g v 32 hf of rf σ.2.2.2.2.1) → (xMach g v qa h1 o1 d1 r1 σ.2.2.2.2.2.1.1 σ.2.2.2.2.2.1.2.1 σ.2.2.2.2.2.1.2.2) → (xMach g v qb h2 o2 d2 r2 σ.2.2.2.2.2.2.1 σ.2.2.2.2.2.2.2.1 σ.2.2.2.2.2.2.2.2) → W p l e (rmL 4) s m ([.ref h0] : List Value).toArray below meth c H locs 0 0 (MQ below (va_Qi (fun r u => r = (cl_print σ).1 ∧ xQ 0 55 ws u ∧ xCl g u h0 (cl_print σ).2 ∧ cl_ok (cl_print σ).2) (fun u t => va_P (xD g) vwCl u t.heap ∧ va_D (xA b0) u) (xA b0)) ([.ref h0] : List Value).toArray s 0 0 (xA b0)) (F0 m 9 ls []) := by
    intro k
    induction k with
    | zero =>
      intro i v H locs ls hk hi hl hP hD hS hQ m0 eT eR eS eA eF eM eN
      omega
    | succ k ih =>
      intro i v H locs ls hk hi hl hP hD hS hQ m0 eT eR eS eA eF eM eN
      have k9 : (it (fun i => pr_part σ.2.2.2.2.2.1.1 σ.2.2.2.2.2.1.2.2 (nI i)) i (σ.2.1.1, 0)).2 ≤ 300 := pr_it_le (s := (σ.2.1.1, 0)) (Nat.zero_le _) i
      refine lv_iload_n hx hb d_MT_print_9 rfl (lv_at hl 0 rfl) ?_
      refine lv_aload_n hx hb d_MT_print_10 rfl (lv_at hl 1 rfl) ?_
      refine x_get E hP m0 rfl cl0_in 5 (by decide) wf_MT_45 rfl d_MT_print_11 ?_
      refine x_get E hP eM.1 rfl cl2_in 2 (by decide) wf_MT_75 rfl d_MT_print_14 ?_
      refine lv_icmp_ge (tgt := 31) hx hb d_MT_print_17 (by decide) (fun c17 => ?_) (fun c17 => ?_)
      · have hi9 : i = σ.2.2.2.2.2.1.2.2 := by
          have := (nI_leI (by omega) (by omega)).mp c17
          omega
        refine lv_aload_n hx hb d_MT_print_31 rfl (lv_at hl 1 rfl) ?_
        refine x_get E hP m0 rfl cl0_in 1 (by decide) wf_MT_16 rfl d_MT_print_32 ?_
        refine x_get E hP eR.1 rfl cl1_in 1 (by decide) wf_MT_101 rfl d_MT_print_35 ?_
        rw [hi9] at eR k9 ⊢
        exact x_ri E hr hS ⟨rfl, hQ, ⟨ht, tt, hp, tp, hs, ha, oa, hf, of, qa, h1, o1, d1, qb, h2, o2, d2, ra, rf, r1, r2, hqq, m0, eT, eR, eS, eA, eF, eM, eN⟩, ⟨k1, k9, k3, k4, k5, k6⟩⟩ hP hD d_MT_print_38
      · have hi9 : i < σ.2.2.2.2.2.1.2.2 := Nat.not_le.mp fun h => c17 (nI_le h (by omega))
        refine lv_aload_n hx hb d_MT_print_20 rfl (lv_at hl 1 rfl) ?_
        refine lv_iload_n hx hb d_MT_print_21 rfl (lv_at hl 0 rfl) ?_
        refine x_cVv (As := [.int (nI i)]) (rest := []) E (c_MT_printPart l g b0 _ m0 eR k9 eM k5 (by omega) (nI i)) wy_MT_printPart wl_MT_97 hP hD hS m0 rfl hl.1 ⟨by decide, by decide⟩ ⟨Nat.le_refl _, Nat.le_refl _⟩ rfl (Nat.le_of_ble_eq_true rfl) d_MT_print_22 (fun w52 H locs hr22 hP hD hS => ?_)
        obtain ⟨hq, eR⟩ := hr22
        have hQ := hQ.tr (hq.wide (by omega))
        have m0 := (hq _ (by omega)).trans m0
        have eS := (hq _ (by omega)).trans eS
        have eT := eT.keep hq (by omega)
        have eA := eA.keep hq (by omega)
        have eF := eF.keep hq (by omega)
        have eM := eM.keep hq (by omega)
        have eN := eN.keep hq (by omega)
        have eR : xTs g _ 3 hp tp (it (fun i => pr_part σ.2.2.2.2.2.1.1 σ.2.2.2.2.2.1.2.2 (nI i)) (i + 1) (σ.2.1.1, 0)) := eR
        refine lv_iinc (v := nI (i + 1)) (lv' := [(1, .int (nI (i + 1))), (0, .ref h0)]) hx hb d_MT_print_25 hl (k := 0) rfl (nI_1 i) (by decide) rfl (fun ls hl => ?_)
        refine lv_goto (tgt := 9) hx hb d_MT_print_28 (by decide) ?_
        exact ih (i + 1) _ _ _ _ (by omega) (by omega) hl hP hD hS hQ m0 eT eR eS eA eF eM eN
  have eR : xTs g _ 3 hp tp (it (fun i => pr_part σ.2.2.2.2.2.1.1 σ.2.2.2.2.2.1.2.2 (nI i)) 0 (σ.2.1.1, 0)) := eR
  exact loop (σ.2.2.2.2.2.1.2.2 + 1) 0 _ _ _ _ (by omega) (by omega) hl hP hD hS hQ m0 eT eR eS eA eF eM eN
/-- what reading leaves: ix0 is the spare's row of names as it was cleared, T0 the cleared times -/
noncomputable def cl_read (σ : cl_S) (ix0 : Nat → Int32) (T0 : Nat → Nat → Int32) : Int32 × cl_S :=
  if (ps_parts σ.1.1 σ.1.2 (0, σ.2.2.2.2.2.2.1, ix0, 0)).1 = 0 then (-1 - nI (ps_parts σ.1.1 σ.1.2 (0, σ.2.2.2.2.2.2.1, ix0, 0)).2.1, ((σ.1.1, 0), σ.2.1, (ps_parts σ.1.1 σ.1.2 (0, σ.2.2.2.2.2.2.1, ix0, 0)).2.1, σ.2.2.2.1, σ.2.2.2.2.1, σ.2.2.2.2.2.1, (ps_parts σ.1.1 σ.1.2 (0, σ.2.2.2.2.2.2.1, ix0, 0)).2.2))
  else (nI (ps_parts σ.1.1 σ.1.2 (0, σ.2.2.2.2.2.2.1, ix0, 0)).2.2.2.2, ((σ.1.1, 0), σ.2.1, (ps_parts σ.1.1 σ.1.2 (0, σ.2.2.2.2.2.2.1, ix0, 0)).2.1, pa_all (ps_parts σ.1.1 σ.1.2 (0, σ.2.2.2.2.2.2.1, ix0, 0)).2.2.1 (ps_parts σ.1.1 σ.1.2 (0, σ.2.2.2.2.2.2.1, ix0, 0)).2.2.2.1 (ps_parts σ.1.1 σ.1.2 (0, σ.2.2.2.2.2.2.1, ix0, 0)).2.2.2.2 T0,
    fl_all (ps_parts σ.1.1 σ.1.2 (0, σ.2.2.2.2.2.2.1, ix0, 0)).2.2.1 (ps_parts σ.1.1 σ.1.2 (0, σ.2.2.2.2.2.2.1, ix0, 0)).2.2.2.1 (ps_parts σ.1.1 σ.1.2 (0, σ.2.2.2.2.2.2.1, ix0, 0)).2.2.2.2 (pa_all (ps_parts σ.1.1 σ.1.2 (0, σ.2.2.2.2.2.2.1, ix0, 0)).2.2.1 (ps_parts σ.1.1 σ.1.2 (0, σ.2.2.2.2.2.2.1, ix0, 0)).2.2.2.1 (ps_parts σ.1.1 σ.1.2 (0, σ.2.2.2.2.2.2.1, ix0, 0)).2.2.2.2 T0) σ.2.2.2.2.1.1,
    (ps_parts σ.1.1 σ.1.2 (0, σ.2.2.2.2.2.2.1, ix0, 0)).2.2, σ.2.2.2.2.2.1))
theorem fl_all_le {M : Nat → Nat → Int32} {ix : Nat → Int32} {n : Nat} {T F : Nat → Nat → Int32} (hn : n ≤ 24) : (fl_all M ix n T F).2 ≤ 168 := by
  have hb0 := it_le (c := 2) (fl_w1_le (M := M) (ix := ix) (n := n)) n (F, 0)
  have hb1 := it_le (c := 24) (fl_k1_le (M := M) (ix := ix) (n := n) (T := T) hn) 5 (it (fl_w1 M ix n) n (F, 0))
  show (it (fl_k1 M ix n T) 5 (it (fl_w1 M ix n) n (F, 0))).2 ≤ 168
  have h0 : (F, 0).2 = 0 := rfl
  omega
set_option maxRecDepth 100000 in
set_option maxHeartbeats 4000000 in
theorem c_MT_read (l : Launch) (g : xG) (b0 : Nat) (ws : va_W) {h0 : Nat} {σ : cl_S} (eC : xCl g ws h0 σ) (ho : cl_ok σ) : xMi l g b0 y_MT_read b_MT_read 3 (some .int) 6 [.ref h0] ws (fun r u => ∃ ix0 T0, (∀ j, j < 30 → ix0 j = -1) ∧ (∀ i j, i < 24 → j < 24 → T0 i j = -1) ∧ r = (cl_read σ ix0 T0).1 ∧ xQ 0 55 ws u ∧ xCl g u h0 (cl_read σ ix0 T0).2 ∧ cl_ok (cl_read σ ix0 T0).2) := by
  unfold xMi
  refine x_in (by decide) (Nat.le_of_ble_eq_true rfl) ?_
  intro p e s m below meth c ls E hr hin hP hD hl
  obtain ⟨hx, hb, hml, hown, hts, hK, hZ, hb0, hlocks⟩ := id E
  have hS : va_S (xA b0) s.heap s.heap [] := va_S.rf
  have hl : lv_has ls 3 [(0, .ref h0)] := hl
  obtain ⟨ht, tt, hp, tp, hs, ha, oa, hf, of, qa, h1, o1, d1, qb, h2, o2, d2, ra, rf, r1, r2, hqq, m0, eT, eR, eS, eA, eF, eM, eN⟩ := id eC
  obtain ⟨k1, k2, k3, k4, k5, k6⟩ := id ho
  have hQ : xQ 0 55 ws ws := xQ.rf
  refine lv_aload_n hx hb d_MT_read_0 rfl (lv_at hl 0 rfl) ?_
  refine x_get E hP m0 rfl cl0_in 2 (by decide) wf_MT_24 rfl d_MT_read_1 ?_
  refine lv_aload_n hx hb d_MT_read_4 rfl (lv_at hl 0 rfl) ?_
  refine x_get E hP m0 rfl cl0_in 6 (by decide) wf_MT_49 rfl d_MT_read_5 ?_
  refine x_cVi (As := [.ref h2]) (rest := []) E (c_Ps_readParts l g b0 _ (qp := 5) (qt := 1) (qm := qb) (f := σ.1.1) (n := σ.1.2) (z := (σ.2.2.1, σ.2.2.2.2.2.2)) ⟨by omega, by omega, by omega⟩ k1 ⟨eS, eT, eN⟩ k6) wy_Ps_readParts wl_MT_56 hP hD hS eS rfl hl.1 ⟨by decide, by decide⟩ ⟨Nat.le_refl _, Nat.le_refl _⟩ rfl (Nat.le_of_ble_eq_true rfl) d_MT_read_8 (fun r8 w1 H locs hr8 hP hD hS => ?_)
  obtain ⟨ix0, hix0, rfl, hq, eZ, hpl, hcn⟩ := hr8
  have hQ : xQ 0 55 ws w1 := fun k9 hk9 => hq k9 (by omega) (by omega)
  have m0 := (hq 0 (by omega) (by omega)).trans m0
  have eR := eR.kp (fun i _ _ => hq i (by omega) (by omega))
  have eA := eA.kp (fun i _ _ => hq i (by omega) (by omega))
  have eF := eF.kp (fun i _ _ => hq i (by omega) (by omega))
  have eM := eM.kp (fun i _ _ => hq i (by omega) (by omega))
  generalize hX : ps_parts σ.1.1 σ.1.2 (0, σ.2.2.2.2.2.2.1, ix0, 0) = X at eZ hpl hcn ⊢
  obtain ⟨eS, eT, eN⟩ := eZ
  refine lv_istore_n (lv' := [(1, .int X.1), (0, .ref h0)]) hx hb d_MT_read_11 rfl hl (by decide) rfl (fun ls hl => ?_)
  refine lv_aload_n hx hb d_MT_read_12 rfl (lv_at hl 1 rfl) ?_
  refine x_get E hP m0 rfl cl0_in 0 (by decide) wf_MT_12 rfl d_MT_read_13 ?_
  refine x_cVv (As := []) (rest := []) E (c_Tx_clear l g b0 _ eT k1) wy_Tx_clear wl_MT_60 hP hD hS eT.1 rfl hl.1 ⟨by decide, by decide⟩ ⟨Nat.le_refl _, Nat.le_refl _⟩ rfl (Nat.le_of_ble_eq_true rfl) d_MT_read_16 (fun w2 H locs hr16 hP hD hS => ?_)
  obtain ⟨hq, eT⟩ := hr16
  have hQ := hQ.tr (hq.wide (by omega))
  have m0 := (hq _ (by omega)).trans m0
  have eS := (hq _ (by omega)).trans eS
  have eR := eR.keep hq (by omega)
  have eA := eA.keep hq (by omega)
  have eF := eF.keep hq (by omega)
  have eM := eM.keep hq (by omega)
  have eN := eN.keep hq (by omega)
  refine lv_iload_n hx hb d_MT_read_19 rfl (lv_at hl 0 rfl) ?_
  refine lv_if_ne (tgt := 33) hx hb d_MT_read_20 (by decide) (fun c20 => ?_) (fun c20 => ?_)
  · refine lv_aload_n hx hb d_MT_read_33 rfl (lv_at hl 1 rfl) ?_
    refine x_get E hP m0 rfl cl0_in 5 (by decide) wf_MT_45 rfl d_MT_read_34 ?_
    refine lv_astore_n (lv' := [(2, .ref h1), (1, .int X.1), (0, .ref h0)]) hx hb d_MT_read_37 rfl hl (by decide) rfl (fun ls hl => ?_)
    refine lv_aload_n hx hb d_MT_read_38 rfl (lv_at hl 2 rfl) ?_
    refine lv_aload_n hx hb d_MT_read_39 rfl (lv_at hl 2 rfl) ?_
    refine x_get E hP m0 rfl cl0_in 6 (by decide) wf_MT_49 rfl d_MT_read_40 ?_
    refine x_put E hP hD hS m0 rfl cl0_in cl0_ty cl0_nm 5 (by decide) wf_MT_45 rfl rfl rfl (Nat.le_of_ble_eq_true rfl) d_MT_read_43 (fun w3 H locs hU3 hP hD hS => ?_)
    have m0 : w3[0]? = some (h0, .inr (0, [.ref ht, .ref hp, .ref hs, .ref ha, .ref hf, .ref h2, .ref h2])) := hU3.1
    have eT : xText g w3 1 ht tt σ.1.1 0 := eT.kp (fun i _ _ => hU3.2 i (by omega))
    have eR : xTs g w3 3 hp tp σ.2.1 := eR.kp (fun i _ _ => hU3.2 i (by omega))
    have eS : w3[5]? = some (hs, .inr (3, [.ref ht, .int (nI X.2.1)])) := (hU3.2 _ (by omega)).trans eS
    have eA : xPath g w3 6 ha oa ra σ.2.2.2.1 := eA.kp (fun i _ _ => hU3.2 i (by omega))
    have eF : xFs g w3 32 hf of rf σ.2.2.2.2.1 := eF.kp (fun i _ _ => hU3.2 i (by omega))
    have eM : xMach g w3 qa h1 o1 d1 r1 σ.2.2.2.2.2.1.1 σ.2.2.2.2.2.1.2.1 σ.2.2.2.2.2.1.2.2 := eM.kp (fun i _ _ => hU3.2 i (by omega))
    have eN : xMach g w3 qb h2 o2 d2 r2 X.2.2.1 X.2.2.2.1 X.2.2.2.2 := eN.kp (fun i _ _ => hU3.2 i (by omega))
    have hQ := hQ.up hU3 (by omega)
    refine lv_aload_n hx hb d_MT_read_46 rfl (lv_at hl 2 rfl) ?_
    refine lv_aload_n hx hb d_MT_read_47 rfl (lv_at hl 0 rfl) ?_
    refine x_put E hP hD hS m0 rfl cl0_in cl0_ty cl0_nm 6 (by decide) wf_MT_49 rfl rfl rfl (Nat.le_of_ble_eq_true rfl) d_MT_read_48 (fun w4 H locs hU4 hP hD hS => ?_)
    have m0 : w4[0]? = some (h0, .inr (0, [.ref ht, .ref hp, .ref hs, .ref ha, .ref hf, .ref h2, .ref h1])) := hU4.1
    have eT : xText g w4 1 ht tt σ.1.1 0 := eT.kp (fun i _ _ => hU4.2 i (by omega))
    have eR : xTs g w4 3 hp tp σ.2.1 := eR.kp (fun i _ _ => hU4.2 i (by omega))
    have eS : w4[5]? = some (hs, .inr (3, [.ref ht, .int (nI X.2.1)])) := (hU4.2 _ (by omega)).trans eS
    have eA : xPath g w4 6 ha oa ra σ.2.2.2.1 := eA.kp (fun i _ _ => hU4.2 i (by omega))
    have eF : xFs g w4 32 hf of rf σ.2.2.2.2.1 := eF.kp (fun i _ _ => hU4.2 i (by omega))
    have eM : xMach g w4 qa h1 o1 d1 r1 σ.2.2.2.2.2.1.1 σ.2.2.2.2.2.1.2.1 σ.2.2.2.2.2.1.2.2 := eM.kp (fun i _ _ => hU4.2 i (by omega))
    have eN : xMach g w4 qb h2 o2 d2 r2 X.2.2.1 X.2.2.2.1 X.2.2.2.2 := eN.kp (fun i _ _ => hU4.2 i (by omega))
    have hQ := hQ.up hU4 (by omega)
    refine lv_aload_n hx hb d_MT_read_51 rfl (lv_at hl 2 rfl) ?_
    refine x_get E hP m0 rfl cl0_in 3 (by decide) wf_MT_31 rfl d_MT_read_52 ?_
    refine lv_aload_n hx hb d_MT_read_55 rfl (lv_at hl 2 rfl) ?_
    refine x_get E hP m0 rfl cl0_in 5 (by decide) wf_MT_45 rfl d_MT_read_56 ?_
    refine x_cVv (As := [.ref h2]) (rest := []) E (c_Pa_follow l g b0 _ eA eN hcn (by omega)) wy_Pa_follow wl_MT_67 hP hD hS eA.1 rfl hl.1 ⟨by decide, by decide⟩ ⟨Nat.le_refl _, Nat.le_refl _⟩ rfl (Nat.le_of_ble_eq_true rfl) d_MT_read_59 (fun w5 H locs hr59 hP hD hS => ?_)
    obtain ⟨hq, T0, eA, hT0⟩ := hr59
    have hQ := hQ.tr (hq.wide (by omega))
    have m0 := (hq _ (by omega)).trans m0
    have eS := (hq _ (by omega)).trans eS
    have eT := eT.keep hq (by omega)
    have eR := eR.keep hq (by omega)
    have eF := eF.keep hq (by omega)
    have eM := eM.keep hq (by omega)
    have eN := eN.keep hq (by omega)
    refine lv_aload_n hx hb d_MT_read_62 rfl (lv_at hl 2 rfl) ?_
    refine x_get E hP m0 rfl cl0_in 4 (by decide) wf_MT_38 rfl d_MT_read_63 ?_
    refine lv_aload_n hx hb d_MT_read_66 rfl (lv_at hl 2 rfl) ?_
    refine x_get E hP m0 rfl cl0_in 5 (by decide) wf_MT_45 rfl d_MT_read_67 ?_
    refine lv_aload_n hx hb d_MT_read_70 rfl (lv_at hl 2 rfl) ?_
    refine x_get E hP m0 rfl cl0_in 3 (by decide) wf_MT_31 rfl d_MT_read_71 ?_
    refine x_cVv (As := [.ref h2, .ref ha]) (rest := []) E (c_Fl_find l g b0 _ eF eN hcn eA (by omega)) wy_Fl_find wl_MT_71 hP hD hS eF.1 rfl hl.1 ⟨by decide, by decide⟩ ⟨Nat.le_refl _, Nat.le_refl _⟩ rfl (Nat.le_of_ble_eq_true rfl) d_MT_read_74 (fun w6 H locs hr74 hP hD hS => ?_)
    obtain ⟨hq, eF⟩ := hr74
    have hQ := hQ.tr (hq.wide (by omega))
    have m0 := (hq _ (by omega)).trans m0
    have eS := (hq _ (by omega)).trans eS
    have eT := eT.keep hq (by omega)
    have eR := eR.keep hq (by omega)
    have eA := eA.keep hq (by omega)
    have eM := eM.keep hq (by omega)
    have eN := eN.keep hq (by omega)
    refine lv_aload_n hx hb d_MT_read_77 rfl (lv_at hl 2 rfl) ?_
    refine x_get E hP m0 rfl cl0_in 5 (by decide) wf_MT_45 rfl d_MT_read_78 ?_
    refine x_get E hP eN.1 rfl cl2_in 2 (by decide) wf_MT_75 rfl d_MT_read_81 ?_
    exact x_ri E hr hS ⟨ix0, T0, hix0, hT0, by rw [cl_read, hX, if_neg c20]; exact ⟨rfl, hQ, ⟨ht, tt, hp, tp, hs, ha, oa, hf, of, qb, h2, o2, d2, qa, h1, o1, d1, ra, rf, r2, r1, by omega, m0, eT, eR, eS, eA, eF, eN, eM⟩, ⟨Nat.zero_le _, k2, Nat.le_trans hpl k1, fl_all_le hcn, hcn, k5⟩⟩⟩ hP hD d_MT_read_84
  · refine lv_iconst (v := (-1)) hx hb d_MT_read_23 (by decide) ?_
    refine lv_aload_n hx hb d_MT_read_24 rfl (lv_at hl 1 rfl) ?_
    refine x_get E hP m0 rfl cl0_in 2 (by decide) wf_MT_24 rfl d_MT_read_25 ?_
    refine x_get E hP eS rfl cl3_in 1 (by decide) wf_MT_63 rfl d_MT_read_28 ?_
    refine lv_isub hx hb d_MT_read_31 ?_
    exact x_ri E hr hS ⟨ix0, fun _ _ => -1, hix0, fun _ _ _ _ => rfl, by rw [cl_read, hX, if_pos c20]; exact ⟨rfl, hQ, ⟨ht, tt, hp, tp, hs, ha, oa, hf, of, qa, h1, o1, d1, qb, h2, o2, d2, ra, rf, r1, r2, hqq, m0, eT, eR, eS, eA, eF, eM, eN⟩, ⟨Nat.zero_le _, k2, Nat.le_trans hpl k1, k4, k5, hcn⟩⟩⟩ hP hD d_MT_read_32
end
section
/-! what a constructor makes: a new cell stands behind the world's last place -/
theorem wq_oi : Cond.instanceMethod Lib.objectInit ∈ TB := tb_h 31 (by decide +kernel) (by decide +kernel)
theorem wq_oc : Cond.code Lib.objectInit ⟨#[0xb1]⟩ 1 none ∈ TB := tb_h 32 (by decide +kernel) (by decide +kernel)
theorem xU.new {ws : va_W} {x : Nat × va_E} : xU ws ws.length x (ws ++ [x]) := ⟨by simp, fun k hk => by
  rcases Nat.lt_or_ge k ws.length with h | h
  · rw [List.getElem?_append_left h]
  · rw [List.getElem?_append_right h, List.getElem?_eq_none (by simp; omega), List.getElem?_eq_none (by omega)]⟩
theorem xU.len {ws w1 : va_W} {q : Nat} {y x : Nat × va_E} (h : xU ws q x w1) (hy : ws[q]? = some y) : w1.length = ws.length := by
  have hq : q < ws.length := (List.getElem?_eq_some_iff.mp hy).1
  have hq1 : q < w1.length := (List.getElem?_eq_some_iff.mp h.1).1
  have a1 : ¬ ws.length < w1.length := fun hl => by
    have e := h.2 ws.length (by omega)
    rw [List.getElem?_eq_none (Nat.le_refl ws.length), List.getElem?_eq_none_iff] at e
    omega
  have a2 : ¬ w1.length < ws.length := fun hl => by
    have e := h.2 w1.length (by omega)
    rw [List.getElem?_eq_none (Nat.le_refl w1.length)] at e
    have := List.getElem?_eq_none_iff.mp e.symm
    omega
  omega
theorem xQ.len {lo hi : Nat} {ws w1 : va_W} (hq : xQ lo hi ws w1) {n k : Nat} (hl : ws.length = n) (hh : hi ≤ n) {x : Nat × va_E} (hx : w1[k]? = some x) (hk : k + 1 = n) : w1.length = n := by
  have a1 : k < w1.length := (List.getElem?_eq_some_iff.mp hx).1
  have a2 := hq n (Or.inr hh)
  rw [List.getElem?_eq_none (by omega : ws.length ≤ n)] at a2
  have a3 := List.getElem?_eq_none_iff.mp a2
  omega
theorem x_ra {s : State} {c1 c2 : ClassId} {ty : FieldType} (ho : ∀ C, ty ≠ .object C) (h1 : va_RA s c1 ty) (h2 : va_RA s c2 ty) : c1 = c2 := by
  cases ty <;> first | exact absurd rfl (ho _) | exact Option.some.inj (h1.symm.trans h2)
section XNW
variable {p : Program} {l : Launch} {e : Env} {R : Room} {s : State} {m : MethodId} {args : Array Value} {below : List Frame} {meth : Method} {c : Code} {H : Heap} {locs : List Loc} {cells slots : Nat} {Q : State → Prop}
variable {cc : ByteArray} {pc nL : Nat} {ls : Array Slot} {rest : List Value} {g : xG} {b0 : Nat} {ws : va_W} {own : String}
theorem x_up (E : xE g b0 cc nL own p s m args meth c) (hb : b0 ≤ s.heap.size) : ∀ q, s.heap.size ≤ q → xA b0 q := fun q h => Nat.le_trans hb h
theorem x_obj0 (E : xE g b0 cc nL own p s m args meth c) {idx a : Nat} (hlink : Cond.methodLink own idx Lib.objectInit ∈ TB) (hl : ls.size = nL) (hd : decode cc pc = .ok (.invokespecial idx, 3)) (hR : 1 ≤ R.frames ∧ 40 ≤ R.locals) (hc : (rest.map fun v => v.category).sum ≤ 8)
    (kk : W p l e R s m args below meth c H locs cells slots Q (F0 m (pc + 3) ls rest)) : W p l e R s m args below meth c H locs cells slots Q (F0 m pc ls (.ref a :: rest)) := by
  have hts := E.2.2.2.2.1
  have h8 := lv_room (m := m) (pc := pc) (ls := ls) (rest := .ref a :: rest) hc
  exact W.objInit E.1 E.2.1 E.2.2.2.1 (hts _ hlink) (hts _ wq_oi) (hts _ wq_oc) rfl (hl.trans E.2.2.1.symm) rfl hd hR.1 (by omega) kk
theorem x_newa (E : xE g b0 cc nL own p s m args meth c) (hP : va_P (xD g) vwCl ws H) (hD : va_D (xA b0) ws) (hS : va_S (xA b0) s.heap H locs) {atype : ArrayType} {ty : FieldType} (hty : newarray.typeOf atype = ty) (hw : Cond.arrayClass ty ∈ TB) {cls : ClassId} (t0 : Nat) (ht : (xT g)[t0]? = some (cls, ty)) (ho : ∀ C, ty ≠ .object C)
    {n : Int32} {N' : Nat} {a0 : vp_A} (ha : ∀ cA : ClassId, vp_cell cA a0 = arrV cA N' (fun _ => defaultValue ty)) (hn : ¬ n < 0) (hN : n.toNatClampNeg = N') (hbytes : N' * componentBytes ty ≤ 536870912) (hcells : cells + 1 ≤ R.cells) (hslots : slots + N' ≤ R.slots) (hdg : decode cc pc = .ok (.newarray atype, 2))
    (kk : ∀ (a : Nat) (w1 : va_W) (H1 : Heap), xU ws ws.length (a, .inl (cls, a0)) w1 → w1.length = ws.length + 1 → va_P (xD g) vwCl w1 H1 → va_D (xA b0) w1 → va_S (xA b0) s.heap H1 locs → W p l e R s m args below meth c H1 locs (cells + 1) (slots + N') Q (F0 m (pc + 2) ls (.ref a :: rest))) : W p l e R s m args below meth c H locs cells slots Q (F0 m pc ls (.int n :: rest)) := by
  refine va_newa E.1 E.2.1 (by rw [hty]; exact E.2.2.2.2.1 _ hw) hty E.2.2.2.2.2.1 hP hD hS (x_up E E.2.2.2.2.2.2.2.1) ha hn hN hbytes hcells hslots hdg (fun q cA H1 hK1 hP1 hD1 hS1 => ?_)
  have e1 : cA = cls := x_ra ho (hK1.2 5 _ rfl).2 (E.2.2.2.2.2.1.2 t0 _ ht).2
  subst e1
  exact kk q _ H1 xU.new (by simp) hP1 hD1 hS1
theorem x_new (E : xE g b0 cc nL own p s m args meth c) (hP : va_P (xD g) vwCl ws H) (hD : va_D (xA b0) ws) (hS : va_S (xA b0) s.heap H locs) {C : String} {T : u_T} {N ci index : Nat} (hc : vwCl[ci]? = some (C, T, N)) (hin : ∀ w ∈ u_ws C T N, w ∈ TB) {ty : Nat → FieldType} (hty : ∀ k, k < N → parseFieldDescriptor (T k).2.2.1 = some (ty k)) (hl : Cond.classLink own index C ∈ TB) (hi : Cond.instantiable C N ∈ TB) (hini : Cond.initialized C ∈ TB)
    {fs : List Value} (hfs : ∀ j, j < N → defaultValue (ty j) = vp_V fs j) (hcells : cells + 1 ≤ R.cells) (hslots : slots + N ≤ R.slots) (hdg : decode cc pc = .ok (.new index, 3))
    (kk : ∀ (a : Nat) (w1 : va_W) (H1 : Heap), xU ws ws.length (a, .inr (ci, fs)) w1 → w1.length = ws.length + 1 → va_P (xD g) vwCl w1 H1 → va_D (xA b0) w1 → va_S (xA b0) s.heap H1 locs → W p l e R s m args below meth c H1 locs (cells + 1) (slots + N) Q (F0 m (pc + 3) ls (.ref a :: rest))) : W p l e R s m args below meth c H locs cells slots Q (F0 m pc ls rest) :=
  va_new E.1 E.2.1 E.2.2.2.2.1 hin ty hty E.2.2.2.1 (E.2.2.2.2.1 _ hl) (E.2.2.2.2.1 _ hi) (E.2.2.2.2.1 _ hini) E.2.2.2.2.2.1 hP hD hS (x_up E E.2.2.2.2.2.2.2.1) hc hfs hcells hslots hdg (fun q H1 hP1 hD1 hS1 => kk q _ H1 xU.new (by simp) hP1 hD1 hS1)
/-- new int[N][M] -/
theorem x_mna (E : xE g b0 cc nL own p s m args meth c) (hP : va_P (xD g) vwCl ws H) (hD : va_D (xA b0) ws) (hS : va_S (xA b0) s.heap H locs) {index : Nat} (hl : Cond.classLink own index "[[I" ∈ TB)
    {n k : Int32} {N M : Nat} (hn : ¬ n < 0) (hk : ¬ k < 0) (hN : n.toNatClampNeg = N) (hM : k.toNatClampNeg = M) (hb1 : N * 4 ≤ 536870912) (hb2 : M * 4 ≤ 536870912) (hcells : cells + (1 + N) ≤ R.cells) (hslots : slots + (N + N * M) ≤ R.slots) (hdg : decode cc pc = .ok (.multianewarray index 2, 4))
    (kk : ∀ (a : Nat) (r : Nat → Nat) (w1 : va_W) (H1 : Heap), w1[ws.length]? = some (a, .inl (cG g, N, .inr (.inr (.inr (.inr (fun j => some (r j))))))) → (∀ j, j < N → w1[ws.length + 1 + j]? = some (r j, .inl (cI g, M, .inl (fun _ => 0)))) → (∀ j, j < ws.length → w1[j]? = ws[j]?) → w1.length = ws.length + 1 + N → va_P (xD g) vwCl w1 H1 → va_D (xA b0) w1 → va_S (xA b0) s.heap H1 locs → W p l e R s m args below meth c H1 locs (cells + (1 + N)) (slots + (N + N * M)) Q (F0 m (pc + 4) ls (.ref a :: rest))) : W p l e R s m args below meth c H locs cells slots Q (F0 m pc ls (.int k :: .int n :: rest)) := by
  have hts := E.2.2.2.2.1
  obtain ⟨kA, hkA, hkind⟩ := E.2.2.2.2.2.2.1.2.2.2.2
  refine xg_mna E.1 E.2.1 E.2.2.2.1 (hts _ hl) (E.2.2.2.2.2.1.2 2 _ rfl).2 (E.2.2.2.2.2.1.2 0 _ rfl).2 hkA hkind (hts _ wa_int) hn hk hN hM hb1 hb2 hcells hslots hdg (fun H1 z e1 e2 o1 => ?_)
  have hk0 : ∀ (i : Nat) (x : Nat × va_E), ws[i]? = some x → H1[x.1]? = H[x.1]? := fun i x hx => o1 x.1 ((hP i x hx).lt)
  have hlt : ∀ (i : Nat) (x : Nat × va_E), ws[i]? = some x → x.1 < H.size := fun i x hx => (hP i x hx).lt
  generalize hX : (H.size, (.inl (cG g, N, .inr (.inr (.inr (.inr (fun j => some (H.size + 1 + j)))))) : va_E)) = X
  have hrow : ∀ j, ((List.range N).map (fun j => (H.size + 1 + j, (.inl (cI g, M, .inl (fun _ => 0)) : va_E))))[j]? = if j < N then some (H.size + 1 + j, .inl (cI g, M, .inl (fun _ => 0))) else none := fun j => by
    by_cases h : j < N
    · rw [if_pos h]; simp [h]
    · rw [if_neg h]; simp; omega
  generalize hRw : (List.range N).map (fun j => (H.size + 1 + j, (.inl (cI g, M, .inl (fun _ => 0)) : va_E))) = Rw at hrow
  have hRl : Rw.length = N := by rw [← hRw]; simp
  have a0 : ∀ j, j < ws.length → (ws ++ X :: Rw)[j]? = ws[j]? := fun j hj => List.getElem?_append_left hj
  have a1 : (ws ++ X :: Rw)[ws.length]? = some X := by rw [List.getElem?_append_right (Nat.le_refl _)]; simp
  have a2 : ∀ j, (ws ++ X :: Rw)[ws.length + 1 + j]? = Rw[j]? := fun j => by
    rw [List.getElem?_append_right (by omega), show ws.length + 1 + j - ws.length = j + 1 by omega, List.getElem?_cons_succ]
  have cases3 : ∀ (i : Nat) (x : Nat × va_E), (ws ++ X :: Rw)[i]? = some x → (i < ws.length ∧ ws[i]? = some x) ∨ (i = ws.length ∧ x = X) ∨ (∃ j, j < N ∧ i = ws.length + 1 + j ∧ x = (H.size + 1 + j, .inl (cI g, M, .inl (fun _ => 0)))) := fun i x hx => by
    rcases Nat.lt_trichotomy i ws.length with h | h | h
    · exact Or.inl ⟨h, by rw [← a0 i h]; exact hx⟩
    · subst h
      rw [a1] at hx
      exact Or.inr (Or.inl ⟨rfl, (Option.some.inj hx).symm⟩)
    · obtain ⟨j, rfl⟩ : ∃ j, i = ws.length + 1 + j := ⟨i - ws.length - 1, by omega⟩
      rw [a2, hrow] at hx
      by_cases hj : j < N
      · rw [if_pos hj] at hx
        exact Or.inr (Or.inr ⟨j, hj, rfl, (Option.some.inj hx).symm⟩)
      · rw [if_neg hj] at hx
        cases hx
  have hPn : va_P (xD g) vwCl (ws ++ X :: Rw) H1 := fun i x hx => by
    rcases cases3 i x hx with ⟨h1, h2⟩ | ⟨h1, h2⟩ | ⟨j, h1, h2, h3⟩
    · exact (hP i x h2).kept (hk0 i x h2)
    · rw [h2, ← hX]
      show H1[H.size]? = some (vp_cell _ _)
      rw [e1, vp_cell_q]
      refine congrArg some ?_
      unfold arrV
      congr 1
      refine congrArg Array.ofFn (funext fun q => ?_)
      show va_rf (if (q : Nat) < N then some (H.size + 1 + (q : Nat)) else none) = va_rf (some (H.size + 1 + (q : Nat)))
      rw [if_pos q.isLt]
    · rw [h3]
      show H1[H.size + 1 + j]? = some (vp_cell _ _)
      rw [e2 j h1]
      rfl
  have hup := x_up E E.2.2.2.2.2.2.2.1
  have hDn : va_D (xA b0) (ws ++ X :: Rw) := by
    refine ⟨fun i j x y hi hj he => ?_, fun i x hx => ?_⟩
    · rcases cases3 i x hi with ⟨h1, h2⟩ | ⟨h1, h2⟩ | ⟨j1, h1, h2, h3⟩ <;> rcases cases3 j y hj with ⟨k1, k2⟩ | ⟨k1, k2⟩ | ⟨j2, k1, k2, k3⟩
      · exact hD.1 i j x y h2 k2 he
      · have := hlt i x h2
        rw [he, k2, ← hX] at this
        exact absurd this (Nat.lt_irrefl _)
      · have := hlt i x h2
        rw [he, k3] at this
        simp only at this
        omega
      · have := hlt j y k2
        rw [← he, h2, ← hX] at this
        exact absurd this (Nat.lt_irrefl _)
      · omega
      · rw [h2, k3, ← hX] at he
        simp only at he
        omega
      · have := hlt j y k2
        rw [← he, h3] at this
        simp only at this
        omega
      · rw [h3, k2, ← hX] at he
        simp only at he
        omega
      · rw [h3, k3] at he
        simp only at he
        omega
    · rcases cases3 i x hx with ⟨h1, h2⟩ | ⟨h1, h2⟩ | ⟨j, h1, h2, h3⟩
      · exact hD.2 i x h2
      · rw [h2, ← hX]
        exact hup _ hS.1
      · rw [h3]
        exact hup _ (Nat.le_trans hS.1 (by simp only; omega))
  have hSn : va_S (xA b0) s.heap H1 locs := ⟨Nat.le_trans hS.1 (by omega), fun q h1 h2 => (o1 q (Nat.lt_of_lt_of_le h1 hS.1)).trans (hS.2.1 q h1 h2), hS.2.2⟩
  have key := kk H.size (fun j => H.size + 1 + j) (ws ++ X :: Rw) H1 (by rw [a1, hX]) (fun j hj => by rw [a2, hrow, if_pos hj]) a0 (by simp [hRl]; omega) hPn hDn hSn
  rw [show cells + (1 + N) = cells + 1 + N by omega, show slots + (N + N * M) = slots + N + N * M by omega] at key
  exact key
end XNW
end
section
set_option maxRecDepth 100000 in
set_option maxHeartbeats 4000000 in
theorem c_Tx_init (l : Launch) (g : xG) (b0 : Nat) (ws : va_W) {q h : Nat} (hlen : ws.length = q + 1) (e0 : ws[q]? = some (h, .inr (1, [.null, .int 0]))) : xMc l g b0 y_Tx_init b_Tx_init 1 1 1 300 [.ref h] ws (fun u => u.length = q + 2 ∧ xQ q (q + 2) ws u ∧ ∃ a, xText g u q h a (fun _ => 0) 0) := by
  unfold xMc
  refine x_in (by decide) (Nat.le_of_ble_eq_true rfl) ?_
  intro p e s m below meth c ls E hr hin hP hD hl
  obtain ⟨hx, hb, hml, hown, hts, hK, hZ, hb0, hlocks⟩ := id E
  have hS : va_S (xA b0) s.heap s.heap [] := va_S.rf
  have hl : lv_has ls 1 [(0, .ref h)] := hl
  have hQ : xQ q (q + 1) ws ws := xQ.rf
  refine lv_aload_n hx hb d_Tx_init_0 rfl (lv_at hl 0 rfl) ?_
  refine x_obj0 E wo_Tx hl.1 d_Tx_init_1 ⟨by decide, by decide⟩ (Nat.le_of_ble_eq_true rfl) ?_
  refine lv_aload_n hx hb d_Tx_init_4 rfl (lv_at hl 0 rfl) ?_
  refine lv_sipush (v := 300) hx hb d_Tx_init_5 (by decide) ?_
  refine x_newa E hP hD hS (ty := .char) rfl wa_char (cls := cC g) 1 rfl (fun _ h => by cases h) (N' := 300) (a0 := (300, .inl (fun _ => 0))) (fun _ => rfl) (by decide) (by decide) (by decide) (by decide) (by decide) d_Tx_init_8 (fun a8 w1 H hU1 hL hP hD hS => ?_)
  rw [hlen] at hU1 hL
  have n8 : w1[q + 1]? = some (a8, .inl (cC g, 300, .inl (fun _ => 0))) := hU1.1
  have e0 : w1[q]? = some (h, .inr (1, [.null, .int 0])) := (hU1.2 _ (by omega)).trans e0
  have hQ : xQ q (q + 1 + 1) ws w1 := fun k hk9 => (hU1.2 k (by omega)).trans (hQ k (by omega))
  have hlen := hL
  have o9 := e0
  refine x_putF E hP hD hS e0 rfl cl1_in cl1_ty cl1_nm 0 (by decide) wf_Tx_9 rfl (hin rfl) rfl rfl rfl (Nat.le_of_ble_eq_true rfl) d_Tx_init_10 (fun w2 H locs hU2 hP hD hS => ?_)
  have e0 : w2[q]? = some (h, .inr (1, [.ref a8, .int 0])) := hU2.1
  have n8 : w2[q + 1]? = some (a8, .inl (cC g, 300, .inl (fun _ => 0))) := (hU2.2 _ (by omega)).trans n8
  have hQ := hQ.up hU2 (by omega)
  have hlen := (hU2.len o9).trans hlen
  refine lv_aload_n hx hb d_Tx_init_13 rfl (lv_at hl 0 rfl) ?_
  refine lv_iconst (v := 0) hx hb d_Tx_init_14 (by decide) ?_
  have o9 := e0
  refine x_put E hP hD hS e0 rfl cl1_in cl1_ty cl1_nm 1 (by decide) wf_Tx_15 rfl rfl rfl (Nat.le_of_ble_eq_true rfl) d_Tx_init_15 (fun w3 H locs hU3 hP hD hS => ?_)
  have e0 : w3[q]? = some (h, .inr (1, [.ref a8, .int 0])) := hU3.1
  have n8 : w3[q + 1]? = some (a8, .inl (cC g, 300, .inl (fun _ => 0))) := (hU3.2 _ (by omega)).trans n8
  have hQ := hQ.up hU3 (by omega)
  have hlen := (hU3.len o9).trans hlen
  exact x_rv E hr hS ⟨by omega, hQ, _, e0, n8⟩ hP hD d_Tx_init_18
set_option maxRecDepth 100000 in
set_option maxHeartbeats 4000000 in
theorem c_Mc_init (l : Launch) (g : xG) (b0 : Nat) (ws : va_W) {q h : Nat} (hlen : ws.length = q + 1) (e0 : ws[q]? = some (h, .inr (2, [.null, .null, .int 0]))) : xMc l g b0 y_Mc_init b_Mc_init 1 1 8 180 [.ref h] ws (fun u => u.length = q + 9 ∧ xQ q (q + 9) ws u ∧ ∃ o d r ix, xMach g u q h o d r (fun _ _ => 0) ix 0 ∧ ∀ j, j < 30 → ix j = -1) := by
  unfold xMc
  refine x_in (by decide) (Nat.le_of_ble_eq_true rfl) ?_
  intro p e s m below meth c ls E hr hin hP hD hl
  obtain ⟨hx, hb, hml, hown, hts, hK, hZ, hb0, hlocks⟩ := id E
  have hS : va_S (xA b0) s.heap s.heap [] := va_S.rf
  have hl : lv_has ls 1 [(0, .ref h)] := hl
  have hQ : xQ q (q + 1) ws ws := xQ.rf
  refine lv_aload_n hx hb d_Mc_init_0 rfl (lv_at hl 0 rfl) ?_
  refine x_obj0 E wo_Mc hl.1 d_Mc_init_1 ⟨by decide, by decide⟩ (Nat.le_of_ble_eq_true rfl) ?_
  refine lv_aload_n hx hb d_Mc_init_4 rfl (lv_at hl 0 rfl) ?_
  refine lv_bipush (v := 6) hx hb d_Mc_init_5 (by decide) ?_
  refine lv_bipush (v := 24) hx hb d_Mc_init_7 (by decide) ?_
  refine x_mna E hP hD hS wk_Mc_9 (N := 6) (M := 24) (by decide) (by decide) (by decide) (by decide) (by decide) (by decide) (by decide) (by decide) d_Mc_init_9 (fun a9 r9 w1 H ho hrw hk hL hP hD hS => ?_)
  rw [hlen] at ho hrw hk hL
  have n9 : w1[q + 1]? = some (a9, .inl (cG g, 6, .inr (.inr (.inr (.inr (fun j => some (r9 j))))))) := ho
  have f9 : ∀ j, j < 6 → w1[q + 1 + 1 + j]? = some (r9 j, .inl (cI g, 24, .inl ((fun _ _ => 0) j))) := hrw
  have e0 : w1[q]? = some (h, .inr (2, [.null, .null, .int 0])) := (hk _ (by omega)).trans e0
  have hQ : xQ q (q + 1 + 1 + 6) ws w1 := fun k hk9 => by
    rcases hk9 with h9 | h9
    · exact (hk k (by omega)).trans (hQ k (by omega))
    · rw [List.getElem?_eq_none (by omega), List.getElem?_eq_none (by omega)]
  have hlen := hL
  have o9 := e0
  refine x_putF E hP hD hS e0 rfl cl2_in cl2_ty cl2_nm 0 (by decide) wf_Mc_11 rfl (hin rfl) rfl rfl rfl (Nat.le_of_ble_eq_true rfl) d_Mc_init_13 (fun w2 H locs hU2 hP hD hS => ?_)
  have e0 : w2[q]? = some (h, .inr (2, [.ref a9, .null, .int 0])) := hU2.1
  have n9 : w2[q + 1]? = some (a9, .inl (cG g, 6, .inr (.inr (.inr (.inr (fun j => some (r9 j))))))) := (hU2.2 _ (by omega)).trans n9
  have f9 : ∀ j, j < 6 → w2[q + 1 + 1 + j]? = some (r9 j, .inl (cI g, 24, .inl ((fun _ _ => 0) j))) := fun j hj => (hU2.2 _ (by omega)).trans (f9 j hj)
  have hQ := hQ.up hU2 (by omega)
  have hlen := (hU2.len o9).trans hlen
  refine lv_aload_n hx hb d_Mc_init_16 rfl (lv_at hl 0 rfl) ?_
  refine lv_bipush (v := 30) hx hb d_Mc_init_17 (by decide) ?_
  refine x_newa E hP hD hS (ty := .int) rfl wa_int (cls := cI g) 0 rfl (fun _ h => by cases h) (N' := 30) (a0 := (30, .inl (fun _ => 0))) (fun _ => rfl) (by decide) (by decide) (by decide) (by decide) (by decide) d_Mc_init_19 (fun a19 w3 H hU3 hL hP hD hS => ?_)
  rw [hlen] at hU3 hL
  have n19 : w3[q + 1 + 1 + 6]? = some (a19, .inl (cI g, 30, .inl (fun _ => 0))) := hU3.1
  have e0 : w3[q]? = some (h, .inr (2, [.ref a9, .null, .int 0])) := (hU3.2 _ (by omega)).trans e0
  have n9 : w3[q + 1]? = some (a9, .inl (cG g, 6, .inr (.inr (.inr (.inr (fun j => some (r9 j))))))) := (hU3.2 _ (by omega)).trans n9
  have f9 : ∀ j, j < 6 → w3[q + 1 + 1 + j]? = some (r9 j, .inl (cI g, 24, .inl ((fun _ _ => 0) j))) := fun j hj => (hU3.2 _ (by omega)).trans (f9 j hj)
  have hQ : xQ q (q + 1 + 1 + 6 + 1) ws w3 := fun k hk9 => (hU3.2 k (by omega)).trans (hQ k (by omega))
  have hlen := hL
  have o9 := e0
  refine x_putF E hP hD hS e0 rfl cl2_in cl2_ty cl2_nm 1 (by decide) wf_Mc_16 rfl (hin rfl) rfl rfl rfl (Nat.le_of_ble_eq_true rfl) d_Mc_init_21 (fun w4 H locs hU4 hP hD hS => ?_)
  have e0 : w4[q]? = some (h, .inr (2, [.ref a9, .ref a19, .int 0])) := hU4.1
  have n9 : w4[q + 1]? = some (a9, .inl (cG g, 6, .inr (.inr (.inr (.inr (fun j => some (r9 j))))))) := (hU4.2 _ (by omega)).trans n9
  have f9 : ∀ j, j < 6 → w4[q + 1 + 1 + j]? = some (r9 j, .inl (cI g, 24, .inl ((fun _ _ => 0) j))) := fun j hj => (hU4.2 _ (by omega)).trans (f9 j hj)
  have n19 : w4[q + 1 + 1 + 6]? = some (a19, .inl (cI g, 30, .inl (fun _ => 0))) := (hU4.2 _ (by omega)).trans n19
  have hQ := hQ.up hU4 (by omega)
  have hlen := (hU4.len o9).trans hlen
  refine lv_aload_n hx hb d_Mc_init_24 rfl (lv_at hl 0 rfl) ?_
  refine x_cVv (As := []) (rest := []) E (c_Mc_clear l g b0 _ (n := 0) ⟨e0, n9, n19, f9⟩ (by decide)) wy_Mc_clear wl_Mc_20 hP hD hS e0 rfl hl.1 ⟨by decide, by decide⟩ ⟨Nat.le_refl _, Nat.le_refl _⟩ rfl (Nat.le_of_ble_eq_true rfl) d_Mc_init_25 (fun w5 H locs hr25 hP hD hS => ?_)
  obtain ⟨hq, ix, eT, hix⟩ := hr25
  have hl9 : w5.length = q + 9 := xQ.len hq (n := q + 9) (by omega) (by omega) eT.2.2.1 rfl
  have hQ : xQ q (q + 9) ws w5 := fun k hk9 => (hq k (by omega)).trans (hQ k (by omega))
  exact x_rv E hr hS ⟨by omega, hQ, _, _, _, ix, eT, hix⟩ hP hD d_Mc_init_28
set_option maxRecDepth 100000 in
set_option maxHeartbeats 4000000 in
theorem c_Ps_init (l : Launch) (g : xG) (b0 : Nat) (ws : va_W) {q h t : Nat} (hlen : ws.length = q + 1) (e0 : ws[q]? = some (h, .inr (3, [.null, .int 0]))) : xMc l g b0 y_Ps_init b_Ps_init 2 1 0 0 [.ref h, .ref t] ws (fun u => u.length = q + 1 ∧ xQ q (q + 1) ws u ∧ u[q]? = some (h, .inr (3, [.ref t, .int (nI 0)]))) := by
  unfold xMc
  refine x_in (by decide) (Nat.le_of_ble_eq_true rfl) ?_
  intro p e s m below meth c ls E hr hin hP hD hl
  obtain ⟨hx, hb, hml, hown, hts, hK, hZ, hb0, hlocks⟩ := id E
  have hS : va_S (xA b0) s.heap s.heap [] := va_S.rf
  have hl : lv_has ls 2 [(0, .ref h), (1, .ref t)] := hl
  have hQ : xQ q (q + 1) ws ws := xQ.rf
  refine lv_aload_n hx hb d_Ps_init_0 rfl (lv_at hl 0 rfl) ?_
  refine x_obj0 E wo_Ps hl.1 d_Ps_init_1 ⟨by decide, by decide⟩ (Nat.le_of_ble_eq_true rfl) ?_
  refine lv_aload_n hx hb d_Ps_init_4 rfl (lv_at hl 0 rfl) ?_
  refine lv_aload_n hx hb d_Ps_init_5 rfl (lv_at hl 1 rfl) ?_
  have o9 := e0
  refine x_putF E hP hD hS e0 rfl cl3_in cl3_ty cl3_nm 0 (by decide) wf_Ps_9 rfl (hin rfl) rfl rfl rfl (Nat.le_of_ble_eq_true rfl) d_Ps_init_6 (fun w1 H locs hU1 hP hD hS => ?_)
  have e0 : w1[q]? = some (h, .inr (3, [.ref t, .int 0])) := hU1.1
  have hQ := hQ.up hU1 (by omega)
  have hlen := (hU1.len o9).trans hlen
  refine lv_aload_n hx hb d_Ps_init_9 rfl (lv_at hl 0 rfl) ?_
  refine lv_iconst (v := 0) hx hb d_Ps_init_10 (by decide) ?_
  have o9 := e0
  refine x_put E hP hD hS e0 rfl cl3_in cl3_ty cl3_nm 1 (by decide) wf_Ps_15 rfl rfl rfl (Nat.le_of_ble_eq_true rfl) d_Ps_init_11 (fun w2 H locs hU2 hP hD hS => ?_)
  have e0 : w2[q]? = some (h, .inr (3, [.ref t, .int 0])) := hU2.1
  have hQ := hQ.up hU2 (by omega)
  have hlen := (hU2.len o9).trans hlen
  exact x_rv E hr hS ⟨by omega, hQ, e0⟩ hP hD d_Ps_init_14
set_option maxRecDepth 100000 in
set_option maxHeartbeats 4000000 in
theorem c_Pa_init (l : Launch) (g : xG) (b0 : Nat) (ws : va_W) {q h : Nat} (hlen : ws.length = q + 1) (e0 : ws[q]? = some (h, .inr (4, [.null]))) : xMc l g b0 y_Pa_init b_Pa_init 1 1 25 600 [.ref h] ws (fun u => u.length = q + 26 ∧ xQ q (q + 26) ws u ∧ ∃ o r, xPath g u q h o r (fun _ _ => 0)) := by
  unfold xMc
  refine x_in (by decide) (Nat.le_of_ble_eq_true rfl) ?_
  intro p e s m below meth c ls E hr hin hP hD hl
  obtain ⟨hx, hb, hml, hown, hts, hK, hZ, hb0, hlocks⟩ := id E
  have hS : va_S (xA b0) s.heap s.heap [] := va_S.rf
  have hl : lv_has ls 1 [(0, .ref h)] := hl
  have hQ : xQ q (q + 1) ws ws := xQ.rf
  refine lv_aload_n hx hb d_Pa_init_0 rfl (lv_at hl 0 rfl) ?_
  refine x_obj0 E wo_Pa hl.1 d_Pa_init_1 ⟨by decide, by decide⟩ (Nat.le_of_ble_eq_true rfl) ?_
  refine lv_aload_n hx hb d_Pa_init_4 rfl (lv_at hl 0 rfl) ?_
  refine lv_bipush (v := 24) hx hb d_Pa_init_5 (by decide) ?_
  refine lv_bipush (v := 24) hx hb d_Pa_init_7 (by decide) ?_
  refine x_mna E hP hD hS wk_Pa_9 (N := 24) (M := 24) (by decide) (by decide) (by decide) (by decide) (by decide) (by decide) (by decide) (by decide) d_Pa_init_9 (fun a9 r9 w1 H ho hrw hk hL hP hD hS => ?_)
  rw [hlen] at ho hrw hk hL
  have n9 : w1[q + 1]? = some (a9, .inl (cG g, 24, .inr (.inr (.inr (.inr (fun j => some (r9 j))))))) := ho
  have f9 : ∀ j, j < 24 → w1[q + 1 + 1 + j]? = some (r9 j, .inl (cI g, 24, .inl ((fun _ _ => 0) j))) := hrw
  have e0 : w1[q]? = some (h, .inr (4, [.null])) := (hk _ (by omega)).trans e0
  have hQ : xQ q (q + 1 + 1 + 24) ws w1 := fun k hk9 => by
    rcases hk9 with h9 | h9
    · exact (hk k (by omega)).trans (hQ k (by omega))
    · rw [List.getElem?_eq_none (by omega), List.getElem?_eq_none (by omega)]
  have hlen := hL
  have o9 := e0
  refine x_putF E hP hD hS e0 rfl cl4_in cl4_ty cl4_nm 0 (by decide) wf_Pa_11 rfl (hin rfl) rfl rfl rfl (Nat.le_of_ble_eq_true rfl) d_Pa_init_13 (fun w2 H locs hU2 hP hD hS => ?_)
  have e0 : w2[q]? = some (h, .inr (4, [.ref a9])) := hU2.1
  have n9 : w2[q + 1]? = some (a9, .inl (cG g, 24, .inr (.inr (.inr (.inr (fun j => some (r9 j))))))) := (hU2.2 _ (by omega)).trans n9
  have f9 : ∀ j, j < 24 → w2[q + 1 + 1 + j]? = some (r9 j, .inl (cI g, 24, .inl ((fun _ _ => 0) j))) := fun j hj => (hU2.2 _ (by omega)).trans (f9 j hj)
  have hQ := hQ.up hU2 (by omega)
  have hlen := (hU2.len o9).trans hlen
  exact x_rv E hr hS ⟨by omega, hQ, _, _, e0, n9, f9⟩ hP hD d_Pa_init_16
set_option maxRecDepth 100000 in
set_option maxHeartbeats 4000000 in
theorem c_Fl_init (l : Launch) (g : xG) (b0 : Nat) (ws : va_W) {q h : Nat} (hlen : ws.length = q + 1) (e0 : ws[q]? = some (h, .inr (5, [.null, .int 0]))) : xMc l g b0 y_Fl_init b_Fl_init 1 1 4 507 [.ref h] ws (fun u => u.length = q + 5 ∧ xQ q (q + 5) ws u ∧ ∃ o r, xFlt g u q h o r (fun _ _ => 0) 0) := by
  unfold xMc
  refine x_in (by decide) (Nat.le_of_ble_eq_true rfl) ?_
  intro p e s m below meth c ls E hr hin hP hD hl
  obtain ⟨hx, hb, hml, hown, hts, hK, hZ, hb0, hlocks⟩ := id E
  have hS : va_S (xA b0) s.heap s.heap [] := va_S.rf
  have hl : lv_has ls 1 [(0, .ref h)] := hl
  have hQ : xQ q (q + 1) ws ws := xQ.rf
  refine lv_aload_n hx hb d_Fl_init_0 rfl (lv_at hl 0 rfl) ?_
  refine x_obj0 E wo_Fl hl.1 d_Fl_init_1 ⟨by decide, by decide⟩ (Nat.le_of_ble_eq_true rfl) ?_
  refine lv_aload_n hx hb d_Fl_init_4 rfl (lv_at hl 0 rfl) ?_
  refine lv_iconst (v := 3) hx hb d_Fl_init_5 (by decide) ?_
  refine lv_sipush (v := 168) hx hb d_Fl_init_6 (by decide) ?_
  refine x_mna E hP hD hS wk_Fl_9 (N := 3) (M := 168) (by decide) (by decide) (by decide) (by decide) (by decide) (by decide) (by decide) (by decide) d_Fl_init_9 (fun a9 r9 w1 H ho hrw hk hL hP hD hS => ?_)
  rw [hlen] at ho hrw hk hL
  have n9 : w1[q + 1]? = some (a9, .inl (cG g, 3, .inr (.inr (.inr (.inr (fun j => some (r9 j))))))) := ho
  have f9 : ∀ j, j < 3 → w1[q + 1 + 1 + j]? = some (r9 j, .inl (cI g, 168, .inl ((fun _ _ => 0) j))) := hrw
  have e0 : w1[q]? = some (h, .inr (5, [.null, .int 0])) := (hk _ (by omega)).trans e0
  have hQ : xQ q (q + 1 + 1 + 3) ws w1 := fun k hk9 => by
    rcases hk9 with h9 | h9
    · exact (hk k (by omega)).trans (hQ k (by omega))
    · rw [List.getElem?_eq_none (by omega), List.getElem?_eq_none (by omega)]
  have hlen := hL
  have o9 := e0
  refine x_putF E hP hD hS e0 rfl cl5_in cl5_ty cl5_nm 0 (by decide) wf_Fl_11 rfl (hin rfl) rfl rfl rfl (Nat.le_of_ble_eq_true rfl) d_Fl_init_13 (fun w2 H locs hU2 hP hD hS => ?_)
  have e0 : w2[q]? = some (h, .inr (5, [.ref a9, .int 0])) := hU2.1
  have n9 : w2[q + 1]? = some (a9, .inl (cG g, 3, .inr (.inr (.inr (.inr (fun j => some (r9 j))))))) := (hU2.2 _ (by omega)).trans n9
  have f9 : ∀ j, j < 3 → w2[q + 1 + 1 + j]? = some (r9 j, .inl (cI g, 168, .inl ((fun _ _ => 0) j))) := fun j hj => (hU2.2 _ (by omega)).trans (f9 j hj)
  have hQ := hQ.up hU2 (by omega)
  have hlen := (hU2.len o9).trans hlen
  refine lv_aload_n hx hb d_Fl_init_16 rfl (lv_at hl 0 rfl) ?_
  refine lv_iconst (v := 0) hx hb d_Fl_init_17 (by decide) ?_
  have o9 := e0
  refine x_put E hP hD hS e0 rfl cl5_in cl5_ty cl5_nm 1 (by decide) wf_Fl_16 rfl rfl rfl (Nat.le_of_ble_eq_true rfl) d_Fl_init_18 (fun w3 H locs hU3 hP hD hS => ?_)
  have e0 : w3[q]? = some (h, .inr (5, [.ref a9, .int 0])) := hU3.1
  have n9 : w3[q + 1]? = some (a9, .inl (cG g, 3, .inr (.inr (.inr (.inr (fun j => some (r9 j))))))) := (hU3.2 _ (by omega)).trans n9
  have f9 : ∀ j, j < 3 → w3[q + 1 + 1 + j]? = some (r9 j, .inl (cI g, 168, .inl ((fun _ _ => 0) j))) := fun j hj => (hU3.2 _ (by omega)).trans (f9 j hj)
  have hQ := hQ.up hU3 (by omega)
  have hlen := (hU3.len o9).trans hlen
  exact x_rv E hr hS ⟨by omega, hQ, _, _, e0, n9, f9⟩ hP hD d_Fl_init_21
set_option maxRecDepth 100000 in
set_option maxHeartbeats 4000000 in
theorem c_MT_init (l : Launch) (g : xG) (b0 : Nat) (ws : va_W) {h0 : Nat} (hlen : ws.length = 1) (e0 : ws[0]? = some (h0, .inr (0, [.null, .null, .null, .null, .null, .null, .null]))) : xMc l g b0 y_MT_init b_MT_init 1 2 54 2082 [.ref h0] ws (fun u => u.length = 55 ∧ ∃ ix1 ix2, xCl g u h0 ((fun _ => 0, 0), (fun _ => 0, 0), 0, fun _ _ => 0, (fun _ _ => 0, 0), (fun _ _ => 0, ix1, 0), (fun _ _ => 0, ix2, 0)) ∧ (∀ j, j < 30 → ix1 j = -1) ∧ ∀ j, j < 30 → ix2 j = -1) := by
  unfold xMc
  refine x_in (by decide) (Nat.le_of_ble_eq_true rfl) ?_
  intro p e s m below meth c ls E hr hin hP hD hl
  obtain ⟨hx, hb, hml, hown, hts, hK, hZ, hb0, hlocks⟩ := id E
  have hS : va_S (xA b0) s.heap s.heap [] := va_S.rf
  have hl : lv_has ls 1 [(0, .ref h0)] := hl
  have hQ : xQ 0 (0 + 1) ws ws := xQ.rf
  refine lv_aload_n hx hb d_MT_init_0 rfl (lv_at hl 0 rfl) ?_
  refine x_obj0 E wo_MT hl.1 d_MT_init_1 ⟨by decide, by decide⟩ (Nat.le_of_ble_eq_true rfl) ?_
  refine lv_aload_n hx hb d_MT_init_4 rfl (lv_at hl 0 rfl) ?_
  refine x_new E hP hD hS (ci := 1) (fs := [.null, .int 0]) rfl cl1_in cl1_ty wk_MT_9 wn_Tx wc_Tx (fun j hj => by rcases (show j = 0 ∨ j = 1 by omega) with rfl | rfl <;> rfl) (by decide) (by decide) d_MT_init_5 (fun a5 w1 H hU1 hL hP hD hS => ?_)
  rw [hlen] at hU1 hL
  have n5 : w1[1]? = some (a5, .inr (1, [.null, .int 0])) := hU1.1
  have e0 : w1[0]? = some (h0, .inr (0, [.null, .null, .null, .null, .null, .null, .null])) := (hU1.2 _ (by omega)).trans e0
  have hQ : xQ 0 (1 + 1) ws w1 := fun k hk9 => (hU1.2 k (by omega)).trans (hQ k (by omega))
  have hlen := hL
  refine lv_dup hx hb d_MT_init_8 rfl ?_
  refine x_cI (As := []) (rest := [.ref a5, .ref h0]) E (c_Tx_init l g b0 _ (q := 1) hlen n5) wy_Tx_init wl_MT_11 hP hD hS hl.1 ⟨by decide, by decide⟩ ⟨by decide, by decide⟩ rfl (Nat.le_of_ble_eq_true rfl) d_MT_init_9 (fun w2 H locs hr9 hP hD hS => ?_)
  obtain ⟨hL, hq, x1, t1⟩ := hr9
  have e0 : w2[0]? = some (h0, .inr (0, [.null, .null, .null, .null, .null, .null, .null])) := (hq _ (by omega)).trans e0
  have hQ : xQ 0 3 ws w2 := fun k hk9 => (hq k (by omega)).trans (hQ k (by omega))
  have hlen : w2.length = 3 := hL
  have o9 := e0
  refine x_putF E hP hD hS e0 rfl cl0_in cl0_ty cl0_nm 0 (by decide) wf_MT_12 rfl (hin rfl) rfl rfl rfl (Nat.le_of_ble_eq_true rfl) d_MT_init_12 (fun w3 H locs hU3 hP hD hS => ?_)
  have e0 : w3[0]? = some (h0, .inr (0, [.ref a5, .null, .null, .null, .null, .null, .null])) := hU3.1
  have t1 : xText g w3 1 a5 x1 (fun _ => 0) 0 := t1.kp (fun i _ _ => hU3.2 i (by omega))
  have hQ := hQ.up hU3 (by omega)
  have hlen := (hU3.len o9).trans hlen
  refine lv_aload_n hx hb d_MT_init_15 rfl (lv_at hl 0 rfl) ?_
  refine x_new E hP hD hS (ci := 1) (fs := [.null, .int 0]) rfl cl1_in cl1_ty wk_MT_9 wn_Tx wc_Tx (fun j hj => by rcases (show j = 0 ∨ j = 1 by omega) with rfl | rfl <;> rfl) (by decide) (by decide) d_MT_init_16 (fun a16 w4 H hU4 hL hP hD hS => ?_)
  rw [hlen] at hU4 hL
  have n16 : w4[3]? = some (a16, .inr (1, [.null, .int 0])) := hU4.1
  have e0 : w4[0]? = some (h0, .inr (0, [.ref a5, .null, .null, .null, .null, .null, .null])) := (hU4.2 _ (by omega)).trans e0
  have t1 : xText g w4 1 a5 x1 (fun _ => 0) 0 := t1.kp (fun i _ _ => hU4.2 i (by omega))
  have hQ : xQ 0 (3 + 1) ws w4 := fun k hk9 => (hU4.2 k (by omega)).trans (hQ k (by omega))
  have hlen := hL
  refine lv_dup hx hb d_MT_init_19 rfl ?_
  refine x_cI (As := []) (rest := [.ref a16, .ref h0]) E (c_Tx_init l g b0 _ (q := 3) hlen n16) wy_Tx_init wl_MT_11 hP hD hS hl.1 ⟨by decide, by decide⟩ ⟨by decide, by decide⟩ rfl (Nat.le_of_ble_eq_true rfl) d_MT_init_20 (fun w5 H locs hr20 hP hD hS => ?_)
  obtain ⟨hL, hq, x2, t2⟩ := hr20
  have e0 : w5[0]? = some (h0, .inr (0, [.ref a5, .null, .null, .null, .null, .null, .null])) := (hq _ (by omega)).trans e0
  have t1 : xText g w5 1 a5 x1 (fun _ => 0) 0 := t1.kp (fun i _ _ => hq i (by omega))
  have hQ : xQ 0 5 ws w5 := fun k hk9 => (hq k (by omega)).trans (hQ k (by omega))
  have hlen : w5.length = 5 := hL
  have o9 := e0
  refine x_putF E hP hD hS e0 rfl cl0_in cl0_ty cl0_nm 1 (by decide) wf_MT_16 rfl (hin rfl) rfl rfl rfl (Nat.le_of_ble_eq_true rfl) d_MT_init_23 (fun w6 H locs hU6 hP hD hS => ?_)
  have e0 : w6[0]? = some (h0, .inr (0, [.ref a5, .ref a16, .null, .null, .null, .null, .null])) := hU6.1
  have t1 : xText g w6 1 a5 x1 (fun _ => 0) 0 := t1.kp (fun i _ _ => hU6.2 i (by omega))
  have t2 : xText g w6 3 a16 x2 (fun _ => 0) 0 := t2.kp (fun i _ _ => hU6.2 i (by omega))
  have hQ := hQ.up hU6 (by omega)
  have hlen := (hU6.len o9).trans hlen
  refine lv_aload_n hx hb d_MT_init_26 rfl (lv_at hl 0 rfl) ?_
  refine x_new E hP hD hS (ci := 3) (fs := [.null, .int 0]) rfl cl3_in cl3_ty wk_MT_19 wn_Ps wc_Ps (fun j hj => by rcases (show j = 0 ∨ j = 1 by omega) with rfl | rfl <;> rfl) (by decide) (by decide) d_MT_init_27 (fun a27 w7 H hU7 hL hP hD hS => ?_)
  rw [hlen] at hU7 hL
  have n27 : w7[5]? = some (a27, .inr (3, [.null, .int 0])) := hU7.1
  have e0 : w7[0]? = some (h0, .inr (0, [.ref a5, .ref a16, .null, .null, .null, .null, .null])) := (hU7.2 _ (by omega)).trans e0
  have t1 : xText g w7 1 a5 x1 (fun _ => 0) 0 := t1.kp (fun i _ _ => hU7.2 i (by omega))
  have t2 : xText g w7 3 a16 x2 (fun _ => 0) 0 := t2.kp (fun i _ _ => hU7.2 i (by omega))
  have hQ : xQ 0 (5 + 1) ws w7 := fun k hk9 => (hU7.2 k (by omega)).trans (hQ k (by omega))
  have hlen := hL
  refine lv_dup hx hb d_MT_init_30 rfl ?_
  refine lv_aload_n hx hb d_MT_init_31 rfl (lv_at hl 0 rfl) ?_
  refine x_get E hP e0 rfl cl0_in 0 (by decide) wf_MT_12 rfl d_MT_init_32 ?_
  refine x_cI (As := [.ref a5]) (rest := [.ref a27, .ref h0]) E (c_Ps_init l g b0 _ (q := 5) (t := a5) hlen n27) wy_Ps_init wl_MT_21 hP hD hS hl.1 ⟨by decide, by decide⟩ ⟨by decide, by decide⟩ rfl (Nat.le_of_ble_eq_true rfl) d_MT_init_35 (fun w8 H locs hr35 hP hD hS => ?_)
  obtain ⟨hL, hq, t3⟩ := hr35
  have e0 : w8[0]? = some (h0, .inr (0, [.ref a5, .ref a16, .null, .null, .null, .null, .null])) := (hq _ (by omega)).trans e0
  have t1 : xText g w8 1 a5 x1 (fun _ => 0) 0 := t1.kp (fun i _ _ => hq i (by omega))
  have t2 : xText g w8 3 a16 x2 (fun _ => 0) 0 := t2.kp (fun i _ _ => hq i (by omega))
  have hQ : xQ 0 6 ws w8 := fun k hk9 => (hq k (by omega)).trans (hQ k (by omega))
  have hlen : w8.length = 6 := hL
  have o9 := e0
  refine x_putF E hP hD hS e0 rfl cl0_in cl0_ty cl0_nm 2 (by decide) wf_MT_24 rfl (hin rfl) rfl rfl rfl (Nat.le_of_ble_eq_true rfl) d_MT_init_38 (fun w9 H locs hU9 hP hD hS => ?_)
  have e0 : w9[0]? = some (h0, .inr (0, [.ref a5, .ref a16, .ref a27, .null, .null, .null, .null])) := hU9.1
  have t1 : xText g w9 1 a5 x1 (fun _ => 0) 0 := t1.kp (fun i _ _ => hU9.2 i (by omega))
  have t2 : xText g w9 3 a16 x2 (fun _ => 0) 0 := t2.kp (fun i _ _ => hU9.2 i (by omega))
  have t3 : w9[5]? = some (a27, .inr (3, [.ref a5, .int (nI 0)])) := (hU9.2 _ (by omega)).trans t3
  have hQ := hQ.up hU9 (by omega)
  have hlen := (hU9.len o9).trans hlen
  refine lv_aload_n hx hb d_MT_init_41 rfl (lv_at hl 0 rfl) ?_
  refine x_new E hP hD hS (ci := 4) (fs := [.null]) rfl cl4_in cl4_ty wk_MT_28 wn_Pa wc_Pa (fun j hj => by rcases (show j = 0 by omega) with rfl <;> rfl) (by decide) (by decide) d_MT_init_42 (fun a42 w10 H hU10 hL hP hD hS => ?_)
  rw [hlen] at hU10 hL
  have n42 : w10[6]? = some (a42, .inr (4, [.null])) := hU10.1
  have e0 : w10[0]? = some (h0, .inr (0, [.ref a5, .ref a16, .ref a27, .null, .null, .null, .null])) := (hU10.2 _ (by omega)).trans e0
  have t1 : xText g w10 1 a5 x1 (fun _ => 0) 0 := t1.kp (fun i _ _ => hU10.2 i (by omega))
  have t2 : xText g w10 3 a16 x2 (fun _ => 0) 0 := t2.kp (fun i _ _ => hU10.2 i (by omega))
  have t3 : w10[5]? = some (a27, .inr (3, [.ref a5, .int (nI 0)])) := (hU10.2 _ (by omega)).trans t3
  have hQ : xQ 0 (6 + 1) ws w10 := fun k hk9 => (hU10.2 k (by omega)).trans (hQ k (by omega))
  have hlen := hL
  refine lv_dup hx hb d_MT_init_45 rfl ?_
  refine x_cI (As := []) (rest := [.ref a42, .ref h0]) E (c_Pa_init l g b0 _ (q := 6) hlen n42) wy_Pa_init wl_MT_30 hP hD hS hl.1 ⟨by decide, by decide⟩ ⟨by decide, by decide⟩ rfl (Nat.le_of_ble_eq_true rfl) d_MT_init_46 (fun w11 H locs hr46 hP hD hS => ?_)
  obtain ⟨hL, hq, x4, y4, t4⟩ := hr46
  have e0 : w11[0]? = some (h0, .inr (0, [.ref a5, .ref a16, .ref a27, .null, .null, .null, .null])) := (hq _ (by omega)).trans e0
  have t1 : xText g w11 1 a5 x1 (fun _ => 0) 0 := t1.kp (fun i _ _ => hq i (by omega))
  have t2 : xText g w11 3 a16 x2 (fun _ => 0) 0 := t2.kp (fun i _ _ => hq i (by omega))
  have t3 : w11[5]? = some (a27, .inr (3, [.ref a5, .int (nI 0)])) := (hq _ (by omega)).trans t3
  have hQ : xQ 0 32 ws w11 := fun k hk9 => (hq k (by omega)).trans (hQ k (by omega))
  have hlen : w11.length = 32 := hL
  have o9 := e0
  refine x_putF E hP hD hS e0 rfl cl0_in cl0_ty cl0_nm 3 (by decide) wf_MT_31 rfl (hin rfl) rfl rfl rfl (Nat.le_of_ble_eq_true rfl) d_MT_init_49 (fun w12 H locs hU12 hP hD hS => ?_)
  have e0 : w12[0]? = some (h0, .inr (0, [.ref a5, .ref a16, .ref a27, .ref a42, .null, .null, .null])) := hU12.1
  have t1 : xText g w12 1 a5 x1 (fun _ => 0) 0 := t1.kp (fun i _ _ => hU12.2 i (by omega))
  have t2 : xText g w12 3 a16 x2 (fun _ => 0) 0 := t2.kp (fun i _ _ => hU12.2 i (by omega))
  have t3 : w12[5]? = some (a27, .inr (3, [.ref a5, .int (nI 0)])) := (hU12.2 _ (by omega)).trans t3
  have t4 : xPath g w12 6 a42 x4 y4 (fun _ _ => 0) := t4.kp (fun i _ _ => hU12.2 i (by omega))
  have hQ := hQ.up hU12 (by omega)
  have hlen := (hU12.len o9).trans hlen
  refine lv_aload_n hx hb d_MT_init_52 rfl (lv_at hl 0 rfl) ?_
  refine x_new E hP hD hS (ci := 5) (fs := [.null, .int 0]) rfl cl5_in cl5_ty wk_MT_35 wn_Fl wc_Fl (fun j hj => by rcases (show j = 0 ∨ j = 1 by omega) with rfl | rfl <;> rfl) (by decide) (by decide) d_MT_init_53 (fun a53 w13 H hU13 hL hP hD hS => ?_)
  rw [hlen] at hU13 hL
  have n53 : w13[32]? = some (a53, .inr (5, [.null, .int 0])) := hU13.1
  have e0 : w13[0]? = some (h0, .inr (0, [.ref a5, .ref a16, .ref a27, .ref a42, .null, .null, .null])) := (hU13.2 _ (by omega)).trans e0
  have t1 : xText g w13 1 a5 x1 (fun _ => 0) 0 := t1.kp (fun i _ _ => hU13.2 i (by omega))
  have t2 : xText g w13 3 a16 x2 (fun _ => 0) 0 := t2.kp (fun i _ _ => hU13.2 i (by omega))
  have t3 : w13[5]? = some (a27, .inr (3, [.ref a5, .int (nI 0)])) := (hU13.2 _ (by omega)).trans t3
  have t4 : xPath g w13 6 a42 x4 y4 (fun _ _ => 0) := t4.kp (fun i _ _ => hU13.2 i (by omega))
  have hQ : xQ 0 (32 + 1) ws w13 := fun k hk9 => (hU13.2 k (by omega)).trans (hQ k (by omega))
  have hlen := hL
  refine lv_dup hx hb d_MT_init_56 rfl ?_
  refine x_cI (As := []) (rest := [.ref a53, .ref h0]) E (c_Fl_init l g b0 _ (q := 32) hlen n53) wy_Fl_init wl_MT_37 hP hD hS hl.1 ⟨by decide, by decide⟩ ⟨by decide, by decide⟩ rfl (Nat.le_of_ble_eq_true rfl) d_MT_init_57 (fun w14 H locs hr57 hP hD hS => ?_)
  obtain ⟨hL, hq, x5, y5, t5⟩ := hr57
  have e0 : w14[0]? = some (h0, .inr (0, [.ref a5, .ref a16, .ref a27, .ref a42, .null, .null, .null])) := (hq _ (by omega)).trans e0
  have t1 : xText g w14 1 a5 x1 (fun _ => 0) 0 := t1.kp (fun i _ _ => hq i (by omega))
  have t2 : xText g w14 3 a16 x2 (fun _ => 0) 0 := t2.kp (fun i _ _ => hq i (by omega))
  have t3 : w14[5]? = some (a27, .inr (3, [.ref a5, .int (nI 0)])) := (hq _ (by omega)).trans t3
  have t4 : xPath g w14 6 a42 x4 y4 (fun _ _ => 0) := t4.kp (fun i _ _ => hq i (by omega))
  have hQ : xQ 0 37 ws w14 := fun k hk9 => (hq k (by omega)).trans (hQ k (by omega))
  have hlen : w14.length = 37 := hL
  have o9 := e0
  refine x_putF E hP hD hS e0 rfl cl0_in cl0_ty cl0_nm 4 (by decide) wf_MT_38 rfl (hin rfl) rfl rfl rfl (Nat.le_of_ble_eq_true rfl) d_MT_init_60 (fun w15 H locs hU15 hP hD hS => ?_)
  have e0 : w15[0]? = some (h0, .inr (0, [.ref a5, .ref a16, .ref a27, .ref a42, .ref a53, .null, .null])) := hU15.1
  have t1 : xText g w15 1 a5 x1 (fun _ => 0) 0 := t1.kp (fun i _ _ => hU15.2 i (by omega))
  have t2 : xText g w15 3 a16 x2 (fun _ => 0) 0 := t2.kp (fun i _ _ => hU15.2 i (by omega))
  have t3 : w15[5]? = some (a27, .inr (3, [.ref a5, .int (nI 0)])) := (hU15.2 _ (by omega)).trans t3
  have t4 : xPath g w15 6 a42 x4 y4 (fun _ _ => 0) := t4.kp (fun i _ _ => hU15.2 i (by omega))
  have t5 : xFlt g w15 32 a53 x5 y5 (fun _ _ => 0) 0 := t5.kp (fun i _ _ => hU15.2 i (by omega))
  have hQ := hQ.up hU15 (by omega)
  have hlen := (hU15.len o9).trans hlen
  refine lv_aload_n hx hb d_MT_init_63 rfl (lv_at hl 0 rfl) ?_
  refine x_new E hP hD hS (ci := 2) (fs := [.null, .null, .int 0]) rfl cl2_in cl2_ty wk_MT_42 wn_Mc wc_Mc (fun j hj => by rcases (show j = 0 ∨ j = 1 ∨ j = 2 by omega) with rfl | rfl | rfl <;> rfl) (by decide) (by decide) d_MT_init_64 (fun a64 w16 H hU16 hL hP hD hS => ?_)
  rw [hlen] at hU16 hL
  have n64 : w16[37]? = some (a64, .inr (2, [.null, .null, .int 0])) := hU16.1
  have e0 : w16[0]? = some (h0, .inr (0, [.ref a5, .ref a16, .ref a27, .ref a42, .ref a53, .null, .null])) := (hU16.2 _ (by omega)).trans e0
  have t1 : xText g w16 1 a5 x1 (fun _ => 0) 0 := t1.kp (fun i _ _ => hU16.2 i (by omega))
  have t2 : xText g w16 3 a16 x2 (fun _ => 0) 0 := t2.kp (fun i _ _ => hU16.2 i (by omega))
  have t3 : w16[5]? = some (a27, .inr (3, [.ref a5, .int (nI 0)])) := (hU16.2 _ (by omega)).trans t3
  have t4 : xPath g w16 6 a42 x4 y4 (fun _ _ => 0) := t4.kp (fun i _ _ => hU16.2 i (by omega))
  have t5 : xFlt g w16 32 a53 x5 y5 (fun _ _ => 0) 0 := t5.kp (fun i _ _ => hU16.2 i (by omega))
  have hQ : xQ 0 (37 + 1) ws w16 := fun k hk9 => (hU16.2 k (by omega)).trans (hQ k (by omega))
  have hlen := hL
  refine lv_dup hx hb d_MT_init_67 rfl ?_
  refine x_cI (As := []) (rest := [.ref a64, .ref h0]) E (c_Mc_init l g b0 _ (q := 37) hlen n64) wy_Mc_init wl_MT_44 hP hD hS hl.1 ⟨by decide, by decide⟩ ⟨by decide, by decide⟩ rfl (Nat.le_of_ble_eq_true rfl) d_MT_init_68 (fun w17 H locs hr68 hP hD hS => ?_)
  obtain ⟨hL, hq, x6, y6, z6, ix1, t6, hx1⟩ := hr68
  have e0 : w17[0]? = some (h0, .inr (0, [.ref a5, .ref a16, .ref a27, .ref a42, .ref a53, .null, .null])) := (hq _ (by omega)).trans e0
  have t1 : xText g w17 1 a5 x1 (fun _ => 0) 0 := t1.kp (fun i _ _ => hq i (by omega))
  have t2 : xText g w17 3 a16 x2 (fun _ => 0) 0 := t2.kp (fun i _ _ => hq i (by omega))
  have t3 : w17[5]? = some (a27, .inr (3, [.ref a5, .int (nI 0)])) := (hq _ (by omega)).trans t3
  have t4 : xPath g w17 6 a42 x4 y4 (fun _ _ => 0) := t4.kp (fun i _ _ => hq i (by omega))
  have t5 : xFlt g w17 32 a53 x5 y5 (fun _ _ => 0) 0 := t5.kp (fun i _ _ => hq i (by omega))
  have hQ : xQ 0 46 ws w17 := fun k hk9 => (hq k (by omega)).trans (hQ k (by omega))
  have hlen : w17.length = 46 := hL
  have o9 := e0
  refine x_put E hP hD hS e0 rfl cl0_in cl0_ty cl0_nm 5 (by decide) wf_MT_45 rfl rfl rfl (Nat.le_of_ble_eq_true rfl) d_MT_init_71 (fun w18 H locs hU18 hP hD hS => ?_)
  have e0 : w18[0]? = some (h0, .inr (0, [.ref a5, .ref a16, .ref a27, .ref a42, .ref a53, .ref a64, .null])) := hU18.1
  have t1 : xText g w18 1 a5 x1 (fun _ => 0) 0 := t1.kp (fun i _ _ => hU18.2 i (by omega))
  have t2 : xText g w18 3 a16 x2 (fun _ => 0) 0 := t2.kp (fun i _ _ => hU18.2 i (by omega))
  have t3 : w18[5]? = some (a27, .inr (3, [.ref a5, .int (nI 0)])) := (hU18.2 _ (by omega)).trans t3
  have t4 : xPath g w18 6 a42 x4 y4 (fun _ _ => 0) := t4.kp (fun i _ _ => hU18.2 i (by omega))
  have t5 : xFlt g w18 32 a53 x5 y5 (fun _ _ => 0) 0 := t5.kp (fun i _ _ => hU18.2 i (by omega))
  have t6 : xMach g w18 37 a64 x6 y6 z6 (fun _ _ => 0) ix1 0 := t6.kp (fun i _ _ => hU18.2 i (by omega))
  have hQ := hQ.up hU18 (by omega)
  have hlen := (hU18.len o9).trans hlen
  refine lv_aload_n hx hb d_MT_init_74 rfl (lv_at hl 0 rfl) ?_
  refine x_new E hP hD hS (ci := 2) (fs := [.null, .null, .int 0]) rfl cl2_in cl2_ty wk_MT_42 wn_Mc wc_Mc (fun j hj => by rcases (show j = 0 ∨ j = 1 ∨ j = 2 by omega) with rfl | rfl | rfl <;> rfl) (by decide) (by decide) d_MT_init_75 (fun a75 w19 H hU19 hL hP hD hS => ?_)
  rw [hlen] at hU19 hL
  have n75 : w19[46]? = some (a75, .inr (2, [.null, .null, .int 0])) := hU19.1
  have e0 : w19[0]? = some (h0, .inr (0, [.ref a5, .ref a16, .ref a27, .ref a42, .ref a53, .ref a64, .null])) := (hU19.2 _ (by omega)).trans e0
  have t1 : xText g w19 1 a5 x1 (fun _ => 0) 0 := t1.kp (fun i _ _ => hU19.2 i (by omega))
  have t2 : xText g w19 3 a16 x2 (fun _ => 0) 0 := t2.kp (fun i _ _ => hU19.2 i (by omega))
  have t3 : w19[5]? = some (a27, .inr (3, [.ref a5, .int (nI 0)])) := (hU19.2 _ (by omega)).trans t3
  have t4 : xPath g w19 6 a42 x4 y4 (fun _ _ => 0) := t4.kp (fun i _ _ => hU19.2 i (by omega))
  have t5 : xFlt g w19 32 a53 x5 y5 (fun _ _ => 0) 0 := t5.kp (fun i _ _ => hU19.2 i (by omega))
  have t6 : xMach g w19 37 a64 x6 y6 z6 (fun _ _ => 0) ix1 0 := t6.kp (fun i _ _ => hU19.2 i (by omega))
  have hQ : xQ 0 (46 + 1) ws w19 := fun k hk9 => (hU19.2 k (by omega)).trans (hQ k (by omega))
  have hlen := hL
  refine lv_dup hx hb d_MT_init_78 rfl ?_
  refine x_cI (As := []) (rest := [.ref a75, .ref h0]) E (c_Mc_init l g b0 _ (q := 46) hlen n75) wy_Mc_init wl_MT_44 hP hD hS hl.1 ⟨by decide, by decide⟩ ⟨by decide, by decide⟩ rfl (Nat.le_of_ble_eq_true rfl) d_MT_init_79 (fun w20 H locs hr79 hP hD hS => ?_)
  obtain ⟨hL, hq, x7, y7, z7, ix2, t7, hx2⟩ := hr79
  have e0 : w20[0]? = some (h0, .inr (0, [.ref a5, .ref a16, .ref a27, .ref a42, .ref a53, .ref a64, .null])) := (hq _ (by omega)).trans e0
  have t1 : xText g w20 1 a5 x1 (fun _ => 0) 0 := t1.kp (fun i _ _ => hq i (by omega))
  have t2 : xText g w20 3 a16 x2 (fun _ => 0) 0 := t2.kp (fun i _ _ => hq i (by omega))
  have t3 : w20[5]? = some (a27, .inr (3, [.ref a5, .int (nI 0)])) := (hq _ (by omega)).trans t3
  have t4 : xPath g w20 6 a42 x4 y4 (fun _ _ => 0) := t4.kp (fun i _ _ => hq i (by omega))
  have t5 : xFlt g w20 32 a53 x5 y5 (fun _ _ => 0) 0 := t5.kp (fun i _ _ => hq i (by omega))
  have t6 : xMach g w20 37 a64 x6 y6 z6 (fun _ _ => 0) ix1 0 := t6.kp (fun i _ _ => hq i (by omega))
  have hQ : xQ 0 55 ws w20 := fun k hk9 => (hq k (by omega)).trans (hQ k (by omega))
  have hlen : w20.length = 55 := hL
  have o9 := e0
  refine x_put E hP hD hS e0 rfl cl0_in cl0_ty cl0_nm 6 (by decide) wf_MT_49 rfl rfl rfl (Nat.le_of_ble_eq_true rfl) d_MT_init_82 (fun w21 H locs hU21 hP hD hS => ?_)
  have e0 : w21[0]? = some (h0, .inr (0, [.ref a5, .ref a16, .ref a27, .ref a42, .ref a53, .ref a64, .ref a75])) := hU21.1
  have t1 : xText g w21 1 a5 x1 (fun _ => 0) 0 := t1.kp (fun i _ _ => hU21.2 i (by omega))
  have t2 : xText g w21 3 a16 x2 (fun _ => 0) 0 := t2.kp (fun i _ _ => hU21.2 i (by omega))
  have t3 : w21[5]? = some (a27, .inr (3, [.ref a5, .int (nI 0)])) := (hU21.2 _ (by omega)).trans t3
  have t4 : xPath g w21 6 a42 x4 y4 (fun _ _ => 0) := t4.kp (fun i _ _ => hU21.2 i (by omega))
  have t5 : xFlt g w21 32 a53 x5 y5 (fun _ _ => 0) 0 := t5.kp (fun i _ _ => hU21.2 i (by omega))
  have t6 : xMach g w21 37 a64 x6 y6 z6 (fun _ _ => 0) ix1 0 := t6.kp (fun i _ _ => hU21.2 i (by omega))
  have t7 : xMach g w21 46 a75 x7 y7 z7 (fun _ _ => 0) ix2 0 := t7.kp (fun i _ _ => hU21.2 i (by omega))
  have hQ := hQ.up hU21 (by omega)
  have hlen := (hU21.len o9).trans hlen
  exact x_rv E hr hS ⟨hlen, ix1, ix2, ⟨_, _, _, _, _, _, _, _, _, 37, _, _, _, 46, _, _, _, _, _, _, _, Or.inl ⟨rfl, rfl⟩, e0, t1, t2, t3, t4, t5, t6, t7⟩, hx1, hx2⟩ hP hD d_MT_init_85
end
section
/-! the reference's object, by its places -/
def xMo (g : xG) (ws : va_W) (q h : Nat) (ad : Nat → Nat) (s0 s1 s2 s3 s4 s5 s6 : Int32) (f0 f1 f2 f3 f4 f5 f6 f7 f8 f9 f10 f11 f12 f13 f14 : Nat → Int32) (f15 : Nat → Int64) (f16 : Nat → Int32) : Prop := ws[q]? = some (h, .inr (6, [.ref (ad 0), .int s0, .int s1, .int s2, .int s3, .ref (ad 1), .ref (ad 2), .ref (ad 3), .ref (ad 4), .ref (ad 5), .int s4, .ref (ad 6), .ref (ad 7), .ref (ad 8), .ref (ad 9), .ref (ad 10), .ref (ad 11), .int s5, .ref (ad 12), .ref (ad 13), .ref (ad 14), .ref (ad 15), .int s6, .ref (ad 16)])) ∧ ws[q + 1]? = some (ad 0, .inl (cI g, 300, .inl f0)) ∧ ws[q + 2]? = some (ad 1, .inl (cI g, 24, .inl f1)) ∧ ws[q + 3]? = some (ad 2, .inl (cI g, 24, .inl f2)) ∧ ws[q + 4]? = some (ad 3, .inl (cI g, 24, .inl f3)) ∧ ws[q + 5]? = some (ad 4, .inl (cI g, 24, .inl f4)) ∧ ws[q + 6]? = some (ad 5, .inl (cI g, 48, .inl f5)) ∧ ws[q + 7]? = some (ad 6, .inl (cI g, 24, .inl f6)) ∧ ws[q + 8]? = some (ad 7, .inl (cI g, 24, .inl f7)) ∧ ws[q + 9]? = some (ad 8, .inl (cI g, 24, .inl f8)) ∧ ws[q + 10]? = some (ad 9, .inl (cI g, 24, .inl f9)) ∧ ws[q + 11]? = some (ad 10, .inl (cI g, 48, .inl f10)) ∧ ws[q + 12]? = some (ad 11, .inl (cZ g, 576, .inl f11)) ∧ ws[q + 13]? = some (ad 12, .inl (cI g, 300, .inl f12)) ∧ ws[q + 14]? = some (ad 13, .inl (cI g, 300, .inl f13)) ∧ ws[q + 15]? = some (ad 14, .inl (cI g, 300, .inl f14)) ∧ ws[q + 16]? = some (ad 15, .inl (cL g, 24, .inr (.inl f15))) ∧ ws[q + 17]? = some (ad 16, .inl (cI g, 900, .inl f16))
section XMO
variable {g : xG} {ws w1 : va_W} {q h : Nat} {ad : Nat → Nat} {s0 s1 s2 s3 s4 s5 s6 : Int32} {f0 f1 f2 f3 f4 f5 f6 f7 f8 f9 f10 f11 f12 f13 f14 f16 : Nat → Int32} {f15 : Nat → Int64}
theorem xMo.kp (eB : xMo g ws q h ad s0 s1 s2 s3 s4 s5 s6 f0 f1 f2 f3 f4 f5 f6 f7 f8 f9 f10 f11 f12 f13 f14 f15 f16) (k : ∀ i, q ≤ i → i < q + 18 → w1[i]? = ws[i]?) : xMo g w1 q h ad s0 s1 s2 s3 s4 s5 s6 f0 f1 f2 f3 f4 f5 f6 f7 f8 f9 f10 f11 f12 f13 f14 f15 f16 := ⟨(k _ (by omega) (by omega)).trans eB.1, (k _ (by omega) (by omega)).trans eB.2.1, (k _ (by omega) (by omega)).trans eB.2.2.1, (k _ (by omega) (by omega)).trans eB.2.2.2.1, (k _ (by omega) (by omega)).trans eB.2.2.2.2.1, (k _ (by omega) (by omega)).trans eB.2.2.2.2.2.1, (k _ (by omega) (by omega)).trans eB.2.2.2.2.2.2.1, (k _ (by omega) (by omega)).trans eB.2.2.2.2.2.2.2.1, (k _ (by omega) (by omega)).trans eB.2.2.2.2.2.2.2.2.1, (k _ (by omega) (by omega)).trans eB.2.2.2.2.2.2.2.2.2.1, (k _ (by omega) (by omega)).trans eB.2.2.2.2.2.2.2.2.2.2.1, (k _ (by omega) (by omega)).trans eB.2.2.2.2.2.2.2.2.2.2.2.1, (k _ (by omega) (by omega)).trans eB.2.2.2.2.2.2.2.2.2.2.2.2.1, (k _ (by omega) (by omega)).trans eB.2.2.2.2.2.2.2.2.2.2.2.2.2.1, (k _ (by omega) (by omega)).trans eB.2.2.2.2.2.2.2.2.2.2.2.2.2.2.1, (k _ (by omega) (by omega)).trans eB.2.2.2.2.2.2.2.2.2.2.2.2.2.2.2.1, (k _ (by omega) (by omega)).trans eB.2.2.2.2.2.2.2.2.2.2.2.2.2.2.2.2.1, (k _ (by omega) (by omega)).trans eB.2.2.2.2.2.2.2.2.2.2.2.2.2.2.2.2.2⟩
theorem xMo.t0 (eB : xMo g ws q h ad s0 s1 s2 s3 s4 s5 s6 f0 f1 f2 f3 f4 f5 f6 f7 f8 f9 f10 f11 f12 f13 f14 f15 f16) {v : Int32} (hU : xU ws q (h, .inr (6, [.ref (ad 0), .int v, .int s1, .int s2, .int s3, .ref (ad 1), .ref (ad 2), .ref (ad 3), .ref (ad 4), .ref (ad 5), .int s4, .ref (ad 6), .ref (ad 7), .ref (ad 8), .ref (ad 9), .ref (ad 10), .ref (ad 11), .int s5, .ref (ad 12), .ref (ad 13), .ref (ad 14), .ref (ad 15), .int s6, .ref (ad 16)])) w1) : xMo g w1 q h ad v s1 s2 s3 s4 s5 s6 f0 f1 f2 f3 f4 f5 f6 f7 f8 f9 f10 f11 f12 f13 f14 f15 f16 := ⟨hU.1, (hU.2 _ (by omega)).trans eB.2.1, (hU.2 _ (by omega)).trans eB.2.2.1, (hU.2 _ (by omega)).trans eB.2.2.2.1, (hU.2 _ (by omega)).trans eB.2.2.2.2.1, (hU.2 _ (by omega)).trans eB.2.2.2.2.2.1, (hU.2 _ (by omega)).trans eB.2.2.2.2.2.2.1, (hU.2 _ (by omega)).trans eB.2.2.2.2.2.2.2.1, (hU.2 _ (by omega)).trans eB.2.2.2.2.2.2.2.2.1, (hU.2 _ (by omega)).trans eB.2.2.2.2.2.2.2.2.2.1, (hU.2 _ (by omega)).trans eB.2.2.2.2.2.2.2.2.2.2.1, (hU.2 _ (by omega)).trans eB.2.2.2.2.2.2.2.2.2.2.2.1, (hU.2 _ (by omega)).trans eB.2.2.2.2.2.2.2.2.2.2.2.2.1, (hU.2 _ (by omega)).trans eB.2.2.2.2.2.2.2.2.2.2.2.2.2.1, (hU.2 _ (by omega)).trans eB.2.2.2.2.2.2.2.2.2.2.2.2.2.2.1, (hU.2 _ (by omega)).trans eB.2.2.2.2.2.2.2.2.2.2.2.2.2.2.2.1, (hU.2 _ (by omega)).trans eB.2.2.2.2.2.2.2.2.2.2.2.2.2.2.2.2.1, (hU.2 _ (by omega)).trans eB.2.2.2.2.2.2.2.2.2.2.2.2.2.2.2.2.2⟩
theorem xMo.t1 (eB : xMo g ws q h ad s0 s1 s2 s3 s4 s5 s6 f0 f1 f2 f3 f4 f5 f6 f7 f8 f9 f10 f11 f12 f13 f14 f15 f16) {v : Int32} (hU : xU ws q (h, .inr (6, [.ref (ad 0), .int s0, .int v, .int s2, .int s3, .ref (ad 1), .ref (ad 2), .ref (ad 3), .ref (ad 4), .ref (ad 5), .int s4, .ref (ad 6), .ref (ad 7), .ref (ad 8), .ref (ad 9), .ref (ad 10), .ref (ad 11), .int s5, .ref (ad 12), .ref (ad 13), .ref (ad 14), .ref (ad 15), .int s6, .ref (ad 16)])) w1) : xMo g w1 q h ad s0 v s2 s3 s4 s5 s6 f0 f1 f2 f3 f4 f5 f6 f7 f8 f9 f10 f11 f12 f13 f14 f15 f16 := ⟨hU.1, (hU.2 _ (by omega)).trans eB.2.1, (hU.2 _ (by omega)).trans eB.2.2.1, (hU.2 _ (by omega)).trans eB.2.2.2.1, (hU.2 _ (by omega)).trans eB.2.2.2.2.1, (hU.2 _ (by omega)).trans eB.2.2.2.2.2.1, (hU.2 _ (by omega)).trans eB.2.2.2.2.2.2.1, (hU.2 _ (by omega)).trans eB.2.2.2.2.2.2.2.1, (hU.2 _ (by omega)).trans eB.2.2.2.2.2.2.2.2.1, (hU.2 _ (by omega)).trans eB.2.2.2.2.2.2.2.2.2.1, (hU.2 _ (by omega)).trans eB.2.2.2.2.2.2.2.2.2.2.1, (hU.2 _ (by omega)).trans eB.2.2.2.2.2.2.2.2.2.2.2.1, (hU.2 _ (by omega)).trans eB.2.2.2.2.2.2.2.2.2.2.2.2.1, (hU.2 _ (by omega)).trans eB.2.2.2.2.2.2.2.2.2.2.2.2.2.1, (hU.2 _ (by omega)).trans eB.2.2.2.2.2.2.2.2.2.2.2.2.2.2.1, (hU.2 _ (by omega)).trans eB.2.2.2.2.2.2.2.2.2.2.2.2.2.2.2.1, (hU.2 _ (by omega)).trans eB.2.2.2.2.2.2.2.2.2.2.2.2.2.2.2.2.1, (hU.2 _ (by omega)).trans eB.2.2.2.2.2.2.2.2.2.2.2.2.2.2.2.2.2⟩
theorem xMo.t2 (eB : xMo g ws q h ad s0 s1 s2 s3 s4 s5 s6 f0 f1 f2 f3 f4 f5 f6 f7 f8 f9 f10 f11 f12 f13 f14 f15 f16) {v : Int32} (hU : xU ws q (h, .inr (6, [.ref (ad 0), .int s0, .int s1, .int v, .int s3, .ref (ad 1), .ref (ad 2), .ref (ad 3), .ref (ad 4), .ref (ad 5), .int s4, .ref (ad 6), .ref (ad 7), .ref (ad 8), .ref (ad 9), .ref (ad 10), .ref (ad 11), .int s5, .ref (ad 12), .ref (ad 13), .ref (ad 14), .ref (ad 15), .int s6, .ref (ad 16)])) w1) : xMo g w1 q h ad s0 s1 v s3 s4 s5 s6 f0 f1 f2 f3 f4 f5 f6 f7 f8 f9 f10 f11 f12 f13 f14 f15 f16 := ⟨hU.1, (hU.2 _ (by omega)).trans eB.2.1, (hU.2 _ (by omega)).trans eB.2.2.1, (hU.2 _ (by omega)).trans eB.2.2.2.1, (hU.2 _ (by omega)).trans eB.2.2.2.2.1, (hU.2 _ (by omega)).trans eB.2.2.2.2.2.1, (hU.2 _ (by omega)).trans eB.2.2.2.2.2.2.1, (hU.2 _ (by omega)).trans eB.2.2.2.2.2.2.2.1, (hU.2 _ (by omega)).trans eB.2.2.2.2.2.2.2.2.1, (hU.2 _ (by omega)).trans eB.2.2.2.2.2.2.2.2.2.1, (hU.2 _ (by omega)).trans eB.2.2.2.2.2.2.2.2.2.2.1, (hU.2 _ (by omega)).trans eB.2.2.2.2.2.2.2.2.2.2.2.1, (hU.2 _ (by omega)).trans eB.2.2.2.2.2.2.2.2.2.2.2.2.1, (hU.2 _ (by omega)).trans eB.2.2.2.2.2.2.2.2.2.2.2.2.2.1, (hU.2 _ (by omega)).trans eB.2.2.2.2.2.2.2.2.2.2.2.2.2.2.1, (hU.2 _ (by omega)).trans eB.2.2.2.2.2.2.2.2.2.2.2.2.2.2.2.1, (hU.2 _ (by omega)).trans eB.2.2.2.2.2.2.2.2.2.2.2.2.2.2.2.2.1, (hU.2 _ (by omega)).trans eB.2.2.2.2.2.2.2.2.2.2.2.2.2.2.2.2.2⟩
theorem xMo.t3 (eB : xMo g ws q h ad s0 s1 s2 s3 s4 s5 s6 f0 f1 f2 f3 f4 f5 f6 f7 f8 f9 f10 f11 f12 f13 f14 f15 f16) {v : Int32} (hU : xU ws q (h, .inr (6, [.ref (ad 0), .int s0, .int s1, .int s2, .int v, .ref (ad 1), .ref (ad 2), .ref (ad 3), .ref (ad 4), .ref (ad 5), .int s4, .ref (ad 6), .ref (ad 7), .ref (ad 8), .ref (ad 9), .ref (ad 10), .ref (ad 11), .int s5, .ref (ad 12), .ref (ad 13), .ref (ad 14), .ref (ad 15), .int s6, .ref (ad 16)])) w1) : xMo g w1 q h ad s0 s1 s2 v s4 s5 s6 f0 f1 f2 f3 f4 f5 f6 f7 f8 f9 f10 f11 f12 f13 f14 f15 f16 := ⟨hU.1, (hU.2 _ (by omega)).trans eB.2.1, (hU.2 _ (by omega)).trans eB.2.2.1, (hU.2 _ (by omega)).trans eB.2.2.2.1, (hU.2 _ (by omega)).trans eB.2.2.2.2.1, (hU.2 _ (by omega)).trans eB.2.2.2.2.2.1, (hU.2 _ (by omega)).trans eB.2.2.2.2.2.2.1, (hU.2 _ (by omega)).trans eB.2.2.2.2.2.2.2.1, (hU.2 _ (by omega)).trans eB.2.2.2.2.2.2.2.2.1, (hU.2 _ (by omega)).trans eB.2.2.2.2.2.2.2.2.2.1, (hU.2 _ (by omega)).trans eB.2.2.2.2.2.2.2.2.2.2.1, (hU.2 _ (by omega)).trans eB.2.2.2.2.2.2.2.2.2.2.2.1, (hU.2 _ (by omega)).trans eB.2.2.2.2.2.2.2.2.2.2.2.2.1, (hU.2 _ (by omega)).trans eB.2.2.2.2.2.2.2.2.2.2.2.2.2.1, (hU.2 _ (by omega)).trans eB.2.2.2.2.2.2.2.2.2.2.2.2.2.2.1, (hU.2 _ (by omega)).trans eB.2.2.2.2.2.2.2.2.2.2.2.2.2.2.2.1, (hU.2 _ (by omega)).trans eB.2.2.2.2.2.2.2.2.2.2.2.2.2.2.2.2.1, (hU.2 _ (by omega)).trans eB.2.2.2.2.2.2.2.2.2.2.2.2.2.2.2.2.2⟩
theorem xMo.t4 (eB : xMo g ws q h ad s0 s1 s2 s3 s4 s5 s6 f0 f1 f2 f3 f4 f5 f6 f7 f8 f9 f10 f11 f12 f13 f14 f15 f16) {v : Int32} (hU : xU ws q (h, .inr (6, [.ref (ad 0), .int s0, .int s1, .int s2, .int s3, .ref (ad 1), .ref (ad 2), .ref (ad 3), .ref (ad 4), .ref (ad 5), .int v, .ref (ad 6), .ref (ad 7), .ref (ad 8), .ref (ad 9), .ref (ad 10), .ref (ad 11), .int s5, .ref (ad 12), .ref (ad 13), .ref (ad 14), .ref (ad 15), .int s6, .ref (ad 16)])) w1) : xMo g w1 q h ad s0 s1 s2 s3 v s5 s6 f0 f1 f2 f3 f4 f5 f6 f7 f8 f9 f10 f11 f12 f13 f14 f15 f16 := ⟨hU.1, (hU.2 _ (by omega)).trans eB.2.1, (hU.2 _ (by omega)).trans eB.2.2.1, (hU.2 _ (by omega)).trans eB.2.2.2.1, (hU.2 _ (by omega)).trans eB.2.2.2.2.1, (hU.2 _ (by omega)).trans eB.2.2.2.2.2.1, (hU.2 _ (by omega)).trans eB.2.2.2.2.2.2.1, (hU.2 _ (by omega)).trans eB.2.2.2.2.2.2.2.1, (hU.2 _ (by omega)).trans eB.2.2.2.2.2.2.2.2.1, (hU.2 _ (by omega)).trans eB.2.2.2.2.2.2.2.2.2.1, (hU.2 _ (by omega)).trans eB.2.2.2.2.2.2.2.2.2.2.1, (hU.2 _ (by omega)).trans eB.2.2.2.2.2.2.2.2.2.2.2.1, (hU.2 _ (by omega)).trans eB.2.2.2.2.2.2.2.2.2.2.2.2.1, (hU.2 _ (by omega)).trans eB.2.2.2.2.2.2.2.2.2.2.2.2.2.1, (hU.2 _ (by omega)).trans eB.2.2.2.2.2.2.2.2.2.2.2.2.2.2.1, (hU.2 _ (by omega)).trans eB.2.2.2.2.2.2.2.2.2.2.2.2.2.2.2.1, (hU.2 _ (by omega)).trans eB.2.2.2.2.2.2.2.2.2.2.2.2.2.2.2.2.1, (hU.2 _ (by omega)).trans eB.2.2.2.2.2.2.2.2.2.2.2.2.2.2.2.2.2⟩
theorem xMo.t5 (eB : xMo g ws q h ad s0 s1 s2 s3 s4 s5 s6 f0 f1 f2 f3 f4 f5 f6 f7 f8 f9 f10 f11 f12 f13 f14 f15 f16) {v : Int32} (hU : xU ws q (h, .inr (6, [.ref (ad 0), .int s0, .int s1, .int s2, .int s3, .ref (ad 1), .ref (ad 2), .ref (ad 3), .ref (ad 4), .ref (ad 5), .int s4, .ref (ad 6), .ref (ad 7), .ref (ad 8), .ref (ad 9), .ref (ad 10), .ref (ad 11), .int v, .ref (ad 12), .ref (ad 13), .ref (ad 14), .ref (ad 15), .int s6, .ref (ad 16)])) w1) : xMo g w1 q h ad s0 s1 s2 s3 s4 v s6 f0 f1 f2 f3 f4 f5 f6 f7 f8 f9 f10 f11 f12 f13 f14 f15 f16 := ⟨hU.1, (hU.2 _ (by omega)).trans eB.2.1, (hU.2 _ (by omega)).trans eB.2.2.1, (hU.2 _ (by omega)).trans eB.2.2.2.1, (hU.2 _ (by omega)).trans eB.2.2.2.2.1, (hU.2 _ (by omega)).trans eB.2.2.2.2.2.1, (hU.2 _ (by omega)).trans eB.2.2.2.2.2.2.1, (hU.2 _ (by omega)).trans eB.2.2.2.2.2.2.2.1, (hU.2 _ (by omega)).trans eB.2.2.2.2.2.2.2.2.1, (hU.2 _ (by omega)).trans eB.2.2.2.2.2.2.2.2.2.1, (hU.2 _ (by omega)).trans eB.2.2.2.2.2.2.2.2.2.2.1, (hU.2 _ (by omega)).trans eB.2.2.2.2.2.2.2.2.2.2.2.1, (hU.2 _ (by omega)).trans eB.2.2.2.2.2.2.2.2.2.2.2.2.1, (hU.2 _ (by omega)).trans eB.2.2.2.2.2.2.2.2.2.2.2.2.2.1, (hU.2 _ (by omega)).trans eB.2.2.2.2.2.2.2.2.2.2.2.2.2.2.1, (hU.2 _ (by omega)).trans eB.2.2.2.2.2.2.2.2.2.2.2.2.2.2.2.1, (hU.2 _ (by omega)).trans eB.2.2.2.2.2.2.2.2.2.2.2.2.2.2.2.2.1, (hU.2 _ (by omega)).trans eB.2.2.2.2.2.2.2.2.2.2.2.2.2.2.2.2.2⟩
theorem xMo.t6 (eB : xMo g ws q h ad s0 s1 s2 s3 s4 s5 s6 f0 f1 f2 f3 f4 f5 f6 f7 f8 f9 f10 f11 f12 f13 f14 f15 f16) {v : Int32} (hU : xU ws q (h, .inr (6, [.ref (ad 0), .int s0, .int s1, .int s2, .int s3, .ref (ad 1), .ref (ad 2), .ref (ad 3), .ref (ad 4), .ref (ad 5), .int s4, .ref (ad 6), .ref (ad 7), .ref (ad 8), .ref (ad 9), .ref (ad 10), .ref (ad 11), .int s5, .ref (ad 12), .ref (ad 13), .ref (ad 14), .ref (ad 15), .int v, .ref (ad 16)])) w1) : xMo g w1 q h ad s0 s1 s2 s3 s4 s5 v f0 f1 f2 f3 f4 f5 f6 f7 f8 f9 f10 f11 f12 f13 f14 f15 f16 := ⟨hU.1, (hU.2 _ (by omega)).trans eB.2.1, (hU.2 _ (by omega)).trans eB.2.2.1, (hU.2 _ (by omega)).trans eB.2.2.2.1, (hU.2 _ (by omega)).trans eB.2.2.2.2.1, (hU.2 _ (by omega)).trans eB.2.2.2.2.2.1, (hU.2 _ (by omega)).trans eB.2.2.2.2.2.2.1, (hU.2 _ (by omega)).trans eB.2.2.2.2.2.2.2.1, (hU.2 _ (by omega)).trans eB.2.2.2.2.2.2.2.2.1, (hU.2 _ (by omega)).trans eB.2.2.2.2.2.2.2.2.2.1, (hU.2 _ (by omega)).trans eB.2.2.2.2.2.2.2.2.2.2.1, (hU.2 _ (by omega)).trans eB.2.2.2.2.2.2.2.2.2.2.2.1, (hU.2 _ (by omega)).trans eB.2.2.2.2.2.2.2.2.2.2.2.2.1, (hU.2 _ (by omega)).trans eB.2.2.2.2.2.2.2.2.2.2.2.2.2.1, (hU.2 _ (by omega)).trans eB.2.2.2.2.2.2.2.2.2.2.2.2.2.2.1, (hU.2 _ (by omega)).trans eB.2.2.2.2.2.2.2.2.2.2.2.2.2.2.2.1, (hU.2 _ (by omega)).trans eB.2.2.2.2.2.2.2.2.2.2.2.2.2.2.2.2.1, (hU.2 _ (by omega)).trans eB.2.2.2.2.2.2.2.2.2.2.2.2.2.2.2.2.2⟩
theorem xMo.a0 (eB : xMo g ws q h ad s0 s1 s2 s3 s4 s5 s6 f0 f1 f2 f3 f4 f5 f6 f7 f8 f9 f10 f11 f12 f13 f14 f15 f16) {v : Nat → Int32} (hU : xU ws (q + 1) (ad 0, .inl (cI g, 300, .inl v)) w1) : xMo g w1 q h ad s0 s1 s2 s3 s4 s5 s6 v f1 f2 f3 f4 f5 f6 f7 f8 f9 f10 f11 f12 f13 f14 f15 f16 := ⟨(hU.2 _ (by omega)).trans eB.1, hU.1, (hU.2 _ (by omega)).trans eB.2.2.1, (hU.2 _ (by omega)).trans eB.2.2.2.1, (hU.2 _ (by omega)).trans eB.2.2.2.2.1, (hU.2 _ (by omega)).trans eB.2.2.2.2.2.1, (hU.2 _ (by omega)).trans eB.2.2.2.2.2.2.1, (hU.2 _ (by omega)).trans eB.2.2.2.2.2.2.2.1, (hU.2 _ (by omega)).trans eB.2.2.2.2.2.2.2.2.1, (hU.2 _ (by omega)).trans eB.2.2.2.2.2.2.2.2.2.1, (hU.2 _ (by omega)).trans eB.2.2.2.2.2.2.2.2.2.2.1, (hU.2 _ (by omega)).trans eB.2.2.2.2.2.2.2.2.2.2.2.1, (hU.2 _ (by omega)).trans eB.2.2.2.2.2.2.2.2.2.2.2.2.1, (hU.2 _ (by omega)).trans eB.2.2.2.2.2.2.2.2.2.2.2.2.2.1, (hU.2 _ (by omega)).trans eB.2.2.2.2.2.2.2.2.2.2.2.2.2.2.1, (hU.2 _ (by omega)).trans eB.2.2.2.2.2.2.2.2.2.2.2.2.2.2.2.1, (hU.2 _ (by omega)).trans eB.2.2.2.2.2.2.2.2.2.2.2.2.2.2.2.2.1, (hU.2 _ (by omega)).trans eB.2.2.2.2.2.2.2.2.2.2.2.2.2.2.2.2.2⟩
theorem xMo.a1 (eB : xMo g ws q h ad s0 s1 s2 s3 s4 s5 s6 f0 f1 f2 f3 f4 f5 f6 f7 f8 f9 f10 f11 f12 f13 f14 f15 f16) {v : Nat → Int32} (hU : xU ws (q + 2) (ad 1, .inl (cI g, 24, .inl v)) w1) : xMo g w1 q h ad s0 s1 s2 s3 s4 s5 s6 f0 v f2 f3 f4 f5 f6 f7 f8 f9 f10 f11 f12 f13 f14 f15 f16 := ⟨(hU.2 _ (by omega)).trans eB.1, (hU.2 _ (by omega)).trans eB.2.1, hU.1, (hU.2 _ (by omega)).trans eB.2.2.2.1, (hU.2 _ (by omega)).trans eB.2.2.2.2.1, (hU.2 _ (by omega)).trans eB.2.2.2.2.2.1, (hU.2 _ (by omega)).trans eB.2.2.2.2.2.2.1, (hU.2 _ (by omega)).trans eB.2.2.2.2.2.2.2.1, (hU.2 _ (by omega)).trans eB.2.2.2.2.2.2.2.2.1, (hU.2 _ (by omega)).trans eB.2.2.2.2.2.2.2.2.2.1, (hU.2 _ (by omega)).trans eB.2.2.2.2.2.2.2.2.2.2.1, (hU.2 _ (by omega)).trans eB.2.2.2.2.2.2.2.2.2.2.2.1, (hU.2 _ (by omega)).trans eB.2.2.2.2.2.2.2.2.2.2.2.2.1, (hU.2 _ (by omega)).trans eB.2.2.2.2.2.2.2.2.2.2.2.2.2.1, (hU.2 _ (by omega)).trans eB.2.2.2.2.2.2.2.2.2.2.2.2.2.2.1, (hU.2 _ (by omega)).trans eB.2.2.2.2.2.2.2.2.2.2.2.2.2.2.2.1, (hU.2 _ (by omega)).trans eB.2.2.2.2.2.2.2.2.2.2.2.2.2.2.2.2.1, (hU.2 _ (by omega)).trans eB.2.2.2.2.2.2.2.2.2.2.2.2.2.2.2.2.2⟩
theorem xMo.a2 (eB : xMo g ws q h ad s0 s1 s2 s3 s4 s5 s6 f0 f1 f2 f3 f4 f5 f6 f7 f8 f9 f10 f11 f12 f13 f14 f15 f16) {v : Nat → Int32} (hU : xU ws (q + 3) (ad 2, .inl (cI g, 24, .inl v)) w1) : xMo g w1 q h ad s0 s1 s2 s3 s4 s5 s6 f0 f1 v f3 f4 f5 f6 f7 f8 f9 f10 f11 f12 f13 f14 f15 f16 := ⟨(hU.2 _ (by omega)).trans eB.1, (hU.2 _ (by omega)).trans eB.2.1, (hU.2 _ (by omega)).trans eB.2.2.1, hU.1, (hU.2 _ (by omega)).trans eB.2.2.2.2.1, (hU.2 _ (by omega)).trans eB.2.2.2.2.2.1, (hU.2 _ (by omega)).trans eB.2.2.2.2.2.2.1, (hU.2 _ (by omega)).trans eB.2.2.2.2.2.2.2.1, (hU.2 _ (by omega)).trans eB.2.2.2.2.2.2.2.2.1, (hU.2 _ (by omega)).trans eB.2.2.2.2.2.2.2.2.2.1, (hU.2 _ (by omega)).trans eB.2.2.2.2.2.2.2.2.2.2.1, (hU.2 _ (by omega)).trans eB.2.2.2.2.2.2.2.2.2.2.2.1, (hU.2 _ (by omega)).trans eB.2.2.2.2.2.2.2.2.2.2.2.2.1, (hU.2 _ (by omega)).trans eB.2.2.2.2.2.2.2.2.2.2.2.2.2.1, (hU.2 _ (by omega)).trans eB.2.2.2.2.2.2.2.2.2.2.2.2.2.2.1, (hU.2 _ (by omega)).trans eB.2.2.2.2.2.2.2.2.2.2.2.2.2.2.2.1, (hU.2 _ (by omega)).trans eB.2.2.2.2.2.2.2.2.2.2.2.2.2.2.2.2.1, (hU.2 _ (by omega)).trans eB.2.2.2.2.2.2.2.2.2.2.2.2.2.2.2.2.2⟩
theorem xMo.a3 (eB : xMo g ws q h ad s0 s1 s2 s3 s4 s5 s6 f0 f1 f2 f3 f4 f5 f6 f7 f8 f9 f10 f11 f12 f13 f14 f15 f16) {v : Nat → Int32} (hU : xU ws (q + 4) (ad 3, .inl (cI g, 24, .inl v)) w1) : xMo g w1 q h ad s0 s1 s2 s3 s4 s5 s6 f0 f1 f2 v f4 f5 f6 f7 f8 f9 f10 f11 f12 f13 f14 f15 f16 := ⟨(hU.2 _ (by omega)).trans eB.1, (hU.2 _ (by omega)).trans eB.2.1, (hU.2 _ (by omega)).trans eB.2.2.1, (hU.2 _ (by omega)).trans eB.2.2.2.1, hU.1, (hU.2 _ (by omega)).trans eB.2.2.2.2.2.1, (hU.2 _ (by omega)).trans eB.2.2.2.2.2.2.1, (hU.2 _ (by omega)).trans eB.2.2.2.2.2.2.2.1, (hU.2 _ (by omega)).trans eB.2.2.2.2.2.2.2.2.1, (hU.2 _ (by omega)).trans eB.2.2.2.2.2.2.2.2.2.1, (hU.2 _ (by omega)).trans eB.2.2.2.2.2.2.2.2.2.2.1, (hU.2 _ (by omega)).trans eB.2.2.2.2.2.2.2.2.2.2.2.1, (hU.2 _ (by omega)).trans eB.2.2.2.2.2.2.2.2.2.2.2.2.1, (hU.2 _ (by omega)).trans eB.2.2.2.2.2.2.2.2.2.2.2.2.2.1, (hU.2 _ (by omega)).trans eB.2.2.2.2.2.2.2.2.2.2.2.2.2.2.1, (hU.2 _ (by omega)).trans eB.2.2.2.2.2.2.2.2.2.2.2.2.2.2.2.1, (hU.2 _ (by omega)).trans eB.2.2.2.2.2.2.2.2.2.2.2.2.2.2.2.2.1, (hU.2 _ (by omega)).trans eB.2.2.2.2.2.2.2.2.2.2.2.2.2.2.2.2.2⟩
theorem xMo.a4 (eB : xMo g ws q h ad s0 s1 s2 s3 s4 s5 s6 f0 f1 f2 f3 f4 f5 f6 f7 f8 f9 f10 f11 f12 f13 f14 f15 f16) {v : Nat → Int32} (hU : xU ws (q + 5) (ad 4, .inl (cI g, 24, .inl v)) w1) : xMo g w1 q h ad s0 s1 s2 s3 s4 s5 s6 f0 f1 f2 f3 v f5 f6 f7 f8 f9 f10 f11 f12 f13 f14 f15 f16 := ⟨(hU.2 _ (by omega)).trans eB.1, (hU.2 _ (by omega)).trans eB.2.1, (hU.2 _ (by omega)).trans eB.2.2.1, (hU.2 _ (by omega)).trans eB.2.2.2.1, (hU.2 _ (by omega)).trans eB.2.2.2.2.1, hU.1, (hU.2 _ (by omega)).trans eB.2.2.2.2.2.2.1, (hU.2 _ (by omega)).trans eB.2.2.2.2.2.2.2.1, (hU.2 _ (by omega)).trans eB.2.2.2.2.2.2.2.2.1, (hU.2 _ (by omega)).trans eB.2.2.2.2.2.2.2.2.2.1, (hU.2 _ (by omega)).trans eB.2.2.2.2.2.2.2.2.2.2.1, (hU.2 _ (by omega)).trans eB.2.2.2.2.2.2.2.2.2.2.2.1, (hU.2 _ (by omega)).trans eB.2.2.2.2.2.2.2.2.2.2.2.2.1, (hU.2 _ (by omega)).trans eB.2.2.2.2.2.2.2.2.2.2.2.2.2.1, (hU.2 _ (by omega)).trans eB.2.2.2.2.2.2.2.2.2.2.2.2.2.2.1, (hU.2 _ (by omega)).trans eB.2.2.2.2.2.2.2.2.2.2.2.2.2.2.2.1, (hU.2 _ (by omega)).trans eB.2.2.2.2.2.2.2.2.2.2.2.2.2.2.2.2.1, (hU.2 _ (by omega)).trans eB.2.2.2.2.2.2.2.2.2.2.2.2.2.2.2.2.2⟩
theorem xMo.a5 (eB : xMo g ws q h ad s0 s1 s2 s3 s4 s5 s6 f0 f1 f2 f3 f4 f5 f6 f7 f8 f9 f10 f11 f12 f13 f14 f15 f16) {v : Nat → Int32} (hU : xU ws (q + 6) (ad 5, .inl (cI g, 48, .inl v)) w1) : xMo g w1 q h ad s0 s1 s2 s3 s4 s5 s6 f0 f1 f2 f3 f4 v f6 f7 f8 f9 f10 f11 f12 f13 f14 f15 f16 := ⟨(hU.2 _ (by omega)).trans eB.1, (hU.2 _ (by omega)).trans eB.2.1, (hU.2 _ (by omega)).trans eB.2.2.1, (hU.2 _ (by omega)).trans eB.2.2.2.1, (hU.2 _ (by omega)).trans eB.2.2.2.2.1, (hU.2 _ (by omega)).trans eB.2.2.2.2.2.1, hU.1, (hU.2 _ (by omega)).trans eB.2.2.2.2.2.2.2.1, (hU.2 _ (by omega)).trans eB.2.2.2.2.2.2.2.2.1, (hU.2 _ (by omega)).trans eB.2.2.2.2.2.2.2.2.2.1, (hU.2 _ (by omega)).trans eB.2.2.2.2.2.2.2.2.2.2.1, (hU.2 _ (by omega)).trans eB.2.2.2.2.2.2.2.2.2.2.2.1, (hU.2 _ (by omega)).trans eB.2.2.2.2.2.2.2.2.2.2.2.2.1, (hU.2 _ (by omega)).trans eB.2.2.2.2.2.2.2.2.2.2.2.2.2.1, (hU.2 _ (by omega)).trans eB.2.2.2.2.2.2.2.2.2.2.2.2.2.2.1, (hU.2 _ (by omega)).trans eB.2.2.2.2.2.2.2.2.2.2.2.2.2.2.2.1, (hU.2 _ (by omega)).trans eB.2.2.2.2.2.2.2.2.2.2.2.2.2.2.2.2.1, (hU.2 _ (by omega)).trans eB.2.2.2.2.2.2.2.2.2.2.2.2.2.2.2.2.2⟩
theorem xMo.a6 (eB : xMo g ws q h ad s0 s1 s2 s3 s4 s5 s6 f0 f1 f2 f3 f4 f5 f6 f7 f8 f9 f10 f11 f12 f13 f14 f15 f16) {v : Nat → Int32} (hU : xU ws (q + 7) (ad 6, .inl (cI g, 24, .inl v)) w1) : xMo g w1 q h ad s0 s1 s2 s3 s4 s5 s6 f0 f1 f2 f3 f4 f5 v f7 f8 f9 f10 f11 f12 f13 f14 f15 f16 := ⟨(hU.2 _ (by omega)).trans eB.1, (hU.2 _ (by omega)).trans eB.2.1, (hU.2 _ (by omega)).trans eB.2.2.1, (hU.2 _ (by omega)).trans eB.2.2.2.1, (hU.2 _ (by omega)).trans eB.2.2.2.2.1, (hU.2 _ (by omega)).trans eB.2.2.2.2.2.1, (hU.2 _ (by omega)).trans eB.2.2.2.2.2.2.1, hU.1, (hU.2 _ (by omega)).trans eB.2.2.2.2.2.2.2.2.1, (hU.2 _ (by omega)).trans eB.2.2.2.2.2.2.2.2.2.1, (hU.2 _ (by omega)).trans eB.2.2.2.2.2.2.2.2.2.2.1, (hU.2 _ (by omega)).trans eB.2.2.2.2.2.2.2.2.2.2.2.1, (hU.2 _ (by omega)).trans eB.2.2.2.2.2.2.2.2.2.2.2.2.1, (hU.2 _ (by omega)).trans eB.2.2.2.2.2.2.2.2.2.2.2.2.2.1, (hU.2 _ (by omega)).trans eB.2.2.2.2.2.2.2.2.2.2.2.2.2.2.1, (hU.2 _ (by omega)).trans eB.2.2.2.2.2.2.2.2.2.2.2.2.2.2.2.1, (hU.2 _ (by omega)).trans eB.2.2.2.2.2.2.2.2.2.2.2.2.2.2.2.2.1, (hU.2 _ (by omega)).trans eB.2.2.2.2.2.2.2.2.2.2.2.2.2.2.2.2.2⟩
theorem xMo.a7 (eB : xMo g ws q h ad s0 s1 s2 s3 s4 s5 s6 f0 f1 f2 f3 f4 f5 f6 f7 f8 f9 f10 f11 f12 f13 f14 f15 f16) {v : Nat → Int32} (hU : xU ws (q + 8) (ad 7, .inl (cI g, 24, .inl v)) w1) : xMo g w1 q h ad s0 s1 s2 s3 s4 s5 s6 f0 f1 f2 f3 f4 f5 f6 v f8 f9 f10 f11 f12 f13 f14 f15 f16 := ⟨(hU.2 _ (by omega)).trans eB.1, (hU.2 _ (by omega)).trans eB.2.1, (hU.2 _ (by omega)).trans eB.2.2.1, (hU.2 _ (by omega)).trans eB.2.2.2.1, (hU.2 _ (by omega)).trans eB.2.2.2.2.1, (hU.2 _ (by omega)).trans eB.2.2.2.2.2.1, (hU.2 _ (by omega)).trans eB.2.2.2.2.2.2.1, (hU.2 _ (by omega)).trans eB.2.2.2.2.2.2.2.1, hU.1, (hU.2 _ (by omega)).trans eB.2.2.2.2.2.2.2.2.2.1, (hU.2 _ (by omega)).trans eB.2.2.2.2.2.2.2.2.2.2.1, (hU.2 _ (by omega)).trans eB.2.2.2.2.2.2.2.2.2.2.2.1, (hU.2 _ (by omega)).trans eB.2.2.2.2.2.2.2.2.2.2.2.2.1, (hU.2 _ (by omega)).trans eB.2.2.2.2.2.2.2.2.2.2.2.2.2.1, (hU.2 _ (by omega)).trans eB.2.2.2.2.2.2.2.2.2.2.2.2.2.2.1, (hU.2 _ (by omega)).trans eB.2.2.2.2.2.2.2.2.2.2.2.2.2.2.2.1, (hU.2 _ (by omega)).trans eB.2.2.2.2.2.2.2.2.2.2.2.2.2.2.2.2.1, (hU.2 _ (by omega)).trans eB.2.2.2.2.2.2.2.2.2.2.2.2.2.2.2.2.2⟩
theorem xMo.a8 (eB : xMo g ws q h ad s0 s1 s2 s3 s4 s5 s6 f0 f1 f2 f3 f4 f5 f6 f7 f8 f9 f10 f11 f12 f13 f14 f15 f16) {v : Nat → Int32} (hU : xU ws (q + 9) (ad 8, .inl (cI g, 24, .inl v)) w1) : xMo g w1 q h ad s0 s1 s2 s3 s4 s5 s6 f0 f1 f2 f3 f4 f5 f6 f7 v f9 f10 f11 f12 f13 f14 f15 f16 := ⟨(hU.2 _ (by omega)).trans eB.1, (hU.2 _ (by omega)).trans eB.2.1, (hU.2 _ (by omega)).trans eB.2.2.1, (hU.2 _ (by omega)).trans eB.2.2.2.1, (hU.2 _ (by omega)).trans eB.2.2.2.2.1, (hU.2 _ (by omega)).trans eB.2.2.2.2.2.1, (hU.2 _ (by omega)).trans eB.2.2.2.2.2.2.1, (hU.2 _ (by omega)).trans eB.2.2.2.2.2.2.2.1, (hU.2 _ (by omega)).trans eB.2.2.2.2.2.2.2.2.1, hU.1, (hU.2 _ (by omega)).trans eB.2.2.2.2.2.2.2.2.2.2.1, (hU.2 _ (by omega)).trans eB.2.2.2.2.2.2.2.2.2.2.2.1, (hU.2 _ (by omega)).trans eB.2.2.2.2.2.2.2.2.2.2.2.2.1, (hU.2 _ (by omega)).trans eB.2.2.2.2.2.2.2.2.2.2.2.2.2.1, (hU.2 _ (by omega)).trans eB.2.2.2.2.2.2.2.2.2.2.2.2.2.2.1, (hU.2 _ (by omega)).trans eB.2.2.2.2.2.2.2.2.2.2.2.2.2.2.2.1, (hU.2 _ (by omega)).trans eB.2.2.2.2.2.2.2.2.2.2.2.2.2.2.2.2.1, (hU.2 _ (by omega)).trans eB.2.2.2.2.2.2.2.2.2.2.2.2.2.2.2.2.2⟩
theorem xMo.a9 (eB : xMo g ws q h ad s0 s1 s2 s3 s4 s5 s6 f0 f1 f2 f3 f4 f5 f6 f7 f8 f9 f10 f11 f12 f13 f14 f15 f16) {v : Nat → Int32} (hU : xU ws (q + 10) (ad 9, .inl (cI g, 24, .inl v)) w1) : xMo g w1 q h ad s0 s1 s2 s3 s4 s5 s6 f0 f1 f2 f3 f4 f5 f6 f7 f8 v f10 f11 f12 f13 f14 f15 f16 := ⟨(hU.2 _ (by omega)).trans eB.1, (hU.2 _ (by omega)).trans eB.2.1, (hU.2 _ (by omega)).trans eB.2.2.1, (hU.2 _ (by omega)).trans eB.2.2.2.1, (hU.2 _ (by omega)).trans eB.2.2.2.2.1, (hU.2 _ (by omega)).trans eB.2.2.2.2.2.1, (hU.2 _ (by omega)).trans eB.2.2.2.2.2.2.1, (hU.2 _ (by omega)).trans eB.2.2.2.2.2.2.2.1, (hU.2 _ (by omega)).trans eB.2.2.2.2.2.2.2.2.1, (hU.2 _ (by omega)).trans eB.2.2.2.2.2.2.2.2.2.1, hU.1, (hU.2 _ (by omega)).trans eB.2.2.2.2.2.2.2.2.2.2.2.1, (hU.2 _ (by omega)).trans eB.2.2.2.2.2.2.2.2.2.2.2.2.1, (hU.2 _ (by omega)).trans eB.2.2.2.2.2.2.2.2.2.2.2.2.2.1, (hU.2 _ (by omega)).trans eB.2.2.2.2.2.2.2.2.2.2.2.2.2.2.1, (hU.2 _ (by omega)).trans eB.2.2.2.2.2.2.2.2.2.2.2.2.2.2.2.1, (hU.2 _ (by omega)).trans eB.2.2.2.2.2.2.2.2.2.2.2.2.2.2.2.2.1, (hU.2 _ (by omega)).trans eB.2.2.2.2.2.2.2.2.2.2.2.2.2.2.2.2.2⟩
theorem xMo.a10 (eB : xMo g ws q h ad s0 s1 s2 s3 s4 s5 s6 f0 f1 f2 f3 f4 f5 f6 f7 f8 f9 f10 f11 f12 f13 f14 f15 f16) {v : Nat → Int32} (hU : xU ws (q + 11) (ad 10, .inl (cI g, 48, .inl v)) w1) : xMo g w1 q h ad s0 s1 s2 s3 s4 s5 s6 f0 f1 f2 f3 f4 f5 f6 f7 f8 f9 v f11 f12 f13 f14 f15 f16 := ⟨(hU.2 _ (by omega)).trans eB.1, (hU.2 _ (by omega)).trans eB.2.1, (hU.2 _ (by omega)).trans eB.2.2.1, (hU.2 _ (by omega)).trans eB.2.2.2.1, (hU.2 _ (by omega)).trans eB.2.2.2.2.1, (hU.2 _ (by omega)).trans eB.2.2.2.2.2.1, (hU.2 _ (by omega)).trans eB.2.2.2.2.2.2.1, (hU.2 _ (by omega)).trans eB.2.2.2.2.2.2.2.1, (hU.2 _ (by omega)).trans eB.2.2.2.2.2.2.2.2.1, (hU.2 _ (by omega)).trans eB.2.2.2.2.2.2.2.2.2.1, (hU.2 _ (by omega)).trans eB.2.2.2.2.2.2.2.2.2.2.1, hU.1, (hU.2 _ (by omega)).trans eB.2.2.2.2.2.2.2.2.2.2.2.2.1, (hU.2 _ (by omega)).trans eB.2.2.2.2.2.2.2.2.2.2.2.2.2.1, (hU.2 _ (by omega)).trans eB.2.2.2.2.2.2.2.2.2.2.2.2.2.2.1, (hU.2 _ (by omega)).trans eB.2.2.2.2.2.2.2.2.2.2.2.2.2.2.2.1, (hU.2 _ (by omega)).trans eB.2.2.2.2.2.2.2.2.2.2.2.2.2.2.2.2.1, (hU.2 _ (by omega)).trans eB.2.2.2.2.2.2.2.2.2.2.2.2.2.2.2.2.2⟩
theorem xMo.a11 (eB : xMo g ws q h ad s0 s1 s2 s3 s4 s5 s6 f0 f1 f2 f3 f4 f5 f6 f7 f8 f9 f10 f11 f12 f13 f14 f15 f16) {v : Nat → Int32} (hU : xU ws (q + 12) (ad 11, .inl (cZ g, 576, .inl v)) w1) : xMo g w1 q h ad s0 s1 s2 s3 s4 s5 s6 f0 f1 f2 f3 f4 f5 f6 f7 f8 f9 f10 v f12 f13 f14 f15 f16 := ⟨(hU.2 _ (by omega)).trans eB.1, (hU.2 _ (by omega)).trans eB.2.1, (hU.2 _ (by omega)).trans eB.2.2.1, (hU.2 _ (by omega)).trans eB.2.2.2.1, (hU.2 _ (by omega)).trans eB.2.2.2.2.1, (hU.2 _ (by omega)).trans eB.2.2.2.2.2.1, (hU.2 _ (by omega)).trans eB.2.2.2.2.2.2.1, (hU.2 _ (by omega)).trans eB.2.2.2.2.2.2.2.1, (hU.2 _ (by omega)).trans eB.2.2.2.2.2.2.2.2.1, (hU.2 _ (by omega)).trans eB.2.2.2.2.2.2.2.2.2.1, (hU.2 _ (by omega)).trans eB.2.2.2.2.2.2.2.2.2.2.1, (hU.2 _ (by omega)).trans eB.2.2.2.2.2.2.2.2.2.2.2.1, hU.1, (hU.2 _ (by omega)).trans eB.2.2.2.2.2.2.2.2.2.2.2.2.2.1, (hU.2 _ (by omega)).trans eB.2.2.2.2.2.2.2.2.2.2.2.2.2.2.1, (hU.2 _ (by omega)).trans eB.2.2.2.2.2.2.2.2.2.2.2.2.2.2.2.1, (hU.2 _ (by omega)).trans eB.2.2.2.2.2.2.2.2.2.2.2.2.2.2.2.2.1, (hU.2 _ (by omega)).trans eB.2.2.2.2.2.2.2.2.2.2.2.2.2.2.2.2.2⟩
theorem xMo.a12 (eB : xMo g ws q h ad s0 s1 s2 s3 s4 s5 s6 f0 f1 f2 f3 f4 f5 f6 f7 f8 f9 f10 f11 f12 f13 f14 f15 f16) {v : Nat → Int32} (hU : xU ws (q + 13) (ad 12, .inl (cI g, 300, .inl v)) w1) : xMo g w1 q h ad s0 s1 s2 s3 s4 s5 s6 f0 f1 f2 f3 f4 f5 f6 f7 f8 f9 f10 f11 v f13 f14 f15 f16 := ⟨(hU.2 _ (by omega)).trans eB.1, (hU.2 _ (by omega)).trans eB.2.1, (hU.2 _ (by omega)).trans eB.2.2.1, (hU.2 _ (by omega)).trans eB.2.2.2.1, (hU.2 _ (by omega)).trans eB.2.2.2.2.1, (hU.2 _ (by omega)).trans eB.2.2.2.2.2.1, (hU.2 _ (by omega)).trans eB.2.2.2.2.2.2.1, (hU.2 _ (by omega)).trans eB.2.2.2.2.2.2.2.1, (hU.2 _ (by omega)).trans eB.2.2.2.2.2.2.2.2.1, (hU.2 _ (by omega)).trans eB.2.2.2.2.2.2.2.2.2.1, (hU.2 _ (by omega)).trans eB.2.2.2.2.2.2.2.2.2.2.1, (hU.2 _ (by omega)).trans eB.2.2.2.2.2.2.2.2.2.2.2.1, (hU.2 _ (by omega)).trans eB.2.2.2.2.2.2.2.2.2.2.2.2.1, hU.1, (hU.2 _ (by omega)).trans eB.2.2.2.2.2.2.2.2.2.2.2.2.2.2.1, (hU.2 _ (by omega)).trans eB.2.2.2.2.2.2.2.2.2.2.2.2.2.2.2.1, (hU.2 _ (by omega)).trans eB.2.2.2.2.2.2.2.2.2.2.2.2.2.2.2.2.1, (hU.2 _ (by omega)).trans eB.2.2.2.2.2.2.2.2.2.2.2.2.2.2.2.2.2⟩
theorem xMo.a13 (eB : xMo g ws q h ad s0 s1 s2 s3 s4 s5 s6 f0 f1 f2 f3 f4 f5 f6 f7 f8 f9 f10 f11 f12 f13 f14 f15 f16) {v : Nat → Int32} (hU : xU ws (q + 14) (ad 13, .inl (cI g, 300, .inl v)) w1) : xMo g w1 q h ad s0 s1 s2 s3 s4 s5 s6 f0 f1 f2 f3 f4 f5 f6 f7 f8 f9 f10 f11 f12 v f14 f15 f16 := ⟨(hU.2 _ (by omega)).trans eB.1, (hU.2 _ (by omega)).trans eB.2.1, (hU.2 _ (by omega)).trans eB.2.2.1, (hU.2 _ (by omega)).trans eB.2.2.2.1, (hU.2 _ (by omega)).trans eB.2.2.2.2.1, (hU.2 _ (by omega)).trans eB.2.2.2.2.2.1, (hU.2 _ (by omega)).trans eB.2.2.2.2.2.2.1, (hU.2 _ (by omega)).trans eB.2.2.2.2.2.2.2.1, (hU.2 _ (by omega)).trans eB.2.2.2.2.2.2.2.2.1, (hU.2 _ (by omega)).trans eB.2.2.2.2.2.2.2.2.2.1, (hU.2 _ (by omega)).trans eB.2.2.2.2.2.2.2.2.2.2.1, (hU.2 _ (by omega)).trans eB.2.2.2.2.2.2.2.2.2.2.2.1, (hU.2 _ (by omega)).trans eB.2.2.2.2.2.2.2.2.2.2.2.2.1, (hU.2 _ (by omega)).trans eB.2.2.2.2.2.2.2.2.2.2.2.2.2.1, hU.1, (hU.2 _ (by omega)).trans eB.2.2.2.2.2.2.2.2.2.2.2.2.2.2.2.1, (hU.2 _ (by omega)).trans eB.2.2.2.2.2.2.2.2.2.2.2.2.2.2.2.2.1, (hU.2 _ (by omega)).trans eB.2.2.2.2.2.2.2.2.2.2.2.2.2.2.2.2.2⟩
theorem xMo.a14 (eB : xMo g ws q h ad s0 s1 s2 s3 s4 s5 s6 f0 f1 f2 f3 f4 f5 f6 f7 f8 f9 f10 f11 f12 f13 f14 f15 f16) {v : Nat → Int32} (hU : xU ws (q + 15) (ad 14, .inl (cI g, 300, .inl v)) w1) : xMo g w1 q h ad s0 s1 s2 s3 s4 s5 s6 f0 f1 f2 f3 f4 f5 f6 f7 f8 f9 f10 f11 f12 f13 v f15 f16 := ⟨(hU.2 _ (by omega)).trans eB.1, (hU.2 _ (by omega)).trans eB.2.1, (hU.2 _ (by omega)).trans eB.2.2.1, (hU.2 _ (by omega)).trans eB.2.2.2.1, (hU.2 _ (by omega)).trans eB.2.2.2.2.1, (hU.2 _ (by omega)).trans eB.2.2.2.2.2.1, (hU.2 _ (by omega)).trans eB.2.2.2.2.2.2.1, (hU.2 _ (by omega)).trans eB.2.2.2.2.2.2.2.1, (hU.2 _ (by omega)).trans eB.2.2.2.2.2.2.2.2.1, (hU.2 _ (by omega)).trans eB.2.2.2.2.2.2.2.2.2.1, (hU.2 _ (by omega)).trans eB.2.2.2.2.2.2.2.2.2.2.1, (hU.2 _ (by omega)).trans eB.2.2.2.2.2.2.2.2.2.2.2.1, (hU.2 _ (by omega)).trans eB.2.2.2.2.2.2.2.2.2.2.2.2.1, (hU.2 _ (by omega)).trans eB.2.2.2.2.2.2.2.2.2.2.2.2.2.1, (hU.2 _ (by omega)).trans eB.2.2.2.2.2.2.2.2.2.2.2.2.2.2.1, hU.1, (hU.2 _ (by omega)).trans eB.2.2.2.2.2.2.2.2.2.2.2.2.2.2.2.2.1, (hU.2 _ (by omega)).trans eB.2.2.2.2.2.2.2.2.2.2.2.2.2.2.2.2.2⟩
theorem xMo.a15 (eB : xMo g ws q h ad s0 s1 s2 s3 s4 s5 s6 f0 f1 f2 f3 f4 f5 f6 f7 f8 f9 f10 f11 f12 f13 f14 f15 f16) {v : Nat → Int64} (hU : xU ws (q + 16) (ad 15, .inl (cL g, 24, .inr (.inl v))) w1) : xMo g w1 q h ad s0 s1 s2 s3 s4 s5 s6 f0 f1 f2 f3 f4 f5 f6 f7 f8 f9 f10 f11 f12 f13 f14 v f16 := ⟨(hU.2 _ (by omega)).trans eB.1, (hU.2 _ (by omega)).trans eB.2.1, (hU.2 _ (by omega)).trans eB.2.2.1, (hU.2 _ (by omega)).trans eB.2.2.2.1, (hU.2 _ (by omega)).trans eB.2.2.2.2.1, (hU.2 _ (by omega)).trans eB.2.2.2.2.2.1, (hU.2 _ (by omega)).trans eB.2.2.2.2.2.2.1, (hU.2 _ (by omega)).trans eB.2.2.2.2.2.2.2.1, (hU.2 _ (by omega)).trans eB.2.2.2.2.2.2.2.2.1, (hU.2 _ (by omega)).trans eB.2.2.2.2.2.2.2.2.2.1, (hU.2 _ (by omega)).trans eB.2.2.2.2.2.2.2.2.2.2.1, (hU.2 _ (by omega)).trans eB.2.2.2.2.2.2.2.2.2.2.2.1, (hU.2 _ (by omega)).trans eB.2.2.2.2.2.2.2.2.2.2.2.2.1, (hU.2 _ (by omega)).trans eB.2.2.2.2.2.2.2.2.2.2.2.2.2.1, (hU.2 _ (by omega)).trans eB.2.2.2.2.2.2.2.2.2.2.2.2.2.2.1, (hU.2 _ (by omega)).trans eB.2.2.2.2.2.2.2.2.2.2.2.2.2.2.2.1, hU.1, (hU.2 _ (by omega)).trans eB.2.2.2.2.2.2.2.2.2.2.2.2.2.2.2.2.2⟩
theorem xMo.a16 (eB : xMo g ws q h ad s0 s1 s2 s3 s4 s5 s6 f0 f1 f2 f3 f4 f5 f6 f7 f8 f9 f10 f11 f12 f13 f14 f15 f16) {v : Nat → Int32} (hU : xU ws (q + 17) (ad 16, .inl (cI g, 900, .inl v)) w1) : xMo g w1 q h ad s0 s1 s2 s3 s4 s5 s6 f0 f1 f2 f3 f4 f5 f6 f7 f8 f9 f10 f11 f12 f13 f14 f15 v := ⟨(hU.2 _ (by omega)).trans eB.1, (hU.2 _ (by omega)).trans eB.2.1, (hU.2 _ (by omega)).trans eB.2.2.1, (hU.2 _ (by omega)).trans eB.2.2.2.1, (hU.2 _ (by omega)).trans eB.2.2.2.2.1, (hU.2 _ (by omega)).trans eB.2.2.2.2.2.1, (hU.2 _ (by omega)).trans eB.2.2.2.2.2.2.1, (hU.2 _ (by omega)).trans eB.2.2.2.2.2.2.2.1, (hU.2 _ (by omega)).trans eB.2.2.2.2.2.2.2.2.1, (hU.2 _ (by omega)).trans eB.2.2.2.2.2.2.2.2.2.1, (hU.2 _ (by omega)).trans eB.2.2.2.2.2.2.2.2.2.2.1, (hU.2 _ (by omega)).trans eB.2.2.2.2.2.2.2.2.2.2.2.1, (hU.2 _ (by omega)).trans eB.2.2.2.2.2.2.2.2.2.2.2.2.1, (hU.2 _ (by omega)).trans eB.2.2.2.2.2.2.2.2.2.2.2.2.2.1, (hU.2 _ (by omega)).trans eB.2.2.2.2.2.2.2.2.2.2.2.2.2.2.1, (hU.2 _ (by omega)).trans eB.2.2.2.2.2.2.2.2.2.2.2.2.2.2.2.1, (hU.2 _ (by omega)).trans eB.2.2.2.2.2.2.2.2.2.2.2.2.2.2.2.2.1, hU.1⟩
end XMO
section XMR
variable {p : Program} {l : Launch} {e : Env} {R : Room} {s : State} {m : MethodId} {args : Array Value} {below : List Frame} {meth : Method} {c : Code} {H : Heap} {locs : List Loc} {cells slots : Nat} {Q : State → Prop}
variable {cc : ByteArray} {pc nL : Nat} {ls : Array Slot} {rest : List Value} {g : xG} {b0 : Nat} {ws : va_W} {own : String}
theorem x_zald (E : xE g b0 cc nL own p s m args meth c) (hP : va_P (xD g) vwCl ws H) {q0 a n : Nat} {f : Nat → Int32} (he : ws[q0]? = some (a, .inl (cZ g, n, .inl f))) {i : Int32} {j : Nat} (hi : i = nI j) (hj : j < n) (hn : n < 2 ^ 31) (hdg : decode cc pc = .ok (.baload, 1))
    (kk : W p l e R s m args below meth c H locs cells slots Q (F0 m (pc + 1) ls (.int (f j) :: rest))) : W p l e R s m args below meth c H locs cells slots Q (F0 m pc ls (.int i :: .ref a :: rest)) := by
  subst hi
  refine va_zald E.1 E.2.1 E.2.2.2.2.2.1 hP q0 3 he rfl (vp_in_nI hj hn) hdg ?_
  rw [nI_clamp (Nat.lt_trans hj hn)]
  exact kk
theorem x_lald (E : xE g b0 cc nL own p s m args meth c) (hP : va_P (xD g) vwCl ws H) {q0 a n : Nat} {f : Nat → Int64} (he : ws[q0]? = some (a, .inl (cL g, n, .inr (.inl f)))) {i : Int32} {j : Nat} (hi : i = nI j) (hj : j < n) (hn : n < 2 ^ 31) (hdg : decode cc pc = .ok (.laload, 1))
    (kk : W p l e R s m args below meth c H locs cells slots Q (F0 m (pc + 1) ls (.long (f j) :: rest))) : W p l e R s m args below meth c H locs cells slots Q (F0 m pc ls (.int i :: .ref a :: rest)) := by
  subst hi
  refine va_lald E.1 E.2.1 E.2.2.2.2.2.1 hP q0 4 he rfl (vp_in_nI hj hn) hdg ?_
  rw [nI_clamp (Nat.lt_trans hj hn)]
  exact kk
theorem x_zast (E : xE g b0 cc nL own p s m args meth c) (hP : va_P (xD g) vwCl ws H) (hD : va_D (xA b0) ws) (hS : va_S (xA b0) s.heap H locs) {q0 a n : Nat} {f : Nat → Int32} (he : ws[q0]? = some (a, .inl (cZ g, n, .inl f))) {i x : Int32} {j : Nat} (hi : i = nI j) (hj : j < n) (hn : n < 2 ^ 31) (hx : vp_nar .boolean x = x) (hdg : decode cc pc = .ok (.bastore, 1))
    (kk : ∀ (w1 : va_W) (H1 : Heap) (locs1 : List Loc), xU ws q0 (a, .inl (cZ g, n, .inl (upd f j x))) w1 → va_P (xD g) vwCl w1 H1 → va_D (xA b0) w1 → va_S (xA b0) s.heap H1 locs1 → W p l e R s m args below meth c H1 locs1 cells slots Q (F0 m (pc + 1) ls rest)) : W p l e R s m args below meth c H locs cells slots Q (F0 m pc ls (.int x :: .int i :: .ref a :: rest)) := by
  subst hi
  refine va_zast E.1 E.2.1 E.2.2.2.2.2.1 hP hD hS q0 3 he rfl (vp_in_nI hj hn) hdg (fun H1 locs1 h1 h2 h3 => ?_)
  rw [nI_clamp (Nat.lt_trans hj hn), hx] at h1 h2
  exact kk _ H1 locs1 (xU.of he) h1 h2 h3
theorem x_last (E : xE g b0 cc nL own p s m args meth c) (hP : va_P (xD g) vwCl ws H) (hD : va_D (xA b0) ws) (hS : va_S (xA b0) s.heap H locs) {q0 a n : Nat} {f : Nat → Int64} (he : ws[q0]? = some (a, .inl (cL g, n, .inr (.inl f)))) {i : Int32} {x : Int64} {j : Nat} (hi : i = nI j) (hj : j < n) (hn : n < 2 ^ 31) (hdg : decode cc pc = .ok (.lastore, 1))
    (kk : ∀ (w1 : va_W) (H1 : Heap) (locs1 : List Loc), xU ws q0 (a, .inl (cL g, n, .inr (.inl (vp_updL f j x)))) w1 → va_P (xD g) vwCl w1 H1 → va_D (xA b0) w1 → va_S (xA b0) s.heap H1 locs1 → W p l e R s m args below meth c H1 locs1 cells slots Q (F0 m (pc + 1) ls rest)) : W p l e R s m args below meth c H locs cells slots Q (F0 m pc ls (.long x :: .int i :: .ref a :: rest)) := by
  subst hi
  refine va_last E.1 E.2.1 E.2.2.2.2.2.1 hP hD hS q0 4 he rfl (vp_in_nI hj hn) hdg (fun H1 locs1 h1 h2 h3 => ?_)
  rw [nI_clamp (Nat.lt_trans hj hn)] at h1 h2
  exact kk _ H1 locs1 (xU.of he) h1 h2 h3
end XMR
end
section
def mo_look (f : Nat → Int32) (n p : Nat) : Int32 := if p < n then f p else 0
def mo_mark (wr x : Int32) : Int32 := if wr = -1 then x else wr
def mo_take (f : Nat → Int32) (n : Nat) (x : Int32) (p : Nat) (wr : Int32) : Nat × Int32 := if wr = -1 then (if mo_look f n p = x then (p + 1, wr) else (p, mo_mark wr (nI p))) else (p, mo_mark wr (nI p))
def mo_dig (f : Nat → Int32) (n : Nat) : Nat → Nat → Int32 → Nat × Int32
  | 0, p, v => (p, v)
  | k + 1, p, v => if mo_look f n p < 48 then (p, v) else if 57 < mo_look f n p then (p, v) else mo_dig f n k (p + 1) (10 * v + mo_look f n p - 48)
def mo_nm2 (lo hi : Int32) (p : Nat) (wr : Int32) (a : Nat × Int32) : Int32 × Nat × Int32 := (a.2, a.1, if a.1 = p then mo_mark wr (nI p) else if a.2 < lo then mo_mark wr (nI p) else if a.2 ≤ hi then wr else mo_mark wr (nI p))
def mo_num (f : Nat → Int32) (n : Nat) (lo hi : Int32) (p : Nat) (wr : Int32) : Int32 × Nat × Int32 := if wr = -1 then mo_nm2 lo hi p wr (mo_dig f n 4 p 0) else (0, p, wr)
theorem mo_look_lt {f : Nat → Int32} {n p : Nat} (h : ¬ mo_look f n p = 0) : p < n := by
  rcases Nat.lt_or_ge p n with q | q
  · exact q
  · exact absurd (if_neg (by omega)) h
def mo_sign (n : Nat) (x : Int32) : Int32 := if n = 300 then 0 else if x < 32 then 0 else if 126 < x then 0 else 1
set_option maxRecDepth 100000 in
set_option maxHeartbeats 4000000 in
theorem c_Mo_sign (l : Launch) (g : xG) (b0 : Nat) (ws : va_W) {q h : Nat} {ad : Nat → Nat} {s1 s2 s3 s4 s5 s6 : Int32} {f0 f1 f2 f3 f4 f5 f6 f7 f8 f9 f10 f11 f12 f13 f14 f16 : Nat → Int32} {f15 : Nat → Int64} {n : Nat} (eB : xMo g ws q h ad (nI n) s1 s2 s3 s4 s5 s6 f0 f1 f2 f3 f4 f5 f6 f7 f8 f9 f10 f11 f12 f13 f14 f15 f16) (hn : n ≤ 300) (x : Int32) : xMi l g b0 y_Mo_sign b_Mo_sign 2 (some .boolean) 0 [.ref h, .int x] ws (fun r u => r = mo_sign n x ∧ xQ q (q + 18) ws u ∧ xMo g u q h ad (nI (if mo_sign n x = 0 then n else n + 1)) s1 s2 s3 s4 s5 s6 (if mo_sign n x = 0 then f0 else upd f0 n x) f1 f2 f3 f4 f5 f6 f7 f8 f9 f10 f11 f12 f13 f14 f15 f16) := by
  unfold xMi
  refine x_in (by decide) (Nat.le_of_ble_eq_true rfl) ?_
  intro p e s m below meth c ls E hr hin hP hD hl
  obtain ⟨hx, hb, hml, hown, hts, hK, hZ, hb0, hlocks⟩ := id E
  have hS : va_S (xA b0) s.heap s.heap [] := va_S.rf
  have hl : lv_has ls 2 [(0, .ref h), (1, .int x)] := hl
  have hQ : xQ q (q + 18) ws ws := xQ.rf
  refine lv_aload_n hx hb d_Mo_sign_0 rfl (lv_at hl 0 rfl) ?_
  refine x_get E hP eB.1 rfl cl6_in 1 (by decide) wf_Mo_63 rfl d_Mo_sign_1 ?_
  refine lv_sipush (v := 300) hx hb d_Mo_sign_4 (by decide) ?_
  refine lv_icmp_eq (tgt := 22) hx hb d_Mo_sign_7 (by decide) (fun c7 => ?_) (fun c7 => ?_)
  · have h6 : n = 300 := (nI_eq (b := 300) (by omega) (by decide)).mp c7
    refine lv_iconst (v := 0) hx hb d_Mo_sign_22 (by decide) ?_
    have hv : mo_sign n x = 0 := by rw [mo_sign, if_pos h6]
    exact x_rz E hr hS rfl ⟨hv.symm, hQ, by rw [if_pos hv, if_pos hv]; exact eB⟩ hP hD d_Mo_sign_23
  · have h6 : ¬ n = 300 := fun h => c7 (by rw [h]; decide)
    refine lv_iload_n hx hb d_Mo_sign_10 rfl (lv_at hl 1 rfl) ?_
    refine lv_bipush (v := 32) hx hb d_Mo_sign_11 (by decide) ?_
    refine lv_icmp_lt (tgt := 22) hx hb d_Mo_sign_13 (by decide) (fun c13 => ?_) (fun c13 => ?_)
    · refine lv_iconst (v := 0) hx hb d_Mo_sign_22 (by decide) ?_
      have hv : mo_sign n x = 0 := by rw [mo_sign, if_neg h6, if_pos c13]
      exact x_rz E hr hS rfl ⟨hv.symm, hQ, by rw [if_pos hv, if_pos hv]; exact eB⟩ hP hD d_Mo_sign_23
    · refine lv_iload_n hx hb d_Mo_sign_16 rfl (lv_at hl 1 rfl) ?_
      refine lv_bipush (v := 126) hx hb d_Mo_sign_17 (by decide) ?_
      refine lv_icmp_le (tgt := 24) hx hb d_Mo_sign_19 (by decide) (fun c19 => ?_) (fun c19 => ?_)
      · refine lv_aload_n hx hb d_Mo_sign_24 rfl (lv_at hl 0 rfl) ?_
        refine x_get E hP eB.1 rfl cl6_in 0 (by decide) wf_Mo_7 rfl d_Mo_sign_25 ?_
        refine lv_aload_n hx hb d_Mo_sign_28 rfl (lv_at hl 0 rfl) ?_
        refine x_get E hP eB.1 rfl cl6_in 1 (by decide) wf_Mo_63 rfl d_Mo_sign_29 ?_
        refine lv_iload_n hx hb d_Mo_sign_32 rfl (lv_at hl 1 rfl) ?_
        refine x_iast E hP hD hS eB.2.1 (j := n) rfl (by omega) (by decide) d_Mo_sign_33 (fun w1 H locs hU1 hP hD hS => ?_)
        have eB : xMo g w1 q h ad (nI n) s1 s2 s3 s4 s5 s6 (upd f0 n x) f1 f2 f3 f4 f5 f6 f7 f8 f9 f10 f11 f12 f13 f14 f15 f16 := eB.a0 hU1
        have hQ := hQ.up hU1 (by omega)
        refine lv_aload_n hx hb d_Mo_sign_34 rfl (lv_at hl 0 rfl) ?_
        refine lv_dup hx hb d_Mo_sign_35 rfl ?_
        refine x_get E hP eB.1 rfl cl6_in 1 (by decide) wf_Mo_63 rfl d_Mo_sign_36 ?_
        refine lv_iconst (v := 1) hx hb d_Mo_sign_39 (by decide) ?_
        refine lv_iadd hx hb d_Mo_sign_40 ?_
        refine x_top (y := nI (n + 1)) (nI_1 n) ?_
        refine x_put E hP hD hS eB.1 rfl cl6_in cl6_ty cl6_nm 1 (by decide) wf_Mo_63 rfl rfl rfl (Nat.le_of_ble_eq_true rfl) d_Mo_sign_41 (fun w2 H locs hU2 hP hD hS => ?_)
        have eB : xMo g w2 q h ad (nI (n + 1)) s1 s2 s3 s4 s5 s6 (upd f0 n x) f1 f2 f3 f4 f5 f6 f7 f8 f9 f10 f11 f12 f13 f14 f15 f16 := eB.t0 hU2
        have hQ := hQ.up hU2 (by omega)
        refine lv_iconst (v := 1) hx hb d_Mo_sign_44 (by decide) ?_
        have hv : mo_sign n x = 1 := by rw [mo_sign, if_neg h6, if_neg c13, if_neg (Int32.not_lt.mpr c19)]
        exact x_rz E hr hS rfl ⟨hv.symm, hQ, by rw [hv, if_neg (by decide), if_neg (by decide)]; exact eB⟩ hP hD d_Mo_sign_45
      · refine lv_iconst (v := 0) hx hb d_Mo_sign_22 (by decide) ?_
        have hv : mo_sign n x = 0 := by rw [mo_sign, if_neg h6, if_neg c13, if_pos (Int32.not_le.mp c19)]
        exact x_rz E hr hS rfl ⟨hv.symm, hQ, by rw [if_pos hv, if_pos hv]; exact eB⟩ hP hD d_Mo_sign_23
set_option maxRecDepth 100000 in
set_option maxHeartbeats 4000000 in
theorem c_Mo_look (l : Launch) (g : xG) (b0 : Nat) (ws : va_W) {q h : Nat} {ad : Nat → Nat} {s2 s3 s4 s5 s6 : Int32} {f0 f1 f2 f3 f4 f5 f6 f7 f8 f9 f10 f11 f12 f13 f14 f16 : Nat → Int32} {f15 : Nat → Int64} {n t : Nat} (eB : xMo g ws q h ad (nI n) (nI t) s2 s3 s4 s5 s6 f0 f1 f2 f3 f4 f5 f6 f7 f8 f9 f10 f11 f12 f13 f14 f15 f16) (hn : n ≤ 300) (hp : t ≤ 300) : xRi l g b0 y_Mo_look b_Mo_look 1 (some .int) 0 [.ref h] ws (fun r => r = mo_look f0 n t) := by
  unfold xRi
  refine x_in (by decide) (Nat.le_of_ble_eq_true rfl) ?_
  intro p e s m below meth c ls E hr hin hP hD hl
  obtain ⟨hx, hb, hml, hown, hts, hK, hZ, hb0, hlocks⟩ := id E
  have hS : va_S (xA b0) s.heap s.heap [] := va_S.rf
  have hl : lv_has ls 1 [(0, .ref h)] := hl
  refine lv_aload_n hx hb d_Mo_look_0 rfl (lv_at hl 0 rfl) ?_
  refine x_get E hP eB.1 rfl cl6_in 2 (by decide) wf_Mo_67 rfl d_Mo_look_1 ?_
  refine lv_aload_n hx hb d_Mo_look_4 rfl (lv_at hl 0 rfl) ?_
  refine x_get E hP eB.1 rfl cl6_in 1 (by decide) wf_Mo_63 rfl d_Mo_look_5 ?_
  refine lv_icmp_ge (tgt := 23) hx hb d_Mo_look_8 (by decide) (fun c8 => ?_) (fun c8 => ?_)
  · have h8 : ¬ t < n := Nat.not_lt.mpr ((nI_leI (by omega) (by omega)).mp c8)
    refine lv_iconst (v := 0) hx hb d_Mo_look_23 (by decide) ?_
    exact x_pi E hr (by rw [mo_look, if_neg h8]) d_Mo_look_24
  · have h8 : t < n := Nat.not_le.mp fun h => c8 (nI_le h (by omega))
    refine lv_aload_n hx hb d_Mo_look_11 rfl (lv_at hl 0 rfl) ?_
    refine x_get E hP eB.1 rfl cl6_in 0 (by decide) wf_Mo_7 rfl d_Mo_look_12 ?_
    refine lv_aload_n hx hb d_Mo_look_15 rfl (lv_at hl 0 rfl) ?_
    refine x_get E hP eB.1 rfl cl6_in 2 (by decide) wf_Mo_67 rfl d_Mo_look_16 ?_
    refine x_iald E hP eB.2.1 (j := t) rfl (by omega) (by decide) d_Mo_look_19 ?_
    refine lv_goto (tgt := 24) hx hb d_Mo_look_20 (by decide) ?_
    exact x_pi E hr (by rw [mo_look, if_pos h8]) d_Mo_look_24
set_option maxRecDepth 100000 in
set_option maxHeartbeats 4000000 in
theorem c_Mo_mark (l : Launch) (g : xG) (b0 : Nat) (ws : va_W) {q h : Nat} {ad : Nat → Nat} {s0 s1 s2 s3 s4 s5 s6 : Int32} {f0 f1 f2 f3 f4 f5 f6 f7 f8 f9 f10 f11 f12 f13 f14 f16 : Nat → Int32} {f15 : Nat → Int64} (eB : xMo g ws q h ad s0 s1 s2 s3 s4 s5 s6 f0 f1 f2 f3 f4 f5 f6 f7 f8 f9 f10 f11 f12 f13 f14 f15 f16) (x : Int32) : xMv l g b0 y_Mo_mark b_Mo_mark 2 0 [.ref h, .int x] ws (fun u => xQ q (q + 18) ws u ∧ xMo g u q h ad s0 s1 (mo_mark s2 x) s3 s4 s5 s6 f0 f1 f2 f3 f4 f5 f6 f7 f8 f9 f10 f11 f12 f13 f14 f15 f16) := by
  unfold xMv
  refine x_in (by decide) (Nat.le_of_ble_eq_true rfl) ?_
  intro p e s m below meth c ls E hr hin hP hD hl
  obtain ⟨hx, hb, hml, hown, hts, hK, hZ, hb0, hlocks⟩ := id E
  have hS : va_S (xA b0) s.heap s.heap [] := va_S.rf
  have hl : lv_has ls 2 [(0, .ref h), (1, .int x)] := hl
  have hQ : xQ q (q + 18) ws ws := xQ.rf
  refine lv_aload_n hx hb d_Mo_mark_0 rfl (lv_at hl 0 rfl) ?_
  refine lv_aload_n hx hb d_Mo_mark_1 rfl (lv_at hl 0 rfl) ?_
  refine x_get E hP eB.1 rfl cl6_in 3 (by decide) wf_Mo_70 rfl d_Mo_mark_2 ?_
  refine lv_iconst (v := (-1)) hx hb d_Mo_mark_5 (by decide) ?_
  refine lv_icmp_ne (tgt := 13) hx hb d_Mo_mark_6 (by decide) (fun c6 => ?_) (fun c6 => ?_)
  · refine lv_aload_n hx hb d_Mo_mark_13 rfl (lv_at hl 0 rfl) ?_
    refine x_get E hP eB.1 rfl cl6_in 3 (by decide) wf_Mo_70 rfl d_Mo_mark_14 ?_
    refine x_put E hP hD hS eB.1 rfl cl6_in cl6_ty cl6_nm 3 (by decide) wf_Mo_70 rfl rfl rfl (Nat.le_of_ble_eq_true rfl) d_Mo_mark_17 (fun w1 H locs hU1 hP hD hS => ?_)
    have eB : xMo g w1 q h ad s0 s1 s2 s3 s4 s5 s6 f0 f1 f2 f3 f4 f5 f6 f7 f8 f9 f10 f11 f12 f13 f14 f15 f16 := eB.t2 hU1
    have hQ := hQ.up hU1 (by omega)
    exact x_rv E hr hS ⟨hQ, by rw [mo_mark, if_neg c6]; exact eB⟩ hP hD d_Mo_mark_20
  · refine lv_iload_n hx hb d_Mo_mark_9 rfl (lv_at hl 1 rfl) ?_
    refine lv_goto (tgt := 17) hx hb d_Mo_mark_10 (by decide) ?_
    refine x_put E hP hD hS eB.1 rfl cl6_in cl6_ty cl6_nm 3 (by decide) wf_Mo_70 rfl rfl rfl (Nat.le_of_ble_eq_true rfl) d_Mo_mark_17 (fun w1 H locs hU1 hP hD hS => ?_)
    have eB : xMo g w1 q h ad s0 s1 x s3 s4 s5 s6 f0 f1 f2 f3 f4 f5 f6 f7 f8 f9 f10 f11 f12 f13 f14 f15 f16 := eB.t2 hU1
    have hQ := hQ.up hU1 (by omega)
    exact x_rv E hr hS ⟨hQ, by rw [mo_mark, if_pos c6]; exact eB⟩ hP hD d_Mo_mark_20
set_option maxRecDepth 100000 in
set_option maxHeartbeats 4000000 in
theorem c_Mo_take (l : Launch) (g : xG) (b0 : Nat) (ws : va_W) {q h : Nat} {ad : Nat → Nat} {s2 s3 s4 s5 s6 : Int32} {f0 f1 f2 f3 f4 f5 f6 f7 f8 f9 f10 f11 f12 f13 f14 f16 : Nat → Int32} {f15 : Nat → Int64} {n t : Nat} (eB : xMo g ws q h ad (nI n) (nI t) s2 s3 s4 s5 s6 f0 f1 f2 f3 f4 f5 f6 f7 f8 f9 f10 f11 f12 f13 f14 f15 f16) (hn : n ≤ 300) (hp : t ≤ n) (x : Int32) (hx0 : ¬ x = 0) : xMv l g b0 y_Mo_take b_Mo_take 2 1 [.ref h, .int x] ws (fun u => xQ q (q + 18) ws u ∧ xMo g u q h ad (nI n) (nI (mo_take f0 n x t s2).1) ((mo_take f0 n x t s2).2) s3 s4 s5 s6 f0 f1 f2 f3 f4 f5 f6 f7 f8 f9 f10 f11 f12 f13 f14 f15 f16 ∧ (mo_take f0 n x t s2).1 ≤ n) := by
  unfold xMv
  refine x_in (by decide) (Nat.le_of_ble_eq_true rfl) ?_
  intro p e s m below meth c ls E hr hin hP hD hl
  obtain ⟨hx, hb, hml, hown, hts, hK, hZ, hb0, hlocks⟩ := id E
  have hS : va_S (xA b0) s.heap s.heap [] := va_S.rf
  have hl : lv_has ls 2 [(0, .ref h), (1, .int x)] := hl
  have hQ : xQ q (q + 18) ws ws := xQ.rf
  refine lv_aload_n hx hb d_Mo_take_0 rfl (lv_at hl 0 rfl) ?_
  refine x_get E hP eB.1 rfl cl6_in 3 (by decide) wf_Mo_70 rfl d_Mo_take_1 ?_
  refine lv_iconst (v := (-1)) hx hb d_Mo_take_4 (by decide) ?_
  refine lv_icmp_ne (tgt := 29) hx hb d_Mo_take_5 (by decide) (fun c5 => ?_) (fun c5 => ?_)
  · refine lv_aload_n hx hb d_Mo_take_29 rfl (lv_at hl 0 rfl) ?_
    refine lv_aload_n hx hb d_Mo_take_30 rfl (lv_at hl 0 rfl) ?_
    refine x_get E hP eB.1 rfl cl6_in 2 (by decide) wf_Mo_67 rfl d_Mo_take_31 ?_
    refine x_cVv (As := [.int (nI t)]) (rest := []) E (c_Mo_mark l g b0 _ eB (nI t)) wy_Mo_mark wl_Mo_77 hP hD hS eB.1 rfl hl.1 ⟨by decide, by decide⟩ ⟨Nat.le_refl _, Nat.le_refl _⟩ rfl (Nat.le_of_ble_eq_true rfl) d_Mo_take_34 (fun w1 H locs hr34 hP hD hS => ?_)
    obtain ⟨hq, eB⟩ := hr34
    have hQ := hQ.tr hq
    exact x_rv E hr hS ⟨hQ, by rw [mo_take, if_neg c5]; exact ⟨eB, hp⟩⟩ hP hD d_Mo_take_37
  · refine lv_aload_n hx hb d_Mo_take_8 rfl (lv_at hl 0 rfl) ?_
    refine x_cRi (As := []) (rest := []) E (c_Mo_look l g b0 _ eB (by omega) (by omega)) wy_Mo_look wl_Mo_73 hP hD hS eB.1 rfl hl.1 ⟨by decide, by decide⟩ ⟨Nat.le_refl _, Nat.le_refl _⟩ rfl (Nat.le_of_ble_eq_true rfl) d_Mo_take_9 (fun r9 hr9 => ?_)
    subst hr9
    refine lv_iload_n hx hb d_Mo_take_12 rfl (lv_at hl 1 rfl) ?_
    refine lv_icmp_ne (tgt := 29) hx hb d_Mo_take_13 (by decide) (fun c13 => ?_) (fun c13 => ?_)
    · refine lv_aload_n hx hb d_Mo_take_29 rfl (lv_at hl 0 rfl) ?_
      refine lv_aload_n hx hb d_Mo_take_30 rfl (lv_at hl 0 rfl) ?_
      refine x_get E hP eB.1 rfl cl6_in 2 (by decide) wf_Mo_67 rfl d_Mo_take_31 ?_
      refine x_cVv (As := [.int (nI t)]) (rest := []) E (c_Mo_mark l g b0 _ eB (nI t)) wy_Mo_mark wl_Mo_77 hP hD hS eB.1 rfl hl.1 ⟨by decide, by decide⟩ ⟨Nat.le_refl _, Nat.le_refl _⟩ rfl (Nat.le_of_ble_eq_true rfl) d_Mo_take_34 (fun w2 H locs hr34 hP hD hS => ?_)
      obtain ⟨hq, eB⟩ := hr34
      have hQ := hQ.tr hq
      exact x_rv E hr hS ⟨hQ, by rw [mo_take, if_pos c5, if_neg c13]; exact ⟨eB, hp⟩⟩ hP hD d_Mo_take_37
    · refine lv_aload_n hx hb d_Mo_take_16 rfl (lv_at hl 0 rfl) ?_
      refine lv_dup hx hb d_Mo_take_17 rfl ?_
      refine x_get E hP eB.1 rfl cl6_in 2 (by decide) wf_Mo_67 rfl d_Mo_take_18 ?_
      refine lv_iconst (v := 1) hx hb d_Mo_take_21 (by decide) ?_
      refine lv_iadd hx hb d_Mo_take_22 ?_
      refine x_top (y := nI (t + 1)) (nI_1 t) ?_
      refine x_put E hP hD hS eB.1 rfl cl6_in cl6_ty cl6_nm 2 (by decide) wf_Mo_67 rfl rfl rfl (Nat.le_of_ble_eq_true rfl) d_Mo_take_23 (fun w2 H locs hU2 hP hD hS => ?_)
      have eB : xMo g w2 q h ad (nI n) (nI (t + 1)) s2 s3 s4 s5 s6 f0 f1 f2 f3 f4 f5 f6 f7 f8 f9 f10 f11 f12 f13 f14 f15 f16 := eB.t1 hU2
      have hQ := hQ.up hU2 (by omega)
      refine lv_goto (tgt := 37) hx hb d_Mo_take_26 (by decide) ?_
      exact x_rv E hr hS ⟨hQ, by rw [mo_take, if_pos c5, if_pos c13]; exact ⟨eB, mo_look_lt (fun h => hx0 (c13.symm.trans h))⟩⟩ hP hD d_Mo_take_37
set_option maxRecDepth 100000 in
set_option maxHeartbeats 4000000 in
theorem c_Mo_number (l : Launch) (g : xG) (b0 : Nat) (ws : va_W) {q h : Nat} {ad : Nat → Nat} {s2 s3 s4 s5 s6 : Int32} {f0 f1 f2 f3 f4 f5 f6 f7 f8 f9 f10 f11 f12 f13 f14 f16 : Nat → Int32} {f15 : Nat → Int64} {n t : Nat} (eB : xMo g ws q h ad (nI n) (nI t) s2 s3 s4 s5 s6 f0 f1 f2 f3 f4 f5 f6 f7 f8 f9 f10 f11 f12 f13 f14 f15 f16) (hn : n ≤ 300) (hp : t ≤ n) (lo hi : Int32) : xMi l g b0 y_Mo_number b_Mo_number 5 (some .int) 1 [.ref h, .int lo, .int hi] ws (fun r u => r = (mo_num f0 n lo hi t s2).1 ∧ xQ q (q + 18) ws u ∧ xMo g u q h ad (nI n) (nI (mo_num f0 n lo hi t s2).2.1) ((mo_num f0 n lo hi t s2).2.2) s3 s4 s5 s6 f0 f1 f2 f3 f4 f5 f6 f7 f8 f9 f10 f11 f12 f13 f14 f15 f16 ∧ (mo_num f0 n lo hi t s2).2.1 ≤ n) := by
  unfold xMi
  refine x_in (by decide) (Nat.le_of_ble_eq_true rfl) ?_
  intro p e s m below meth c ls E hr hin hP hD hl
  obtain ⟨hx, hb, hml, hown, hts, hK, hZ, hb0, hlocks⟩ := id E
  have hS : va_S (xA b0) s.heap s.heap [] := va_S.rf
  have hl : lv_has ls 5 [(0, .ref h), (1, .int lo), (2, .int hi)] := hl
  have hQ : xQ q (q + 18) ws ws := xQ.rf
  refine lv_aload_n hx hb d_Mo_number_0 rfl (lv_at hl 0 rfl) ?_
  refine x_get E hP eB.1 rfl cl6_in 2 (by decide) wf_Mo_67 rfl d_Mo_number_1 ?_
  refine lv_istore_n (lv' := [(3, .int (nI t)), (0, .ref h), (1, .int lo), (2, .int hi)]) hx hb d_Mo_number_4 rfl hl (by decide) rfl (fun ls hl => ?_)
  refine lv_iconst (v := 0) hx hb d_Mo_number_5 (by decide) ?_
  refine lv_istore (lv' := [(4, .int 0), (3, .int (nI t)), (0, .ref h), (1, .int lo), (2, .int hi)]) hx hb d_Mo_number_6 hl (by decide) rfl (fun ls hl => ?_)
  have loop : ∀ (k i : Nat) (pp : Nat) (v : Int32) (v9 : va_W) (H : Heap) (locs : List Loc) (ls : Array Slot), (4 < i + k) → (i ≤ 4) → (pp = t + i) → (pp ≤ n) → (s2 = -1 → mo_dig f0 n 4 t 0 = mo_dig f0 n (4 - i) pp v) → (¬ s2 = -1 → pp = t ∧ v = 0) → (lv_has ls 5 [(4, .int v), (3, .int (nI t)), (0, .ref h), (1, .int lo), (2, .int hi)]) → (va_P (xD g) vwCl v9 H) → (va_D (xA b0) v9) → (va_S (xA b0) s.heap H locs) → (xQ q (q + 18) ws v9) → (xMo g v9 q h ad (nI n) (nI pp) s2 s3 s4 s5 s6 f0 f1 f2 f3 f4 f5 f6 f7 f8 f9 f10 f11 f12 f13 f14 f15 f16) → W p l e (rmL 1) s m ([.ref h, .int lo, .int hi] : List Value).toArray below meth c H locs 0 0 (MQ below (va_Qi (fun r u => r = (mo_num f0 n lo hi t s2).1 ∧ xQ q (q + 18) ws u ∧ xMo g u q h ad (nI n) (nI (mo_num f0 n lo hi t s2).2.1) ((mo_num f0 n lo hi t s2).2.2) s3 s4 s5 s6 f0 f1 f2 f3 f4 f5 f6 f7 f8 f9 f10 f11 f12 f13 f14 f15 f16 ∧ (mo_num f0 n lo hi t s2).2.1 ≤ n) (fun u t => va_P (xD g) vwCl u t.heap ∧ va_D (xA b0) u) (xA b0)) ([.ref h, .int lo, .int hi] : List Value).toArray s 0 0 (xA b0)) (F0 m 8 ls []) := by
    intro k
    induction k with
    | zero =>
      intro i pp v v9 H locs ls hk hi4 hpp hp9 hv hv2 hl hP hD hS hQ eB
      omega
    | succ k ih =>
      intro i pp v v9 H locs ls hk hi4 hpp hp9 hv hv2 hl hP hD hS hQ eB
      refine lv_aload_n hx hb d_Mo_number_8 rfl (lv_at hl 2 rfl) ?_
      refine x_get E hP eB.1 rfl cl6_in 3 (by decide) wf_Mo_70 rfl d_Mo_number_9 ?_
      refine lv_iconst (v := (-1)) hx hb d_Mo_number_12 (by decide) ?_
      refine lv_icmp_ne (tgt := 72) hx hb d_Mo_number_13 (by decide) (fun c13 => ?_) (fun c13 => ?_)
      · refine lv_aload_n hx hb d_Mo_number_72 rfl (lv_at hl 2 rfl) ?_
        refine x_get E hP eB.1 rfl cl6_in 3 (by decide) wf_Mo_70 rfl d_Mo_number_73 ?_
        refine lv_iconst (v := (-1)) hx hb d_Mo_number_76 (by decide) ?_
        refine lv_icmp_ne (tgt := 105) hx hb d_Mo_number_77 (by decide) (fun c77 => ?_) (fun c77 => absurd c77 c13)
        refine lv_iload hx hb d_Mo_number_105 (lv_at hl 0 rfl) ?_
        obtain ⟨hv3, hv4⟩ := hv2 c13
        exact x_ri E hr hS (by rw [mo_num, if_neg c13]; rw [hv3] at eB; exact ⟨hv4, hQ, eB, hp⟩) hP hD d_Mo_number_107
      · refine lv_aload_n hx hb d_Mo_number_16 rfl (lv_at hl 2 rfl) ?_
        refine x_get E hP eB.1 rfl cl6_in 2 (by decide) wf_Mo_67 rfl d_Mo_number_17 ?_
        refine lv_iload_n hx hb d_Mo_number_20 rfl (lv_at hl 1 rfl) ?_
        refine lv_iconst (v := 4) hx hb d_Mo_number_21 (by decide) ?_
        refine lv_iadd hx hb d_Mo_number_22 ?_
        refine x_top (y := nI (t + 4)) (nI_add t 4) ?_
        refine lv_icmp_ge (tgt := 72) hx hb d_Mo_number_23 (by decide) (fun c23 => ?_) (fun c23 => ?_)
        · have hd9 : mo_dig f0 n 4 t 0 = (pp, v) := by
            have h7 := (nI_leI (by omega) (by omega)).mp c23
            have h6 : i = 4 := by omega
            rw [hv c13, h6]; rfl
          refine lv_aload_n hx hb d_Mo_number_72 rfl (lv_at hl 2 rfl) ?_
          refine x_get E hP eB.1 rfl cl6_in 3 (by decide) wf_Mo_70 rfl d_Mo_number_73 ?_
          refine lv_iconst (v := (-1)) hx hb d_Mo_number_76 (by decide) ?_
          refine lv_icmp_ne (tgt := 105) hx hb d_Mo_number_77 (by decide) (fun c77 => absurd c13 c77) (fun c77 => ?_)
          refine lv_aload_n hx hb d_Mo_number_80 rfl (lv_at hl 2 rfl) ?_
          refine x_get E hP eB.1 rfl cl6_in 2 (by decide) wf_Mo_67 rfl d_Mo_number_81 ?_
          refine lv_iload_n hx hb d_Mo_number_84 rfl (lv_at hl 1 rfl) ?_
          refine lv_icmp_eq (tgt := 100) hx hb d_Mo_number_85 (by decide) (fun c85 => ?_) (fun c85 => ?_)
          · have h85 : pp = t := (nI_eq (by omega) (by omega)).mp c85
            refine lv_aload_n hx hb d_Mo_number_100 rfl (lv_at hl 2 rfl) ?_
            refine lv_iload_n hx hb d_Mo_number_101 rfl (lv_at hl 1 rfl) ?_
            refine x_cVv (As := [.int (nI t)]) (rest := []) E (c_Mo_mark l g b0 _ eB (nI t)) wy_Mo_mark wl_Mo_77 hP hD hS eB.1 rfl hl.1 ⟨by decide, by decide⟩ ⟨Nat.le_refl _, Nat.le_refl _⟩ rfl (Nat.le_of_ble_eq_true rfl) d_Mo_number_102 (fun w51 H locs hr102 hP hD hS => ?_)
            obtain ⟨hq, eB⟩ := hr102
            have hQ := hQ.tr hq
            refine lv_iload hx hb d_Mo_number_105 (lv_at hl 0 rfl) ?_
            have e9 : mo_num f0 n lo hi t s2 = (v, pp, mo_mark s2 (nI t)) := by rw [mo_num, if_pos c13, hd9, mo_nm2]; show (v, pp, _) = (v, pp, _); rw [if_pos h85]
            exact x_ri E hr hS (by rw [e9]; exact ⟨rfl, hQ, eB, hp9⟩) hP hD d_Mo_number_107
          · have h85 : ¬ pp = t := fun h => c85 (by rw [h])
            refine lv_iload hx hb d_Mo_number_88 (lv_at hl 0 rfl) ?_
            refine lv_iload_n hx hb d_Mo_number_90 rfl (lv_at hl 3 rfl) ?_
            refine lv_icmp_lt (tgt := 100) hx hb d_Mo_number_91 (by decide) (fun c91 => ?_) (fun c91 => ?_)
            · refine lv_aload_n hx hb d_Mo_number_100 rfl (lv_at hl 2 rfl) ?_
              refine lv_iload_n hx hb d_Mo_number_101 rfl (lv_at hl 1 rfl) ?_
              refine x_cVv (As := [.int (nI t)]) (rest := []) E (c_Mo_mark l g b0 _ eB (nI t)) wy_Mo_mark wl_Mo_77 hP hD hS eB.1 rfl hl.1 ⟨by decide, by decide⟩ ⟨Nat.le_refl _, Nat.le_refl _⟩ rfl (Nat.le_of_ble_eq_true rfl) d_Mo_number_102 (fun w51 H locs hr102 hP hD hS => ?_)
              obtain ⟨hq, eB⟩ := hr102
              have hQ := hQ.tr hq
              refine lv_iload hx hb d_Mo_number_105 (lv_at hl 0 rfl) ?_
              have e9 : mo_num f0 n lo hi t s2 = (v, pp, mo_mark s2 (nI t)) := by rw [mo_num, if_pos c13, hd9, mo_nm2]; show (v, pp, _) = (v, pp, _); rw [if_neg h85, if_pos c91]
              exact x_ri E hr hS (by rw [e9]; exact ⟨rfl, hQ, eB, hp9⟩) hP hD d_Mo_number_107
            · refine lv_iload hx hb d_Mo_number_94 (lv_at hl 0 rfl) ?_
              refine lv_iload_n hx hb d_Mo_number_96 rfl (lv_at hl 4 rfl) ?_
              refine lv_icmp_le (tgt := 105) hx hb d_Mo_number_97 (by decide) (fun c97 => ?_) (fun c97 => ?_)
              · refine lv_iload hx hb d_Mo_number_105 (lv_at hl 0 rfl) ?_
                have e9 : mo_num f0 n lo hi t s2 = (v, pp, s2) := by rw [mo_num, if_pos c13, hd9, mo_nm2]; show (v, pp, _) = (v, pp, _); rw [if_neg h85, if_neg c91, if_pos c97]
                exact x_ri E hr hS (by rw [e9]; exact ⟨rfl, hQ, eB, hp9⟩) hP hD d_Mo_number_107
              · refine lv_aload_n hx hb d_Mo_number_100 rfl (lv_at hl 2 rfl) ?_
                refine lv_iload_n hx hb d_Mo_number_101 rfl (lv_at hl 1 rfl) ?_
                refine x_cVv (As := [.int (nI t)]) (rest := []) E (c_Mo_mark l g b0 _ eB (nI t)) wy_Mo_mark wl_Mo_77 hP hD hS eB.1 rfl hl.1 ⟨by decide, by decide⟩ ⟨Nat.le_refl _, Nat.le_refl _⟩ rfl (Nat.le_of_ble_eq_true rfl) d_Mo_number_102 (fun w51 H locs hr102 hP hD hS => ?_)
                obtain ⟨hq, eB⟩ := hr102
                have hQ := hQ.tr hq
                refine lv_iload hx hb d_Mo_number_105 (lv_at hl 0 rfl) ?_
                have e9 : mo_num f0 n lo hi t s2 = (v, pp, mo_mark s2 (nI t)) := by rw [mo_num, if_pos c13, hd9, mo_nm2]; show (v, pp, _) = (v, pp, _); rw [if_neg h85, if_neg c91, if_neg c97]
                exact x_ri E hr hS (by rw [e9]; exact ⟨rfl, hQ, eB, hp9⟩) hP hD d_Mo_number_107
        · have hi9 : i < 4 := by
            have := Nat.not_le.mp fun h => c23 (nI_le h (by omega))
            omega
          have hs9 : 4 - i = (4 - (i + 1)) + 1 := by omega
          refine lv_aload_n hx hb d_Mo_number_26 rfl (lv_at hl 2 rfl) ?_
          refine x_cRi (As := []) (rest := []) E (c_Mo_look l g b0 _ eB (by omega) (by omega)) wy_Mo_look wl_Mo_73 hP hD hS eB.1 rfl hl.1 ⟨by decide, by decide⟩ ⟨Nat.le_refl _, Nat.le_refl _⟩ rfl (Nat.le_of_ble_eq_true rfl) d_Mo_number_27 (fun r27 hr27 => ?_)
          subst hr27
          refine lv_bipush (v := 48) hx hb d_Mo_number_30 (by decide) ?_
          refine lv_icmp_lt (tgt := 72) hx hb d_Mo_number_32 (by decide) (fun c32 => ?_) (fun c32 => ?_)
          · have hd9 : mo_dig f0 n 4 t 0 = (pp, v) := by rw [hv c13, hs9, mo_dig, if_pos c32]
            refine lv_aload_n hx hb d_Mo_number_72 rfl (lv_at hl 2 rfl) ?_
            refine x_get E hP eB.1 rfl cl6_in 3 (by decide) wf_Mo_70 rfl d_Mo_number_73 ?_
            refine lv_iconst (v := (-1)) hx hb d_Mo_number_76 (by decide) ?_
            refine lv_icmp_ne (tgt := 105) hx hb d_Mo_number_77 (by decide) (fun c77 => absurd c13 c77) (fun c77 => ?_)
            refine lv_aload_n hx hb d_Mo_number_80 rfl (lv_at hl 2 rfl) ?_
            refine x_get E hP eB.1 rfl cl6_in 2 (by decide) wf_Mo_67 rfl d_Mo_number_81 ?_
            refine lv_iload_n hx hb d_Mo_number_84 rfl (lv_at hl 1 rfl) ?_
            refine lv_icmp_eq (tgt := 100) hx hb d_Mo_number_85 (by decide) (fun c85 => ?_) (fun c85 => ?_)
            · have h85 : pp = t := (nI_eq (by omega) (by omega)).mp c85
              refine lv_aload_n hx hb d_Mo_number_100 rfl (lv_at hl 2 rfl) ?_
              refine lv_iload_n hx hb d_Mo_number_101 rfl (lv_at hl 1 rfl) ?_
              refine x_cVv (As := [.int (nI t)]) (rest := []) E (c_Mo_mark l g b0 _ eB (nI t)) wy_Mo_mark wl_Mo_77 hP hD hS eB.1 rfl hl.1 ⟨by decide, by decide⟩ ⟨Nat.le_refl _, Nat.le_refl _⟩ rfl (Nat.le_of_ble_eq_true rfl) d_Mo_number_102 (fun w52 H locs hr102 hP hD hS => ?_)
              obtain ⟨hq, eB⟩ := hr102
              have hQ := hQ.tr hq
              refine lv_iload hx hb d_Mo_number_105 (lv_at hl 0 rfl) ?_
              have e9 : mo_num f0 n lo hi t s2 = (v, pp, mo_mark s2 (nI t)) := by rw [mo_num, if_pos c13, hd9, mo_nm2]; show (v, pp, _) = (v, pp, _); rw [if_pos h85]
              exact x_ri E hr hS (by rw [e9]; exact ⟨rfl, hQ, eB, hp9⟩) hP hD d_Mo_number_107
            · have h85 : ¬ pp = t := fun h => c85 (by rw [h])
              refine lv_iload hx hb d_Mo_number_88 (lv_at hl 0 rfl) ?_
              refine lv_iload_n hx hb d_Mo_number_90 rfl (lv_at hl 3 rfl) ?_
              refine lv_icmp_lt (tgt := 100) hx hb d_Mo_number_91 (by decide) (fun c91 => ?_) (fun c91 => ?_)
              · refine lv_aload_n hx hb d_Mo_number_100 rfl (lv_at hl 2 rfl) ?_
                refine lv_iload_n hx hb d_Mo_number_101 rfl (lv_at hl 1 rfl) ?_
                refine x_cVv (As := [.int (nI t)]) (rest := []) E (c_Mo_mark l g b0 _ eB (nI t)) wy_Mo_mark wl_Mo_77 hP hD hS eB.1 rfl hl.1 ⟨by decide, by decide⟩ ⟨Nat.le_refl _, Nat.le_refl _⟩ rfl (Nat.le_of_ble_eq_true rfl) d_Mo_number_102 (fun w52 H locs hr102 hP hD hS => ?_)
                obtain ⟨hq, eB⟩ := hr102
                have hQ := hQ.tr hq
                refine lv_iload hx hb d_Mo_number_105 (lv_at hl 0 rfl) ?_
                have e9 : mo_num f0 n lo hi t s2 = (v, pp, mo_mark s2 (nI t)) := by rw [mo_num, if_pos c13, hd9, mo_nm2]; show (v, pp, _) = (v, pp, _); rw [if_neg h85, if_pos c91]
                exact x_ri E hr hS (by rw [e9]; exact ⟨rfl, hQ, eB, hp9⟩) hP hD d_Mo_number_107
              · refine lv_iload hx hb d_Mo_number_94 (lv_at hl 0 rfl) ?_
                refine lv_iload_n hx hb d_Mo_number_96 rfl (lv_at hl 4 rfl) ?_
                refine lv_icmp_le (tgt := 105) hx hb d_Mo_number_97 (by decide) (fun c97 => ?_) (fun c97 => ?_)
                · refine lv_iload hx hb d_Mo_number_105 (lv_at hl 0 rfl) ?_
                  have e9 : mo_num f0 n lo hi t s2 = (v, pp, s2) := by rw [mo_num, if_pos c13, hd9, mo_nm2]; show (v, pp, _) = (v, pp, _); rw [if_neg h85, if_neg c91, if_pos c97]
                  exact x_ri E hr hS (by rw [e9]; exact ⟨rfl, hQ, eB, hp9⟩) hP hD d_Mo_number_107
                · refine lv_aload_n hx hb d_Mo_number_100 rfl (lv_at hl 2 rfl) ?_
                  refine lv_iload_n hx hb d_Mo_number_101 rfl (lv_at hl 1 rfl) ?_
                  refine x_cVv (As := [.int (nI t)]) (rest := []) E (c_Mo_mark l g b0 _ eB (nI t)) wy_Mo_mark wl_Mo_77 hP hD hS eB.1 rfl hl.1 ⟨by decide, by decide⟩ ⟨Nat.le_refl _, Nat.le_refl _⟩ rfl (Nat.le_of_ble_eq_true rfl) d_Mo_number_102 (fun w52 H locs hr102 hP hD hS => ?_)
                  obtain ⟨hq, eB⟩ := hr102
                  have hQ := hQ.tr hq
                  refine lv_iload hx hb d_Mo_number_105 (lv_at hl 0 rfl) ?_
                  have e9 : mo_num f0 n lo hi t s2 = (v, pp, mo_mark s2 (nI t)) := by rw [mo_num, if_pos c13, hd9, mo_nm2]; show (v, pp, _) = (v, pp, _); rw [if_neg h85, if_neg c91, if_neg c97]
                  exact x_ri E hr hS (by rw [e9]; exact ⟨rfl, hQ, eB, hp9⟩) hP hD d_Mo_number_107
          · refine lv_aload_n hx hb d_Mo_number_35 rfl (lv_at hl 2 rfl) ?_
            refine x_cRi (As := []) (rest := []) E (c_Mo_look l g b0 _ eB (by omega) (by omega)) wy_Mo_look wl_Mo_73 hP hD hS eB.1 rfl hl.1 ⟨by decide, by decide⟩ ⟨Nat.le_refl _, Nat.le_refl _⟩ rfl (Nat.le_of_ble_eq_true rfl) d_Mo_number_36 (fun r36 hr36 => ?_)
            subst hr36
            refine lv_bipush (v := 57) hx hb d_Mo_number_39 (by decide) ?_
            refine lv_icmp_gt (tgt := 72) hx hb d_Mo_number_41 (by decide) (fun c41 => ?_) (fun c41 => ?_)
            · have hd9 : mo_dig f0 n 4 t 0 = (pp, v) := by rw [hv c13, hs9, mo_dig, if_neg c32, if_pos c41]
              refine lv_aload_n hx hb d_Mo_number_72 rfl (lv_at hl 2 rfl) ?_
              refine x_get E hP eB.1 rfl cl6_in 3 (by decide) wf_Mo_70 rfl d_Mo_number_73 ?_
              refine lv_iconst (v := (-1)) hx hb d_Mo_number_76 (by decide) ?_
              refine lv_icmp_ne (tgt := 105) hx hb d_Mo_number_77 (by decide) (fun c77 => absurd c13 c77) (fun c77 => ?_)
              refine lv_aload_n hx hb d_Mo_number_80 rfl (lv_at hl 2 rfl) ?_
              refine x_get E hP eB.1 rfl cl6_in 2 (by decide) wf_Mo_67 rfl d_Mo_number_81 ?_
              refine lv_iload_n hx hb d_Mo_number_84 rfl (lv_at hl 1 rfl) ?_
              refine lv_icmp_eq (tgt := 100) hx hb d_Mo_number_85 (by decide) (fun c85 => ?_) (fun c85 => ?_)
              · have h85 : pp = t := (nI_eq (by omega) (by omega)).mp c85
                refine lv_aload_n hx hb d_Mo_number_100 rfl (lv_at hl 2 rfl) ?_
                refine lv_iload_n hx hb d_Mo_number_101 rfl (lv_at hl 1 rfl) ?_
                refine x_cVv (As := [.int (nI t)]) (rest := []) E (c_Mo_mark l g b0 _ eB (nI t)) wy_Mo_mark wl_Mo_77 hP hD hS eB.1 rfl hl.1 ⟨by decide, by decide⟩ ⟨Nat.le_refl _, Nat.le_refl _⟩ rfl (Nat.le_of_ble_eq_true rfl) d_Mo_number_102 (fun w53 H locs hr102 hP hD hS => ?_)
                obtain ⟨hq, eB⟩ := hr102
                have hQ := hQ.tr hq
                refine lv_iload hx hb d_Mo_number_105 (lv_at hl 0 rfl) ?_
                have e9 : mo_num f0 n lo hi t s2 = (v, pp, mo_mark s2 (nI t)) := by rw [mo_num, if_pos c13, hd9, mo_nm2]; show (v, pp, _) = (v, pp, _); rw [if_pos h85]
                exact x_ri E hr hS (by rw [e9]; exact ⟨rfl, hQ, eB, hp9⟩) hP hD d_Mo_number_107
              · have h85 : ¬ pp = t := fun h => c85 (by rw [h])
                refine lv_iload hx hb d_Mo_number_88 (lv_at hl 0 rfl) ?_
                refine lv_iload_n hx hb d_Mo_number_90 rfl (lv_at hl 3 rfl) ?_
                refine lv_icmp_lt (tgt := 100) hx hb d_Mo_number_91 (by decide) (fun c91 => ?_) (fun c91 => ?_)
                · refine lv_aload_n hx hb d_Mo_number_100 rfl (lv_at hl 2 rfl) ?_
                  refine lv_iload_n hx hb d_Mo_number_101 rfl (lv_at hl 1 rfl) ?_
                  refine x_cVv (As := [.int (nI t)]) (rest := []) E (c_Mo_mark l g b0 _ eB (nI t)) wy_Mo_mark wl_Mo_77 hP hD hS eB.1 rfl hl.1 ⟨by decide, by decide⟩ ⟨Nat.le_refl _, Nat.le_refl _⟩ rfl (Nat.le_of_ble_eq_true rfl) d_Mo_number_102 (fun w53 H locs hr102 hP hD hS => ?_)
                  obtain ⟨hq, eB⟩ := hr102
                  have hQ := hQ.tr hq
                  refine lv_iload hx hb d_Mo_number_105 (lv_at hl 0 rfl) ?_
                  have e9 : mo_num f0 n lo hi t s2 = (v, pp, mo_mark s2 (nI t)) := by rw [mo_num, if_pos c13, hd9, mo_nm2]; show (v, pp, _) = (v, pp, _); rw [if_neg h85, if_pos c91]
                  exact x_ri E hr hS (by rw [e9]; exact ⟨rfl, hQ, eB, hp9⟩) hP hD d_Mo_number_107
                · refine lv_iload hx hb d_Mo_number_94 (lv_at hl 0 rfl) ?_
                  refine lv_iload_n hx hb d_Mo_number_96 rfl (lv_at hl 4 rfl) ?_
                  refine lv_icmp_le (tgt := 105) hx hb d_Mo_number_97 (by decide) (fun c97 => ?_) (fun c97 => ?_)
                  · refine lv_iload hx hb d_Mo_number_105 (lv_at hl 0 rfl) ?_
                    have e9 : mo_num f0 n lo hi t s2 = (v, pp, s2) := by rw [mo_num, if_pos c13, hd9, mo_nm2]; show (v, pp, _) = (v, pp, _); rw [if_neg h85, if_neg c91, if_pos c97]
                    exact x_ri E hr hS (by rw [e9]; exact ⟨rfl, hQ, eB, hp9⟩) hP hD d_Mo_number_107
                  · refine lv_aload_n hx hb d_Mo_number_100 rfl (lv_at hl 2 rfl) ?_
                    refine lv_iload_n hx hb d_Mo_number_101 rfl (lv_at hl 1 rfl) ?_
                    refine x_cVv (As := [.int (nI t)]) (rest := []) E (c_Mo_mark l g b0 _ eB (nI t)) wy_Mo_mark wl_Mo_77 hP hD hS eB.1 rfl hl.1 ⟨by decide, by decide⟩ ⟨Nat.le_refl _, Nat.le_refl _⟩ rfl (Nat.le_of_ble_eq_true rfl) d_Mo_number_102 (fun w53 H locs hr102 hP hD hS => ?_)
                    obtain ⟨hq, eB⟩ := hr102
                    have hQ := hQ.tr hq
                    refine lv_iload hx hb d_Mo_number_105 (lv_at hl 0 rfl) ?_
                    have e9 : mo_num f0 n lo hi t s2 = (v, pp, mo_mark s2 (nI t)) := by rw [mo_num, if_pos c13, hd9, mo_nm2]; show (v, pp, _) = (v, pp, _); rw [if_neg h85, if_neg c91, if_neg c97]
                    exact x_ri E hr hS (by rw [e9]; exact ⟨rfl, hQ, eB, hp9⟩) hP hD d_Mo_number_107
            · have hp8 : pp < n := mo_look_lt (fun h => c32 (by rw [h]; decide))
              refine lv_bipush (v := 10) hx hb d_Mo_number_44 (by decide) ?_
              refine lv_iload hx hb d_Mo_number_46 (lv_at hl 0 rfl) ?_
              refine lv_imul hx hb d_Mo_number_48 ?_
              refine lv_aload_n hx hb d_Mo_number_49 rfl (lv_at hl 2 rfl) ?_
              refine x_cRi (As := []) (rest := [.int (10 * v)]) E (c_Mo_look l g b0 _ eB (by omega) (by omega)) wy_Mo_look wl_Mo_73 hP hD hS eB.1 rfl hl.1 ⟨by decide, by decide⟩ ⟨Nat.le_refl _, Nat.le_refl _⟩ rfl (Nat.le_of_ble_eq_true rfl) d_Mo_number_50 (fun r50 hr50 => ?_)
              subst hr50
              refine lv_iadd hx hb d_Mo_number_53 ?_
              refine lv_bipush (v := 48) hx hb d_Mo_number_54 (by decide) ?_
              refine lv_isub hx hb d_Mo_number_56 ?_
              refine lv_istore (lv' := [(4, .int (((10 * v) + (mo_look f0 n pp)) - 48)), (3, .int (nI t)), (0, .ref h), (1, .int lo), (2, .int hi)]) hx hb d_Mo_number_57 hl (by decide) rfl (fun ls hl => ?_)
              refine lv_aload_n hx hb d_Mo_number_59 rfl (lv_at hl 2 rfl) ?_
              refine lv_dup hx hb d_Mo_number_60 rfl ?_
              refine x_get E hP eB.1 rfl cl6_in 2 (by decide) wf_Mo_67 rfl d_Mo_number_61 ?_
              refine lv_iconst (v := 1) hx hb d_Mo_number_64 (by decide) ?_
              refine lv_iadd hx hb d_Mo_number_65 ?_
              refine x_top (y := nI (pp + 1)) (nI_1 pp) ?_
              refine x_put E hP hD hS eB.1 rfl cl6_in cl6_ty cl6_nm 2 (by decide) wf_Mo_67 rfl rfl rfl (Nat.le_of_ble_eq_true rfl) d_Mo_number_66 (fun w54 H locs hU54 hP hD hS => ?_)
              have eB : xMo g w54 q h ad (nI n) (nI (pp + 1)) s2 s3 s4 s5 s6 f0 f1 f2 f3 f4 f5 f6 f7 f8 f9 f10 f11 f12 f13 f14 f15 f16 := eB.t1 hU54
              have hQ := hQ.up hU54 (by omega)
              refine lv_goto (tgt := 8) hx hb d_Mo_number_69 (by decide) ?_
              exact ih (i + 1) (pp + 1) (10 * v + mo_look f0 n pp - 48) _ _ _ _ (by omega) (by omega) (by omega) (by omega) (fun _ => by rw [hv c13, hs9, mo_dig, if_neg c32, if_neg c41]) (fun h => absurd c13 h) hl hP hD hS hQ eB
  exact loop 5 0 t 0 _ _ _ _ (by omega) (by omega) rfl hp (fun _ => rfl) (fun _ => ⟨rfl, rfl⟩) hl hP hD hS hQ eB
def mo_kind (x : Int32) : Int32 := if x = 70 then 0 else if x = 66 then 1 else if x = 82 then 2 else if x = 71 then 3 else if x = 83 then 4 else -1
set_option maxRecDepth 100000 in
set_option maxHeartbeats 4000000 in
theorem c_Mo_kindOf (l : Launch) (g : xG) (b0 : Nat) (ws : va_W) (x : Int32) : xRi l g b0 y_Mo_kindOf b_Mo_kindOf 1 (some .int) 0 [.int x] ws (fun r => r = mo_kind x) := by
  unfold xRi
  refine x_in (by decide) (Nat.le_of_ble_eq_true rfl) ?_
  intro p e s m below meth c ls E hr hin hP hD hl
  obtain ⟨hx, hb, hml, hown, hts, hK, hZ, hb0, hlocks⟩ := id E
  have hS : va_S (xA b0) s.heap s.heap [] := va_S.rf
  have hl : lv_has ls 1 [(0, .int x)] := hl
  refine lv_iload_n hx hb d_Mo_kindOf_0 rfl (lv_at hl 0 rfl) ?_
  refine lv_bipush (v := 70) hx hb d_Mo_kindOf_1 (by decide) ?_
  refine lv_icmp_ne (tgt := 10) hx hb d_Mo_kindOf_3 (by decide) (fun c3 => ?_) (fun c3 => ?_)
  · refine lv_iload_n hx hb d_Mo_kindOf_10 rfl (lv_at hl 0 rfl) ?_
    refine lv_bipush (v := 66) hx hb d_Mo_kindOf_11 (by decide) ?_
    refine lv_icmp_ne (tgt := 20) hx hb d_Mo_kindOf_13 (by decide) (fun c13 => ?_) (fun c13 => ?_)
    · refine lv_iload_n hx hb d_Mo_kindOf_20 rfl (lv_at hl 0 rfl) ?_
      refine lv_bipush (v := 82) hx hb d_Mo_kindOf_21 (by decide) ?_
      refine lv_icmp_ne (tgt := 30) hx hb d_Mo_kindOf_23 (by decide) (fun c23 => ?_) (fun c23 => ?_)
      · refine lv_iload_n hx hb d_Mo_kindOf_30 rfl (lv_at hl 0 rfl) ?_
        refine lv_bipush (v := 71) hx hb d_Mo_kindOf_31 (by decide) ?_
        refine lv_icmp_ne (tgt := 40) hx hb d_Mo_kindOf_33 (by decide) (fun c33 => ?_) (fun c33 => ?_)
        · refine lv_iload_n hx hb d_Mo_kindOf_40 rfl (lv_at hl 0 rfl) ?_
          refine lv_bipush (v := 83) hx hb d_Mo_kindOf_41 (by decide) ?_
          refine lv_icmp_ne (tgt := 50) hx hb d_Mo_kindOf_43 (by decide) (fun c43 => ?_) (fun c43 => ?_)
          · refine lv_iconst (v := (-1)) hx hb d_Mo_kindOf_50 (by decide) ?_
            exact x_pi E hr (by rw [mo_kind, if_neg c3, if_neg c13, if_neg c23, if_neg c33, if_neg c43]) d_Mo_kindOf_51
          · refine lv_iconst (v := 4) hx hb d_Mo_kindOf_46 (by decide) ?_
            refine lv_goto (tgt := 51) hx hb d_Mo_kindOf_47 (by decide) ?_
            exact x_pi E hr (by rw [mo_kind, if_neg c3, if_neg c13, if_neg c23, if_neg c33, if_pos c43]) d_Mo_kindOf_51
        · refine lv_iconst (v := 3) hx hb d_Mo_kindOf_36 (by decide) ?_
          refine lv_goto (tgt := 51) hx hb d_Mo_kindOf_37 (by decide) ?_
          exact x_pi E hr (by rw [mo_kind, if_neg c3, if_neg c13, if_neg c23, if_pos c33]) d_Mo_kindOf_51
      · refine lv_iconst (v := 2) hx hb d_Mo_kindOf_26 (by decide) ?_
        refine lv_goto (tgt := 51) hx hb d_Mo_kindOf_27 (by decide) ?_
        exact x_pi E hr (by rw [mo_kind, if_neg c3, if_neg c13, if_pos c23]) d_Mo_kindOf_51
    · refine lv_iconst (v := 1) hx hb d_Mo_kindOf_16 (by decide) ?_
      refine lv_goto (tgt := 51) hx hb d_Mo_kindOf_17 (by decide) ?_
      exact x_pi E hr (by rw [mo_kind, if_neg c3, if_pos c13]) d_Mo_kindOf_51
  · refine lv_iconst (v := 0) hx hb d_Mo_kindOf_6 (by decide) ?_
    refine lv_goto (tgt := 51) hx hb d_Mo_kindOf_7 (by decide) ?_
    exact x_pi E hr (by rw [mo_kind, if_pos c3]) d_Mo_kindOf_51
set_option maxRecDepth 100000 in
set_option maxHeartbeats 4000000 in
theorem c_Mo_way (l : Launch) (g : xG) (b0 : Nat) (ws : va_W) {q h : Nat} {ad : Nat → Nat} {s2 s4 s5 s6 : Int32} {f0 f1 f2 f3 f4 f5 f6 f7 f8 f9 f10 f11 f12 f13 f14 f16 : Nat → Int32} {f15 : Nat → Int64} {n t k : Nat} (eB : xMo g ws q h ad (nI n) (nI t) s2 (nI k) s4 s5 s6 f0 f1 f2 f3 f4 f5 f6 f7 f8 f9 f10 f11 f12 f13 f14 f15 f16) (hn : n ≤ 300) (hp : t ≤ n) (hk : k < 24) (x : Int32) (j : Nat) (hx0 : x = nI j) (hj : j < 2) : xMv l g b0 y_Mo_way b_Mo_way 2 2 [.ref h, .int x] ws (fun u => xQ q (q + 18) ws u ∧ xMo g u q h ad (nI n) (nI (mo_num f0 n 0 29 t s2).2.1) ((mo_num f0 n 0 29 t s2).2.2) (nI k) s4 s5 s6 f0 f1 f2 f3 f4 (upd f5 (2 * k + j) (mo_num f0 n 0 29 t s2).1) f6 f7 f8 f9 f10 f11 f12 f13 f14 f15 f16 ∧ (mo_num f0 n 0 29 t s2).2.1 ≤ n) := by
  unfold xMv
  refine x_in (by decide) (Nat.le_of_ble_eq_true rfl) ?_
  intro p e s m below meth c ls E hr hin hP hD hl
  obtain ⟨hx, hb, hml, hown, hts, hK, hZ, hb0, hlocks⟩ := id E
  have hS : va_S (xA b0) s.heap s.heap [] := va_S.rf
  have hl : lv_has ls 2 [(0, .ref h), (1, .int x)] := hl
  have hQ : xQ q (q + 18) ws ws := xQ.rf
  refine lv_aload_n hx hb d_Mo_way_0 rfl (lv_at hl 0 rfl) ?_
  refine x_get E hP eB.1 rfl cl6_in 9 (by decide) wf_Mo_25 rfl d_Mo_way_1 ?_
  refine lv_iconst (v := 2) hx hb d_Mo_way_4 (by decide) ?_
  refine lv_aload_n hx hb d_Mo_way_5 rfl (lv_at hl 0 rfl) ?_
  refine x_get E hP eB.1 rfl cl6_in 4 (by decide) wf_Mo_81 rfl d_Mo_way_6 ?_
  refine lv_imul hx hb d_Mo_way_9 ?_
  refine lv_iload_n hx hb d_Mo_way_10 rfl (lv_at hl 1 rfl) ?_
  refine lv_iadd hx hb d_Mo_way_11 ?_
  refine x_top (y := nI (2 * k + j)) (by rw [hx0]; exact (congrArg (· + nI j) (pk_mul 2 k)).trans (nI_add (2 * k) j)) ?_
  refine lv_aload_n hx hb d_Mo_way_12 rfl (lv_at hl 0 rfl) ?_
  refine lv_iconst (v := 0) hx hb d_Mo_way_13 (by decide) ?_
  refine lv_bipush (v := 29) hx hb d_Mo_way_14 (by decide) ?_
  refine x_cVi (As := [.int 0, .int 29]) (rest := [.int (nI (2 * k + j)), .ref (ad 5)]) E (c_Mo_number l g b0 _ eB hn hp 0 29) wy_Mo_number wl_Mo_84 hP hD hS eB.1 rfl hl.1 ⟨by decide, by decide⟩ ⟨Nat.le_refl _, Nat.le_refl _⟩ rfl (Nat.le_of_ble_eq_true rfl) d_Mo_way_16 (fun r16 w1 H locs hr16 hP hD hS => ?_)
  obtain ⟨rfl, hq, eB, hp⟩ := hr16
  have hQ := hQ.tr hq
  refine x_iast E hP hD hS eB.2.2.2.2.2.2.1 (j := 2 * k + j) rfl (by omega) (by decide) d_Mo_way_19 (fun w2 H locs hU2 hP hD hS => ?_)
  have eB : xMo g w2 q h ad (nI n) (nI (mo_num f0 n 0 29 t s2).2.1) ((mo_num f0 n 0 29 t s2).2.2) (nI k) s4 s5 s6 f0 f1 f2 f3 f4 (upd f5 (2 * k + j) ((mo_num f0 n 0 29 t s2).1)) f6 f7 f8 f9 f10 f11 f12 f13 f14 f15 f16 := eB.a5 hU2
  have hQ := hQ.up hU2 (by omega)
  exact x_rv E hr hS ⟨hQ, eB, hp⟩ hP hD d_Mo_way_20
end
section
abbrev md_F : Type := (Nat → Int32) × (Nat → Int32) × (Nat → Int32) × (Nat → Int32) × (Nat → Int32)
/-- place, wrong, draft, the draft's rows -/
abbrev md_S : Type := Nat × Int32 × Nat × md_F
def md_w (k j : Nat) (F : md_F) (v : Int32) : md_F := (F.1, F.2.1, F.2.2.1, F.2.2.2.1, upd F.2.2.2.2 (2 * k + j) v)
def md_q7 (f : Nat → Int32) (n k : Nat) (F : md_F) (b : Nat × Int32) : md_S := ((mo_take f n 59 b.1 b.2).1, (mo_take f n 59 b.1 b.2).2, k + 1, F)
def md_nw (f : Nat → Int32) (n k j : Nat) (F : md_F) (h : md_F → Nat × Int32 → md_S) (b : Nat × Int32) : md_S := h (md_w k j F (mo_num f n 0 29 b.1 b.2).1) (mo_num f n 0 29 b.1 b.2).2
def md_q6 (f : Nat → Int32) (n k : Nat) (kd : Int32) (F : md_F) (b : Nat × Int32) : md_S := if kd = 3 then md_nw f n k 1 F (md_q7 f n k) (mo_take f n 44 b.1 b.2) else md_q7 f n k F b
def md_q5 (f : Nat → Int32) (n k : Nat) (kd : Int32) (F : md_F) (b : Nat × Int32) : md_S := if 4 ≤ kd then md_q6 f n k kd F b else md_nw f n k 0 F (md_q6 f n k kd) (mo_take f n 62 b.1 b.2)
def md_ns (f : Nat → Int32) (n k : Nat) (F : md_F) (h : md_F → Nat × Int32 → md_S) (b : Nat × Int32) : md_S := h (F.1, F.2.1, F.2.2.1, upd F.2.2.2.1 k (mo_num f n 1 9999 b.1 b.2).1, F.2.2.2.2) (mo_num f n 1 9999 b.1 b.2).2
def md_q4 (f : Nat → Int32) (n k : Nat) (kd : Int32) (F : md_F) (b : Nat × Int32) : md_S := if kd = 1 then md_ns f n k F (md_q5 f n k kd) (mo_take f n 44 b.1 b.2) else md_q5 f n k kd F b
def md_lo (kd : Int32) : Int32 := if kd = 2 then 0 else if kd = 3 then 0 else 1
def md_hi (kd : Int32) : Int32 := if kd = 4 then 999 else 9999
def md_put (k : Nat) (kd nm v : Int32) (F : md_F) : md_F := (upd F.1 k kd, upd F.2.1 k nm, upd F.2.2.1 k v, upd F.2.2.2.1 k (-1), upd (upd F.2.2.2.2 (2 * k) (-1)) (2 * k + 1) (-1))
def md_q3 (f : Nat → Int32) (n k : Nat) (kd nm : Int32) (F : md_F) (b : Nat × Int32) : md_S := md_q4 f n k kd (md_put k kd nm (mo_num f n (md_lo kd) (md_hi kd) b.1 b.2).1 F) (mo_num f n (md_lo kd) (md_hi kd) b.1 b.2).2
def md_dup (g2 : Nat → Int32) (nm : Int32) (p : Nat) (i : Nat) (w : Int32) : Int32 := if w = -1 then (if g2 i = nm then mo_mark w (nI p) else w) else w
def md_q2 (f : Nat → Int32) (n k : Nat) (kd : Int32) (F : md_F) (p : Nat) (a : Int32 × Nat × Int32) : md_S := md_q3 f n k kd a.1 F (mo_take f n 61 a.2.1 (it (md_dup F.2.1 a.1 p) k a.2.2))
def md_q1 (f : Nat → Int32) (n k : Nat) (kd : Int32) (F : md_F) (p : Nat) (wr : Int32) : md_S := md_q2 f n k kd F p (mo_num f n 0 29 p wr)
def md_step (f : Nat → Int32) (n : Nat) (z : md_S) : md_S := if z.2.2.1 = 24 then (z.1, mo_mark z.2.1 (nI z.1), z.2.2) else if mo_kind (mo_look f n z.1) = -1 then (z.1, mo_mark z.2.1 (nI z.1), z.2.2) else md_q1 f n z.2.2.1 (mo_kind (mo_look f n z.1)) z.2.2.2 (z.1 + 1) z.2.1
theorem mo_kind_in (x : Int32) : mo_kind x = -1 ∨ mo_kind x = 0 ∨ mo_kind x = 1 ∨ mo_kind x = 2 ∨ mo_kind x = 3 ∨ mo_kind x = 4 := by
  unfold mo_kind
  split
  · exact Or.inr (Or.inl rfl)
  · split
    · exact Or.inr (Or.inr (Or.inl rfl))
    · split
      · exact Or.inr (Or.inr (Or.inr (Or.inl rfl)))
      · split
        · exact Or.inr (Or.inr (Or.inr (Or.inr (Or.inl rfl))))
        · split
          · exact Or.inr (Or.inr (Or.inr (Or.inr (Or.inr rfl))))
          · exact Or.inl rfl
theorem mo_kind_0 : mo_kind 0 = -1 := by decide
set_option maxRecDepth 100000 in
set_option maxHeartbeats 4000000 in
theorem c_Mo_readPart (l : Launch) (g : xG) (b0 : Nat) (ws : va_W) {q h : Nat} {ad : Nat → Nat} {s2 s4 s5 s6 : Int32} {f0 f1 f2 f3 f4 f5 f6 f7 f8 f9 f10 f11 f12 f13 f14 f16 : Nat → Int32} {f15 : Nat → Int64} {n t k : Nat} (eB : xMo g ws q h ad (nI n) (nI t) s2 (nI k) s4 s5 s6 f0 f1 f2 f3 f4 f5 f6 f7 f8 f9 f10 f11 f12 f13 f14 f15 f16) (hn : n ≤ 300) (hp : t ≤ n) (hk : k ≤ 24) : xMv l g b0 y_Mo_readPart b_Mo_readPart 5 3 [.ref h] ws (fun u => xQ q (q + 18) ws u ∧ xMo g u q h ad (nI n) (nI (md_step f0 n (t, s2, k, f1, f2, f3, f4, f5)).1) ((md_step f0 n (t, s2, k, f1, f2, f3, f4, f5)).2.1) (nI (md_step f0 n (t, s2, k, f1, f2, f3, f4, f5)).2.2.1) s4 s5 s6 f0 ((md_step f0 n (t, s2, k, f1, f2, f3, f4, f5)).2.2.2.1) ((md_step f0 n (t, s2, k, f1, f2, f3, f4, f5)).2.2.2.2.1) ((md_step f0 n (t, s2, k, f1, f2, f3, f4, f5)).2.2.2.2.2.1) ((md_step f0 n (t, s2, k, f1, f2, f3, f4, f5)).2.2.2.2.2.2.1) ((md_step f0 n (t, s2, k, f1, f2, f3, f4, f5)).2.2.2.2.2.2.2) f6 f7 f8 f9 f10 f11 f12 f13 f14 f15 f16 ∧ (md_step f0 n (t, s2, k, f1, f2, f3, f4, f5)).1 ≤ n) := by
  unfold xMv
  refine x_in (by decide) (Nat.le_of_ble_eq_true rfl) ?_
  intro p e s m below meth c ls E hr hin hP hD hl
  obtain ⟨hx, hb, hml, hown, hts, hK, hZ, hb0, hlocks⟩ := id E
  have hS : va_S (xA b0) s.heap s.heap [] := va_S.rf
  have hl : lv_has ls 5 [(0, .ref h)] := hl
  have hQ : xQ q (q + 18) ws ws := xQ.rf
  refine lv_aload_n hx hb d_Mo_readPart_0 rfl (lv_at hl 0 rfl) ?_
  refine x_cRi (As := []) (rest := []) E (c_Mo_look l g b0 _ eB (by omega) (by omega)) wy_Mo_look wl_Mo_73 hP hD hS eB.1 rfl hl.1 ⟨by decide, by decide⟩ ⟨Nat.le_refl _, Nat.le_refl _⟩ rfl (Nat.le_of_ble_eq_true rfl) d_Mo_readPart_1 (fun r1 hr1 => ?_)
  subst hr1
  refine x_cSi (As := [.int (mo_look f0 n t)]) (rest := []) E (c_Mo_kindOf l g b0 _ (mo_look f0 n t)) wy_Mo_kindOf wl_Mo_88 hP hD hS hl.1 ⟨by decide, by decide⟩ ⟨Nat.le_refl _, Nat.le_refl _⟩ rfl (Nat.le_of_ble_eq_true rfl) d_Mo_readPart_4 (fun r4 hr4 => ?_)
  subst hr4
  refine lv_istore_n (lv' := [(1, .int (mo_kind (mo_look f0 n t))), (0, .ref h)]) hx hb d_Mo_readPart_7 rfl hl (by decide) rfl (fun ls hl => ?_)
  refine lv_aload_n hx hb d_Mo_readPart_8 rfl (lv_at hl 1 rfl) ?_
  refine x_get E hP eB.1 rfl cl6_in 4 (by decide) wf_Mo_81 rfl d_Mo_readPart_9 ?_
  refine lv_bipush (v := 24) hx hb d_Mo_readPart_12 (by decide) ?_
  refine lv_icmp_eq (tgt := 22) hx hb d_Mo_readPart_14 (by decide) (fun c14 => ?_) (fun c14 => ?_)
  · have h14 : k = 24 := (nI_eq (b := 24) (by omega) (by decide)).mp c14
    refine lv_aload_n hx hb d_Mo_readPart_22 rfl (lv_at hl 1 rfl) ?_
    refine lv_aload_n hx hb d_Mo_readPart_23 rfl (lv_at hl 1 rfl) ?_
    refine x_get E hP eB.1 rfl cl6_in 2 (by decide) wf_Mo_67 rfl d_Mo_readPart_24 ?_
    refine x_cVv (As := [.int (nI t)]) (rest := []) E (c_Mo_mark l g b0 _ eB (nI t)) wy_Mo_mark wl_Mo_77 hP hD hS eB.1 rfl hl.1 ⟨by decide, by decide⟩ ⟨Nat.le_refl _, Nat.le_refl _⟩ rfl (Nat.le_of_ble_eq_true rfl) d_Mo_readPart_27 (fun w2 H locs hr27 hP hD hS => ?_)
    obtain ⟨hq, eB⟩ := hr27
    have hQ := hQ.tr hq
    refine x_rv E hr hS ⟨hQ, ?_⟩ hP hD d_Mo_readPart_30
    generalize hX9 : md_step f0 n (t, s2, k, f1, f2, f3, f4, f5) = Y9
    rw [md_step, if_pos (show (t, s2, k, f1, f2, f3, f4, f5).2.2.1 = 24 from h14)] at hX9
    subst hX9
    exact ⟨eB, hp⟩
  · have h14 : ¬ k = 24 := fun h => c14 (by rw [h]; decide)
    have hk24 := h14
    have hk9 : k < 24 := by omega
    refine lv_iload_n hx hb d_Mo_readPart_17 rfl (lv_at hl 0 rfl) ?_
    refine lv_iconst (v := (-1)) hx hb d_Mo_readPart_18 (by decide) ?_
    refine lv_icmp_ne (tgt := 31) hx hb d_Mo_readPart_19 (by decide) (fun c19 => ?_) (fun c19 => ?_)
    · have hk1 := c19
      have hp : t + 1 ≤ n := mo_look_lt (fun h => c19 (by rw [h, mo_kind_0]))
      refine lv_aload_n hx hb d_Mo_readPart_31 rfl (lv_at hl 1 rfl) ?_
      refine lv_dup hx hb d_Mo_readPart_32 rfl ?_
      refine x_get E hP eB.1 rfl cl6_in 2 (by decide) wf_Mo_67 rfl d_Mo_readPart_33 ?_
      refine lv_iconst (v := 1) hx hb d_Mo_readPart_36 (by decide) ?_
      refine lv_iadd hx hb d_Mo_readPart_37 ?_
      refine x_top (y := nI (t + 1)) (nI_1 t) ?_
      refine x_put E hP hD hS eB.1 rfl cl6_in cl6_ty cl6_nm 2 (by decide) wf_Mo_67 rfl rfl rfl (Nat.le_of_ble_eq_true rfl) d_Mo_readPart_38 (fun w2 H locs hU2 hP hD hS => ?_)
      have eB : xMo g w2 q h ad (nI n) (nI (t + 1)) s2 (nI k) s4 s5 s6 f0 f1 f2 f3 f4 f5 f6 f7 f8 f9 f10 f11 f12 f13 f14 f15 f16 := eB.t1 hU2
      have hQ := hQ.up hU2 (by omega)
      refine lv_aload_n hx hb d_Mo_readPart_41 rfl (lv_at hl 1 rfl) ?_
      refine x_get E hP eB.1 rfl cl6_in 2 (by decide) wf_Mo_67 rfl d_Mo_readPart_42 ?_
      refine lv_istore_n (lv' := [(2, .int (nI (t + 1))), (1, .int (mo_kind (mo_look f0 n t))), (0, .ref h)]) hx hb d_Mo_readPart_45 rfl hl (by decide) rfl (fun ls hl => ?_)
      refine lv_aload_n hx hb d_Mo_readPart_46 rfl (lv_at hl 2 rfl) ?_
      refine lv_iconst (v := 0) hx hb d_Mo_readPart_47 (by decide) ?_
      refine lv_bipush (v := 29) hx hb d_Mo_readPart_48 (by decide) ?_
      refine x_cVi (As := [.int 0, .int 29]) (rest := []) E (c_Mo_number l g b0 _ eB hn hp 0 29) wy_Mo_number wl_Mo_84 hP hD hS eB.1 rfl hl.1 ⟨by decide, by decide⟩ ⟨Nat.le_refl _, Nat.le_refl _⟩ rfl (Nat.le_of_ble_eq_true rfl) d_Mo_readPart_50 (fun r50 w3 H locs hr50 hP hD hS => ?_)
      obtain ⟨rfl, hq, eB, hp⟩ := hr50
      have hQ := hQ.tr hq
      generalize hN50 : mo_num f0 n 0 29 (t + 1) s2 = N50 at eB hp ⊢
      refine lv_istore_n (lv' := [(3, .int N50.1), (2, .int (nI (t + 1))), (1, .int (mo_kind (mo_look f0 n t))), (0, .ref h)]) hx hb d_Mo_readPart_53 rfl hl (by decide) rfl (fun ls hl => ?_)
      refine lv_iconst (v := 0) hx hb d_Mo_readPart_54 (by decide) ?_
      refine lv_istore (lv' := [(4, .int 0), (3, .int N50.1), (2, .int (nI (t + 1))), (1, .int (mo_kind (mo_look f0 n t))), (0, .ref h)]) hx hb d_Mo_readPart_55 hl (by decide) rfl (fun ls hl => ?_)
      have loop : ∀ (fu i : Nat) (W9 : Int32) (v9 : va_W) (H : Heap) (locs : List Loc) (ls : Array Slot), (k < i + fu) → (i ≤ k) → (W9 = it (md_dup f2 N50.1 (t + 1)) i N50.2.2) → (lv_has ls 5 [(4, .int (nI i)), (3, .int N50.1), (2, .int (nI (t + 1))), (1, .int (mo_kind (mo_look f0 n t))), (0, .ref h)]) → (va_P (xD g) vwCl v9 H) → (va_D (xA b0) v9) → (va_S (xA b0) s.heap H locs) → (xQ q (q + 18) ws v9) → (xMo g v9 q h ad (nI n) (nI N50.2.1) W9 (nI k) s4 s5 s6 f0 f1 f2 f3 f4 f5 f6 f7 f8 f9 f10 f11 f12 f13 f14 f15 f16) → W p l e (rmL 3) s m ([.ref h] : List Value).toArray below meth c H locs 0 0 (MQ below (va_Qv (fun u => xQ q (q + 18) ws u ∧ xMo g u q h ad (nI n) (nI (md_step f0 n (t, s2, k, f1, f2, f3, f4, f5)).1) ((md_step f0 n (t, s2, k, f1, f2, f3, f4, f5)).2.1) (nI (md_step f0 n (t, s2, k, f1, f2, f3, f4, f5)).2.2.1) s4 s5 s6 f0 ((md_step f0 n (t, s2, k, f1, f2, f3, f4, f5)).2.2.2.1) ((md_step f0 n (t, s2, k, f1, f2, f3, f4, f5)).2.2.2.2.1) ((md_step f0 n (t, s2, k, f1, f2, f3, f4, f5)).2.2.2.2.2.1) ((md_step f0 n (t, s2, k, f1, f2, f3, f4, f5)).2.2.2.2.2.2.1) ((md_step f0 n (t, s2, k, f1, f2, f3, f4, f5)).2.2.2.2.2.2.2) f6 f7 f8 f9 f10 f11 f12 f13 f14 f15 f16 ∧ (md_step f0 n (t, s2, k, f1, f2, f3, f4, f5)).1 ≤ n) (fun u t => va_P (xD g) vwCl u t.heap ∧ va_D (xA b0) u) (xA b0)) ([.ref h] : List Value).toArray s 0 0 (xA b0)) (F0 m 57 ls []) := by
        intro fu
        induction fu with
        | zero =>
          intro i W9 v9 H locs ls hk hi hW hl hP hD hS hQ eB
          omega
        | succ fu ih =>
          intro i W9 v9 H locs ls hk hi hW hl hP hD hS hQ eB
          refine lv_iload hx hb d_Mo_readPart_57 (lv_at hl 0 rfl) ?_
          refine lv_aload_n hx hb d_Mo_readPart_59 rfl (lv_at hl 4 rfl) ?_
          refine x_get E hP eB.1 rfl cl6_in 4 (by decide) wf_Mo_81 rfl d_Mo_readPart_60 ?_
          refine lv_icmp_ge (tgt := 96) hx hb d_Mo_readPart_63 (by decide) (fun c63 => ?_) (fun c63 => ?_)
          · have hi9 : i = k := by
              have := (nI_leI (by omega) (by omega)).mp c63
              omega
            have hW9 : W9 = it (md_dup f2 N50.1 (t + 1)) k N50.2.2 := by rw [hW, hi9]
            rcases (mo_kind_in (mo_look f0 n t)).resolve_left hk1 with hk0 | hk0 | hk0 | hk0 | hk0
            · rw [hk0] at hl
              refine lv_aload_n hx hb d_Mo_readPart_96 rfl (lv_at hl 4 rfl) ?_
              refine lv_bipush (v := 61) hx hb d_Mo_readPart_97 (by decide) ?_
              refine x_cVv (As := [.int 61]) (rest := []) E (c_Mo_take l g b0 _ eB hn hp 61 (by decide)) wy_Mo_take wl_Mo_92 hP hD hS eB.1 rfl hl.1 ⟨by decide, by decide⟩ ⟨Nat.le_refl _, Nat.le_refl _⟩ rfl (Nat.le_of_ble_eq_true rfl) d_Mo_readPart_99 (fun w54 H locs hr99 hP hD hS => ?_)
              obtain ⟨hq, eB, hp⟩ := hr99
              have hQ := hQ.tr hq
              generalize hT99 : mo_take f0 n 61 N50.2.1 W9 = T99 at eB hp
              refine lv_aload_n hx hb d_Mo_readPart_102 rfl (lv_at hl 4 rfl) ?_
              refine x_get E hP eB.1 rfl cl6_in 5 (by decide) wf_Mo_13 rfl d_Mo_readPart_103 ?_
              refine lv_aload_n hx hb d_Mo_readPart_106 rfl (lv_at hl 4 rfl) ?_
              refine x_get E hP eB.1 rfl cl6_in 4 (by decide) wf_Mo_81 rfl d_Mo_readPart_107 ?_
              refine lv_iload_n hx hb d_Mo_readPart_110 rfl (lv_at hl 3 rfl) ?_
              refine x_iast E hP hD hS eB.2.2.1 (j := k) rfl hk9 (by decide) d_Mo_readPart_111 (fun w55 H locs hU55 hP hD hS => ?_)
              have eB : xMo g w55 q h ad (nI n) (nI T99.1) T99.2 (nI k) s4 s5 s6 f0 (upd f1 k 0) f2 f3 f4 f5 f6 f7 f8 f9 f10 f11 f12 f13 f14 f15 f16 := eB.a1 hU55
              have hQ := hQ.up hU55 (by omega)
              refine lv_aload_n hx hb d_Mo_readPart_112 rfl (lv_at hl 4 rfl) ?_
              refine x_get E hP eB.1 rfl cl6_in 6 (by decide) wf_Mo_16 rfl d_Mo_readPart_113 ?_
              refine lv_aload_n hx hb d_Mo_readPart_116 rfl (lv_at hl 4 rfl) ?_
              refine x_get E hP eB.1 rfl cl6_in 4 (by decide) wf_Mo_81 rfl d_Mo_readPart_117 ?_
              refine lv_iload_n hx hb d_Mo_readPart_120 rfl (lv_at hl 1 rfl) ?_
              refine x_iast E hP hD hS eB.2.2.2.1 (j := k) rfl hk9 (by decide) d_Mo_readPart_121 (fun w56 H locs hU56 hP hD hS => ?_)
              have eB : xMo g w56 q h ad (nI n) (nI T99.1) T99.2 (nI k) s4 s5 s6 f0 (upd f1 k 0) (upd f2 k N50.1) f3 f4 f5 f6 f7 f8 f9 f10 f11 f12 f13 f14 f15 f16 := eB.a2 hU56
              have hQ := hQ.up hU56 (by omega)
              refine lv_aload_n hx hb d_Mo_readPart_122 rfl (lv_at hl 4 rfl) ?_
              refine x_get E hP eB.1 rfl cl6_in 7 (by decide) wf_Mo_19 rfl d_Mo_readPart_123 ?_
              refine lv_aload_n hx hb d_Mo_readPart_126 rfl (lv_at hl 4 rfl) ?_
              refine x_get E hP eB.1 rfl cl6_in 4 (by decide) wf_Mo_81 rfl d_Mo_readPart_127 ?_
              refine lv_aload_n hx hb d_Mo_readPart_130 rfl (lv_at hl 4 rfl) ?_
              refine lv_iload_n hx hb d_Mo_readPart_131 rfl (lv_at hl 3 rfl) ?_
              refine lv_iconst (v := 2) hx hb d_Mo_readPart_132 (by decide) ?_
              refine lv_icmp_eq (tgt := 141) hx hb d_Mo_readPart_133 (by decide) (fun c133 => absurd c133 (by decide)) (fun c133 => ?_)
              refine lv_iload_n hx hb d_Mo_readPart_136 rfl (lv_at hl 3 rfl) ?_
              refine lv_iconst (v := 3) hx hb d_Mo_readPart_137 (by decide) ?_
              refine lv_icmp_ne (tgt := 145) hx hb d_Mo_readPart_138 (by decide) (fun c138 => ?_) (fun c138 => absurd c138 (by decide))
              refine lv_iconst (v := 1) hx hb d_Mo_readPart_145 (by decide) ?_
              refine lv_iload_n hx hb d_Mo_readPart_146 rfl (lv_at hl 3 rfl) ?_
              refine lv_iconst (v := 4) hx hb d_Mo_readPart_147 (by decide) ?_
              refine lv_icmp_ne (tgt := 157) hx hb d_Mo_readPart_148 (by decide) (fun c148 => ?_) (fun c148 => absurd c148 (by decide))
              refine lv_sipush (v := 9999) hx hb d_Mo_readPart_157 (by decide) ?_
              refine x_cVi (As := [.int 1, .int 9999]) (rest := [.int (nI k), .ref (ad 3)]) E (c_Mo_number l g b0 _ eB hn hp 1 9999) wy_Mo_number wl_Mo_84 hP hD hS eB.1 rfl hl.1 ⟨by decide, by decide⟩ ⟨Nat.le_refl _, Nat.le_refl _⟩ rfl (Nat.le_of_ble_eq_true rfl) d_Mo_readPart_160 (fun r160 w57 H locs hr160 hP hD hS => ?_)
              obtain ⟨rfl, hq, eB, hp⟩ := hr160
              have hQ := hQ.tr hq
              generalize hN160 : mo_num f0 n 1 9999 T99.1 T99.2 = N160 at eB hp ⊢
              refine x_iast E hP hD hS eB.2.2.2.2.1 (j := k) rfl hk9 (by decide) d_Mo_readPart_163 (fun w58 H locs hU58 hP hD hS => ?_)
              have eB : xMo g w58 q h ad (nI n) (nI N160.2.1) N160.2.2 (nI k) s4 s5 s6 f0 (upd f1 k 0) (upd f2 k N50.1) (upd f3 k N160.1) f4 f5 f6 f7 f8 f9 f10 f11 f12 f13 f14 f15 f16 := eB.a3 hU58
              have hQ := hQ.up hU58 (by omega)
              refine lv_aload_n hx hb d_Mo_readPart_164 rfl (lv_at hl 4 rfl) ?_
              refine x_get E hP eB.1 rfl cl6_in 8 (by decide) wf_Mo_22 rfl d_Mo_readPart_165 ?_
              refine lv_aload_n hx hb d_Mo_readPart_168 rfl (lv_at hl 4 rfl) ?_
              refine x_get E hP eB.1 rfl cl6_in 4 (by decide) wf_Mo_81 rfl d_Mo_readPart_169 ?_
              refine lv_iconst (v := (-1)) hx hb d_Mo_readPart_172 (by decide) ?_
              refine x_iast E hP hD hS eB.2.2.2.2.2.1 (j := k) rfl hk9 (by decide) d_Mo_readPart_173 (fun w59 H locs hU59 hP hD hS => ?_)
              have eB : xMo g w59 q h ad (nI n) (nI N160.2.1) N160.2.2 (nI k) s4 s5 s6 f0 (upd f1 k 0) (upd f2 k N50.1) (upd f3 k N160.1) (upd f4 k (-1)) f5 f6 f7 f8 f9 f10 f11 f12 f13 f14 f15 f16 := eB.a4 hU59
              have hQ := hQ.up hU59 (by omega)
              refine lv_aload_n hx hb d_Mo_readPart_174 rfl (lv_at hl 4 rfl) ?_
              refine x_get E hP eB.1 rfl cl6_in 9 (by decide) wf_Mo_25 rfl d_Mo_readPart_175 ?_
              refine lv_iconst (v := 2) hx hb d_Mo_readPart_178 (by decide) ?_
              refine lv_aload_n hx hb d_Mo_readPart_179 rfl (lv_at hl 4 rfl) ?_
              refine x_get E hP eB.1 rfl cl6_in 4 (by decide) wf_Mo_81 rfl d_Mo_readPart_180 ?_
              refine lv_imul hx hb d_Mo_readPart_183 ?_
              refine x_top (y := nI (2 * k)) (pk_mul 2 k) ?_
              refine lv_iconst (v := (-1)) hx hb d_Mo_readPart_184 (by decide) ?_
              refine x_iast E hP hD hS eB.2.2.2.2.2.2.1 (j := 2 * k) rfl (by omega) (by decide) d_Mo_readPart_185 (fun w60 H locs hU60 hP hD hS => ?_)
              have eB : xMo g w60 q h ad (nI n) (nI N160.2.1) N160.2.2 (nI k) s4 s5 s6 f0 (upd f1 k 0) (upd f2 k N50.1) (upd f3 k N160.1) (upd f4 k (-1)) (upd f5 (2 * k) (-1)) f6 f7 f8 f9 f10 f11 f12 f13 f14 f15 f16 := eB.a5 hU60
              have hQ := hQ.up hU60 (by omega)
              refine lv_aload_n hx hb d_Mo_readPart_186 rfl (lv_at hl 4 rfl) ?_
              refine x_get E hP eB.1 rfl cl6_in 9 (by decide) wf_Mo_25 rfl d_Mo_readPart_187 ?_
              refine lv_iconst (v := 2) hx hb d_Mo_readPart_190 (by decide) ?_
              refine lv_aload_n hx hb d_Mo_readPart_191 rfl (lv_at hl 4 rfl) ?_
              refine x_get E hP eB.1 rfl cl6_in 4 (by decide) wf_Mo_81 rfl d_Mo_readPart_192 ?_
              refine lv_imul hx hb d_Mo_readPart_195 ?_
              refine x_top (y := nI (2 * k)) (pk_mul 2 k) ?_
              refine lv_iconst (v := 1) hx hb d_Mo_readPart_196 (by decide) ?_
              refine lv_iadd hx hb d_Mo_readPart_197 ?_
              refine x_top (y := nI (2 * k + 1)) (nI_1 (2 * k)) ?_
              refine lv_iconst (v := (-1)) hx hb d_Mo_readPart_198 (by decide) ?_
              refine x_iast E hP hD hS eB.2.2.2.2.2.2.1 (j := 2 * k + 1) rfl (by omega) (by decide) d_Mo_readPart_199 (fun w61 H locs hU61 hP hD hS => ?_)
              have eB : xMo g w61 q h ad (nI n) (nI N160.2.1) N160.2.2 (nI k) s4 s5 s6 f0 (upd f1 k 0) (upd f2 k N50.1) (upd f3 k N160.1) (upd f4 k (-1)) (upd (upd f5 (2 * k) (-1)) (2 * k + 1) (-1)) f6 f7 f8 f9 f10 f11 f12 f13 f14 f15 f16 := eB.a5 hU61
              have hQ := hQ.up hU61 (by omega)
              refine lv_iload_n hx hb d_Mo_readPart_200 rfl (lv_at hl 3 rfl) ?_
              refine lv_iconst (v := 1) hx hb d_Mo_readPart_201 (by decide) ?_
              refine lv_icmp_ne (tgt := 228) hx hb d_Mo_readPart_202 (by decide) (fun c202 => ?_) (fun c202 => absurd c202 (by decide))
              refine lv_iload_n hx hb d_Mo_readPart_228 rfl (lv_at hl 3 rfl) ?_
              refine lv_iconst (v := 4) hx hb d_Mo_readPart_229 (by decide) ?_
              refine lv_icmp_ge (tgt := 244) hx hb d_Mo_readPart_230 (by decide) (fun c230 => absurd c230 (by decide)) (fun c230 => ?_)
              refine lv_aload_n hx hb d_Mo_readPart_233 rfl (lv_at hl 4 rfl) ?_
              refine lv_bipush (v := 62) hx hb d_Mo_readPart_234 (by decide) ?_
              refine x_cVv (As := [.int 62]) (rest := []) E (c_Mo_take l g b0 _ eB hn hp 62 (by decide)) wy_Mo_take wl_Mo_92 hP hD hS eB.1 rfl hl.1 ⟨by decide, by decide⟩ ⟨Nat.le_refl _, Nat.le_refl _⟩ rfl (Nat.le_of_ble_eq_true rfl) d_Mo_readPart_236 (fun w62 H locs hr236 hP hD hS => ?_)
              obtain ⟨hq, eB, hp⟩ := hr236
              have hQ := hQ.tr hq
              generalize hT236 : mo_take f0 n 62 N160.2.1 N160.2.2 = T236 at eB hp
              refine lv_aload_n hx hb d_Mo_readPart_239 rfl (lv_at hl 4 rfl) ?_
              refine lv_iconst (v := 0) hx hb d_Mo_readPart_240 (by decide) ?_
              refine x_cVv (As := [.int 0]) (rest := []) E (c_Mo_way l g b0 _ eB hn hp hk9 0 0 rfl (by decide)) wy_Mo_way wl_Mo_95 hP hD hS eB.1 rfl hl.1 ⟨by decide, by decide⟩ ⟨Nat.le_refl _, Nat.le_refl _⟩ rfl (Nat.le_of_ble_eq_true rfl) d_Mo_readPart_241 (fun w63 H locs hr241 hP hD hS => ?_)
              obtain ⟨hq, eB, hp⟩ := hr241
              have hQ := hQ.tr hq
              generalize hN241 : mo_num f0 n 0 29 T236.1 T236.2 = N241 at eB hp
              refine lv_iload_n hx hb d_Mo_readPart_244 rfl (lv_at hl 3 rfl) ?_
              refine lv_iconst (v := 3) hx hb d_Mo_readPart_245 (by decide) ?_
              refine lv_icmp_ne (tgt := 260) hx hb d_Mo_readPart_246 (by decide) (fun c246 => ?_) (fun c246 => absurd c246 (by decide))
              refine lv_aload_n hx hb d_Mo_readPart_260 rfl (lv_at hl 4 rfl) ?_
              refine lv_bipush (v := 59) hx hb d_Mo_readPart_261 (by decide) ?_
              refine x_cVv (As := [.int 59]) (rest := []) E (c_Mo_take l g b0 _ eB hn hp 59 (by decide)) wy_Mo_take wl_Mo_92 hP hD hS eB.1 rfl hl.1 ⟨by decide, by decide⟩ ⟨Nat.le_refl _, Nat.le_refl _⟩ rfl (Nat.le_of_ble_eq_true rfl) d_Mo_readPart_263 (fun w64 H locs hr263 hP hD hS => ?_)
              obtain ⟨hq, eB, hp⟩ := hr263
              have hQ := hQ.tr hq
              generalize hT263 : mo_take f0 n 59 N241.2.1 N241.2.2 = T263 at eB hp
              refine lv_aload_n hx hb d_Mo_readPart_266 rfl (lv_at hl 4 rfl) ?_
              refine lv_dup hx hb d_Mo_readPart_267 rfl ?_
              refine x_get E hP eB.1 rfl cl6_in 4 (by decide) wf_Mo_81 rfl d_Mo_readPart_268 ?_
              refine lv_iconst (v := 1) hx hb d_Mo_readPart_271 (by decide) ?_
              refine lv_iadd hx hb d_Mo_readPart_272 ?_
              refine x_top (y := nI (k + 1)) (nI_1 k) ?_
              refine x_put E hP hD hS eB.1 rfl cl6_in cl6_ty cl6_nm 4 (by decide) wf_Mo_81 rfl rfl rfl (Nat.le_of_ble_eq_true rfl) d_Mo_readPart_273 (fun w65 H locs hU65 hP hD hS => ?_)
              have eB : xMo g w65 q h ad (nI n) (nI T263.1) T263.2 (nI (k + 1)) s4 s5 s6 f0 (upd f1 k 0) (upd f2 k N50.1) (upd f3 k N160.1) (upd f4 k (-1)) (upd (upd (upd f5 (2 * k) (-1)) (2 * k + 1) (-1)) (2 * k + 0) N241.1) f6 f7 f8 f9 f10 f11 f12 f13 f14 f15 f16 := eB.t3 hU65
              have hQ := hQ.up hU65 (by omega)
              refine x_rv E hr hS ⟨hQ, ?_⟩ hP hD d_Mo_readPart_276
              generalize hX9 : md_step f0 n (t, s2, k, f1, f2, f3, f4, f5) = Y9
              rw [md_step, if_neg (show ¬ (t, s2, k, f1, f2, f3, f4, f5).2.2.1 = 24 from hk24), if_neg (show ¬ mo_kind (mo_look f0 n (t, s2, k, f1, f2, f3, f4, f5).1) = -1 from hk1), hk0, md_q1, hN50, md_q2, ← hW9, hT99, md_q3, show md_lo 0 = 1 from rfl, show md_hi 0 = 9999 from rfl, hN160, md_q4, if_neg (by decide), md_q5, if_neg (by decide), hT236, md_nw, hN241, md_q6, if_neg (by decide), md_q7, hT263] at hX9
              subst hX9
              exact ⟨eB, hp⟩
            · rw [hk0] at hl
              refine lv_aload_n hx hb d_Mo_readPart_96 rfl (lv_at hl 4 rfl) ?_
              refine lv_bipush (v := 61) hx hb d_Mo_readPart_97 (by decide) ?_
              refine x_cVv (As := [.int 61]) (rest := []) E (c_Mo_take l g b0 _ eB hn hp 61 (by decide)) wy_Mo_take wl_Mo_92 hP hD hS eB.1 rfl hl.1 ⟨by decide, by decide⟩ ⟨Nat.le_refl _, Nat.le_refl _⟩ rfl (Nat.le_of_ble_eq_true rfl) d_Mo_readPart_99 (fun w54 H locs hr99 hP hD hS => ?_)
              obtain ⟨hq, eB, hp⟩ := hr99
              have hQ := hQ.tr hq
              generalize hT99 : mo_take f0 n 61 N50.2.1 W9 = T99 at eB hp
              refine lv_aload_n hx hb d_Mo_readPart_102 rfl (lv_at hl 4 rfl) ?_
              refine x_get E hP eB.1 rfl cl6_in 5 (by decide) wf_Mo_13 rfl d_Mo_readPart_103 ?_
              refine lv_aload_n hx hb d_Mo_readPart_106 rfl (lv_at hl 4 rfl) ?_
              refine x_get E hP eB.1 rfl cl6_in 4 (by decide) wf_Mo_81 rfl d_Mo_readPart_107 ?_
              refine lv_iload_n hx hb d_Mo_readPart_110 rfl (lv_at hl 3 rfl) ?_
              refine x_iast E hP hD hS eB.2.2.1 (j := k) rfl hk9 (by decide) d_Mo_readPart_111 (fun w55 H locs hU55 hP hD hS => ?_)
              have eB : xMo g w55 q h ad (nI n) (nI T99.1) T99.2 (nI k) s4 s5 s6 f0 (upd f1 k 1) f2 f3 f4 f5 f6 f7 f8 f9 f10 f11 f12 f13 f14 f15 f16 := eB.a1 hU55
              have hQ := hQ.up hU55 (by omega)
              refine lv_aload_n hx hb d_Mo_readPart_112 rfl (lv_at hl 4 rfl) ?_
              refine x_get E hP eB.1 rfl cl6_in 6 (by decide) wf_Mo_16 rfl d_Mo_readPart_113 ?_
              refine lv_aload_n hx hb d_Mo_readPart_116 rfl (lv_at hl 4 rfl) ?_
              refine x_get E hP eB.1 rfl cl6_in 4 (by decide) wf_Mo_81 rfl d_Mo_readPart_117 ?_
              refine lv_iload_n hx hb d_Mo_readPart_120 rfl (lv_at hl 1 rfl) ?_
              refine x_iast E hP hD hS eB.2.2.2.1 (j := k) rfl hk9 (by decide) d_Mo_readPart_121 (fun w56 H locs hU56 hP hD hS => ?_)
              have eB : xMo g w56 q h ad (nI n) (nI T99.1) T99.2 (nI k) s4 s5 s6 f0 (upd f1 k 1) (upd f2 k N50.1) f3 f4 f5 f6 f7 f8 f9 f10 f11 f12 f13 f14 f15 f16 := eB.a2 hU56
              have hQ := hQ.up hU56 (by omega)
              refine lv_aload_n hx hb d_Mo_readPart_122 rfl (lv_at hl 4 rfl) ?_
              refine x_get E hP eB.1 rfl cl6_in 7 (by decide) wf_Mo_19 rfl d_Mo_readPart_123 ?_
              refine lv_aload_n hx hb d_Mo_readPart_126 rfl (lv_at hl 4 rfl) ?_
              refine x_get E hP eB.1 rfl cl6_in 4 (by decide) wf_Mo_81 rfl d_Mo_readPart_127 ?_
              refine lv_aload_n hx hb d_Mo_readPart_130 rfl (lv_at hl 4 rfl) ?_
              refine lv_iload_n hx hb d_Mo_readPart_131 rfl (lv_at hl 3 rfl) ?_
              refine lv_iconst (v := 2) hx hb d_Mo_readPart_132 (by decide) ?_
              refine lv_icmp_eq (tgt := 141) hx hb d_Mo_readPart_133 (by decide) (fun c133 => absurd c133 (by decide)) (fun c133 => ?_)
              refine lv_iload_n hx hb d_Mo_readPart_136 rfl (lv_at hl 3 rfl) ?_
              refine lv_iconst (v := 3) hx hb d_Mo_readPart_137 (by decide) ?_
              refine lv_icmp_ne (tgt := 145) hx hb d_Mo_readPart_138 (by decide) (fun c138 => ?_) (fun c138 => absurd c138 (by decide))
              refine lv_iconst (v := 1) hx hb d_Mo_readPart_145 (by decide) ?_
              refine lv_iload_n hx hb d_Mo_readPart_146 rfl (lv_at hl 3 rfl) ?_
              refine lv_iconst (v := 4) hx hb d_Mo_readPart_147 (by decide) ?_
              refine lv_icmp_ne (tgt := 157) hx hb d_Mo_readPart_148 (by decide) (fun c148 => ?_) (fun c148 => absurd c148 (by decide))
              refine lv_sipush (v := 9999) hx hb d_Mo_readPart_157 (by decide) ?_
              refine x_cVi (As := [.int 1, .int 9999]) (rest := [.int (nI k), .ref (ad 3)]) E (c_Mo_number l g b0 _ eB hn hp 1 9999) wy_Mo_number wl_Mo_84 hP hD hS eB.1 rfl hl.1 ⟨by decide, by decide⟩ ⟨Nat.le_refl _, Nat.le_refl _⟩ rfl (Nat.le_of_ble_eq_true rfl) d_Mo_readPart_160 (fun r160 w57 H locs hr160 hP hD hS => ?_)
              obtain ⟨rfl, hq, eB, hp⟩ := hr160
              have hQ := hQ.tr hq
              generalize hN160 : mo_num f0 n 1 9999 T99.1 T99.2 = N160 at eB hp ⊢
              refine x_iast E hP hD hS eB.2.2.2.2.1 (j := k) rfl hk9 (by decide) d_Mo_readPart_163 (fun w58 H locs hU58 hP hD hS => ?_)
              have eB : xMo g w58 q h ad (nI n) (nI N160.2.1) N160.2.2 (nI k) s4 s5 s6 f0 (upd f1 k 1) (upd f2 k N50.1) (upd f3 k N160.1) f4 f5 f6 f7 f8 f9 f10 f11 f12 f13 f14 f15 f16 := eB.a3 hU58
              have hQ := hQ.up hU58 (by omega)
              refine lv_aload_n hx hb d_Mo_readPart_164 rfl (lv_at hl 4 rfl) ?_
              refine x_get E hP eB.1 rfl cl6_in 8 (by decide) wf_Mo_22 rfl d_Mo_readPart_165 ?_
              refine lv_aload_n hx hb d_Mo_readPart_168 rfl (lv_at hl 4 rfl) ?_
              refine x_get E hP eB.1 rfl cl6_in 4 (by decide) wf_Mo_81 rfl d_Mo_readPart_169 ?_
              refine lv_iconst (v := (-1)) hx hb d_Mo_readPart_172 (by decide) ?_
              refine x_iast E hP hD hS eB.2.2.2.2.2.1 (j := k) rfl hk9 (by decide) d_Mo_readPart_173 (fun w59 H locs hU59 hP hD hS => ?_)
              have eB : xMo g w59 q h ad (nI n) (nI N160.2.1) N160.2.2 (nI k) s4 s5 s6 f0 (upd f1 k 1) (upd f2 k N50.1) (upd f3 k N160.1) (upd f4 k (-1)) f5 f6 f7 f8 f9 f10 f11 f12 f13 f14 f15 f16 := eB.a4 hU59
              have hQ := hQ.up hU59 (by omega)
              refine lv_aload_n hx hb d_Mo_readPart_174 rfl (lv_at hl 4 rfl) ?_
              refine x_get E hP eB.1 rfl cl6_in 9 (by decide) wf_Mo_25 rfl d_Mo_readPart_175 ?_
              refine lv_iconst (v := 2) hx hb d_Mo_readPart_178 (by decide) ?_
              refine lv_aload_n hx hb d_Mo_readPart_179 rfl (lv_at hl 4 rfl) ?_
              refine x_get E hP eB.1 rfl cl6_in 4 (by decide) wf_Mo_81 rfl d_Mo_readPart_180 ?_
              refine lv_imul hx hb d_Mo_readPart_183 ?_
              refine x_top (y := nI (2 * k)) (pk_mul 2 k) ?_
              refine lv_iconst (v := (-1)) hx hb d_Mo_readPart_184 (by decide) ?_
              refine x_iast E hP hD hS eB.2.2.2.2.2.2.1 (j := 2 * k) rfl (by omega) (by decide) d_Mo_readPart_185 (fun w60 H locs hU60 hP hD hS => ?_)
              have eB : xMo g w60 q h ad (nI n) (nI N160.2.1) N160.2.2 (nI k) s4 s5 s6 f0 (upd f1 k 1) (upd f2 k N50.1) (upd f3 k N160.1) (upd f4 k (-1)) (upd f5 (2 * k) (-1)) f6 f7 f8 f9 f10 f11 f12 f13 f14 f15 f16 := eB.a5 hU60
              have hQ := hQ.up hU60 (by omega)
              refine lv_aload_n hx hb d_Mo_readPart_186 rfl (lv_at hl 4 rfl) ?_
              refine x_get E hP eB.1 rfl cl6_in 9 (by decide) wf_Mo_25 rfl d_Mo_readPart_187 ?_
              refine lv_iconst (v := 2) hx hb d_Mo_readPart_190 (by decide) ?_
              refine lv_aload_n hx hb d_Mo_readPart_191 rfl (lv_at hl 4 rfl) ?_
              refine x_get E hP eB.1 rfl cl6_in 4 (by decide) wf_Mo_81 rfl d_Mo_readPart_192 ?_
              refine lv_imul hx hb d_Mo_readPart_195 ?_
              refine x_top (y := nI (2 * k)) (pk_mul 2 k) ?_
              refine lv_iconst (v := 1) hx hb d_Mo_readPart_196 (by decide) ?_
              refine lv_iadd hx hb d_Mo_readPart_197 ?_
              refine x_top (y := nI (2 * k + 1)) (nI_1 (2 * k)) ?_
              refine lv_iconst (v := (-1)) hx hb d_Mo_readPart_198 (by decide) ?_
              refine x_iast E hP hD hS eB.2.2.2.2.2.2.1 (j := 2 * k + 1) rfl (by omega) (by decide) d_Mo_readPart_199 (fun w61 H locs hU61 hP hD hS => ?_)
              have eB : xMo g w61 q h ad (nI n) (nI N160.2.1) N160.2.2 (nI k) s4 s5 s6 f0 (upd f1 k 1) (upd f2 k N50.1) (upd f3 k N160.1) (upd f4 k (-1)) (upd (upd f5 (2 * k) (-1)) (2 * k + 1) (-1)) f6 f7 f8 f9 f10 f11 f12 f13 f14 f15 f16 := eB.a5 hU61
              have hQ := hQ.up hU61 (by omega)
              refine lv_iload_n hx hb d_Mo_readPart_200 rfl (lv_at hl 3 rfl) ?_
              refine lv_iconst (v := 1) hx hb d_Mo_readPart_201 (by decide) ?_
              refine lv_icmp_ne (tgt := 228) hx hb d_Mo_readPart_202 (by decide) (fun c202 => absurd (by decide) c202) (fun c202 => ?_)
              refine lv_aload_n hx hb d_Mo_readPart_205 rfl (lv_at hl 4 rfl) ?_
              refine lv_bipush (v := 44) hx hb d_Mo_readPart_206 (by decide) ?_
              refine x_cVv (As := [.int 44]) (rest := []) E (c_Mo_take l g b0 _ eB hn hp 44 (by decide)) wy_Mo_take wl_Mo_92 hP hD hS eB.1 rfl hl.1 ⟨by decide, by decide⟩ ⟨Nat.le_refl _, Nat.le_refl _⟩ rfl (Nat.le_of_ble_eq_true rfl) d_Mo_readPart_208 (fun w62 H locs hr208 hP hD hS => ?_)
              obtain ⟨hq, eB, hp⟩ := hr208
              have hQ := hQ.tr hq
              generalize hT208 : mo_take f0 n 44 N160.2.1 N160.2.2 = T208 at eB hp
              refine lv_aload_n hx hb d_Mo_readPart_211 rfl (lv_at hl 4 rfl) ?_
              refine x_get E hP eB.1 rfl cl6_in 8 (by decide) wf_Mo_22 rfl d_Mo_readPart_212 ?_
              refine lv_aload_n hx hb d_Mo_readPart_215 rfl (lv_at hl 4 rfl) ?_
              refine x_get E hP eB.1 rfl cl6_in 4 (by decide) wf_Mo_81 rfl d_Mo_readPart_216 ?_
              refine lv_aload_n hx hb d_Mo_readPart_219 rfl (lv_at hl 4 rfl) ?_
              refine lv_iconst (v := 1) hx hb d_Mo_readPart_220 (by decide) ?_
              refine lv_sipush (v := 9999) hx hb d_Mo_readPart_221 (by decide) ?_
              refine x_cVi (As := [.int 1, .int 9999]) (rest := [.int (nI k), .ref (ad 4)]) E (c_Mo_number l g b0 _ eB hn hp 1 9999) wy_Mo_number wl_Mo_84 hP hD hS eB.1 rfl hl.1 ⟨by decide, by decide⟩ ⟨Nat.le_refl _, Nat.le_refl _⟩ rfl (Nat.le_of_ble_eq_true rfl) d_Mo_readPart_224 (fun r224 w63 H locs hr224 hP hD hS => ?_)
              obtain ⟨rfl, hq, eB, hp⟩ := hr224
              have hQ := hQ.tr hq
              generalize hN224 : mo_num f0 n 1 9999 T208.1 T208.2 = N224 at eB hp ⊢
              refine x_iast E hP hD hS eB.2.2.2.2.2.1 (j := k) rfl hk9 (by decide) d_Mo_readPart_227 (fun w64 H locs hU64 hP hD hS => ?_)
              have eB : xMo g w64 q h ad (nI n) (nI N224.2.1) N224.2.2 (nI k) s4 s5 s6 f0 (upd f1 k 1) (upd f2 k N50.1) (upd f3 k N160.1) (upd (upd f4 k (-1)) k N224.1) (upd (upd f5 (2 * k) (-1)) (2 * k + 1) (-1)) f6 f7 f8 f9 f10 f11 f12 f13 f14 f15 f16 := eB.a4 hU64
              have hQ := hQ.up hU64 (by omega)
              refine lv_iload_n hx hb d_Mo_readPart_228 rfl (lv_at hl 3 rfl) ?_
              refine lv_iconst (v := 4) hx hb d_Mo_readPart_229 (by decide) ?_
              refine lv_icmp_ge (tgt := 244) hx hb d_Mo_readPart_230 (by decide) (fun c230 => absurd c230 (by decide)) (fun c230 => ?_)
              refine lv_aload_n hx hb d_Mo_readPart_233 rfl (lv_at hl 4 rfl) ?_
              refine lv_bipush (v := 62) hx hb d_Mo_readPart_234 (by decide) ?_
              refine x_cVv (As := [.int 62]) (rest := []) E (c_Mo_take l g b0 _ eB hn hp 62 (by decide)) wy_Mo_take wl_Mo_92 hP hD hS eB.1 rfl hl.1 ⟨by decide, by decide⟩ ⟨Nat.le_refl _, Nat.le_refl _⟩ rfl (Nat.le_of_ble_eq_true rfl) d_Mo_readPart_236 (fun w65 H locs hr236 hP hD hS => ?_)
              obtain ⟨hq, eB, hp⟩ := hr236
              have hQ := hQ.tr hq
              generalize hT236 : mo_take f0 n 62 N224.2.1 N224.2.2 = T236 at eB hp
              refine lv_aload_n hx hb d_Mo_readPart_239 rfl (lv_at hl 4 rfl) ?_
              refine lv_iconst (v := 0) hx hb d_Mo_readPart_240 (by decide) ?_
              refine x_cVv (As := [.int 0]) (rest := []) E (c_Mo_way l g b0 _ eB hn hp hk9 0 0 rfl (by decide)) wy_Mo_way wl_Mo_95 hP hD hS eB.1 rfl hl.1 ⟨by decide, by decide⟩ ⟨Nat.le_refl _, Nat.le_refl _⟩ rfl (Nat.le_of_ble_eq_true rfl) d_Mo_readPart_241 (fun w66 H locs hr241 hP hD hS => ?_)
              obtain ⟨hq, eB, hp⟩ := hr241
              have hQ := hQ.tr hq
              generalize hN241 : mo_num f0 n 0 29 T236.1 T236.2 = N241 at eB hp
              refine lv_iload_n hx hb d_Mo_readPart_244 rfl (lv_at hl 3 rfl) ?_
              refine lv_iconst (v := 3) hx hb d_Mo_readPart_245 (by decide) ?_
              refine lv_icmp_ne (tgt := 260) hx hb d_Mo_readPart_246 (by decide) (fun c246 => ?_) (fun c246 => absurd c246 (by decide))
              refine lv_aload_n hx hb d_Mo_readPart_260 rfl (lv_at hl 4 rfl) ?_
              refine lv_bipush (v := 59) hx hb d_Mo_readPart_261 (by decide) ?_
              refine x_cVv (As := [.int 59]) (rest := []) E (c_Mo_take l g b0 _ eB hn hp 59 (by decide)) wy_Mo_take wl_Mo_92 hP hD hS eB.1 rfl hl.1 ⟨by decide, by decide⟩ ⟨Nat.le_refl _, Nat.le_refl _⟩ rfl (Nat.le_of_ble_eq_true rfl) d_Mo_readPart_263 (fun w67 H locs hr263 hP hD hS => ?_)
              obtain ⟨hq, eB, hp⟩ := hr263
              have hQ := hQ.tr hq
              generalize hT263 : mo_take f0 n 59 N241.2.1 N241.2.2 = T263 at eB hp
              refine lv_aload_n hx hb d_Mo_readPart_266 rfl (lv_at hl 4 rfl) ?_
              refine lv_dup hx hb d_Mo_readPart_267 rfl ?_
              refine x_get E hP eB.1 rfl cl6_in 4 (by decide) wf_Mo_81 rfl d_Mo_readPart_268 ?_
              refine lv_iconst (v := 1) hx hb d_Mo_readPart_271 (by decide) ?_
              refine lv_iadd hx hb d_Mo_readPart_272 ?_
              refine x_top (y := nI (k + 1)) (nI_1 k) ?_
              refine x_put E hP hD hS eB.1 rfl cl6_in cl6_ty cl6_nm 4 (by decide) wf_Mo_81 rfl rfl rfl (Nat.le_of_ble_eq_true rfl) d_Mo_readPart_273 (fun w68 H locs hU68 hP hD hS => ?_)
              have eB : xMo g w68 q h ad (nI n) (nI T263.1) T263.2 (nI (k + 1)) s4 s5 s6 f0 (upd f1 k 1) (upd f2 k N50.1) (upd f3 k N160.1) (upd (upd f4 k (-1)) k N224.1) (upd (upd (upd f5 (2 * k) (-1)) (2 * k + 1) (-1)) (2 * k + 0) N241.1) f6 f7 f8 f9 f10 f11 f12 f13 f14 f15 f16 := eB.t3 hU68
              have hQ := hQ.up hU68 (by omega)
              refine x_rv E hr hS ⟨hQ, ?_⟩ hP hD d_Mo_readPart_276
              generalize hX9 : md_step f0 n (t, s2, k, f1, f2, f3, f4, f5) = Y9
              rw [md_step, if_neg (show ¬ (t, s2, k, f1, f2, f3, f4, f5).2.2.1 = 24 from hk24), if_neg (show ¬ mo_kind (mo_look f0 n (t, s2, k, f1, f2, f3, f4, f5).1) = -1 from hk1), hk0, md_q1, hN50, md_q2, ← hW9, hT99, md_q3, show md_lo 1 = 1 from rfl, show md_hi 1 = 9999 from rfl, hN160, md_q4, if_pos rfl, hT208, md_ns, hN224, md_q5, if_neg (by decide), hT236, md_nw, hN241, md_q6, if_neg (by decide), md_q7, hT263] at hX9
              subst hX9
              exact ⟨eB, hp⟩
            · rw [hk0] at hl
              refine lv_aload_n hx hb d_Mo_readPart_96 rfl (lv_at hl 4 rfl) ?_
              refine lv_bipush (v := 61) hx hb d_Mo_readPart_97 (by decide) ?_
              refine x_cVv (As := [.int 61]) (rest := []) E (c_Mo_take l g b0 _ eB hn hp 61 (by decide)) wy_Mo_take wl_Mo_92 hP hD hS eB.1 rfl hl.1 ⟨by decide, by decide⟩ ⟨Nat.le_refl _, Nat.le_refl _⟩ rfl (Nat.le_of_ble_eq_true rfl) d_Mo_readPart_99 (fun w54 H locs hr99 hP hD hS => ?_)
              obtain ⟨hq, eB, hp⟩ := hr99
              have hQ := hQ.tr hq
              generalize hT99 : mo_take f0 n 61 N50.2.1 W9 = T99 at eB hp
              refine lv_aload_n hx hb d_Mo_readPart_102 rfl (lv_at hl 4 rfl) ?_
              refine x_get E hP eB.1 rfl cl6_in 5 (by decide) wf_Mo_13 rfl d_Mo_readPart_103 ?_
              refine lv_aload_n hx hb d_Mo_readPart_106 rfl (lv_at hl 4 rfl) ?_
              refine x_get E hP eB.1 rfl cl6_in 4 (by decide) wf_Mo_81 rfl d_Mo_readPart_107 ?_
              refine lv_iload_n hx hb d_Mo_readPart_110 rfl (lv_at hl 3 rfl) ?_
              refine x_iast E hP hD hS eB.2.2.1 (j := k) rfl hk9 (by decide) d_Mo_readPart_111 (fun w55 H locs hU55 hP hD hS => ?_)
              have eB : xMo g w55 q h ad (nI n) (nI T99.1) T99.2 (nI k) s4 s5 s6 f0 (upd f1 k 2) f2 f3 f4 f5 f6 f7 f8 f9 f10 f11 f12 f13 f14 f15 f16 := eB.a1 hU55
              have hQ := hQ.up hU55 (by omega)
              refine lv_aload_n hx hb d_Mo_readPart_112 rfl (lv_at hl 4 rfl) ?_
              refine x_get E hP eB.1 rfl cl6_in 6 (by decide) wf_Mo_16 rfl d_Mo_readPart_113 ?_
              refine lv_aload_n hx hb d_Mo_readPart_116 rfl (lv_at hl 4 rfl) ?_
              refine x_get E hP eB.1 rfl cl6_in 4 (by decide) wf_Mo_81 rfl d_Mo_readPart_117 ?_
              refine lv_iload_n hx hb d_Mo_readPart_120 rfl (lv_at hl 1 rfl) ?_
              refine x_iast E hP hD hS eB.2.2.2.1 (j := k) rfl hk9 (by decide) d_Mo_readPart_121 (fun w56 H locs hU56 hP hD hS => ?_)
              have eB : xMo g w56 q h ad (nI n) (nI T99.1) T99.2 (nI k) s4 s5 s6 f0 (upd f1 k 2) (upd f2 k N50.1) f3 f4 f5 f6 f7 f8 f9 f10 f11 f12 f13 f14 f15 f16 := eB.a2 hU56
              have hQ := hQ.up hU56 (by omega)
              refine lv_aload_n hx hb d_Mo_readPart_122 rfl (lv_at hl 4 rfl) ?_
              refine x_get E hP eB.1 rfl cl6_in 7 (by decide) wf_Mo_19 rfl d_Mo_readPart_123 ?_
              refine lv_aload_n hx hb d_Mo_readPart_126 rfl (lv_at hl 4 rfl) ?_
              refine x_get E hP eB.1 rfl cl6_in 4 (by decide) wf_Mo_81 rfl d_Mo_readPart_127 ?_
              refine lv_aload_n hx hb d_Mo_readPart_130 rfl (lv_at hl 4 rfl) ?_
              refine lv_iload_n hx hb d_Mo_readPart_131 rfl (lv_at hl 3 rfl) ?_
              refine lv_iconst (v := 2) hx hb d_Mo_readPart_132 (by decide) ?_
              refine lv_icmp_eq (tgt := 141) hx hb d_Mo_readPart_133 (by decide) (fun c133 => ?_) (fun c133 => absurd (by decide) c133)
              refine lv_iconst (v := 0) hx hb d_Mo_readPart_141 (by decide) ?_
              refine lv_goto (tgt := 146) hx hb d_Mo_readPart_142 (by decide) ?_
              refine lv_iload_n hx hb d_Mo_readPart_146 rfl (lv_at hl 3 rfl) ?_
              refine lv_iconst (v := 4) hx hb d_Mo_readPart_147 (by decide) ?_
              refine lv_icmp_ne (tgt := 157) hx hb d_Mo_readPart_148 (by decide) (fun c148 => ?_) (fun c148 => absurd c148 (by decide))
              refine lv_sipush (v := 9999) hx hb d_Mo_readPart_157 (by decide) ?_
              refine x_cVi (As := [.int 0, .int 9999]) (rest := [.int (nI k), .ref (ad 3)]) E (c_Mo_number l g b0 _ eB hn hp 0 9999) wy_Mo_number wl_Mo_84 hP hD hS eB.1 rfl hl.1 ⟨by decide, by decide⟩ ⟨Nat.le_refl _, Nat.le_refl _⟩ rfl (Nat.le_of_ble_eq_true rfl) d_Mo_readPart_160 (fun r160 w57 H locs hr160 hP hD hS => ?_)
              obtain ⟨rfl, hq, eB, hp⟩ := hr160
              have hQ := hQ.tr hq
              generalize hN160 : mo_num f0 n 0 9999 T99.1 T99.2 = N160 at eB hp ⊢
              refine x_iast E hP hD hS eB.2.2.2.2.1 (j := k) rfl hk9 (by decide) d_Mo_readPart_163 (fun w58 H locs hU58 hP hD hS => ?_)
              have eB : xMo g w58 q h ad (nI n) (nI N160.2.1) N160.2.2 (nI k) s4 s5 s6 f0 (upd f1 k 2) (upd f2 k N50.1) (upd f3 k N160.1) f4 f5 f6 f7 f8 f9 f10 f11 f12 f13 f14 f15 f16 := eB.a3 hU58
              have hQ := hQ.up hU58 (by omega)
              refine lv_aload_n hx hb d_Mo_readPart_164 rfl (lv_at hl 4 rfl) ?_
              refine x_get E hP eB.1 rfl cl6_in 8 (by decide) wf_Mo_22 rfl d_Mo_readPart_165 ?_
              refine lv_aload_n hx hb d_Mo_readPart_168 rfl (lv_at hl 4 rfl) ?_
              refine x_get E hP eB.1 rfl cl6_in 4 (by decide) wf_Mo_81 rfl d_Mo_readPart_169 ?_
              refine lv_iconst (v := (-1)) hx hb d_Mo_readPart_172 (by decide) ?_
              refine x_iast E hP hD hS eB.2.2.2.2.2.1 (j := k) rfl hk9 (by decide) d_Mo_readPart_173 (fun w59 H locs hU59 hP hD hS => ?_)
              have eB : xMo g w59 q h ad (nI n) (nI N160.2.1) N160.2.2 (nI k) s4 s5 s6 f0 (upd f1 k 2) (upd f2 k N50.1) (upd f3 k N160.1) (upd f4 k (-1)) f5 f6 f7 f8 f9 f10 f11 f12 f13 f14 f15 f16 := eB.a4 hU59
              have hQ := hQ.up hU59 (by omega)
              refine lv_aload_n hx hb d_Mo_readPart_174 rfl (lv_at hl 4 rfl) ?_
              refine x_get E hP eB.1 rfl cl6_in 9 (by decide) wf_Mo_25 rfl d_Mo_readPart_175 ?_
              refine lv_iconst (v := 2) hx hb d_Mo_readPart_178 (by decide) ?_
              refine lv_aload_n hx hb d_Mo_readPart_179 rfl (lv_at hl 4 rfl) ?_
              refine x_get E hP eB.1 rfl cl6_in 4 (by decide) wf_Mo_81 rfl d_Mo_readPart_180 ?_
              refine lv_imul hx hb d_Mo_readPart_183 ?_
              refine x_top (y := nI (2 * k)) (pk_mul 2 k) ?_
              refine lv_iconst (v := (-1)) hx hb d_Mo_readPart_184 (by decide) ?_
              refine x_iast E hP hD hS eB.2.2.2.2.2.2.1 (j := 2 * k) rfl (by omega) (by decide) d_Mo_readPart_185 (fun w60 H locs hU60 hP hD hS => ?_)
              have eB : xMo g w60 q h ad (nI n) (nI N160.2.1) N160.2.2 (nI k) s4 s5 s6 f0 (upd f1 k 2) (upd f2 k N50.1) (upd f3 k N160.1) (upd f4 k (-1)) (upd f5 (2 * k) (-1)) f6 f7 f8 f9 f10 f11 f12 f13 f14 f15 f16 := eB.a5 hU60
              have hQ := hQ.up hU60 (by omega)
              refine lv_aload_n hx hb d_Mo_readPart_186 rfl (lv_at hl 4 rfl) ?_
              refine x_get E hP eB.1 rfl cl6_in 9 (by decide) wf_Mo_25 rfl d_Mo_readPart_187 ?_
              refine lv_iconst (v := 2) hx hb d_Mo_readPart_190 (by decide) ?_
              refine lv_aload_n hx hb d_Mo_readPart_191 rfl (lv_at hl 4 rfl) ?_
              refine x_get E hP eB.1 rfl cl6_in 4 (by decide) wf_Mo_81 rfl d_Mo_readPart_192 ?_
              refine lv_imul hx hb d_Mo_readPart_195 ?_
              refine x_top (y := nI (2 * k)) (pk_mul 2 k) ?_
              refine lv_iconst (v := 1) hx hb d_Mo_readPart_196 (by decide) ?_
              refine lv_iadd hx hb d_Mo_readPart_197 ?_
              refine x_top (y := nI (2 * k + 1)) (nI_1 (2 * k)) ?_
              refine lv_iconst (v := (-1)) hx hb d_Mo_readPart_198 (by decide) ?_
              refine x_iast E hP hD hS eB.2.2.2.2.2.2.1 (j := 2 * k + 1) rfl (by omega) (by decide) d_Mo_readPart_199 (fun w61 H locs hU61 hP hD hS => ?_)
              have eB : xMo g w61 q h ad (nI n) (nI N160.2.1) N160.2.2 (nI k) s4 s5 s6 f0 (upd f1 k 2) (upd f2 k N50.1) (upd f3 k N160.1) (upd f4 k (-1)) (upd (upd f5 (2 * k) (-1)) (2 * k + 1) (-1)) f6 f7 f8 f9 f10 f11 f12 f13 f14 f15 f16 := eB.a5 hU61
              have hQ := hQ.up hU61 (by omega)
              refine lv_iload_n hx hb d_Mo_readPart_200 rfl (lv_at hl 3 rfl) ?_
              refine lv_iconst (v := 1) hx hb d_Mo_readPart_201 (by decide) ?_
              refine lv_icmp_ne (tgt := 228) hx hb d_Mo_readPart_202 (by decide) (fun c202 => ?_) (fun c202 => absurd c202 (by decide))
              refine lv_iload_n hx hb d_Mo_readPart_228 rfl (lv_at hl 3 rfl) ?_
              refine lv_iconst (v := 4) hx hb d_Mo_readPart_229 (by decide) ?_
              refine lv_icmp_ge (tgt := 244) hx hb d_Mo_readPart_230 (by decide) (fun c230 => absurd c230 (by decide)) (fun c230 => ?_)
              refine lv_aload_n hx hb d_Mo_readPart_233 rfl (lv_at hl 4 rfl) ?_
              refine lv_bipush (v := 62) hx hb d_Mo_readPart_234 (by decide) ?_
              refine x_cVv (As := [.int 62]) (rest := []) E (c_Mo_take l g b0 _ eB hn hp 62 (by decide)) wy_Mo_take wl_Mo_92 hP hD hS eB.1 rfl hl.1 ⟨by decide, by decide⟩ ⟨Nat.le_refl _, Nat.le_refl _⟩ rfl (Nat.le_of_ble_eq_true rfl) d_Mo_readPart_236 (fun w62 H locs hr236 hP hD hS => ?_)
              obtain ⟨hq, eB, hp⟩ := hr236
              have hQ := hQ.tr hq
              generalize hT236 : mo_take f0 n 62 N160.2.1 N160.2.2 = T236 at eB hp
              refine lv_aload_n hx hb d_Mo_readPart_239 rfl (lv_at hl 4 rfl) ?_
              refine lv_iconst (v := 0) hx hb d_Mo_readPart_240 (by decide) ?_
              refine x_cVv (As := [.int 0]) (rest := []) E (c_Mo_way l g b0 _ eB hn hp hk9 0 0 rfl (by decide)) wy_Mo_way wl_Mo_95 hP hD hS eB.1 rfl hl.1 ⟨by decide, by decide⟩ ⟨Nat.le_refl _, Nat.le_refl _⟩ rfl (Nat.le_of_ble_eq_true rfl) d_Mo_readPart_241 (fun w63 H locs hr241 hP hD hS => ?_)
              obtain ⟨hq, eB, hp⟩ := hr241
              have hQ := hQ.tr hq
              generalize hN241 : mo_num f0 n 0 29 T236.1 T236.2 = N241 at eB hp
              refine lv_iload_n hx hb d_Mo_readPart_244 rfl (lv_at hl 3 rfl) ?_
              refine lv_iconst (v := 3) hx hb d_Mo_readPart_245 (by decide) ?_
              refine lv_icmp_ne (tgt := 260) hx hb d_Mo_readPart_246 (by decide) (fun c246 => ?_) (fun c246 => absurd c246 (by decide))
              refine lv_aload_n hx hb d_Mo_readPart_260 rfl (lv_at hl 4 rfl) ?_
              refine lv_bipush (v := 59) hx hb d_Mo_readPart_261 (by decide) ?_
              refine x_cVv (As := [.int 59]) (rest := []) E (c_Mo_take l g b0 _ eB hn hp 59 (by decide)) wy_Mo_take wl_Mo_92 hP hD hS eB.1 rfl hl.1 ⟨by decide, by decide⟩ ⟨Nat.le_refl _, Nat.le_refl _⟩ rfl (Nat.le_of_ble_eq_true rfl) d_Mo_readPart_263 (fun w64 H locs hr263 hP hD hS => ?_)
              obtain ⟨hq, eB, hp⟩ := hr263
              have hQ := hQ.tr hq
              generalize hT263 : mo_take f0 n 59 N241.2.1 N241.2.2 = T263 at eB hp
              refine lv_aload_n hx hb d_Mo_readPart_266 rfl (lv_at hl 4 rfl) ?_
              refine lv_dup hx hb d_Mo_readPart_267 rfl ?_
              refine x_get E hP eB.1 rfl cl6_in 4 (by decide) wf_Mo_81 rfl d_Mo_readPart_268 ?_
              refine lv_iconst (v := 1) hx hb d_Mo_readPart_271 (by decide) ?_
              refine lv_iadd hx hb d_Mo_readPart_272 ?_
              refine x_top (y := nI (k + 1)) (nI_1 k) ?_
              refine x_put E hP hD hS eB.1 rfl cl6_in cl6_ty cl6_nm 4 (by decide) wf_Mo_81 rfl rfl rfl (Nat.le_of_ble_eq_true rfl) d_Mo_readPart_273 (fun w65 H locs hU65 hP hD hS => ?_)
              have eB : xMo g w65 q h ad (nI n) (nI T263.1) T263.2 (nI (k + 1)) s4 s5 s6 f0 (upd f1 k 2) (upd f2 k N50.1) (upd f3 k N160.1) (upd f4 k (-1)) (upd (upd (upd f5 (2 * k) (-1)) (2 * k + 1) (-1)) (2 * k + 0) N241.1) f6 f7 f8 f9 f10 f11 f12 f13 f14 f15 f16 := eB.t3 hU65
              have hQ := hQ.up hU65 (by omega)
              refine x_rv E hr hS ⟨hQ, ?_⟩ hP hD d_Mo_readPart_276
              generalize hX9 : md_step f0 n (t, s2, k, f1, f2, f3, f4, f5) = Y9
              rw [md_step, if_neg (show ¬ (t, s2, k, f1, f2, f3, f4, f5).2.2.1 = 24 from hk24), if_neg (show ¬ mo_kind (mo_look f0 n (t, s2, k, f1, f2, f3, f4, f5).1) = -1 from hk1), hk0, md_q1, hN50, md_q2, ← hW9, hT99, md_q3, show md_lo 2 = 0 from rfl, show md_hi 2 = 9999 from rfl, hN160, md_q4, if_neg (by decide), md_q5, if_neg (by decide), hT236, md_nw, hN241, md_q6, if_neg (by decide), md_q7, hT263] at hX9
              subst hX9
              exact ⟨eB, hp⟩
            · rw [hk0] at hl
              refine lv_aload_n hx hb d_Mo_readPart_96 rfl (lv_at hl 4 rfl) ?_
              refine lv_bipush (v := 61) hx hb d_Mo_readPart_97 (by decide) ?_
              refine x_cVv (As := [.int 61]) (rest := []) E (c_Mo_take l g b0 _ eB hn hp 61 (by decide)) wy_Mo_take wl_Mo_92 hP hD hS eB.1 rfl hl.1 ⟨by decide, by decide⟩ ⟨Nat.le_refl _, Nat.le_refl _⟩ rfl (Nat.le_of_ble_eq_true rfl) d_Mo_readPart_99 (fun w54 H locs hr99 hP hD hS => ?_)
              obtain ⟨hq, eB, hp⟩ := hr99
              have hQ := hQ.tr hq
              generalize hT99 : mo_take f0 n 61 N50.2.1 W9 = T99 at eB hp
              refine lv_aload_n hx hb d_Mo_readPart_102 rfl (lv_at hl 4 rfl) ?_
              refine x_get E hP eB.1 rfl cl6_in 5 (by decide) wf_Mo_13 rfl d_Mo_readPart_103 ?_
              refine lv_aload_n hx hb d_Mo_readPart_106 rfl (lv_at hl 4 rfl) ?_
              refine x_get E hP eB.1 rfl cl6_in 4 (by decide) wf_Mo_81 rfl d_Mo_readPart_107 ?_
              refine lv_iload_n hx hb d_Mo_readPart_110 rfl (lv_at hl 3 rfl) ?_
              refine x_iast E hP hD hS eB.2.2.1 (j := k) rfl hk9 (by decide) d_Mo_readPart_111 (fun w55 H locs hU55 hP hD hS => ?_)
              have eB : xMo g w55 q h ad (nI n) (nI T99.1) T99.2 (nI k) s4 s5 s6 f0 (upd f1 k 3) f2 f3 f4 f5 f6 f7 f8 f9 f10 f11 f12 f13 f14 f15 f16 := eB.a1 hU55
              have hQ := hQ.up hU55 (by omega)
              refine lv_aload_n hx hb d_Mo_readPart_112 rfl (lv_at hl 4 rfl) ?_
              refine x_get E hP eB.1 rfl cl6_in 6 (by decide) wf_Mo_16 rfl d_Mo_readPart_113 ?_
              refine lv_aload_n hx hb d_Mo_readPart_116 rfl (lv_at hl 4 rfl) ?_
              refine x_get E hP eB.1 rfl cl6_in 4 (by decide) wf_Mo_81 rfl d_Mo_readPart_117 ?_
              refine lv_iload_n hx hb d_Mo_readPart_120 rfl (lv_at hl 1 rfl) ?_
              refine x_iast E hP hD hS eB.2.2.2.1 (j := k) rfl hk9 (by decide) d_Mo_readPart_121 (fun w56 H locs hU56 hP hD hS => ?_)
              have eB : xMo g w56 q h ad (nI n) (nI T99.1) T99.2 (nI k) s4 s5 s6 f0 (upd f1 k 3) (upd f2 k N50.1) f3 f4 f5 f6 f7 f8 f9 f10 f11 f12 f13 f14 f15 f16 := eB.a2 hU56
              have hQ := hQ.up hU56 (by omega)
              refine lv_aload_n hx hb d_Mo_readPart_122 rfl (lv_at hl 4 rfl) ?_
              refine x_get E hP eB.1 rfl cl6_in 7 (by decide) wf_Mo_19 rfl d_Mo_readPart_123 ?_
              refine lv_aload_n hx hb d_Mo_readPart_126 rfl (lv_at hl 4 rfl) ?_
              refine x_get E hP eB.1 rfl cl6_in 4 (by decide) wf_Mo_81 rfl d_Mo_readPart_127 ?_
              refine lv_aload_n hx hb d_Mo_readPart_130 rfl (lv_at hl 4 rfl) ?_
              refine lv_iload_n hx hb d_Mo_readPart_131 rfl (lv_at hl 3 rfl) ?_
              refine lv_iconst (v := 2) hx hb d_Mo_readPart_132 (by decide) ?_
              refine lv_icmp_eq (tgt := 141) hx hb d_Mo_readPart_133 (by decide) (fun c133 => absurd c133 (by decide)) (fun c133 => ?_)
              refine lv_iload_n hx hb d_Mo_readPart_136 rfl (lv_at hl 3 rfl) ?_
              refine lv_iconst (v := 3) hx hb d_Mo_readPart_137 (by decide) ?_
              refine lv_icmp_ne (tgt := 145) hx hb d_Mo_readPart_138 (by decide) (fun c138 => absurd (by decide) c138) (fun c138 => ?_)
              refine lv_iconst (v := 0) hx hb d_Mo_readPart_141 (by decide) ?_
              refine lv_goto (tgt := 146) hx hb d_Mo_readPart_142 (by decide) ?_
              refine lv_iload_n hx hb d_Mo_readPart_146 rfl (lv_at hl 3 rfl) ?_
              refine lv_iconst (v := 4) hx hb d_Mo_readPart_147 (by decide) ?_
              refine lv_icmp_ne (tgt := 157) hx hb d_Mo_readPart_148 (by decide) (fun c148 => ?_) (fun c148 => absurd c148 (by decide))
              refine lv_sipush (v := 9999) hx hb d_Mo_readPart_157 (by decide) ?_
              refine x_cVi (As := [.int 0, .int 9999]) (rest := [.int (nI k), .ref (ad 3)]) E (c_Mo_number l g b0 _ eB hn hp 0 9999) wy_Mo_number wl_Mo_84 hP hD hS eB.1 rfl hl.1 ⟨by decide, by decide⟩ ⟨Nat.le_refl _, Nat.le_refl _⟩ rfl (Nat.le_of_ble_eq_true rfl) d_Mo_readPart_160 (fun r160 w57 H locs hr160 hP hD hS => ?_)
              obtain ⟨rfl, hq, eB, hp⟩ := hr160
              have hQ := hQ.tr hq
              generalize hN160 : mo_num f0 n 0 9999 T99.1 T99.2 = N160 at eB hp ⊢
              refine x_iast E hP hD hS eB.2.2.2.2.1 (j := k) rfl hk9 (by decide) d_Mo_readPart_163 (fun w58 H locs hU58 hP hD hS => ?_)
              have eB : xMo g w58 q h ad (nI n) (nI N160.2.1) N160.2.2 (nI k) s4 s5 s6 f0 (upd f1 k 3) (upd f2 k N50.1) (upd f3 k N160.1) f4 f5 f6 f7 f8 f9 f10 f11 f12 f13 f14 f15 f16 := eB.a3 hU58
              have hQ := hQ.up hU58 (by omega)
              refine lv_aload_n hx hb d_Mo_readPart_164 rfl (lv_at hl 4 rfl) ?_
              refine x_get E hP eB.1 rfl cl6_in 8 (by decide) wf_Mo_22 rfl d_Mo_readPart_165 ?_
              refine lv_aload_n hx hb d_Mo_readPart_168 rfl (lv_at hl 4 rfl) ?_
              refine x_get E hP eB.1 rfl cl6_in 4 (by decide) wf_Mo_81 rfl d_Mo_readPart_169 ?_
              refine lv_iconst (v := (-1)) hx hb d_Mo_readPart_172 (by decide) ?_
              refine x_iast E hP hD hS eB.2.2.2.2.2.1 (j := k) rfl hk9 (by decide) d_Mo_readPart_173 (fun w59 H locs hU59 hP hD hS => ?_)
              have eB : xMo g w59 q h ad (nI n) (nI N160.2.1) N160.2.2 (nI k) s4 s5 s6 f0 (upd f1 k 3) (upd f2 k N50.1) (upd f3 k N160.1) (upd f4 k (-1)) f5 f6 f7 f8 f9 f10 f11 f12 f13 f14 f15 f16 := eB.a4 hU59
              have hQ := hQ.up hU59 (by omega)
              refine lv_aload_n hx hb d_Mo_readPart_174 rfl (lv_at hl 4 rfl) ?_
              refine x_get E hP eB.1 rfl cl6_in 9 (by decide) wf_Mo_25 rfl d_Mo_readPart_175 ?_
              refine lv_iconst (v := 2) hx hb d_Mo_readPart_178 (by decide) ?_
              refine lv_aload_n hx hb d_Mo_readPart_179 rfl (lv_at hl 4 rfl) ?_
              refine x_get E hP eB.1 rfl cl6_in 4 (by decide) wf_Mo_81 rfl d_Mo_readPart_180 ?_
              refine lv_imul hx hb d_Mo_readPart_183 ?_
              refine x_top (y := nI (2 * k)) (pk_mul 2 k) ?_
              refine lv_iconst (v := (-1)) hx hb d_Mo_readPart_184 (by decide) ?_
              refine x_iast E hP hD hS eB.2.2.2.2.2.2.1 (j := 2 * k) rfl (by omega) (by decide) d_Mo_readPart_185 (fun w60 H locs hU60 hP hD hS => ?_)
              have eB : xMo g w60 q h ad (nI n) (nI N160.2.1) N160.2.2 (nI k) s4 s5 s6 f0 (upd f1 k 3) (upd f2 k N50.1) (upd f3 k N160.1) (upd f4 k (-1)) (upd f5 (2 * k) (-1)) f6 f7 f8 f9 f10 f11 f12 f13 f14 f15 f16 := eB.a5 hU60
              have hQ := hQ.up hU60 (by omega)
              refine lv_aload_n hx hb d_Mo_readPart_186 rfl (lv_at hl 4 rfl) ?_
              refine x_get E hP eB.1 rfl cl6_in 9 (by decide) wf_Mo_25 rfl d_Mo_readPart_187 ?_
              refine lv_iconst (v := 2) hx hb d_Mo_readPart_190 (by decide) ?_
              refine lv_aload_n hx hb d_Mo_readPart_191 rfl (lv_at hl 4 rfl) ?_
              refine x_get E hP eB.1 rfl cl6_in 4 (by decide) wf_Mo_81 rfl d_Mo_readPart_192 ?_
              refine lv_imul hx hb d_Mo_readPart_195 ?_
              refine x_top (y := nI (2 * k)) (pk_mul 2 k) ?_
              refine lv_iconst (v := 1) hx hb d_Mo_readPart_196 (by decide) ?_
              refine lv_iadd hx hb d_Mo_readPart_197 ?_
              refine x_top (y := nI (2 * k + 1)) (nI_1 (2 * k)) ?_
              refine lv_iconst (v := (-1)) hx hb d_Mo_readPart_198 (by decide) ?_
              refine x_iast E hP hD hS eB.2.2.2.2.2.2.1 (j := 2 * k + 1) rfl (by omega) (by decide) d_Mo_readPart_199 (fun w61 H locs hU61 hP hD hS => ?_)
              have eB : xMo g w61 q h ad (nI n) (nI N160.2.1) N160.2.2 (nI k) s4 s5 s6 f0 (upd f1 k 3) (upd f2 k N50.1) (upd f3 k N160.1) (upd f4 k (-1)) (upd (upd f5 (2 * k) (-1)) (2 * k + 1) (-1)) f6 f7 f8 f9 f10 f11 f12 f13 f14 f15 f16 := eB.a5 hU61
              have hQ := hQ.up hU61 (by omega)
              refine lv_iload_n hx hb d_Mo_readPart_200 rfl (lv_at hl 3 rfl) ?_
              refine lv_iconst (v := 1) hx hb d_Mo_readPart_201 (by decide) ?_
              refine lv_icmp_ne (tgt := 228) hx hb d_Mo_readPart_202 (by decide) (fun c202 => ?_) (fun c202 => absurd c202 (by decide))
              refine lv_iload_n hx hb d_Mo_readPart_228 rfl (lv_at hl 3 rfl) ?_
              refine lv_iconst (v := 4) hx hb d_Mo_readPart_229 (by decide) ?_
              refine lv_icmp_ge (tgt := 244) hx hb d_Mo_readPart_230 (by decide) (fun c230 => absurd c230 (by decide)) (fun c230 => ?_)
              refine lv_aload_n hx hb d_Mo_readPart_233 rfl (lv_at hl 4 rfl) ?_
              refine lv_bipush (v := 62) hx hb d_Mo_readPart_234 (by decide) ?_
              refine x_cVv (As := [.int 62]) (rest := []) E (c_Mo_take l g b0 _ eB hn hp 62 (by decide)) wy_Mo_take wl_Mo_92 hP hD hS eB.1 rfl hl.1 ⟨by decide, by decide⟩ ⟨Nat.le_refl _, Nat.le_refl _⟩ rfl (Nat.le_of_ble_eq_true rfl) d_Mo_readPart_236 (fun w62 H locs hr236 hP hD hS => ?_)
              obtain ⟨hq, eB, hp⟩ := hr236
              have hQ := hQ.tr hq
              generalize hT236 : mo_take f0 n 62 N160.2.1 N160.2.2 = T236 at eB hp
              refine lv_aload_n hx hb d_Mo_readPart_239 rfl (lv_at hl 4 rfl) ?_
              refine lv_iconst (v := 0) hx hb d_Mo_readPart_240 (by decide) ?_
              refine x_cVv (As := [.int 0]) (rest := []) E (c_Mo_way l g b0 _ eB hn hp hk9 0 0 rfl (by decide)) wy_Mo_way wl_Mo_95 hP hD hS eB.1 rfl hl.1 ⟨by decide, by decide⟩ ⟨Nat.le_refl _, Nat.le_refl _⟩ rfl (Nat.le_of_ble_eq_true rfl) d_Mo_readPart_241 (fun w63 H locs hr241 hP hD hS => ?_)
              obtain ⟨hq, eB, hp⟩ := hr241
              have hQ := hQ.tr hq
              generalize hN241 : mo_num f0 n 0 29 T236.1 T236.2 = N241 at eB hp
              refine lv_iload_n hx hb d_Mo_readPart_244 rfl (lv_at hl 3 rfl) ?_
              refine lv_iconst (v := 3) hx hb d_Mo_readPart_245 (by decide) ?_
              refine lv_icmp_ne (tgt := 260) hx hb d_Mo_readPart_246 (by decide) (fun c246 => absurd (by decide) c246) (fun c246 => ?_)
              refine lv_aload_n hx hb d_Mo_readPart_249 rfl (lv_at hl 4 rfl) ?_
              refine lv_bipush (v := 44) hx hb d_Mo_readPart_250 (by decide) ?_
              refine x_cVv (As := [.int 44]) (rest := []) E (c_Mo_take l g b0 _ eB hn hp 44 (by decide)) wy_Mo_take wl_Mo_92 hP hD hS eB.1 rfl hl.1 ⟨by decide, by decide⟩ ⟨Nat.le_refl _, Nat.le_refl _⟩ rfl (Nat.le_of_ble_eq_true rfl) d_Mo_readPart_252 (fun w64 H locs hr252 hP hD hS => ?_)
              obtain ⟨hq, eB, hp⟩ := hr252
              have hQ := hQ.tr hq
              generalize hT252 : mo_take f0 n 44 N241.2.1 N241.2.2 = T252 at eB hp
              refine lv_aload_n hx hb d_Mo_readPart_255 rfl (lv_at hl 4 rfl) ?_
              refine lv_iconst (v := 1) hx hb d_Mo_readPart_256 (by decide) ?_
              refine x_cVv (As := [.int 1]) (rest := []) E (c_Mo_way l g b0 _ eB hn hp hk9 1 1 rfl (by decide)) wy_Mo_way wl_Mo_95 hP hD hS eB.1 rfl hl.1 ⟨by decide, by decide⟩ ⟨Nat.le_refl _, Nat.le_refl _⟩ rfl (Nat.le_of_ble_eq_true rfl) d_Mo_readPart_257 (fun w65 H locs hr257 hP hD hS => ?_)
              obtain ⟨hq, eB, hp⟩ := hr257
              have hQ := hQ.tr hq
              generalize hN257 : mo_num f0 n 0 29 T252.1 T252.2 = N257 at eB hp
              refine lv_aload_n hx hb d_Mo_readPart_260 rfl (lv_at hl 4 rfl) ?_
              refine lv_bipush (v := 59) hx hb d_Mo_readPart_261 (by decide) ?_
              refine x_cVv (As := [.int 59]) (rest := []) E (c_Mo_take l g b0 _ eB hn hp 59 (by decide)) wy_Mo_take wl_Mo_92 hP hD hS eB.1 rfl hl.1 ⟨by decide, by decide⟩ ⟨Nat.le_refl _, Nat.le_refl _⟩ rfl (Nat.le_of_ble_eq_true rfl) d_Mo_readPart_263 (fun w66 H locs hr263 hP hD hS => ?_)
              obtain ⟨hq, eB, hp⟩ := hr263
              have hQ := hQ.tr hq
              generalize hT263 : mo_take f0 n 59 N257.2.1 N257.2.2 = T263 at eB hp
              refine lv_aload_n hx hb d_Mo_readPart_266 rfl (lv_at hl 4 rfl) ?_
              refine lv_dup hx hb d_Mo_readPart_267 rfl ?_
              refine x_get E hP eB.1 rfl cl6_in 4 (by decide) wf_Mo_81 rfl d_Mo_readPart_268 ?_
              refine lv_iconst (v := 1) hx hb d_Mo_readPart_271 (by decide) ?_
              refine lv_iadd hx hb d_Mo_readPart_272 ?_
              refine x_top (y := nI (k + 1)) (nI_1 k) ?_
              refine x_put E hP hD hS eB.1 rfl cl6_in cl6_ty cl6_nm 4 (by decide) wf_Mo_81 rfl rfl rfl (Nat.le_of_ble_eq_true rfl) d_Mo_readPart_273 (fun w67 H locs hU67 hP hD hS => ?_)
              have eB : xMo g w67 q h ad (nI n) (nI T263.1) T263.2 (nI (k + 1)) s4 s5 s6 f0 (upd f1 k 3) (upd f2 k N50.1) (upd f3 k N160.1) (upd f4 k (-1)) (upd (upd (upd (upd f5 (2 * k) (-1)) (2 * k + 1) (-1)) (2 * k + 0) N241.1) (2 * k + 1) N257.1) f6 f7 f8 f9 f10 f11 f12 f13 f14 f15 f16 := eB.t3 hU67
              have hQ := hQ.up hU67 (by omega)
              refine x_rv E hr hS ⟨hQ, ?_⟩ hP hD d_Mo_readPart_276
              generalize hX9 : md_step f0 n (t, s2, k, f1, f2, f3, f4, f5) = Y9
              rw [md_step, if_neg (show ¬ (t, s2, k, f1, f2, f3, f4, f5).2.2.1 = 24 from hk24), if_neg (show ¬ mo_kind (mo_look f0 n (t, s2, k, f1, f2, f3, f4, f5).1) = -1 from hk1), hk0, md_q1, hN50, md_q2, ← hW9, hT99, md_q3, show md_lo 3 = 0 from rfl, show md_hi 3 = 9999 from rfl, hN160, md_q4, if_neg (by decide), md_q5, if_neg (by decide), hT236, md_nw, hN241, md_q6, if_pos rfl, hT252, md_nw, hN257, md_q7, hT263] at hX9
              subst hX9
              exact ⟨eB, hp⟩
            · rw [hk0] at hl
              refine lv_aload_n hx hb d_Mo_readPart_96 rfl (lv_at hl 4 rfl) ?_
              refine lv_bipush (v := 61) hx hb d_Mo_readPart_97 (by decide) ?_
              refine x_cVv (As := [.int 61]) (rest := []) E (c_Mo_take l g b0 _ eB hn hp 61 (by decide)) wy_Mo_take wl_Mo_92 hP hD hS eB.1 rfl hl.1 ⟨by decide, by decide⟩ ⟨Nat.le_refl _, Nat.le_refl _⟩ rfl (Nat.le_of_ble_eq_true rfl) d_Mo_readPart_99 (fun w54 H locs hr99 hP hD hS => ?_)
              obtain ⟨hq, eB, hp⟩ := hr99
              have hQ := hQ.tr hq
              generalize hT99 : mo_take f0 n 61 N50.2.1 W9 = T99 at eB hp
              refine lv_aload_n hx hb d_Mo_readPart_102 rfl (lv_at hl 4 rfl) ?_
              refine x_get E hP eB.1 rfl cl6_in 5 (by decide) wf_Mo_13 rfl d_Mo_readPart_103 ?_
              refine lv_aload_n hx hb d_Mo_readPart_106 rfl (lv_at hl 4 rfl) ?_
              refine x_get E hP eB.1 rfl cl6_in 4 (by decide) wf_Mo_81 rfl d_Mo_readPart_107 ?_
              refine lv_iload_n hx hb d_Mo_readPart_110 rfl (lv_at hl 3 rfl) ?_
              refine x_iast E hP hD hS eB.2.2.1 (j := k) rfl hk9 (by decide) d_Mo_readPart_111 (fun w55 H locs hU55 hP hD hS => ?_)
              have eB : xMo g w55 q h ad (nI n) (nI T99.1) T99.2 (nI k) s4 s5 s6 f0 (upd f1 k 4) f2 f3 f4 f5 f6 f7 f8 f9 f10 f11 f12 f13 f14 f15 f16 := eB.a1 hU55
              have hQ := hQ.up hU55 (by omega)
              refine lv_aload_n hx hb d_Mo_readPart_112 rfl (lv_at hl 4 rfl) ?_
              refine x_get E hP eB.1 rfl cl6_in 6 (by decide) wf_Mo_16 rfl d_Mo_readPart_113 ?_
              refine lv_aload_n hx hb d_Mo_readPart_116 rfl (lv_at hl 4 rfl) ?_
              refine x_get E hP eB.1 rfl cl6_in 4 (by decide) wf_Mo_81 rfl d_Mo_readPart_117 ?_
              refine lv_iload_n hx hb d_Mo_readPart_120 rfl (lv_at hl 1 rfl) ?_
              refine x_iast E hP hD hS eB.2.2.2.1 (j := k) rfl hk9 (by decide) d_Mo_readPart_121 (fun w56 H locs hU56 hP hD hS => ?_)
              have eB : xMo g w56 q h ad (nI n) (nI T99.1) T99.2 (nI k) s4 s5 s6 f0 (upd f1 k 4) (upd f2 k N50.1) f3 f4 f5 f6 f7 f8 f9 f10 f11 f12 f13 f14 f15 f16 := eB.a2 hU56
              have hQ := hQ.up hU56 (by omega)
              refine lv_aload_n hx hb d_Mo_readPart_122 rfl (lv_at hl 4 rfl) ?_
              refine x_get E hP eB.1 rfl cl6_in 7 (by decide) wf_Mo_19 rfl d_Mo_readPart_123 ?_
              refine lv_aload_n hx hb d_Mo_readPart_126 rfl (lv_at hl 4 rfl) ?_
              refine x_get E hP eB.1 rfl cl6_in 4 (by decide) wf_Mo_81 rfl d_Mo_readPart_127 ?_
              refine lv_aload_n hx hb d_Mo_readPart_130 rfl (lv_at hl 4 rfl) ?_
              refine lv_iload_n hx hb d_Mo_readPart_131 rfl (lv_at hl 3 rfl) ?_
              refine lv_iconst (v := 2) hx hb d_Mo_readPart_132 (by decide) ?_
              refine lv_icmp_eq (tgt := 141) hx hb d_Mo_readPart_133 (by decide) (fun c133 => absurd c133 (by decide)) (fun c133 => ?_)
              refine lv_iload_n hx hb d_Mo_readPart_136 rfl (lv_at hl 3 rfl) ?_
              refine lv_iconst (v := 3) hx hb d_Mo_readPart_137 (by decide) ?_
              refine lv_icmp_ne (tgt := 145) hx hb d_Mo_readPart_138 (by decide) (fun c138 => ?_) (fun c138 => absurd c138 (by decide))
              refine lv_iconst (v := 1) hx hb d_Mo_readPart_145 (by decide) ?_
              refine lv_iload_n hx hb d_Mo_readPart_146 rfl (lv_at hl 3 rfl) ?_
              refine lv_iconst (v := 4) hx hb d_Mo_readPart_147 (by decide) ?_
              refine lv_icmp_ne (tgt := 157) hx hb d_Mo_readPart_148 (by decide) (fun c148 => absurd (by decide) c148) (fun c148 => ?_)
              refine lv_sipush (v := 999) hx hb d_Mo_readPart_151 (by decide) ?_
              refine lv_goto (tgt := 160) hx hb d_Mo_readPart_154 (by decide) ?_
              refine x_cVi (As := [.int 1, .int 999]) (rest := [.int (nI k), .ref (ad 3)]) E (c_Mo_number l g b0 _ eB hn hp 1 999) wy_Mo_number wl_Mo_84 hP hD hS eB.1 rfl hl.1 ⟨by decide, by decide⟩ ⟨Nat.le_refl _, Nat.le_refl _⟩ rfl (Nat.le_of_ble_eq_true rfl) d_Mo_readPart_160 (fun r160 w57 H locs hr160 hP hD hS => ?_)
              obtain ⟨rfl, hq, eB, hp⟩ := hr160
              have hQ := hQ.tr hq
              generalize hN160 : mo_num f0 n 1 999 T99.1 T99.2 = N160 at eB hp ⊢
              refine x_iast E hP hD hS eB.2.2.2.2.1 (j := k) rfl hk9 (by decide) d_Mo_readPart_163 (fun w58 H locs hU58 hP hD hS => ?_)
              have eB : xMo g w58 q h ad (nI n) (nI N160.2.1) N160.2.2 (nI k) s4 s5 s6 f0 (upd f1 k 4) (upd f2 k N50.1) (upd f3 k N160.1) f4 f5 f6 f7 f8 f9 f10 f11 f12 f13 f14 f15 f16 := eB.a3 hU58
              have hQ := hQ.up hU58 (by omega)
              refine lv_aload_n hx hb d_Mo_readPart_164 rfl (lv_at hl 4 rfl) ?_
              refine x_get E hP eB.1 rfl cl6_in 8 (by decide) wf_Mo_22 rfl d_Mo_readPart_165 ?_
              refine lv_aload_n hx hb d_Mo_readPart_168 rfl (lv_at hl 4 rfl) ?_
              refine x_get E hP eB.1 rfl cl6_in 4 (by decide) wf_Mo_81 rfl d_Mo_readPart_169 ?_
              refine lv_iconst (v := (-1)) hx hb d_Mo_readPart_172 (by decide) ?_
              refine x_iast E hP hD hS eB.2.2.2.2.2.1 (j := k) rfl hk9 (by decide) d_Mo_readPart_173 (fun w59 H locs hU59 hP hD hS => ?_)
              have eB : xMo g w59 q h ad (nI n) (nI N160.2.1) N160.2.2 (nI k) s4 s5 s6 f0 (upd f1 k 4) (upd f2 k N50.1) (upd f3 k N160.1) (upd f4 k (-1)) f5 f6 f7 f8 f9 f10 f11 f12 f13 f14 f15 f16 := eB.a4 hU59
              have hQ := hQ.up hU59 (by omega)
              refine lv_aload_n hx hb d_Mo_readPart_174 rfl (lv_at hl 4 rfl) ?_
              refine x_get E hP eB.1 rfl cl6_in 9 (by decide) wf_Mo_25 rfl d_Mo_readPart_175 ?_
              refine lv_iconst (v := 2) hx hb d_Mo_readPart_178 (by decide) ?_
              refine lv_aload_n hx hb d_Mo_readPart_179 rfl (lv_at hl 4 rfl) ?_
              refine x_get E hP eB.1 rfl cl6_in 4 (by decide) wf_Mo_81 rfl d_Mo_readPart_180 ?_
              refine lv_imul hx hb d_Mo_readPart_183 ?_
              refine x_top (y := nI (2 * k)) (pk_mul 2 k) ?_
              refine lv_iconst (v := (-1)) hx hb d_Mo_readPart_184 (by decide) ?_
              refine x_iast E hP hD hS eB.2.2.2.2.2.2.1 (j := 2 * k) rfl (by omega) (by decide) d_Mo_readPart_185 (fun w60 H locs hU60 hP hD hS => ?_)
              have eB : xMo g w60 q h ad (nI n) (nI N160.2.1) N160.2.2 (nI k) s4 s5 s6 f0 (upd f1 k 4) (upd f2 k N50.1) (upd f3 k N160.1) (upd f4 k (-1)) (upd f5 (2 * k) (-1)) f6 f7 f8 f9 f10 f11 f12 f13 f14 f15 f16 := eB.a5 hU60
              have hQ := hQ.up hU60 (by omega)
              refine lv_aload_n hx hb d_Mo_readPart_186 rfl (lv_at hl 4 rfl) ?_
              refine x_get E hP eB.1 rfl cl6_in 9 (by decide) wf_Mo_25 rfl d_Mo_readPart_187 ?_
              refine lv_iconst (v := 2) hx hb d_Mo_readPart_190 (by decide) ?_
              refine lv_aload_n hx hb d_Mo_readPart_191 rfl (lv_at hl 4 rfl) ?_
              refine x_get E hP eB.1 rfl cl6_in 4 (by decide) wf_Mo_81 rfl d_Mo_readPart_192 ?_
              refine lv_imul hx hb d_Mo_readPart_195 ?_
              refine x_top (y := nI (2 * k)) (pk_mul 2 k) ?_
              refine lv_iconst (v := 1) hx hb d_Mo_readPart_196 (by decide) ?_
              refine lv_iadd hx hb d_Mo_readPart_197 ?_
              refine x_top (y := nI (2 * k + 1)) (nI_1 (2 * k)) ?_
              refine lv_iconst (v := (-1)) hx hb d_Mo_readPart_198 (by decide) ?_
              refine x_iast E hP hD hS eB.2.2.2.2.2.2.1 (j := 2 * k + 1) rfl (by omega) (by decide) d_Mo_readPart_199 (fun w61 H locs hU61 hP hD hS => ?_)
              have eB : xMo g w61 q h ad (nI n) (nI N160.2.1) N160.2.2 (nI k) s4 s5 s6 f0 (upd f1 k 4) (upd f2 k N50.1) (upd f3 k N160.1) (upd f4 k (-1)) (upd (upd f5 (2 * k) (-1)) (2 * k + 1) (-1)) f6 f7 f8 f9 f10 f11 f12 f13 f14 f15 f16 := eB.a5 hU61
              have hQ := hQ.up hU61 (by omega)
              refine lv_iload_n hx hb d_Mo_readPart_200 rfl (lv_at hl 3 rfl) ?_
              refine lv_iconst (v := 1) hx hb d_Mo_readPart_201 (by decide) ?_
              refine lv_icmp_ne (tgt := 228) hx hb d_Mo_readPart_202 (by decide) (fun c202 => ?_) (fun c202 => absurd c202 (by decide))
              refine lv_iload_n hx hb d_Mo_readPart_228 rfl (lv_at hl 3 rfl) ?_
              refine lv_iconst (v := 4) hx hb d_Mo_readPart_229 (by decide) ?_
              refine lv_icmp_ge (tgt := 244) hx hb d_Mo_readPart_230 (by decide) (fun c230 => ?_) (fun c230 => absurd (by decide) c230)
              refine lv_iload_n hx hb d_Mo_readPart_244 rfl (lv_at hl 3 rfl) ?_
              refine lv_iconst (v := 3) hx hb d_Mo_readPart_245 (by decide) ?_
              refine lv_icmp_ne (tgt := 260) hx hb d_Mo_readPart_246 (by decide) (fun c246 => ?_) (fun c246 => absurd c246 (by decide))
              refine lv_aload_n hx hb d_Mo_readPart_260 rfl (lv_at hl 4 rfl) ?_
              refine lv_bipush (v := 59) hx hb d_Mo_readPart_261 (by decide) ?_
              refine x_cVv (As := [.int 59]) (rest := []) E (c_Mo_take l g b0 _ eB hn hp 59 (by decide)) wy_Mo_take wl_Mo_92 hP hD hS eB.1 rfl hl.1 ⟨by decide, by decide⟩ ⟨Nat.le_refl _, Nat.le_refl _⟩ rfl (Nat.le_of_ble_eq_true rfl) d_Mo_readPart_263 (fun w62 H locs hr263 hP hD hS => ?_)
              obtain ⟨hq, eB, hp⟩ := hr263
              have hQ := hQ.tr hq
              generalize hT263 : mo_take f0 n 59 N160.2.1 N160.2.2 = T263 at eB hp
              refine lv_aload_n hx hb d_Mo_readPart_266 rfl (lv_at hl 4 rfl) ?_
              refine lv_dup hx hb d_Mo_readPart_267 rfl ?_
              refine x_get E hP eB.1 rfl cl6_in 4 (by decide) wf_Mo_81 rfl d_Mo_readPart_268 ?_
              refine lv_iconst (v := 1) hx hb d_Mo_readPart_271 (by decide) ?_
              refine lv_iadd hx hb d_Mo_readPart_272 ?_
              refine x_top (y := nI (k + 1)) (nI_1 k) ?_
              refine x_put E hP hD hS eB.1 rfl cl6_in cl6_ty cl6_nm 4 (by decide) wf_Mo_81 rfl rfl rfl (Nat.le_of_ble_eq_true rfl) d_Mo_readPart_273 (fun w63 H locs hU63 hP hD hS => ?_)
              have eB : xMo g w63 q h ad (nI n) (nI T263.1) T263.2 (nI (k + 1)) s4 s5 s6 f0 (upd f1 k 4) (upd f2 k N50.1) (upd f3 k N160.1) (upd f4 k (-1)) (upd (upd f5 (2 * k) (-1)) (2 * k + 1) (-1)) f6 f7 f8 f9 f10 f11 f12 f13 f14 f15 f16 := eB.t3 hU63
              have hQ := hQ.up hU63 (by omega)
              refine x_rv E hr hS ⟨hQ, ?_⟩ hP hD d_Mo_readPart_276
              generalize hX9 : md_step f0 n (t, s2, k, f1, f2, f3, f4, f5) = Y9
              rw [md_step, if_neg (show ¬ (t, s2, k, f1, f2, f3, f4, f5).2.2.1 = 24 from hk24), if_neg (show ¬ mo_kind (mo_look f0 n (t, s2, k, f1, f2, f3, f4, f5).1) = -1 from hk1), hk0, md_q1, hN50, md_q2, ← hW9, hT99, md_q3, show md_lo 4 = 1 from rfl, show md_hi 4 = 999 from rfl, hN160, md_q4, if_neg (by decide), md_q5, if_pos (by decide), md_q6, if_neg (by decide), md_q7, hT263] at hX9
              subst hX9
              exact ⟨eB, hp⟩
          · have hi9 : i < k := Nat.not_le.mp fun h => c63 (nI_le h (by omega))
            refine lv_aload_n hx hb d_Mo_readPart_66 rfl (lv_at hl 4 rfl) ?_
            refine x_get E hP eB.1 rfl cl6_in 3 (by decide) wf_Mo_70 rfl d_Mo_readPart_67 ?_
            refine lv_iconst (v := (-1)) hx hb d_Mo_readPart_70 (by decide) ?_
            refine lv_icmp_ne (tgt := 90) hx hb d_Mo_readPart_71 (by decide) (fun c71 => ?_) (fun c71 => ?_)
            · refine lv_iinc (v := nI (i + 1)) (lv' := [(4, .int (nI (i + 1))), (3, .int N50.1), (2, .int (nI (t + 1))), (1, .int (mo_kind (mo_look f0 n t))), (0, .ref h)]) hx hb d_Mo_readPart_90 hl (k := 0) rfl (nI_1 i) (by decide) rfl (fun ls hl => ?_)
              refine lv_goto (tgt := 57) hx hb d_Mo_readPart_93 (by decide) ?_
              exact ih (i + 1) W9 _ _ _ _ (by omega) (by omega) (by show _ = md_dup f2 N50.1 (t + 1) i (it (md_dup f2 N50.1 (t + 1)) i N50.2.2); rw [← hW, md_dup, if_neg c71]) hl hP hD hS hQ eB
            · refine lv_aload_n hx hb d_Mo_readPart_74 rfl (lv_at hl 4 rfl) ?_
              refine x_get E hP eB.1 rfl cl6_in 6 (by decide) wf_Mo_16 rfl d_Mo_readPart_75 ?_
              refine lv_iload hx hb d_Mo_readPart_78 (lv_at hl 0 rfl) ?_
              refine x_iald E hP eB.2.2.2.1 (j := i) rfl (by omega) (by decide) d_Mo_readPart_80 ?_
              refine lv_iload_n hx hb d_Mo_readPart_81 rfl (lv_at hl 1 rfl) ?_
              refine lv_icmp_ne (tgt := 90) hx hb d_Mo_readPart_82 (by decide) (fun c82 => ?_) (fun c82 => ?_)
              · refine lv_iinc (v := nI (i + 1)) (lv' := [(4, .int (nI (i + 1))), (3, .int N50.1), (2, .int (nI (t + 1))), (1, .int (mo_kind (mo_look f0 n t))), (0, .ref h)]) hx hb d_Mo_readPart_90 hl (k := 0) rfl (nI_1 i) (by decide) rfl (fun ls hl => ?_)
                refine lv_goto (tgt := 57) hx hb d_Mo_readPart_93 (by decide) ?_
                exact ih (i + 1) W9 _ _ _ _ (by omega) (by omega) (by show _ = md_dup f2 N50.1 (t + 1) i (it (md_dup f2 N50.1 (t + 1)) i N50.2.2); rw [← hW, md_dup, if_pos c71, if_neg c82]) hl hP hD hS hQ eB
              · refine lv_aload_n hx hb d_Mo_readPart_85 rfl (lv_at hl 4 rfl) ?_
                refine lv_iload_n hx hb d_Mo_readPart_86 rfl (lv_at hl 2 rfl) ?_
                refine x_cVv (As := [.int (nI (t + 1))]) (rest := []) E (c_Mo_mark l g b0 _ eB (nI (t + 1))) wy_Mo_mark wl_Mo_77 hP hD hS eB.1 rfl hl.1 ⟨by decide, by decide⟩ ⟨Nat.le_refl _, Nat.le_refl _⟩ rfl (Nat.le_of_ble_eq_true rfl) d_Mo_readPart_87 (fun w54 H locs hr87 hP hD hS => ?_)
                obtain ⟨hq, eB⟩ := hr87
                have hQ := hQ.tr hq
                refine lv_iinc (v := nI (i + 1)) (lv' := [(4, .int (nI (i + 1))), (3, .int N50.1), (2, .int (nI (t + 1))), (1, .int (mo_kind (mo_look f0 n t))), (0, .ref h)]) hx hb d_Mo_readPart_90 hl (k := 0) rfl (nI_1 i) (by decide) rfl (fun ls hl => ?_)
                refine lv_goto (tgt := 57) hx hb d_Mo_readPart_93 (by decide) ?_
                exact ih (i + 1) (mo_mark W9 (nI (t + 1))) _ _ _ _ (by omega) (by omega) (by show _ = md_dup f2 N50.1 (t + 1) i (it (md_dup f2 N50.1 (t + 1)) i N50.2.2); rw [← hW, md_dup, if_pos c71, if_pos c82]) hl hP hD hS hQ eB
      exact loop (k + 1) 0 N50.2.2 _ _ _ _ (by omega) (by omega) rfl hl hP hD hS hQ eB
    · refine lv_aload_n hx hb d_Mo_readPart_22 rfl (lv_at hl 1 rfl) ?_
      refine lv_aload_n hx hb d_Mo_readPart_23 rfl (lv_at hl 1 rfl) ?_
      refine x_get E hP eB.1 rfl cl6_in 2 (by decide) wf_Mo_67 rfl d_Mo_readPart_24 ?_
      refine x_cVv (As := [.int (nI t)]) (rest := []) E (c_Mo_mark l g b0 _ eB (nI t)) wy_Mo_mark wl_Mo_77 hP hD hS eB.1 rfl hl.1 ⟨by decide, by decide⟩ ⟨Nat.le_refl _, Nat.le_refl _⟩ rfl (Nat.le_of_ble_eq_true rfl) d_Mo_readPart_27 (fun w2 H locs hr27 hP hD hS => ?_)
      obtain ⟨hq, eB⟩ := hr27
      have hQ := hQ.tr hq
      refine x_rv E hr hS ⟨hQ, ?_⟩ hP hD d_Mo_readPart_30
      generalize hX9 : md_step f0 n (t, s2, k, f1, f2, f3, f4, f5) = Y9
      rw [md_step, if_neg (show ¬ (t, s2, k, f1, f2, f3, f4, f5).2.2.1 = 24 from h14), if_pos (show mo_kind (mo_look f0 n (t, s2, k, f1, f2, f3, f4, f5).1) = -1 from c19)] at hX9
      subst hX9
      exact ⟨eB, hp⟩
end
section
def mo_fd (f : Nat → Int32) (x : Int32) : Nat → Nat → Int32
  | 0, _ => -1
  | c + 1, i => if f i = x then nI i else mo_fd f x c (i + 1)
def mo_find (f : Nat → Int32) (m : Nat) (x : Int32) : Int32 := mo_fd f x m 0
theorem mo_fd_in (f : Nat → Int32) (x : Int32) : ∀ c i : Nat, (mo_fd f x c i = -1 ∧ ∀ b, i ≤ b → b < i + c → ¬ f b = x) ∨ ∃ b, i ≤ b ∧ b < i + c ∧ mo_fd f x c i = nI b ∧ f b = x ∧ ∀ b', i ≤ b' → b' < b → ¬ f b' = x
  | 0, i => Or.inl ⟨rfl, fun b h1 h2 => absurd h2 (by omega)⟩
  | c + 1, i => by
    unfold mo_fd
    split
    · rename_i h
      exact Or.inr ⟨i, Nat.le_refl _, by omega, rfl, h, fun b' h1 h2 => absurd h2 (by omega)⟩
    · rename_i h
      rcases mo_fd_in f x c (i + 1) with ⟨h1, h2⟩ | ⟨b, h1, h2, h3, h4, h5⟩
      · refine Or.inl ⟨h1, fun b h3 h4 => ?_⟩
        by_cases e : b = i
        · rw [e]; exact h
        · exact h2 b (by omega) (by omega)
      · refine Or.inr ⟨b, by omega, by omega, h3, h4, fun b' h6 h7 => ?_⟩
        by_cases e : b' = i
        · rw [e]; exact h
        · exact h5 b' (by omega) h7
theorem mo_find_in (f : Nat → Int32) (m : Nat) (x : Int32) : mo_find f m x = -1 ∨ ∃ b, b < m ∧ mo_find f m x = nI b := by
  rcases mo_fd_in f x m 0 with ⟨h, -⟩ | ⟨b, -, h1, h2, -⟩
  · exact Or.inl h
  · exact Or.inr ⟨b, by omega, h2⟩
def mo_tg (f7 f10 : Nat → Int32) (m a j : Nat) : Int32 := if f10 (2 * a + j) = -1 then -1 else mo_find f7 m (f10 (2 * a + j))
theorem mo_tg_in (f7 f10 : Nat → Int32) (m a j : Nat) : mo_tg f7 f10 m a j = -1 ∨ ∃ b, b < m ∧ mo_tg f7 f10 m a j = nI b := by
  unfold mo_tg
  split
  · exact Or.inl rfl
  · exact mo_find_in f7 m _
def mo_l2 (f7 f10 : Nat → Int32) (m a : Nat) (j : Nat) (L : Nat → Int32) : Nat → Int32 := if mo_tg f7 f10 m a j = -1 then L else upd L (24 * a + (mo_tg f7 f10 m a j).toNatClampNeg) 1
def mo_l1 (f7 f10 : Nat → Int32) (m : Nat) (a : Nat) (L : Nat → Int32) : Nat → Int32 := it (mo_l2 f7 f10 m a) 2 L
def mo_v3 (L : Nat → Int32) (o a b : Nat) : Int32 := if L (24 * a + b) = 0 then (if L (24 * a + o) = 0 then 0 else if L (24 * o + b) = 0 then 0 else 1) else 1
def mo_w3 (o a : Nat) (b : Nat) (L : Nat → Int32) : Nat → Int32 := upd L (24 * a + b) (mo_v3 L o a b)
def mo_w2 (m o : Nat) (a : Nat) (L : Nat → Int32) : Nat → Int32 := it (mo_w3 o a) m L
def mo_w1 (m : Nat) (o : Nat) (L : Nat → Int32) : Nat → Int32 := it (mo_w2 m o) m L
def mo_lay (f7 f10 : Nat → Int32) (m : Nat) (L : Nat → Int32) : Nat → Int32 := it (mo_w1 m) m (it (mo_l1 f7 f10 m) m L)
def mo_gs (f6 f8 f11 : Nat → Int32) (t : Nat) (k : Nat) (v : Int32) : Int32 := if f6 k = 0 then (if f11 (24 * k + t) = 0 then v else if v = -1 then f8 k else if v ≤ f8 k then v else f8 k) else v
def mo_gap (f6 f8 f11 : Nat → Int32) (m t : Nat) : Int32 := it (mo_gs f6 f8 f11 t) m (-1)
set_option maxRecDepth 100000 in
set_option maxHeartbeats 4000000 in
theorem c_Mo_find (l : Launch) (g : xG) (b0 : Nat) (ws : va_W) {q h : Nat} {ad : Nat → Nat} {s0 s1 s2 s3 s5 s6 : Int32} {f0 f1 f2 f3 f4 f5 f6 f7 f8 f9 f10 f11 f12 f13 f14 f16 : Nat → Int32} {f15 : Nat → Int64} {m9 : Nat} (eB : xMo g ws q h ad s0 s1 s2 s3 (nI m9) s5 s6 f0 f1 f2 f3 f4 f5 f6 f7 f8 f9 f10 f11 f12 f13 f14 f15 f16) (hm9 : m9 ≤ 24) (x : Int32) : xRi l g b0 y_Mo_find b_Mo_find 3 (some .int) 0 [.ref h, .int x] ws (fun r => r = mo_find f7 m9 x) := by
  unfold xRi
  refine x_in (by decide) (Nat.le_of_ble_eq_true rfl) ?_
  intro p e s m below meth c ls E hr hin hP hD hl
  obtain ⟨hx, hb, hml, hown, hts, hK, hZ, hb0, hlocks⟩ := id E
  have hS : va_S (xA b0) s.heap s.heap [] := va_S.rf
  have hl : lv_has ls 3 [(0, .ref h), (1, .int x)] := hl
  refine lv_iconst (v := 0) hx hb d_Mo_find_0 (by decide) ?_
  refine lv_istore_n (lv' := [(2, .int 0), (0, .ref h), (1, .int x)]) hx hb d_Mo_find_1 rfl hl (by decide) rfl (fun ls hl => ?_)
  have loop : ∀ (fu i : Nat)  (ls : Array Slot), (m9 < i + fu) → (i ≤ m9) → (mo_find f7 m9 x = mo_fd f7 x (m9 - i) i) → (lv_has ls 3 [(2, .int (nI i)), (0, .ref h), (1, .int x)]) → W p l e (rmL 0) s m ([.ref h, .int x] : List Value).toArray below meth c s.heap [] 0 0 (MQ below (vp_Si (fun r => r = mo_find f7 m9 x)) ([.ref h, .int x] : List Value).toArray s 0 0 (fun _ => False)) (F0 m 2 ls []) := by
    intro fu
    induction fu with
    | zero =>
      intro i ls hk hi hv hl
      omega
    | succ fu ih =>
      intro i ls hk hi hv hl
      refine lv_iload_n hx hb d_Mo_find_2 rfl (lv_at hl 0 rfl) ?_
      refine lv_aload_n hx hb d_Mo_find_3 rfl (lv_at hl 1 rfl) ?_
      refine x_get E hP eB.1 rfl cl6_in 10 (by decide) wf_Mo_101 rfl d_Mo_find_4 ?_
      refine lv_icmp_ge (tgt := 28) hx hb d_Mo_find_7 (by decide) (fun c7 => ?_) (fun c7 => ?_)
      · have hi9 : m9 ≤ i := (nI_leI (by omega) (by omega)).mp c7
        refine lv_iconst (v := (-1)) hx hb d_Mo_find_28 (by decide) ?_
        exact x_pi E hr (by rw [hv, show m9 - i = 0 by omega]; rfl) d_Mo_find_29
      · have hi9 : i < m9 := Nat.not_le.mp fun h => c7 (nI_le h (by omega))
        rw [show m9 - i = (m9 - (i + 1)) + 1 by omega] at hv
        refine lv_aload_n hx hb d_Mo_find_10 rfl (lv_at hl 1 rfl) ?_
        refine x_get E hP eB.1 rfl cl6_in 12 (by decide) wf_Mo_31 rfl d_Mo_find_11 ?_
        refine lv_iload_n hx hb d_Mo_find_14 rfl (lv_at hl 0 rfl) ?_
        refine x_iald E hP eB.2.2.2.2.2.2.2.2.1 (j := i) rfl (by omega) (by decide) d_Mo_find_15 ?_
        refine lv_iload_n hx hb d_Mo_find_16 rfl (lv_at hl 2 rfl) ?_
        refine lv_icmp_ne (tgt := 22) hx hb d_Mo_find_17 (by decide) (fun c17 => ?_) (fun c17 => ?_)
        · refine lv_iinc (v := nI (i + 1)) (lv' := [(2, .int (nI (i + 1))), (0, .ref h), (1, .int x)]) hx hb d_Mo_find_22 hl (k := 0) rfl (nI_1 i) (by decide) rfl (fun ls hl => ?_)
          refine lv_goto (tgt := 2) hx hb d_Mo_find_25 (by decide) ?_
          exact ih (i + 1) _ (by omega) (by omega) (by rw [hv, mo_fd, if_neg c17]) hl
        · refine lv_iload_n hx hb d_Mo_find_20 rfl (lv_at hl 0 rfl) ?_
          exact x_pi E hr (by rw [hv, mo_fd, if_pos c17]) d_Mo_find_21
  exact loop (m9 + 1) 0 _ (by omega) (by omega) rfl hl
set_option maxRecDepth 100000 in
set_option maxHeartbeats 4000000 in
theorem c_Mo_target (l : Launch) (g : xG) (b0 : Nat) (ws : va_W) {q h : Nat} {ad : Nat → Nat} {s0 s1 s2 s3 s5 s6 : Int32} {f0 f1 f2 f3 f4 f5 f6 f7 f8 f9 f10 f11 f12 f13 f14 f16 : Nat → Int32} {f15 : Nat → Int64} {m9 : Nat} (eB : xMo g ws q h ad s0 s1 s2 s3 (nI m9) s5 s6 f0 f1 f2 f3 f4 f5 f6 f7 f8 f9 f10 f11 f12 f13 f14 f15 f16) (hm9 : m9 ≤ 24) (x y : Int32) (t j : Nat) (hx0 : x = nI t) (hy0 : y = nI j) (ht : t < 24) (hj : j < 2) : xRi l g b0 y_Mo_target b_Mo_target 3 (some .int) 1 [.ref h, .int x, .int y] ws (fun r => r = mo_tg f7 f10 m9 t j) := by
  unfold xRi
  refine x_in (by decide) (Nat.le_of_ble_eq_true rfl) ?_
  intro p e s m below meth c ls E hr hin hP hD hl
  obtain ⟨hx, hb, hml, hown, hts, hK, hZ, hb0, hlocks⟩ := id E
  have hS : va_S (xA b0) s.heap s.heap [] := va_S.rf
  have hl : lv_has ls 3 [(0, .ref h), (1, .int x), (2, .int y)] := hl
  refine lv_aload_n hx hb d_Mo_target_0 rfl (lv_at hl 0 rfl) ?_
  refine x_get E hP eB.1 rfl cl6_in 15 (by decide) wf_Mo_40 rfl d_Mo_target_1 ?_
  refine lv_iconst (v := 2) hx hb d_Mo_target_4 (by decide) ?_
  refine lv_iload_n hx hb d_Mo_target_5 rfl (lv_at hl 1 rfl) ?_
  refine lv_imul hx hb d_Mo_target_6 ?_
  refine lv_iload_n hx hb d_Mo_target_7 rfl (lv_at hl 2 rfl) ?_
  refine lv_iadd hx hb d_Mo_target_8 ?_
  refine x_top (y := nI (2 * t + j)) (by rw [hx0, hy0]; exact (congrArg (· + nI j) (pk_mul 2 t)).trans (nI_add (2 * t) j)) ?_
  refine x_iald E hP eB.2.2.2.2.2.2.2.2.2.2.2.1 (j := 2 * t + j) rfl (by omega) (by decide) d_Mo_target_9 ?_
  refine lv_iconst (v := (-1)) hx hb d_Mo_target_10 (by decide) ?_
  refine lv_icmp_ne (tgt := 18) hx hb d_Mo_target_11 (by decide) (fun c11 => ?_) (fun c11 => ?_)
  · refine lv_aload_n hx hb d_Mo_target_18 rfl (lv_at hl 0 rfl) ?_
    refine lv_aload_n hx hb d_Mo_target_19 rfl (lv_at hl 0 rfl) ?_
    refine x_get E hP eB.1 rfl cl6_in 15 (by decide) wf_Mo_40 rfl d_Mo_target_20 ?_
    refine lv_iconst (v := 2) hx hb d_Mo_target_23 (by decide) ?_
    refine lv_iload_n hx hb d_Mo_target_24 rfl (lv_at hl 1 rfl) ?_
    refine lv_imul hx hb d_Mo_target_25 ?_
    refine lv_iload_n hx hb d_Mo_target_26 rfl (lv_at hl 2 rfl) ?_
    refine lv_iadd hx hb d_Mo_target_27 ?_
    refine x_top (y := nI (2 * t + j)) (by rw [hx0, hy0]; exact (congrArg (· + nI j) (pk_mul 2 t)).trans (nI_add (2 * t) j)) ?_
    refine x_iald E hP eB.2.2.2.2.2.2.2.2.2.2.2.1 (j := 2 * t + j) rfl (by omega) (by decide) d_Mo_target_28 ?_
    refine x_cRi (As := [.int (f10 (2 * t + j))]) (rest := []) E (c_Mo_find l g b0 _ eB hm9 (f10 (2 * t + j))) wy_Mo_find wl_Mo_110 hP hD hS eB.1 rfl hl.1 ⟨by decide, by decide⟩ ⟨Nat.le_refl _, Nat.le_refl _⟩ rfl (Nat.le_of_ble_eq_true rfl) d_Mo_target_29 (fun r29 hr29 => ?_)
    subst hr29
    exact x_pi E hr (by rw [mo_tg, if_neg c11]) d_Mo_target_32
  · refine lv_iconst (v := (-1)) hx hb d_Mo_target_14 (by decide) ?_
    refine lv_goto (tgt := 32) hx hb d_Mo_target_15 (by decide) ?_
    exact x_pi E hr (by rw [mo_tg, if_pos c11]) d_Mo_target_32
set_option maxRecDepth 100000 in
set_option maxHeartbeats 4000000 in
theorem c_Mo_gapOf (l : Launch) (g : xG) (b0 : Nat) (ws : va_W) {q h : Nat} {ad : Nat → Nat} {s0 s1 s2 s3 s5 s6 : Int32} {f0 f1 f2 f3 f4 f5 f6 f7 f8 f9 f10 f11 f12 f13 f14 f16 : Nat → Int32} {f15 : Nat → Int64} {m9 : Nat} (eB : xMo g ws q h ad s0 s1 s2 s3 (nI m9) s5 s6 f0 f1 f2 f3 f4 f5 f6 f7 f8 f9 f10 f11 f12 f13 f14 f15 f16) (hm9 : m9 ≤ 24) (x : Int32) (t : Nat) (hx0 : x = nI t) (ht : t < 24) : xRi l g b0 y_Mo_gapOf b_Mo_gapOf 4 (some .int) 0 [.ref h, .int x] ws (fun r => r = mo_gap f6 f8 f11 m9 t) := by
  unfold xRi
  refine x_in (by decide) (Nat.le_of_ble_eq_true rfl) ?_
  intro p e s m below meth c ls E hr hin hP hD hl
  obtain ⟨hx, hb, hml, hown, hts, hK, hZ, hb0, hlocks⟩ := id E
  have hS : va_S (xA b0) s.heap s.heap [] := va_S.rf
  have hl : lv_has ls 4 [(0, .ref h), (1, .int x)] := hl
  refine lv_iconst (v := (-1)) hx hb d_Mo_gapOf_0 (by decide) ?_
  refine lv_istore_n (lv' := [(2, .int (-1)), (0, .ref h), (1, .int x)]) hx hb d_Mo_gapOf_1 rfl hl (by decide) rfl (fun ls hl => ?_)
  refine lv_iconst (v := 0) hx hb d_Mo_gapOf_2 (by decide) ?_
  refine lv_istore_n (lv' := [(3, .int 0), (2, .int (-1)), (0, .ref h), (1, .int x)]) hx hb d_Mo_gapOf_3 rfl hl (by decide) rfl (fun ls hl => ?_)
  have loop : ∀ (fu i : Nat) (v : Int32) (ls : Array Slot), (m9 < i + fu) → (i ≤ m9) → (v = it (mo_gs f6 f8 f11 t) i (-1)) → (lv_has ls 4 [(3, .int (nI i)), (2, .int v), (0, .ref h), (1, .int x)]) → W p l e (rmL 0) s m ([.ref h, .int x] : List Value).toArray below meth c s.heap [] 0 0 (MQ below (vp_Si (fun r => r = mo_gap f6 f8 f11 m9 t)) ([.ref h, .int x] : List Value).toArray s 0 0 (fun _ => False)) (F0 m 4 ls []) := by
    intro fu
    induction fu with
    | zero =>
      intro i v ls hk hi hv hl
      omega
    | succ fu ih =>
      intro i v ls hk hi hv hl
      refine lv_iload_n hx hb d_Mo_gapOf_4 rfl (lv_at hl 0 rfl) ?_
      refine lv_aload_n hx hb d_Mo_gapOf_5 rfl (lv_at hl 2 rfl) ?_
      refine x_get E hP eB.1 rfl cl6_in 10 (by decide) wf_Mo_101 rfl d_Mo_gapOf_6 ?_
      refine lv_icmp_ge (tgt := 63) hx hb d_Mo_gapOf_9 (by decide) (fun c9 => ?_) (fun c9 => ?_)
      · have hi9 : m9 ≤ i := (nI_leI (by omega) (by omega)).mp c9
        refine lv_iload_n hx hb d_Mo_gapOf_63 rfl (lv_at hl 1 rfl) ?_
        exact x_pi E hr (by rw [hv, mo_gap, show i = m9 by omega]) d_Mo_gapOf_64
      · have hi9 : i < m9 := Nat.not_le.mp fun h => c9 (nI_le h (by omega))
        refine lv_aload_n hx hb d_Mo_gapOf_12 rfl (lv_at hl 2 rfl) ?_
        refine x_get E hP eB.1 rfl cl6_in 11 (by decide) wf_Mo_28 rfl d_Mo_gapOf_13 ?_
        refine lv_iload_n hx hb d_Mo_gapOf_16 rfl (lv_at hl 0 rfl) ?_
        refine x_iald E hP eB.2.2.2.2.2.2.2.1 (j := i) rfl (by omega) (by decide) d_Mo_gapOf_17 ?_
        refine lv_if_ne (tgt := 57) hx hb d_Mo_gapOf_18 (by decide) (fun c18 => ?_) (fun c18 => ?_)
        · refine lv_iinc (v := nI (i + 1)) (lv' := [(3, .int (nI (i + 1))), (2, .int v), (0, .ref h), (1, .int x)]) hx hb d_Mo_gapOf_57 hl (k := 0) rfl (nI_1 i) (by decide) rfl (fun ls hl => ?_)
          refine lv_goto (tgt := 4) hx hb d_Mo_gapOf_60 (by decide) ?_
          exact ih (i + 1) v _ (by omega) (by omega) (by show _ = mo_gs f6 f8 f11 t i (it (mo_gs f6 f8 f11 t) i (-1)); rw [← hv, mo_gs, if_neg c18]) hl
        · refine lv_aload_n hx hb d_Mo_gapOf_21 rfl (lv_at hl 2 rfl) ?_
          refine x_get E hP eB.1 rfl cl6_in 16 (by decide) wf_Mo_43 rfl d_Mo_gapOf_22 ?_
          refine lv_bipush (v := 24) hx hb d_Mo_gapOf_25 (by decide) ?_
          refine lv_iload_n hx hb d_Mo_gapOf_27 rfl (lv_at hl 0 rfl) ?_
          refine lv_imul hx hb d_Mo_gapOf_28 ?_
          refine lv_iload_n hx hb d_Mo_gapOf_29 rfl (lv_at hl 3 rfl) ?_
          refine lv_iadd hx hb d_Mo_gapOf_30 ?_
          refine x_top (y := nI (24 * i + t)) (by rw [hx0]; exact (congrArg (· + nI t) (pk_mul 24 i)).trans (nI_add (24 * i) t)) ?_
          refine x_zald E hP eB.2.2.2.2.2.2.2.2.2.2.2.2.1 (j := 24 * i + t) rfl (by omega) (by decide) d_Mo_gapOf_31 ?_
          refine lv_if_eq (tgt := 57) hx hb d_Mo_gapOf_32 (by decide) (fun c32 => ?_) (fun c32 => ?_)
          · refine lv_iinc (v := nI (i + 1)) (lv' := [(3, .int (nI (i + 1))), (2, .int v), (0, .ref h), (1, .int x)]) hx hb d_Mo_gapOf_57 hl (k := 0) rfl (nI_1 i) (by decide) rfl (fun ls hl => ?_)
            refine lv_goto (tgt := 4) hx hb d_Mo_gapOf_60 (by decide) ?_
            exact ih (i + 1) v _ (by omega) (by omega) (by show _ = mo_gs f6 f8 f11 t i (it (mo_gs f6 f8 f11 t) i (-1)); rw [← hv, mo_gs, if_pos c18, if_pos c32]) hl
          · refine lv_iload_n hx hb d_Mo_gapOf_35 rfl (lv_at hl 1 rfl) ?_
            refine lv_iconst (v := (-1)) hx hb d_Mo_gapOf_36 (by decide) ?_
            refine lv_icmp_eq (tgt := 50) hx hb d_Mo_gapOf_37 (by decide) (fun c37 => ?_) (fun c37 => ?_)
            · refine lv_aload_n hx hb d_Mo_gapOf_50 rfl (lv_at hl 2 rfl) ?_
              refine x_get E hP eB.1 rfl cl6_in 13 (by decide) wf_Mo_34 rfl d_Mo_gapOf_51 ?_
              refine lv_iload_n hx hb d_Mo_gapOf_54 rfl (lv_at hl 0 rfl) ?_
              refine x_iald E hP eB.2.2.2.2.2.2.2.2.2.1 (j := i) rfl (by omega) (by decide) d_Mo_gapOf_55 ?_
              refine lv_istore_n (lv' := [(2, .int (f8 i)), (3, .int (nI i)), (0, .ref h), (1, .int x)]) hx hb d_Mo_gapOf_56 rfl hl (by decide) rfl (fun ls hl => ?_)
              refine lv_iinc (v := nI (i + 1)) (lv' := [(3, .int (nI (i + 1))), (2, .int (f8 i)), (0, .ref h), (1, .int x)]) hx hb d_Mo_gapOf_57 hl (k := 1) rfl (nI_1 i) (by decide) rfl (fun ls hl => ?_)
              refine lv_goto (tgt := 4) hx hb d_Mo_gapOf_60 (by decide) ?_
              exact ih (i + 1) (f8 i) _ (by omega) (by omega) (by show _ = mo_gs f6 f8 f11 t i (it (mo_gs f6 f8 f11 t) i (-1)); rw [← hv, mo_gs, if_pos c18, if_neg c32, if_pos c37]) hl
            · refine lv_aload_n hx hb d_Mo_gapOf_40 rfl (lv_at hl 2 rfl) ?_
              refine x_get E hP eB.1 rfl cl6_in 13 (by decide) wf_Mo_34 rfl d_Mo_gapOf_41 ?_
              refine lv_iload_n hx hb d_Mo_gapOf_44 rfl (lv_at hl 0 rfl) ?_
              refine x_iald E hP eB.2.2.2.2.2.2.2.2.2.1 (j := i) rfl (by omega) (by decide) d_Mo_gapOf_45 ?_
              refine lv_iload_n hx hb d_Mo_gapOf_46 rfl (lv_at hl 1 rfl) ?_
              refine lv_icmp_ge (tgt := 57) hx hb d_Mo_gapOf_47 (by decide) (fun c47 => ?_) (fun c47 => ?_)
              · refine lv_iinc (v := nI (i + 1)) (lv' := [(3, .int (nI (i + 1))), (2, .int v), (0, .ref h), (1, .int x)]) hx hb d_Mo_gapOf_57 hl (k := 0) rfl (nI_1 i) (by decide) rfl (fun ls hl => ?_)
                refine lv_goto (tgt := 4) hx hb d_Mo_gapOf_60 (by decide) ?_
                exact ih (i + 1) v _ (by omega) (by omega) (by show _ = mo_gs f6 f8 f11 t i (it (mo_gs f6 f8 f11 t) i (-1)); rw [← hv, mo_gs, if_pos c18, if_neg c32, if_neg c37, if_pos c47]) hl
              · refine lv_aload_n hx hb d_Mo_gapOf_50 rfl (lv_at hl 2 rfl) ?_
                refine x_get E hP eB.1 rfl cl6_in 13 (by decide) wf_Mo_34 rfl d_Mo_gapOf_51 ?_
                refine lv_iload_n hx hb d_Mo_gapOf_54 rfl (lv_at hl 0 rfl) ?_
                refine x_iald E hP eB.2.2.2.2.2.2.2.2.2.1 (j := i) rfl (by omega) (by decide) d_Mo_gapOf_55 ?_
                refine lv_istore_n (lv' := [(2, .int (f8 i)), (3, .int (nI i)), (0, .ref h), (1, .int x)]) hx hb d_Mo_gapOf_56 rfl hl (by decide) rfl (fun ls hl => ?_)
                refine lv_iinc (v := nI (i + 1)) (lv' := [(3, .int (nI (i + 1))), (2, .int (f8 i)), (0, .ref h), (1, .int x)]) hx hb d_Mo_gapOf_57 hl (k := 1) rfl (nI_1 i) (by decide) rfl (fun ls hl => ?_)
                refine lv_goto (tgt := 4) hx hb d_Mo_gapOf_60 (by decide) ?_
                exact ih (i + 1) (f8 i) _ (by omega) (by omega) (by show _ = mo_gs f6 f8 f11 t i (it (mo_gs f6 f8 f11 t) i (-1)); rw [← hv, mo_gs, if_pos c18, if_neg c32, if_neg c37, if_neg c47]) hl
  exact loop (m9 + 1) 0 (-1) _ (by omega) (by omega) rfl hl
set_option maxRecDepth 100000 in
set_option maxHeartbeats 4000000 in
theorem c_Mo_lay (l : Launch) (g : xG) (b0 : Nat) (ws : va_W) {q h : Nat} {ad : Nat → Nat} {s0 s1 s2 s3 s5 s6 : Int32} {f0 f1 f2 f3 f4 f5 f6 f7 f8 f9 f10 f11 f12 f13 f14 f16 : Nat → Int32} {f15 : Nat → Int64} {m9 : Nat} (eB : xMo g ws q h ad s0 s1 s2 s3 (nI m9) s5 s6 f0 f1 f2 f3 f4 f5 f6 f7 f8 f9 f10 f11 f12 f13 f14 f15 f16) (hm9 : m9 ≤ 24) : xMv l g b0 y_Mo_lay b_Mo_lay 4 2 [.ref h] ws (fun u => xQ q (q + 18) ws u ∧ ∃ Lz, (∀ j, j < 576 → Lz j = 0) ∧ xMo g u q h ad s0 s1 s2 s3 (nI m9) s5 s6 f0 f1 f2 f3 f4 f5 f6 f7 f8 f9 f10 (mo_lay f7 f10 m9 Lz) f12 f13 f14 f15 f16) := by
  unfold xMv
  refine x_in (by decide) (Nat.le_of_ble_eq_true rfl) ?_
  intro p e s m below meth c ls E hr hin hP hD hl
  obtain ⟨hx, hb, hml, hown, hts, hK, hZ, hb0, hlocks⟩ := id E
  have hS : va_S (xA b0) s.heap s.heap [] := va_S.rf
  have hl : lv_has ls 4 [(0, .ref h)] := hl
  have hQ : xQ q (q + 18) ws ws := xQ.rf
  refine lv_iconst (v := 0) hx hb d_Mo_lay_0 (by decide) ?_
  refine lv_istore_n (lv' := [(1, .int 0), (0, .ref h)]) hx hb d_Mo_lay_1 rfl hl (by decide) rfl (fun ls hl => ?_)
  have lb1 : ∀ (fu i : Nat) (Lz : Nat → Int32) (v1 : va_W) (H : Heap) (locs : List Loc) (ls : Array Slot), (m9 < i + fu) → (i ≤ m9) → (∀ j, j < 576 → Lz j = 0) → (lv_has ls 4 [(1, .int (nI i)), (0, .ref h)]) → (va_P (xD g) vwCl v1 H) → (va_D (xA b0) v1) → (va_S (xA b0) s.heap H locs) → (xQ q (q + 18) ws v1) → (xMo g v1 q h ad s0 s1 s2 s3 (nI m9) s5 s6 f0 f1 f2 f3 f4 f5 f6 f7 f8 f9 f10 (it (mo_w1 m9) i (it (mo_l1 f7 f10 m9) m9 Lz)) f12 f13 f14 f15 f16) → W p l e (rmL 2) s m ([.ref h] : List Value).toArray below meth c H locs 0 0 (MQ below (va_Qv (fun u => xQ q (q + 18) ws u ∧ ∃ Lz, (∀ j, j < 576 → Lz j = 0) ∧ xMo g u q h ad s0 s1 s2 s3 (nI m9) s5 s6 f0 f1 f2 f3 f4 f5 f6 f7 f8 f9 f10 (mo_lay f7 f10 m9 Lz) f12 f13 f14 f15 f16) (fun u t => va_P (xD g) vwCl u t.heap ∧ va_D (xA b0) u) (xA b0)) ([.ref h] : List Value).toArray s 0 0 (xA b0)) (F0 m 80 ls []) := by
    intro fu
    induction fu with
    | zero =>
      intro i Lz v1 H locs ls hk hi hz hl hP hD hS hQ eB
      omega
    | succ fu ih =>
      intro i Lz v1 H locs ls hk hi hz hl hP hD hS hQ eB
      refine lv_iload_n hx hb d_Mo_lay_80 rfl (lv_at hl 0 rfl) ?_
      refine lv_aload_n hx hb d_Mo_lay_81 rfl (lv_at hl 1 rfl) ?_
      refine x_get E hP eB.1 rfl cl6_in 10 (by decide) wf_Mo_101 rfl d_Mo_lay_82 ?_
      refine lv_icmp_ge (tgt := 184) hx hb d_Mo_lay_85 (by decide) (fun c85 => ?_) (fun c85 => ?_)
      · have hi9 : m9 ≤ i := (nI_leI (by omega) (by omega)).mp c85
        rw [show i = m9 by omega] at eB
        exact x_rv E hr hS ⟨hQ, Lz, hz, eB⟩ hP hD d_Mo_lay_184
      · have hi9 : i < m9 := Nat.not_le.mp fun h => c85 (nI_le h (by omega))
        refine lv_iconst (v := 0) hx hb d_Mo_lay_88 (by decide) ?_
        refine lv_istore_n (lv' := [(2, .int 0), (1, .int (nI i)), (0, .ref h)]) hx hb d_Mo_lay_89 rfl hl (by decide) rfl (fun ls hl => ?_)
        have lb2 : ∀ (fv a : Nat)  (v2 : va_W) (H : Heap) (locs : List Loc) (ls : Array Slot), (m9 < a + fv) → (a ≤ m9) → (lv_has ls 4 [(2, .int (nI a)), (1, .int (nI i)), (0, .ref h)]) → (va_P (xD g) vwCl v2 H) → (va_D (xA b0) v2) → (va_S (xA b0) s.heap H locs) → (xQ q (q + 18) ws v2) → (xMo g v2 q h ad s0 s1 s2 s3 (nI m9) s5 s6 f0 f1 f2 f3 f4 f5 f6 f7 f8 f9 f10 (it (mo_w2 m9 i) a (it (mo_w1 m9) i (it (mo_l1 f7 f10 m9) m9 Lz))) f12 f13 f14 f15 f16) → W p l e (rmL 2) s m ([.ref h] : List Value).toArray below meth c H locs 0 0 (MQ below (va_Qv (fun u => xQ q (q + 18) ws u ∧ ∃ Lz, (∀ j, j < 576 → Lz j = 0) ∧ xMo g u q h ad s0 s1 s2 s3 (nI m9) s5 s6 f0 f1 f2 f3 f4 f5 f6 f7 f8 f9 f10 (mo_lay f7 f10 m9 Lz) f12 f13 f14 f15 f16) (fun u t => va_P (xD g) vwCl u t.heap ∧ va_D (xA b0) u) (xA b0)) ([.ref h] : List Value).toArray s 0 0 (xA b0)) (F0 m 90 ls []) := by
          intro fv
          induction fv with
          | zero =>
            intro a v2 H locs ls hk ha hl hP hD hS hQ eB
            omega
          | succ fv ih2 =>
            intro a v2 H locs ls hk ha hl hP hD hS hQ eB
            refine lv_iload_n hx hb d_Mo_lay_90 rfl (lv_at hl 0 rfl) ?_
            refine lv_aload_n hx hb d_Mo_lay_91 rfl (lv_at hl 2 rfl) ?_
            refine x_get E hP eB.1 rfl cl6_in 10 (by decide) wf_Mo_101 rfl d_Mo_lay_92 ?_
            refine lv_icmp_ge (tgt := 178) hx hb d_Mo_lay_95 (by decide) (fun c95 => ?_) (fun c95 => ?_)
            · have ha8 : m9 ≤ a := (nI_leI (by omega) (by omega)).mp c95
              refine lv_iinc (v := nI (i + 1)) (lv' := [(1, .int (nI (i + 1))), (2, .int (nI a)), (0, .ref h)]) hx hb d_Mo_lay_178 hl (k := 1) rfl (nI_1 i) (by decide) rfl (fun ls hl => ?_)
              refine lv_goto (tgt := 80) hx hb d_Mo_lay_181 (by decide) ?_
              rw [show a = m9 by omega] at eB
              have eB : xMo g _ q h ad s0 s1 s2 s3 (nI m9) s5 s6 f0 f1 f2 f3 f4 f5 f6 f7 f8 f9 f10 (it (mo_w1 m9) (i + 1) (it (mo_l1 f7 f10 m9) m9 Lz)) f12 f13 f14 f15 f16 := eB
              exact ih (i + 1) Lz _ _ _ _ (by omega) (by omega) hz (lv_sub hl [0, 2] rfl) hP hD hS hQ eB
            · have ha8 : a < m9 := Nat.not_le.mp fun h => c95 (nI_le h (by omega))
              refine lv_iconst (v := 0) hx hb d_Mo_lay_98 (by decide) ?_
              refine lv_istore_n (lv' := [(3, .int 0), (2, .int (nI a)), (1, .int (nI i)), (0, .ref h)]) hx hb d_Mo_lay_99 rfl hl (by decide) rfl (fun ls hl => ?_)
              have lb3 : ∀ (fw b : Nat)  (v3 : va_W) (H : Heap) (locs : List Loc) (ls : Array Slot), (m9 < b + fw) → (b ≤ m9) → (lv_has ls 4 [(3, .int (nI b)), (2, .int (nI a)), (1, .int (nI i)), (0, .ref h)]) → (va_P (xD g) vwCl v3 H) → (va_D (xA b0) v3) → (va_S (xA b0) s.heap H locs) → (xQ q (q + 18) ws v3) → (xMo g v3 q h ad s0 s1 s2 s3 (nI m9) s5 s6 f0 f1 f2 f3 f4 f5 f6 f7 f8 f9 f10 (it (mo_w3 i a) b (it (mo_w2 m9 i) a (it (mo_w1 m9) i (it (mo_l1 f7 f10 m9) m9 Lz)))) f12 f13 f14 f15 f16) → W p l e (rmL 2) s m ([.ref h] : List Value).toArray below meth c H locs 0 0 (MQ below (va_Qv (fun u => xQ q (q + 18) ws u ∧ ∃ Lz, (∀ j, j < 576 → Lz j = 0) ∧ xMo g u q h ad s0 s1 s2 s3 (nI m9) s5 s6 f0 f1 f2 f3 f4 f5 f6 f7 f8 f9 f10 (mo_lay f7 f10 m9 Lz) f12 f13 f14 f15 f16) (fun u t => va_P (xD g) vwCl u t.heap ∧ va_D (xA b0) u) (xA b0)) ([.ref h] : List Value).toArray s 0 0 (xA b0)) (F0 m 100 ls []) := by
                intro fw
                induction fw with
                | zero =>
                  intro b v3 H locs ls hk hb9 hl hP hD hS hQ eB
                  omega
                | succ fw ih3 =>
                  intro b v3 H locs ls hk hb9 hl hP hD hS hQ eB
                  have eV : it (mo_w3 i a) (b + 1) (it (mo_w2 m9 i) a (it (mo_w1 m9) i (it (mo_l1 f7 f10 m9) m9 Lz))) = mo_w3 i a b (it (mo_w3 i a) b (it (mo_w2 m9 i) a (it (mo_w1 m9) i (it (mo_l1 f7 f10 m9) m9 Lz)))) := rfl
                  generalize eV0 : it (mo_w3 i a) b (it (mo_w2 m9 i) a (it (mo_w1 m9) i (it (mo_l1 f7 f10 m9) m9 Lz))) = V at eB eV
                  refine lv_iload_n hx hb d_Mo_lay_100 rfl (lv_at hl 0 rfl) ?_
                  refine lv_aload_n hx hb d_Mo_lay_101 rfl (lv_at hl 3 rfl) ?_
                  refine x_get E hP eB.1 rfl cl6_in 10 (by decide) wf_Mo_101 rfl d_Mo_lay_102 ?_
                  refine lv_icmp_ge (tgt := 172) hx hb d_Mo_lay_105 (by decide) (fun c105 => ?_) (fun c105 => ?_)
                  · have hb8 : m9 ≤ b := (nI_leI (by omega) (by omega)).mp c105
                    refine lv_iinc (v := nI (a + 1)) (lv' := [(2, .int (nI (a + 1))), (3, .int (nI b)), (1, .int (nI i)), (0, .ref h)]) hx hb d_Mo_lay_172 hl (k := 1) rfl (nI_1 a) (by decide) rfl (fun ls hl => ?_)
                    refine lv_goto (tgt := 90) hx hb d_Mo_lay_175 (by decide) ?_
                    rw [← eV0, show b = m9 by omega] at eB
                    have eB : xMo g _ q h ad s0 s1 s2 s3 (nI m9) s5 s6 f0 f1 f2 f3 f4 f5 f6 f7 f8 f9 f10 (it (mo_w2 m9 i) (a + 1) (it (mo_w1 m9) i (it (mo_l1 f7 f10 m9) m9 Lz))) f12 f13 f14 f15 f16 := eB
                    exact ih2 (a + 1) _ _ _ _ (by omega) (by omega) (lv_sub hl [0, 2, 3] rfl) hP hD hS hQ eB
                  · have hb8 : b < m9 := Nat.not_le.mp fun h => c105 (nI_le h (by omega))
                    refine lv_aload_n hx hb d_Mo_lay_108 rfl (lv_at hl 3 rfl) ?_
                    refine x_get E hP eB.1 rfl cl6_in 16 (by decide) wf_Mo_43 rfl d_Mo_lay_109 ?_
                    refine lv_bipush (v := 24) hx hb d_Mo_lay_112 (by decide) ?_
                    refine lv_iload_n hx hb d_Mo_lay_114 rfl (lv_at hl 1 rfl) ?_
                    refine lv_imul hx hb d_Mo_lay_115 ?_
                    refine lv_iload_n hx hb d_Mo_lay_116 rfl (lv_at hl 0 rfl) ?_
                    refine lv_iadd hx hb d_Mo_lay_117 ?_
                    refine x_top (y := nI (24 * a + b)) (by exact (congrArg (· + nI b) (pk_mul 24 a)).trans (nI_add (24 * a) b)) ?_
                    refine lv_aload_n hx hb d_Mo_lay_118 rfl (lv_at hl 3 rfl) ?_
                    refine x_get E hP eB.1 rfl cl6_in 16 (by decide) wf_Mo_43 rfl d_Mo_lay_119 ?_
                    refine lv_bipush (v := 24) hx hb d_Mo_lay_122 (by decide) ?_
                    refine lv_iload_n hx hb d_Mo_lay_124 rfl (lv_at hl 1 rfl) ?_
                    refine lv_imul hx hb d_Mo_lay_125 ?_
                    refine lv_iload_n hx hb d_Mo_lay_126 rfl (lv_at hl 0 rfl) ?_
                    refine lv_iadd hx hb d_Mo_lay_127 ?_
                    refine x_top (y := nI (24 * a + b)) (by exact (congrArg (· + nI b) (pk_mul 24 a)).trans (nI_add (24 * a) b)) ?_
                    refine x_zald E hP eB.2.2.2.2.2.2.2.2.2.2.2.2.1 (j := 24 * a + b) rfl (by omega) (by decide) d_Mo_lay_128 ?_
                    refine lv_if_ne (tgt := 160) hx hb d_Mo_lay_129 (by decide) (fun c129 => ?_) (fun c129 => ?_)
                    · refine lv_iconst (v := 1) hx hb d_Mo_lay_160 (by decide) ?_
                      refine lv_goto (tgt := 165) hx hb d_Mo_lay_161 (by decide) ?_
                      refine x_zast E hP hD hS eB.2.2.2.2.2.2.2.2.2.2.2.2.1 (j := 24 * a + b) rfl (by omega) (by decide) rfl d_Mo_lay_165 (fun w151 H locs hU151 hP hD hS => ?_)
                      have eB : xMo g w151 q h ad s0 s1 s2 s3 (nI m9) s5 s6 f0 f1 f2 f3 f4 f5 f6 f7 f8 f9 f10 (upd V (24 * a + b) 1) f12 f13 f14 f15 f16 := eB.a11 hU151
                      have hQ := hQ.up hU151 (by omega)
                      refine lv_iinc (v := nI (b + 1)) (lv' := [(3, .int (nI (b + 1))), (2, .int (nI a)), (1, .int (nI i)), (0, .ref h)]) hx hb d_Mo_lay_166 hl (k := 0) rfl (nI_1 b) (by decide) rfl (fun ls hl => ?_)
                      refine lv_goto (tgt := 100) hx hb d_Mo_lay_169 (by decide) ?_
                      have e7 : upd V (24 * a + b) 1 = it (mo_w3 i a) (b + 1) (it (mo_w2 m9 i) a (it (mo_w1 m9) i (it (mo_l1 f7 f10 m9) m9 Lz))) := by rw [eV, mo_w3, mo_v3, if_neg c129]
                      rw [e7] at eB
                      exact ih3 (b + 1) _ _ _ _ (by omega) (by omega) hl hP hD hS hQ eB
                    · refine lv_aload_n hx hb d_Mo_lay_132 rfl (lv_at hl 3 rfl) ?_
                      refine x_get E hP eB.1 rfl cl6_in 16 (by decide) wf_Mo_43 rfl d_Mo_lay_133 ?_
                      refine lv_bipush (v := 24) hx hb d_Mo_lay_136 (by decide) ?_
                      refine lv_iload_n hx hb d_Mo_lay_138 rfl (lv_at hl 1 rfl) ?_
                      refine lv_imul hx hb d_Mo_lay_139 ?_
                      refine lv_iload_n hx hb d_Mo_lay_140 rfl (lv_at hl 2 rfl) ?_
                      refine lv_iadd hx hb d_Mo_lay_141 ?_
                      refine x_top (y := nI (24 * a + i)) (by exact (congrArg (· + nI i) (pk_mul 24 a)).trans (nI_add (24 * a) i)) ?_
                      refine x_zald E hP eB.2.2.2.2.2.2.2.2.2.2.2.2.1 (j := 24 * a + i) rfl (by omega) (by decide) d_Mo_lay_142 ?_
                      refine lv_if_eq (tgt := 164) hx hb d_Mo_lay_143 (by decide) (fun c143 => ?_) (fun c143 => ?_)
                      · refine lv_iconst (v := 0) hx hb d_Mo_lay_164 (by decide) ?_
                        refine x_zast E hP hD hS eB.2.2.2.2.2.2.2.2.2.2.2.2.1 (j := 24 * a + b) rfl (by omega) (by decide) rfl d_Mo_lay_165 (fun w151 H locs hU151 hP hD hS => ?_)
                        have eB : xMo g w151 q h ad s0 s1 s2 s3 (nI m9) s5 s6 f0 f1 f2 f3 f4 f5 f6 f7 f8 f9 f10 (upd V (24 * a + b) 0) f12 f13 f14 f15 f16 := eB.a11 hU151
                        have hQ := hQ.up hU151 (by omega)
                        refine lv_iinc (v := nI (b + 1)) (lv' := [(3, .int (nI (b + 1))), (2, .int (nI a)), (1, .int (nI i)), (0, .ref h)]) hx hb d_Mo_lay_166 hl (k := 0) rfl (nI_1 b) (by decide) rfl (fun ls hl => ?_)
                        refine lv_goto (tgt := 100) hx hb d_Mo_lay_169 (by decide) ?_
                        have e7 : upd V (24 * a + b) 0 = it (mo_w3 i a) (b + 1) (it (mo_w2 m9 i) a (it (mo_w1 m9) i (it (mo_l1 f7 f10 m9) m9 Lz))) := by rw [eV, mo_w3, mo_v3, if_pos c129, if_pos c143]
                        rw [e7] at eB
                        exact ih3 (b + 1) _ _ _ _ (by omega) (by omega) hl hP hD hS hQ eB
                      · refine lv_aload_n hx hb d_Mo_lay_146 rfl (lv_at hl 3 rfl) ?_
                        refine x_get E hP eB.1 rfl cl6_in 16 (by decide) wf_Mo_43 rfl d_Mo_lay_147 ?_
                        refine lv_bipush (v := 24) hx hb d_Mo_lay_150 (by decide) ?_
                        refine lv_iload_n hx hb d_Mo_lay_152 rfl (lv_at hl 2 rfl) ?_
                        refine lv_imul hx hb d_Mo_lay_153 ?_
                        refine lv_iload_n hx hb d_Mo_lay_154 rfl (lv_at hl 0 rfl) ?_
                        refine lv_iadd hx hb d_Mo_lay_155 ?_
                        refine x_top (y := nI (24 * i + b)) (by exact (congrArg (· + nI b) (pk_mul 24 i)).trans (nI_add (24 * i) b)) ?_
                        refine x_zald E hP eB.2.2.2.2.2.2.2.2.2.2.2.2.1 (j := 24 * i + b) rfl (by omega) (by decide) d_Mo_lay_156 ?_
                        refine lv_if_eq (tgt := 164) hx hb d_Mo_lay_157 (by decide) (fun c157 => ?_) (fun c157 => ?_)
                        · refine lv_iconst (v := 0) hx hb d_Mo_lay_164 (by decide) ?_
                          refine x_zast E hP hD hS eB.2.2.2.2.2.2.2.2.2.2.2.2.1 (j := 24 * a + b) rfl (by omega) (by decide) rfl d_Mo_lay_165 (fun w151 H locs hU151 hP hD hS => ?_)
                          have eB : xMo g w151 q h ad s0 s1 s2 s3 (nI m9) s5 s6 f0 f1 f2 f3 f4 f5 f6 f7 f8 f9 f10 (upd V (24 * a + b) 0) f12 f13 f14 f15 f16 := eB.a11 hU151
                          have hQ := hQ.up hU151 (by omega)
                          refine lv_iinc (v := nI (b + 1)) (lv' := [(3, .int (nI (b + 1))), (2, .int (nI a)), (1, .int (nI i)), (0, .ref h)]) hx hb d_Mo_lay_166 hl (k := 0) rfl (nI_1 b) (by decide) rfl (fun ls hl => ?_)
                          refine lv_goto (tgt := 100) hx hb d_Mo_lay_169 (by decide) ?_
                          have e7 : upd V (24 * a + b) 0 = it (mo_w3 i a) (b + 1) (it (mo_w2 m9 i) a (it (mo_w1 m9) i (it (mo_l1 f7 f10 m9) m9 Lz))) := by rw [eV, mo_w3, mo_v3, if_pos c129, if_neg c143, if_pos c157]
                          rw [e7] at eB
                          exact ih3 (b + 1) _ _ _ _ (by omega) (by omega) hl hP hD hS hQ eB
                        · refine lv_iconst (v := 1) hx hb d_Mo_lay_160 (by decide) ?_
                          refine lv_goto (tgt := 165) hx hb d_Mo_lay_161 (by decide) ?_
                          refine x_zast E hP hD hS eB.2.2.2.2.2.2.2.2.2.2.2.2.1 (j := 24 * a + b) rfl (by omega) (by decide) rfl d_Mo_lay_165 (fun w151 H locs hU151 hP hD hS => ?_)
                          have eB : xMo g w151 q h ad s0 s1 s2 s3 (nI m9) s5 s6 f0 f1 f2 f3 f4 f5 f6 f7 f8 f9 f10 (upd V (24 * a + b) 1) f12 f13 f14 f15 f16 := eB.a11 hU151
                          have hQ := hQ.up hU151 (by omega)
                          refine lv_iinc (v := nI (b + 1)) (lv' := [(3, .int (nI (b + 1))), (2, .int (nI a)), (1, .int (nI i)), (0, .ref h)]) hx hb d_Mo_lay_166 hl (k := 0) rfl (nI_1 b) (by decide) rfl (fun ls hl => ?_)
                          refine lv_goto (tgt := 100) hx hb d_Mo_lay_169 (by decide) ?_
                          have e7 : upd V (24 * a + b) 1 = it (mo_w3 i a) (b + 1) (it (mo_w2 m9 i) a (it (mo_w1 m9) i (it (mo_l1 f7 f10 m9) m9 Lz))) := by rw [eV, mo_w3, mo_v3, if_pos c129, if_neg c143, if_neg c157]
                          rw [e7] at eB
                          exact ih3 (b + 1) _ _ _ _ (by omega) (by omega) hl hP hD hS hQ eB
              have eB : xMo g _ q h ad s0 s1 s2 s3 (nI m9) s5 s6 f0 f1 f2 f3 f4 f5 f6 f7 f8 f9 f10 (it (mo_w3 i a) 0 (it (mo_w2 m9 i) a (it (mo_w1 m9) i (it (mo_l1 f7 f10 m9) m9 Lz)))) f12 f13 f14 f15 f16 := eB
              exact lb3 (m9 + 1) 0 _ _ _ _ (by omega) (by omega) hl hP hD hS hQ eB
        have eB : xMo g _ q h ad s0 s1 s2 s3 (nI m9) s5 s6 f0 f1 f2 f3 f4 f5 f6 f7 f8 f9 f10 (it (mo_w2 m9 i) 0 (it (mo_w1 m9) i (it (mo_l1 f7 f10 m9) m9 Lz))) f12 f13 f14 f15 f16 := eB
        exact lb2 (m9 + 1) 0 _ _ _ _ (by omega) (by omega) hl hP hD hS hQ eB
  have la1 : ∀ (fu i : Nat) (Lz : Nat → Int32) (v1 : va_W) (H : Heap) (locs : List Loc) (ls : Array Slot), (m9 < i + fu) → (i ≤ m9) → (∀ j, j < 576 → Lz j = 0) → (lv_has ls 4 [(1, .int (nI i)), (0, .ref h)]) → (va_P (xD g) vwCl v1 H) → (va_D (xA b0) v1) → (va_S (xA b0) s.heap H locs) → (xQ q (q + 18) ws v1) → (xMo g v1 q h ad s0 s1 s2 s3 (nI m9) s5 s6 f0 f1 f2 f3 f4 f5 f6 f7 f8 f9 f10 (it (mo_l1 f7 f10 m9) i Lz) f12 f13 f14 f15 f16) → W p l e (rmL 2) s m ([.ref h] : List Value).toArray below meth c H locs 0 0 (MQ below (va_Qv (fun u => xQ q (q + 18) ws u ∧ ∃ Lz, (∀ j, j < 576 → Lz j = 0) ∧ xMo g u q h ad s0 s1 s2 s3 (nI m9) s5 s6 f0 f1 f2 f3 f4 f5 f6 f7 f8 f9 f10 (mo_lay f7 f10 m9 Lz) f12 f13 f14 f15 f16) (fun u t => va_P (xD g) vwCl u t.heap ∧ va_D (xA b0) u) (xA b0)) ([.ref h] : List Value).toArray s 0 0 (xA b0)) (F0 m 24 ls []) := by
    intro fu
    induction fu with
    | zero =>
      intro i Lz v1 H locs ls hk hi hz hl hP hD hS hQ eB
      omega
    | succ fu ih =>
      intro i Lz v1 H locs ls hk hi hz hl hP hD hS hQ eB
      refine lv_iload_n hx hb d_Mo_lay_24 rfl (lv_at hl 0 rfl) ?_
      refine lv_aload_n hx hb d_Mo_lay_25 rfl (lv_at hl 1 rfl) ?_
      refine x_get E hP eB.1 rfl cl6_in 10 (by decide) wf_Mo_101 rfl d_Mo_lay_26 ?_
      refine lv_icmp_ge (tgt := 78) hx hb d_Mo_lay_29 (by decide) (fun c29 => ?_) (fun c29 => ?_)
      · have hi9 : m9 ≤ i := (nI_leI (by omega) (by omega)).mp c29
        refine lv_iconst (v := 0) hx hb d_Mo_lay_78 (by decide) ?_
        refine lv_istore_n (lv' := [(1, .int 0), (0, .ref h)]) hx hb d_Mo_lay_79 rfl hl (by decide) rfl (fun ls hl => ?_)
        rw [show i = m9 by omega] at eB
        have eB : xMo g _ q h ad s0 s1 s2 s3 (nI m9) s5 s6 f0 f1 f2 f3 f4 f5 f6 f7 f8 f9 f10 (it (mo_w1 m9) 0 (it (mo_l1 f7 f10 m9) m9 Lz)) f12 f13 f14 f15 f16 := eB
        exact lb1 (m9 + 1) 0 Lz _ _ _ _ (by omega) (by omega) hz hl hP hD hS hQ eB
      · have hi9 : i < m9 := Nat.not_le.mp fun h => c29 (nI_le h (by omega))
        refine lv_iconst (v := 0) hx hb d_Mo_lay_32 (by decide) ?_
        refine lv_istore_n (lv' := [(2, .int 0), (1, .int (nI i)), (0, .ref h)]) hx hb d_Mo_lay_33 rfl hl (by decide) rfl (fun ls hl => ?_)
        have la2 : ∀ (fv j : Nat)  (v2 : va_W) (H : Heap) (locs : List Loc) (ls : Array Slot), (2 < j + fv) → (j ≤ 2) → (lv_has ls 4 [(2, .int (nI j)), (1, .int (nI i)), (0, .ref h)]) → (va_P (xD g) vwCl v2 H) → (va_D (xA b0) v2) → (va_S (xA b0) s.heap H locs) → (xQ q (q + 18) ws v2) → (xMo g v2 q h ad s0 s1 s2 s3 (nI m9) s5 s6 f0 f1 f2 f3 f4 f5 f6 f7 f8 f9 f10 (it (mo_l2 f7 f10 m9 i) j (it (mo_l1 f7 f10 m9) i Lz)) f12 f13 f14 f15 f16) → W p l e (rmL 2) s m ([.ref h] : List Value).toArray below meth c H locs 0 0 (MQ below (va_Qv (fun u => xQ q (q + 18) ws u ∧ ∃ Lz, (∀ j, j < 576 → Lz j = 0) ∧ xMo g u q h ad s0 s1 s2 s3 (nI m9) s5 s6 f0 f1 f2 f3 f4 f5 f6 f7 f8 f9 f10 (mo_lay f7 f10 m9 Lz) f12 f13 f14 f15 f16) (fun u t => va_P (xD g) vwCl u t.heap ∧ va_D (xA b0) u) (xA b0)) ([.ref h] : List Value).toArray s 0 0 (xA b0)) (F0 m 34 ls []) := by
          intro fv
          induction fv with
          | zero =>
            intro j v2 H locs ls hk hj hl hP hD hS hQ eB
            omega
          | succ fv ih2 =>
            intro j v2 H locs ls hk hj hl hP hD hS hQ eB
            have eV : it (mo_l2 f7 f10 m9 i) (j + 1) (it (mo_l1 f7 f10 m9) i Lz) = mo_l2 f7 f10 m9 i j (it (mo_l2 f7 f10 m9 i) j (it (mo_l1 f7 f10 m9) i Lz)) := rfl
            generalize eV0 : it (mo_l2 f7 f10 m9 i) j (it (mo_l1 f7 f10 m9) i Lz) = V at eB eV
            refine lv_iload_n hx hb d_Mo_lay_34 rfl (lv_at hl 0 rfl) ?_
            refine lv_iconst (v := 2) hx hb d_Mo_lay_35 (by decide) ?_
            refine lv_icmp_ge (tgt := 72) hx hb d_Mo_lay_36 (by decide) (fun c36 => ?_) (fun c36 => ?_)
            · have hj9 : 2 ≤ j := (nI_leI (a := 2) (by decide) (by omega)).mp c36
              refine lv_iinc (v := nI (i + 1)) (lv' := [(1, .int (nI (i + 1))), (2, .int (nI j)), (0, .ref h)]) hx hb d_Mo_lay_72 hl (k := 1) rfl (nI_1 i) (by decide) rfl (fun ls hl => ?_)
              refine lv_goto (tgt := 24) hx hb d_Mo_lay_75 (by decide) ?_
              rw [← eV0, show j = 2 by omega] at eB
              have eB : xMo g _ q h ad s0 s1 s2 s3 (nI m9) s5 s6 f0 f1 f2 f3 f4 f5 f6 f7 f8 f9 f10 (it (mo_l1 f7 f10 m9) (i + 1) Lz) f12 f13 f14 f15 f16 := eB
              exact ih (i + 1) Lz _ _ _ _ (by omega) (by omega) hz (lv_sub hl [0, 2] rfl) hP hD hS hQ eB
            · have hj9 : j < 2 := Nat.not_le.mp fun h => c36 (nI_le (a := 2) h (by omega))
              refine lv_aload_n hx hb d_Mo_lay_39 rfl (lv_at hl 2 rfl) ?_
              refine lv_iload_n hx hb d_Mo_lay_40 rfl (lv_at hl 1 rfl) ?_
              refine lv_iload_n hx hb d_Mo_lay_41 rfl (lv_at hl 0 rfl) ?_
              refine x_cRi (As := [.int (nI i), .int (nI j)]) (rest := []) E (c_Mo_target l g b0 _ eB hm9 (nI i) (nI j) i j rfl rfl (by omega) (by omega)) wy_Mo_target wl_Mo_113 hP hD hS eB.1 rfl hl.1 ⟨by decide, by decide⟩ ⟨Nat.le_refl _, Nat.le_refl _⟩ rfl (Nat.le_of_ble_eq_true rfl) d_Mo_lay_42 (fun r42 hr42 => ?_)
              subst hr42
              refine lv_iconst (v := (-1)) hx hb d_Mo_lay_45 (by decide) ?_
              refine lv_icmp_eq (tgt := 66) hx hb d_Mo_lay_46 (by decide) (fun c46 => ?_) (fun c46 => ?_)
              · refine lv_iinc (v := nI (j + 1)) (lv' := [(2, .int (nI (j + 1))), (1, .int (nI i)), (0, .ref h)]) hx hb d_Mo_lay_66 hl (k := 0) rfl (nI_1 j) (by decide) rfl (fun ls hl => ?_)
                refine lv_goto (tgt := 34) hx hb d_Mo_lay_69 (by decide) ?_
                have e7 : V = it (mo_l2 f7 f10 m9 i) (j + 1) (it (mo_l1 f7 f10 m9) i Lz) := by rw [eV, mo_l2, if_pos c46]
                rw [e7] at eB
                exact ih2 (j + 1) _ _ _ _ (by omega) (by omega) hl hP hD hS hQ eB
              · obtain ⟨b7, hb6, hb7⟩ := (mo_tg_in f7 f10 m9 i j).resolve_left c46
                refine lv_aload_n hx hb d_Mo_lay_49 rfl (lv_at hl 2 rfl) ?_
                refine x_get E hP eB.1 rfl cl6_in 16 (by decide) wf_Mo_43 rfl d_Mo_lay_50 ?_
                refine lv_bipush (v := 24) hx hb d_Mo_lay_53 (by decide) ?_
                refine lv_iload_n hx hb d_Mo_lay_55 rfl (lv_at hl 1 rfl) ?_
                refine lv_imul hx hb d_Mo_lay_56 ?_
                refine x_top (y := nI (24 * i)) (pk_mul 24 i) ?_
                refine lv_aload_n hx hb d_Mo_lay_57 rfl (lv_at hl 2 rfl) ?_
                refine lv_iload_n hx hb d_Mo_lay_58 rfl (lv_at hl 1 rfl) ?_
                refine lv_iload_n hx hb d_Mo_lay_59 rfl (lv_at hl 0 rfl) ?_
                refine x_cRi (As := [.int (nI i), .int (nI j)]) (rest := [.int (nI (24 * i)), .ref (ad 11)]) E (c_Mo_target l g b0 _ eB hm9 (nI i) (nI j) i j rfl rfl (by omega) (by omega)) wy_Mo_target wl_Mo_113 hP hD hS eB.1 rfl hl.1 ⟨by decide, by decide⟩ ⟨Nat.le_refl _, Nat.le_refl _⟩ rfl (Nat.le_of_ble_eq_true rfl) d_Mo_lay_60 (fun r60 hr60 => ?_)
                subst hr60
                refine lv_iadd hx hb d_Mo_lay_63 ?_
                refine x_top (y := nI (24 * i + b7)) (by rw [hb7]; exact nI_add (24 * i) b7) ?_
                refine lv_iconst (v := 1) hx hb d_Mo_lay_64 (by decide) ?_
                refine x_zast E hP hD hS eB.2.2.2.2.2.2.2.2.2.2.2.2.1 (j := 24 * i + b7) rfl (by omega) (by decide) rfl d_Mo_lay_65 (fun w103 H locs hU103 hP hD hS => ?_)
                have eB : xMo g w103 q h ad s0 s1 s2 s3 (nI m9) s5 s6 f0 f1 f2 f3 f4 f5 f6 f7 f8 f9 f10 (upd V (24 * i + b7) 1) f12 f13 f14 f15 f16 := eB.a11 hU103
                have hQ := hQ.up hU103 (by omega)
                refine lv_iinc (v := nI (j + 1)) (lv' := [(2, .int (nI (j + 1))), (1, .int (nI i)), (0, .ref h)]) hx hb d_Mo_lay_66 hl (k := 0) rfl (nI_1 j) (by decide) rfl (fun ls hl => ?_)
                refine lv_goto (tgt := 34) hx hb d_Mo_lay_69 (by decide) ?_
                have e7 : upd V (24 * i + b7) 1 = it (mo_l2 f7 f10 m9 i) (j + 1) (it (mo_l1 f7 f10 m9) i Lz) := by rw [eV, mo_l2, if_neg c46, hb7, nI_clamp (by omega)]
                rw [e7] at eB
                exact ih2 (j + 1) _ _ _ _ (by omega) (by omega) hl hP hD hS hQ eB
        have eB : xMo g _ q h ad s0 s1 s2 s3 (nI m9) s5 s6 f0 f1 f2 f3 f4 f5 f6 f7 f8 f9 f10 (it (mo_l2 f7 f10 m9 i) 0 (it (mo_l1 f7 f10 m9) i Lz)) f12 f13 f14 f15 f16 := eB
        exact la2 3 0 _ _ _ _ (by omega) (by omega) hl hP hD hS hQ eB
  have l0 : ∀ (fu i : Nat) (Lz : Nat → Int32) (v1 : va_W) (H : Heap) (locs : List Loc) (ls : Array Slot), (576 < i + fu) → (i ≤ 576) → (∀ j, j < i → Lz j = 0) → (lv_has ls 4 [(1, .int (nI i)), (0, .ref h)]) → (va_P (xD g) vwCl v1 H) → (va_D (xA b0) v1) → (va_S (xA b0) s.heap H locs) → (xQ q (q + 18) ws v1) → (xMo g v1 q h ad s0 s1 s2 s3 (nI m9) s5 s6 f0 f1 f2 f3 f4 f5 f6 f7 f8 f9 f10 Lz f12 f13 f14 f15 f16) → W p l e (rmL 2) s m ([.ref h] : List Value).toArray below meth c H locs 0 0 (MQ below (va_Qv (fun u => xQ q (q + 18) ws u ∧ ∃ Lz, (∀ j, j < 576 → Lz j = 0) ∧ xMo g u q h ad s0 s1 s2 s3 (nI m9) s5 s6 f0 f1 f2 f3 f4 f5 f6 f7 f8 f9 f10 (mo_lay f7 f10 m9 Lz) f12 f13 f14 f15 f16) (fun u t => va_P (xD g) vwCl u t.heap ∧ va_D (xA b0) u) (xA b0)) ([.ref h] : List Value).toArray s 0 0 (xA b0)) (F0 m 2 ls []) := by
    intro fu
    induction fu with
    | zero =>
      intro i Lz v1 H locs ls hk hi hz hl hP hD hS hQ eB
      omega
    | succ fu ih =>
      intro i Lz v1 H locs ls hk hi hz hl hP hD hS hQ eB
      refine lv_iload_n hx hb d_Mo_lay_2 rfl (lv_at hl 0 rfl) ?_
      refine lv_sipush (v := 576) hx hb d_Mo_lay_3 (by decide) ?_
      refine lv_icmp_ge (tgt := 22) hx hb d_Mo_lay_6 (by decide) (fun c6 => ?_) (fun c6 => ?_)
      · have hi9 : 576 ≤ i := (nI_leI (a := 576) (by decide) (by omega)).mp c6
        refine lv_iconst (v := 0) hx hb d_Mo_lay_22 (by decide) ?_
        refine lv_istore_n (lv' := [(1, .int 0), (0, .ref h)]) hx hb d_Mo_lay_23 rfl hl (by decide) rfl (fun ls hl => ?_)
        have eB : xMo g _ q h ad s0 s1 s2 s3 (nI m9) s5 s6 f0 f1 f2 f3 f4 f5 f6 f7 f8 f9 f10 (it (mo_l1 f7 f10 m9) 0 Lz) f12 f13 f14 f15 f16 := eB
        exact la1 (m9 + 1) 0 Lz _ _ _ _ (by omega) (by omega) (fun j hj => hz j (by omega)) hl hP hD hS hQ eB
      · have hi9 : i < 576 := Nat.not_le.mp fun h => c6 (nI_le (a := 576) h (by omega))
        refine lv_aload_n hx hb d_Mo_lay_9 rfl (lv_at hl 1 rfl) ?_
        refine x_get E hP eB.1 rfl cl6_in 16 (by decide) wf_Mo_43 rfl d_Mo_lay_10 ?_
        refine lv_iload_n hx hb d_Mo_lay_13 rfl (lv_at hl 0 rfl) ?_
        refine lv_iconst (v := 0) hx hb d_Mo_lay_14 (by decide) ?_
        refine x_zast E hP hD hS eB.2.2.2.2.2.2.2.2.2.2.2.2.1 (j := i) rfl hi9 (by decide) rfl d_Mo_lay_15 (fun w51 H locs hU51 hP hD hS => ?_)
        have eB : xMo g w51 q h ad s0 s1 s2 s3 (nI m9) s5 s6 f0 f1 f2 f3 f4 f5 f6 f7 f8 f9 f10 (upd Lz i 0) f12 f13 f14 f15 f16 := eB.a11 hU51
        have hQ := hQ.up hU51 (by omega)
        refine lv_iinc (v := nI (i + 1)) (lv' := [(1, .int (nI (i + 1))), (0, .ref h)]) hx hb d_Mo_lay_16 hl (k := 0) rfl (nI_1 i) (by decide) rfl (fun ls hl => ?_)
        refine lv_goto (tgt := 2) hx hb d_Mo_lay_19 (by decide) ?_
        exact ih (i + 1) (upd Lz i 0) _ _ _ _ (by omega) (by omega) (fun j hj => by
            by_cases e9 : j = i
            · rw [e9, pk_us]
            · rw [pk_un e9]; exact hz j (by omega)) hl hP hD hS hQ eB
  exact l0 577 0 f11 _ _ _ _ (by omega) (by omega) (fun j hj => absurd hj (Nat.not_lt_zero j)) hl hP hD hS hQ eB
end
